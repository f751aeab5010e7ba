theorem dX8_map_284 : decode cX8_map 284 = .ok (.aload_n 0, 1) := by decide +kernel
theorem dX8_map_285 : decode cX8_map 285 = .ok (.iload_n 1, 1) := by decide +kernel
theorem dX8_map_286 : decode cX8_map 286 = .ok (.iload_n 2, 1) := by decide +kernel
theorem dX8_map_287 : decode cX8_map 287 = .ok (.iload_n 3, 1) := by decide +kernel
theorem dX8_map_288 : decode cX8_map 288 = .ok (.iload 4, 2) := by decide +kernel
theorem dX8_map_290 : decode cX8_map 290 = .ok (.iload 8, 2) := by decide +kernel
theorem dX8_map_292 : decode cX8_map 292 = .ok (.lload 9, 2) := by decide +kernel
set_option maxRecDepth 20000 in
theorem ggX8_map_X8_put : GoodIn wsX8_map wsX8_put := goodIn_r _ [68, 3, 30, 60, 21, 22, 23, 8, 24, 1, 25, 32, 33, 34, 35, 36, 37, 38, 39, 40, 41, 42, 31, 43, 44, 45, 46, 47, 48, 49, 50, 51, 52, 53, 54, 55, 13, 14, 15, 16, 2, 69, 70, 71, 72, 73, 74, 75, 76, 77, 78, 79, 80, 81, 56, 57, 58, 59, 82, 83, 84, 85, 86, 87, 4, 61, 62, 63, 64, 88, 89, 90, 91, 92, 93, 94, 95, 96, 97, 98, 99, 100, 101, 102, 103, 104, 105, 106, 107, 108, 109, 110, 111, 112, 147, 148, 149, 150, 151, 152, 153, 154, 155, 156, 157, 158, 159, 160, 161, 162, 163] rfl (by decide +kernel)
set_option maxRecDepth 20000 in
theorem gX8_map_X8_put : GoodIn wsX8_map (wsV RX8 151 RX8 yX8_put wsX8_put) := goodIn_app (goodIn_of _ (by decide +kernel)) ggX8_map_X8_put
theorem dX8_map_294 : decode cX8_map 294 = .ok (.invokevirtual 151, 3) := by decide +kernel
theorem dX8_map_297 : decode cX8_map 297 = .ok (.lreturn, 1) := by decide +kernel
theorem dX8_map_262 : decode cX8_map 262 = .ok (.iload_n 2, 1) := by decide +kernel
theorem dX8_map_263 : decode cX8_map 263 = .ok (.ifCond .eq 21, 3) := by decide +kernel
theorem dX8_map_266 : decode cX8_map 266 = .ok (.iload_n 2, 1) := by decide +kernel
theorem dX8_map_267 : decode cX8_map 267 = .ok (.bipush 6, 2) := by decide +kernel
theorem dX8_map_269 : decode cX8_map 269 = .ok (.if_icmp .eq 15, 3) := by decide +kernel
theorem dX8_map_272 : decode cX8_map 272 = .ok (.iload_n 2, 1) := by decide +kernel
theorem dX8_map_273 : decode cX8_map 273 = .ok (.bipush 7, 2) := by decide +kernel
theorem dX8_map_275 : decode cX8_map 275 = .ok (.if_icmp .eq 9, 3) := by decide +kernel
theorem dX8_map_278 : decode cX8_map 278 = .ok (.iload_n 2, 1) := by decide +kernel
theorem dX8_map_279 : decode cX8_map 279 = .ok (.bipush 8, 2) := by decide +kernel
theorem dX8_map_281 : decode cX8_map 281 = .ok (.if_icmp .ne 17, 3) := by decide +kernel
theorem dX8_map_298 : decode cX8_map 298 = .ok (.iload_n 2, 1) := by decide +kernel
theorem dX8_map_299 : decode cX8_map 299 = .ok (.iconst 1, 1) := by decide +kernel
theorem dX8_map_300 : decode cX8_map 300 = .ok (.if_icmp .ne 19, 3) := by decide +kernel
theorem dX8_map_319 : decode cX8_map 319 = .ok (.iload_n 2, 1) := by decide +kernel
theorem dX8_map_320 : decode cX8_map 320 = .ok (.iconst 2, 1) := by decide +kernel
theorem dX8_map_321 : decode cX8_map 321 = .ok (.if_icmp .ne 19, 3) := by decide +kernel
theorem dX8_map_340 : decode cX8_map 340 = .ok (.iload_n 2, 1) := by decide +kernel
theorem dX8_map_341 : decode cX8_map 341 = .ok (.iconst 3, 1) := by decide +kernel
theorem dX8_map_342 : decode cX8_map 342 = .ok (.if_icmp .ne 14, 3) := by decide +kernel
theorem dX8_map_356 : decode cX8_map 356 = .ok (.iload_n 2, 1) := by decide +kernel
theorem dX8_map_357 : decode cX8_map 357 = .ok (.iconst 4, 1) := by decide +kernel
theorem dX8_map_358 : decode cX8_map 358 = .ok (.if_icmp .ne 10, 3) := by decide +kernel
theorem dX8_map_368 : decode cX8_map 368 = .ok (.iload_n 2, 1) := by decide +kernel
theorem dX8_map_369 : decode cX8_map 369 = .ok (.iconst 5, 1) := by decide +kernel
theorem dX8_map_370 : decode cX8_map 370 = .ok (.if_icmp .ne 9, 3) := by decide +kernel
theorem dX8_map_379 : decode cX8_map 379 = .ok (.iload_n 2, 1) := by decide +kernel
theorem dX8_map_380 : decode cX8_map 380 = .ok (.bipush 21, 2) := by decide +kernel
theorem dX8_map_382 : decode cX8_map 382 = .ok (.if_icmp .ne 11, 3) := by decide +kernel
theorem dX8_map_432 : decode cX8_map 432 = .ok (.iload_n 2, 1) := by decide +kernel
theorem dX8_map_433 : decode cX8_map 433 = .ok (.bipush 19, 2) := by decide +kernel
theorem dX8_map_435 : decode cX8_map 435 = .ok (.if_icmp .ne 11, 3) := by decide +kernel
theorem dX8_map_446 : decode cX8_map 446 = .ok (.iload_n 2, 1) := by decide +kernel
theorem dX8_map_447 : decode cX8_map 447 = .ok (.bipush 20, 2) := by decide +kernel
theorem dX8_map_449 : decode cX8_map 449 = .ok (.if_icmp .ne 11, 3) := by decide +kernel
theorem dX8_map_460 : decode cX8_map 460 = .ok (.aload_n 0, 1) := by decide +kernel
theorem dX8_map_461 : decode cX8_map 461 = .ok (.iload_n 1, 1) := by decide +kernel
theorem dX8_map_462 : decode cX8_map 462 = .ok (.iload_n 2, 1) := by decide +kernel
theorem dX8_map_463 : decode cX8_map 463 = .ok (.iload_n 3, 1) := by decide +kernel
set_option maxRecDepth 20000 in
theorem ggX8_map_X8_over : GoodIn wsX8_map wsX8_over := goodIn_r _ [146, 4, 60, 21, 22, 23, 8, 24, 1, 25, 113, 114, 115, 116, 30, 56, 57, 58, 59, 32, 33, 34, 35, 36, 37, 38, 39, 40, 41, 42, 31, 43, 44, 45, 46, 47, 48, 49, 50, 51, 52, 53, 54, 55, 125, 126, 127, 128, 61, 62, 63, 64, 77, 78, 79, 80, 81, 82, 83, 84, 85, 86, 87, 88, 89, 90, 91, 92, 93, 94, 95, 147, 148, 149, 150, 151, 152, 153, 154, 155, 156, 157, 158, 159, 160, 161, 162, 163] rfl (by decide +kernel)
set_option maxRecDepth 20000 in
theorem gX8_map_X8_over : GoodIn wsX8_map (wsV RX8 179 RX8 yX8_over wsX8_over) := goodIn_app (goodIn_of _ (by decide +kernel)) ggX8_map_X8_over
theorem dX8_map_464 : decode cX8_map 464 = .ok (.invokevirtual 179, 3) := by decide +kernel
theorem dX8_map_467 : decode cX8_map 467 = .ok (.lreturn, 1) := by decide +kernel
theorem dX8_map_452 : decode cX8_map 452 = .ok (.aload_n 0, 1) := by decide +kernel
theorem dX8_map_453 : decode cX8_map 453 = .ok (.iload_n 1, 1) := by decide +kernel
theorem dX8_map_454 : decode cX8_map 454 = .ok (.iload 4, 2) := by decide +kernel
set_option maxRecDepth 20000 in
theorem ggX8_map_X8_allOf : GoodIn wsX8_map wsX8_allOf := goodIn_r _ [140, 141, 142, 1, 31, 30, 113, 114, 115, 8, 116, 21, 22, 23, 24, 25, 56, 57, 58, 59, 60, 32, 33, 34, 35, 36, 37, 38, 39, 40, 41, 42, 43, 44, 45, 46, 47, 48, 49, 50, 51, 52, 53, 54, 55, 125, 126, 127, 128, 61, 62, 63, 64, 26, 27, 28, 29, 13, 14, 15, 16, 2, 69, 70, 71, 72, 65, 66, 67, 68, 3, 73, 74, 75, 76, 77, 78, 79, 80, 81, 82, 83, 84, 85, 86, 87, 4, 88, 89, 90, 91, 92, 93, 94, 95, 96, 97, 98, 99, 100, 101, 102, 103, 104, 105, 106, 107, 108, 109, 110, 111, 112, 147, 148, 149, 150, 151, 152, 153, 154, 155, 156, 157, 158, 159, 160, 161, 162, 163] rfl (by decide +kernel)
set_option maxRecDepth 20000 in
theorem gX8_map_X8_allOf : GoodIn wsX8_map (wsV RX8 176 RX8 yX8_allOf wsX8_allOf) := goodIn_app (goodIn_of _ (by decide +kernel)) ggX8_map_X8_allOf
theorem dX8_map_456 : decode cX8_map 456 = .ok (.invokevirtual 176, 3) := by decide +kernel
theorem dX8_map_459 : decode cX8_map 459 = .ok (.lreturn, 1) := by decide +kernel
theorem dX8_map_438 : decode cX8_map 438 = .ok (.aload_n 0, 1) := by decide +kernel
theorem dX8_map_439 : decode cX8_map 439 = .ok (.iload_n 1, 1) := by decide +kernel
theorem dX8_map_440 : decode cX8_map 440 = .ok (.iload 4, 2) := by decide +kernel
set_option maxRecDepth 20000 in
theorem ggX8_map_X8_sameMap : GoodIn wsX8_map wsX8_sameMap := goodIn_r _ [136, 113, 114, 115, 8, 116, 30, 21, 22, 23, 24, 1, 25, 56, 57, 58, 59, 60, 32, 33, 34, 35, 36, 37, 38, 39, 40, 41, 42, 31, 43, 44, 45, 46, 47, 48, 49, 50, 51, 52, 53, 54, 55, 125, 126, 127, 128, 26, 27, 28, 29, 61, 62, 63, 64, 147, 148, 149, 150, 151, 152, 153, 154, 155, 156, 157, 158, 159, 160, 161, 162, 163] rfl (by decide +kernel)
set_option maxRecDepth 20000 in
theorem gX8_map_X8_sameMap : GoodIn wsX8_map (wsV RX8 173 RX8 yX8_sameMap wsX8_sameMap) := goodIn_app (goodIn_of _ (by decide +kernel)) ggX8_map_X8_sameMap
theorem dX8_map_442 : decode cX8_map 442 = .ok (.invokevirtual 173, 3) := by decide +kernel
theorem dX8_map_445 : decode cX8_map 445 = .ok (.lreturn, 1) := by decide +kernel
theorem dX8_map_412 : decode cX8_map 412 = .ok (.iload_n 2, 1) := by decide +kernel
theorem dX8_map_413 : decode cX8_map 413 = .ok (.bipush 13, 2) := by decide +kernel
theorem dX8_map_415 : decode cX8_map 415 = .ok (.if_icmp .le 17, 3) := by decide +kernel
theorem dX8_map_418 : decode cX8_map 418 = .ok (.iload_n 2, 1) := by decide +kernel
theorem dX8_map_419 : decode cX8_map 419 = .ok (.bipush 18, 2) := by decide +kernel
theorem dX8_map_421 : decode cX8_map 421 = .ok (.if_icmp .ge 11, 3) := by decide +kernel
theorem dX8_map_424 : decode cX8_map 424 = .ok (.aload_n 0, 1) := by decide +kernel
theorem dX8_map_425 : decode cX8_map 425 = .ok (.iload_n 1, 1) := by decide +kernel
theorem dX8_map_426 : decode cX8_map 426 = .ok (.iload_n 2, 1) := by decide +kernel
theorem dX8_map_427 : decode cX8_map 427 = .ok (.iload_n 3, 1) := by decide +kernel
set_option maxRecDepth 20000 in
theorem ggX8_map_X8_nearest : GoodIn wsX8_map wsX8_nearest := goodIn_r _ [132, 3, 21, 22, 23, 8, 24, 1, 25, 113, 114, 115, 116, 30, 56, 57, 58, 59, 60, 32, 33, 34, 35, 36, 37, 38, 39, 40, 41, 42, 31, 43, 44, 45, 46, 47, 48, 49, 50, 51, 52, 53, 54, 55, 125, 126, 127, 128, 147, 148, 149, 150, 151, 152, 153, 154, 155, 156, 157, 158, 159, 160, 161, 162, 163] rfl (by decide +kernel)
set_option maxRecDepth 20000 in
theorem gX8_map_X8_nearest : GoodIn wsX8_map (wsV RX8 169 RX8 yX8_nearest wsX8_nearest) := goodIn_app (goodIn_of _ (by decide +kernel)) ggX8_map_X8_nearest
theorem dX8_map_428 : decode cX8_map 428 = .ok (.invokevirtual 169, 3) := by decide +kernel
theorem dX8_map_431 : decode cX8_map 431 = .ok (.lreturn, 1) := by decide +kernel
theorem dX8_map_393 : decode cX8_map 393 = .ok (.iload_n 2, 1) := by decide +kernel
theorem dX8_map_394 : decode cX8_map 394 = .ok (.bipush 9, 2) := by decide +kernel
theorem dX8_map_396 : decode cX8_map 396 = .ok (.if_icmp .le 16, 3) := by decide +kernel
theorem dX8_map_399 : decode cX8_map 399 = .ok (.iload_n 2, 1) := by decide +kernel
theorem dX8_map_400 : decode cX8_map 400 = .ok (.bipush 14, 2) := by decide +kernel
theorem dX8_map_402 : decode cX8_map 402 = .ok (.if_icmp .ge 10, 3) := by decide +kernel
theorem dX8_map_405 : decode cX8_map 405 = .ok (.aload_n 0, 1) := by decide +kernel
theorem dX8_map_406 : decode cX8_map 406 = .ok (.iload_n 1, 1) := by decide +kernel
theorem dX8_map_407 : decode cX8_map 407 = .ok (.iload_n 2, 1) := by decide +kernel
set_option maxRecDepth 20000 in
theorem ggX8_map_X8_end : GoodIn wsX8_map wsX8_end := goodIn_r _ [124, 113, 114, 115, 8, 116, 30, 21, 22, 23, 24, 1, 25, 56, 57, 58, 59, 60, 32, 33, 34, 35, 36, 37, 38, 39, 40, 41, 42, 31, 43, 44, 45, 46, 47, 48, 49, 50, 51, 52, 53, 54, 55, 13, 14, 15, 16, 2, 125, 126, 127, 128, 77, 78, 79, 80, 81, 82, 83, 84, 85, 86, 87, 4, 61, 62, 63, 64, 88, 89, 90, 91, 92, 93, 94, 95, 147, 148, 149, 150, 151, 152, 153, 154, 155, 156, 157, 158, 159, 160, 161, 162, 163] rfl (by decide +kernel)
set_option maxRecDepth 20000 in
theorem gX8_map_X8_end : GoodIn wsX8_map (wsV RX8 165 RX8 yX8_end wsX8_end) := goodIn_app (goodIn_of _ (by decide +kernel)) ggX8_map_X8_end
theorem dX8_map_408 : decode cX8_map 408 = .ok (.invokevirtual 165, 3) := by decide +kernel
theorem dX8_map_411 : decode cX8_map 411 = .ok (.lreturn, 1) := by decide +kernel
theorem dX8_map_385 : decode cX8_map 385 = .ok (.aload_n 0, 1) := by decide +kernel
theorem dX8_map_386 : decode cX8_map 386 = .ok (.getfield 26, 3) := by decide +kernel
theorem dX8_map_389 : decode cX8_map 389 = .ok (.iload_n 1, 1) := by decide +kernel
theorem dX8_map_390 : decode cX8_map 390 = .ok (.iaload, 1) := by decide +kernel
theorem dX8_map_391 : decode cX8_map 391 = .ok (.i2l, 1) := by decide +kernel
theorem dX8_map_392 : decode cX8_map 392 = .ok (.lreturn, 1) := by decide +kernel
theorem dX8_map_373 : decode cX8_map 373 = .ok (.aload_n 0, 1) := by decide +kernel
theorem dX8_map_374 : decode cX8_map 374 = .ok (.iload_n 1, 1) := by decide +kernel
set_option maxRecDepth 20000 in
theorem ggX8_map_X8_cleared : GoodIn wsX8_map wsX8_cleared := goodIn_r _ [120, 30, 81, 1, 4, 60, 21, 22, 23, 8, 24, 25, 113, 114, 115, 116, 56, 57, 58, 59, 32, 33, 34, 35, 36, 37, 38, 39, 40, 41, 42, 31, 43, 44, 45, 46, 47, 48, 49, 50, 51, 52, 53, 54, 55, 61, 62, 63, 64, 88, 89, 90, 91, 147, 148, 149, 150, 151, 152, 153, 154, 155, 156, 157, 158, 159, 160, 161, 162, 163] rfl (by decide +kernel)
set_option maxRecDepth 20000 in
theorem gX8_map_X8_cleared : GoodIn wsX8_map (wsV RX8 161 RX8 yX8_cleared wsX8_cleared) := goodIn_app (goodIn_of _ (by decide +kernel)) ggX8_map_X8_cleared
theorem dX8_map_375 : decode cX8_map 375 = .ok (.invokevirtual 161, 3) := by decide +kernel
theorem dX8_map_378 : decode cX8_map 378 = .ok (.lreturn, 1) := by decide +kernel
theorem dX8_map_361 : decode cX8_map 361 = .ok (.aload_n 0, 1) := by decide +kernel
theorem dX8_map_362 : decode cX8_map 362 = .ok (.iload_n 1, 1) := by decide +kernel
set_option maxRecDepth 20000 in
theorem ggX8_map_X8_entries : GoodIn wsX8_map wsX8_entries := goodIn_r _ [116, 30, 21, 22, 23, 8, 24, 1, 25, 56, 57, 58, 59, 60, 32, 33, 34, 35, 36, 37, 38, 39, 40, 41, 42, 31, 43, 44, 45, 46, 47, 48, 49, 50, 51, 52, 53, 54, 55, 147, 148, 149, 150, 151, 152, 153, 154, 155, 156, 157, 158, 159, 160, 161, 162, 163] rfl (by decide +kernel)
set_option maxRecDepth 20000 in
theorem gX8_map_X8_entries : GoodIn wsX8_map (wsV RX8 158 RX8 yX8_entries wsX8_entries) := goodIn_app (goodIn_of _ (by decide +kernel)) ggX8_map_X8_entries
theorem dX8_map_363 : decode cX8_map 363 = .ok (.invokevirtual 158, 3) := by decide +kernel
theorem dX8_map_366 : decode cX8_map 366 = .ok (.i2l, 1) := by decide +kernel
theorem dX8_map_367 : decode cX8_map 367 = .ok (.lreturn, 1) := by decide +kernel
theorem dX8_map_345 : decode cX8_map 345 = .ok (.iload 8, 2) := by decide +kernel
theorem dX8_map_347 : decode cX8_map 347 = .ok (.ifCond .lt 7, 3) := by decide +kernel
theorem dX8_map_354 : decode cX8_map 354 = .ok (.lconst 0, 1) := by decide +kernel
theorem dX8_map_355 : decode cX8_map 355 = .ok (.lreturn, 1) := by decide +kernel
theorem dX8_map_350 : decode cX8_map 350 = .ok (.lconst 1, 1) := by decide +kernel
theorem dX8_map_351 : decode cX8_map 351 = .ok (.goto 4, 3) := by decide +kernel
theorem dX8_map_324 : decode cX8_map 324 = .ok (.iload 8, 2) := by decide +kernel
theorem dX8_map_326 : decode cX8_map 326 = .ok (.ifCond .lt 11, 3) := by decide +kernel
theorem dX8_map_337 : decode cX8_map 337 = .ok (.lload 9, 2) := by decide +kernel
theorem dX8_map_339 : decode cX8_map 339 = .ok (.lreturn, 1) := by decide +kernel
theorem dX8_map_329 : decode cX8_map 329 = .ok (.aload_n 0, 1) := by decide +kernel
theorem dX8_map_330 : decode cX8_map 330 = .ok (.iload 7, 2) := by decide +kernel
theorem dX8_map_332 : decode cX8_map 332 = .ok (.iload 8, 2) := by decide +kernel
set_option maxRecDepth 20000 in
theorem ggX8_map_X8_goes : GoodIn wsX8_map wsX8_goes := goodIn_r _ [80, 1, 30, 81, 60, 56, 57, 58, 8, 59, 82, 83, 84, 85, 86, 87, 4, 49, 50, 51, 61, 62, 63, 64, 88, 89, 90, 91, 92, 93, 94, 95, 147, 148, 149, 150, 151, 152, 153, 154, 155, 156, 157, 158, 159, 160, 161, 162, 163] rfl (by decide +kernel)
set_option maxRecDepth 20000 in
theorem gX8_map_X8_goes : GoodIn wsX8_map (wsV RX8 128 RX8 yX8_goes wsX8_goes) := goodIn_app (goodIn_of _ (by decide +kernel)) ggX8_map_X8_goes
theorem dX8_map_334 : decode cX8_map 334 = .ok (.invokevirtual 128, 3) := by decide +kernel
theorem dX8_map_303 : decode cX8_map 303 = .ok (.iload 8, 2) := by decide +kernel
theorem dX8_map_305 : decode cX8_map 305 = .ok (.ifCond .lt 11, 3) := by decide +kernel
theorem dX8_map_316 : decode cX8_map 316 = .ok (.lload 9, 2) := by decide +kernel
theorem dX8_map_318 : decode cX8_map 318 = .ok (.lreturn, 1) := by decide +kernel
theorem dX8_map_308 : decode cX8_map 308 = .ok (.aload_n 0, 1) := by decide +kernel
theorem dX8_map_309 : decode cX8_map 309 = .ok (.iload_n 1, 1) := by decide +kernel
theorem dX8_map_310 : decode cX8_map 310 = .ok (.iload 8, 2) := by decide +kernel
set_option maxRecDepth 20000 in
theorem ggX8_map_X8_touched : GoodIn wsX8_map wsX8_touched := goodIn_r _ [112, 1, 86, 30, 81, 21, 22, 23, 8, 24, 25, 56, 57, 58, 59, 60, 61, 62, 63, 64, 88, 89, 90, 91, 147, 148, 149, 150, 151, 152, 153, 154, 155, 156, 157, 158, 159, 160, 161, 162, 163] rfl (by decide +kernel)
set_option maxRecDepth 20000 in
theorem gX8_map_X8_touched : GoodIn wsX8_map (wsV RX8 155 RX8 yX8_touched wsX8_touched) := goodIn_app (goodIn_of _ (by decide +kernel)) ggX8_map_X8_touched
theorem dX8_map_312 : decode cX8_map 312 = .ok (.invokevirtual 155, 3) := by decide +kernel
theorem dX8_map_315 : decode cX8_map 315 = .ok (.pop, 1) := by decide +kernel
theorem dX8_map_210 : decode cX8_map 210 = .ok (.aload_n 0, 1) := by decide +kernel
theorem dX8_map_211 : decode cX8_map 211 = .ok (.iconst 0, 1) := by decide +kernel
theorem dX8_map_212 : decode cX8_map 212 = .ok (.putfield 60, 3) := by decide +kernel
theorem dX8_map_215 : decode cX8_map 215 = .ok (.aload_n 0, 1) := by decide +kernel
theorem dX8_map_216 : decode cX8_map 216 = .ok (.iload_n 1, 1) := by decide +kernel
set_option maxRecDepth 20000 in
theorem ggX8_map_X8_root : GoodIn wsX8_map wsX8_root := goodIn_r _ [24, 1, 25, 147, 148, 149, 150, 151, 152, 153, 154, 155, 156, 157, 158, 159, 160, 161, 162, 163] rfl (by decide +kernel)
set_option maxRecDepth 20000 in
theorem gX8_map_X8_root : GoodIn wsX8_map (wsV RX8 95 RX8 yX8_root wsX8_root) := goodIn_app (goodIn_of _ (by decide +kernel)) ggX8_map_X8_root
theorem dX8_map_217 : decode cX8_map 217 = .ok (.invokevirtual 95, 3) := by decide +kernel
theorem dX8_map_220 : decode cX8_map 220 = .ok (.istore 7, 2) := by decide +kernel
theorem dX8_map_240 : decode cX8_map 240 = .ok (.iload 8, 2) := by decide +kernel
theorem dX8_map_242 : decode cX8_map 242 = .ok (.ifCond .ge 9, 3) := by decide +kernel
theorem dX8_map_251 : decode cX8_map 251 = .ok (.aload_n 0, 1) := by decide +kernel
theorem dX8_map_252 : decode cX8_map 252 = .ok (.iload 7, 2) := by decide +kernel
theorem dX8_map_254 : decode cX8_map 254 = .ok (.iload 8, 2) := by decide +kernel
set_option maxRecDepth 20000 in
theorem ggX8_map_X8_value : GoodIn wsX8_map wsX8_value := goodIn_r _ [64, 60, 147, 148, 149, 150, 151, 152, 153, 154, 155, 156, 157, 158, 159, 160, 161, 162, 163] rfl (by decide +kernel)
set_option maxRecDepth 20000 in
theorem gX8_map_X8_value : GoodIn wsX8_map (wsV RX8 118 RX8 yX8_value wsX8_value) := goodIn_app (goodIn_of _ (by decide +kernel)) ggX8_map_X8_value
theorem dX8_map_256 : decode cX8_map 256 = .ok (.invokevirtual 118, 3) := by decide +kernel
theorem dX8_map_259 : decode cX8_map 259 = .ok (.i2l, 1) := by decide +kernel
theorem dX8_map_260 : decode cX8_map 260 = .ok (.lstore 9, 2) := by decide +kernel
theorem dX8_map_245 : decode cX8_map 245 = .ok (.ldc2_w 149, 3) := by decide +kernel
theorem dX8_map_248 : decode cX8_map 248 = .ok (.goto 12, 3) := by decide +kernel
theorem dX8_map_222 : decode cX8_map 222 = .ok (.iload_n 2, 1) := by decide +kernel
theorem dX8_map_223 : decode cX8_map 223 = .ok (.bipush 9, 2) := by decide +kernel
theorem dX8_map_225 : decode cX8_map 225 = .ok (.if_icmp .ge 12, 3) := by decide +kernel
theorem dX8_map_237 : decode cX8_map 237 = .ok (.iconst (-1), 1) := by decide +kernel
theorem dX8_map_238 : decode cX8_map 238 = .ok (.istore 8, 2) := by decide +kernel
theorem dX8_map_228 : decode cX8_map 228 = .ok (.aload_n 0, 1) := by decide +kernel
theorem dX8_map_229 : decode cX8_map 229 = .ok (.iload_n 1, 1) := by decide +kernel
theorem dX8_map_230 : decode cX8_map 230 = .ok (.iload_n 3, 1) := by decide +kernel
set_option maxRecDepth 20000 in
theorem ggX8_map_X8_at : GoodIn wsX8_map wsX8_at := goodIn_r _ [29, 30, 1, 31, 21, 22, 23, 8, 24, 25, 32, 33, 34, 35, 36, 37, 38, 39, 40, 41, 42, 43, 44, 45, 46, 47, 48, 49, 50, 51, 52, 53, 54, 55, 56, 57, 58, 59, 60, 147, 148, 149, 150, 151, 152, 153, 154, 155, 156, 157, 158, 159, 160, 161, 162, 163] rfl (by decide +kernel)
set_option maxRecDepth 20000 in
theorem gX8_map_X8_at : GoodIn wsX8_map (wsV RX8 146 RX8 yX8_at wsX8_at) := goodIn_app (goodIn_of _ (by decide +kernel)) ggX8_map_X8_at
theorem dX8_map_231 : decode cX8_map 231 = .ok (.invokevirtual 146, 3) := by decide +kernel
theorem dX8_map_234 : decode cX8_map 234 = .ok (.goto 4, 3) := by decide +kernel
theorem dX8_map_170 : decode cX8_map 170 = .ok (.iload_n 2, 1) := by decide +kernel
theorem dX8_map_171 : decode cX8_map 171 = .ok (.bipush 21, 2) := by decide +kernel
theorem dX8_map_173 : decode cX8_map 173 = .ok (.if_icmp .eq 9, 3) := by decide +kernel
theorem dX8_map_182 : decode cX8_map 182 = .ok (.aload_n 0, 1) := by decide +kernel
theorem dX8_map_183 : decode cX8_map 183 = .ok (.getfield 7, 3) := by decide +kernel
theorem dX8_map_186 : decode cX8_map 186 = .ok (.iload_n 1, 1) := by decide +kernel
theorem dX8_map_187 : decode cX8_map 187 = .ok (.iaload, 1) := by decide +kernel
theorem dX8_map_188 : decode cX8_map 188 = .ok (.iconst 1, 1) := by decide +kernel
theorem dX8_map_189 : decode cX8_map 189 = .ok (.if_icmp .ne 14, 3) := by decide +kernel
theorem dX8_map_203 : decode cX8_map 203 = .ok (.aload_n 0, 1) := by decide +kernel
theorem dX8_map_204 : decode cX8_map 204 = .ok (.iconst 5, 1) := by decide +kernel
set_option maxRecDepth 20000 in
theorem ggX8_map_X8_refuse : GoodIn wsX8_map wsX8_refuse := goodIn_r _ [16, 2, 147, 148, 149, 150, 151, 152, 153, 154, 155, 156, 157, 158, 159, 160, 161, 162, 163] rfl (by decide +kernel)
set_option maxRecDepth 20000 in
theorem gX8_map_X8_refuse : GoodIn wsX8_map (wsV RX8 68 RX8 yX8_refuse wsX8_refuse) := goodIn_app (goodIn_of _ (by decide +kernel)) ggX8_map_X8_refuse
theorem dX8_map_205 : decode cX8_map 205 = .ok (.invokevirtual 68, 3) := by decide +kernel
theorem dX8_map_208 : decode cX8_map 208 = .ok (.i2l, 1) := by decide +kernel
theorem dX8_map_209 : decode cX8_map 209 = .ok (.lreturn, 1) := by decide +kernel
theorem dX8_map_192 : decode cX8_map 192 = .ok (.iload_n 2, 1) := by decide +kernel
theorem dX8_map_193 : decode cX8_map 193 = .ok (.bipush 23, 2) := by decide +kernel
theorem dX8_map_195 : decode cX8_map 195 = .ok (.if_icmp .ne 15, 3) := by decide +kernel
theorem dX8_map_176 : decode cX8_map 176 = .ok (.iload_n 2, 1) := by decide +kernel
theorem dX8_map_177 : decode cX8_map 177 = .ok (.bipush 22, 2) := by decide +kernel
theorem dX8_map_179 : decode cX8_map 179 = .ok (.if_icmp .ne 13, 3) := by decide +kernel
theorem dX8_map_198 : decode cX8_map 198 = .ok (.iload 6, 2) := by decide +kernel
theorem dX8_map_200 : decode cX8_map 200 = .ok (.ifCond .ne 10, 3) := by decide +kernel
theorem dX8_map_154 : decode cX8_map 154 = .ok (.iload_n 2, 1) := by decide +kernel
theorem dX8_map_155 : decode cX8_map 155 = .ok (.bipush 14, 2) := by decide +kernel
theorem dX8_map_157 : decode cX8_map 157 = .ok (.bipush 17, 2) := by decide +kernel
set_option maxRecDepth 20000 in
theorem ggX8_map_X8_in : GoodIn wsX8_map wsX8_in := goodIn_r _ [12] rfl (by decide +kernel)
set_option maxRecDepth 20000 in
theorem gX8_map_X8_in : GoodIn wsX8_map (va_wsS RX8 64 yX8_in wsX8_in) := goodIn_app (goodIn_of _ (by decide +kernel)) ggX8_map_X8_in
theorem dX8_map_159 : decode cX8_map 159 = .ok (.invokestatic 64, 3) := by decide +kernel
theorem dX8_map_162 : decode cX8_map 162 = .ok (.ifCond .eq 8, 3) := by decide +kernel
theorem dX8_map_165 : decode cX8_map 165 = .ok (.iload 6, 2) := by decide +kernel
theorem dX8_map_167 : decode cX8_map 167 = .ok (.ifCond .eq 36, 3) := by decide +kernel
theorem dX8_map_133 : decode cX8_map 133 = .ok (.iload_n 2, 1) := by decide +kernel
theorem dX8_map_134 : decode cX8_map 134 = .ok (.bipush 10, 2) := by decide +kernel
theorem dX8_map_136 : decode cX8_map 136 = .ok (.bipush 13, 2) := by decide +kernel
theorem dX8_map_138 : decode cX8_map 138 = .ok (.invokestatic 64, 3) := by decide +kernel
theorem dX8_map_141 : decode cX8_map 141 = .ok (.ifCond .eq 13, 3) := by decide +kernel
theorem dX8_map_144 : decode cX8_map 144 = .ok (.aload_n 0, 1) := by decide +kernel
theorem dX8_map_145 : decode cX8_map 145 = .ok (.getfield 7, 3) := by decide +kernel
theorem dX8_map_148 : decode cX8_map 148 = .ok (.iload_n 1, 1) := by decide +kernel
theorem dX8_map_149 : decode cX8_map 149 = .ok (.iaload, 1) := by decide +kernel
theorem dX8_map_150 : decode cX8_map 150 = .ok (.iconst 1, 1) := by decide +kernel
theorem dX8_map_151 : decode cX8_map 151 = .ok (.if_icmp .eq 52, 3) := by decide +kernel
theorem dX8_map_106 : decode cX8_map 106 = .ok (.aload_n 0, 1) := by decide +kernel
theorem dX8_map_107 : decode cX8_map 107 = .ok (.getfield 7, 3) := by decide +kernel
theorem dX8_map_110 : decode cX8_map 110 = .ok (.iload_n 1, 1) := by decide +kernel
theorem dX8_map_111 : decode cX8_map 111 = .ok (.iaload, 1) := by decide +kernel
theorem dX8_map_112 : decode cX8_map 112 = .ok (.iconst 3, 1) := by decide +kernel
theorem dX8_map_113 : decode cX8_map 113 = .ok (.if_icmp .eq 13, 3) := by decide +kernel
theorem dX8_map_126 : decode cX8_map 126 = .ok (.iconst 1, 1) := by decide +kernel
theorem dX8_map_127 : decode cX8_map 127 = .ok (.goto 4, 3) := by decide +kernel
theorem dX8_map_131 : decode cX8_map 131 = .ok (.istore 6, 2) := by decide +kernel
theorem dX8_map_116 : decode cX8_map 116 = .ok (.aload_n 0, 1) := by decide +kernel
theorem dX8_map_117 : decode cX8_map 117 = .ok (.getfield 7, 3) := by decide +kernel
theorem dX8_map_120 : decode cX8_map 120 = .ok (.iload_n 1, 1) := by decide +kernel
theorem dX8_map_121 : decode cX8_map 121 = .ok (.iaload, 1) := by decide +kernel
theorem dX8_map_122 : decode cX8_map 122 = .ok (.iconst 4, 1) := by decide +kernel
theorem dX8_map_123 : decode cX8_map 123 = .ok (.if_icmp .ne 7, 3) := by decide +kernel
theorem dX8_map_130 : decode cX8_map 130 = .ok (.iconst 0, 1) := by decide +kernel
theorem dX8_map_77 : decode cX8_map 77 = .ok (.iload_n 2, 1) := by decide +kernel
theorem dX8_map_78 : decode cX8_map 78 = .ok (.iconst 0, 1) := by decide +kernel
theorem dX8_map_79 : decode cX8_map 79 = .ok (.bipush 25, 2) := by decide +kernel
theorem dX8_map_81 : decode cX8_map 81 = .ok (.invokestatic 64, 3) := by decide +kernel
theorem dX8_map_84 : decode cX8_map 84 = .ok (.ifCond .eq 15, 3) := by decide +kernel
theorem dX8_map_99 : decode cX8_map 99 = .ok (.aload_n 0, 1) := by decide +kernel
theorem dX8_map_100 : decode cX8_map 100 = .ok (.iconst 3, 1) := by decide +kernel
theorem dX8_map_101 : decode cX8_map 101 = .ok (.invokevirtual 68, 3) := by decide +kernel
theorem dX8_map_104 : decode cX8_map 104 = .ok (.i2l, 1) := by decide +kernel
theorem dX8_map_105 : decode cX8_map 105 = .ok (.lreturn, 1) := by decide +kernel
theorem dX8_map_87 : decode cX8_map 87 = .ok (.iload_n 2, 1) := by decide +kernel
theorem dX8_map_88 : decode cX8_map 88 = .ok (.bipush 20, 2) := by decide +kernel
theorem dX8_map_90 : decode cX8_map 90 = .ok (.if_icmp .ne 16, 3) := by decide +kernel
theorem dX8_map_93 : decode cX8_map 93 = .ok (.iload_n 1, 1) := by decide +kernel
theorem dX8_map_94 : decode cX8_map 94 = .ok (.iload 4, 2) := by decide +kernel
theorem dX8_map_96 : decode cX8_map 96 = .ok (.if_icmp .ne 10, 3) := by decide +kernel
theorem dX8_map_48 : decode cX8_map 48 = .ok (.aload_n 0, 1) := by decide +kernel
theorem dX8_map_49 : decode cX8_map 49 = .ok (.iload_n 1, 1) := by decide +kernel
set_option maxRecDepth 20000 in
theorem ggX8_map_X8_isMap : GoodIn wsX8_map wsX8_isMap := goodIn_r _ [20, 1, 147, 148, 149, 150, 151, 152, 153, 154, 155, 156, 157, 158, 159, 160, 161, 162, 163] rfl (by decide +kernel)
set_option maxRecDepth 20000 in
theorem gX8_map_X8_isMap : GoodIn wsX8_map (wsV RX8 143 RX8 yX8_isMap wsX8_isMap) := goodIn_app (goodIn_of _ (by decide +kernel)) ggX8_map_X8_isMap
theorem dX8_map_50 : decode cX8_map 50 = .ok (.invokevirtual 143, 3) := by decide +kernel
theorem dX8_map_53 : decode cX8_map 53 = .ok (.ifCond .eq 17, 3) := by decide +kernel
theorem dX8_map_70 : decode cX8_map 70 = .ok (.aload_n 0, 1) := by decide +kernel
theorem dX8_map_71 : decode cX8_map 71 = .ok (.iconst 2, 1) := by decide +kernel
theorem dX8_map_72 : decode cX8_map 72 = .ok (.invokevirtual 68, 3) := by decide +kernel
theorem dX8_map_75 : decode cX8_map 75 = .ok (.i2l, 1) := by decide +kernel
theorem dX8_map_76 : decode cX8_map 76 = .ok (.lreturn, 1) := by decide +kernel
theorem dX8_map_56 : decode cX8_map 56 = .ok (.iload 5, 2) := by decide +kernel
theorem dX8_map_58 : decode cX8_map 58 = .ok (.ifCond .eq 19, 3) := by decide +kernel
theorem dX8_map_61 : decode cX8_map 61 = .ok (.aload_n 0, 1) := by decide +kernel
theorem dX8_map_62 : decode cX8_map 62 = .ok (.iload 4, 2) := by decide +kernel
theorem dX8_map_64 : decode cX8_map 64 = .ok (.invokevirtual 143, 3) := by decide +kernel
theorem dX8_map_67 : decode cX8_map 67 = .ok (.ifCond .ne 10, 3) := by decide +kernel
theorem dX8_map_19 : decode cX8_map 19 = .ok (.aload_n 0, 1) := by decide +kernel
theorem dX8_map_20 : decode cX8_map 20 = .ok (.iload_n 1, 1) := by decide +kernel
set_option maxRecDepth 20000 in
theorem ggX8_map_X8_isThere : GoodIn wsX8_map wsX8_isThere := goodIn_r _ [9, 1, 10, 11, 8, 12, 147, 148, 149, 150, 151, 152, 153, 154, 155, 156, 157, 158, 159, 160, 161, 162, 163] rfl (by decide +kernel)
set_option maxRecDepth 20000 in
theorem gX8_map_X8_isThere : GoodIn wsX8_map (wsV RX8 80 RX8 yX8_isThere wsX8_isThere) := goodIn_app (goodIn_of _ (by decide +kernel)) ggX8_map_X8_isThere
theorem dX8_map_21 : decode cX8_map 21 = .ok (.invokevirtual 80, 3) := by decide +kernel
theorem dX8_map_24 : decode cX8_map 24 = .ok (.ifCond .eq 17, 3) := by decide +kernel
theorem dX8_map_41 : decode cX8_map 41 = .ok (.aload_n 0, 1) := by decide +kernel
theorem dX8_map_42 : decode cX8_map 42 = .ok (.iconst 1, 1) := by decide +kernel
theorem dX8_map_43 : decode cX8_map 43 = .ok (.invokevirtual 68, 3) := by decide +kernel
theorem dX8_map_46 : decode cX8_map 46 = .ok (.i2l, 1) := by decide +kernel
theorem dX8_map_47 : decode cX8_map 47 = .ok (.lreturn, 1) := by decide +kernel
theorem dX8_map_27 : decode cX8_map 27 = .ok (.iload 5, 2) := by decide +kernel
theorem dX8_map_29 : decode cX8_map 29 = .ok (.ifCond .eq 19, 3) := by decide +kernel
theorem dX8_map_32 : decode cX8_map 32 = .ok (.aload_n 0, 1) := by decide +kernel
theorem dX8_map_33 : decode cX8_map 33 = .ok (.iload 4, 2) := by decide +kernel
theorem dX8_map_35 : decode cX8_map 35 = .ok (.invokevirtual 80, 3) := by decide +kernel
theorem dX8_map_38 : decode cX8_map 38 = .ok (.ifCond .ne 10, 3) := by decide +kernel
theorem dX8_map_0 : decode cX8_map 0 = .ok (.iload_n 2, 1) := by decide +kernel
theorem dX8_map_1 : decode cX8_map 1 = .ok (.bipush 19, 2) := by decide +kernel
theorem dX8_map_3 : decode cX8_map 3 = .ok (.if_icmp .eq 9, 3) := by decide +kernel
theorem dX8_map_12 : decode cX8_map 12 = .ok (.iconst 1, 1) := by decide +kernel
theorem dX8_map_13 : decode cX8_map 13 = .ok (.goto 4, 3) := by decide +kernel
theorem dX8_map_17 : decode cX8_map 17 = .ok (.istore 5, 2) := by decide +kernel
theorem dX8_map_6 : decode cX8_map 6 = .ok (.iload_n 2, 1) := by decide +kernel
theorem dX8_map_7 : decode cX8_map 7 = .ok (.bipush 20, 2) := by decide +kernel
theorem dX8_map_9 : decode cX8_map 9 = .ok (.if_icmp .ne 7, 3) := by decide +kernel
theorem dX8_map_16 : decode cX8_map 16 = .ok (.iconst 0, 1) := by decide +kernel
set_option maxHeartbeats 4000000 in
set_option maxRecDepth 100000 in
/-- map, from 262 on -/
theorem c_X8_map_262 (l : Launch) (dC : Nat → ClassId) (dI : Nat → Nat → Nat) (h0 : Nat) (th : Int32) (q1 : Nat) (q2 : Nat) (q3 : Nat) (q4 : Nat) (q5 : Nat) (q6 : Nat) (q7 : Nat) (q8 : Nat) (q9 : Nat) (q10 : Nat) (q11 : Nat) (q13 : Nat) (q14 : Nat) (q15 : Nat) (c1 : ClassId) (c2 : ClassId) (c3 : ClassId) (c4 : ClassId) (c5 : ClassId) (c6 : ClassId) (c7 : ClassId) (c8 : ClassId) (c9 : ClassId) (c10 : ClassId) (c11 : ClassId) (c13 : ClassId) (c14 : ClassId) (c15 : ClassId) (a1 : Nat → Int32) (a2 : Nat → Int32) (a3 : Nat → Int32) (a4 : Nat → Int32) (a5 : Nat → Int32) (a6 : Nat → Int32) (a7 : Nat → Int32) (a8 : Nat → Int32) (a9 : Nat → Int32) (a10 : Nat → Int32) (a11 : Nat → Int32) (a13 : Nat → Int32) (a14 : Nat → Int32) (a15 : Nat → Int32) (v12 : Value) (v16 : Value) (dep : Nat → Nat) (p1 : Int32) (p2 : Int32) (p3 : Int32) (hF9 : rF a1 a8 dep) (hda : ∀ o : Nat, o < 16 → dep o < 17) (hMa : ∀ r : Nat, r < 16 → 1 ≤ (a1 r).toInt → (a1 r).toInt ≤ 3 → mOK (a1 r) (a4 r) (a3 r) (a6 r)) (x5 : Int32) (h5 : (x5.toInt = 0 ∧ ¬ p1.toInt = 19 ∧ ¬ p1.toInt = 20) ∨ (¬ x5.toInt = 0 ∧ (p1.toInt = 19 ∨ p1.toInt = 20))) (o : Nat) (ho9 : o < 16) (hd9 : dep o < 17) (hmo : 1 ≤ (a1 o).toInt ∧ (a1 o).toInt ≤ 4) (hmb : ¬ x5.toInt = 0 → mpP a1 p3) (x6 : Int32) (h22 : p1 = 22 → (a1 o).toInt = 1) (r : Nat) (hrt9 : rtN a1 a8 17 o = r) (hr9 : r < 16) (hkd9 : 1 ≤ (a1 r).toInt ∧ (a1 r).toInt ≤ 3) (hM9 : mOK (a1 r) (a4 r) (a3 r) (a6 r)) (nz : Nat) (tb : Nat) (hs9 : a3 r = nI nz) (hz9 : nz ≤ 1000) (hT9 : mKT (a1 r) (a6 r) nz tb) (hM8 : ∀ e : Nat, e ≤ nz → mOK (a1 r) (a4 r) (nI e) (a6 r)) (hn8 : (a3 r).toInt = (nz : Int)) (x8 : Int32) (hx8 : x8 = -1 ∨ ∃ j : Nat, j < nz ∧ x8 = nI j) (g9 : Int64) (p : Program) (e : Env) (s : State) (m : MethodId) (below : List Frame) (meth : Method) (c : Code) (A : Nat → Prop) (hx : p.tables.exec = Jvm.exec) (hb : c.code = cX8_map) (hr : meth.sig.returnType = (some .long)) (hts : ∀ w ∈ wsX8_map, w.before ([.ref h0, .int (nI o), .int p1, .int p2, .int p3]).toArray s = true) (hown : s.vm.findClass RX8 = some m.cls) (hlocks : meth.locks = false) (hml : c.maxLocals = 11) (hA : ∀ q : Nat, s.heap.size ≤ q → A q) (hK : va_K (dC, dI) vwCl [(c1, .int), (c2, .int), (c3, .int), (c4, .int), (c5, .int), (c6, .int), (c7, .int), (c8, .int), (c9, .int), (c10, .int), (c11, .int), (c13, .int), (c14, .int), (c15, .boolean)] s) (hD : va_D A [(q2, .inl (c2, 67200, .inl a2)), (q3, .inl (c3, 16, .inl a3)), (q4, .inl (c4, 16, .inl a4)), (q5, .inl (c5, 16, .inl a5)), (q6, .inl (c6, 16, .inl a6)), (q7, .inl (c7, 16, .inl a7)), (q9, .inl (c9, 16, .inl a9)), (q10, .inl (c10, 16, .inl a10)), (q11, .inl (c11, 16, .inl a11)), (q13, .inl (c13, 1000, .inl a13)), (q14, .inl (c14, 1000, .inl a14)), (q15, .inl (c15, 4096, .inl a15)), (h0, .inr (8, [.int 0, .ref q1, .ref q2, .ref q3, .ref q4, .ref q5, .ref q6, .ref q7, .ref q8, .ref q9, .ref q10, .ref q11, v12, .ref q13, .ref q14, .ref q15, v16])), (q1, .inl (c1, 16, .inl a1)), (q8, .inl (c8, 16, .inl a8))]) (ls : Array Slot) (H : Heap) (locs : List Loc) (hl : lv_has ls 11 [(9, .long g9), (8, .int x8), (7, .int (nI r)), (6, .int x6), (5, .int x5), (0, .ref h0), (1, .int (nI o)), (2, .int p1), (3, .int p2), (4, .int p3)]) (hP : va_P (dC, dI) vwCl [(q2, .inl (c2, 67200, .inl a2)), (q3, .inl (c3, 16, .inl a3)), (q4, .inl (c4, 16, .inl a4)), (q5, .inl (c5, 16, .inl a5)), (q6, .inl (c6, 16, .inl a6)), (q7, .inl (c7, 16, .inl a7)), (q9, .inl (c9, 16, .inl a9)), (q10, .inl (c10, 16, .inl a10)), (q11, .inl (c11, 16, .inl a11)), (q13, .inl (c13, 1000, .inl a13)), (q14, .inl (c14, 1000, .inl a14)), (q15, .inl (c15, 4096, .inl a15)), (h0, .inr (8, [.int 0, .ref q1, .ref q2, .ref q3, .ref q4, .ref q5, .ref q6, .ref q7, .ref q8, .ref q9, .ref q10, .ref q11, v12, .ref q13, .ref q14, .ref q15, v16])), (q1, .inl (c1, 16, .inl a1)), (q8, .inl (c8, 16, .inl a8))] H) (hS : va_S A s.heap H locs) : W p l e (headSpec wsX8_map ({ frames := 8, cells := 0, slots := 0, locals := 340 })).room s m ([.ref h0, .int (nI o), .int p1, .int p2, .int p3]).toArray below meth c H locs 0 0 (MQ below (va_Ql (fun (x : Int64) (u : Int32 × (Nat → Int32) × (Nat → Int32) × (Nat → Int32) × (Nat → Int32) × (Nat → Int32) × (Nat → Int32) × (Nat → Int32)) => ∃ r d : Nat, d ≤ 2000 ∧ rsR r d a2 a3 a6 a7 u.2.1 u.2.2.1 u.2.2.2.1 u.2.2.2.2.1 ∧ (r < 16 → 1 ≤ (a1 r).toInt → (a1 r).toInt ≤ 3 → mOK (a1 r) (a4 r) (u.2.2.1 r) (u.2.2.2.1 r))) (fun (u : Int32 × (Nat → Int32) × (Nat → Int32) × (Nat → Int32) × (Nat → Int32) × (Nat → Int32) × (Nat → Int32) × (Nat → Int32)) (t : State) => va_P (dC, dI) vwCl [(h0, .inr (8, [.int u.1, .ref q1, .ref q2, .ref q3, .ref q4, .ref q5, .ref q6, .ref q7, .ref q8, .ref q9, .ref q10, .ref q11, v12, .ref q13, .ref q14, .ref q15, v16])), (q1, .inl (c1, 16, .inl a1)), (q2, .inl (c2, 67200, .inl u.2.1)), (q3, .inl (c3, 16, .inl u.2.2.1)), (q4, .inl (c4, 16, .inl a4)), (q5, .inl (c5, 16, .inl a5)), (q6, .inl (c6, 16, .inl u.2.2.2.1)), (q7, .inl (c7, 16, .inl u.2.2.2.2.1)), (q8, .inl (c8, 16, .inl a8)), (q9, .inl (c9, 16, .inl a9)), (q10, .inl (c10, 16, .inl a10)), (q11, .inl (c11, 16, .inl a11)), (q13, .inl (c13, 1000, .inl u.2.2.2.2.2.1)), (q14, .inl (c14, 1000, .inl u.2.2.2.2.2.2.1)), (q15, .inl (c15, 4096, .inl u.2.2.2.2.2.2.2))] t.heap ∧ va_K (dC, dI) vwCl [(c1, .int), (c2, .int), (c3, .int), (c4, .int), (c5, .int), (c6, .int), (c7, .int), (c8, .int), (c9, .int), (c10, .int), (c11, .int), (c13, .int), (c14, .int), (c15, .boolean)] t ∧ va_D A [(h0, .inr (8, [.int u.1, .ref q1, .ref q2, .ref q3, .ref q4, .ref q5, .ref q6, .ref q7, .ref q8, .ref q9, .ref q10, .ref q11, v12, .ref q13, .ref q14, .ref q15, v16])), (q1, .inl (c1, 16, .inl a1)), (q2, .inl (c2, 67200, .inl u.2.1)), (q3, .inl (c3, 16, .inl u.2.2.1)), (q4, .inl (c4, 16, .inl a4)), (q5, .inl (c5, 16, .inl a5)), (q6, .inl (c6, 16, .inl u.2.2.2.1)), (q7, .inl (c7, 16, .inl u.2.2.2.2.1)), (q8, .inl (c8, 16, .inl a8)), (q9, .inl (c9, 16, .inl a9)), (q10, .inl (c10, 16, .inl a10)), (q11, .inl (c11, 16, .inl a11)), (q13, .inl (c13, 1000, .inl u.2.2.2.2.2.1)), (q14, .inl (c14, 1000, .inl u.2.2.2.2.2.2.1)), (q15, .inl (c15, 4096, .inl u.2.2.2.2.2.2.2))]) A) ([.ref h0, .int (nI o), .int p1, .int p2, .int p3]).toArray s 0 0 A) (F0 m 262 ls []) := by
  have hl : lv_has ls 11 [(9, .long g9), (8, .int x8), (7, .int (nI r)), (6, .int x6), (5, .int x5), (0, .ref h0), (1, .int (nI o)), (2, .int p1), (3, .int p2), (4, .int p3)] := hl
  have hw0_ := hts (.fieldLink RX8 26 "KeyAtlasModel" "table" "[I") (List.mem_of_getElem? (l := wsX8_map) (i := 4) rfl)
  have hi0_ : ∀ w ∈ u_ws RX8 TX8 17, w ∈ wsX8_map := fun w h => List.mem_cons_of_mem _ (List.mem_append_right _ h)
  refine w_join (α := Array Slot × Heap × List Loc) (hh := fun jv => jv.2.1) (lc := fun jv => jv.2.2) (F := fun jv => F0 m 284 (jv.1) []) (Pre := fun jv => lv_has (jv.1) 11 [(9, .long g9), (8, .int x8), (7, .int (nI r)), (6, .int x6), (5, .int x5), (0, .ref h0), (1, .int (nI o)), (2, .int p1), (3, .int p2), (4, .int p3)] ∧ va_P (dC, dI) vwCl [(q2, .inl (c2, 67200, .inl a2)), (q3, .inl (c3, 16, .inl a3)), (q4, .inl (c4, 16, .inl a4)), (q5, .inl (c5, 16, .inl a5)), (q6, .inl (c6, 16, .inl a6)), (q7, .inl (c7, 16, .inl a7)), (q9, .inl (c9, 16, .inl a9)), (q10, .inl (c10, 16, .inl a10)), (q11, .inl (c11, 16, .inl a11)), (q13, .inl (c13, 1000, .inl a13)), (q14, .inl (c14, 1000, .inl a14)), (q15, .inl (c15, 4096, .inl a15)), (h0, .inr (8, [.int 0, .ref q1, .ref q2, .ref q3, .ref q4, .ref q5, .ref q6, .ref q7, .ref q8, .ref q9, .ref q10, .ref q11, v12, .ref q13, .ref q14, .ref q15, v16])), (q1, .inl (c1, 16, .inl a1)), (q8, .inl (c8, 16, .inl a8))] (jv.2.1) ∧ va_S A s.heap (jv.2.1) (jv.2.2)) (fun jv ha9 => ?_) (fun jn284 => ?_)
  ·
    obtain ⟨ls, H, locs⟩ := jv
    obtain ⟨hl, hP, hS⟩ := ha9
    replace hl : lv_has ls 11 [(9, .long g9), (8, .int x8), (7, .int (nI r)), (6, .int x6), (5, .int x5), (0, .ref h0), (1, .int (nI o)), (2, .int p1), (3, .int p2), (4, .int p3)] := hl
    replace hP : va_P (dC, dI) vwCl [(q2, .inl (c2, 67200, .inl a2)), (q3, .inl (c3, 16, .inl a3)), (q4, .inl (c4, 16, .inl a4)), (q5, .inl (c5, 16, .inl a5)), (q6, .inl (c6, 16, .inl a6)), (q7, .inl (c7, 16, .inl a7)), (q9, .inl (c9, 16, .inl a9)), (q10, .inl (c10, 16, .inl a10)), (q11, .inl (c11, 16, .inl a11)), (q13, .inl (c13, 1000, .inl a13)), (q14, .inl (c14, 1000, .inl a14)), (q15, .inl (c15, 4096, .inl a15)), (h0, .inr (8, [.int 0, .ref q1, .ref q2, .ref q3, .ref q4, .ref q5, .ref q6, .ref q7, .ref q8, .ref q9, .ref q10, .ref q11, v12, .ref q13, .ref q14, .ref q15, v16])), (q1, .inl (c1, 16, .inl a1)), (q8, .inl (c8, 16, .inl a8))] H := hP
    replace hS : va_S A s.heap H locs := hS
    show W p l e _ s m _ below meth c H locs _ _ _ (F0 m 284 ls [])
    refine lv_aload_n hx hb dX8_map_284 rfl (lv_at hl 5 rfl) ?_
    refine lv_iload_n hx hb dX8_map_285 rfl (lv_at hl 6 rfl) ?_
    refine lv_iload_n hx hb dX8_map_286 rfl (lv_at hl 7 rfl) ?_
    refine lv_iload_n hx hb dX8_map_287 rfl (lv_at hl 8 rfl) ?_
    refine lv_iload hx hb dX8_map_288 (lv_at hl 9 rfl) ?_
    refine lv_iload hx hb dX8_map_290 (lv_at hl 1 rfl) ?_
    refine lv_lload hx hb dX8_map_292 (lv_at hl 0 rfl) ?_
    have hPc := hP.sub (ws' := [(h0, .inr (8, [.int 0, .ref q1, .ref q2, .ref q3, .ref q4, .ref q5, .ref q6, .ref q7, .ref q8, .ref q9, .ref q10, .ref q11, v12, .ref q13, .ref q14, .ref q15, v16])), (q1, .inl (c1, 16, .inl a1)), (q2, .inl (c2, 67200, .inl a2)), (q3, .inl (c3, 16, .inl a3)), (q4, .inl (c4, 16, .inl a4)), (q5, .inl (c5, 16, .inl a5)), (q6, .inl (c6, 16, .inl a6)), (q7, .inl (c7, 16, .inl a7)), (q8, .inl (c8, 16, .inl a8)), (q9, .inl (c9, 16, .inl a9)), (q10, .inl (c10, 16, .inl a10)), (q11, .inl (c11, 16, .inl a11)), (q15, .inl (c15, 4096, .inl a15))]) [12, 13, 0, 1, 2, 3, 4, 5, 14, 6, 7, 8, 11] rfl
    have hDc := hD.sub (ws' := [(h0, .inr (8, [.int 0, .ref q1, .ref q2, .ref q3, .ref q4, .ref q5, .ref q6, .ref q7, .ref q8, .ref q9, .ref q10, .ref q11, v12, .ref q13, .ref q14, .ref q15, v16])), (q1, .inl (c1, 16, .inl a1)), (q2, .inl (c2, 67200, .inl a2)), (q3, .inl (c3, 16, .inl a3)), (q4, .inl (c4, 16, .inl a4)), (q5, .inl (c5, 16, .inl a5)), (q6, .inl (c6, 16, .inl a6)), (q7, .inl (c7, 16, .inl a7)), (q8, .inl (c8, 16, .inl a8)), (q9, .inl (c9, 16, .inl a9)), (q10, .inl (c10, 16, .inl a10)), (q11, .inl (c11, 16, .inl a11)), (q15, .inl (c15, 4096, .inl a15))]) [12, 13, 0, 1, 2, 3, 4, 5, 14, 6, 7, 8, 11] (by decide) rfl
    have hKc := hK.sub (tys' := [(c1, .int), (c2, .int), (c3, .int), (c4, .int), (c5, .int), (c6, .int), (c7, .int), (c8, .int), (c9, .int), (c10, .int), (c11, .int), (c15, .boolean)]) [0, 1, 2, 3, 4, 5, 6, 7, 8, 9, 10, 13] rfl
    have hFc := va_free (wc := [(h0, .inr (8, [.int 0, .ref q1, .ref q2, .ref q3, .ref q4, .ref q5, .ref q6, .ref q7, .ref q8, .ref q9, .ref q10, .ref q11, v12, .ref q13, .ref q14, .ref q15, v16])), (q1, .inl (c1, 16, .inl a1)), (q2, .inl (c2, 67200, .inl a2)), (q3, .inl (c3, 16, .inl a3)), (q4, .inl (c4, 16, .inl a4)), (q5, .inl (c5, 16, .inl a5)), (q6, .inl (c6, 16, .inl a6)), (q7, .inl (c7, 16, .inl a7)), (q8, .inl (c8, 16, .inl a8)), (q9, .inl (c9, 16, .inl a9)), (q10, .inl (c10, 16, .inl a10)), (q11, .inl (c11, 16, .inl a11)), (q15, .inl (c15, 4096, .inl a15))]) hD hS hA [12, 13, 0, 1, 2, 3, 4, 5, 14, 6, 7, 8, 11] rfl
    refine va_calll (va_runV (As := [.int (nI o), .int p1, .int p2, .int p3, .int x8, .long g9]) (rest := []) ⟨hx, hb, hml, hown, hts⟩ (c_X8_put l  dC dI H.size h0 0 q1 q2 q3 q4 q5 q6 q7 q8 q9 q10 q11 q15 c1 c2 c3 c4 c5 c6 c7 c8 c9 c10 c11 c15 a1 a2 a3 a4 a5 a6 a7 a8 a9 a10 a11 a15 v12 (.ref q13) (.ref q14) v16 o dep r p1 p2 p3 x8 g9 ho9 hF9 hd9 hrt9 hM9 hkd9 (at_i hx8 hs9 hz9)) (cwV 6 hts gX8_map_X8_put rfl rfl rfl (by decide +kernel) ⟨(Nat.le_of_ble_eq_true rfl), (Nat.le_of_ble_eq_true rfl)⟩) ⟨pk_blind, va_recv hKc hPc (ci := 8) (q0 := 0) rfl rfl, pk_call hPc hKc hDc⟩ rfl rfl hl.1 rfl (lv_room (Nat.le_of_ble_eq_true rfl)) dX8_map_294 ⟨(Nat.le_of_ble_eq_true rfl), (Nat.le_of_ble_eq_true rfl)⟩) hS (fun q _ h => hFc q h) hFc (fun r_2 ur_2 t H1 locs ht hvm hw hB hz1 hk1 hS => ?_)
    try dsimp only at hw
    have jr_2 := hw
    obtain ⟨hP1, hK1, hD1⟩ := hB
    rw [ht] at hP1
    have hK1 := va_K.moved hvm.symm hK1
    obtain ⟨hP, hD⟩ := va_join (wr := [(q13, .inl (c13, 1000, .inl a13)), (q14, .inl (c14, 1000, .inl a14))]) (w1 := [(h0, .inr (8, [.int ur_2.1, .ref q1, .ref q2, .ref q3, .ref q4, .ref q5, .ref q6, .ref q7, .ref q8, .ref q9, .ref q10, .ref q11, v12, .ref q13, .ref q14, .ref q15, v16])), (q1, .inl (c1, 16, .inl a1)), (q2, .inl (c2, 67200, .inl ur_2.2.1)), (q3, .inl (c3, 16, .inl ur_2.2.2.1)), (q4, .inl (c4, 16, .inl a4)), (q5, .inl (c5, 16, .inl a5)), (q6, .inl (c6, 16, .inl ur_2.2.2.2.1)), (q7, .inl (c7, 16, .inl ur_2.2.2.2.2.1)), (q8, .inl (c8, 16, .inl a8)), (q9, .inl (c9, 16, .inl a9)), (q10, .inl (c10, 16, .inl a10)), (q11, .inl (c11, 16, .inl a11)), (q15, .inl (c15, 4096, .inl ur_2.2.2.2.2.2))]) hP hD [12, 13, 0, 1, 2, 3, 4, 5, 14, 6, 7, 8, 11] [9, 10] rfl rfl (by decide) (by decide) hk1 hFc hP1 hD1
    clear hk1 hz1 ht hPc hDc hKc hFc
    generalize H1 = H at hP hS ⊢
    replace hP : va_P (dC, dI) vwCl [(q13, .inl (c13, 1000, .inl a13)), (q14, .inl (c14, 1000, .inl a14)), (h0, .inr (8, [.int ur_2.1, .ref q1, .ref q2, .ref q3, .ref q4, .ref q5, .ref q6, .ref q7, .ref q8, .ref q9, .ref q10, .ref q11, v12, .ref q13, .ref q14, .ref q15, v16])), (q1, .inl (c1, 16, .inl a1)), (q2, .inl (c2, 67200, .inl ur_2.2.1)), (q3, .inl (c3, 16, .inl ur_2.2.2.1)), (q4, .inl (c4, 16, .inl a4)), (q5, .inl (c5, 16, .inl a5)), (q6, .inl (c6, 16, .inl ur_2.2.2.2.1)), (q7, .inl (c7, 16, .inl ur_2.2.2.2.2.1)), (q8, .inl (c8, 16, .inl a8)), (q9, .inl (c9, 16, .inl a9)), (q10, .inl (c10, 16, .inl a10)), (q11, .inl (c11, 16, .inl a11)), (q15, .inl (c15, 4096, .inl ur_2.2.2.2.2.2))] H := hP
    replace hD : va_D A [(q13, .inl (c13, 1000, .inl a13)), (q14, .inl (c14, 1000, .inl a14)), (h0, .inr (8, [.int ur_2.1, .ref q1, .ref q2, .ref q3, .ref q4, .ref q5, .ref q6, .ref q7, .ref q8, .ref q9, .ref q10, .ref q11, v12, .ref q13, .ref q14, .ref q15, v16])), (q1, .inl (c1, 16, .inl a1)), (q2, .inl (c2, 67200, .inl ur_2.2.1)), (q3, .inl (c3, 16, .inl ur_2.2.2.1)), (q4, .inl (c4, 16, .inl a4)), (q5, .inl (c5, 16, .inl a5)), (q6, .inl (c6, 16, .inl ur_2.2.2.2.1)), (q7, .inl (c7, 16, .inl ur_2.2.2.2.2.1)), (q8, .inl (c8, 16, .inl a8)), (q9, .inl (c9, 16, .inl a9)), (q10, .inl (c10, 16, .inl a10)), (q11, .inl (c11, 16, .inl a11)), (q15, .inl (c15, 4096, .inl ur_2.2.2.2.2.2))] := hD
    refine W.widen (k := 0) (n := 0) (Nat.le_of_ble_eq_true rfl) (Nat.le_of_ble_eq_true rfl) ?_
    refine W.eq (g2 := F0 m 297 ls [.long r_2]) rfl ?_
    obtain ⟨⟨d9, y1_, y2_⟩, y3_⟩ := jr_2
    have hP9 := hP.sub (ws' := [(h0, .inr (8, [.int ur_2.1, .ref q1, .ref q2, .ref q3, .ref q4, .ref q5, .ref q6, .ref q7, .ref q8, .ref q9, .ref q10, .ref q11, v12, .ref q13, .ref q14, .ref q15, v16])), (q1, .inl (c1, 16, .inl a1)), (q2, .inl (c2, 67200, .inl ur_2.2.1)), (q3, .inl (c3, 16, .inl ur_2.2.2.1)), (q4, .inl (c4, 16, .inl a4)), (q5, .inl (c5, 16, .inl a5)), (q6, .inl (c6, 16, .inl ur_2.2.2.2.1)), (q7, .inl (c7, 16, .inl ur_2.2.2.2.2.1)), (q8, .inl (c8, 16, .inl a8)), (q9, .inl (c9, 16, .inl a9)), (q10, .inl (c10, 16, .inl a10)), (q11, .inl (c11, 16, .inl a11)), (q13, .inl (c13, 1000, .inl a13)), (q14, .inl (c14, 1000, .inl a14)), (q15, .inl (c15, 4096, .inl ur_2.2.2.2.2.2))]) [2, 3, 4, 5, 6, 7, 8, 9, 10, 11, 12, 13, 0, 1, 14] rfl
    have hD9 := hD.sub (ws' := [(h0, .inr (8, [.int ur_2.1, .ref q1, .ref q2, .ref q3, .ref q4, .ref q5, .ref q6, .ref q7, .ref q8, .ref q9, .ref q10, .ref q11, v12, .ref q13, .ref q14, .ref q15, v16])), (q1, .inl (c1, 16, .inl a1)), (q2, .inl (c2, 67200, .inl ur_2.2.1)), (q3, .inl (c3, 16, .inl ur_2.2.2.1)), (q4, .inl (c4, 16, .inl a4)), (q5, .inl (c5, 16, .inl a5)), (q6, .inl (c6, 16, .inl ur_2.2.2.2.1)), (q7, .inl (c7, 16, .inl ur_2.2.2.2.2.1)), (q8, .inl (c8, 16, .inl a8)), (q9, .inl (c9, 16, .inl a9)), (q10, .inl (c10, 16, .inl a10)), (q11, .inl (c11, 16, .inl a11)), (q13, .inl (c13, 1000, .inl a13)), (q14, .inl (c14, 1000, .inl a14)), (q15, .inl (c15, 4096, .inl ur_2.2.2.2.2.2))]) [2, 3, 4, 5, 6, 7, 8, 9, 10, 11, 12, 13, 0, 1, 14] (by decide) rfl
    have hK9 := hK.sub (tys' := [(c1, .int), (c2, .int), (c3, .int), (c4, .int), (c5, .int), (c6, .int), (c7, .int), (c8, .int), (c9, .int), (c10, .int), (c11, .int), (c13, .int), (c14, .int), (c15, .boolean)]) [0, 1, 2, 3, 4, 5, 6, 7, 8, 9, 10, 11, 12, 13] rfl
    refine W.widen (k := 0) (n := 0) (Nat.le_of_ble_eq_true rfl) (Nat.le_of_ble_eq_true rfl) ?_
    exact W.lret (v := r_2) hx hb hr (fun t ht hW => ⟨⟨r_2, (ur_2.1, ur_2.2.1, ur_2.2.2.1, ur_2.2.2.2.1, ur_2.2.2.2.2.1, a13, a14, ur_2.2.2.2.2.2), rfl, ⟨r, d9, by omega, y2_, fun _ _ _ => y3_⟩, by rw [ht]; exact hP9, va_K.moved hW.alike hK9, hD9⟩, hS.F ht⟩) hS.2.2 dX8_map_297
  ·
    refine lv_iload_n hx hb dX8_map_262 rfl (lv_at hl 7 rfl) ?_
    refine lv_if_eq (tgt := 284) hx hb dX8_map_263 (by decide) (fun c_3 => ?_) (fun c_3 => ?_)
    ·
      have ic_3 : p1.toInt = 0 := tx_eq rfl (by decide) c_3
      exact jn284 (ls, H, locs) ⟨lv_sub hl [0, 1, 2, 3, 4, 5, 6, 7, 8, 9] rfl, hP.sub [0, 1, 2, 3, 4, 5, 6, 7, 8, 9, 10, 11, 12, 13, 14] rfl, hS⟩
    ·
      have ic_3 : ¬ p1.toInt = 0 := tx_ne rfl (by decide) c_3
      refine lv_iload_n hx hb dX8_map_266 rfl (lv_at hl 7 rfl) ?_
      refine lv_bipush (v := 6) hx hb dX8_map_267 (by decide) ?_
      refine lv_icmp_eq (tgt := 284) hx hb dX8_map_269 (by decide) (fun c_4 => ?_) (fun c_4 => ?_)
      ·
        have ic_4 : p1.toInt = 6 := tx_eq rfl (by decide) c_4
        exact jn284 (ls, H, locs) ⟨lv_sub hl [0, 1, 2, 3, 4, 5, 6, 7, 8, 9] rfl, hP.sub [0, 1, 2, 3, 4, 5, 6, 7, 8, 9, 10, 11, 12, 13, 14] rfl, hS⟩
      ·
        have ic_4 : ¬ p1.toInt = 6 := tx_ne rfl (by decide) c_4
        refine lv_iload_n hx hb dX8_map_272 rfl (lv_at hl 7 rfl) ?_
        refine lv_bipush (v := 7) hx hb dX8_map_273 (by decide) ?_
        refine lv_icmp_eq (tgt := 284) hx hb dX8_map_275 (by decide) (fun c_5 => ?_) (fun c_5 => ?_)
        ·
          have ic_5 : p1.toInt = 7 := tx_eq rfl (by decide) c_5
          exact jn284 (ls, H, locs) ⟨lv_sub hl [0, 1, 2, 3, 4, 5, 6, 7, 8, 9] rfl, hP.sub [0, 1, 2, 3, 4, 5, 6, 7, 8, 9, 10, 11, 12, 13, 14] rfl, hS⟩
        ·
          have ic_5 : ¬ p1.toInt = 7 := tx_ne rfl (by decide) c_5
          refine lv_iload_n hx hb dX8_map_278 rfl (lv_at hl 7 rfl) ?_
          refine lv_bipush (v := 8) hx hb dX8_map_279 (by decide) ?_
          refine lv_icmp_ne (tgt := 298) hx hb dX8_map_281 (by decide) (fun c_6 => ?_) (fun c_6 => ?_)
          ·
            have ic_6 : ¬ p1.toInt = 8 := tx_ne rfl (by decide) c_6
            refine lv_iload_n hx hb dX8_map_298 rfl (lv_at hl 7 rfl) ?_
            refine lv_iconst (v := 1) hx hb dX8_map_299 (by decide) ?_
            refine lv_icmp_ne (tgt := 319) hx hb dX8_map_300 (by decide) (fun c_7 => ?_) (fun c_7 => ?_)
            ·
              have ic_7 : ¬ p1.toInt = 1 := tx_ne rfl (by decide) c_7
              refine lv_iload_n hx hb dX8_map_319 rfl (lv_at hl 7 rfl) ?_
              refine lv_iconst (v := 2) hx hb dX8_map_320 (by decide) ?_
              refine lv_icmp_ne (tgt := 340) hx hb dX8_map_321 (by decide) (fun c_8 => ?_) (fun c_8 => ?_)
              ·
                have ic_8 : ¬ p1.toInt = 2 := tx_ne rfl (by decide) c_8
                refine lv_iload_n hx hb dX8_map_340 rfl (lv_at hl 7 rfl) ?_
                refine lv_iconst (v := 3) hx hb dX8_map_341 (by decide) ?_
                refine lv_icmp_ne (tgt := 356) hx hb dX8_map_342 (by decide) (fun c_9 => ?_) (fun c_9 => ?_)
                ·
                  have ic_9 : ¬ p1.toInt = 3 := tx_ne rfl (by decide) c_9
                  refine lv_iload_n hx hb dX8_map_356 rfl (lv_at hl 7 rfl) ?_
                  refine lv_iconst (v := 4) hx hb dX8_map_357 (by decide) ?_
                  refine lv_icmp_ne (tgt := 368) hx hb dX8_map_358 (by decide) (fun c_10 => ?_) (fun c_10 => ?_)
                  ·
                    have ic_10 : ¬ p1.toInt = 4 := tx_ne rfl (by decide) c_10
                    refine lv_iload_n hx hb dX8_map_368 rfl (lv_at hl 7 rfl) ?_
                    refine lv_iconst (v := 5) hx hb dX8_map_369 (by decide) ?_
                    refine lv_icmp_ne (tgt := 379) hx hb dX8_map_370 (by decide) (fun c_11 => ?_) (fun c_11 => ?_)
                    ·
                      have ic_11 : ¬ p1.toInt = 5 := tx_ne rfl (by decide) c_11
                      refine lv_iload_n hx hb dX8_map_379 rfl (lv_at hl 7 rfl) ?_
                      refine lv_bipush (v := 21) hx hb dX8_map_380 (by decide) ?_
                      refine lv_icmp_ne (tgt := 393) hx hb dX8_map_382 (by decide) (fun c_12 => ?_) (fun c_12 => ?_)
                      ·
                        have ic_12 : ¬ p1.toInt = 21 := tx_ne rfl (by decide) c_12
                        refine w_join (α := Array Slot × Heap × List Loc) (hh := fun jv => jv.2.1) (lc := fun jv => jv.2.2) (F := fun jv => F0 m 412 (jv.1) []) (Pre := fun jv => lv_has (jv.1) 11 [(9, .long g9), (8, .int x8), (7, .int (nI r)), (6, .int x6), (5, .int x5), (0, .ref h0), (1, .int (nI o)), (2, .int p1), (3, .int p2), (4, .int p3)] ∧ va_P (dC, dI) vwCl [(q2, .inl (c2, 67200, .inl a2)), (q3, .inl (c3, 16, .inl a3)), (q4, .inl (c4, 16, .inl a4)), (q5, .inl (c5, 16, .inl a5)), (q6, .inl (c6, 16, .inl a6)), (q7, .inl (c7, 16, .inl a7)), (q9, .inl (c9, 16, .inl a9)), (q10, .inl (c10, 16, .inl a10)), (q11, .inl (c11, 16, .inl a11)), (q13, .inl (c13, 1000, .inl a13)), (q14, .inl (c14, 1000, .inl a14)), (q15, .inl (c15, 4096, .inl a15)), (h0, .inr (8, [.int 0, .ref q1, .ref q2, .ref q3, .ref q4, .ref q5, .ref q6, .ref q7, .ref q8, .ref q9, .ref q10, .ref q11, v12, .ref q13, .ref q14, .ref q15, v16])), (q1, .inl (c1, 16, .inl a1)), (q8, .inl (c8, 16, .inl a8))] (jv.2.1) ∧ va_S A s.heap (jv.2.1) (jv.2.2)) (fun jv ha9 => ?_) (fun jn412 => ?_)
                        ·
                          obtain ⟨ls, H, locs⟩ := jv
                          obtain ⟨hl, hP, hS⟩ := ha9
                          replace hl : lv_has ls 11 [(9, .long g9), (8, .int x8), (7, .int (nI r)), (6, .int x6), (5, .int x5), (0, .ref h0), (1, .int (nI o)), (2, .int p1), (3, .int p2), (4, .int p3)] := hl
                          replace hP : va_P (dC, dI) vwCl [(q2, .inl (c2, 67200, .inl a2)), (q3, .inl (c3, 16, .inl a3)), (q4, .inl (c4, 16, .inl a4)), (q5, .inl (c5, 16, .inl a5)), (q6, .inl (c6, 16, .inl a6)), (q7, .inl (c7, 16, .inl a7)), (q9, .inl (c9, 16, .inl a9)), (q10, .inl (c10, 16, .inl a10)), (q11, .inl (c11, 16, .inl a11)), (q13, .inl (c13, 1000, .inl a13)), (q14, .inl (c14, 1000, .inl a14)), (q15, .inl (c15, 4096, .inl a15)), (h0, .inr (8, [.int 0, .ref q1, .ref q2, .ref q3, .ref q4, .ref q5, .ref q6, .ref q7, .ref q8, .ref q9, .ref q10, .ref q11, v12, .ref q13, .ref q14, .ref q15, v16])), (q1, .inl (c1, 16, .inl a1)), (q8, .inl (c8, 16, .inl a8))] H := hP
                          replace hS : va_S A s.heap H locs := hS
                          show W p l e _ s m _ below meth c H locs _ _ _ (F0 m 412 ls [])
                          refine w_join (α := Array Slot × Heap × List Loc) (hh := fun jv => jv.2.1) (lc := fun jv => jv.2.2) (F := fun jv => F0 m 432 (jv.1) []) (Pre := fun jv => lv_has (jv.1) 11 [(9, .long g9), (8, .int x8), (7, .int (nI r)), (6, .int x6), (5, .int x5), (0, .ref h0), (1, .int (nI o)), (2, .int p1), (3, .int p2), (4, .int p3)] ∧ va_P (dC, dI) vwCl [(q2, .inl (c2, 67200, .inl a2)), (q3, .inl (c3, 16, .inl a3)), (q4, .inl (c4, 16, .inl a4)), (q5, .inl (c5, 16, .inl a5)), (q6, .inl (c6, 16, .inl a6)), (q7, .inl (c7, 16, .inl a7)), (q9, .inl (c9, 16, .inl a9)), (q10, .inl (c10, 16, .inl a10)), (q11, .inl (c11, 16, .inl a11)), (q13, .inl (c13, 1000, .inl a13)), (q14, .inl (c14, 1000, .inl a14)), (q15, .inl (c15, 4096, .inl a15)), (h0, .inr (8, [.int 0, .ref q1, .ref q2, .ref q3, .ref q4, .ref q5, .ref q6, .ref q7, .ref q8, .ref q9, .ref q10, .ref q11, v12, .ref q13, .ref q14, .ref q15, v16])), (q1, .inl (c1, 16, .inl a1)), (q8, .inl (c8, 16, .inl a8))] (jv.2.1) ∧ va_S A s.heap (jv.2.1) (jv.2.2)) (fun jv ha9 => ?_) (fun jn432 => ?_)
                          ·
                            obtain ⟨ls, H, locs⟩ := jv
                            obtain ⟨hl, hP, hS⟩ := ha9
                            replace hl : lv_has ls 11 [(9, .long g9), (8, .int x8), (7, .int (nI r)), (6, .int x6), (5, .int x5), (0, .ref h0), (1, .int (nI o)), (2, .int p1), (3, .int p2), (4, .int p3)] := hl
                            replace hP : va_P (dC, dI) vwCl [(q2, .inl (c2, 67200, .inl a2)), (q3, .inl (c3, 16, .inl a3)), (q4, .inl (c4, 16, .inl a4)), (q5, .inl (c5, 16, .inl a5)), (q6, .inl (c6, 16, .inl a6)), (q7, .inl (c7, 16, .inl a7)), (q9, .inl (c9, 16, .inl a9)), (q10, .inl (c10, 16, .inl a10)), (q11, .inl (c11, 16, .inl a11)), (q13, .inl (c13, 1000, .inl a13)), (q14, .inl (c14, 1000, .inl a14)), (q15, .inl (c15, 4096, .inl a15)), (h0, .inr (8, [.int 0, .ref q1, .ref q2, .ref q3, .ref q4, .ref q5, .ref q6, .ref q7, .ref q8, .ref q9, .ref q10, .ref q11, v12, .ref q13, .ref q14, .ref q15, v16])), (q1, .inl (c1, 16, .inl a1)), (q8, .inl (c8, 16, .inl a8))] H := hP
                            replace hS : va_S A s.heap H locs := hS
                            show W p l e _ s m _ below meth c H locs _ _ _ (F0 m 432 ls [])
                            refine lv_iload_n hx hb dX8_map_432 rfl (lv_at hl 7 rfl) ?_
                            refine lv_bipush (v := 19) hx hb dX8_map_433 (by decide) ?_
                            refine lv_icmp_ne (tgt := 446) hx hb dX8_map_435 (by decide) (fun c_13 => ?_) (fun c_13 => ?_)
                            ·
                              have ic_13 : ¬ p1.toInt = 19 := tx_ne rfl (by decide) c_13
                              refine lv_iload_n hx hb dX8_map_446 rfl (lv_at hl 7 rfl) ?_
                              refine lv_bipush (v := 20) hx hb dX8_map_447 (by decide) ?_
                              refine lv_icmp_ne (tgt := 460) hx hb dX8_map_449 (by decide) (fun c_14 => ?_) (fun c_14 => ?_)
                              ·
                                have ic_14 : ¬ p1.toInt = 20 := tx_ne rfl (by decide) c_14
                                refine lv_aload_n hx hb dX8_map_460 rfl (lv_at hl 5 rfl) ?_
                                refine lv_iload_n hx hb dX8_map_461 rfl (lv_at hl 6 rfl) ?_
                                refine lv_iload_n hx hb dX8_map_462 rfl (lv_at hl 7 rfl) ?_
                                refine lv_iload_n hx hb dX8_map_463 rfl (lv_at hl 8 rfl) ?_
                                have hPc := hP.sub (ws' := [(h0, .inr (8, [.int 0, .ref q1, .ref q2, .ref q3, .ref q4, .ref q5, .ref q6, .ref q7, .ref q8, .ref q9, .ref q10, .ref q11, v12, .ref q13, .ref q14, .ref q15, v16])), (q1, .inl (c1, 16, .inl a1)), (q2, .inl (c2, 67200, .inl a2)), (q3, .inl (c3, 16, .inl a3)), (q4, .inl (c4, 16, .inl a4)), (q5, .inl (c5, 16, .inl a5)), (q6, .inl (c6, 16, .inl a6)), (q7, .inl (c7, 16, .inl a7)), (q8, .inl (c8, 16, .inl a8)), (q9, .inl (c9, 16, .inl a9)), (q10, .inl (c10, 16, .inl a10)), (q11, .inl (c11, 16, .inl a11))]) [12, 13, 0, 1, 2, 3, 4, 5, 14, 6, 7, 8] rfl
                                have hDc := hD.sub (ws' := [(h0, .inr (8, [.int 0, .ref q1, .ref q2, .ref q3, .ref q4, .ref q5, .ref q6, .ref q7, .ref q8, .ref q9, .ref q10, .ref q11, v12, .ref q13, .ref q14, .ref q15, v16])), (q1, .inl (c1, 16, .inl a1)), (q2, .inl (c2, 67200, .inl a2)), (q3, .inl (c3, 16, .inl a3)), (q4, .inl (c4, 16, .inl a4)), (q5, .inl (c5, 16, .inl a5)), (q6, .inl (c6, 16, .inl a6)), (q7, .inl (c7, 16, .inl a7)), (q8, .inl (c8, 16, .inl a8)), (q9, .inl (c9, 16, .inl a9)), (q10, .inl (c10, 16, .inl a10)), (q11, .inl (c11, 16, .inl a11))]) [12, 13, 0, 1, 2, 3, 4, 5, 14, 6, 7, 8] (by decide) rfl
                                have hKc := hK.sub (tys' := [(c1, .int), (c2, .int), (c3, .int), (c4, .int), (c5, .int), (c6, .int), (c7, .int), (c8, .int), (c9, .int), (c10, .int), (c11, .int)]) [0, 1, 2, 3, 4, 5, 6, 7, 8, 9, 10] rfl
                                have hFc := va_free (wc := [(h0, .inr (8, [.int 0, .ref q1, .ref q2, .ref q3, .ref q4, .ref q5, .ref q6, .ref q7, .ref q8, .ref q9, .ref q10, .ref q11, v12, .ref q13, .ref q14, .ref q15, v16])), (q1, .inl (c1, 16, .inl a1)), (q2, .inl (c2, 67200, .inl a2)), (q3, .inl (c3, 16, .inl a3)), (q4, .inl (c4, 16, .inl a4)), (q5, .inl (c5, 16, .inl a5)), (q6, .inl (c6, 16, .inl a6)), (q7, .inl (c7, 16, .inl a7)), (q8, .inl (c8, 16, .inl a8)), (q9, .inl (c9, 16, .inl a9)), (q10, .inl (c10, 16, .inl a10)), (q11, .inl (c11, 16, .inl a11))]) hD hS hA [12, 13, 0, 1, 2, 3, 4, 5, 14, 6, 7, 8] rfl
                                refine va_calll (va_runV (As := [.int (nI o), .int p1, .int p2]) (rest := []) ⟨hx, hb, hml, hown, hts⟩ (c_X8_over l  dC dI H.size h0 0 q1 q2 q3 q4 q5 q6 q7 q8 q9 q10 q11 c1 c2 c3 c4 c5 c6 c7 c8 c9 c10 c11 a1 a2 a3 a4 a5 a6 a7 a8 a9 a10 a11 v12 (.ref q13) (.ref q14) (.ref q15) v16 o dep r p1 p2 ho9 hF9 hd9 hrt9 hM9 h22) (cwV 3 hts gX8_map_X8_over rfl rfl rfl (by decide +kernel) ⟨(Nat.le_of_ble_eq_true rfl), (Nat.le_of_ble_eq_true rfl)⟩) ⟨pk_blind, va_recv hKc hPc (ci := 8) (q0 := 0) rfl rfl, pk_call hPc hKc hDc⟩ rfl rfl hl.1 rfl (lv_room (Nat.le_of_ble_eq_true rfl)) dX8_map_464 ⟨(Nat.le_of_ble_eq_true rfl), (Nat.le_of_ble_eq_true rfl)⟩) hS (fun q _ h => hFc q h) hFc (fun r_15 ur_15 t H1 locs ht hvm hw hB hz1 hk1 hS => ?_)
                                try dsimp only at hw
                                have jr_15 := hw
                                obtain ⟨hP1, hK1, hD1⟩ := hB
                                rw [ht] at hP1
                                have hK1 := va_K.moved hvm.symm hK1
                                obtain ⟨hP, hD⟩ := va_join (wr := [(q13, .inl (c13, 1000, .inl a13)), (q14, .inl (c14, 1000, .inl a14)), (q15, .inl (c15, 4096, .inl a15))]) (w1 := [(h0, .inr (8, [.int 0, .ref q1, .ref q2, .ref q3, .ref q4, .ref q5, .ref q6, .ref q7, .ref q8, .ref q9, .ref q10, .ref q11, v12, .ref q13, .ref q14, .ref q15, v16])), (q1, .inl (c1, 16, .inl a1)), (q2, .inl (c2, 67200, .inl ur_15.1)), (q3, .inl (c3, 16, .inl ur_15.2.1)), (q4, .inl (c4, 16, .inl a4)), (q5, .inl (c5, 16, .inl a5)), (q6, .inl (c6, 16, .inl a6)), (q7, .inl (c7, 16, .inl ur_15.2.2)), (q8, .inl (c8, 16, .inl a8)), (q9, .inl (c9, 16, .inl a9)), (q10, .inl (c10, 16, .inl a10)), (q11, .inl (c11, 16, .inl a11))]) hP hD [12, 13, 0, 1, 2, 3, 4, 5, 14, 6, 7, 8] [9, 10, 11] rfl rfl (by decide) (by decide) hk1 hFc hP1 hD1
                                clear hk1 hz1 ht hPc hDc hKc hFc
                                generalize H1 = H at hP hS ⊢
                                replace hP : va_P (dC, dI) vwCl [(q13, .inl (c13, 1000, .inl a13)), (q14, .inl (c14, 1000, .inl a14)), (q15, .inl (c15, 4096, .inl a15)), (h0, .inr (8, [.int 0, .ref q1, .ref q2, .ref q3, .ref q4, .ref q5, .ref q6, .ref q7, .ref q8, .ref q9, .ref q10, .ref q11, v12, .ref q13, .ref q14, .ref q15, v16])), (q1, .inl (c1, 16, .inl a1)), (q2, .inl (c2, 67200, .inl ur_15.1)), (q3, .inl (c3, 16, .inl ur_15.2.1)), (q4, .inl (c4, 16, .inl a4)), (q5, .inl (c5, 16, .inl a5)), (q6, .inl (c6, 16, .inl a6)), (q7, .inl (c7, 16, .inl ur_15.2.2)), (q8, .inl (c8, 16, .inl a8)), (q9, .inl (c9, 16, .inl a9)), (q10, .inl (c10, 16, .inl a10)), (q11, .inl (c11, 16, .inl a11))] H := hP
                                replace hD : va_D A [(q13, .inl (c13, 1000, .inl a13)), (q14, .inl (c14, 1000, .inl a14)), (q15, .inl (c15, 4096, .inl a15)), (h0, .inr (8, [.int 0, .ref q1, .ref q2, .ref q3, .ref q4, .ref q5, .ref q6, .ref q7, .ref q8, .ref q9, .ref q10, .ref q11, v12, .ref q13, .ref q14, .ref q15, v16])), (q1, .inl (c1, 16, .inl a1)), (q2, .inl (c2, 67200, .inl ur_15.1)), (q3, .inl (c3, 16, .inl ur_15.2.1)), (q4, .inl (c4, 16, .inl a4)), (q5, .inl (c5, 16, .inl a5)), (q6, .inl (c6, 16, .inl a6)), (q7, .inl (c7, 16, .inl ur_15.2.2)), (q8, .inl (c8, 16, .inl a8)), (q9, .inl (c9, 16, .inl a9)), (q10, .inl (c10, 16, .inl a10)), (q11, .inl (c11, 16, .inl a11))] := hD
                                refine W.widen (k := 0) (n := 0) (Nat.le_of_ble_eq_true rfl) (Nat.le_of_ble_eq_true rfl) ?_
                                refine W.eq (g2 := F0 m 467 ls [.long r_15]) rfl ?_
                                obtain ⟨⟨d9, y1_, y2_⟩, y3_⟩ := jr_15
                                have hP9 := hP.sub (ws' := [(h0, .inr (8, [.int 0, .ref q1, .ref q2, .ref q3, .ref q4, .ref q5, .ref q6, .ref q7, .ref q8, .ref q9, .ref q10, .ref q11, v12, .ref q13, .ref q14, .ref q15, v16])), (q1, .inl (c1, 16, .inl a1)), (q2, .inl (c2, 67200, .inl ur_15.1)), (q3, .inl (c3, 16, .inl ur_15.2.1)), (q4, .inl (c4, 16, .inl a4)), (q5, .inl (c5, 16, .inl a5)), (q6, .inl (c6, 16, .inl a6)), (q7, .inl (c7, 16, .inl ur_15.2.2)), (q8, .inl (c8, 16, .inl a8)), (q9, .inl (c9, 16, .inl a9)), (q10, .inl (c10, 16, .inl a10)), (q11, .inl (c11, 16, .inl a11)), (q13, .inl (c13, 1000, .inl a13)), (q14, .inl (c14, 1000, .inl a14)), (q15, .inl (c15, 4096, .inl a15))]) [3, 4, 5, 6, 7, 8, 9, 10, 11, 12, 13, 14, 0, 1, 2] rfl
                                have hD9 := hD.sub (ws' := [(h0, .inr (8, [.int 0, .ref q1, .ref q2, .ref q3, .ref q4, .ref q5, .ref q6, .ref q7, .ref q8, .ref q9, .ref q10, .ref q11, v12, .ref q13, .ref q14, .ref q15, v16])), (q1, .inl (c1, 16, .inl a1)), (q2, .inl (c2, 67200, .inl ur_15.1)), (q3, .inl (c3, 16, .inl ur_15.2.1)), (q4, .inl (c4, 16, .inl a4)), (q5, .inl (c5, 16, .inl a5)), (q6, .inl (c6, 16, .inl a6)), (q7, .inl (c7, 16, .inl ur_15.2.2)), (q8, .inl (c8, 16, .inl a8)), (q9, .inl (c9, 16, .inl a9)), (q10, .inl (c10, 16, .inl a10)), (q11, .inl (c11, 16, .inl a11)), (q13, .inl (c13, 1000, .inl a13)), (q14, .inl (c14, 1000, .inl a14)), (q15, .inl (c15, 4096, .inl a15))]) [3, 4, 5, 6, 7, 8, 9, 10, 11, 12, 13, 14, 0, 1, 2] (by decide) rfl
                                have hK9 := hK.sub (tys' := [(c1, .int), (c2, .int), (c3, .int), (c4, .int), (c5, .int), (c6, .int), (c7, .int), (c8, .int), (c9, .int), (c10, .int), (c11, .int), (c13, .int), (c14, .int), (c15, .boolean)]) [0, 1, 2, 3, 4, 5, 6, 7, 8, 9, 10, 11, 12, 13] rfl
                                refine W.widen (k := 0) (n := 0) (Nat.le_of_ble_eq_true rfl) (Nat.le_of_ble_eq_true rfl) ?_
                                exact W.lret (v := r_15) hx hb hr (fun t ht hW => ⟨⟨r_15, (0, ur_15.1, ur_15.2.1, a6, ur_15.2.2, a13, a14, a15), rfl, ⟨r, d9, by omega, y2_, fun _ _ _ => y3_⟩, by rw [ht]; exact hP9, va_K.moved hW.alike hK9, hD9⟩, hS.F ht⟩) hS.2.2 dX8_map_467
                              ·
                                have ic_14 : p1.toInt = 20 := tx_eq rfl (by decide) c_14
                                obtain ⟨o2, ho8, rfl, hm2a, hm2b⟩ := hmb (by omega)
                                have hd8 := hda o2 ho8
                                obtain ⟨r2, hrt8⟩ : ∃ r2 : Nat, rtN a1 a8 17 o2 = r2 := ⟨_, rfl⟩
                                have hkd8 : 1 ≤ (a1 r2).toInt ∧ (a1 r2).toInt ≤ 3 := by rw [← hrt8]; exact rt_kd hF9 ho8 hd8 ⟨hm2a, hm2b⟩
                                have hr7 : r2 < 16 := by rw [← hrt8]; exact rt_lt hF9 ho8
                                have hM2 := hMa r2 hr7 hkd8.1 hkd8.2
                                obtain ⟨n2, tb2, hs8, hz8, -, -⟩ := mo_go hM2
                                refine lv_aload_n hx hb dX8_map_452 rfl (lv_at hl 5 rfl) ?_
                                refine lv_iload_n hx hb dX8_map_453 rfl (lv_at hl 6 rfl) ?_
                                refine lv_iload hx hb dX8_map_454 (lv_at hl 9 rfl) ?_
                                have hPc := hP.sub (ws' := [(h0, .inr (8, [.int 0, .ref q1, .ref q2, .ref q3, .ref q4, .ref q5, .ref q6, .ref q7, .ref q8, .ref q9, .ref q10, .ref q11, v12, .ref q13, .ref q14, .ref q15, v16])), (q1, .inl (c1, 16, .inl a1)), (q2, .inl (c2, 67200, .inl a2)), (q3, .inl (c3, 16, .inl a3)), (q4, .inl (c4, 16, .inl a4)), (q5, .inl (c5, 16, .inl a5)), (q6, .inl (c6, 16, .inl a6)), (q7, .inl (c7, 16, .inl a7)), (q8, .inl (c8, 16, .inl a8)), (q9, .inl (c9, 16, .inl a9)), (q10, .inl (c10, 16, .inl a10)), (q11, .inl (c11, 16, .inl a11)), (q13, .inl (c13, 1000, .inl a13)), (q14, .inl (c14, 1000, .inl a14)), (q15, .inl (c15, 4096, .inl a15))]) [12, 13, 0, 1, 2, 3, 4, 5, 14, 6, 7, 8, 9, 10, 11] rfl
                                have hDc := hD.sub (ws' := [(h0, .inr (8, [.int 0, .ref q1, .ref q2, .ref q3, .ref q4, .ref q5, .ref q6, .ref q7, .ref q8, .ref q9, .ref q10, .ref q11, v12, .ref q13, .ref q14, .ref q15, v16])), (q1, .inl (c1, 16, .inl a1)), (q2, .inl (c2, 67200, .inl a2)), (q3, .inl (c3, 16, .inl a3)), (q4, .inl (c4, 16, .inl a4)), (q5, .inl (c5, 16, .inl a5)), (q6, .inl (c6, 16, .inl a6)), (q7, .inl (c7, 16, .inl a7)), (q8, .inl (c8, 16, .inl a8)), (q9, .inl (c9, 16, .inl a9)), (q10, .inl (c10, 16, .inl a10)), (q11, .inl (c11, 16, .inl a11)), (q13, .inl (c13, 1000, .inl a13)), (q14, .inl (c14, 1000, .inl a14)), (q15, .inl (c15, 4096, .inl a15))]) [12, 13, 0, 1, 2, 3, 4, 5, 14, 6, 7, 8, 9, 10, 11] (by decide) rfl
                                have hKc := hK.sub (tys' := [(c1, .int), (c2, .int), (c3, .int), (c4, .int), (c5, .int), (c6, .int), (c7, .int), (c8, .int), (c9, .int), (c10, .int), (c11, .int), (c13, .int), (c14, .int), (c15, .boolean)]) [0, 1, 2, 3, 4, 5, 6, 7, 8, 9, 10, 11, 12, 13] rfl
                                have hFc := va_free (wc := [(h0, .inr (8, [.int 0, .ref q1, .ref q2, .ref q3, .ref q4, .ref q5, .ref q6, .ref q7, .ref q8, .ref q9, .ref q10, .ref q11, v12, .ref q13, .ref q14, .ref q15, v16])), (q1, .inl (c1, 16, .inl a1)), (q2, .inl (c2, 67200, .inl a2)), (q3, .inl (c3, 16, .inl a3)), (q4, .inl (c4, 16, .inl a4)), (q5, .inl (c5, 16, .inl a5)), (q6, .inl (c6, 16, .inl a6)), (q7, .inl (c7, 16, .inl a7)), (q8, .inl (c8, 16, .inl a8)), (q9, .inl (c9, 16, .inl a9)), (q10, .inl (c10, 16, .inl a10)), (q11, .inl (c11, 16, .inl a11)), (q13, .inl (c13, 1000, .inl a13)), (q14, .inl (c14, 1000, .inl a14)), (q15, .inl (c15, 4096, .inl a15))]) hD hS hA [12, 13, 0, 1, 2, 3, 4, 5, 14, 6, 7, 8, 9, 10, 11] rfl
                                refine va_calll (va_runV (As := [.int (nI o), .int (nI o2)]) (rest := []) ⟨hx, hb, hml, hown, hts⟩ (c_X8_allOf l  dC dI H.size h0 0 q1 q2 q3 q4 q5 q6 q7 q8 q9 q10 q11 q13 q14 q15 c1 c2 c3 c4 c5 c6 c7 c8 c9 c10 c11 c13 c14 c15 a1 a2 a3 a4 a5 a6 a7 a8 a9 a10 a11 a13 a14 a15 v12 v16 o dep r o2 r2 ho9 hF9 hd9 hrt9 hM9 hkd9 ho8 hd8 hrt8 hM2) (cwV 2 hts gX8_map_X8_allOf rfl rfl rfl (by decide +kernel) ⟨(Nat.le_of_ble_eq_true rfl), (Nat.le_of_ble_eq_true rfl)⟩) ⟨pk_blind, va_recv hKc hPc (ci := 8) (q0 := 0) rfl rfl, pk_call hPc hKc hDc⟩ rfl rfl hl.1 rfl (lv_room (Nat.le_of_ble_eq_true rfl)) dX8_map_456 ⟨(Nat.le_of_ble_eq_true rfl), (Nat.le_of_ble_eq_true rfl)⟩) hS (fun q _ h => hFc q h) hFc (fun r_16 ur_16 t H1 locs ht hvm hw hB hz1 hk1 hS => ?_)
                                try dsimp only at hw
                                have jr_16 := hw
                                obtain ⟨hP1, hK1, hD1⟩ := hB
                                rw [ht] at hP1
                                have hK1 := va_K.moved hvm.symm hK1
                                obtain ⟨hP, hD⟩ := va_join (wr := []) (w1 := [(h0, .inr (8, [.int ur_16.1, .ref q1, .ref q2, .ref q3, .ref q4, .ref q5, .ref q6, .ref q7, .ref q8, .ref q9, .ref q10, .ref q11, v12, .ref q13, .ref q14, .ref q15, v16])), (q1, .inl (c1, 16, .inl a1)), (q2, .inl (c2, 67200, .inl ur_16.2.1)), (q3, .inl (c3, 16, .inl ur_16.2.2.1)), (q4, .inl (c4, 16, .inl a4)), (q5, .inl (c5, 16, .inl a5)), (q6, .inl (c6, 16, .inl ur_16.2.2.2.1)), (q7, .inl (c7, 16, .inl ur_16.2.2.2.2.1)), (q8, .inl (c8, 16, .inl a8)), (q9, .inl (c9, 16, .inl a9)), (q10, .inl (c10, 16, .inl a10)), (q11, .inl (c11, 16, .inl a11)), (q13, .inl (c13, 1000, .inl ur_16.2.2.2.2.2.1)), (q14, .inl (c14, 1000, .inl ur_16.2.2.2.2.2.2.1)), (q15, .inl (c15, 4096, .inl ur_16.2.2.2.2.2.2.2))]) hP hD [12, 13, 0, 1, 2, 3, 4, 5, 14, 6, 7, 8, 9, 10, 11] [] rfl rfl (by decide) (by decide) hk1 hFc hP1 hD1
                                clear hk1 hz1 ht hPc hDc hKc hFc
                                generalize H1 = H at hP hS ⊢
                                replace hP : va_P (dC, dI) vwCl [(h0, .inr (8, [.int ur_16.1, .ref q1, .ref q2, .ref q3, .ref q4, .ref q5, .ref q6, .ref q7, .ref q8, .ref q9, .ref q10, .ref q11, v12, .ref q13, .ref q14, .ref q15, v16])), (q1, .inl (c1, 16, .inl a1)), (q2, .inl (c2, 67200, .inl ur_16.2.1)), (q3, .inl (c3, 16, .inl ur_16.2.2.1)), (q4, .inl (c4, 16, .inl a4)), (q5, .inl (c5, 16, .inl a5)), (q6, .inl (c6, 16, .inl ur_16.2.2.2.1)), (q7, .inl (c7, 16, .inl ur_16.2.2.2.2.1)), (q8, .inl (c8, 16, .inl a8)), (q9, .inl (c9, 16, .inl a9)), (q10, .inl (c10, 16, .inl a10)), (q11, .inl (c11, 16, .inl a11)), (q13, .inl (c13, 1000, .inl ur_16.2.2.2.2.2.1)), (q14, .inl (c14, 1000, .inl ur_16.2.2.2.2.2.2.1)), (q15, .inl (c15, 4096, .inl ur_16.2.2.2.2.2.2.2))] H := hP
                                replace hD : va_D A [(h0, .inr (8, [.int ur_16.1, .ref q1, .ref q2, .ref q3, .ref q4, .ref q5, .ref q6, .ref q7, .ref q8, .ref q9, .ref q10, .ref q11, v12, .ref q13, .ref q14, .ref q15, v16])), (q1, .inl (c1, 16, .inl a1)), (q2, .inl (c2, 67200, .inl ur_16.2.1)), (q3, .inl (c3, 16, .inl ur_16.2.2.1)), (q4, .inl (c4, 16, .inl a4)), (q5, .inl (c5, 16, .inl a5)), (q6, .inl (c6, 16, .inl ur_16.2.2.2.1)), (q7, .inl (c7, 16, .inl ur_16.2.2.2.2.1)), (q8, .inl (c8, 16, .inl a8)), (q9, .inl (c9, 16, .inl a9)), (q10, .inl (c10, 16, .inl a10)), (q11, .inl (c11, 16, .inl a11)), (q13, .inl (c13, 1000, .inl ur_16.2.2.2.2.2.1)), (q14, .inl (c14, 1000, .inl ur_16.2.2.2.2.2.2.1)), (q15, .inl (c15, 4096, .inl ur_16.2.2.2.2.2.2.2))] := hD
                                refine W.widen (k := 0) (n := 0) (Nat.le_of_ble_eq_true rfl) (Nat.le_of_ble_eq_true rfl) ?_
                                refine W.eq (g2 := F0 m 459 ls [.long r_16]) rfl ?_
                                obtain ⟨⟨d9, y1_, y2_⟩, y3_⟩ := jr_16
                                have hP9 := hP.sub (ws' := [(h0, .inr (8, [.int ur_16.1, .ref q1, .ref q2, .ref q3, .ref q4, .ref q5, .ref q6, .ref q7, .ref q8, .ref q9, .ref q10, .ref q11, v12, .ref q13, .ref q14, .ref q15, v16])), (q1, .inl (c1, 16, .inl a1)), (q2, .inl (c2, 67200, .inl ur_16.2.1)), (q3, .inl (c3, 16, .inl ur_16.2.2.1)), (q4, .inl (c4, 16, .inl a4)), (q5, .inl (c5, 16, .inl a5)), (q6, .inl (c6, 16, .inl ur_16.2.2.2.1)), (q7, .inl (c7, 16, .inl ur_16.2.2.2.2.1)), (q8, .inl (c8, 16, .inl a8)), (q9, .inl (c9, 16, .inl a9)), (q10, .inl (c10, 16, .inl a10)), (q11, .inl (c11, 16, .inl a11)), (q13, .inl (c13, 1000, .inl ur_16.2.2.2.2.2.1)), (q14, .inl (c14, 1000, .inl ur_16.2.2.2.2.2.2.1)), (q15, .inl (c15, 4096, .inl ur_16.2.2.2.2.2.2.2))]) [0, 1, 2, 3, 4, 5, 6, 7, 8, 9, 10, 11, 12, 13, 14] rfl
                                have hD9 := hD.sub (ws' := [(h0, .inr (8, [.int ur_16.1, .ref q1, .ref q2, .ref q3, .ref q4, .ref q5, .ref q6, .ref q7, .ref q8, .ref q9, .ref q10, .ref q11, v12, .ref q13, .ref q14, .ref q15, v16])), (q1, .inl (c1, 16, .inl a1)), (q2, .inl (c2, 67200, .inl ur_16.2.1)), (q3, .inl (c3, 16, .inl ur_16.2.2.1)), (q4, .inl (c4, 16, .inl a4)), (q5, .inl (c5, 16, .inl a5)), (q6, .inl (c6, 16, .inl ur_16.2.2.2.1)), (q7, .inl (c7, 16, .inl ur_16.2.2.2.2.1)), (q8, .inl (c8, 16, .inl a8)), (q9, .inl (c9, 16, .inl a9)), (q10, .inl (c10, 16, .inl a10)), (q11, .inl (c11, 16, .inl a11)), (q13, .inl (c13, 1000, .inl ur_16.2.2.2.2.2.1)), (q14, .inl (c14, 1000, .inl ur_16.2.2.2.2.2.2.1)), (q15, .inl (c15, 4096, .inl ur_16.2.2.2.2.2.2.2))]) [0, 1, 2, 3, 4, 5, 6, 7, 8, 9, 10, 11, 12, 13, 14] (by decide) rfl
                                have hK9 := hK.sub (tys' := [(c1, .int), (c2, .int), (c3, .int), (c4, .int), (c5, .int), (c6, .int), (c7, .int), (c8, .int), (c9, .int), (c10, .int), (c11, .int), (c13, .int), (c14, .int), (c15, .boolean)]) [0, 1, 2, 3, 4, 5, 6, 7, 8, 9, 10, 11, 12, 13] rfl
                                refine W.widen (k := 0) (n := 0) (Nat.le_of_ble_eq_true rfl) (Nat.le_of_ble_eq_true rfl) ?_
                                exact W.lret (v := r_16) hx hb hr (fun t ht hW => ⟨⟨r_16, (ur_16.1, ur_16.2.1, ur_16.2.2.1, ur_16.2.2.2.1, ur_16.2.2.2.2.1, ur_16.2.2.2.2.2.1, ur_16.2.2.2.2.2.2.1, ur_16.2.2.2.2.2.2.2), rfl, ⟨r, d9, by omega, y2_, fun _ _ _ => y3_⟩, by rw [ht]; exact hP9, va_K.moved hW.alike hK9, hD9⟩, hS.F ht⟩) hS.2.2 dX8_map_459
                            ·
                              have ic_13 : p1.toInt = 19 := tx_eq rfl (by decide) c_13
                              obtain ⟨o2, ho8, rfl, hm2a, hm2b⟩ := hmb (by omega)
                              have hd8 := hda o2 ho8
                              obtain ⟨r2, hrt8⟩ : ∃ r2 : Nat, rtN a1 a8 17 o2 = r2 := ⟨_, rfl⟩
                              have hkd8 : 1 ≤ (a1 r2).toInt ∧ (a1 r2).toInt ≤ 3 := by rw [← hrt8]; exact rt_kd hF9 ho8 hd8 ⟨hm2a, hm2b⟩
                              have hr7 : r2 < 16 := by rw [← hrt8]; exact rt_lt hF9 ho8
                              have hM2 := hMa r2 hr7 hkd8.1 hkd8.2
                              obtain ⟨n2, tb2, hs8, hz8, -, -⟩ := mo_go hM2
                              refine lv_aload_n hx hb dX8_map_438 rfl (lv_at hl 5 rfl) ?_
                              refine lv_iload_n hx hb dX8_map_439 rfl (lv_at hl 6 rfl) ?_
                              refine lv_iload hx hb dX8_map_440 (lv_at hl 9 rfl) ?_
                              have hPc := hP.sub (ws' := [(h0, .inr (8, [.int 0, .ref q1, .ref q2, .ref q3, .ref q4, .ref q5, .ref q6, .ref q7, .ref q8, .ref q9, .ref q10, .ref q11, v12, .ref q13, .ref q14, .ref q15, v16])), (q1, .inl (c1, 16, .inl a1)), (q2, .inl (c2, 67200, .inl a2)), (q3, .inl (c3, 16, .inl a3)), (q4, .inl (c4, 16, .inl a4)), (q8, .inl (c8, 16, .inl a8)), (q9, .inl (c9, 16, .inl a9)), (q10, .inl (c10, 16, .inl a10)), (q11, .inl (c11, 16, .inl a11))]) [12, 13, 0, 1, 2, 14, 6, 7, 8] rfl
                              have hDc := hD.sub (ws' := [(h0, .inr (8, [.int 0, .ref q1, .ref q2, .ref q3, .ref q4, .ref q5, .ref q6, .ref q7, .ref q8, .ref q9, .ref q10, .ref q11, v12, .ref q13, .ref q14, .ref q15, v16])), (q1, .inl (c1, 16, .inl a1)), (q2, .inl (c2, 67200, .inl a2)), (q3, .inl (c3, 16, .inl a3)), (q4, .inl (c4, 16, .inl a4)), (q8, .inl (c8, 16, .inl a8)), (q9, .inl (c9, 16, .inl a9)), (q10, .inl (c10, 16, .inl a10)), (q11, .inl (c11, 16, .inl a11))]) [12, 13, 0, 1, 2, 14, 6, 7, 8] (by decide) rfl
                              have hKc := hK.sub (tys' := [(c1, .int), (c2, .int), (c3, .int), (c4, .int), (c8, .int), (c9, .int), (c10, .int), (c11, .int)]) [0, 1, 2, 3, 7, 8, 9, 10] rfl
                              have hFc := va_free (wc := [(h0, .inr (8, [.int 0, .ref q1, .ref q2, .ref q3, .ref q4, .ref q5, .ref q6, .ref q7, .ref q8, .ref q9, .ref q10, .ref q11, v12, .ref q13, .ref q14, .ref q15, v16])), (q1, .inl (c1, 16, .inl a1)), (q2, .inl (c2, 67200, .inl a2)), (q3, .inl (c3, 16, .inl a3)), (q4, .inl (c4, 16, .inl a4)), (q8, .inl (c8, 16, .inl a8)), (q9, .inl (c9, 16, .inl a9)), (q10, .inl (c10, 16, .inl a10)), (q11, .inl (c11, 16, .inl a11))]) hD hS hA [12, 13, 0, 1, 2, 14, 6, 7, 8] rfl
                              refine va_calll (va_runV (As := [.int (nI o), .int (nI o2)]) (rest := []) ⟨hx, hb, hml, hown, hts⟩ (c_X8_sameMap l  dC dI H.size h0 0 q1 q2 q3 q4 q8 q9 q10 q11 c1 c2 c3 c4 c8 c9 c10 c11 a1 a2 a3 a4 a8 a9 a10 a11 (.ref q5) (.ref q6) (.ref q7) v12 (.ref q13) (.ref q14) (.ref q15) v16 o dep r o2 r2 nz n2 ho9 hF9 hd9 hrt9 ho8 hd8 hrt8 hs9 hz9 hs8 hz8) (cwV 2 hts gX8_map_X8_sameMap rfl rfl rfl (by decide +kernel) ⟨(Nat.le_of_ble_eq_true rfl), (Nat.le_of_ble_eq_true rfl)⟩) ⟨pk_blind, va_recv hKc hPc (ci := 8) (q0 := 0) rfl rfl, pk_call hPc hKc hDc⟩ rfl rfl hl.1 rfl (lv_room (Nat.le_of_ble_eq_true rfl)) dX8_map_442 ⟨(Nat.le_of_ble_eq_true rfl), (Nat.le_of_ble_eq_true rfl)⟩) hS (fun q _ h => hFc q h) hFc (fun r_17 ur_17 t H1 locs ht hvm hw hB hz1 hk1 hS => ?_)
                              try dsimp only at hw
                              have jr_17 := hw
                              obtain ⟨hP1, hK1, hD1⟩ := hB
                              rw [ht] at hP1
                              have hK1 := va_K.moved hvm.symm hK1
                              obtain ⟨hP, hD⟩ := va_join (wr := [(q5, .inl (c5, 16, .inl a5)), (q6, .inl (c6, 16, .inl a6)), (q7, .inl (c7, 16, .inl a7)), (q13, .inl (c13, 1000, .inl a13)), (q14, .inl (c14, 1000, .inl a14)), (q15, .inl (c15, 4096, .inl a15))]) (w1 := [(h0, .inr (8, [.int 0, .ref q1, .ref q2, .ref q3, .ref q4, .ref q5, .ref q6, .ref q7, .ref q8, .ref q9, .ref q10, .ref q11, v12, .ref q13, .ref q14, .ref q15, v16])), (q1, .inl (c1, 16, .inl a1)), (q2, .inl (c2, 67200, .inl a2)), (q3, .inl (c3, 16, .inl a3)), (q4, .inl (c4, 16, .inl a4)), (q8, .inl (c8, 16, .inl a8)), (q9, .inl (c9, 16, .inl a9)), (q10, .inl (c10, 16, .inl a10)), (q11, .inl (c11, 16, .inl a11))]) hP hD [12, 13, 0, 1, 2, 14, 6, 7, 8] [3, 4, 5, 9, 10, 11] rfl rfl (by decide) (by decide) hk1 hFc hP1 hD1
                              clear hk1 hz1 ht hPc hDc hKc hFc
                              generalize H1 = H at hP hS ⊢
                              replace hP : va_P (dC, dI) vwCl [(q5, .inl (c5, 16, .inl a5)), (q6, .inl (c6, 16, .inl a6)), (q7, .inl (c7, 16, .inl a7)), (q13, .inl (c13, 1000, .inl a13)), (q14, .inl (c14, 1000, .inl a14)), (q15, .inl (c15, 4096, .inl a15)), (h0, .inr (8, [.int 0, .ref q1, .ref q2, .ref q3, .ref q4, .ref q5, .ref q6, .ref q7, .ref q8, .ref q9, .ref q10, .ref q11, v12, .ref q13, .ref q14, .ref q15, v16])), (q1, .inl (c1, 16, .inl a1)), (q2, .inl (c2, 67200, .inl a2)), (q3, .inl (c3, 16, .inl a3)), (q4, .inl (c4, 16, .inl a4)), (q8, .inl (c8, 16, .inl a8)), (q9, .inl (c9, 16, .inl a9)), (q10, .inl (c10, 16, .inl a10)), (q11, .inl (c11, 16, .inl a11))] H := hP
                              replace hD : va_D A [(q5, .inl (c5, 16, .inl a5)), (q6, .inl (c6, 16, .inl a6)), (q7, .inl (c7, 16, .inl a7)), (q13, .inl (c13, 1000, .inl a13)), (q14, .inl (c14, 1000, .inl a14)), (q15, .inl (c15, 4096, .inl a15)), (h0, .inr (8, [.int 0, .ref q1, .ref q2, .ref q3, .ref q4, .ref q5, .ref q6, .ref q7, .ref q8, .ref q9, .ref q10, .ref q11, v12, .ref q13, .ref q14, .ref q15, v16])), (q1, .inl (c1, 16, .inl a1)), (q2, .inl (c2, 67200, .inl a2)), (q3, .inl (c3, 16, .inl a3)), (q4, .inl (c4, 16, .inl a4)), (q8, .inl (c8, 16, .inl a8)), (q9, .inl (c9, 16, .inl a9)), (q10, .inl (c10, 16, .inl a10)), (q11, .inl (c11, 16, .inl a11))] := hD
                              refine W.widen (k := 0) (n := 0) (Nat.le_of_ble_eq_true rfl) (Nat.le_of_ble_eq_true rfl) ?_
                              refine W.eq (g2 := F0 m 445 ls [.long r_17]) rfl ?_
                              have hP9 := hP.sub (ws' := [(h0, .inr (8, [.int 0, .ref q1, .ref q2, .ref q3, .ref q4, .ref q5, .ref q6, .ref q7, .ref q8, .ref q9, .ref q10, .ref q11, v12, .ref q13, .ref q14, .ref q15, v16])), (q1, .inl (c1, 16, .inl a1)), (q2, .inl (c2, 67200, .inl a2)), (q3, .inl (c3, 16, .inl a3)), (q4, .inl (c4, 16, .inl a4)), (q5, .inl (c5, 16, .inl a5)), (q6, .inl (c6, 16, .inl a6)), (q7, .inl (c7, 16, .inl a7)), (q8, .inl (c8, 16, .inl a8)), (q9, .inl (c9, 16, .inl a9)), (q10, .inl (c10, 16, .inl a10)), (q11, .inl (c11, 16, .inl a11)), (q13, .inl (c13, 1000, .inl a13)), (q14, .inl (c14, 1000, .inl a14)), (q15, .inl (c15, 4096, .inl a15))]) [6, 7, 8, 9, 10, 0, 1, 2, 11, 12, 13, 14, 3, 4, 5] rfl
                              have hD9 := hD.sub (ws' := [(h0, .inr (8, [.int 0, .ref q1, .ref q2, .ref q3, .ref q4, .ref q5, .ref q6, .ref q7, .ref q8, .ref q9, .ref q10, .ref q11, v12, .ref q13, .ref q14, .ref q15, v16])), (q1, .inl (c1, 16, .inl a1)), (q2, .inl (c2, 67200, .inl a2)), (q3, .inl (c3, 16, .inl a3)), (q4, .inl (c4, 16, .inl a4)), (q5, .inl (c5, 16, .inl a5)), (q6, .inl (c6, 16, .inl a6)), (q7, .inl (c7, 16, .inl a7)), (q8, .inl (c8, 16, .inl a8)), (q9, .inl (c9, 16, .inl a9)), (q10, .inl (c10, 16, .inl a10)), (q11, .inl (c11, 16, .inl a11)), (q13, .inl (c13, 1000, .inl a13)), (q14, .inl (c14, 1000, .inl a14)), (q15, .inl (c15, 4096, .inl a15))]) [6, 7, 8, 9, 10, 0, 1, 2, 11, 12, 13, 14, 3, 4, 5] (by decide) rfl
                              have hK9 := hK.sub (tys' := [(c1, .int), (c2, .int), (c3, .int), (c4, .int), (c5, .int), (c6, .int), (c7, .int), (c8, .int), (c9, .int), (c10, .int), (c11, .int), (c13, .int), (c14, .int), (c15, .boolean)]) [0, 1, 2, 3, 4, 5, 6, 7, 8, 9, 10, 11, 12, 13] rfl
                              refine W.widen (k := 0) (n := 0) (Nat.le_of_ble_eq_true rfl) (Nat.le_of_ble_eq_true rfl) ?_
                              exact W.lret (v := r_17) hx hb hr (fun t ht hW => ⟨⟨r_17, (0, a2, a3, a6, a7, a13, a14, a15), rfl, ⟨0, 0, by omega, rs_rf, hMa 0⟩, by rw [ht]; exact hP9, va_K.moved hW.alike hK9, hD9⟩, hS.F ht⟩) hS.2.2 dX8_map_445
                          ·
                            refine lv_iload_n hx hb dX8_map_412 rfl (lv_at hl 7 rfl) ?_
                            refine lv_bipush (v := 13) hx hb dX8_map_413 (by decide) ?_
                            refine lv_icmp_le (tgt := 432) hx hb dX8_map_415 (by decide) (fun c_18 => ?_) (fun c_18 => ?_)
                            ·
                              have ic_18 : p1.toInt ≤ 13 := tx_le rfl (by decide) c_18
                              exact jn432 (ls, H, locs) ⟨lv_sub hl [0, 1, 2, 3, 4, 5, 6, 7, 8, 9] rfl, hP.sub [0, 1, 2, 3, 4, 5, 6, 7, 8, 9, 10, 11, 12, 13, 14] rfl, hS⟩
                            ·
                              have ic_18 : 13 < p1.toInt := tx_nle rfl (by decide) c_18
                              refine lv_iload_n hx hb dX8_map_418 rfl (lv_at hl 7 rfl) ?_
                              refine lv_bipush (v := 18) hx hb dX8_map_419 (by decide) ?_
                              refine lv_icmp_ge (tgt := 432) hx hb dX8_map_421 (by decide) (fun c_19 => ?_) (fun c_19 => ?_)
                              ·
                                have ic_19 : 18 ≤ p1.toInt := tx_le (by decide) rfl c_19
                                exact jn432 (ls, H, locs) ⟨lv_sub hl [0, 1, 2, 3, 4, 5, 6, 7, 8, 9] rfl, hP.sub [0, 1, 2, 3, 4, 5, 6, 7, 8, 9, 10, 11, 12, 13, 14] rfl, hS⟩
                              ·
                                have ic_19 : p1.toInt < 18 := tx_nle (by decide) rfl c_19
                                refine lv_aload_n hx hb dX8_map_424 rfl (lv_at hl 5 rfl) ?_
                                refine lv_iload_n hx hb dX8_map_425 rfl (lv_at hl 6 rfl) ?_
                                refine lv_iload_n hx hb dX8_map_426 rfl (lv_at hl 7 rfl) ?_
                                refine lv_iload_n hx hb dX8_map_427 rfl (lv_at hl 8 rfl) ?_
                                have hPc := hP.sub (ws' := [(h0, .inr (8, [.int 0, .ref q1, .ref q2, .ref q3, .ref q4, .ref q5, .ref q6, .ref q7, .ref q8, .ref q9, .ref q10, .ref q11, v12, .ref q13, .ref q14, .ref q15, v16])), (q1, .inl (c1, 16, .inl a1)), (q2, .inl (c2, 67200, .inl a2)), (q3, .inl (c3, 16, .inl a3)), (q4, .inl (c4, 16, .inl a4)), (q8, .inl (c8, 16, .inl a8)), (q9, .inl (c9, 16, .inl a9)), (q10, .inl (c10, 16, .inl a10)), (q11, .inl (c11, 16, .inl a11))]) [12, 13, 0, 1, 2, 14, 6, 7, 8] rfl
                                have hDc := hD.sub (ws' := [(h0, .inr (8, [.int 0, .ref q1, .ref q2, .ref q3, .ref q4, .ref q5, .ref q6, .ref q7, .ref q8, .ref q9, .ref q10, .ref q11, v12, .ref q13, .ref q14, .ref q15, v16])), (q1, .inl (c1, 16, .inl a1)), (q2, .inl (c2, 67200, .inl a2)), (q3, .inl (c3, 16, .inl a3)), (q4, .inl (c4, 16, .inl a4)), (q8, .inl (c8, 16, .inl a8)), (q9, .inl (c9, 16, .inl a9)), (q10, .inl (c10, 16, .inl a10)), (q11, .inl (c11, 16, .inl a11))]) [12, 13, 0, 1, 2, 14, 6, 7, 8] (by decide) rfl
                                have hKc := hK.sub (tys' := [(c1, .int), (c2, .int), (c3, .int), (c4, .int), (c8, .int), (c9, .int), (c10, .int), (c11, .int)]) [0, 1, 2, 3, 7, 8, 9, 10] rfl
                                have hFc := va_free (wc := [(h0, .inr (8, [.int 0, .ref q1, .ref q2, .ref q3, .ref q4, .ref q5, .ref q6, .ref q7, .ref q8, .ref q9, .ref q10, .ref q11, v12, .ref q13, .ref q14, .ref q15, v16])), (q1, .inl (c1, 16, .inl a1)), (q2, .inl (c2, 67200, .inl a2)), (q3, .inl (c3, 16, .inl a3)), (q4, .inl (c4, 16, .inl a4)), (q8, .inl (c8, 16, .inl a8)), (q9, .inl (c9, 16, .inl a9)), (q10, .inl (c10, 16, .inl a10)), (q11, .inl (c11, 16, .inl a11))]) hD hS hA [12, 13, 0, 1, 2, 14, 6, 7, 8] rfl
                                refine va_calll (va_runV (As := [.int (nI o), .int p1, .int p2]) (rest := []) ⟨hx, hb, hml, hown, hts⟩ (c_X8_nearest l  dC dI H.size h0 0 q1 q2 q3 q4 q8 q9 q10 q11 c1 c2 c3 c4 c8 c9 c10 c11 a1 a2 a3 a4 a8 a9 a10 a11 (.ref q5) (.ref q6) (.ref q7) v12 (.ref q13) (.ref q14) (.ref q15) v16 o dep r nz p1 p2 ho9 hF9 hd9 hrt9 hs9 hz9) (cwV 3 hts gX8_map_X8_nearest rfl rfl rfl (by decide +kernel) ⟨(Nat.le_of_ble_eq_true rfl), (Nat.le_of_ble_eq_true rfl)⟩) ⟨pk_blind, va_recv hKc hPc (ci := 8) (q0 := 0) rfl rfl, pk_call hPc hKc hDc⟩ rfl rfl hl.1 rfl (lv_room (Nat.le_of_ble_eq_true rfl)) dX8_map_428 ⟨(Nat.le_of_ble_eq_true rfl), (Nat.le_of_ble_eq_true rfl)⟩) hS (fun q _ h => hFc q h) hFc (fun r_20 ur_20 t H1 locs ht hvm hw hB hz1 hk1 hS => ?_)
                                try dsimp only at hw
                                have jr_20 := hw
                                obtain ⟨hP1, hK1, hD1⟩ := hB
                                rw [ht] at hP1
                                have hK1 := va_K.moved hvm.symm hK1
                                obtain ⟨hP, hD⟩ := va_join (wr := [(q5, .inl (c5, 16, .inl a5)), (q6, .inl (c6, 16, .inl a6)), (q7, .inl (c7, 16, .inl a7)), (q13, .inl (c13, 1000, .inl a13)), (q14, .inl (c14, 1000, .inl a14)), (q15, .inl (c15, 4096, .inl a15))]) (w1 := [(h0, .inr (8, [.int 0, .ref q1, .ref q2, .ref q3, .ref q4, .ref q5, .ref q6, .ref q7, .ref q8, .ref q9, .ref q10, .ref q11, v12, .ref q13, .ref q14, .ref q15, v16])), (q1, .inl (c1, 16, .inl a1)), (q2, .inl (c2, 67200, .inl a2)), (q3, .inl (c3, 16, .inl a3)), (q4, .inl (c4, 16, .inl a4)), (q8, .inl (c8, 16, .inl a8)), (q9, .inl (c9, 16, .inl a9)), (q10, .inl (c10, 16, .inl a10)), (q11, .inl (c11, 16, .inl a11))]) hP hD [12, 13, 0, 1, 2, 14, 6, 7, 8] [3, 4, 5, 9, 10, 11] rfl rfl (by decide) (by decide) hk1 hFc hP1 hD1
                                clear hk1 hz1 ht hPc hDc hKc hFc
                                generalize H1 = H at hP hS ⊢
                                replace hP : va_P (dC, dI) vwCl [(q5, .inl (c5, 16, .inl a5)), (q6, .inl (c6, 16, .inl a6)), (q7, .inl (c7, 16, .inl a7)), (q13, .inl (c13, 1000, .inl a13)), (q14, .inl (c14, 1000, .inl a14)), (q15, .inl (c15, 4096, .inl a15)), (h0, .inr (8, [.int 0, .ref q1, .ref q2, .ref q3, .ref q4, .ref q5, .ref q6, .ref q7, .ref q8, .ref q9, .ref q10, .ref q11, v12, .ref q13, .ref q14, .ref q15, v16])), (q1, .inl (c1, 16, .inl a1)), (q2, .inl (c2, 67200, .inl a2)), (q3, .inl (c3, 16, .inl a3)), (q4, .inl (c4, 16, .inl a4)), (q8, .inl (c8, 16, .inl a8)), (q9, .inl (c9, 16, .inl a9)), (q10, .inl (c10, 16, .inl a10)), (q11, .inl (c11, 16, .inl a11))] H := hP
                                replace hD : va_D A [(q5, .inl (c5, 16, .inl a5)), (q6, .inl (c6, 16, .inl a6)), (q7, .inl (c7, 16, .inl a7)), (q13, .inl (c13, 1000, .inl a13)), (q14, .inl (c14, 1000, .inl a14)), (q15, .inl (c15, 4096, .inl a15)), (h0, .inr (8, [.int 0, .ref q1, .ref q2, .ref q3, .ref q4, .ref q5, .ref q6, .ref q7, .ref q8, .ref q9, .ref q10, .ref q11, v12, .ref q13, .ref q14, .ref q15, v16])), (q1, .inl (c1, 16, .inl a1)), (q2, .inl (c2, 67200, .inl a2)), (q3, .inl (c3, 16, .inl a3)), (q4, .inl (c4, 16, .inl a4)), (q8, .inl (c8, 16, .inl a8)), (q9, .inl (c9, 16, .inl a9)), (q10, .inl (c10, 16, .inl a10)), (q11, .inl (c11, 16, .inl a11))] := hD
                                refine W.widen (k := 0) (n := 0) (Nat.le_of_ble_eq_true rfl) (Nat.le_of_ble_eq_true rfl) ?_
                                refine W.eq (g2 := F0 m 431 ls [.long r_20]) rfl ?_
                                have hP9 := hP.sub (ws' := [(h0, .inr (8, [.int 0, .ref q1, .ref q2, .ref q3, .ref q4, .ref q5, .ref q6, .ref q7, .ref q8, .ref q9, .ref q10, .ref q11, v12, .ref q13, .ref q14, .ref q15, v16])), (q1, .inl (c1, 16, .inl a1)), (q2, .inl (c2, 67200, .inl a2)), (q3, .inl (c3, 16, .inl a3)), (q4, .inl (c4, 16, .inl a4)), (q5, .inl (c5, 16, .inl a5)), (q6, .inl (c6, 16, .inl a6)), (q7, .inl (c7, 16, .inl a7)), (q8, .inl (c8, 16, .inl a8)), (q9, .inl (c9, 16, .inl a9)), (q10, .inl (c10, 16, .inl a10)), (q11, .inl (c11, 16, .inl a11)), (q13, .inl (c13, 1000, .inl a13)), (q14, .inl (c14, 1000, .inl a14)), (q15, .inl (c15, 4096, .inl a15))]) [6, 7, 8, 9, 10, 0, 1, 2, 11, 12, 13, 14, 3, 4, 5] rfl
                                have hD9 := hD.sub (ws' := [(h0, .inr (8, [.int 0, .ref q1, .ref q2, .ref q3, .ref q4, .ref q5, .ref q6, .ref q7, .ref q8, .ref q9, .ref q10, .ref q11, v12, .ref q13, .ref q14, .ref q15, v16])), (q1, .inl (c1, 16, .inl a1)), (q2, .inl (c2, 67200, .inl a2)), (q3, .inl (c3, 16, .inl a3)), (q4, .inl (c4, 16, .inl a4)), (q5, .inl (c5, 16, .inl a5)), (q6, .inl (c6, 16, .inl a6)), (q7, .inl (c7, 16, .inl a7)), (q8, .inl (c8, 16, .inl a8)), (q9, .inl (c9, 16, .inl a9)), (q10, .inl (c10, 16, .inl a10)), (q11, .inl (c11, 16, .inl a11)), (q13, .inl (c13, 1000, .inl a13)), (q14, .inl (c14, 1000, .inl a14)), (q15, .inl (c15, 4096, .inl a15))]) [6, 7, 8, 9, 10, 0, 1, 2, 11, 12, 13, 14, 3, 4, 5] (by decide) rfl
                                have hK9 := hK.sub (tys' := [(c1, .int), (c2, .int), (c3, .int), (c4, .int), (c5, .int), (c6, .int), (c7, .int), (c8, .int), (c9, .int), (c10, .int), (c11, .int), (c13, .int), (c14, .int), (c15, .boolean)]) [0, 1, 2, 3, 4, 5, 6, 7, 8, 9, 10, 11, 12, 13] rfl
                                refine W.widen (k := 0) (n := 0) (Nat.le_of_ble_eq_true rfl) (Nat.le_of_ble_eq_true rfl) ?_
                                exact W.lret (v := r_20) hx hb hr (fun t ht hW => ⟨⟨r_20, (0, a2, a3, a6, a7, a13, a14, a15), rfl, ⟨0, 0, by omega, rs_rf, hMa 0⟩, by rw [ht]; exact hP9, va_K.moved hW.alike hK9, hD9⟩, hS.F ht⟩) hS.2.2 dX8_map_431
                        ·
                          refine lv_iload_n hx hb dX8_map_393 rfl (lv_at hl 7 rfl) ?_
                          refine lv_bipush (v := 9) hx hb dX8_map_394 (by decide) ?_
                          refine lv_icmp_le (tgt := 412) hx hb dX8_map_396 (by decide) (fun c_21 => ?_) (fun c_21 => ?_)
                          ·
                            have ic_21 : p1.toInt ≤ 9 := tx_le rfl (by decide) c_21
                            exact jn412 (ls, H, locs) ⟨lv_sub hl [0, 1, 2, 3, 4, 5, 6, 7, 8, 9] rfl, hP.sub [0, 1, 2, 3, 4, 5, 6, 7, 8, 9, 10, 11, 12, 13, 14] rfl, hS⟩
                          ·
                            have ic_21 : 9 < p1.toInt := tx_nle rfl (by decide) c_21
                            refine lv_iload_n hx hb dX8_map_399 rfl (lv_at hl 7 rfl) ?_
                            refine lv_bipush (v := 14) hx hb dX8_map_400 (by decide) ?_
                            refine lv_icmp_ge (tgt := 412) hx hb dX8_map_402 (by decide) (fun c_22 => ?_) (fun c_22 => ?_)
                            ·
                              have ic_22 : 14 ≤ p1.toInt := tx_le (by decide) rfl c_22
                              exact jn412 (ls, H, locs) ⟨lv_sub hl [0, 1, 2, 3, 4, 5, 6, 7, 8, 9] rfl, hP.sub [0, 1, 2, 3, 4, 5, 6, 7, 8, 9, 10, 11, 12, 13, 14] rfl, hS⟩
                            ·
                              have ic_22 : p1.toInt < 14 := tx_nle (by decide) rfl c_22
                              refine lv_aload_n hx hb dX8_map_405 rfl (lv_at hl 5 rfl) ?_
                              refine lv_iload_n hx hb dX8_map_406 rfl (lv_at hl 6 rfl) ?_
                              refine lv_iload_n hx hb dX8_map_407 rfl (lv_at hl 7 rfl) ?_
                              have hPc := hP.sub (ws' := [(h0, .inr (8, [.int 0, .ref q1, .ref q2, .ref q3, .ref q4, .ref q5, .ref q6, .ref q7, .ref q8, .ref q9, .ref q10, .ref q11, v12, .ref q13, .ref q14, .ref q15, v16])), (q1, .inl (c1, 16, .inl a1)), (q2, .inl (c2, 67200, .inl a2)), (q3, .inl (c3, 16, .inl a3)), (q4, .inl (c4, 16, .inl a4)), (q5, .inl (c5, 16, .inl a5)), (q6, .inl (c6, 16, .inl a6)), (q7, .inl (c7, 16, .inl a7)), (q8, .inl (c8, 16, .inl a8)), (q9, .inl (c9, 16, .inl a9)), (q10, .inl (c10, 16, .inl a10)), (q11, .inl (c11, 16, .inl a11))]) [12, 13, 0, 1, 2, 3, 4, 5, 14, 6, 7, 8] rfl
                              have hDc := hD.sub (ws' := [(h0, .inr (8, [.int 0, .ref q1, .ref q2, .ref q3, .ref q4, .ref q5, .ref q6, .ref q7, .ref q8, .ref q9, .ref q10, .ref q11, v12, .ref q13, .ref q14, .ref q15, v16])), (q1, .inl (c1, 16, .inl a1)), (q2, .inl (c2, 67200, .inl a2)), (q3, .inl (c3, 16, .inl a3)), (q4, .inl (c4, 16, .inl a4)), (q5, .inl (c5, 16, .inl a5)), (q6, .inl (c6, 16, .inl a6)), (q7, .inl (c7, 16, .inl a7)), (q8, .inl (c8, 16, .inl a8)), (q9, .inl (c9, 16, .inl a9)), (q10, .inl (c10, 16, .inl a10)), (q11, .inl (c11, 16, .inl a11))]) [12, 13, 0, 1, 2, 3, 4, 5, 14, 6, 7, 8] (by decide) rfl
                              have hKc := hK.sub (tys' := [(c1, .int), (c2, .int), (c3, .int), (c4, .int), (c5, .int), (c6, .int), (c7, .int), (c8, .int), (c9, .int), (c10, .int), (c11, .int)]) [0, 1, 2, 3, 4, 5, 6, 7, 8, 9, 10] rfl
                              have hFc := va_free (wc := [(h0, .inr (8, [.int 0, .ref q1, .ref q2, .ref q3, .ref q4, .ref q5, .ref q6, .ref q7, .ref q8, .ref q9, .ref q10, .ref q11, v12, .ref q13, .ref q14, .ref q15, v16])), (q1, .inl (c1, 16, .inl a1)), (q2, .inl (c2, 67200, .inl a2)), (q3, .inl (c3, 16, .inl a3)), (q4, .inl (c4, 16, .inl a4)), (q5, .inl (c5, 16, .inl a5)), (q6, .inl (c6, 16, .inl a6)), (q7, .inl (c7, 16, .inl a7)), (q8, .inl (c8, 16, .inl a8)), (q9, .inl (c9, 16, .inl a9)), (q10, .inl (c10, 16, .inl a10)), (q11, .inl (c11, 16, .inl a11))]) hD hS hA [12, 13, 0, 1, 2, 3, 4, 5, 14, 6, 7, 8] rfl
                              refine va_calll (va_runV (As := [.int (nI o), .int p1]) (rest := []) ⟨hx, hb, hml, hown, hts⟩ (c_X8_end l  dC dI H.size h0 0 q1 q2 q3 q4 q5 q6 q7 q8 q9 q10 q11 c1 c2 c3 c4 c5 c6 c7 c8 c9 c10 c11 a1 a2 a3 a4 a5 a6 a7 a8 a9 a10 a11 v12 (.ref q13) (.ref q14) (.ref q15) v16 o dep r p1 ho9 hF9 hd9 hrt9 hM9) (cwV 2 hts gX8_map_X8_end rfl rfl rfl (by decide +kernel) ⟨(Nat.le_of_ble_eq_true rfl), (Nat.le_of_ble_eq_true rfl)⟩) ⟨pk_blind, va_recv hKc hPc (ci := 8) (q0 := 0) rfl rfl, pk_call hPc hKc hDc⟩ rfl rfl hl.1 rfl (lv_room (Nat.le_of_ble_eq_true rfl)) dX8_map_408 ⟨(Nat.le_of_ble_eq_true rfl), (Nat.le_of_ble_eq_true rfl)⟩) hS (fun q _ h => hFc q h) hFc (fun r_23 ur_23 t H1 locs ht hvm hw hB hz1 hk1 hS => ?_)
                              try dsimp only at hw
                              have jr_23 := hw
                              obtain ⟨hP1, hK1, hD1⟩ := hB
                              rw [ht] at hP1
                              have hK1 := va_K.moved hvm.symm hK1
                              obtain ⟨hP, hD⟩ := va_join (wr := [(q13, .inl (c13, 1000, .inl a13)), (q14, .inl (c14, 1000, .inl a14)), (q15, .inl (c15, 4096, .inl a15))]) (w1 := [(h0, .inr (8, [.int ur_23.1, .ref q1, .ref q2, .ref q3, .ref q4, .ref q5, .ref q6, .ref q7, .ref q8, .ref q9, .ref q10, .ref q11, v12, .ref q13, .ref q14, .ref q15, v16])), (q1, .inl (c1, 16, .inl a1)), (q2, .inl (c2, 67200, .inl ur_23.2.1)), (q3, .inl (c3, 16, .inl ur_23.2.2.1)), (q4, .inl (c4, 16, .inl a4)), (q5, .inl (c5, 16, .inl a5)), (q6, .inl (c6, 16, .inl a6)), (q7, .inl (c7, 16, .inl ur_23.2.2.2)), (q8, .inl (c8, 16, .inl a8)), (q9, .inl (c9, 16, .inl a9)), (q10, .inl (c10, 16, .inl a10)), (q11, .inl (c11, 16, .inl a11))]) hP hD [12, 13, 0, 1, 2, 3, 4, 5, 14, 6, 7, 8] [9, 10, 11] rfl rfl (by decide) (by decide) hk1 hFc hP1 hD1
                              clear hk1 hz1 ht hPc hDc hKc hFc
                              generalize H1 = H at hP hS ⊢
                              replace hP : va_P (dC, dI) vwCl [(q13, .inl (c13, 1000, .inl a13)), (q14, .inl (c14, 1000, .inl a14)), (q15, .inl (c15, 4096, .inl a15)), (h0, .inr (8, [.int ur_23.1, .ref q1, .ref q2, .ref q3, .ref q4, .ref q5, .ref q6, .ref q7, .ref q8, .ref q9, .ref q10, .ref q11, v12, .ref q13, .ref q14, .ref q15, v16])), (q1, .inl (c1, 16, .inl a1)), (q2, .inl (c2, 67200, .inl ur_23.2.1)), (q3, .inl (c3, 16, .inl ur_23.2.2.1)), (q4, .inl (c4, 16, .inl a4)), (q5, .inl (c5, 16, .inl a5)), (q6, .inl (c6, 16, .inl a6)), (q7, .inl (c7, 16, .inl ur_23.2.2.2)), (q8, .inl (c8, 16, .inl a8)), (q9, .inl (c9, 16, .inl a9)), (q10, .inl (c10, 16, .inl a10)), (q11, .inl (c11, 16, .inl a11))] H := hP
                              replace hD : va_D A [(q13, .inl (c13, 1000, .inl a13)), (q14, .inl (c14, 1000, .inl a14)), (q15, .inl (c15, 4096, .inl a15)), (h0, .inr (8, [.int ur_23.1, .ref q1, .ref q2, .ref q3, .ref q4, .ref q5, .ref q6, .ref q7, .ref q8, .ref q9, .ref q10, .ref q11, v12, .ref q13, .ref q14, .ref q15, v16])), (q1, .inl (c1, 16, .inl a1)), (q2, .inl (c2, 67200, .inl ur_23.2.1)), (q3, .inl (c3, 16, .inl ur_23.2.2.1)), (q4, .inl (c4, 16, .inl a4)), (q5, .inl (c5, 16, .inl a5)), (q6, .inl (c6, 16, .inl a6)), (q7, .inl (c7, 16, .inl ur_23.2.2.2)), (q8, .inl (c8, 16, .inl a8)), (q9, .inl (c9, 16, .inl a9)), (q10, .inl (c10, 16, .inl a10)), (q11, .inl (c11, 16, .inl a11))] := hD
                              refine W.widen (k := 0) (n := 0) (Nat.le_of_ble_eq_true rfl) (Nat.le_of_ble_eq_true rfl) ?_
                              refine W.eq (g2 := F0 m 411 ls [.long r_23]) rfl ?_
                              obtain ⟨⟨d9, y1_, y2_⟩, y3_⟩ := jr_23
                              have hP9 := hP.sub (ws' := [(h0, .inr (8, [.int ur_23.1, .ref q1, .ref q2, .ref q3, .ref q4, .ref q5, .ref q6, .ref q7, .ref q8, .ref q9, .ref q10, .ref q11, v12, .ref q13, .ref q14, .ref q15, v16])), (q1, .inl (c1, 16, .inl a1)), (q2, .inl (c2, 67200, .inl ur_23.2.1)), (q3, .inl (c3, 16, .inl ur_23.2.2.1)), (q4, .inl (c4, 16, .inl a4)), (q5, .inl (c5, 16, .inl a5)), (q6, .inl (c6, 16, .inl a6)), (q7, .inl (c7, 16, .inl ur_23.2.2.2)), (q8, .inl (c8, 16, .inl a8)), (q9, .inl (c9, 16, .inl a9)), (q10, .inl (c10, 16, .inl a10)), (q11, .inl (c11, 16, .inl a11)), (q13, .inl (c13, 1000, .inl a13)), (q14, .inl (c14, 1000, .inl a14)), (q15, .inl (c15, 4096, .inl a15))]) [3, 4, 5, 6, 7, 8, 9, 10, 11, 12, 13, 14, 0, 1, 2] rfl
                              have hD9 := hD.sub (ws' := [(h0, .inr (8, [.int ur_23.1, .ref q1, .ref q2, .ref q3, .ref q4, .ref q5, .ref q6, .ref q7, .ref q8, .ref q9, .ref q10, .ref q11, v12, .ref q13, .ref q14, .ref q15, v16])), (q1, .inl (c1, 16, .inl a1)), (q2, .inl (c2, 67200, .inl ur_23.2.1)), (q3, .inl (c3, 16, .inl ur_23.2.2.1)), (q4, .inl (c4, 16, .inl a4)), (q5, .inl (c5, 16, .inl a5)), (q6, .inl (c6, 16, .inl a6)), (q7, .inl (c7, 16, .inl ur_23.2.2.2)), (q8, .inl (c8, 16, .inl a8)), (q9, .inl (c9, 16, .inl a9)), (q10, .inl (c10, 16, .inl a10)), (q11, .inl (c11, 16, .inl a11)), (q13, .inl (c13, 1000, .inl a13)), (q14, .inl (c14, 1000, .inl a14)), (q15, .inl (c15, 4096, .inl a15))]) [3, 4, 5, 6, 7, 8, 9, 10, 11, 12, 13, 14, 0, 1, 2] (by decide) rfl
                              have hK9 := hK.sub (tys' := [(c1, .int), (c2, .int), (c3, .int), (c4, .int), (c5, .int), (c6, .int), (c7, .int), (c8, .int), (c9, .int), (c10, .int), (c11, .int), (c13, .int), (c14, .int), (c15, .boolean)]) [0, 1, 2, 3, 4, 5, 6, 7, 8, 9, 10, 11, 12, 13] rfl
                              refine W.widen (k := 0) (n := 0) (Nat.le_of_ble_eq_true rfl) (Nat.le_of_ble_eq_true rfl) ?_
                              exact W.lret (v := r_23) hx hb hr (fun t ht hW => ⟨⟨r_23, (ur_23.1, ur_23.2.1, ur_23.2.2.1, a6, ur_23.2.2.2, a13, a14, a15), rfl, ⟨r, d9, by omega, y2_, fun _ _ _ => y3_⟩, by rw [ht]; exact hP9, va_K.moved hW.alike hK9, hD9⟩, hS.F ht⟩) hS.2.2 dX8_map_411
                      ·
                        have ic_12 : p1.toInt = 21 := tx_eq rfl (by decide) c_12
                        refine lv_aload_n hx hb dX8_map_385 rfl (lv_at hl 5 rfl) ?_
                        refine va_get (D := (dC, dI)) (ci := 8) (v := .ref q6) (C := RX8) (T := TX8) (N := 17) hx hb hts hi0_ hown hK hP 12 rfl rfl 6 (by decide) hw0_ (fun _ h9 => h9) rfl dX8_map_386 ?_
                        refine lv_iload_n hx hb dX8_map_389 rfl (lv_at hl 6 rfl) ?_
                        refine va_iald (i := nI o) hx hb hK hP 4 5 rfl rfl (vp_in_nI (by omega) (by omega)) dX8_map_390 ?_
                        refine W.eq (g2 := F0 m 391 ls [.int (a6 o)]) (by rw [nI_clamp (by omega)]) ?_
                        refine lv_i2l (v := (a6 o).toInt64) hx hb dX8_map_391 rfl ?_
                        have hP9 := hP.sub (ws' := [(h0, .inr (8, [.int 0, .ref q1, .ref q2, .ref q3, .ref q4, .ref q5, .ref q6, .ref q7, .ref q8, .ref q9, .ref q10, .ref q11, v12, .ref q13, .ref q14, .ref q15, v16])), (q1, .inl (c1, 16, .inl a1)), (q2, .inl (c2, 67200, .inl a2)), (q3, .inl (c3, 16, .inl a3)), (q4, .inl (c4, 16, .inl a4)), (q5, .inl (c5, 16, .inl a5)), (q6, .inl (c6, 16, .inl a6)), (q7, .inl (c7, 16, .inl a7)), (q8, .inl (c8, 16, .inl a8)), (q9, .inl (c9, 16, .inl a9)), (q10, .inl (c10, 16, .inl a10)), (q11, .inl (c11, 16, .inl a11)), (q13, .inl (c13, 1000, .inl a13)), (q14, .inl (c14, 1000, .inl a14)), (q15, .inl (c15, 4096, .inl a15))]) [12, 13, 0, 1, 2, 3, 4, 5, 14, 6, 7, 8, 9, 10, 11] rfl
                        have hD9 := hD.sub (ws' := [(h0, .inr (8, [.int 0, .ref q1, .ref q2, .ref q3, .ref q4, .ref q5, .ref q6, .ref q7, .ref q8, .ref q9, .ref q10, .ref q11, v12, .ref q13, .ref q14, .ref q15, v16])), (q1, .inl (c1, 16, .inl a1)), (q2, .inl (c2, 67200, .inl a2)), (q3, .inl (c3, 16, .inl a3)), (q4, .inl (c4, 16, .inl a4)), (q5, .inl (c5, 16, .inl a5)), (q6, .inl (c6, 16, .inl a6)), (q7, .inl (c7, 16, .inl a7)), (q8, .inl (c8, 16, .inl a8)), (q9, .inl (c9, 16, .inl a9)), (q10, .inl (c10, 16, .inl a10)), (q11, .inl (c11, 16, .inl a11)), (q13, .inl (c13, 1000, .inl a13)), (q14, .inl (c14, 1000, .inl a14)), (q15, .inl (c15, 4096, .inl a15))]) [12, 13, 0, 1, 2, 3, 4, 5, 14, 6, 7, 8, 9, 10, 11] (by decide) rfl
                        have hK9 := hK.sub (tys' := [(c1, .int), (c2, .int), (c3, .int), (c4, .int), (c5, .int), (c6, .int), (c7, .int), (c8, .int), (c9, .int), (c10, .int), (c11, .int), (c13, .int), (c14, .int), (c15, .boolean)]) [0, 1, 2, 3, 4, 5, 6, 7, 8, 9, 10, 11, 12, 13] rfl
                        refine W.widen (k := 0) (n := 0) (Nat.le_of_ble_eq_true rfl) (Nat.le_of_ble_eq_true rfl) ?_
                        exact W.lret (v := (a6 o).toInt64) hx hb hr (fun t ht hW => ⟨⟨(a6 o).toInt64, (0, a2, a3, a6, a7, a13, a14, a15), rfl, ⟨0, 0, by omega, rs_rf, hMa 0⟩, by rw [ht]; exact hP9, va_K.moved hW.alike hK9, hD9⟩, hS.F ht⟩) hS.2.2 dX8_map_392
                    ·
                      have ic_11 : p1.toInt = 5 := tx_eq rfl (by decide) c_11
                      refine lv_aload_n hx hb dX8_map_373 rfl (lv_at hl 5 rfl) ?_
                      refine lv_iload_n hx hb dX8_map_374 rfl (lv_at hl 6 rfl) ?_
                      have hPc := hP.sub (ws' := [(h0, .inr (8, [.int 0, .ref q1, .ref q2, .ref q3, .ref q4, .ref q5, .ref q6, .ref q7, .ref q8, .ref q9, .ref q10, .ref q11, v12, .ref q13, .ref q14, .ref q15, v16])), (q1, .inl (c1, 16, .inl a1)), (q2, .inl (c2, 67200, .inl a2)), (q3, .inl (c3, 16, .inl a3)), (q4, .inl (c4, 16, .inl a4)), (q6, .inl (c6, 16, .inl a6)), (q7, .inl (c7, 16, .inl a7)), (q8, .inl (c8, 16, .inl a8)), (q9, .inl (c9, 16, .inl a9)), (q10, .inl (c10, 16, .inl a10)), (q11, .inl (c11, 16, .inl a11))]) [12, 13, 0, 1, 2, 4, 5, 14, 6, 7, 8] rfl
                      have hDc := hD.sub (ws' := [(h0, .inr (8, [.int 0, .ref q1, .ref q2, .ref q3, .ref q4, .ref q5, .ref q6, .ref q7, .ref q8, .ref q9, .ref q10, .ref q11, v12, .ref q13, .ref q14, .ref q15, v16])), (q1, .inl (c1, 16, .inl a1)), (q2, .inl (c2, 67200, .inl a2)), (q3, .inl (c3, 16, .inl a3)), (q4, .inl (c4, 16, .inl a4)), (q6, .inl (c6, 16, .inl a6)), (q7, .inl (c7, 16, .inl a7)), (q8, .inl (c8, 16, .inl a8)), (q9, .inl (c9, 16, .inl a9)), (q10, .inl (c10, 16, .inl a10)), (q11, .inl (c11, 16, .inl a11))]) [12, 13, 0, 1, 2, 4, 5, 14, 6, 7, 8] (by decide) rfl
                      have hKc := hK.sub (tys' := [(c1, .int), (c2, .int), (c3, .int), (c4, .int), (c6, .int), (c7, .int), (c8, .int), (c9, .int), (c10, .int), (c11, .int)]) [0, 1, 2, 3, 5, 6, 7, 8, 9, 10] rfl
                      have hFc := va_free (wc := [(h0, .inr (8, [.int 0, .ref q1, .ref q2, .ref q3, .ref q4, .ref q5, .ref q6, .ref q7, .ref q8, .ref q9, .ref q10, .ref q11, v12, .ref q13, .ref q14, .ref q15, v16])), (q1, .inl (c1, 16, .inl a1)), (q2, .inl (c2, 67200, .inl a2)), (q3, .inl (c3, 16, .inl a3)), (q4, .inl (c4, 16, .inl a4)), (q6, .inl (c6, 16, .inl a6)), (q7, .inl (c7, 16, .inl a7)), (q8, .inl (c8, 16, .inl a8)), (q9, .inl (c9, 16, .inl a9)), (q10, .inl (c10, 16, .inl a10)), (q11, .inl (c11, 16, .inl a11))]) hD hS hA [12, 13, 0, 1, 2, 4, 5, 14, 6, 7, 8] rfl
                      refine va_calll (va_runV (As := [.int (nI o)]) (rest := []) ⟨hx, hb, hml, hown, hts⟩ (c_X8_cleared l  dC dI H.size h0 0 q1 q2 q3 q4 q6 q7 q8 q9 q10 q11 c1 c2 c3 c4 c6 c7 c8 c9 c10 c11 a1 a2 a3 a4 a6 a7 a8 a9 a10 a11 (.ref q5) v12 (.ref q13) (.ref q14) (.ref q15) v16 o dep r ho9 hF9 hd9 hrt9 hM9) (cwV 1 hts gX8_map_X8_cleared rfl rfl rfl (by decide +kernel) ⟨(Nat.le_of_ble_eq_true rfl), (Nat.le_of_ble_eq_true rfl)⟩) ⟨pk_blind, va_recv hKc hPc (ci := 8) (q0 := 0) rfl rfl, pk_call hPc hKc hDc⟩ rfl rfl hl.1 rfl (lv_room (Nat.le_of_ble_eq_true rfl)) dX8_map_375 ⟨(Nat.le_of_ble_eq_true rfl), (Nat.le_of_ble_eq_true rfl)⟩) hS (fun q _ h => hFc q h) hFc (fun r_24 ur_24 t H1 locs ht hvm hw hB hz1 hk1 hS => ?_)
                      try dsimp only at hw
                      have jr_24 := hw
                      obtain ⟨hP1, hK1, hD1⟩ := hB
                      rw [ht] at hP1
                      have hK1 := va_K.moved hvm.symm hK1
                      obtain ⟨hP, hD⟩ := va_join (wr := [(q5, .inl (c5, 16, .inl a5)), (q13, .inl (c13, 1000, .inl a13)), (q14, .inl (c14, 1000, .inl a14)), (q15, .inl (c15, 4096, .inl a15))]) (w1 := [(h0, .inr (8, [.int 0, .ref q1, .ref q2, .ref q3, .ref q4, .ref q5, .ref q6, .ref q7, .ref q8, .ref q9, .ref q10, .ref q11, v12, .ref q13, .ref q14, .ref q15, v16])), (q1, .inl (c1, 16, .inl a1)), (q2, .inl (c2, 67200, .inl ur_24.1)), (q3, .inl (c3, 16, .inl ur_24.2.1)), (q4, .inl (c4, 16, .inl a4)), (q6, .inl (c6, 16, .inl a6)), (q7, .inl (c7, 16, .inl ur_24.2.2)), (q8, .inl (c8, 16, .inl a8)), (q9, .inl (c9, 16, .inl a9)), (q10, .inl (c10, 16, .inl a10)), (q11, .inl (c11, 16, .inl a11))]) hP hD [12, 13, 0, 1, 2, 4, 5, 14, 6, 7, 8] [3, 9, 10, 11] rfl rfl (by decide) (by decide) hk1 hFc hP1 hD1
                      clear hk1 hz1 ht hPc hDc hKc hFc
                      generalize H1 = H at hP hS ⊢
                      replace hP : va_P (dC, dI) vwCl [(q5, .inl (c5, 16, .inl a5)), (q13, .inl (c13, 1000, .inl a13)), (q14, .inl (c14, 1000, .inl a14)), (q15, .inl (c15, 4096, .inl a15)), (h0, .inr (8, [.int 0, .ref q1, .ref q2, .ref q3, .ref q4, .ref q5, .ref q6, .ref q7, .ref q8, .ref q9, .ref q10, .ref q11, v12, .ref q13, .ref q14, .ref q15, v16])), (q1, .inl (c1, 16, .inl a1)), (q2, .inl (c2, 67200, .inl ur_24.1)), (q3, .inl (c3, 16, .inl ur_24.2.1)), (q4, .inl (c4, 16, .inl a4)), (q6, .inl (c6, 16, .inl a6)), (q7, .inl (c7, 16, .inl ur_24.2.2)), (q8, .inl (c8, 16, .inl a8)), (q9, .inl (c9, 16, .inl a9)), (q10, .inl (c10, 16, .inl a10)), (q11, .inl (c11, 16, .inl a11))] H := hP
                      replace hD : va_D A [(q5, .inl (c5, 16, .inl a5)), (q13, .inl (c13, 1000, .inl a13)), (q14, .inl (c14, 1000, .inl a14)), (q15, .inl (c15, 4096, .inl a15)), (h0, .inr (8, [.int 0, .ref q1, .ref q2, .ref q3, .ref q4, .ref q5, .ref q6, .ref q7, .ref q8, .ref q9, .ref q10, .ref q11, v12, .ref q13, .ref q14, .ref q15, v16])), (q1, .inl (c1, 16, .inl a1)), (q2, .inl (c2, 67200, .inl ur_24.1)), (q3, .inl (c3, 16, .inl ur_24.2.1)), (q4, .inl (c4, 16, .inl a4)), (q6, .inl (c6, 16, .inl a6)), (q7, .inl (c7, 16, .inl ur_24.2.2)), (q8, .inl (c8, 16, .inl a8)), (q9, .inl (c9, 16, .inl a9)), (q10, .inl (c10, 16, .inl a10)), (q11, .inl (c11, 16, .inl a11))] := hD
                      refine W.widen (k := 0) (n := 0) (Nat.le_of_ble_eq_true rfl) (Nat.le_of_ble_eq_true rfl) ?_
                      refine W.eq (g2 := F0 m 378 ls [.long r_24]) rfl ?_
                      obtain ⟨⟨d9, y1_, y2_⟩, y3_⟩ := jr_24
                      have hP9 := hP.sub (ws' := [(h0, .inr (8, [.int 0, .ref q1, .ref q2, .ref q3, .ref q4, .ref q5, .ref q6, .ref q7, .ref q8, .ref q9, .ref q10, .ref q11, v12, .ref q13, .ref q14, .ref q15, v16])), (q1, .inl (c1, 16, .inl a1)), (q2, .inl (c2, 67200, .inl ur_24.1)), (q3, .inl (c3, 16, .inl ur_24.2.1)), (q4, .inl (c4, 16, .inl a4)), (q5, .inl (c5, 16, .inl a5)), (q6, .inl (c6, 16, .inl a6)), (q7, .inl (c7, 16, .inl ur_24.2.2)), (q8, .inl (c8, 16, .inl a8)), (q9, .inl (c9, 16, .inl a9)), (q10, .inl (c10, 16, .inl a10)), (q11, .inl (c11, 16, .inl a11)), (q13, .inl (c13, 1000, .inl a13)), (q14, .inl (c14, 1000, .inl a14)), (q15, .inl (c15, 4096, .inl a15))]) [4, 5, 6, 7, 8, 0, 9, 10, 11, 12, 13, 14, 1, 2, 3] rfl
                      have hD9 := hD.sub (ws' := [(h0, .inr (8, [.int 0, .ref q1, .ref q2, .ref q3, .ref q4, .ref q5, .ref q6, .ref q7, .ref q8, .ref q9, .ref q10, .ref q11, v12, .ref q13, .ref q14, .ref q15, v16])), (q1, .inl (c1, 16, .inl a1)), (q2, .inl (c2, 67200, .inl ur_24.1)), (q3, .inl (c3, 16, .inl ur_24.2.1)), (q4, .inl (c4, 16, .inl a4)), (q5, .inl (c5, 16, .inl a5)), (q6, .inl (c6, 16, .inl a6)), (q7, .inl (c7, 16, .inl ur_24.2.2)), (q8, .inl (c8, 16, .inl a8)), (q9, .inl (c9, 16, .inl a9)), (q10, .inl (c10, 16, .inl a10)), (q11, .inl (c11, 16, .inl a11)), (q13, .inl (c13, 1000, .inl a13)), (q14, .inl (c14, 1000, .inl a14)), (q15, .inl (c15, 4096, .inl a15))]) [4, 5, 6, 7, 8, 0, 9, 10, 11, 12, 13, 14, 1, 2, 3] (by decide) rfl
                      have hK9 := hK.sub (tys' := [(c1, .int), (c2, .int), (c3, .int), (c4, .int), (c5, .int), (c6, .int), (c7, .int), (c8, .int), (c9, .int), (c10, .int), (c11, .int), (c13, .int), (c14, .int), (c15, .boolean)]) [0, 1, 2, 3, 4, 5, 6, 7, 8, 9, 10, 11, 12, 13] rfl
                      refine W.widen (k := 0) (n := 0) (Nat.le_of_ble_eq_true rfl) (Nat.le_of_ble_eq_true rfl) ?_
                      exact W.lret (v := r_24) hx hb hr (fun t ht hW => ⟨⟨r_24, (0, ur_24.1, ur_24.2.1, a6, ur_24.2.2, a13, a14, a15), rfl, ⟨r, d9, by omega, y2_, fun _ _ _ => y3_⟩, by rw [ht]; exact hP9, va_K.moved hW.alike hK9, hD9⟩, hS.F ht⟩) hS.2.2 dX8_map_378
                  ·
                    have ic_10 : p1.toInt = 4 := tx_eq rfl (by decide) c_10
                    refine lv_aload_n hx hb dX8_map_361 rfl (lv_at hl 5 rfl) ?_
                    refine lv_iload_n hx hb dX8_map_362 rfl (lv_at hl 6 rfl) ?_
                    have hPc := hP.sub (ws' := [(h0, .inr (8, [.int 0, .ref q1, .ref q2, .ref q3, .ref q4, .ref q5, .ref q6, .ref q7, .ref q8, .ref q9, .ref q10, .ref q11, v12, .ref q13, .ref q14, .ref q15, v16])), (q1, .inl (c1, 16, .inl a1)), (q2, .inl (c2, 67200, .inl a2)), (q3, .inl (c3, 16, .inl a3)), (q4, .inl (c4, 16, .inl a4)), (q8, .inl (c8, 16, .inl a8)), (q9, .inl (c9, 16, .inl a9)), (q10, .inl (c10, 16, .inl a10)), (q11, .inl (c11, 16, .inl a11))]) [12, 13, 0, 1, 2, 14, 6, 7, 8] rfl
                    have hDc := hD.sub (ws' := [(h0, .inr (8, [.int 0, .ref q1, .ref q2, .ref q3, .ref q4, .ref q5, .ref q6, .ref q7, .ref q8, .ref q9, .ref q10, .ref q11, v12, .ref q13, .ref q14, .ref q15, v16])), (q1, .inl (c1, 16, .inl a1)), (q2, .inl (c2, 67200, .inl a2)), (q3, .inl (c3, 16, .inl a3)), (q4, .inl (c4, 16, .inl a4)), (q8, .inl (c8, 16, .inl a8)), (q9, .inl (c9, 16, .inl a9)), (q10, .inl (c10, 16, .inl a10)), (q11, .inl (c11, 16, .inl a11))]) [12, 13, 0, 1, 2, 14, 6, 7, 8] (by decide) rfl
                    have hKc := hK.sub (tys' := [(c1, .int), (c2, .int), (c3, .int), (c4, .int), (c8, .int), (c9, .int), (c10, .int), (c11, .int)]) [0, 1, 2, 3, 7, 8, 9, 10] rfl
                    have hFc := va_free (wc := [(h0, .inr (8, [.int 0, .ref q1, .ref q2, .ref q3, .ref q4, .ref q5, .ref q6, .ref q7, .ref q8, .ref q9, .ref q10, .ref q11, v12, .ref q13, .ref q14, .ref q15, v16])), (q1, .inl (c1, 16, .inl a1)), (q2, .inl (c2, 67200, .inl a2)), (q3, .inl (c3, 16, .inl a3)), (q4, .inl (c4, 16, .inl a4)), (q8, .inl (c8, 16, .inl a8)), (q9, .inl (c9, 16, .inl a9)), (q10, .inl (c10, 16, .inl a10)), (q11, .inl (c11, 16, .inl a11))]) hD hS hA [12, 13, 0, 1, 2, 14, 6, 7, 8] rfl
                    refine va_calli (va_runV (As := [.int (nI o)]) (rest := []) ⟨hx, hb, hml, hown, hts⟩ (c_X8_entries l  dC dI H.size h0 0 q1 q2 q3 q4 q8 q9 q10 q11 c1 c2 c3 c4 c8 c9 c10 c11 a1 a2 a3 a4 a8 a9 a10 a11 (.ref q5) (.ref q6) (.ref q7) v12 (.ref q13) (.ref q14) (.ref q15) v16 o dep nz ho9 hF9 hd9 (by rw [hrt9]; exact hs9) hz9) (cwV 1 hts gX8_map_X8_entries rfl rfl rfl (by decide +kernel) ⟨(Nat.le_of_ble_eq_true rfl), (Nat.le_of_ble_eq_true rfl)⟩) ⟨pk_blind, va_recv hKc hPc (ci := 8) (q0 := 0) rfl rfl, pk_call hPc hKc hDc⟩ rfl rfl hl.1 rfl (lv_room (Nat.le_of_ble_eq_true rfl)) dX8_map_363 ⟨(Nat.le_of_ble_eq_true rfl), (Nat.le_of_ble_eq_true rfl)⟩) hS (fun q _ h => hFc q h) hFc (fun r_25 ur_25 t H1 locs ht hvm hw hB hz1 hk1 hS => ?_)
                    try dsimp only at hw
                    obtain ⟨ne, hne⟩ : ∃ n9 : Nat, n9 = cntN (inO a1 a2 a4 a8 a9 a10 a11 o) nz := ⟨_, rfl⟩
                    have hne2 : ne ≤ nz := by rw [hne]; exact cnt_le _ _
                    obtain ⟨hP1, hK1, hD1⟩ := hB
                    rw [ht] at hP1
                    have hK1 := va_K.moved hvm.symm hK1
                    obtain ⟨hP, hD⟩ := va_join (wr := [(q5, .inl (c5, 16, .inl a5)), (q6, .inl (c6, 16, .inl a6)), (q7, .inl (c7, 16, .inl a7)), (q13, .inl (c13, 1000, .inl a13)), (q14, .inl (c14, 1000, .inl a14)), (q15, .inl (c15, 4096, .inl a15))]) (w1 := [(h0, .inr (8, [.int 0, .ref q1, .ref q2, .ref q3, .ref q4, .ref q5, .ref q6, .ref q7, .ref q8, .ref q9, .ref q10, .ref q11, v12, .ref q13, .ref q14, .ref q15, v16])), (q1, .inl (c1, 16, .inl a1)), (q2, .inl (c2, 67200, .inl a2)), (q3, .inl (c3, 16, .inl a3)), (q4, .inl (c4, 16, .inl a4)), (q8, .inl (c8, 16, .inl a8)), (q9, .inl (c9, 16, .inl a9)), (q10, .inl (c10, 16, .inl a10)), (q11, .inl (c11, 16, .inl a11))]) hP hD [12, 13, 0, 1, 2, 14, 6, 7, 8] [3, 4, 5, 9, 10, 11] rfl rfl (by decide) (by decide) hk1 hFc hP1 hD1
                    clear hk1 hz1 ht hPc hDc hKc hFc
                    generalize H1 = H at hP hS ⊢
                    replace hP : va_P (dC, dI) vwCl [(q5, .inl (c5, 16, .inl a5)), (q6, .inl (c6, 16, .inl a6)), (q7, .inl (c7, 16, .inl a7)), (q13, .inl (c13, 1000, .inl a13)), (q14, .inl (c14, 1000, .inl a14)), (q15, .inl (c15, 4096, .inl a15)), (h0, .inr (8, [.int 0, .ref q1, .ref q2, .ref q3, .ref q4, .ref q5, .ref q6, .ref q7, .ref q8, .ref q9, .ref q10, .ref q11, v12, .ref q13, .ref q14, .ref q15, v16])), (q1, .inl (c1, 16, .inl a1)), (q2, .inl (c2, 67200, .inl a2)), (q3, .inl (c3, 16, .inl a3)), (q4, .inl (c4, 16, .inl a4)), (q8, .inl (c8, 16, .inl a8)), (q9, .inl (c9, 16, .inl a9)), (q10, .inl (c10, 16, .inl a10)), (q11, .inl (c11, 16, .inl a11))] H := hP
                    replace hD : va_D A [(q5, .inl (c5, 16, .inl a5)), (q6, .inl (c6, 16, .inl a6)), (q7, .inl (c7, 16, .inl a7)), (q13, .inl (c13, 1000, .inl a13)), (q14, .inl (c14, 1000, .inl a14)), (q15, .inl (c15, 4096, .inl a15)), (h0, .inr (8, [.int 0, .ref q1, .ref q2, .ref q3, .ref q4, .ref q5, .ref q6, .ref q7, .ref q8, .ref q9, .ref q10, .ref q11, v12, .ref q13, .ref q14, .ref q15, v16])), (q1, .inl (c1, 16, .inl a1)), (q2, .inl (c2, 67200, .inl a2)), (q3, .inl (c3, 16, .inl a3)), (q4, .inl (c4, 16, .inl a4)), (q8, .inl (c8, 16, .inl a8)), (q9, .inl (c9, 16, .inl a9)), (q10, .inl (c10, 16, .inl a10)), (q11, .inl (c11, 16, .inl a11))] := hD
                    refine W.widen (k := 0) (n := 0) (Nat.le_of_ble_eq_true rfl) (Nat.le_of_ble_eq_true rfl) ?_
                    obtain rfl : r_25 = nI ne := by rw [hne]; exact hw
                    refine W.eq (g2 := F0 m 366 ls [.int (nI ne)]) rfl ?_
                    refine lv_i2l (v := (nI ne).toInt64) hx hb dX8_map_366 rfl ?_
                    have hP9 := hP.sub (ws' := [(h0, .inr (8, [.int 0, .ref q1, .ref q2, .ref q3, .ref q4, .ref q5, .ref q6, .ref q7, .ref q8, .ref q9, .ref q10, .ref q11, v12, .ref q13, .ref q14, .ref q15, v16])), (q1, .inl (c1, 16, .inl a1)), (q2, .inl (c2, 67200, .inl a2)), (q3, .inl (c3, 16, .inl a3)), (q4, .inl (c4, 16, .inl a4)), (q5, .inl (c5, 16, .inl a5)), (q6, .inl (c6, 16, .inl a6)), (q7, .inl (c7, 16, .inl a7)), (q8, .inl (c8, 16, .inl a8)), (q9, .inl (c9, 16, .inl a9)), (q10, .inl (c10, 16, .inl a10)), (q11, .inl (c11, 16, .inl a11)), (q13, .inl (c13, 1000, .inl a13)), (q14, .inl (c14, 1000, .inl a14)), (q15, .inl (c15, 4096, .inl a15))]) [6, 7, 8, 9, 10, 0, 1, 2, 11, 12, 13, 14, 3, 4, 5] rfl
                    have hD9 := hD.sub (ws' := [(h0, .inr (8, [.int 0, .ref q1, .ref q2, .ref q3, .ref q4, .ref q5, .ref q6, .ref q7, .ref q8, .ref q9, .ref q10, .ref q11, v12, .ref q13, .ref q14, .ref q15, v16])), (q1, .inl (c1, 16, .inl a1)), (q2, .inl (c2, 67200, .inl a2)), (q3, .inl (c3, 16, .inl a3)), (q4, .inl (c4, 16, .inl a4)), (q5, .inl (c5, 16, .inl a5)), (q6, .inl (c6, 16, .inl a6)), (q7, .inl (c7, 16, .inl a7)), (q8, .inl (c8, 16, .inl a8)), (q9, .inl (c9, 16, .inl a9)), (q10, .inl (c10, 16, .inl a10)), (q11, .inl (c11, 16, .inl a11)), (q13, .inl (c13, 1000, .inl a13)), (q14, .inl (c14, 1000, .inl a14)), (q15, .inl (c15, 4096, .inl a15))]) [6, 7, 8, 9, 10, 0, 1, 2, 11, 12, 13, 14, 3, 4, 5] (by decide) rfl
                    have hK9 := hK.sub (tys' := [(c1, .int), (c2, .int), (c3, .int), (c4, .int), (c5, .int), (c6, .int), (c7, .int), (c8, .int), (c9, .int), (c10, .int), (c11, .int), (c13, .int), (c14, .int), (c15, .boolean)]) [0, 1, 2, 3, 4, 5, 6, 7, 8, 9, 10, 11, 12, 13] rfl
                    refine W.widen (k := 0) (n := 0) (Nat.le_of_ble_eq_true rfl) (Nat.le_of_ble_eq_true rfl) ?_
                    exact W.lret (v := (nI ne).toInt64) hx hb hr (fun t ht hW => ⟨⟨(nI ne).toInt64, (0, a2, a3, a6, a7, a13, a14, a15), rfl, ⟨0, 0, by omega, rs_rf, hMa 0⟩, by rw [ht]; exact hP9, va_K.moved hW.alike hK9, hD9⟩, hS.F ht⟩) hS.2.2 dX8_map_367
                ·
                  have ic_9 : p1.toInt = 3 := tx_eq rfl (by decide) c_9
                  refine lv_iload hx hb dX8_map_345 (lv_at hl 1 rfl) ?_
                  refine lv_if_lt (tgt := 354) hx hb dX8_map_347 (by decide) (fun c_26 => ?_) (fun c_26 => ?_)
                  ·
                    have ic_26 : x8.toInt < 0 := tx_lt rfl (by decide) c_26
                    refine lv_lconst (v := 0) hx hb dX8_map_354 (by decide) ?_
                    have hP9 := hP.sub (ws' := [(h0, .inr (8, [.int 0, .ref q1, .ref q2, .ref q3, .ref q4, .ref q5, .ref q6, .ref q7, .ref q8, .ref q9, .ref q10, .ref q11, v12, .ref q13, .ref q14, .ref q15, v16])), (q1, .inl (c1, 16, .inl a1)), (q2, .inl (c2, 67200, .inl a2)), (q3, .inl (c3, 16, .inl a3)), (q4, .inl (c4, 16, .inl a4)), (q5, .inl (c5, 16, .inl a5)), (q6, .inl (c6, 16, .inl a6)), (q7, .inl (c7, 16, .inl a7)), (q8, .inl (c8, 16, .inl a8)), (q9, .inl (c9, 16, .inl a9)), (q10, .inl (c10, 16, .inl a10)), (q11, .inl (c11, 16, .inl a11)), (q13, .inl (c13, 1000, .inl a13)), (q14, .inl (c14, 1000, .inl a14)), (q15, .inl (c15, 4096, .inl a15))]) [12, 13, 0, 1, 2, 3, 4, 5, 14, 6, 7, 8, 9, 10, 11] rfl
                    have hD9 := hD.sub (ws' := [(h0, .inr (8, [.int 0, .ref q1, .ref q2, .ref q3, .ref q4, .ref q5, .ref q6, .ref q7, .ref q8, .ref q9, .ref q10, .ref q11, v12, .ref q13, .ref q14, .ref q15, v16])), (q1, .inl (c1, 16, .inl a1)), (q2, .inl (c2, 67200, .inl a2)), (q3, .inl (c3, 16, .inl a3)), (q4, .inl (c4, 16, .inl a4)), (q5, .inl (c5, 16, .inl a5)), (q6, .inl (c6, 16, .inl a6)), (q7, .inl (c7, 16, .inl a7)), (q8, .inl (c8, 16, .inl a8)), (q9, .inl (c9, 16, .inl a9)), (q10, .inl (c10, 16, .inl a10)), (q11, .inl (c11, 16, .inl a11)), (q13, .inl (c13, 1000, .inl a13)), (q14, .inl (c14, 1000, .inl a14)), (q15, .inl (c15, 4096, .inl a15))]) [12, 13, 0, 1, 2, 3, 4, 5, 14, 6, 7, 8, 9, 10, 11] (by decide) rfl
                    have hK9 := hK.sub (tys' := [(c1, .int), (c2, .int), (c3, .int), (c4, .int), (c5, .int), (c6, .int), (c7, .int), (c8, .int), (c9, .int), (c10, .int), (c11, .int), (c13, .int), (c14, .int), (c15, .boolean)]) [0, 1, 2, 3, 4, 5, 6, 7, 8, 9, 10, 11, 12, 13] rfl
                    refine W.widen (k := 0) (n := 0) (Nat.le_of_ble_eq_true rfl) (Nat.le_of_ble_eq_true rfl) ?_
                    exact W.lret (v := 0) hx hb hr (fun t ht hW => ⟨⟨0, (0, a2, a3, a6, a7, a13, a14, a15), rfl, ⟨0, 0, by omega, rs_rf, hMa 0⟩, by rw [ht]; exact hP9, va_K.moved hW.alike hK9, hD9⟩, hS.F ht⟩) hS.2.2 dX8_map_355
                  ·
                    have ic_26 : 0 ≤ x8.toInt := tx_nlt rfl (by decide) c_26
                    refine lv_lconst (v := 1) hx hb dX8_map_350 (by decide) ?_
                    refine lv_goto (tgt := 355) hx hb dX8_map_351 (by decide) ?_
                    have hP9 := hP.sub (ws' := [(h0, .inr (8, [.int 0, .ref q1, .ref q2, .ref q3, .ref q4, .ref q5, .ref q6, .ref q7, .ref q8, .ref q9, .ref q10, .ref q11, v12, .ref q13, .ref q14, .ref q15, v16])), (q1, .inl (c1, 16, .inl a1)), (q2, .inl (c2, 67200, .inl a2)), (q3, .inl (c3, 16, .inl a3)), (q4, .inl (c4, 16, .inl a4)), (q5, .inl (c5, 16, .inl a5)), (q6, .inl (c6, 16, .inl a6)), (q7, .inl (c7, 16, .inl a7)), (q8, .inl (c8, 16, .inl a8)), (q9, .inl (c9, 16, .inl a9)), (q10, .inl (c10, 16, .inl a10)), (q11, .inl (c11, 16, .inl a11)), (q13, .inl (c13, 1000, .inl a13)), (q14, .inl (c14, 1000, .inl a14)), (q15, .inl (c15, 4096, .inl a15))]) [12, 13, 0, 1, 2, 3, 4, 5, 14, 6, 7, 8, 9, 10, 11] rfl
                    have hD9 := hD.sub (ws' := [(h0, .inr (8, [.int 0, .ref q1, .ref q2, .ref q3, .ref q4, .ref q5, .ref q6, .ref q7, .ref q8, .ref q9, .ref q10, .ref q11, v12, .ref q13, .ref q14, .ref q15, v16])), (q1, .inl (c1, 16, .inl a1)), (q2, .inl (c2, 67200, .inl a2)), (q3, .inl (c3, 16, .inl a3)), (q4, .inl (c4, 16, .inl a4)), (q5, .inl (c5, 16, .inl a5)), (q6, .inl (c6, 16, .inl a6)), (q7, .inl (c7, 16, .inl a7)), (q8, .inl (c8, 16, .inl a8)), (q9, .inl (c9, 16, .inl a9)), (q10, .inl (c10, 16, .inl a10)), (q11, .inl (c11, 16, .inl a11)), (q13, .inl (c13, 1000, .inl a13)), (q14, .inl (c14, 1000, .inl a14)), (q15, .inl (c15, 4096, .inl a15))]) [12, 13, 0, 1, 2, 3, 4, 5, 14, 6, 7, 8, 9, 10, 11] (by decide) rfl
                    have hK9 := hK.sub (tys' := [(c1, .int), (c2, .int), (c3, .int), (c4, .int), (c5, .int), (c6, .int), (c7, .int), (c8, .int), (c9, .int), (c10, .int), (c11, .int), (c13, .int), (c14, .int), (c15, .boolean)]) [0, 1, 2, 3, 4, 5, 6, 7, 8, 9, 10, 11, 12, 13] rfl
                    refine W.widen (k := 0) (n := 0) (Nat.le_of_ble_eq_true rfl) (Nat.le_of_ble_eq_true rfl) ?_
                    exact W.lret (v := 1) hx hb hr (fun t ht hW => ⟨⟨1, (0, a2, a3, a6, a7, a13, a14, a15), rfl, ⟨0, 0, by omega, rs_rf, hMa 0⟩, by rw [ht]; exact hP9, va_K.moved hW.alike hK9, hD9⟩, hS.F ht⟩) hS.2.2 dX8_map_355
              ·
                have ic_8 : p1.toInt = 2 := tx_eq rfl (by decide) c_8
                refine lv_iload hx hb dX8_map_324 (lv_at hl 1 rfl) ?_
                refine lv_if_lt (tgt := 337) hx hb dX8_map_326 (by decide) (fun c_27 => ?_) (fun c_27 => ?_)
                ·
                  have ic_27 : x8.toInt < 0 := tx_lt rfl (by decide) c_27
                  refine lv_lload hx hb dX8_map_337 (lv_at hl 0 rfl) ?_
                  have hP9 := hP.sub (ws' := [(h0, .inr (8, [.int 0, .ref q1, .ref q2, .ref q3, .ref q4, .ref q5, .ref q6, .ref q7, .ref q8, .ref q9, .ref q10, .ref q11, v12, .ref q13, .ref q14, .ref q15, v16])), (q1, .inl (c1, 16, .inl a1)), (q2, .inl (c2, 67200, .inl a2)), (q3, .inl (c3, 16, .inl a3)), (q4, .inl (c4, 16, .inl a4)), (q5, .inl (c5, 16, .inl a5)), (q6, .inl (c6, 16, .inl a6)), (q7, .inl (c7, 16, .inl a7)), (q8, .inl (c8, 16, .inl a8)), (q9, .inl (c9, 16, .inl a9)), (q10, .inl (c10, 16, .inl a10)), (q11, .inl (c11, 16, .inl a11)), (q13, .inl (c13, 1000, .inl a13)), (q14, .inl (c14, 1000, .inl a14)), (q15, .inl (c15, 4096, .inl a15))]) [12, 13, 0, 1, 2, 3, 4, 5, 14, 6, 7, 8, 9, 10, 11] rfl
                  have hD9 := hD.sub (ws' := [(h0, .inr (8, [.int 0, .ref q1, .ref q2, .ref q3, .ref q4, .ref q5, .ref q6, .ref q7, .ref q8, .ref q9, .ref q10, .ref q11, v12, .ref q13, .ref q14, .ref q15, v16])), (q1, .inl (c1, 16, .inl a1)), (q2, .inl (c2, 67200, .inl a2)), (q3, .inl (c3, 16, .inl a3)), (q4, .inl (c4, 16, .inl a4)), (q5, .inl (c5, 16, .inl a5)), (q6, .inl (c6, 16, .inl a6)), (q7, .inl (c7, 16, .inl a7)), (q8, .inl (c8, 16, .inl a8)), (q9, .inl (c9, 16, .inl a9)), (q10, .inl (c10, 16, .inl a10)), (q11, .inl (c11, 16, .inl a11)), (q13, .inl (c13, 1000, .inl a13)), (q14, .inl (c14, 1000, .inl a14)), (q15, .inl (c15, 4096, .inl a15))]) [12, 13, 0, 1, 2, 3, 4, 5, 14, 6, 7, 8, 9, 10, 11] (by decide) rfl
                  have hK9 := hK.sub (tys' := [(c1, .int), (c2, .int), (c3, .int), (c4, .int), (c5, .int), (c6, .int), (c7, .int), (c8, .int), (c9, .int), (c10, .int), (c11, .int), (c13, .int), (c14, .int), (c15, .boolean)]) [0, 1, 2, 3, 4, 5, 6, 7, 8, 9, 10, 11, 12, 13] rfl
                  refine W.widen (k := 0) (n := 0) (Nat.le_of_ble_eq_true rfl) (Nat.le_of_ble_eq_true rfl) ?_
                  exact W.lret (v := g9) hx hb hr (fun t ht hW => ⟨⟨g9, (0, a2, a3, a6, a7, a13, a14, a15), rfl, ⟨0, 0, by omega, rs_rf, hMa 0⟩, by rw [ht]; exact hP9, va_K.moved hW.alike hK9, hD9⟩, hS.F ht⟩) hS.2.2 dX8_map_339
                ·
                  have ic_27 : 0 ≤ x8.toInt := tx_nlt rfl (by decide) c_27
                  obtain ⟨k7, hk7, rfl⟩ := hx8.resolve_left (fun h => by rw [h] at ic_27; exact absurd ic_27 (by decide))
                  have hj8 := hk7
                  refine lv_aload_n hx hb dX8_map_329 rfl (lv_at hl 5 rfl) ?_
                  refine lv_iload hx hb dX8_map_330 (lv_at hl 2 rfl) ?_
                  refine lv_iload hx hb dX8_map_332 (lv_at hl 1 rfl) ?_
                  have hPc := hP.sub (ws' := [(h0, .inr (8, [.int 0, .ref q1, .ref q2, .ref q3, .ref q4, .ref q5, .ref q6, .ref q7, .ref q8, .ref q9, .ref q10, .ref q11, v12, .ref q13, .ref q14, .ref q15, v16])), (q1, .inl (c1, 16, .inl a1)), (q2, .inl (c2, 67200, .inl a2)), (q3, .inl (c3, 16, .inl a3)), (q5, .inl (c5, 16, .inl a5)), (q6, .inl (c6, 16, .inl a6)), (q7, .inl (c7, 16, .inl a7))]) [12, 13, 0, 1, 3, 4, 5] rfl
                  have hDc := hD.sub (ws' := [(h0, .inr (8, [.int 0, .ref q1, .ref q2, .ref q3, .ref q4, .ref q5, .ref q6, .ref q7, .ref q8, .ref q9, .ref q10, .ref q11, v12, .ref q13, .ref q14, .ref q15, v16])), (q1, .inl (c1, 16, .inl a1)), (q2, .inl (c2, 67200, .inl a2)), (q3, .inl (c3, 16, .inl a3)), (q5, .inl (c5, 16, .inl a5)), (q6, .inl (c6, 16, .inl a6)), (q7, .inl (c7, 16, .inl a7))]) [12, 13, 0, 1, 3, 4, 5] (by decide) rfl
                  have hKc := hK.sub (tys' := [(c1, .int), (c2, .int), (c3, .int), (c5, .int), (c6, .int), (c7, .int)]) [0, 1, 2, 4, 5, 6] rfl
                  have hFc := va_free (wc := [(h0, .inr (8, [.int 0, .ref q1, .ref q2, .ref q3, .ref q4, .ref q5, .ref q6, .ref q7, .ref q8, .ref q9, .ref q10, .ref q11, v12, .ref q13, .ref q14, .ref q15, v16])), (q1, .inl (c1, 16, .inl a1)), (q2, .inl (c2, 67200, .inl a2)), (q3, .inl (c3, 16, .inl a3)), (q5, .inl (c5, 16, .inl a5)), (q6, .inl (c6, 16, .inl a6)), (q7, .inl (c7, 16, .inl a7))]) hD hS hA [12, 13, 0, 1, 3, 4, 5] rfl
                  refine va_callv (va_runV (As := [.int (nI r), .int (nI k7)]) (rest := []) ⟨hx, hb, hml, hown, hts⟩ (c_X8_goes l  dC dI H.size h0 0 q1 q2 q3 q5 q6 q7 c1 c2 c3 c5 c6 c7 a1 a2 a3 a5 a6 a7 (.ref q4) (.ref q8) (.ref q9) (.ref q10) (.ref q11) v12 (.ref q13) (.ref q14) (.ref q15) v16 r k7 tb nz hr9 hk7 hs9 hz9 (hT9 (by omega))) (cwV 2 hts gX8_map_X8_goes rfl rfl rfl (by decide +kernel) ⟨(Nat.le_of_ble_eq_true rfl), (Nat.le_of_ble_eq_true rfl)⟩) ⟨pk_blind, va_recv hKc hPc (ci := 8) (q0 := 0) rfl rfl, pk_call hPc hKc hDc⟩ rfl rfl hl.1 rfl (lv_room (Nat.le_of_ble_eq_true rfl)) dX8_map_334 ⟨(Nat.le_of_ble_eq_true rfl), (Nat.le_of_ble_eq_true rfl)⟩) hS (fun q _ h => hFc q h) hFc (fun ur_28 t H1 locs ht hvm hw hB hz1 hk1 hS => ?_)
                  try dsimp only at hw
                  have jr_28 := hw
                  obtain ⟨hP1, hK1, hD1⟩ := hB
                  rw [ht] at hP1
                  have hK1 := va_K.moved hvm.symm hK1
                  obtain ⟨hP, hD⟩ := va_join (wr := [(q4, .inl (c4, 16, .inl a4)), (q9, .inl (c9, 16, .inl a9)), (q10, .inl (c10, 16, .inl a10)), (q11, .inl (c11, 16, .inl a11)), (q13, .inl (c13, 1000, .inl a13)), (q14, .inl (c14, 1000, .inl a14)), (q15, .inl (c15, 4096, .inl a15)), (q8, .inl (c8, 16, .inl a8))]) (w1 := [(h0, .inr (8, [.int 0, .ref q1, .ref q2, .ref q3, .ref q4, .ref q5, .ref q6, .ref q7, .ref q8, .ref q9, .ref q10, .ref q11, v12, .ref q13, .ref q14, .ref q15, v16])), (q1, .inl (c1, 16, .inl a1)), (q2, .inl (c2, 67200, .inl ur_28)), (q3, .inl (c3, 16, .inl (upd a3 r (nI (nz - 1))))), (q5, .inl (c5, 16, .inl a5)), (q6, .inl (c6, 16, .inl a6)), (q7, .inl (c7, 16, .inl (upd a7 r (a7 r + 1))))]) hP hD [12, 13, 0, 1, 3, 4, 5] [2, 6, 7, 8, 9, 10, 11, 14] rfl rfl (by decide) (by decide) hk1 hFc hP1 hD1
                  clear hk1 hz1 ht hPc hDc hKc hFc
                  generalize H1 = H at hP hS ⊢
                  replace hP : va_P (dC, dI) vwCl [(q4, .inl (c4, 16, .inl a4)), (q9, .inl (c9, 16, .inl a9)), (q10, .inl (c10, 16, .inl a10)), (q11, .inl (c11, 16, .inl a11)), (q13, .inl (c13, 1000, .inl a13)), (q14, .inl (c14, 1000, .inl a14)), (q15, .inl (c15, 4096, .inl a15)), (q8, .inl (c8, 16, .inl a8)), (h0, .inr (8, [.int 0, .ref q1, .ref q2, .ref q3, .ref q4, .ref q5, .ref q6, .ref q7, .ref q8, .ref q9, .ref q10, .ref q11, v12, .ref q13, .ref q14, .ref q15, v16])), (q1, .inl (c1, 16, .inl a1)), (q2, .inl (c2, 67200, .inl ur_28)), (q3, .inl (c3, 16, .inl (upd a3 r (nI (nz - 1))))), (q5, .inl (c5, 16, .inl a5)), (q6, .inl (c6, 16, .inl a6)), (q7, .inl (c7, 16, .inl (upd a7 r (a7 r + 1))))] H := hP
                  replace hD : va_D A [(q4, .inl (c4, 16, .inl a4)), (q9, .inl (c9, 16, .inl a9)), (q10, .inl (c10, 16, .inl a10)), (q11, .inl (c11, 16, .inl a11)), (q13, .inl (c13, 1000, .inl a13)), (q14, .inl (c14, 1000, .inl a14)), (q15, .inl (c15, 4096, .inl a15)), (q8, .inl (c8, 16, .inl a8)), (h0, .inr (8, [.int 0, .ref q1, .ref q2, .ref q3, .ref q4, .ref q5, .ref q6, .ref q7, .ref q8, .ref q9, .ref q10, .ref q11, v12, .ref q13, .ref q14, .ref q15, v16])), (q1, .inl (c1, 16, .inl a1)), (q2, .inl (c2, 67200, .inl ur_28)), (q3, .inl (c3, 16, .inl (upd a3 r (nI (nz - 1))))), (q5, .inl (c5, 16, .inl a5)), (q6, .inl (c6, 16, .inl a6)), (q7, .inl (c7, 16, .inl (upd a7 r (a7 r + 1))))] := hD
                  refine W.widen (k := 0) (n := 0) (Nat.le_of_ble_eq_true rfl) (Nat.le_of_ble_eq_true rfl) ?_
                  refine W.eq (g2 := F0 m 337 ls []) rfl ?_
                  have jg := jr_28
                  refine lv_lload hx hb dX8_map_337 (lv_at hl 0 rfl) ?_
                  have hP9 := hP.sub (ws' := [(h0, .inr (8, [.int 0, .ref q1, .ref q2, .ref q3, .ref q4, .ref q5, .ref q6, .ref q7, .ref q8, .ref q9, .ref q10, .ref q11, v12, .ref q13, .ref q14, .ref q15, v16])), (q1, .inl (c1, 16, .inl a1)), (q2, .inl (c2, 67200, .inl ur_28)), (q3, .inl (c3, 16, .inl (upd a3 r (nI (nz - 1))))), (q4, .inl (c4, 16, .inl a4)), (q5, .inl (c5, 16, .inl a5)), (q6, .inl (c6, 16, .inl a6)), (q7, .inl (c7, 16, .inl (upd a7 r (a7 r + 1)))), (q8, .inl (c8, 16, .inl a8)), (q9, .inl (c9, 16, .inl a9)), (q10, .inl (c10, 16, .inl a10)), (q11, .inl (c11, 16, .inl a11)), (q13, .inl (c13, 1000, .inl a13)), (q14, .inl (c14, 1000, .inl a14)), (q15, .inl (c15, 4096, .inl a15))]) [8, 9, 10, 11, 0, 12, 13, 14, 7, 1, 2, 3, 4, 5, 6] rfl
                  have hD9 := hD.sub (ws' := [(h0, .inr (8, [.int 0, .ref q1, .ref q2, .ref q3, .ref q4, .ref q5, .ref q6, .ref q7, .ref q8, .ref q9, .ref q10, .ref q11, v12, .ref q13, .ref q14, .ref q15, v16])), (q1, .inl (c1, 16, .inl a1)), (q2, .inl (c2, 67200, .inl ur_28)), (q3, .inl (c3, 16, .inl (upd a3 r (nI (nz - 1))))), (q4, .inl (c4, 16, .inl a4)), (q5, .inl (c5, 16, .inl a5)), (q6, .inl (c6, 16, .inl a6)), (q7, .inl (c7, 16, .inl (upd a7 r (a7 r + 1)))), (q8, .inl (c8, 16, .inl a8)), (q9, .inl (c9, 16, .inl a9)), (q10, .inl (c10, 16, .inl a10)), (q11, .inl (c11, 16, .inl a11)), (q13, .inl (c13, 1000, .inl a13)), (q14, .inl (c14, 1000, .inl a14)), (q15, .inl (c15, 4096, .inl a15))]) [8, 9, 10, 11, 0, 12, 13, 14, 7, 1, 2, 3, 4, 5, 6] (by decide) rfl
                  have hK9 := hK.sub (tys' := [(c1, .int), (c2, .int), (c3, .int), (c4, .int), (c5, .int), (c6, .int), (c7, .int), (c8, .int), (c9, .int), (c10, .int), (c11, .int), (c13, .int), (c14, .int), (c15, .boolean)]) [0, 1, 2, 3, 4, 5, 6, 7, 8, 9, 10, 11, 12, 13] rfl
                  refine W.widen (k := 0) (n := 0) (Nat.le_of_ble_eq_true rfl) (Nat.le_of_ble_eq_true rfl) ?_
                  exact W.lret (v := g9) hx hb hr (fun t ht hW => ⟨⟨g9, (0, ur_28, (upd a3 r (nI (nz - 1))), a6, (upd a7 r (a7 r + 1)), a13, a14, a15), rfl, ⟨r, 1, by omega, rs_1 jg.1 (fun _ _ => rfl), fun _ _ _ => mo_us (hM8 _ (by omega))⟩, by rw [ht]; exact hP9, va_K.moved hW.alike hK9, hD9⟩, hS.F ht⟩) hS.2.2 dX8_map_339
            ·
              have ic_7 : p1.toInt = 1 := tx_eq rfl (by decide) c_7
              refine lv_iload hx hb dX8_map_303 (lv_at hl 1 rfl) ?_
              refine lv_if_lt (tgt := 316) hx hb dX8_map_305 (by decide) (fun c_29 => ?_) (fun c_29 => ?_)
              ·
                have ic_29 : x8.toInt < 0 := tx_lt rfl (by decide) c_29
                refine lv_lload hx hb dX8_map_316 (lv_at hl 0 rfl) ?_
                have hP9 := hP.sub (ws' := [(h0, .inr (8, [.int 0, .ref q1, .ref q2, .ref q3, .ref q4, .ref q5, .ref q6, .ref q7, .ref q8, .ref q9, .ref q10, .ref q11, v12, .ref q13, .ref q14, .ref q15, v16])), (q1, .inl (c1, 16, .inl a1)), (q2, .inl (c2, 67200, .inl a2)), (q3, .inl (c3, 16, .inl a3)), (q4, .inl (c4, 16, .inl a4)), (q5, .inl (c5, 16, .inl a5)), (q6, .inl (c6, 16, .inl a6)), (q7, .inl (c7, 16, .inl a7)), (q8, .inl (c8, 16, .inl a8)), (q9, .inl (c9, 16, .inl a9)), (q10, .inl (c10, 16, .inl a10)), (q11, .inl (c11, 16, .inl a11)), (q13, .inl (c13, 1000, .inl a13)), (q14, .inl (c14, 1000, .inl a14)), (q15, .inl (c15, 4096, .inl a15))]) [12, 13, 0, 1, 2, 3, 4, 5, 14, 6, 7, 8, 9, 10, 11] rfl
                have hD9 := hD.sub (ws' := [(h0, .inr (8, [.int 0, .ref q1, .ref q2, .ref q3, .ref q4, .ref q5, .ref q6, .ref q7, .ref q8, .ref q9, .ref q10, .ref q11, v12, .ref q13, .ref q14, .ref q15, v16])), (q1, .inl (c1, 16, .inl a1)), (q2, .inl (c2, 67200, .inl a2)), (q3, .inl (c3, 16, .inl a3)), (q4, .inl (c4, 16, .inl a4)), (q5, .inl (c5, 16, .inl a5)), (q6, .inl (c6, 16, .inl a6)), (q7, .inl (c7, 16, .inl a7)), (q8, .inl (c8, 16, .inl a8)), (q9, .inl (c9, 16, .inl a9)), (q10, .inl (c10, 16, .inl a10)), (q11, .inl (c11, 16, .inl a11)), (q13, .inl (c13, 1000, .inl a13)), (q14, .inl (c14, 1000, .inl a14)), (q15, .inl (c15, 4096, .inl a15))]) [12, 13, 0, 1, 2, 3, 4, 5, 14, 6, 7, 8, 9, 10, 11] (by decide) rfl
                have hK9 := hK.sub (tys' := [(c1, .int), (c2, .int), (c3, .int), (c4, .int), (c5, .int), (c6, .int), (c7, .int), (c8, .int), (c9, .int), (c10, .int), (c11, .int), (c13, .int), (c14, .int), (c15, .boolean)]) [0, 1, 2, 3, 4, 5, 6, 7, 8, 9, 10, 11, 12, 13] rfl
                refine W.widen (k := 0) (n := 0) (Nat.le_of_ble_eq_true rfl) (Nat.le_of_ble_eq_true rfl) ?_
                exact W.lret (v := g9) hx hb hr (fun t ht hW => ⟨⟨g9, (0, a2, a3, a6, a7, a13, a14, a15), rfl, ⟨0, 0, by omega, rs_rf, hMa 0⟩, by rw [ht]; exact hP9, va_K.moved hW.alike hK9, hD9⟩, hS.F ht⟩) hS.2.2 dX8_map_318
              ·
                have ic_29 : 0 ≤ x8.toInt := tx_nlt rfl (by decide) c_29
                obtain ⟨k7, hk7, rfl⟩ := hx8.resolve_left (fun h => by rw [h] at ic_29; exact absurd ic_29 (by decide))
                have hj8 := hk7
                refine lv_aload_n hx hb dX8_map_308 rfl (lv_at hl 5 rfl) ?_
                refine lv_iload_n hx hb dX8_map_309 rfl (lv_at hl 6 rfl) ?_
                refine lv_iload hx hb dX8_map_310 (lv_at hl 1 rfl) ?_
                have hPc := hP.sub (ws' := [(h0, .inr (8, [.int 0, .ref q1, .ref q2, .ref q3, .ref q4, .ref q5, .ref q6, .ref q7, .ref q8, .ref q9, .ref q10, .ref q11, v12, .ref q13, .ref q14, .ref q15, v16])), (q1, .inl (c1, 16, .inl a1)), (q2, .inl (c2, 67200, .inl a2)), (q3, .inl (c3, 16, .inl a3)), (q5, .inl (c5, 16, .inl a5)), (q7, .inl (c7, 16, .inl a7)), (q8, .inl (c8, 16, .inl a8))]) [12, 13, 0, 1, 3, 5, 14] rfl
                have hDc := hD.sub (ws' := [(h0, .inr (8, [.int 0, .ref q1, .ref q2, .ref q3, .ref q4, .ref q5, .ref q6, .ref q7, .ref q8, .ref q9, .ref q10, .ref q11, v12, .ref q13, .ref q14, .ref q15, v16])), (q1, .inl (c1, 16, .inl a1)), (q2, .inl (c2, 67200, .inl a2)), (q3, .inl (c3, 16, .inl a3)), (q5, .inl (c5, 16, .inl a5)), (q7, .inl (c7, 16, .inl a7)), (q8, .inl (c8, 16, .inl a8))]) [12, 13, 0, 1, 3, 5, 14] (by decide) rfl
                have hKc := hK.sub (tys' := [(c1, .int), (c2, .int), (c3, .int), (c5, .int), (c7, .int), (c8, .int)]) [0, 1, 2, 4, 6, 7] rfl
                have hFc := va_free (wc := [(h0, .inr (8, [.int 0, .ref q1, .ref q2, .ref q3, .ref q4, .ref q5, .ref q6, .ref q7, .ref q8, .ref q9, .ref q10, .ref q11, v12, .ref q13, .ref q14, .ref q15, v16])), (q1, .inl (c1, 16, .inl a1)), (q2, .inl (c2, 67200, .inl a2)), (q3, .inl (c3, 16, .inl a3)), (q5, .inl (c5, 16, .inl a5)), (q7, .inl (c7, 16, .inl a7)), (q8, .inl (c8, 16, .inl a8))]) hD hS hA [12, 13, 0, 1, 3, 5, 14] rfl
                refine va_calli (va_runV (As := [.int (nI o), .int (nI k7)]) (rest := []) ⟨hx, hb, hml, hown, hts⟩ (c_X8_touched l  dC dI H.size h0 0 q1 q2 q3 q5 q7 q8 c1 c2 c3 c5 c7 c8 a1 a2 a3 a5 a7 a8 (.ref q4) (.ref q6) (.ref q9) (.ref q10) (.ref q11) v12 (.ref q13) (.ref q14) (.ref q15) v16 o dep r k7 nz ho9 hF9 hd9 hrt9 hj8 hs9 hz9) (cwV 2 hts gX8_map_X8_touched rfl rfl rfl (by decide +kernel) ⟨(Nat.le_of_ble_eq_true rfl), (Nat.le_of_ble_eq_true rfl)⟩) ⟨pk_blind, va_recv hKc hPc (ci := 8) (q0 := 0) rfl rfl, pk_call hPc hKc hDc⟩ rfl rfl hl.1 rfl (lv_room (Nat.le_of_ble_eq_true rfl)) dX8_map_312 ⟨(Nat.le_of_ble_eq_true rfl), (Nat.le_of_ble_eq_true rfl)⟩) hS (fun q _ h => hFc q h) hFc (fun r_30 ur_30 t H1 locs ht hvm hw hB hz1 hk1 hS => ?_)
                try dsimp only at hw
                have jr_30 := hw
                obtain ⟨hP1, hK1, hD1⟩ := hB
                rw [ht] at hP1
                have hK1 := va_K.moved hvm.symm hK1
                obtain ⟨hP, hD⟩ := va_join (wr := [(q4, .inl (c4, 16, .inl a4)), (q6, .inl (c6, 16, .inl a6)), (q9, .inl (c9, 16, .inl a9)), (q10, .inl (c10, 16, .inl a10)), (q11, .inl (c11, 16, .inl a11)), (q13, .inl (c13, 1000, .inl a13)), (q14, .inl (c14, 1000, .inl a14)), (q15, .inl (c15, 4096, .inl a15))]) (w1 := [(h0, .inr (8, [.int 0, .ref q1, .ref q2, .ref q3, .ref q4, .ref q5, .ref q6, .ref q7, .ref q8, .ref q9, .ref q10, .ref q11, v12, .ref q13, .ref q14, .ref q15, v16])), (q1, .inl (c1, 16, .inl a1)), (q2, .inl (c2, 67200, .inl ur_30.1)), (q3, .inl (c3, 16, .inl a3)), (q5, .inl (c5, 16, .inl a5)), (q7, .inl (c7, 16, .inl ur_30.2)), (q8, .inl (c8, 16, .inl a8))]) hP hD [12, 13, 0, 1, 3, 5, 14] [2, 4, 6, 7, 8, 9, 10, 11] rfl rfl (by decide) (by decide) hk1 hFc hP1 hD1
                clear hk1 hz1 ht hPc hDc hKc hFc
                generalize H1 = H at hP hS ⊢
                replace hP : va_P (dC, dI) vwCl [(q4, .inl (c4, 16, .inl a4)), (q6, .inl (c6, 16, .inl a6)), (q9, .inl (c9, 16, .inl a9)), (q10, .inl (c10, 16, .inl a10)), (q11, .inl (c11, 16, .inl a11)), (q13, .inl (c13, 1000, .inl a13)), (q14, .inl (c14, 1000, .inl a14)), (q15, .inl (c15, 4096, .inl a15)), (h0, .inr (8, [.int 0, .ref q1, .ref q2, .ref q3, .ref q4, .ref q5, .ref q6, .ref q7, .ref q8, .ref q9, .ref q10, .ref q11, v12, .ref q13, .ref q14, .ref q15, v16])), (q1, .inl (c1, 16, .inl a1)), (q2, .inl (c2, 67200, .inl ur_30.1)), (q3, .inl (c3, 16, .inl a3)), (q5, .inl (c5, 16, .inl a5)), (q7, .inl (c7, 16, .inl ur_30.2)), (q8, .inl (c8, 16, .inl a8))] H := hP
                replace hD : va_D A [(q4, .inl (c4, 16, .inl a4)), (q6, .inl (c6, 16, .inl a6)), (q9, .inl (c9, 16, .inl a9)), (q10, .inl (c10, 16, .inl a10)), (q11, .inl (c11, 16, .inl a11)), (q13, .inl (c13, 1000, .inl a13)), (q14, .inl (c14, 1000, .inl a14)), (q15, .inl (c15, 4096, .inl a15)), (h0, .inr (8, [.int 0, .ref q1, .ref q2, .ref q3, .ref q4, .ref q5, .ref q6, .ref q7, .ref q8, .ref q9, .ref q10, .ref q11, v12, .ref q13, .ref q14, .ref q15, v16])), (q1, .inl (c1, 16, .inl a1)), (q2, .inl (c2, 67200, .inl ur_30.1)), (q3, .inl (c3, 16, .inl a3)), (q5, .inl (c5, 16, .inl a5)), (q7, .inl (c7, 16, .inl ur_30.2)), (q8, .inl (c8, 16, .inl a8))] := hD
                refine W.widen (k := 0) (n := 0) (Nat.le_of_ble_eq_true rfl) (Nat.le_of_ble_eq_true rfl) ?_
                obtain ⟨⟨k8, hk8, rfl⟩, jt⟩ := jr_30
                refine W.eq (g2 := F0 m 315 ls [.int (nI k8)]) rfl ?_
                refine lv_pop hx hb dX8_map_315 rfl ?_
                refine lv_lload hx hb dX8_map_316 (lv_at hl 0 rfl) ?_
                obtain ⟨d9, y1_, y2_⟩ := rs_t (a3 := a3) (a6 := a6) jt
                have hP9 := hP.sub (ws' := [(h0, .inr (8, [.int 0, .ref q1, .ref q2, .ref q3, .ref q4, .ref q5, .ref q6, .ref q7, .ref q8, .ref q9, .ref q10, .ref q11, v12, .ref q13, .ref q14, .ref q15, v16])), (q1, .inl (c1, 16, .inl a1)), (q2, .inl (c2, 67200, .inl ur_30.1)), (q3, .inl (c3, 16, .inl a3)), (q4, .inl (c4, 16, .inl a4)), (q5, .inl (c5, 16, .inl a5)), (q6, .inl (c6, 16, .inl a6)), (q7, .inl (c7, 16, .inl ur_30.2)), (q8, .inl (c8, 16, .inl a8)), (q9, .inl (c9, 16, .inl a9)), (q10, .inl (c10, 16, .inl a10)), (q11, .inl (c11, 16, .inl a11)), (q13, .inl (c13, 1000, .inl a13)), (q14, .inl (c14, 1000, .inl a14)), (q15, .inl (c15, 4096, .inl a15))]) [8, 9, 10, 11, 0, 12, 1, 13, 14, 2, 3, 4, 5, 6, 7] rfl
                have hD9 := hD.sub (ws' := [(h0, .inr (8, [.int 0, .ref q1, .ref q2, .ref q3, .ref q4, .ref q5, .ref q6, .ref q7, .ref q8, .ref q9, .ref q10, .ref q11, v12, .ref q13, .ref q14, .ref q15, v16])), (q1, .inl (c1, 16, .inl a1)), (q2, .inl (c2, 67200, .inl ur_30.1)), (q3, .inl (c3, 16, .inl a3)), (q4, .inl (c4, 16, .inl a4)), (q5, .inl (c5, 16, .inl a5)), (q6, .inl (c6, 16, .inl a6)), (q7, .inl (c7, 16, .inl ur_30.2)), (q8, .inl (c8, 16, .inl a8)), (q9, .inl (c9, 16, .inl a9)), (q10, .inl (c10, 16, .inl a10)), (q11, .inl (c11, 16, .inl a11)), (q13, .inl (c13, 1000, .inl a13)), (q14, .inl (c14, 1000, .inl a14)), (q15, .inl (c15, 4096, .inl a15))]) [8, 9, 10, 11, 0, 12, 1, 13, 14, 2, 3, 4, 5, 6, 7] (by decide) rfl
                have hK9 := hK.sub (tys' := [(c1, .int), (c2, .int), (c3, .int), (c4, .int), (c5, .int), (c6, .int), (c7, .int), (c8, .int), (c9, .int), (c10, .int), (c11, .int), (c13, .int), (c14, .int), (c15, .boolean)]) [0, 1, 2, 3, 4, 5, 6, 7, 8, 9, 10, 11, 12, 13] rfl
                refine W.widen (k := 0) (n := 0) (Nat.le_of_ble_eq_true rfl) (Nat.le_of_ble_eq_true rfl) ?_
                exact W.lret (v := g9) hx hb hr (fun t ht hW => ⟨⟨g9, (0, ur_30.1, a3, a6, ur_30.2, a13, a14, a15), rfl, ⟨r, d9, by omega, y2_, fun _ _ _ => hM9⟩, by rw [ht]; exact hP9, va_K.moved hW.alike hK9, hD9⟩, hS.F ht⟩) hS.2.2 dX8_map_318
          ·
            have ic_6 : p1.toInt = 8 := tx_eq rfl (by decide) c_6
            exact jn284 (ls, H, locs) ⟨lv_sub hl [0, 1, 2, 3, 4, 5, 6, 7, 8, 9] rfl, hP.sub [0, 1, 2, 3, 4, 5, 6, 7, 8, 9, 10, 11, 12, 13, 14] rfl, hS⟩
set_option maxHeartbeats 4000000 in
set_option maxRecDepth 100000 in
/-- map -/
theorem c_X8_map (l : Launch) (dC : Nat → ClassId) (dI : Nat → Nat → Nat) (sz : Nat) (h0 : Nat) (th : Int32) (q1 : Nat) (q2 : Nat) (q3 : Nat) (q4 : Nat) (q5 : Nat) (q6 : Nat) (q7 : Nat) (q8 : Nat) (q9 : Nat) (q10 : Nat) (q11 : Nat) (q13 : Nat) (q14 : Nat) (q15 : Nat) (c1 : ClassId) (c2 : ClassId) (c3 : ClassId) (c4 : ClassId) (c5 : ClassId) (c6 : ClassId) (c7 : ClassId) (c8 : ClassId) (c9 : ClassId) (c10 : ClassId) (c11 : ClassId) (c13 : ClassId) (c14 : ClassId) (c15 : ClassId) (a1 : Nat → Int32) (a2 : Nat → Int32) (a3 : Nat → Int32) (a4 : Nat → Int32) (a5 : Nat → Int32) (a6 : Nat → Int32) (a7 : Nat → Int32) (a8 : Nat → Int32) (a9 : Nat → Int32) (a10 : Nat → Int32) (a11 : Nat → Int32) (a13 : Nat → Int32) (a14 : Nat → Int32) (a15 : Nat → Int32) (v12 : Value) (v16 : Value) (dep : Nat → Nat) (p0 : Int32) (p1 : Int32) (p2 : Int32) (p3 : Int32) (hF9 : rF a1 a8 dep) (hda : ∀ o : Nat, o < 16 → dep o < 17) (hMa : ∀ r : Nat, r < 16 → 1 ≤ (a1 r).toInt → (a1 r).toInt ≤ 3 → mOK (a1 r) (a4 r) (a3 r) (a6 r)) : Met l yX8_map wsX8_map ({ frames := 8, cells := 0, slots := 0, locals := 340 }) (va_Pc [.ref h0, .int p0, .int p1, .int p2, .int p3] (pk_Pre (dC, dI) [(h0, .inr (8, [.int th, .ref q1, .ref q2, .ref q3, .ref q4, .ref q5, .ref q6, .ref q7, .ref q8, .ref q9, .ref q10, .ref q11, v12, .ref q13, .ref q14, .ref q15, v16])), (q1, .inl (c1, 16, .inl a1)), (q2, .inl (c2, 67200, .inl a2)), (q3, .inl (c3, 16, .inl a3)), (q4, .inl (c4, 16, .inl a4)), (q5, .inl (c5, 16, .inl a5)), (q6, .inl (c6, 16, .inl a6)), (q7, .inl (c7, 16, .inl a7)), (q8, .inl (c8, 16, .inl a8)), (q9, .inl (c9, 16, .inl a9)), (q10, .inl (c10, 16, .inl a10)), (q11, .inl (c11, 16, .inl a11)), (q13, .inl (c13, 1000, .inl a13)), (q14, .inl (c14, 1000, .inl a14)), (q15, .inl (c15, 4096, .inl a15))] [(c1, .int), (c2, .int), (c3, .int), (c4, .int), (c5, .int), (c6, .int), (c7, .int), (c8, .int), (c9, .int), (c10, .int), (c11, .int), (c13, .int), (c14, .int), (c15, .boolean)] sz)) (va_Ql (fun (x : Int64) (u : Int32 × (Nat → Int32) × (Nat → Int32) × (Nat → Int32) × (Nat → Int32) × (Nat → Int32) × (Nat → Int32) × (Nat → Int32)) => ∃ r d : Nat, d ≤ 2000 ∧ rsR r d a2 a3 a6 a7 u.2.1 u.2.2.1 u.2.2.2.1 u.2.2.2.2.1 ∧ (r < 16 → 1 ≤ (a1 r).toInt → (a1 r).toInt ≤ 3 → mOK (a1 r) (a4 r) (u.2.2.1 r) (u.2.2.2.1 r))) (fun (u : Int32 × (Nat → Int32) × (Nat → Int32) × (Nat → Int32) × (Nat → Int32) × (Nat → Int32) × (Nat → Int32) × (Nat → Int32)) (t : State) => va_P (dC, dI) vwCl [(h0, .inr (8, [.int u.1, .ref q1, .ref q2, .ref q3, .ref q4, .ref q5, .ref q6, .ref q7, .ref q8, .ref q9, .ref q10, .ref q11, v12, .ref q13, .ref q14, .ref q15, v16])), (q1, .inl (c1, 16, .inl a1)), (q2, .inl (c2, 67200, .inl u.2.1)), (q3, .inl (c3, 16, .inl u.2.2.1)), (q4, .inl (c4, 16, .inl a4)), (q5, .inl (c5, 16, .inl a5)), (q6, .inl (c6, 16, .inl u.2.2.2.1)), (q7, .inl (c7, 16, .inl u.2.2.2.2.1)), (q8, .inl (c8, 16, .inl a8)), (q9, .inl (c9, 16, .inl a9)), (q10, .inl (c10, 16, .inl a10)), (q11, .inl (c11, 16, .inl a11)), (q13, .inl (c13, 1000, .inl u.2.2.2.2.2.1)), (q14, .inl (c14, 1000, .inl u.2.2.2.2.2.2.1)), (q15, .inl (c15, 4096, .inl u.2.2.2.2.2.2.2))] t.heap ∧ va_K (dC, dI) vwCl [(c1, .int), (c2, .int), (c3, .int), (c4, .int), (c5, .int), (c6, .int), (c7, .int), (c8, .int), (c9, .int), (c10, .int), (c11, .int), (c13, .int), (c14, .int), (c15, .boolean)] t ∧ va_D (va_A [(h0, .inr (8, [.int th, .ref q1, .ref q2, .ref q3, .ref q4, .ref q5, .ref q6, .ref q7, .ref q8, .ref q9, .ref q10, .ref q11, v12, .ref q13, .ref q14, .ref q15, v16])), (q1, .inl (c1, 16, .inl a1)), (q2, .inl (c2, 67200, .inl a2)), (q3, .inl (c3, 16, .inl a3)), (q4, .inl (c4, 16, .inl a4)), (q5, .inl (c5, 16, .inl a5)), (q6, .inl (c6, 16, .inl a6)), (q7, .inl (c7, 16, .inl a7)), (q8, .inl (c8, 16, .inl a8)), (q9, .inl (c9, 16, .inl a9)), (q10, .inl (c10, 16, .inl a10)), (q11, .inl (c11, 16, .inl a11)), (q13, .inl (c13, 1000, .inl a13)), (q14, .inl (c14, 1000, .inl a14)), (q15, .inl (c15, 4096, .inl a15))] sz) [(h0, .inr (8, [.int u.1, .ref q1, .ref q2, .ref q3, .ref q4, .ref q5, .ref q6, .ref q7, .ref q8, .ref q9, .ref q10, .ref q11, v12, .ref q13, .ref q14, .ref q15, v16])), (q1, .inl (c1, 16, .inl a1)), (q2, .inl (c2, 67200, .inl u.2.1)), (q3, .inl (c3, 16, .inl u.2.2.1)), (q4, .inl (c4, 16, .inl a4)), (q5, .inl (c5, 16, .inl a5)), (q6, .inl (c6, 16, .inl u.2.2.2.1)), (q7, .inl (c7, 16, .inl u.2.2.2.2.1)), (q8, .inl (c8, 16, .inl a8)), (q9, .inl (c9, 16, .inl a9)), (q10, .inl (c10, 16, .inl a10)), (q11, .inl (c11, 16, .inl a11)), (q13, .inl (c13, 1000, .inl u.2.2.2.2.2.1)), (q14, .inl (c14, 1000, .inl u.2.2.2.2.2.2.1)), (q15, .inl (c15, 4096, .inl u.2.2.2.2.2.2.2))]) (va_A [(h0, .inr (8, [.int th, .ref q1, .ref q2, .ref q3, .ref q4, .ref q5, .ref q6, .ref q7, .ref q8, .ref q9, .ref q10, .ref q11, v12, .ref q13, .ref q14, .ref q15, v16])), (q1, .inl (c1, 16, .inl a1)), (q2, .inl (c2, 67200, .inl a2)), (q3, .inl (c3, 16, .inl a3)), (q4, .inl (c4, 16, .inl a4)), (q5, .inl (c5, 16, .inl a5)), (q6, .inl (c6, 16, .inl a6)), (q7, .inl (c7, 16, .inl a7)), (q8, .inl (c8, 16, .inl a8)), (q9, .inl (c9, 16, .inl a9)), (q10, .inl (c10, 16, .inl a10)), (q11, .inl (c11, 16, .inl a11)), (q13, .inl (c13, 1000, .inl a13)), (q14, .inl (c14, 1000, .inl a14)), (q15, .inl (c15, 4096, .inl a15))] sz)) 0 0 (va_A [(h0, .inr (8, [.int th, .ref q1, .ref q2, .ref q3, .ref q4, .ref q5, .ref q6, .ref q7, .ref q8, .ref q9, .ref q10, .ref q11, v12, .ref q13, .ref q14, .ref q15, v16])), (q1, .inl (c1, 16, .inl a1)), (q2, .inl (c2, 67200, .inl a2)), (q3, .inl (c3, 16, .inl a3)), (q4, .inl (c4, 16, .inl a4)), (q5, .inl (c5, 16, .inl a5)), (q6, .inl (c6, 16, .inl a6)), (q7, .inl (c7, 16, .inl a7)), (q8, .inl (c8, 16, .inl a8)), (q9, .inl (c9, 16, .inl a9)), (q10, .inl (c10, 16, .inl a10)), (q11, .inl (c11, 16, .inl a11)), (q13, .inl (c13, 1000, .inl a13)), (q14, .inl (c14, 1000, .inl a14)), (q15, .inl (c15, 4096, .inl a15))] sz) := by
  refine Met.ofW (cc := cX8_map) (maxL := 11) (ret := (some .long)) (by decide) rfl ?_
  intro p e s m args below meth c s₁ B hml hv
  obtain ⟨rfl, hsz, hP, hK, hD0⟩ := hv
  have hx := B.exec
  have hb := B.bytes
  have hr := B.returns
  have hts := atoms_spec (ws := wsX8_map) B.pre
  have hown : s.vm.findClass RX8 = some m.cls := findClass_of_methodNamed B.named
  have hlocks := B.notSynchronized
  subst hsz
  have hD := hD0.self (sz := s.heap.size)
  generalize hAe : va_A [(h0, .inr (8, [.int th, .ref q1, .ref q2, .ref q3, .ref q4, .ref q5, .ref q6, .ref q7, .ref q8, .ref q9, .ref q10, .ref q11, v12, .ref q13, .ref q14, .ref q15, v16])), (q1, .inl (c1, 16, .inl a1)), (q2, .inl (c2, 67200, .inl a2)), (q3, .inl (c3, 16, .inl a3)), (q4, .inl (c4, 16, .inl a4)), (q5, .inl (c5, 16, .inl a5)), (q6, .inl (c6, 16, .inl a6)), (q7, .inl (c7, 16, .inl a7)), (q8, .inl (c8, 16, .inl a8)), (q9, .inl (c9, 16, .inl a9)), (q10, .inl (c10, 16, .inl a10)), (q11, .inl (c11, 16, .inl a11)), (q13, .inl (c13, 1000, .inl a13)), (q14, .inl (c14, 1000, .inl a14)), (q15, .inl (c15, 4096, .inl a15))] s.heap.size = A at hD ⊢
  have hA : ∀ q : Nat, s.heap.size ≤ q → A q := fun q h => by rw [← hAe]; exact Or.inr h
  have hS : va_S A s.heap s.heap [] := va_S.rf
  have hP : va_P (dC, dI) vwCl [(h0, .inr (8, [.int th, .ref q1, .ref q2, .ref q3, .ref q4, .ref q5, .ref q6, .ref q7, .ref q8, .ref q9, .ref q10, .ref q11, v12, .ref q13, .ref q14, .ref q15, v16])), (q1, .inl (c1, 16, .inl a1)), (q2, .inl (c2, 67200, .inl a2)), (q3, .inl (c3, 16, .inl a3)), (q4, .inl (c4, 16, .inl a4)), (q5, .inl (c5, 16, .inl a5)), (q6, .inl (c6, 16, .inl a6)), (q7, .inl (c7, 16, .inl a7)), (q8, .inl (c8, 16, .inl a8)), (q9, .inl (c9, 16, .inl a9)), (q10, .inl (c10, 16, .inl a10)), (q11, .inl (c11, 16, .inl a11)), (q13, .inl (c13, 1000, .inl a13)), (q14, .inl (c14, 1000, .inl a14)), (q15, .inl (c15, 4096, .inl a15))] s.heap := hP
  have hl := lv_entry ([.ref h0, .int p0, .int p1, .int p2, .int p3]) (n := 11) (Nat.le_of_ble_eq_true rfl)
  rw [lg_entry_eq]
  generalize (lg_sl ([.ref h0, .int p0, .int p1, .int p2, .int p3]) ++ List.replicate (11 - (lg_sl ([.ref h0, .int p0, .int p1, .int p2, .int p3])).length) Slot.unset).toArray = ls at hl ⊢
  have hl : lv_has ls 11 [(0, .ref h0), (1, .int p0), (2, .int p1), (3, .int p2), (4, .int p3)] := hl
  have hw0_ := hts (.fieldLink RX8 60 "KeyAtlasModel" "thrown" "I") (List.mem_of_getElem? (l := wsX8_map) (i := 2) rfl)
  have hw1_ := hts (.constantLong RX8 149 (1099511627776)) (List.mem_of_getElem? (l := wsX8_map) (i := 3) rfl)
  have hw2_ := hts (.fieldLink RX8 7 "KeyAtlasModel" "kind" "[I") (List.mem_of_getElem? (l := wsX8_map) (i := 1) rfl)
  have hi0_ : ∀ w ∈ u_ws RX8 TX8 17, w ∈ wsX8_map := fun w h => List.mem_cons_of_mem _ (List.mem_append_right _ h)
  obtain ⟨H, hH9⟩ : ∃ H : Heap, H = s.heap := ⟨_, rfl⟩
  obtain ⟨locs, hlo9⟩ : ∃ z : List Loc, z = [] := ⟨_, rfl⟩
  refine tx_hv hH9 hlo9 ?_
  have hP : va_P (dC, dI) vwCl [(h0, .inr (8, [.int th, .ref q1, .ref q2, .ref q3, .ref q4, .ref q5, .ref q6, .ref q7, .ref q8, .ref q9, .ref q10, .ref q11, v12, .ref q13, .ref q14, .ref q15, v16])), (q1, .inl (c1, 16, .inl a1)), (q2, .inl (c2, 67200, .inl a2)), (q3, .inl (c3, 16, .inl a3)), (q4, .inl (c4, 16, .inl a4)), (q5, .inl (c5, 16, .inl a5)), (q6, .inl (c6, 16, .inl a6)), (q7, .inl (c7, 16, .inl a7)), (q8, .inl (c8, 16, .inl a8)), (q9, .inl (c9, 16, .inl a9)), (q10, .inl (c10, 16, .inl a10)), (q11, .inl (c11, 16, .inl a11)), (q13, .inl (c13, 1000, .inl a13)), (q14, .inl (c14, 1000, .inl a14)), (q15, .inl (c15, 4096, .inl a15))] H := by rw [hH9]; exact hP
  have hS : va_S A s.heap H locs := by rw [hH9, hlo9]; exact hS
  clear hH9 hlo9
  refine w_join (α := Array Slot × Heap × List Loc × Int32) (hh := fun jv => jv.2.1) (lc := fun jv => jv.2.2.1) (F := fun jv => F0 m 19 (jv.1) []) (Pre := fun jv => lv_has (jv.1) 11 [(5, .int jv.2.2.2), (0, .ref h0), (1, .int p0), (2, .int p1), (3, .int p2), (4, .int p3)] ∧ va_P (dC, dI) vwCl [(h0, .inr (8, [.int th, .ref q1, .ref q2, .ref q3, .ref q4, .ref q5, .ref q6, .ref q7, .ref q8, .ref q9, .ref q10, .ref q11, v12, .ref q13, .ref q14, .ref q15, v16])), (q1, .inl (c1, 16, .inl a1)), (q2, .inl (c2, 67200, .inl a2)), (q3, .inl (c3, 16, .inl a3)), (q4, .inl (c4, 16, .inl a4)), (q5, .inl (c5, 16, .inl a5)), (q6, .inl (c6, 16, .inl a6)), (q7, .inl (c7, 16, .inl a7)), (q8, .inl (c8, 16, .inl a8)), (q9, .inl (c9, 16, .inl a9)), (q10, .inl (c10, 16, .inl a10)), (q11, .inl (c11, 16, .inl a11)), (q13, .inl (c13, 1000, .inl a13)), (q14, .inl (c14, 1000, .inl a14)), (q15, .inl (c15, 4096, .inl a15))] (jv.2.1) ∧ va_S A s.heap (jv.2.1) (jv.2.2.1) ∧ ((jv.2.2.2.toInt = 0 ∧ ¬ p1.toInt = 19 ∧ ¬ p1.toInt = 20) ∨ (¬ jv.2.2.2.toInt = 0 ∧ (p1.toInt = 19 ∨ p1.toInt = 20)))) (fun jv ha9 => ?_) (fun jn19 => ?_)
  ·
    obtain ⟨ls, H, locs, x5⟩ := jv
    obtain ⟨hl, hP, hS, h5⟩ := ha9
    replace hl : lv_has ls 11 [(5, .int x5), (0, .ref h0), (1, .int p0), (2, .int p1), (3, .int p2), (4, .int p3)] := hl
    replace hP : va_P (dC, dI) vwCl [(h0, .inr (8, [.int th, .ref q1, .ref q2, .ref q3, .ref q4, .ref q5, .ref q6, .ref q7, .ref q8, .ref q9, .ref q10, .ref q11, v12, .ref q13, .ref q14, .ref q15, v16])), (q1, .inl (c1, 16, .inl a1)), (q2, .inl (c2, 67200, .inl a2)), (q3, .inl (c3, 16, .inl a3)), (q4, .inl (c4, 16, .inl a4)), (q5, .inl (c5, 16, .inl a5)), (q6, .inl (c6, 16, .inl a6)), (q7, .inl (c7, 16, .inl a7)), (q8, .inl (c8, 16, .inl a8)), (q9, .inl (c9, 16, .inl a9)), (q10, .inl (c10, 16, .inl a10)), (q11, .inl (c11, 16, .inl a11)), (q13, .inl (c13, 1000, .inl a13)), (q14, .inl (c14, 1000, .inl a14)), (q15, .inl (c15, 4096, .inl a15))] H := hP
    replace hS : va_S A s.heap H locs := hS
    replace h5 : (x5.toInt = 0 ∧ ¬ p1.toInt = 19 ∧ ¬ p1.toInt = 20) ∨ (¬ x5.toInt = 0 ∧ (p1.toInt = 19 ∨ p1.toInt = 20)) := h5
    show W p l e _ s m _ below meth c H locs _ _ _ (F0 m 19 ls [])
    refine w_join (α := Array Slot × Heap × List Loc) (hh := fun jv => jv.2.1) (lc := fun jv => jv.2.2) (F := fun jv => F0 m 48 (jv.1) []) (Pre := fun jv => lv_has (jv.1) 11 [(5, .int x5), (0, .ref h0), (1, .int p0), (2, .int p1), (3, .int p2), (4, .int p3)] ∧ va_P (dC, dI) vwCl [(h0, .inr (8, [.int th, .ref q1, .ref q2, .ref q3, .ref q4, .ref q5, .ref q6, .ref q7, .ref q8, .ref q9, .ref q10, .ref q11, v12, .ref q13, .ref q14, .ref q15, v16])), (q1, .inl (c1, 16, .inl a1)), (q2, .inl (c2, 67200, .inl a2)), (q3, .inl (c3, 16, .inl a3)), (q4, .inl (c4, 16, .inl a4)), (q5, .inl (c5, 16, .inl a5)), (q6, .inl (c6, 16, .inl a6)), (q7, .inl (c7, 16, .inl a7)), (q8, .inl (c8, 16, .inl a8)), (q9, .inl (c9, 16, .inl a9)), (q10, .inl (c10, 16, .inl a10)), (q11, .inl (c11, 16, .inl a11)), (q13, .inl (c13, 1000, .inl a13)), (q14, .inl (c14, 1000, .inl a14)), (q15, .inl (c15, 4096, .inl a15))] (jv.2.1) ∧ va_S A s.heap (jv.2.1) (jv.2.2) ∧ (∃ o9 : Nat, o9 < 16 ∧ p0 = nI o9 ∧ ¬ (a1 o9).toInt = 0) ∧ (¬ x5.toInt = 0 → thP a1 p3)) (fun jv ha9 => ?_) (fun jn48 => ?_)
    ·
      obtain ⟨ls, H, locs⟩ := jv
      obtain ⟨hl, hP, hS, hth, htw⟩ := ha9
      replace hl : lv_has ls 11 [(5, .int x5), (0, .ref h0), (1, .int p0), (2, .int p1), (3, .int p2), (4, .int p3)] := hl
      replace hP : va_P (dC, dI) vwCl [(h0, .inr (8, [.int th, .ref q1, .ref q2, .ref q3, .ref q4, .ref q5, .ref q6, .ref q7, .ref q8, .ref q9, .ref q10, .ref q11, v12, .ref q13, .ref q14, .ref q15, v16])), (q1, .inl (c1, 16, .inl a1)), (q2, .inl (c2, 67200, .inl a2)), (q3, .inl (c3, 16, .inl a3)), (q4, .inl (c4, 16, .inl a4)), (q5, .inl (c5, 16, .inl a5)), (q6, .inl (c6, 16, .inl a6)), (q7, .inl (c7, 16, .inl a7)), (q8, .inl (c8, 16, .inl a8)), (q9, .inl (c9, 16, .inl a9)), (q10, .inl (c10, 16, .inl a10)), (q11, .inl (c11, 16, .inl a11)), (q13, .inl (c13, 1000, .inl a13)), (q14, .inl (c14, 1000, .inl a14)), (q15, .inl (c15, 4096, .inl a15))] H := hP
      replace hS : va_S A s.heap H locs := hS
      replace hth : ∃ o9 : Nat, o9 < 16 ∧ p0 = nI o9 ∧ ¬ (a1 o9).toInt = 0 := hth
      replace htw : ¬ x5.toInt = 0 → thP a1 p3 := htw
      show W p l e _ s m _ below meth c H locs _ _ _ (F0 m 48 ls [])
      obtain ⟨o, ho9, rfl, hko⟩ := hth
      have hd9 := hda o ho9
      refine w_join (α := Array Slot × Heap × List Loc) (hh := fun jv => jv.2.1) (lc := fun jv => jv.2.2) (F := fun jv => F0 m 77 (jv.1) []) (Pre := fun jv => lv_has (jv.1) 11 [(5, .int x5), (0, .ref h0), (1, .int (nI o)), (2, .int p1), (3, .int p2), (4, .int p3)] ∧ va_P (dC, dI) vwCl [(h0, .inr (8, [.int th, .ref q1, .ref q2, .ref q3, .ref q4, .ref q5, .ref q6, .ref q7, .ref q8, .ref q9, .ref q10, .ref q11, v12, .ref q13, .ref q14, .ref q15, v16])), (q1, .inl (c1, 16, .inl a1)), (q2, .inl (c2, 67200, .inl a2)), (q3, .inl (c3, 16, .inl a3)), (q4, .inl (c4, 16, .inl a4)), (q5, .inl (c5, 16, .inl a5)), (q6, .inl (c6, 16, .inl a6)), (q7, .inl (c7, 16, .inl a7)), (q8, .inl (c8, 16, .inl a8)), (q9, .inl (c9, 16, .inl a9)), (q10, .inl (c10, 16, .inl a10)), (q11, .inl (c11, 16, .inl a11)), (q13, .inl (c13, 1000, .inl a13)), (q14, .inl (c14, 1000, .inl a14)), (q15, .inl (c15, 4096, .inl a15))] (jv.2.1) ∧ va_S A s.heap (jv.2.1) (jv.2.2) ∧ (1 ≤ (a1 o).toInt ∧ (a1 o).toInt ≤ 4) ∧ (¬ x5.toInt = 0 → mpP a1 p3)) (fun jv ha9 => ?_) (fun jn77 => ?_)
      ·
        obtain ⟨ls, H, locs⟩ := jv
        obtain ⟨hl, hP, hS, hmo, hmb⟩ := ha9
        replace hl : lv_has ls 11 [(5, .int x5), (0, .ref h0), (1, .int (nI o)), (2, .int p1), (3, .int p2), (4, .int p3)] := hl
        replace hP : va_P (dC, dI) vwCl [(h0, .inr (8, [.int th, .ref q1, .ref q2, .ref q3, .ref q4, .ref q5, .ref q6, .ref q7, .ref q8, .ref q9, .ref q10, .ref q11, v12, .ref q13, .ref q14, .ref q15, v16])), (q1, .inl (c1, 16, .inl a1)), (q2, .inl (c2, 67200, .inl a2)), (q3, .inl (c3, 16, .inl a3)), (q4, .inl (c4, 16, .inl a4)), (q5, .inl (c5, 16, .inl a5)), (q6, .inl (c6, 16, .inl a6)), (q7, .inl (c7, 16, .inl a7)), (q8, .inl (c8, 16, .inl a8)), (q9, .inl (c9, 16, .inl a9)), (q10, .inl (c10, 16, .inl a10)), (q11, .inl (c11, 16, .inl a11)), (q13, .inl (c13, 1000, .inl a13)), (q14, .inl (c14, 1000, .inl a14)), (q15, .inl (c15, 4096, .inl a15))] H := hP
        replace hS : va_S A s.heap H locs := hS
        replace hmo : 1 ≤ (a1 o).toInt ∧ (a1 o).toInt ≤ 4 := hmo
        replace hmb : ¬ x5.toInt = 0 → mpP a1 p3 := hmb
        show W p l e _ s m _ below meth c H locs _ _ _ (F0 m 77 ls [])
        refine w_join (α := Array Slot × Heap × List Loc) (hh := fun jv => jv.2.1) (lc := fun jv => jv.2.2) (F := fun jv => F0 m 106 (jv.1) []) (Pre := fun jv => lv_has (jv.1) 11 [(5, .int x5), (0, .ref h0), (1, .int (nI o)), (2, .int p1), (3, .int p2), (4, .int p3)] ∧ va_P (dC, dI) vwCl [(h0, .inr (8, [.int th, .ref q1, .ref q2, .ref q3, .ref q4, .ref q5, .ref q6, .ref q7, .ref q8, .ref q9, .ref q10, .ref q11, v12, .ref q13, .ref q14, .ref q15, v16])), (q1, .inl (c1, 16, .inl a1)), (q2, .inl (c2, 67200, .inl a2)), (q3, .inl (c3, 16, .inl a3)), (q4, .inl (c4, 16, .inl a4)), (q5, .inl (c5, 16, .inl a5)), (q6, .inl (c6, 16, .inl a6)), (q7, .inl (c7, 16, .inl a7)), (q8, .inl (c8, 16, .inl a8)), (q9, .inl (c9, 16, .inl a9)), (q10, .inl (c10, 16, .inl a10)), (q11, .inl (c11, 16, .inl a11)), (q13, .inl (c13, 1000, .inl a13)), (q14, .inl (c14, 1000, .inl a14)), (q15, .inl (c15, 4096, .inl a15))] (jv.2.1) ∧ va_S A s.heap (jv.2.1) (jv.2.2)) (fun jv ha9 => ?_) (fun jn106 => ?_)
        ·
          obtain ⟨ls, H, locs⟩ := jv
          obtain ⟨hl, hP, hS⟩ := ha9
          replace hl : lv_has ls 11 [(5, .int x5), (0, .ref h0), (1, .int (nI o)), (2, .int p1), (3, .int p2), (4, .int p3)] := hl
          replace hP : va_P (dC, dI) vwCl [(h0, .inr (8, [.int th, .ref q1, .ref q2, .ref q3, .ref q4, .ref q5, .ref q6, .ref q7, .ref q8, .ref q9, .ref q10, .ref q11, v12, .ref q13, .ref q14, .ref q15, v16])), (q1, .inl (c1, 16, .inl a1)), (q2, .inl (c2, 67200, .inl a2)), (q3, .inl (c3, 16, .inl a3)), (q4, .inl (c4, 16, .inl a4)), (q5, .inl (c5, 16, .inl a5)), (q6, .inl (c6, 16, .inl a6)), (q7, .inl (c7, 16, .inl a7)), (q8, .inl (c8, 16, .inl a8)), (q9, .inl (c9, 16, .inl a9)), (q10, .inl (c10, 16, .inl a10)), (q11, .inl (c11, 16, .inl a11)), (q13, .inl (c13, 1000, .inl a13)), (q14, .inl (c14, 1000, .inl a14)), (q15, .inl (c15, 4096, .inl a15))] H := hP
          replace hS : va_S A s.heap H locs := hS
          show W p l e _ s m _ below meth c H locs _ _ _ (F0 m 106 ls [])
          refine w_join (α := Array Slot × Heap × List Loc × Int32) (hh := fun jv => jv.2.1) (lc := fun jv => jv.2.2.1) (F := fun jv => F0 m 133 (jv.1) []) (Pre := fun jv => lv_has (jv.1) 11 [(6, .int jv.2.2.2), (5, .int x5), (0, .ref h0), (1, .int (nI o)), (2, .int p1), (3, .int p2), (4, .int p3)] ∧ va_P (dC, dI) vwCl [(h0, .inr (8, [.int th, .ref q1, .ref q2, .ref q3, .ref q4, .ref q5, .ref q6, .ref q7, .ref q8, .ref q9, .ref q10, .ref q11, v12, .ref q13, .ref q14, .ref q15, v16])), (q1, .inl (c1, 16, .inl a1)), (q2, .inl (c2, 67200, .inl a2)), (q3, .inl (c3, 16, .inl a3)), (q4, .inl (c4, 16, .inl a4)), (q5, .inl (c5, 16, .inl a5)), (q6, .inl (c6, 16, .inl a6)), (q7, .inl (c7, 16, .inl a7)), (q8, .inl (c8, 16, .inl a8)), (q9, .inl (c9, 16, .inl a9)), (q10, .inl (c10, 16, .inl a10)), (q11, .inl (c11, 16, .inl a11)), (q13, .inl (c13, 1000, .inl a13)), (q14, .inl (c14, 1000, .inl a14)), (q15, .inl (c15, 4096, .inl a15))] (jv.2.1) ∧ va_S A s.heap (jv.2.1) (jv.2.2.1)) (fun jv ha9 => ?_) (fun jn133 => ?_)
          ·
            obtain ⟨ls, H, locs, x6⟩ := jv
            obtain ⟨hl, hP, hS⟩ := ha9
            replace hl : lv_has ls 11 [(6, .int x6), (5, .int x5), (0, .ref h0), (1, .int (nI o)), (2, .int p1), (3, .int p2), (4, .int p3)] := hl
            replace hP : va_P (dC, dI) vwCl [(h0, .inr (8, [.int th, .ref q1, .ref q2, .ref q3, .ref q4, .ref q5, .ref q6, .ref q7, .ref q8, .ref q9, .ref q10, .ref q11, v12, .ref q13, .ref q14, .ref q15, v16])), (q1, .inl (c1, 16, .inl a1)), (q2, .inl (c2, 67200, .inl a2)), (q3, .inl (c3, 16, .inl a3)), (q4, .inl (c4, 16, .inl a4)), (q5, .inl (c5, 16, .inl a5)), (q6, .inl (c6, 16, .inl a6)), (q7, .inl (c7, 16, .inl a7)), (q8, .inl (c8, 16, .inl a8)), (q9, .inl (c9, 16, .inl a9)), (q10, .inl (c10, 16, .inl a10)), (q11, .inl (c11, 16, .inl a11)), (q13, .inl (c13, 1000, .inl a13)), (q14, .inl (c14, 1000, .inl a14)), (q15, .inl (c15, 4096, .inl a15))] H := hP
            replace hS : va_S A s.heap H locs := hS
            show W p l e _ s m _ below meth c H locs _ _ _ (F0 m 133 ls [])
            refine w_join (α := Array Slot × Heap × List Loc) (hh := fun jv => jv.2.1) (lc := fun jv => jv.2.2) (F := fun jv => F0 m 210 (jv.1) []) (Pre := fun jv => lv_has (jv.1) 11 [(6, .int x6), (5, .int x5), (0, .ref h0), (1, .int (nI o)), (2, .int p1), (3, .int p2), (4, .int p3)] ∧ va_P (dC, dI) vwCl [(h0, .inr (8, [.int th, .ref q1, .ref q2, .ref q3, .ref q4, .ref q5, .ref q6, .ref q7, .ref q8, .ref q9, .ref q10, .ref q11, v12, .ref q13, .ref q14, .ref q15, v16])), (q1, .inl (c1, 16, .inl a1)), (q2, .inl (c2, 67200, .inl a2)), (q3, .inl (c3, 16, .inl a3)), (q4, .inl (c4, 16, .inl a4)), (q5, .inl (c5, 16, .inl a5)), (q6, .inl (c6, 16, .inl a6)), (q7, .inl (c7, 16, .inl a7)), (q8, .inl (c8, 16, .inl a8)), (q9, .inl (c9, 16, .inl a9)), (q10, .inl (c10, 16, .inl a10)), (q11, .inl (c11, 16, .inl a11)), (q13, .inl (c13, 1000, .inl a13)), (q14, .inl (c14, 1000, .inl a14)), (q15, .inl (c15, 4096, .inl a15))] (jv.2.1) ∧ va_S A s.heap (jv.2.1) (jv.2.2) ∧ (p1 = 22 → (a1 o).toInt = 1)) (fun jv ha9 => ?_) (fun jn210 => ?_)
            ·
              obtain ⟨ls, H, locs⟩ := jv
              obtain ⟨hl, hP, hS, h22⟩ := ha9
              replace hl : lv_has ls 11 [(6, .int x6), (5, .int x5), (0, .ref h0), (1, .int (nI o)), (2, .int p1), (3, .int p2), (4, .int p3)] := hl
              replace hP : va_P (dC, dI) vwCl [(h0, .inr (8, [.int th, .ref q1, .ref q2, .ref q3, .ref q4, .ref q5, .ref q6, .ref q7, .ref q8, .ref q9, .ref q10, .ref q11, v12, .ref q13, .ref q14, .ref q15, v16])), (q1, .inl (c1, 16, .inl a1)), (q2, .inl (c2, 67200, .inl a2)), (q3, .inl (c3, 16, .inl a3)), (q4, .inl (c4, 16, .inl a4)), (q5, .inl (c5, 16, .inl a5)), (q6, .inl (c6, 16, .inl a6)), (q7, .inl (c7, 16, .inl a7)), (q8, .inl (c8, 16, .inl a8)), (q9, .inl (c9, 16, .inl a9)), (q10, .inl (c10, 16, .inl a10)), (q11, .inl (c11, 16, .inl a11)), (q13, .inl (c13, 1000, .inl a13)), (q14, .inl (c14, 1000, .inl a14)), (q15, .inl (c15, 4096, .inl a15))] H := hP
              replace hS : va_S A s.heap H locs := hS
              replace h22 : p1 = 22 → (a1 o).toInt = 1 := h22
              show W p l e _ s m _ below meth c H locs _ _ _ (F0 m 210 ls [])
              refine lv_aload_n hx hb dX8_map_210 rfl (lv_at hl 2 rfl) ?_
              refine lv_iconst (v := 0) hx hb dX8_map_211 (by decide) ?_
              refine va_put (D := (dC, dI)) (ci := 8) (v := .int 0) (ty := .int) (C := RX8) (T := TX8) (N := 17) hx hb hts hi0_ tyX8 tyX8_ok nmX8 hown hK hP hD hS 0 rfl rfl 0 (by decide) hw0_ (fun _ h9 => h9) rfl (by decide +kernel) rfl rfl (Nat.le_of_ble_eq_true rfl) dX8_map_212 (fun H locs hP hD hS => ?_)
              replace hP : va_P (dC, dI) vwCl [(h0, .inr (8, [.int 0, .ref q1, .ref q2, .ref q3, .ref q4, .ref q5, .ref q6, .ref q7, .ref q8, .ref q9, .ref q10, .ref q11, v12, .ref q13, .ref q14, .ref q15, v16])), (q1, .inl (c1, 16, .inl a1)), (q2, .inl (c2, 67200, .inl a2)), (q3, .inl (c3, 16, .inl a3)), (q4, .inl (c4, 16, .inl a4)), (q5, .inl (c5, 16, .inl a5)), (q6, .inl (c6, 16, .inl a6)), (q7, .inl (c7, 16, .inl a7)), (q8, .inl (c8, 16, .inl a8)), (q9, .inl (c9, 16, .inl a9)), (q10, .inl (c10, 16, .inl a10)), (q11, .inl (c11, 16, .inl a11)), (q13, .inl (c13, 1000, .inl a13)), (q14, .inl (c14, 1000, .inl a14)), (q15, .inl (c15, 4096, .inl a15))] H := hP
              replace hD : va_D A [(h0, .inr (8, [.int 0, .ref q1, .ref q2, .ref q3, .ref q4, .ref q5, .ref q6, .ref q7, .ref q8, .ref q9, .ref q10, .ref q11, v12, .ref q13, .ref q14, .ref q15, v16])), (q1, .inl (c1, 16, .inl a1)), (q2, .inl (c2, 67200, .inl a2)), (q3, .inl (c3, 16, .inl a3)), (q4, .inl (c4, 16, .inl a4)), (q5, .inl (c5, 16, .inl a5)), (q6, .inl (c6, 16, .inl a6)), (q7, .inl (c7, 16, .inl a7)), (q8, .inl (c8, 16, .inl a8)), (q9, .inl (c9, 16, .inl a9)), (q10, .inl (c10, 16, .inl a10)), (q11, .inl (c11, 16, .inl a11)), (q13, .inl (c13, 1000, .inl a13)), (q14, .inl (c14, 1000, .inl a14)), (q15, .inl (c15, 4096, .inl a15))] := hD
              refine lv_aload_n hx hb dX8_map_215 rfl (lv_at hl 2 rfl) ?_
              refine lv_iload_n hx hb dX8_map_216 rfl (lv_at hl 3 rfl) ?_
              have hPc := hP.sub (ws' := [(h0, .inr (8, [.int 0, .ref q1, .ref q2, .ref q3, .ref q4, .ref q5, .ref q6, .ref q7, .ref q8, .ref q9, .ref q10, .ref q11, v12, .ref q13, .ref q14, .ref q15, v16])), (q1, .inl (c1, 16, .inl a1)), (q8, .inl (c8, 16, .inl a8))]) [0, 1, 8] rfl
              have hDc := hD.sub (ws' := [(h0, .inr (8, [.int 0, .ref q1, .ref q2, .ref q3, .ref q4, .ref q5, .ref q6, .ref q7, .ref q8, .ref q9, .ref q10, .ref q11, v12, .ref q13, .ref q14, .ref q15, v16])), (q1, .inl (c1, 16, .inl a1)), (q8, .inl (c8, 16, .inl a8))]) [0, 1, 8] (by decide) rfl
              have hKc := hK.sub (tys' := [(c1, .int), (c8, .int)]) [0, 7] rfl
              have hFc := va_free (wc := [(h0, .inr (8, [.int 0, .ref q1, .ref q2, .ref q3, .ref q4, .ref q5, .ref q6, .ref q7, .ref q8, .ref q9, .ref q10, .ref q11, v12, .ref q13, .ref q14, .ref q15, v16])), (q1, .inl (c1, 16, .inl a1)), (q8, .inl (c8, 16, .inl a8))]) hD hS hA [0, 1, 8] rfl
              refine va_calli (va_runV (As := [.int (nI o)]) (rest := []) ⟨hx, hb, hml, hown, hts⟩ (c_X8_root l  dC dI H.size h0 0 q1 q8 c1 c8 a1 a8 (.ref q2) (.ref q3) (.ref q4) (.ref q5) (.ref q6) (.ref q7) (.ref q9) (.ref q10) (.ref q11) v12 (.ref q13) (.ref q14) (.ref q15) v16 o dep ho9 hF9 hd9) (cwV 1 hts gX8_map_X8_root rfl rfl rfl (by decide +kernel) ⟨(Nat.le_of_ble_eq_true rfl), (Nat.le_of_ble_eq_true rfl)⟩) ⟨pk_blind, va_recv hKc hPc (ci := 8) (q0 := 0) rfl rfl, pk_call hPc hKc hDc⟩ rfl rfl hl.1 rfl (lv_room (Nat.le_of_ble_eq_true rfl)) dX8_map_217 ⟨(Nat.le_of_ble_eq_true rfl), (Nat.le_of_ble_eq_true rfl)⟩) hS (fun q _ h => hFc q h) hFc (fun r_1 ur_1 t H1 locs ht hvm hw hB hz1 hk1 hS => ?_)
              try dsimp only at hw
              obtain ⟨r, hrt9⟩ : ∃ r : Nat, rtN a1 a8 17 o = r := ⟨_, rfl⟩
              obtain ⟨er_1, hr9, hr8⟩ := hw
              rw [hrt9] at er_1 hr9 hr8
              obtain ⟨hP1, hK1, hD1⟩ := hB
              rw [ht] at hP1
              have hK1 := va_K.moved hvm.symm hK1
              obtain ⟨hP, hD⟩ := va_join (wr := [(q2, .inl (c2, 67200, .inl a2)), (q3, .inl (c3, 16, .inl a3)), (q4, .inl (c4, 16, .inl a4)), (q5, .inl (c5, 16, .inl a5)), (q6, .inl (c6, 16, .inl a6)), (q7, .inl (c7, 16, .inl a7)), (q9, .inl (c9, 16, .inl a9)), (q10, .inl (c10, 16, .inl a10)), (q11, .inl (c11, 16, .inl a11)), (q13, .inl (c13, 1000, .inl a13)), (q14, .inl (c14, 1000, .inl a14)), (q15, .inl (c15, 4096, .inl a15))]) (w1 := [(h0, .inr (8, [.int 0, .ref q1, .ref q2, .ref q3, .ref q4, .ref q5, .ref q6, .ref q7, .ref q8, .ref q9, .ref q10, .ref q11, v12, .ref q13, .ref q14, .ref q15, v16])), (q1, .inl (c1, 16, .inl a1)), (q8, .inl (c8, 16, .inl a8))]) hP hD [0, 1, 8] [2, 3, 4, 5, 6, 7, 9, 10, 11, 12, 13, 14] rfl rfl (by decide) (by decide) hk1 hFc hP1 hD1
              clear hk1 hz1 ht hPc hDc hKc hFc
              generalize H1 = H at hP hS ⊢
              replace hP : va_P (dC, dI) vwCl [(q2, .inl (c2, 67200, .inl a2)), (q3, .inl (c3, 16, .inl a3)), (q4, .inl (c4, 16, .inl a4)), (q5, .inl (c5, 16, .inl a5)), (q6, .inl (c6, 16, .inl a6)), (q7, .inl (c7, 16, .inl a7)), (q9, .inl (c9, 16, .inl a9)), (q10, .inl (c10, 16, .inl a10)), (q11, .inl (c11, 16, .inl a11)), (q13, .inl (c13, 1000, .inl a13)), (q14, .inl (c14, 1000, .inl a14)), (q15, .inl (c15, 4096, .inl a15)), (h0, .inr (8, [.int 0, .ref q1, .ref q2, .ref q3, .ref q4, .ref q5, .ref q6, .ref q7, .ref q8, .ref q9, .ref q10, .ref q11, v12, .ref q13, .ref q14, .ref q15, v16])), (q1, .inl (c1, 16, .inl a1)), (q8, .inl (c8, 16, .inl a8))] H := hP
              replace hD : va_D A [(q2, .inl (c2, 67200, .inl a2)), (q3, .inl (c3, 16, .inl a3)), (q4, .inl (c4, 16, .inl a4)), (q5, .inl (c5, 16, .inl a5)), (q6, .inl (c6, 16, .inl a6)), (q7, .inl (c7, 16, .inl a7)), (q9, .inl (c9, 16, .inl a9)), (q10, .inl (c10, 16, .inl a10)), (q11, .inl (c11, 16, .inl a11)), (q13, .inl (c13, 1000, .inl a13)), (q14, .inl (c14, 1000, .inl a14)), (q15, .inl (c15, 4096, .inl a15)), (h0, .inr (8, [.int 0, .ref q1, .ref q2, .ref q3, .ref q4, .ref q5, .ref q6, .ref q7, .ref q8, .ref q9, .ref q10, .ref q11, v12, .ref q13, .ref q14, .ref q15, v16])), (q1, .inl (c1, 16, .inl a1)), (q8, .inl (c8, 16, .inl a8))] := hD
              refine W.widen (k := 0) (n := 0) (Nat.le_of_ble_eq_true rfl) (Nat.le_of_ble_eq_true rfl) ?_
              subst er_1
              refine W.eq (g2 := F0 m 220 ls [.int (nI r)]) rfl ?_
              have hkd9 : 1 ≤ (a1 r).toInt ∧ (a1 r).toInt ≤ 3 := by rw [← hrt9]; exact rt_kd hF9 ho9 hd9 hmo
              have hM9 := hMa r hr9 hkd9.1 hkd9.2
              obtain ⟨nz, tb, hs9, hz9, hT9, hM8⟩ := mo_go hM9
              have hn8 : (a3 r).toInt = (nz : Int) := by rw [hs9]; exact nI_toInt (by omega)
              refine lv_istore (lv' := [(7, .int (nI r)), (6, .int x6), (5, .int x5), (0, .ref h0), (1, .int (nI o)), (2, .int p1), (3, .int p2), (4, .int p3)]) hx hb dX8_map_220 hl (by decide) rfl (fun ls hl => ?_)
              refine w_join (α := Array Slot × Heap × List Loc × Int32) (hh := fun jv => jv.2.1) (lc := fun jv => jv.2.2.1) (F := fun jv => F0 m 240 (jv.1) []) (Pre := fun jv => lv_has (jv.1) 11 [(8, .int jv.2.2.2), (7, .int (nI r)), (6, .int x6), (5, .int x5), (0, .ref h0), (1, .int (nI o)), (2, .int p1), (3, .int p2), (4, .int p3)] ∧ va_P (dC, dI) vwCl [(q2, .inl (c2, 67200, .inl a2)), (q3, .inl (c3, 16, .inl a3)), (q4, .inl (c4, 16, .inl a4)), (q5, .inl (c5, 16, .inl a5)), (q6, .inl (c6, 16, .inl a6)), (q7, .inl (c7, 16, .inl a7)), (q9, .inl (c9, 16, .inl a9)), (q10, .inl (c10, 16, .inl a10)), (q11, .inl (c11, 16, .inl a11)), (q13, .inl (c13, 1000, .inl a13)), (q14, .inl (c14, 1000, .inl a14)), (q15, .inl (c15, 4096, .inl a15)), (h0, .inr (8, [.int 0, .ref q1, .ref q2, .ref q3, .ref q4, .ref q5, .ref q6, .ref q7, .ref q8, .ref q9, .ref q10, .ref q11, v12, .ref q13, .ref q14, .ref q15, v16])), (q1, .inl (c1, 16, .inl a1)), (q8, .inl (c8, 16, .inl a8))] (jv.2.1) ∧ va_S A s.heap (jv.2.1) (jv.2.2.1) ∧ (jv.2.2.2 = -1 ∨ ∃ j : Nat, j < nz ∧ jv.2.2.2 = nI j)) (fun jv ha9 => ?_) (fun jn240 => ?_)
              ·
                obtain ⟨ls, H, locs, x8⟩ := jv
                obtain ⟨hl, hP, hS, hx8⟩ := ha9
                replace hl : lv_has ls 11 [(8, .int x8), (7, .int (nI r)), (6, .int x6), (5, .int x5), (0, .ref h0), (1, .int (nI o)), (2, .int p1), (3, .int p2), (4, .int p3)] := hl
                replace hP : va_P (dC, dI) vwCl [(q2, .inl (c2, 67200, .inl a2)), (q3, .inl (c3, 16, .inl a3)), (q4, .inl (c4, 16, .inl a4)), (q5, .inl (c5, 16, .inl a5)), (q6, .inl (c6, 16, .inl a6)), (q7, .inl (c7, 16, .inl a7)), (q9, .inl (c9, 16, .inl a9)), (q10, .inl (c10, 16, .inl a10)), (q11, .inl (c11, 16, .inl a11)), (q13, .inl (c13, 1000, .inl a13)), (q14, .inl (c14, 1000, .inl a14)), (q15, .inl (c15, 4096, .inl a15)), (h0, .inr (8, [.int 0, .ref q1, .ref q2, .ref q3, .ref q4, .ref q5, .ref q6, .ref q7, .ref q8, .ref q9, .ref q10, .ref q11, v12, .ref q13, .ref q14, .ref q15, v16])), (q1, .inl (c1, 16, .inl a1)), (q8, .inl (c8, 16, .inl a8))] H := hP
                replace hS : va_S A s.heap H locs := hS
                replace hx8 : x8 = -1 ∨ ∃ j : Nat, j < nz ∧ x8 = nI j := hx8
                show W p l e _ s m _ below meth c H locs _ _ _ (F0 m 240 ls [])
                refine lv_iload hx hb dX8_map_240 (lv_at hl 0 rfl) ?_
                refine lv_if_ge (tgt := 251) hx hb dX8_map_242 (by decide) (fun c_31 => ?_) (fun c_31 => ?_)
                ·
                  have ic_31 : 0 ≤ x8.toInt := tx_le (by decide) rfl c_31
                  obtain ⟨k7, hk7, rfl⟩ := hx8.resolve_left (fun h => by rw [h] at ic_31; exact absurd ic_31 (by decide))
                  have hj8 := hk7
                  refine lv_aload_n hx hb dX8_map_251 rfl (lv_at hl 4 rfl) ?_
                  refine lv_iload hx hb dX8_map_252 (lv_at hl 1 rfl) ?_
                  refine lv_iload hx hb dX8_map_254 (lv_at hl 0 rfl) ?_
                  have hPc := hP.sub (ws' := [(h0, .inr (8, [.int 0, .ref q1, .ref q2, .ref q3, .ref q4, .ref q5, .ref q6, .ref q7, .ref q8, .ref q9, .ref q10, .ref q11, v12, .ref q13, .ref q14, .ref q15, v16])), (q2, .inl (c2, 67200, .inl a2))]) [12, 0] rfl
                  have hDc := hD.sub (ws' := [(h0, .inr (8, [.int 0, .ref q1, .ref q2, .ref q3, .ref q4, .ref q5, .ref q6, .ref q7, .ref q8, .ref q9, .ref q10, .ref q11, v12, .ref q13, .ref q14, .ref q15, v16])), (q2, .inl (c2, 67200, .inl a2))]) [12, 0] (by decide) rfl
                  have hKc := hK.sub (tys' := [(c2, .int)]) [1] rfl
                  have hFc := va_free (wc := [(h0, .inr (8, [.int 0, .ref q1, .ref q2, .ref q3, .ref q4, .ref q5, .ref q6, .ref q7, .ref q8, .ref q9, .ref q10, .ref q11, v12, .ref q13, .ref q14, .ref q15, v16])), (q2, .inl (c2, 67200, .inl a2))]) hD hS hA [12, 0] rfl
                  refine va_calli (va_runV (As := [.int (nI r), .int (nI k7)]) (rest := []) ⟨hx, hb, hml, hown, hts⟩ (c_X8_value l  dC dI H.size h0 0 q2 c2 a2 (.ref q1) (.ref q3) (.ref q4) (.ref q5) (.ref q6) (.ref q7) (.ref q8) (.ref q9) (.ref q10) (.ref q11) v12 (.ref q13) (.ref q14) (.ref q15) v16 r k7 hr9 (by omega)) (cwV 2 hts gX8_map_X8_value rfl rfl rfl (by decide +kernel) ⟨(Nat.le_of_ble_eq_true rfl), (Nat.le_of_ble_eq_true rfl)⟩) ⟨pk_blind, va_recv hKc hPc (ci := 8) (q0 := 0) rfl rfl, pk_call hPc hKc hDc⟩ rfl rfl hl.1 rfl (lv_room (Nat.le_of_ble_eq_true rfl)) dX8_map_256 ⟨(Nat.le_of_ble_eq_true rfl), (Nat.le_of_ble_eq_true rfl)⟩) hS (fun q _ h => hFc q h) hFc (fun r_32 ur_32 t H1 locs ht hvm hw hB hz1 hk1 hS => ?_)
                  try dsimp only at hw
                  obtain ⟨hP1, hK1, hD1⟩ := hB
                  rw [ht] at hP1
                  have hK1 := va_K.moved hvm.symm hK1
                  obtain ⟨hP, hD⟩ := va_join (wr := [(q3, .inl (c3, 16, .inl a3)), (q4, .inl (c4, 16, .inl a4)), (q5, .inl (c5, 16, .inl a5)), (q6, .inl (c6, 16, .inl a6)), (q7, .inl (c7, 16, .inl a7)), (q9, .inl (c9, 16, .inl a9)), (q10, .inl (c10, 16, .inl a10)), (q11, .inl (c11, 16, .inl a11)), (q13, .inl (c13, 1000, .inl a13)), (q14, .inl (c14, 1000, .inl a14)), (q15, .inl (c15, 4096, .inl a15)), (q1, .inl (c1, 16, .inl a1)), (q8, .inl (c8, 16, .inl a8))]) (w1 := [(h0, .inr (8, [.int 0, .ref q1, .ref q2, .ref q3, .ref q4, .ref q5, .ref q6, .ref q7, .ref q8, .ref q9, .ref q10, .ref q11, v12, .ref q13, .ref q14, .ref q15, v16])), (q2, .inl (c2, 67200, .inl a2))]) hP hD [12, 0] [1, 2, 3, 4, 5, 6, 7, 8, 9, 10, 11, 13, 14] rfl rfl (by decide) (by decide) hk1 hFc hP1 hD1
                  clear hk1 hz1 ht hPc hDc hKc hFc
                  generalize H1 = H at hP hS ⊢
                  replace hP : va_P (dC, dI) vwCl [(q3, .inl (c3, 16, .inl a3)), (q4, .inl (c4, 16, .inl a4)), (q5, .inl (c5, 16, .inl a5)), (q6, .inl (c6, 16, .inl a6)), (q7, .inl (c7, 16, .inl a7)), (q9, .inl (c9, 16, .inl a9)), (q10, .inl (c10, 16, .inl a10)), (q11, .inl (c11, 16, .inl a11)), (q13, .inl (c13, 1000, .inl a13)), (q14, .inl (c14, 1000, .inl a14)), (q15, .inl (c15, 4096, .inl a15)), (q1, .inl (c1, 16, .inl a1)), (q8, .inl (c8, 16, .inl a8)), (h0, .inr (8, [.int 0, .ref q1, .ref q2, .ref q3, .ref q4, .ref q5, .ref q6, .ref q7, .ref q8, .ref q9, .ref q10, .ref q11, v12, .ref q13, .ref q14, .ref q15, v16])), (q2, .inl (c2, 67200, .inl a2))] H := hP
                  replace hD : va_D A [(q3, .inl (c3, 16, .inl a3)), (q4, .inl (c4, 16, .inl a4)), (q5, .inl (c5, 16, .inl a5)), (q6, .inl (c6, 16, .inl a6)), (q7, .inl (c7, 16, .inl a7)), (q9, .inl (c9, 16, .inl a9)), (q10, .inl (c10, 16, .inl a10)), (q11, .inl (c11, 16, .inl a11)), (q13, .inl (c13, 1000, .inl a13)), (q14, .inl (c14, 1000, .inl a14)), (q15, .inl (c15, 4096, .inl a15)), (q1, .inl (c1, 16, .inl a1)), (q8, .inl (c8, 16, .inl a8)), (h0, .inr (8, [.int 0, .ref q1, .ref q2, .ref q3, .ref q4, .ref q5, .ref q6, .ref q7, .ref q8, .ref q9, .ref q10, .ref q11, v12, .ref q13, .ref q14, .ref q15, v16])), (q2, .inl (c2, 67200, .inl a2))] := hD
                  refine W.widen (k := 0) (n := 0) (Nat.le_of_ble_eq_true rfl) (Nat.le_of_ble_eq_true rfl) ?_
                  obtain rfl : r_32 = a2 (4200 * r + 1000 + k7) := hw
                  refine W.eq (g2 := F0 m 259 ls [.int (a2 (4200 * r + 1000 + k7))]) rfl ?_
                  refine lv_i2l (v := (a2 (4200 * r + 1000 + k7)).toInt64) hx hb dX8_map_259 rfl ?_
                  refine lv_lstore (lv' := [(9, .long ((a2 (4200 * r + 1000 + k7)).toInt64)), (8, .int (nI k7)), (7, .int (nI r)), (6, .int x6), (5, .int x5), (0, .ref h0), (1, .int (nI o)), (2, .int p1), (3, .int p2), (4, .int p3)]) hx hb dX8_map_260 hl (by decide) rfl (fun ls hl => ?_)
                  exact c_X8_map_262 l dC dI h0 th q1 q2 q3 q4 q5 q6 q7 q8 q9 q10 q11 q13 q14 q15 c1 c2 c3 c4 c5 c6 c7 c8 c9 c10 c11 c13 c14 c15 a1 a2 a3 a4 a5 a6 a7 a8 a9 a10 a11 a13 a14 a15 v12 v16 dep p1 p2 p3 hF9 hda hMa x5 h5 o ho9 hd9 hmo hmb x6 h22 r hrt9 hr9 hkd9 hM9 nz tb hs9 hz9 hT9 hM8 hn8 (nI k7) hx8 ((a2 (4200 * r + 1000 + k7)).toInt64) p e s m below meth c A hx hb hr hts hown hlocks hml hA hK (hD.sub (ws' := [(q2, .inl (c2, 67200, .inl a2)), (q3, .inl (c3, 16, .inl a3)), (q4, .inl (c4, 16, .inl a4)), (q5, .inl (c5, 16, .inl a5)), (q6, .inl (c6, 16, .inl a6)), (q7, .inl (c7, 16, .inl a7)), (q9, .inl (c9, 16, .inl a9)), (q10, .inl (c10, 16, .inl a10)), (q11, .inl (c11, 16, .inl a11)), (q13, .inl (c13, 1000, .inl a13)), (q14, .inl (c14, 1000, .inl a14)), (q15, .inl (c15, 4096, .inl a15)), (h0, .inr (8, [.int 0, .ref q1, .ref q2, .ref q3, .ref q4, .ref q5, .ref q6, .ref q7, .ref q8, .ref q9, .ref q10, .ref q11, v12, .ref q13, .ref q14, .ref q15, v16])), (q1, .inl (c1, 16, .inl a1)), (q8, .inl (c8, 16, .inl a8))]) [14, 0, 1, 2, 3, 4, 5, 6, 7, 8, 9, 10, 13, 11, 12] (by decide) rfl) ls H locs (lv_sub hl [0, 1, 2, 3, 4, 5, 6, 7, 8, 9] rfl) (hP.sub (ws' := [(q2, .inl (c2, 67200, .inl a2)), (q3, .inl (c3, 16, .inl a3)), (q4, .inl (c4, 16, .inl a4)), (q5, .inl (c5, 16, .inl a5)), (q6, .inl (c6, 16, .inl a6)), (q7, .inl (c7, 16, .inl a7)), (q9, .inl (c9, 16, .inl a9)), (q10, .inl (c10, 16, .inl a10)), (q11, .inl (c11, 16, .inl a11)), (q13, .inl (c13, 1000, .inl a13)), (q14, .inl (c14, 1000, .inl a14)), (q15, .inl (c15, 4096, .inl a15)), (h0, .inr (8, [.int 0, .ref q1, .ref q2, .ref q3, .ref q4, .ref q5, .ref q6, .ref q7, .ref q8, .ref q9, .ref q10, .ref q11, v12, .ref q13, .ref q14, .ref q15, v16])), (q1, .inl (c1, 16, .inl a1)), (q8, .inl (c8, 16, .inl a8))]) [14, 0, 1, 2, 3, 4, 5, 6, 7, 8, 9, 10, 13, 11, 12] rfl) hS
                ·
                  have ic_31 : x8.toInt < 0 := tx_nle (by decide) rfl c_31
                  refine lv_ldc2 (v := 1099511627776) hx hb hown hw1_ dX8_map_245 ?_
                  refine lv_goto (tgt := 260) hx hb dX8_map_248 (by decide) ?_
                  refine lv_lstore (lv' := [(9, .long 1099511627776), (8, .int x8), (7, .int (nI r)), (6, .int x6), (5, .int x5), (0, .ref h0), (1, .int (nI o)), (2, .int p1), (3, .int p2), (4, .int p3)]) hx hb dX8_map_260 hl (by decide) rfl (fun ls hl => ?_)
                  exact c_X8_map_262 l dC dI h0 th q1 q2 q3 q4 q5 q6 q7 q8 q9 q10 q11 q13 q14 q15 c1 c2 c3 c4 c5 c6 c7 c8 c9 c10 c11 c13 c14 c15 a1 a2 a3 a4 a5 a6 a7 a8 a9 a10 a11 a13 a14 a15 v12 v16 dep p1 p2 p3 hF9 hda hMa x5 h5 o ho9 hd9 hmo hmb x6 h22 r hrt9 hr9 hkd9 hM9 nz tb hs9 hz9 hT9 hM8 hn8 x8 hx8 1099511627776 p e s m below meth c A hx hb hr hts hown hlocks hml hA hK (hD.sub (ws' := [(q2, .inl (c2, 67200, .inl a2)), (q3, .inl (c3, 16, .inl a3)), (q4, .inl (c4, 16, .inl a4)), (q5, .inl (c5, 16, .inl a5)), (q6, .inl (c6, 16, .inl a6)), (q7, .inl (c7, 16, .inl a7)), (q9, .inl (c9, 16, .inl a9)), (q10, .inl (c10, 16, .inl a10)), (q11, .inl (c11, 16, .inl a11)), (q13, .inl (c13, 1000, .inl a13)), (q14, .inl (c14, 1000, .inl a14)), (q15, .inl (c15, 4096, .inl a15)), (h0, .inr (8, [.int 0, .ref q1, .ref q2, .ref q3, .ref q4, .ref q5, .ref q6, .ref q7, .ref q8, .ref q9, .ref q10, .ref q11, v12, .ref q13, .ref q14, .ref q15, v16])), (q1, .inl (c1, 16, .inl a1)), (q8, .inl (c8, 16, .inl a8))]) [0, 1, 2, 3, 4, 5, 6, 7, 8, 9, 10, 11, 12, 13, 14] (by decide) rfl) ls H locs (lv_sub hl [0, 1, 2, 3, 4, 5, 6, 7, 8, 9] rfl) (hP.sub (ws' := [(q2, .inl (c2, 67200, .inl a2)), (q3, .inl (c3, 16, .inl a3)), (q4, .inl (c4, 16, .inl a4)), (q5, .inl (c5, 16, .inl a5)), (q6, .inl (c6, 16, .inl a6)), (q7, .inl (c7, 16, .inl a7)), (q9, .inl (c9, 16, .inl a9)), (q10, .inl (c10, 16, .inl a10)), (q11, .inl (c11, 16, .inl a11)), (q13, .inl (c13, 1000, .inl a13)), (q14, .inl (c14, 1000, .inl a14)), (q15, .inl (c15, 4096, .inl a15)), (h0, .inr (8, [.int 0, .ref q1, .ref q2, .ref q3, .ref q4, .ref q5, .ref q6, .ref q7, .ref q8, .ref q9, .ref q10, .ref q11, v12, .ref q13, .ref q14, .ref q15, v16])), (q1, .inl (c1, 16, .inl a1)), (q8, .inl (c8, 16, .inl a8))]) [0, 1, 2, 3, 4, 5, 6, 7, 8, 9, 10, 11, 12, 13, 14] rfl) hS
              ·
                refine lv_iload_n hx hb dX8_map_222 rfl (lv_at hl 5 rfl) ?_
                refine lv_bipush (v := 9) hx hb dX8_map_223 (by decide) ?_
                refine lv_icmp_ge (tgt := 237) hx hb dX8_map_225 (by decide) (fun c_33 => ?_) (fun c_33 => ?_)
                ·
                  have ic_33 : 9 ≤ p1.toInt := tx_le (by decide) rfl c_33
                  refine lv_iconst (v := (-1)) hx hb dX8_map_237 (by decide) ?_
                  refine lv_istore (lv' := [(8, .int (-1)), (7, .int (nI r)), (6, .int x6), (5, .int x5), (0, .ref h0), (1, .int (nI o)), (2, .int p1), (3, .int p2), (4, .int p3)]) hx hb dX8_map_238 hl (by decide) rfl (fun ls hl => ?_)
                  have fj0_ : (-1 : Int32) = -1 ∨ ∃ j : Nat, j < nz ∧ (-1 : Int32) = nI j := Or.inl rfl
                  exact jn240 (ls, H, locs, -1) ⟨lv_sub hl [0, 1, 2, 3, 4, 5, 6, 7, 8] rfl, hP.sub [0, 1, 2, 3, 4, 5, 6, 7, 8, 9, 10, 11, 12, 13, 14] rfl, hS, fj0_⟩
                ·
                  have ic_33 : p1.toInt < 9 := tx_nle (by decide) rfl c_33
                  refine lv_aload_n hx hb dX8_map_228 rfl (lv_at hl 3 rfl) ?_
                  refine lv_iload_n hx hb dX8_map_229 rfl (lv_at hl 4 rfl) ?_
                  refine lv_iload_n hx hb dX8_map_230 rfl (lv_at hl 6 rfl) ?_
                  have hPc := hP.sub (ws' := [(h0, .inr (8, [.int 0, .ref q1, .ref q2, .ref q3, .ref q4, .ref q5, .ref q6, .ref q7, .ref q8, .ref q9, .ref q10, .ref q11, v12, .ref q13, .ref q14, .ref q15, v16])), (q1, .inl (c1, 16, .inl a1)), (q2, .inl (c2, 67200, .inl a2)), (q3, .inl (c3, 16, .inl a3)), (q4, .inl (c4, 16, .inl a4)), (q8, .inl (c8, 16, .inl a8)), (q9, .inl (c9, 16, .inl a9)), (q10, .inl (c10, 16, .inl a10)), (q11, .inl (c11, 16, .inl a11))]) [12, 13, 0, 1, 2, 14, 6, 7, 8] rfl
                  have hDc := hD.sub (ws' := [(h0, .inr (8, [.int 0, .ref q1, .ref q2, .ref q3, .ref q4, .ref q5, .ref q6, .ref q7, .ref q8, .ref q9, .ref q10, .ref q11, v12, .ref q13, .ref q14, .ref q15, v16])), (q1, .inl (c1, 16, .inl a1)), (q2, .inl (c2, 67200, .inl a2)), (q3, .inl (c3, 16, .inl a3)), (q4, .inl (c4, 16, .inl a4)), (q8, .inl (c8, 16, .inl a8)), (q9, .inl (c9, 16, .inl a9)), (q10, .inl (c10, 16, .inl a10)), (q11, .inl (c11, 16, .inl a11))]) [12, 13, 0, 1, 2, 14, 6, 7, 8] (by decide) rfl
                  have hKc := hK.sub (tys' := [(c1, .int), (c2, .int), (c3, .int), (c4, .int), (c8, .int), (c9, .int), (c10, .int), (c11, .int)]) [0, 1, 2, 3, 7, 8, 9, 10] rfl
                  have hFc := va_free (wc := [(h0, .inr (8, [.int 0, .ref q1, .ref q2, .ref q3, .ref q4, .ref q5, .ref q6, .ref q7, .ref q8, .ref q9, .ref q10, .ref q11, v12, .ref q13, .ref q14, .ref q15, v16])), (q1, .inl (c1, 16, .inl a1)), (q2, .inl (c2, 67200, .inl a2)), (q3, .inl (c3, 16, .inl a3)), (q4, .inl (c4, 16, .inl a4)), (q8, .inl (c8, 16, .inl a8)), (q9, .inl (c9, 16, .inl a9)), (q10, .inl (c10, 16, .inl a10)), (q11, .inl (c11, 16, .inl a11))]) hD hS hA [12, 13, 0, 1, 2, 14, 6, 7, 8] rfl
                  refine va_calli (va_runV (As := [.int (nI o), .int p2]) (rest := []) ⟨hx, hb, hml, hown, hts⟩ (c_X8_at l  dC dI H.size h0 0 q1 q2 q3 q4 q8 q9 q10 q11 c1 c2 c3 c4 c8 c9 c10 c11 a1 a2 a3 a4 a8 a9 a10 a11 (.ref q5) (.ref q6) (.ref q7) v12 (.ref q13) (.ref q14) (.ref q15) v16 o dep nz p2 ho9 hF9 hd9 (by rw [hrt9]; exact hs9) hz9) (cwV 2 hts gX8_map_X8_at rfl rfl rfl (by decide +kernel) ⟨(Nat.le_of_ble_eq_true rfl), (Nat.le_of_ble_eq_true rfl)⟩) ⟨pk_blind, va_recv hKc hPc (ci := 8) (q0 := 0) rfl rfl, pk_call hPc hKc hDc⟩ rfl rfl hl.1 rfl (lv_room (Nat.le_of_ble_eq_true rfl)) dX8_map_231 ⟨(Nat.le_of_ble_eq_true rfl), (Nat.le_of_ble_eq_true rfl)⟩) hS (fun q _ h => hFc q h) hFc (fun r_34 ur_34 t H1 locs ht hvm hw hB hz1 hk1 hS => ?_)
                  try dsimp only at hw
                  have jr_34 := hw
                  obtain ⟨hP1, hK1, hD1⟩ := hB
                  rw [ht] at hP1
                  have hK1 := va_K.moved hvm.symm hK1
                  obtain ⟨hP, hD⟩ := va_join (wr := [(q5, .inl (c5, 16, .inl a5)), (q6, .inl (c6, 16, .inl a6)), (q7, .inl (c7, 16, .inl a7)), (q13, .inl (c13, 1000, .inl a13)), (q14, .inl (c14, 1000, .inl a14)), (q15, .inl (c15, 4096, .inl a15))]) (w1 := [(h0, .inr (8, [.int 0, .ref q1, .ref q2, .ref q3, .ref q4, .ref q5, .ref q6, .ref q7, .ref q8, .ref q9, .ref q10, .ref q11, v12, .ref q13, .ref q14, .ref q15, v16])), (q1, .inl (c1, 16, .inl a1)), (q2, .inl (c2, 67200, .inl a2)), (q3, .inl (c3, 16, .inl a3)), (q4, .inl (c4, 16, .inl a4)), (q8, .inl (c8, 16, .inl a8)), (q9, .inl (c9, 16, .inl a9)), (q10, .inl (c10, 16, .inl a10)), (q11, .inl (c11, 16, .inl a11))]) hP hD [12, 13, 0, 1, 2, 14, 6, 7, 8] [3, 4, 5, 9, 10, 11] rfl rfl (by decide) (by decide) hk1 hFc hP1 hD1
                  clear hk1 hz1 ht hPc hDc hKc hFc
                  generalize H1 = H at hP hS ⊢
                  replace hP : va_P (dC, dI) vwCl [(q5, .inl (c5, 16, .inl a5)), (q6, .inl (c6, 16, .inl a6)), (q7, .inl (c7, 16, .inl a7)), (q13, .inl (c13, 1000, .inl a13)), (q14, .inl (c14, 1000, .inl a14)), (q15, .inl (c15, 4096, .inl a15)), (h0, .inr (8, [.int 0, .ref q1, .ref q2, .ref q3, .ref q4, .ref q5, .ref q6, .ref q7, .ref q8, .ref q9, .ref q10, .ref q11, v12, .ref q13, .ref q14, .ref q15, v16])), (q1, .inl (c1, 16, .inl a1)), (q2, .inl (c2, 67200, .inl a2)), (q3, .inl (c3, 16, .inl a3)), (q4, .inl (c4, 16, .inl a4)), (q8, .inl (c8, 16, .inl a8)), (q9, .inl (c9, 16, .inl a9)), (q10, .inl (c10, 16, .inl a10)), (q11, .inl (c11, 16, .inl a11))] H := hP
                  replace hD : va_D A [(q5, .inl (c5, 16, .inl a5)), (q6, .inl (c6, 16, .inl a6)), (q7, .inl (c7, 16, .inl a7)), (q13, .inl (c13, 1000, .inl a13)), (q14, .inl (c14, 1000, .inl a14)), (q15, .inl (c15, 4096, .inl a15)), (h0, .inr (8, [.int 0, .ref q1, .ref q2, .ref q3, .ref q4, .ref q5, .ref q6, .ref q7, .ref q8, .ref q9, .ref q10, .ref q11, v12, .ref q13, .ref q14, .ref q15, v16])), (q1, .inl (c1, 16, .inl a1)), (q2, .inl (c2, 67200, .inl a2)), (q3, .inl (c3, 16, .inl a3)), (q4, .inl (c4, 16, .inl a4)), (q8, .inl (c8, 16, .inl a8)), (q9, .inl (c9, 16, .inl a9)), (q10, .inl (c10, 16, .inl a10)), (q11, .inl (c11, 16, .inl a11))] := hD
                  refine W.widen (k := 0) (n := 0) (Nat.le_of_ble_eq_true rfl) (Nat.le_of_ble_eq_true rfl) ?_
                  refine W.eq (g2 := F0 m 234 ls [.int r_34]) rfl ?_
                  refine lv_goto (tgt := 238) hx hb dX8_map_234 (by decide) ?_
                  refine lv_istore (lv' := [(8, .int r_34), (7, .int (nI r)), (6, .int x6), (5, .int x5), (0, .ref h0), (1, .int (nI o)), (2, .int p1), (3, .int p2), (4, .int p3)]) hx hb dX8_map_238 hl (by decide) rfl (fun ls hl => ?_)
                  have fj0_ : (r_34 : Int32) = -1 ∨ ∃ j : Nat, j < nz ∧ (r_34 : Int32) = nI j := jr_34
                  exact jn240 (ls, H, locs, r_34) ⟨lv_sub hl [0, 1, 2, 3, 4, 5, 6, 7, 8] rfl, hP.sub [8, 9, 10, 0, 1, 2, 12, 13, 14, 3, 4, 5, 6, 7, 11] rfl, hS, fj0_⟩
            ·
              refine w_join (α := Array Slot × Heap × List Loc) (hh := fun jv => jv.2.1) (lc := fun jv => jv.2.2) (F := fun jv => F0 m 154 (jv.1) []) (Pre := fun jv => lv_has (jv.1) 11 [(6, .int x6), (5, .int x5), (0, .ref h0), (1, .int (nI o)), (2, .int p1), (3, .int p2), (4, .int p3)] ∧ va_P (dC, dI) vwCl [(h0, .inr (8, [.int th, .ref q1, .ref q2, .ref q3, .ref q4, .ref q5, .ref q6, .ref q7, .ref q8, .ref q9, .ref q10, .ref q11, v12, .ref q13, .ref q14, .ref q15, v16])), (q1, .inl (c1, 16, .inl a1)), (q2, .inl (c2, 67200, .inl a2)), (q3, .inl (c3, 16, .inl a3)), (q4, .inl (c4, 16, .inl a4)), (q5, .inl (c5, 16, .inl a5)), (q6, .inl (c6, 16, .inl a6)), (q7, .inl (c7, 16, .inl a7)), (q8, .inl (c8, 16, .inl a8)), (q9, .inl (c9, 16, .inl a9)), (q10, .inl (c10, 16, .inl a10)), (q11, .inl (c11, 16, .inl a11)), (q13, .inl (c13, 1000, .inl a13)), (q14, .inl (c14, 1000, .inl a14)), (q15, .inl (c15, 4096, .inl a15))] (jv.2.1) ∧ va_S A s.heap (jv.2.1) (jv.2.2)) (fun jv ha9 => ?_) (fun jn154 => ?_)
              ·
                obtain ⟨ls, H, locs⟩ := jv
                obtain ⟨hl, hP, hS⟩ := ha9
                replace hl : lv_has ls 11 [(6, .int x6), (5, .int x5), (0, .ref h0), (1, .int (nI o)), (2, .int p1), (3, .int p2), (4, .int p3)] := hl
                replace hP : va_P (dC, dI) vwCl [(h0, .inr (8, [.int th, .ref q1, .ref q2, .ref q3, .ref q4, .ref q5, .ref q6, .ref q7, .ref q8, .ref q9, .ref q10, .ref q11, v12, .ref q13, .ref q14, .ref q15, v16])), (q1, .inl (c1, 16, .inl a1)), (q2, .inl (c2, 67200, .inl a2)), (q3, .inl (c3, 16, .inl a3)), (q4, .inl (c4, 16, .inl a4)), (q5, .inl (c5, 16, .inl a5)), (q6, .inl (c6, 16, .inl a6)), (q7, .inl (c7, 16, .inl a7)), (q8, .inl (c8, 16, .inl a8)), (q9, .inl (c9, 16, .inl a9)), (q10, .inl (c10, 16, .inl a10)), (q11, .inl (c11, 16, .inl a11)), (q13, .inl (c13, 1000, .inl a13)), (q14, .inl (c14, 1000, .inl a14)), (q15, .inl (c15, 4096, .inl a15))] H := hP
                replace hS : va_S A s.heap H locs := hS
                show W p l e _ s m _ below meth c H locs _ _ _ (F0 m 154 ls [])
                refine w_join (α := Array Slot × Heap × List Loc) (hh := fun jv => jv.2.1) (lc := fun jv => jv.2.2) (F := fun jv => F0 m 170 (jv.1) []) (Pre := fun jv => lv_has (jv.1) 11 [(6, .int x6), (5, .int x5), (0, .ref h0), (1, .int (nI o)), (2, .int p1), (3, .int p2), (4, .int p3)] ∧ va_P (dC, dI) vwCl [(h0, .inr (8, [.int th, .ref q1, .ref q2, .ref q3, .ref q4, .ref q5, .ref q6, .ref q7, .ref q8, .ref q9, .ref q10, .ref q11, v12, .ref q13, .ref q14, .ref q15, v16])), (q1, .inl (c1, 16, .inl a1)), (q2, .inl (c2, 67200, .inl a2)), (q3, .inl (c3, 16, .inl a3)), (q4, .inl (c4, 16, .inl a4)), (q5, .inl (c5, 16, .inl a5)), (q6, .inl (c6, 16, .inl a6)), (q7, .inl (c7, 16, .inl a7)), (q8, .inl (c8, 16, .inl a8)), (q9, .inl (c9, 16, .inl a9)), (q10, .inl (c10, 16, .inl a10)), (q11, .inl (c11, 16, .inl a11)), (q13, .inl (c13, 1000, .inl a13)), (q14, .inl (c14, 1000, .inl a14)), (q15, .inl (c15, 4096, .inl a15))] (jv.2.1) ∧ va_S A s.heap (jv.2.1) (jv.2.2)) (fun jv ha9 => ?_) (fun jn170 => ?_)
                ·
                  obtain ⟨ls, H, locs⟩ := jv
                  obtain ⟨hl, hP, hS⟩ := ha9
                  replace hl : lv_has ls 11 [(6, .int x6), (5, .int x5), (0, .ref h0), (1, .int (nI o)), (2, .int p1), (3, .int p2), (4, .int p3)] := hl
                  replace hP : va_P (dC, dI) vwCl [(h0, .inr (8, [.int th, .ref q1, .ref q2, .ref q3, .ref q4, .ref q5, .ref q6, .ref q7, .ref q8, .ref q9, .ref q10, .ref q11, v12, .ref q13, .ref q14, .ref q15, v16])), (q1, .inl (c1, 16, .inl a1)), (q2, .inl (c2, 67200, .inl a2)), (q3, .inl (c3, 16, .inl a3)), (q4, .inl (c4, 16, .inl a4)), (q5, .inl (c5, 16, .inl a5)), (q6, .inl (c6, 16, .inl a6)), (q7, .inl (c7, 16, .inl a7)), (q8, .inl (c8, 16, .inl a8)), (q9, .inl (c9, 16, .inl a9)), (q10, .inl (c10, 16, .inl a10)), (q11, .inl (c11, 16, .inl a11)), (q13, .inl (c13, 1000, .inl a13)), (q14, .inl (c14, 1000, .inl a14)), (q15, .inl (c15, 4096, .inl a15))] H := hP
                  replace hS : va_S A s.heap H locs := hS
                  show W p l e _ s m _ below meth c H locs _ _ _ (F0 m 170 ls [])
                  refine lv_iload_n hx hb dX8_map_170 rfl (lv_at hl 4 rfl) ?_
                  refine lv_bipush (v := 21) hx hb dX8_map_171 (by decide) ?_
                  refine lv_icmp_eq (tgt := 182) hx hb dX8_map_173 (by decide) (fun c_35 => ?_) (fun c_35 => ?_)
                  ·
                    have ic_35 : p1.toInt = 21 := tx_eq rfl (by decide) c_35
                    refine lv_aload_n hx hb dX8_map_182 rfl (lv_at hl 2 rfl) ?_
                    refine va_get (D := (dC, dI)) (ci := 8) (v := .ref q1) (C := RX8) (T := TX8) (N := 17) hx hb hts hi0_ hown hK hP 0 rfl rfl 1 (by decide) hw2_ (fun _ h9 => h9) rfl dX8_map_183 ?_
                    refine lv_iload_n hx hb dX8_map_186 rfl (lv_at hl 3 rfl) ?_
                    refine va_iald (i := nI o) hx hb hK hP 1 0 rfl rfl (vp_in_nI (by omega) (by omega)) dX8_map_187 ?_
                    refine W.eq (g2 := F0 m 188 ls [.int (a1 o)]) (by rw [nI_clamp (by omega)]) ?_
                    refine lv_iconst (v := 1) hx hb dX8_map_188 (by decide) ?_
                    refine lv_icmp_ne (tgt := 203) hx hb dX8_map_189 (by decide) (fun c_36 => ?_) (fun c_36 => ?_)
                    ·
                      have ic_36 : ¬ (a1 o).toInt = 1 := tx_ne rfl (by decide) c_36
                      refine lv_aload_n hx hb dX8_map_203 rfl (lv_at hl 2 rfl) ?_
                      refine lv_iconst (v := 5) hx hb dX8_map_204 (by decide) ?_
                      have hPc := hP.sub (ws' := [(h0, .inr (8, [.int th, .ref q1, .ref q2, .ref q3, .ref q4, .ref q5, .ref q6, .ref q7, .ref q8, .ref q9, .ref q10, .ref q11, v12, .ref q13, .ref q14, .ref q15, v16]))]) [0] rfl
                      have hDc := hD.sub (ws' := [(h0, .inr (8, [.int th, .ref q1, .ref q2, .ref q3, .ref q4, .ref q5, .ref q6, .ref q7, .ref q8, .ref q9, .ref q10, .ref q11, v12, .ref q13, .ref q14, .ref q15, v16]))]) [0] (by decide) rfl
                      have hKc := hK.sub (tys' := []) [] rfl
                      have hFc := va_free (wc := [(h0, .inr (8, [.int th, .ref q1, .ref q2, .ref q3, .ref q4, .ref q5, .ref q6, .ref q7, .ref q8, .ref q9, .ref q10, .ref q11, v12, .ref q13, .ref q14, .ref q15, v16]))]) hD hS hA [0] rfl
                      refine va_calli (va_runV (As := [.int 5]) (rest := []) ⟨hx, hb, hml, hown, hts⟩ (c_X8_refuse l  dC dI H.size h0 th (.ref q1) (.ref q2) (.ref q3) (.ref q4) (.ref q5) (.ref q6) (.ref q7) (.ref q8) (.ref q9) (.ref q10) (.ref q11) v12 (.ref q13) (.ref q14) (.ref q15) v16 5) (cwV 1 hts gX8_map_X8_refuse rfl rfl rfl (by decide +kernel) ⟨(Nat.le_of_ble_eq_true rfl), (Nat.le_of_ble_eq_true rfl)⟩) ⟨pk_blind, va_recv hKc hPc (ci := 8) (q0 := 0) rfl rfl, pk_call hPc hKc hDc⟩ rfl rfl hl.1 rfl (lv_room (Nat.le_of_ble_eq_true rfl)) dX8_map_205 ⟨(Nat.le_of_ble_eq_true rfl), (Nat.le_of_ble_eq_true rfl)⟩) hS (fun q _ h => hFc q h) hFc (fun r_37 ur_37 t H1 locs ht hvm hw hB hz1 hk1 hS => ?_)
                      try dsimp only at hw
                      obtain ⟨hP1, hK1, hD1⟩ := hB
                      rw [ht] at hP1
                      have hK1 := va_K.moved hvm.symm hK1
                      obtain ⟨hP, hD⟩ := va_join (wr := [(q1, .inl (c1, 16, .inl a1)), (q2, .inl (c2, 67200, .inl a2)), (q3, .inl (c3, 16, .inl a3)), (q4, .inl (c4, 16, .inl a4)), (q5, .inl (c5, 16, .inl a5)), (q6, .inl (c6, 16, .inl a6)), (q7, .inl (c7, 16, .inl a7)), (q8, .inl (c8, 16, .inl a8)), (q9, .inl (c9, 16, .inl a9)), (q10, .inl (c10, 16, .inl a10)), (q11, .inl (c11, 16, .inl a11)), (q13, .inl (c13, 1000, .inl a13)), (q14, .inl (c14, 1000, .inl a14)), (q15, .inl (c15, 4096, .inl a15))]) (w1 := [(h0, .inr (8, [.int 5, .ref q1, .ref q2, .ref q3, .ref q4, .ref q5, .ref q6, .ref q7, .ref q8, .ref q9, .ref q10, .ref q11, v12, .ref q13, .ref q14, .ref q15, v16]))]) hP hD [0] [1, 2, 3, 4, 5, 6, 7, 8, 9, 10, 11, 12, 13, 14] rfl rfl (by decide) (by decide) hk1 hFc hP1 hD1
                      clear hk1 hz1 ht hPc hDc hKc hFc
                      generalize H1 = H at hP hS ⊢
                      replace hP : va_P (dC, dI) vwCl [(q1, .inl (c1, 16, .inl a1)), (q2, .inl (c2, 67200, .inl a2)), (q3, .inl (c3, 16, .inl a3)), (q4, .inl (c4, 16, .inl a4)), (q5, .inl (c5, 16, .inl a5)), (q6, .inl (c6, 16, .inl a6)), (q7, .inl (c7, 16, .inl a7)), (q8, .inl (c8, 16, .inl a8)), (q9, .inl (c9, 16, .inl a9)), (q10, .inl (c10, 16, .inl a10)), (q11, .inl (c11, 16, .inl a11)), (q13, .inl (c13, 1000, .inl a13)), (q14, .inl (c14, 1000, .inl a14)), (q15, .inl (c15, 4096, .inl a15)), (h0, .inr (8, [.int 5, .ref q1, .ref q2, .ref q3, .ref q4, .ref q5, .ref q6, .ref q7, .ref q8, .ref q9, .ref q10, .ref q11, v12, .ref q13, .ref q14, .ref q15, v16]))] H := hP
                      replace hD : va_D A [(q1, .inl (c1, 16, .inl a1)), (q2, .inl (c2, 67200, .inl a2)), (q3, .inl (c3, 16, .inl a3)), (q4, .inl (c4, 16, .inl a4)), (q5, .inl (c5, 16, .inl a5)), (q6, .inl (c6, 16, .inl a6)), (q7, .inl (c7, 16, .inl a7)), (q8, .inl (c8, 16, .inl a8)), (q9, .inl (c9, 16, .inl a9)), (q10, .inl (c10, 16, .inl a10)), (q11, .inl (c11, 16, .inl a11)), (q13, .inl (c13, 1000, .inl a13)), (q14, .inl (c14, 1000, .inl a14)), (q15, .inl (c15, 4096, .inl a15)), (h0, .inr (8, [.int 5, .ref q1, .ref q2, .ref q3, .ref q4, .ref q5, .ref q6, .ref q7, .ref q8, .ref q9, .ref q10, .ref q11, v12, .ref q13, .ref q14, .ref q15, v16]))] := hD
                      refine W.widen (k := 0) (n := 0) (Nat.le_of_ble_eq_true rfl) (Nat.le_of_ble_eq_true rfl) ?_
                      obtain rfl : r_37 = 0 := hw
                      refine W.eq (g2 := F0 m 208 ls [.int 0]) rfl ?_
                      refine lv_i2l (v := (0 : Int32).toInt64) hx hb dX8_map_208 rfl ?_
                      have hP9 := hP.sub (ws' := [(h0, .inr (8, [.int 5, .ref q1, .ref q2, .ref q3, .ref q4, .ref q5, .ref q6, .ref q7, .ref q8, .ref q9, .ref q10, .ref q11, v12, .ref q13, .ref q14, .ref q15, v16])), (q1, .inl (c1, 16, .inl a1)), (q2, .inl (c2, 67200, .inl a2)), (q3, .inl (c3, 16, .inl a3)), (q4, .inl (c4, 16, .inl a4)), (q5, .inl (c5, 16, .inl a5)), (q6, .inl (c6, 16, .inl a6)), (q7, .inl (c7, 16, .inl a7)), (q8, .inl (c8, 16, .inl a8)), (q9, .inl (c9, 16, .inl a9)), (q10, .inl (c10, 16, .inl a10)), (q11, .inl (c11, 16, .inl a11)), (q13, .inl (c13, 1000, .inl a13)), (q14, .inl (c14, 1000, .inl a14)), (q15, .inl (c15, 4096, .inl a15))]) [14, 0, 1, 2, 3, 4, 5, 6, 7, 8, 9, 10, 11, 12, 13] rfl
                      have hD9 := hD.sub (ws' := [(h0, .inr (8, [.int 5, .ref q1, .ref q2, .ref q3, .ref q4, .ref q5, .ref q6, .ref q7, .ref q8, .ref q9, .ref q10, .ref q11, v12, .ref q13, .ref q14, .ref q15, v16])), (q1, .inl (c1, 16, .inl a1)), (q2, .inl (c2, 67200, .inl a2)), (q3, .inl (c3, 16, .inl a3)), (q4, .inl (c4, 16, .inl a4)), (q5, .inl (c5, 16, .inl a5)), (q6, .inl (c6, 16, .inl a6)), (q7, .inl (c7, 16, .inl a7)), (q8, .inl (c8, 16, .inl a8)), (q9, .inl (c9, 16, .inl a9)), (q10, .inl (c10, 16, .inl a10)), (q11, .inl (c11, 16, .inl a11)), (q13, .inl (c13, 1000, .inl a13)), (q14, .inl (c14, 1000, .inl a14)), (q15, .inl (c15, 4096, .inl a15))]) [14, 0, 1, 2, 3, 4, 5, 6, 7, 8, 9, 10, 11, 12, 13] (by decide) rfl
                      have hK9 := hK.sub (tys' := [(c1, .int), (c2, .int), (c3, .int), (c4, .int), (c5, .int), (c6, .int), (c7, .int), (c8, .int), (c9, .int), (c10, .int), (c11, .int), (c13, .int), (c14, .int), (c15, .boolean)]) [0, 1, 2, 3, 4, 5, 6, 7, 8, 9, 10, 11, 12, 13] rfl
                      refine W.widen (k := 0) (n := 0) (Nat.le_of_ble_eq_true rfl) (Nat.le_of_ble_eq_true rfl) ?_
                      exact W.lret (v := (0 : Int32).toInt64) hx hb hr (fun t ht hW => ⟨⟨(0 : Int32).toInt64, (5, a2, a3, a6, a7, a13, a14, a15), rfl, ⟨0, 0, by omega, rs_rf, hMa 0⟩, by rw [ht]; exact hP9, va_K.moved hW.alike hK9, hD9⟩, hS.F ht⟩) hS.2.2 dX8_map_209
                    ·
                      have ic_36 : (a1 o).toInt = 1 := tx_eq rfl (by decide) c_36
                      refine lv_iload_n hx hb dX8_map_192 rfl (lv_at hl 4 rfl) ?_
                      refine lv_bipush (v := 23) hx hb dX8_map_193 (by decide) ?_
                      refine lv_icmp_ne (tgt := 210) hx hb dX8_map_195 (by decide) (fun c_38 => ?_) (fun c_38 => absurd c_38 (fun h9 => absurd (c_35.symm.trans h9) (by decide)))
                      have fj0_ : p1 = 22 → (a1 o).toInt = 1 := fun _ => ic_36
                      exact jn210 (ls, H, locs) ⟨lv_sub hl [0, 1, 2, 3, 4, 5, 6] rfl, hP.sub [0, 1, 2, 3, 4, 5, 6, 7, 8, 9, 10, 11, 12, 13, 14] rfl, hS, fj0_⟩
                  ·
                    have ic_35 : ¬ p1.toInt = 21 := tx_ne rfl (by decide) c_35
                    refine lv_iload_n hx hb dX8_map_176 rfl (lv_at hl 4 rfl) ?_
                    refine lv_bipush (v := 22) hx hb dX8_map_177 (by decide) ?_
                    refine lv_icmp_ne (tgt := 192) hx hb dX8_map_179 (by decide) (fun c_39 => ?_) (fun c_39 => ?_)
                    ·
                      have ic_39 : ¬ p1.toInt = 22 := tx_ne rfl (by decide) c_39
                      refine lv_iload_n hx hb dX8_map_192 rfl (lv_at hl 4 rfl) ?_
                      refine lv_bipush (v := 23) hx hb dX8_map_193 (by decide) ?_
                      refine lv_icmp_ne (tgt := 210) hx hb dX8_map_195 (by decide) (fun c_40 => ?_) (fun c_40 => ?_)
                      ·
                        have ic_40 : ¬ p1.toInt = 23 := tx_ne rfl (by decide) c_40
                        have fj0_ : p1 = 22 → (a1 o).toInt = 1 := fun h => absurd h c_39
                        exact jn210 (ls, H, locs) ⟨lv_sub hl [0, 1, 2, 3, 4, 5, 6] rfl, hP.sub [0, 1, 2, 3, 4, 5, 6, 7, 8, 9, 10, 11, 12, 13, 14] rfl, hS, fj0_⟩
                      ·
                        have ic_40 : p1.toInt = 23 := tx_eq rfl (by decide) c_40
                        refine lv_iload hx hb dX8_map_198 (lv_at hl 0 rfl) ?_
                        refine lv_if_ne (tgt := 210) hx hb dX8_map_200 (by decide) (fun c_41 => ?_) (fun c_41 => ?_)
                        ·
                          have ic_41 : ¬ x6.toInt = 0 := tx_ne rfl (by decide) c_41
                          have fj0_ : p1 = 22 → (a1 o).toInt = 1 := fun h => absurd h c_39
                          exact jn210 (ls, H, locs) ⟨lv_sub hl [0, 1, 2, 3, 4, 5, 6] rfl, hP.sub [0, 1, 2, 3, 4, 5, 6, 7, 8, 9, 10, 11, 12, 13, 14] rfl, hS, fj0_⟩
                        ·
                          have ic_41 : x6.toInt = 0 := tx_eq rfl (by decide) c_41
                          refine lv_aload_n hx hb dX8_map_203 rfl (lv_at hl 2 rfl) ?_
                          refine lv_iconst (v := 5) hx hb dX8_map_204 (by decide) ?_
                          have hPc := hP.sub (ws' := [(h0, .inr (8, [.int th, .ref q1, .ref q2, .ref q3, .ref q4, .ref q5, .ref q6, .ref q7, .ref q8, .ref q9, .ref q10, .ref q11, v12, .ref q13, .ref q14, .ref q15, v16]))]) [0] rfl
                          have hDc := hD.sub (ws' := [(h0, .inr (8, [.int th, .ref q1, .ref q2, .ref q3, .ref q4, .ref q5, .ref q6, .ref q7, .ref q8, .ref q9, .ref q10, .ref q11, v12, .ref q13, .ref q14, .ref q15, v16]))]) [0] (by decide) rfl
                          have hKc := hK.sub (tys' := []) [] rfl
                          have hFc := va_free (wc := [(h0, .inr (8, [.int th, .ref q1, .ref q2, .ref q3, .ref q4, .ref q5, .ref q6, .ref q7, .ref q8, .ref q9, .ref q10, .ref q11, v12, .ref q13, .ref q14, .ref q15, v16]))]) hD hS hA [0] rfl
                          refine va_calli (va_runV (As := [.int 5]) (rest := []) ⟨hx, hb, hml, hown, hts⟩ (c_X8_refuse l  dC dI H.size h0 th (.ref q1) (.ref q2) (.ref q3) (.ref q4) (.ref q5) (.ref q6) (.ref q7) (.ref q8) (.ref q9) (.ref q10) (.ref q11) v12 (.ref q13) (.ref q14) (.ref q15) v16 5) (cwV 1 hts gX8_map_X8_refuse rfl rfl rfl (by decide +kernel) ⟨(Nat.le_of_ble_eq_true rfl), (Nat.le_of_ble_eq_true rfl)⟩) ⟨pk_blind, va_recv hKc hPc (ci := 8) (q0 := 0) rfl rfl, pk_call hPc hKc hDc⟩ rfl rfl hl.1 rfl (lv_room (Nat.le_of_ble_eq_true rfl)) dX8_map_205 ⟨(Nat.le_of_ble_eq_true rfl), (Nat.le_of_ble_eq_true rfl)⟩) hS (fun q _ h => hFc q h) hFc (fun r_42 ur_42 t H1 locs ht hvm hw hB hz1 hk1 hS => ?_)
                          try dsimp only at hw
                          obtain ⟨hP1, hK1, hD1⟩ := hB
                          rw [ht] at hP1
                          have hK1 := va_K.moved hvm.symm hK1
                          obtain ⟨hP, hD⟩ := va_join (wr := [(q1, .inl (c1, 16, .inl a1)), (q2, .inl (c2, 67200, .inl a2)), (q3, .inl (c3, 16, .inl a3)), (q4, .inl (c4, 16, .inl a4)), (q5, .inl (c5, 16, .inl a5)), (q6, .inl (c6, 16, .inl a6)), (q7, .inl (c7, 16, .inl a7)), (q8, .inl (c8, 16, .inl a8)), (q9, .inl (c9, 16, .inl a9)), (q10, .inl (c10, 16, .inl a10)), (q11, .inl (c11, 16, .inl a11)), (q13, .inl (c13, 1000, .inl a13)), (q14, .inl (c14, 1000, .inl a14)), (q15, .inl (c15, 4096, .inl a15))]) (w1 := [(h0, .inr (8, [.int 5, .ref q1, .ref q2, .ref q3, .ref q4, .ref q5, .ref q6, .ref q7, .ref q8, .ref q9, .ref q10, .ref q11, v12, .ref q13, .ref q14, .ref q15, v16]))]) hP hD [0] [1, 2, 3, 4, 5, 6, 7, 8, 9, 10, 11, 12, 13, 14] rfl rfl (by decide) (by decide) hk1 hFc hP1 hD1
                          clear hk1 hz1 ht hPc hDc hKc hFc
                          generalize H1 = H at hP hS ⊢
                          replace hP : va_P (dC, dI) vwCl [(q1, .inl (c1, 16, .inl a1)), (q2, .inl (c2, 67200, .inl a2)), (q3, .inl (c3, 16, .inl a3)), (q4, .inl (c4, 16, .inl a4)), (q5, .inl (c5, 16, .inl a5)), (q6, .inl (c6, 16, .inl a6)), (q7, .inl (c7, 16, .inl a7)), (q8, .inl (c8, 16, .inl a8)), (q9, .inl (c9, 16, .inl a9)), (q10, .inl (c10, 16, .inl a10)), (q11, .inl (c11, 16, .inl a11)), (q13, .inl (c13, 1000, .inl a13)), (q14, .inl (c14, 1000, .inl a14)), (q15, .inl (c15, 4096, .inl a15)), (h0, .inr (8, [.int 5, .ref q1, .ref q2, .ref q3, .ref q4, .ref q5, .ref q6, .ref q7, .ref q8, .ref q9, .ref q10, .ref q11, v12, .ref q13, .ref q14, .ref q15, v16]))] H := hP
                          replace hD : va_D A [(q1, .inl (c1, 16, .inl a1)), (q2, .inl (c2, 67200, .inl a2)), (q3, .inl (c3, 16, .inl a3)), (q4, .inl (c4, 16, .inl a4)), (q5, .inl (c5, 16, .inl a5)), (q6, .inl (c6, 16, .inl a6)), (q7, .inl (c7, 16, .inl a7)), (q8, .inl (c8, 16, .inl a8)), (q9, .inl (c9, 16, .inl a9)), (q10, .inl (c10, 16, .inl a10)), (q11, .inl (c11, 16, .inl a11)), (q13, .inl (c13, 1000, .inl a13)), (q14, .inl (c14, 1000, .inl a14)), (q15, .inl (c15, 4096, .inl a15)), (h0, .inr (8, [.int 5, .ref q1, .ref q2, .ref q3, .ref q4, .ref q5, .ref q6, .ref q7, .ref q8, .ref q9, .ref q10, .ref q11, v12, .ref q13, .ref q14, .ref q15, v16]))] := hD
                          refine W.widen (k := 0) (n := 0) (Nat.le_of_ble_eq_true rfl) (Nat.le_of_ble_eq_true rfl) ?_
                          obtain rfl : r_42 = 0 := hw
                          refine W.eq (g2 := F0 m 208 ls [.int 0]) rfl ?_
                          refine lv_i2l (v := (0 : Int32).toInt64) hx hb dX8_map_208 rfl ?_
                          have hP9 := hP.sub (ws' := [(h0, .inr (8, [.int 5, .ref q1, .ref q2, .ref q3, .ref q4, .ref q5, .ref q6, .ref q7, .ref q8, .ref q9, .ref q10, .ref q11, v12, .ref q13, .ref q14, .ref q15, v16])), (q1, .inl (c1, 16, .inl a1)), (q2, .inl (c2, 67200, .inl a2)), (q3, .inl (c3, 16, .inl a3)), (q4, .inl (c4, 16, .inl a4)), (q5, .inl (c5, 16, .inl a5)), (q6, .inl (c6, 16, .inl a6)), (q7, .inl (c7, 16, .inl a7)), (q8, .inl (c8, 16, .inl a8)), (q9, .inl (c9, 16, .inl a9)), (q10, .inl (c10, 16, .inl a10)), (q11, .inl (c11, 16, .inl a11)), (q13, .inl (c13, 1000, .inl a13)), (q14, .inl (c14, 1000, .inl a14)), (q15, .inl (c15, 4096, .inl a15))]) [14, 0, 1, 2, 3, 4, 5, 6, 7, 8, 9, 10, 11, 12, 13] rfl
                          have hD9 := hD.sub (ws' := [(h0, .inr (8, [.int 5, .ref q1, .ref q2, .ref q3, .ref q4, .ref q5, .ref q6, .ref q7, .ref q8, .ref q9, .ref q10, .ref q11, v12, .ref q13, .ref q14, .ref q15, v16])), (q1, .inl (c1, 16, .inl a1)), (q2, .inl (c2, 67200, .inl a2)), (q3, .inl (c3, 16, .inl a3)), (q4, .inl (c4, 16, .inl a4)), (q5, .inl (c5, 16, .inl a5)), (q6, .inl (c6, 16, .inl a6)), (q7, .inl (c7, 16, .inl a7)), (q8, .inl (c8, 16, .inl a8)), (q9, .inl (c9, 16, .inl a9)), (q10, .inl (c10, 16, .inl a10)), (q11, .inl (c11, 16, .inl a11)), (q13, .inl (c13, 1000, .inl a13)), (q14, .inl (c14, 1000, .inl a14)), (q15, .inl (c15, 4096, .inl a15))]) [14, 0, 1, 2, 3, 4, 5, 6, 7, 8, 9, 10, 11, 12, 13] (by decide) rfl
                          have hK9 := hK.sub (tys' := [(c1, .int), (c2, .int), (c3, .int), (c4, .int), (c5, .int), (c6, .int), (c7, .int), (c8, .int), (c9, .int), (c10, .int), (c11, .int), (c13, .int), (c14, .int), (c15, .boolean)]) [0, 1, 2, 3, 4, 5, 6, 7, 8, 9, 10, 11, 12, 13] rfl
                          refine W.widen (k := 0) (n := 0) (Nat.le_of_ble_eq_true rfl) (Nat.le_of_ble_eq_true rfl) ?_
                          exact W.lret (v := (0 : Int32).toInt64) hx hb hr (fun t ht hW => ⟨⟨(0 : Int32).toInt64, (5, a2, a3, a6, a7, a13, a14, a15), rfl, ⟨0, 0, by omega, rs_rf, hMa 0⟩, by rw [ht]; exact hP9, va_K.moved hW.alike hK9, hD9⟩, hS.F ht⟩) hS.2.2 dX8_map_209
                    ·
                      have ic_39 : p1.toInt = 22 := tx_eq rfl (by decide) c_39
                      refine lv_aload_n hx hb dX8_map_182 rfl (lv_at hl 2 rfl) ?_
                      refine va_get (D := (dC, dI)) (ci := 8) (v := .ref q1) (C := RX8) (T := TX8) (N := 17) hx hb hts hi0_ hown hK hP 0 rfl rfl 1 (by decide) hw2_ (fun _ h9 => h9) rfl dX8_map_183 ?_
                      refine lv_iload_n hx hb dX8_map_186 rfl (lv_at hl 3 rfl) ?_
                      refine va_iald (i := nI o) hx hb hK hP 1 0 rfl rfl (vp_in_nI (by omega) (by omega)) dX8_map_187 ?_
                      refine W.eq (g2 := F0 m 188 ls [.int (a1 o)]) (by rw [nI_clamp (by omega)]) ?_
                      refine lv_iconst (v := 1) hx hb dX8_map_188 (by decide) ?_
                      refine lv_icmp_ne (tgt := 203) hx hb dX8_map_189 (by decide) (fun c_43 => ?_) (fun c_43 => ?_)
                      ·
                        have ic_43 : ¬ (a1 o).toInt = 1 := tx_ne rfl (by decide) c_43
                        refine lv_aload_n hx hb dX8_map_203 rfl (lv_at hl 2 rfl) ?_
                        refine lv_iconst (v := 5) hx hb dX8_map_204 (by decide) ?_
                        have hPc := hP.sub (ws' := [(h0, .inr (8, [.int th, .ref q1, .ref q2, .ref q3, .ref q4, .ref q5, .ref q6, .ref q7, .ref q8, .ref q9, .ref q10, .ref q11, v12, .ref q13, .ref q14, .ref q15, v16]))]) [0] rfl
                        have hDc := hD.sub (ws' := [(h0, .inr (8, [.int th, .ref q1, .ref q2, .ref q3, .ref q4, .ref q5, .ref q6, .ref q7, .ref q8, .ref q9, .ref q10, .ref q11, v12, .ref q13, .ref q14, .ref q15, v16]))]) [0] (by decide) rfl
                        have hKc := hK.sub (tys' := []) [] rfl
                        have hFc := va_free (wc := [(h0, .inr (8, [.int th, .ref q1, .ref q2, .ref q3, .ref q4, .ref q5, .ref q6, .ref q7, .ref q8, .ref q9, .ref q10, .ref q11, v12, .ref q13, .ref q14, .ref q15, v16]))]) hD hS hA [0] rfl
                        refine va_calli (va_runV (As := [.int 5]) (rest := []) ⟨hx, hb, hml, hown, hts⟩ (c_X8_refuse l  dC dI H.size h0 th (.ref q1) (.ref q2) (.ref q3) (.ref q4) (.ref q5) (.ref q6) (.ref q7) (.ref q8) (.ref q9) (.ref q10) (.ref q11) v12 (.ref q13) (.ref q14) (.ref q15) v16 5) (cwV 1 hts gX8_map_X8_refuse rfl rfl rfl (by decide +kernel) ⟨(Nat.le_of_ble_eq_true rfl), (Nat.le_of_ble_eq_true rfl)⟩) ⟨pk_blind, va_recv hKc hPc (ci := 8) (q0 := 0) rfl rfl, pk_call hPc hKc hDc⟩ rfl rfl hl.1 rfl (lv_room (Nat.le_of_ble_eq_true rfl)) dX8_map_205 ⟨(Nat.le_of_ble_eq_true rfl), (Nat.le_of_ble_eq_true rfl)⟩) hS (fun q _ h => hFc q h) hFc (fun r_44 ur_44 t H1 locs ht hvm hw hB hz1 hk1 hS => ?_)
                        try dsimp only at hw
                        obtain ⟨hP1, hK1, hD1⟩ := hB
                        rw [ht] at hP1
                        have hK1 := va_K.moved hvm.symm hK1
                        obtain ⟨hP, hD⟩ := va_join (wr := [(q1, .inl (c1, 16, .inl a1)), (q2, .inl (c2, 67200, .inl a2)), (q3, .inl (c3, 16, .inl a3)), (q4, .inl (c4, 16, .inl a4)), (q5, .inl (c5, 16, .inl a5)), (q6, .inl (c6, 16, .inl a6)), (q7, .inl (c7, 16, .inl a7)), (q8, .inl (c8, 16, .inl a8)), (q9, .inl (c9, 16, .inl a9)), (q10, .inl (c10, 16, .inl a10)), (q11, .inl (c11, 16, .inl a11)), (q13, .inl (c13, 1000, .inl a13)), (q14, .inl (c14, 1000, .inl a14)), (q15, .inl (c15, 4096, .inl a15))]) (w1 := [(h0, .inr (8, [.int 5, .ref q1, .ref q2, .ref q3, .ref q4, .ref q5, .ref q6, .ref q7, .ref q8, .ref q9, .ref q10, .ref q11, v12, .ref q13, .ref q14, .ref q15, v16]))]) hP hD [0] [1, 2, 3, 4, 5, 6, 7, 8, 9, 10, 11, 12, 13, 14] rfl rfl (by decide) (by decide) hk1 hFc hP1 hD1
                        clear hk1 hz1 ht hPc hDc hKc hFc
                        generalize H1 = H at hP hS ⊢
                        replace hP : va_P (dC, dI) vwCl [(q1, .inl (c1, 16, .inl a1)), (q2, .inl (c2, 67200, .inl a2)), (q3, .inl (c3, 16, .inl a3)), (q4, .inl (c4, 16, .inl a4)), (q5, .inl (c5, 16, .inl a5)), (q6, .inl (c6, 16, .inl a6)), (q7, .inl (c7, 16, .inl a7)), (q8, .inl (c8, 16, .inl a8)), (q9, .inl (c9, 16, .inl a9)), (q10, .inl (c10, 16, .inl a10)), (q11, .inl (c11, 16, .inl a11)), (q13, .inl (c13, 1000, .inl a13)), (q14, .inl (c14, 1000, .inl a14)), (q15, .inl (c15, 4096, .inl a15)), (h0, .inr (8, [.int 5, .ref q1, .ref q2, .ref q3, .ref q4, .ref q5, .ref q6, .ref q7, .ref q8, .ref q9, .ref q10, .ref q11, v12, .ref q13, .ref q14, .ref q15, v16]))] H := hP
                        replace hD : va_D A [(q1, .inl (c1, 16, .inl a1)), (q2, .inl (c2, 67200, .inl a2)), (q3, .inl (c3, 16, .inl a3)), (q4, .inl (c4, 16, .inl a4)), (q5, .inl (c5, 16, .inl a5)), (q6, .inl (c6, 16, .inl a6)), (q7, .inl (c7, 16, .inl a7)), (q8, .inl (c8, 16, .inl a8)), (q9, .inl (c9, 16, .inl a9)), (q10, .inl (c10, 16, .inl a10)), (q11, .inl (c11, 16, .inl a11)), (q13, .inl (c13, 1000, .inl a13)), (q14, .inl (c14, 1000, .inl a14)), (q15, .inl (c15, 4096, .inl a15)), (h0, .inr (8, [.int 5, .ref q1, .ref q2, .ref q3, .ref q4, .ref q5, .ref q6, .ref q7, .ref q8, .ref q9, .ref q10, .ref q11, v12, .ref q13, .ref q14, .ref q15, v16]))] := hD
                        refine W.widen (k := 0) (n := 0) (Nat.le_of_ble_eq_true rfl) (Nat.le_of_ble_eq_true rfl) ?_
                        obtain rfl : r_44 = 0 := hw
                        refine W.eq (g2 := F0 m 208 ls [.int 0]) rfl ?_
                        refine lv_i2l (v := (0 : Int32).toInt64) hx hb dX8_map_208 rfl ?_
                        have hP9 := hP.sub (ws' := [(h0, .inr (8, [.int 5, .ref q1, .ref q2, .ref q3, .ref q4, .ref q5, .ref q6, .ref q7, .ref q8, .ref q9, .ref q10, .ref q11, v12, .ref q13, .ref q14, .ref q15, v16])), (q1, .inl (c1, 16, .inl a1)), (q2, .inl (c2, 67200, .inl a2)), (q3, .inl (c3, 16, .inl a3)), (q4, .inl (c4, 16, .inl a4)), (q5, .inl (c5, 16, .inl a5)), (q6, .inl (c6, 16, .inl a6)), (q7, .inl (c7, 16, .inl a7)), (q8, .inl (c8, 16, .inl a8)), (q9, .inl (c9, 16, .inl a9)), (q10, .inl (c10, 16, .inl a10)), (q11, .inl (c11, 16, .inl a11)), (q13, .inl (c13, 1000, .inl a13)), (q14, .inl (c14, 1000, .inl a14)), (q15, .inl (c15, 4096, .inl a15))]) [14, 0, 1, 2, 3, 4, 5, 6, 7, 8, 9, 10, 11, 12, 13] rfl
                        have hD9 := hD.sub (ws' := [(h0, .inr (8, [.int 5, .ref q1, .ref q2, .ref q3, .ref q4, .ref q5, .ref q6, .ref q7, .ref q8, .ref q9, .ref q10, .ref q11, v12, .ref q13, .ref q14, .ref q15, v16])), (q1, .inl (c1, 16, .inl a1)), (q2, .inl (c2, 67200, .inl a2)), (q3, .inl (c3, 16, .inl a3)), (q4, .inl (c4, 16, .inl a4)), (q5, .inl (c5, 16, .inl a5)), (q6, .inl (c6, 16, .inl a6)), (q7, .inl (c7, 16, .inl a7)), (q8, .inl (c8, 16, .inl a8)), (q9, .inl (c9, 16, .inl a9)), (q10, .inl (c10, 16, .inl a10)), (q11, .inl (c11, 16, .inl a11)), (q13, .inl (c13, 1000, .inl a13)), (q14, .inl (c14, 1000, .inl a14)), (q15, .inl (c15, 4096, .inl a15))]) [14, 0, 1, 2, 3, 4, 5, 6, 7, 8, 9, 10, 11, 12, 13] (by decide) rfl
                        have hK9 := hK.sub (tys' := [(c1, .int), (c2, .int), (c3, .int), (c4, .int), (c5, .int), (c6, .int), (c7, .int), (c8, .int), (c9, .int), (c10, .int), (c11, .int), (c13, .int), (c14, .int), (c15, .boolean)]) [0, 1, 2, 3, 4, 5, 6, 7, 8, 9, 10, 11, 12, 13] rfl
                        refine W.widen (k := 0) (n := 0) (Nat.le_of_ble_eq_true rfl) (Nat.le_of_ble_eq_true rfl) ?_
                        exact W.lret (v := (0 : Int32).toInt64) hx hb hr (fun t ht hW => ⟨⟨(0 : Int32).toInt64, (5, a2, a3, a6, a7, a13, a14, a15), rfl, ⟨0, 0, by omega, rs_rf, hMa 0⟩, by rw [ht]; exact hP9, va_K.moved hW.alike hK9, hD9⟩, hS.F ht⟩) hS.2.2 dX8_map_209
                      ·
                        have ic_43 : (a1 o).toInt = 1 := tx_eq rfl (by decide) c_43
                        refine lv_iload_n hx hb dX8_map_192 rfl (lv_at hl 4 rfl) ?_
                        refine lv_bipush (v := 23) hx hb dX8_map_193 (by decide) ?_
                        refine lv_icmp_ne (tgt := 210) hx hb dX8_map_195 (by decide) (fun c_45 => ?_) (fun c_45 => absurd c_45 (fun h9 => absurd (c_39.symm.trans h9) (by decide)))
                        have fj0_ : p1 = 22 → (a1 o).toInt = 1 := fun _ => ic_43
                        exact jn210 (ls, H, locs) ⟨lv_sub hl [0, 1, 2, 3, 4, 5, 6] rfl, hP.sub [0, 1, 2, 3, 4, 5, 6, 7, 8, 9, 10, 11, 12, 13, 14] rfl, hS, fj0_⟩
                ·
                  refine lv_iload_n hx hb dX8_map_154 rfl (lv_at hl 4 rfl) ?_
                  refine lv_bipush (v := 14) hx hb dX8_map_155 (by decide) ?_
                  refine lv_bipush (v := 17) hx hb dX8_map_157 (by decide) ?_
                  have hPc := hP.sub (ws' := []) [] rfl
                  have hDc := hD.sub (ws' := []) [] (by decide) rfl
                  have hKc := hK.sub (tys' := []) [] rfl
                  have hFc := va_free (wc := []) hD hS hA [] rfl
                  refine va_calli (va_runS (As := [.int p1, .int 14, .int 17]) (rest := []) ⟨hx, hb, hml, hown, hts⟩ (c_X8_in l  dC dI H.size p1 14 17 p1.toInt 14 17 rfl (by decide) (by decide)) (va_cwS 3 hts gX8_map_X8_in rfl rfl rfl (by decide +kernel) ⟨(Nat.le_of_ble_eq_true rfl), (Nat.le_of_ble_eq_true rfl)⟩) ⟨pk_blind, pk_call hPc hKc hDc⟩ rfl rfl hl.1 rfl (lv_room (Nat.le_of_ble_eq_true rfl)) dX8_map_159 ⟨(Nat.le_of_ble_eq_true rfl), (Nat.le_of_ble_eq_true rfl)⟩) hS (fun q _ h => hFc q h) hFc (fun r_46 ur_46 t H1 locs ht hvm hw hB hz1 hk1 hS => ?_)
                  try dsimp only at hw
                  have jr_46 := hw
                  obtain ⟨hP, hD⟩ := va_join (wr := [(h0, .inr (8, [.int th, .ref q1, .ref q2, .ref q3, .ref q4, .ref q5, .ref q6, .ref q7, .ref q8, .ref q9, .ref q10, .ref q11, v12, .ref q13, .ref q14, .ref q15, v16])), (q1, .inl (c1, 16, .inl a1)), (q2, .inl (c2, 67200, .inl a2)), (q3, .inl (c3, 16, .inl a3)), (q4, .inl (c4, 16, .inl a4)), (q5, .inl (c5, 16, .inl a5)), (q6, .inl (c6, 16, .inl a6)), (q7, .inl (c7, 16, .inl a7)), (q8, .inl (c8, 16, .inl a8)), (q9, .inl (c9, 16, .inl a9)), (q10, .inl (c10, 16, .inl a10)), (q11, .inl (c11, 16, .inl a11)), (q13, .inl (c13, 1000, .inl a13)), (q14, .inl (c14, 1000, .inl a14)), (q15, .inl (c15, 4096, .inl a15))]) (w1 := []) hP hD [] [0, 1, 2, 3, 4, 5, 6, 7, 8, 9, 10, 11, 12, 13, 14] rfl rfl (by decide) (by decide) hk1 hFc tx_P0 tx_D0
                  clear hk1 hz1 ht hPc hDc hKc hFc
                  generalize H1 = H at hP hS ⊢
                  replace hP : va_P (dC, dI) vwCl [(h0, .inr (8, [.int th, .ref q1, .ref q2, .ref q3, .ref q4, .ref q5, .ref q6, .ref q7, .ref q8, .ref q9, .ref q10, .ref q11, v12, .ref q13, .ref q14, .ref q15, v16])), (q1, .inl (c1, 16, .inl a1)), (q2, .inl (c2, 67200, .inl a2)), (q3, .inl (c3, 16, .inl a3)), (q4, .inl (c4, 16, .inl a4)), (q5, .inl (c5, 16, .inl a5)), (q6, .inl (c6, 16, .inl a6)), (q7, .inl (c7, 16, .inl a7)), (q8, .inl (c8, 16, .inl a8)), (q9, .inl (c9, 16, .inl a9)), (q10, .inl (c10, 16, .inl a10)), (q11, .inl (c11, 16, .inl a11)), (q13, .inl (c13, 1000, .inl a13)), (q14, .inl (c14, 1000, .inl a14)), (q15, .inl (c15, 4096, .inl a15))] H := hP
                  replace hD : va_D A [(h0, .inr (8, [.int th, .ref q1, .ref q2, .ref q3, .ref q4, .ref q5, .ref q6, .ref q7, .ref q8, .ref q9, .ref q10, .ref q11, v12, .ref q13, .ref q14, .ref q15, v16])), (q1, .inl (c1, 16, .inl a1)), (q2, .inl (c2, 67200, .inl a2)), (q3, .inl (c3, 16, .inl a3)), (q4, .inl (c4, 16, .inl a4)), (q5, .inl (c5, 16, .inl a5)), (q6, .inl (c6, 16, .inl a6)), (q7, .inl (c7, 16, .inl a7)), (q8, .inl (c8, 16, .inl a8)), (q9, .inl (c9, 16, .inl a9)), (q10, .inl (c10, 16, .inl a10)), (q11, .inl (c11, 16, .inl a11)), (q13, .inl (c13, 1000, .inl a13)), (q14, .inl (c14, 1000, .inl a14)), (q15, .inl (c15, 4096, .inl a15))] := hD
                  refine W.widen (k := 0) (n := 0) (Nat.le_of_ble_eq_true rfl) (Nat.le_of_ble_eq_true rfl) ?_
                  refine W.eq (g2 := F0 m 162 ls [.int r_46]) rfl ?_
                  refine lv_if_eq (tgt := 170) hx hb dX8_map_162 (by decide) (fun c_47 => ?_) (fun c_47 => ?_)
                  ·
                    have ic_47 : r_46.toInt = 0 := tx_eq rfl (by decide) c_47
                    exact jn170 (ls, H, locs) ⟨lv_sub hl [0, 1, 2, 3, 4, 5, 6] rfl, hP.sub [0, 1, 2, 3, 4, 5, 6, 7, 8, 9, 10, 11, 12, 13, 14] rfl, hS⟩
                  ·
                    have ic_47 : ¬ r_46.toInt = 0 := tx_ne rfl (by decide) c_47
                    refine lv_iload hx hb dX8_map_165 (lv_at hl 0 rfl) ?_
                    refine lv_if_eq (tgt := 203) hx hb dX8_map_167 (by decide) (fun c_48 => ?_) (fun c_48 => ?_)
                    ·
                      have ic_48 : x6.toInt = 0 := tx_eq rfl (by decide) c_48
                      refine lv_aload_n hx hb dX8_map_203 rfl (lv_at hl 2 rfl) ?_
                      refine lv_iconst (v := 5) hx hb dX8_map_204 (by decide) ?_
                      have hPc := hP.sub (ws' := [(h0, .inr (8, [.int th, .ref q1, .ref q2, .ref q3, .ref q4, .ref q5, .ref q6, .ref q7, .ref q8, .ref q9, .ref q10, .ref q11, v12, .ref q13, .ref q14, .ref q15, v16]))]) [0] rfl
                      have hDc := hD.sub (ws' := [(h0, .inr (8, [.int th, .ref q1, .ref q2, .ref q3, .ref q4, .ref q5, .ref q6, .ref q7, .ref q8, .ref q9, .ref q10, .ref q11, v12, .ref q13, .ref q14, .ref q15, v16]))]) [0] (by decide) rfl
                      have hKc := hK.sub (tys' := []) [] rfl
                      have hFc := va_free (wc := [(h0, .inr (8, [.int th, .ref q1, .ref q2, .ref q3, .ref q4, .ref q5, .ref q6, .ref q7, .ref q8, .ref q9, .ref q10, .ref q11, v12, .ref q13, .ref q14, .ref q15, v16]))]) hD hS hA [0] rfl
                      refine va_calli (va_runV (As := [.int 5]) (rest := []) ⟨hx, hb, hml, hown, hts⟩ (c_X8_refuse l  dC dI H.size h0 th (.ref q1) (.ref q2) (.ref q3) (.ref q4) (.ref q5) (.ref q6) (.ref q7) (.ref q8) (.ref q9) (.ref q10) (.ref q11) v12 (.ref q13) (.ref q14) (.ref q15) v16 5) (cwV 1 hts gX8_map_X8_refuse rfl rfl rfl (by decide +kernel) ⟨(Nat.le_of_ble_eq_true rfl), (Nat.le_of_ble_eq_true rfl)⟩) ⟨pk_blind, va_recv hKc hPc (ci := 8) (q0 := 0) rfl rfl, pk_call hPc hKc hDc⟩ rfl rfl hl.1 rfl (lv_room (Nat.le_of_ble_eq_true rfl)) dX8_map_205 ⟨(Nat.le_of_ble_eq_true rfl), (Nat.le_of_ble_eq_true rfl)⟩) hS (fun q _ h => hFc q h) hFc (fun r_49 ur_49 t H1 locs ht hvm hw hB hz1 hk1 hS => ?_)
                      try dsimp only at hw
                      obtain ⟨hP1, hK1, hD1⟩ := hB
                      rw [ht] at hP1
                      have hK1 := va_K.moved hvm.symm hK1
                      obtain ⟨hP, hD⟩ := va_join (wr := [(q1, .inl (c1, 16, .inl a1)), (q2, .inl (c2, 67200, .inl a2)), (q3, .inl (c3, 16, .inl a3)), (q4, .inl (c4, 16, .inl a4)), (q5, .inl (c5, 16, .inl a5)), (q6, .inl (c6, 16, .inl a6)), (q7, .inl (c7, 16, .inl a7)), (q8, .inl (c8, 16, .inl a8)), (q9, .inl (c9, 16, .inl a9)), (q10, .inl (c10, 16, .inl a10)), (q11, .inl (c11, 16, .inl a11)), (q13, .inl (c13, 1000, .inl a13)), (q14, .inl (c14, 1000, .inl a14)), (q15, .inl (c15, 4096, .inl a15))]) (w1 := [(h0, .inr (8, [.int 5, .ref q1, .ref q2, .ref q3, .ref q4, .ref q5, .ref q6, .ref q7, .ref q8, .ref q9, .ref q10, .ref q11, v12, .ref q13, .ref q14, .ref q15, v16]))]) hP hD [0] [1, 2, 3, 4, 5, 6, 7, 8, 9, 10, 11, 12, 13, 14] rfl rfl (by decide) (by decide) hk1 hFc hP1 hD1
                      clear hk1 hz1 ht hPc hDc hKc hFc
                      generalize H1 = H at hP hS ⊢
                      replace hP : va_P (dC, dI) vwCl [(q1, .inl (c1, 16, .inl a1)), (q2, .inl (c2, 67200, .inl a2)), (q3, .inl (c3, 16, .inl a3)), (q4, .inl (c4, 16, .inl a4)), (q5, .inl (c5, 16, .inl a5)), (q6, .inl (c6, 16, .inl a6)), (q7, .inl (c7, 16, .inl a7)), (q8, .inl (c8, 16, .inl a8)), (q9, .inl (c9, 16, .inl a9)), (q10, .inl (c10, 16, .inl a10)), (q11, .inl (c11, 16, .inl a11)), (q13, .inl (c13, 1000, .inl a13)), (q14, .inl (c14, 1000, .inl a14)), (q15, .inl (c15, 4096, .inl a15)), (h0, .inr (8, [.int 5, .ref q1, .ref q2, .ref q3, .ref q4, .ref q5, .ref q6, .ref q7, .ref q8, .ref q9, .ref q10, .ref q11, v12, .ref q13, .ref q14, .ref q15, v16]))] H := hP
                      replace hD : va_D A [(q1, .inl (c1, 16, .inl a1)), (q2, .inl (c2, 67200, .inl a2)), (q3, .inl (c3, 16, .inl a3)), (q4, .inl (c4, 16, .inl a4)), (q5, .inl (c5, 16, .inl a5)), (q6, .inl (c6, 16, .inl a6)), (q7, .inl (c7, 16, .inl a7)), (q8, .inl (c8, 16, .inl a8)), (q9, .inl (c9, 16, .inl a9)), (q10, .inl (c10, 16, .inl a10)), (q11, .inl (c11, 16, .inl a11)), (q13, .inl (c13, 1000, .inl a13)), (q14, .inl (c14, 1000, .inl a14)), (q15, .inl (c15, 4096, .inl a15)), (h0, .inr (8, [.int 5, .ref q1, .ref q2, .ref q3, .ref q4, .ref q5, .ref q6, .ref q7, .ref q8, .ref q9, .ref q10, .ref q11, v12, .ref q13, .ref q14, .ref q15, v16]))] := hD
                      refine W.widen (k := 0) (n := 0) (Nat.le_of_ble_eq_true rfl) (Nat.le_of_ble_eq_true rfl) ?_
                      obtain rfl : r_49 = 0 := hw
                      refine W.eq (g2 := F0 m 208 ls [.int 0]) rfl ?_
                      refine lv_i2l (v := (0 : Int32).toInt64) hx hb dX8_map_208 rfl ?_
                      have hP9 := hP.sub (ws' := [(h0, .inr (8, [.int 5, .ref q1, .ref q2, .ref q3, .ref q4, .ref q5, .ref q6, .ref q7, .ref q8, .ref q9, .ref q10, .ref q11, v12, .ref q13, .ref q14, .ref q15, v16])), (q1, .inl (c1, 16, .inl a1)), (q2, .inl (c2, 67200, .inl a2)), (q3, .inl (c3, 16, .inl a3)), (q4, .inl (c4, 16, .inl a4)), (q5, .inl (c5, 16, .inl a5)), (q6, .inl (c6, 16, .inl a6)), (q7, .inl (c7, 16, .inl a7)), (q8, .inl (c8, 16, .inl a8)), (q9, .inl (c9, 16, .inl a9)), (q10, .inl (c10, 16, .inl a10)), (q11, .inl (c11, 16, .inl a11)), (q13, .inl (c13, 1000, .inl a13)), (q14, .inl (c14, 1000, .inl a14)), (q15, .inl (c15, 4096, .inl a15))]) [14, 0, 1, 2, 3, 4, 5, 6, 7, 8, 9, 10, 11, 12, 13] rfl
                      have hD9 := hD.sub (ws' := [(h0, .inr (8, [.int 5, .ref q1, .ref q2, .ref q3, .ref q4, .ref q5, .ref q6, .ref q7, .ref q8, .ref q9, .ref q10, .ref q11, v12, .ref q13, .ref q14, .ref q15, v16])), (q1, .inl (c1, 16, .inl a1)), (q2, .inl (c2, 67200, .inl a2)), (q3, .inl (c3, 16, .inl a3)), (q4, .inl (c4, 16, .inl a4)), (q5, .inl (c5, 16, .inl a5)), (q6, .inl (c6, 16, .inl a6)), (q7, .inl (c7, 16, .inl a7)), (q8, .inl (c8, 16, .inl a8)), (q9, .inl (c9, 16, .inl a9)), (q10, .inl (c10, 16, .inl a10)), (q11, .inl (c11, 16, .inl a11)), (q13, .inl (c13, 1000, .inl a13)), (q14, .inl (c14, 1000, .inl a14)), (q15, .inl (c15, 4096, .inl a15))]) [14, 0, 1, 2, 3, 4, 5, 6, 7, 8, 9, 10, 11, 12, 13] (by decide) rfl
                      have hK9 := hK.sub (tys' := [(c1, .int), (c2, .int), (c3, .int), (c4, .int), (c5, .int), (c6, .int), (c7, .int), (c8, .int), (c9, .int), (c10, .int), (c11, .int), (c13, .int), (c14, .int), (c15, .boolean)]) [0, 1, 2, 3, 4, 5, 6, 7, 8, 9, 10, 11, 12, 13] rfl
                      refine W.widen (k := 0) (n := 0) (Nat.le_of_ble_eq_true rfl) (Nat.le_of_ble_eq_true rfl) ?_
                      exact W.lret (v := (0 : Int32).toInt64) hx hb hr (fun t ht hW => ⟨⟨(0 : Int32).toInt64, (5, a2, a3, a6, a7, a13, a14, a15), rfl, ⟨0, 0, by omega, rs_rf, hMa 0⟩, by rw [ht]; exact hP9, va_K.moved hW.alike hK9, hD9⟩, hS.F ht⟩) hS.2.2 dX8_map_209
                    ·
                      have ic_48 : ¬ x6.toInt = 0 := tx_ne rfl (by decide) c_48
                      exact jn170 (ls, H, locs) ⟨lv_sub hl [0, 1, 2, 3, 4, 5, 6] rfl, hP.sub [0, 1, 2, 3, 4, 5, 6, 7, 8, 9, 10, 11, 12, 13, 14] rfl, hS⟩
              ·
                refine lv_iload_n hx hb dX8_map_133 rfl (lv_at hl 4 rfl) ?_
                refine lv_bipush (v := 10) hx hb dX8_map_134 (by decide) ?_
                refine lv_bipush (v := 13) hx hb dX8_map_136 (by decide) ?_
                have hPc := hP.sub (ws' := []) [] rfl
                have hDc := hD.sub (ws' := []) [] (by decide) rfl
                have hKc := hK.sub (tys' := []) [] rfl
                have hFc := va_free (wc := []) hD hS hA [] rfl
                refine va_calli (va_runS (As := [.int p1, .int 10, .int 13]) (rest := []) ⟨hx, hb, hml, hown, hts⟩ (c_X8_in l  dC dI H.size p1 10 13 p1.toInt 10 13 rfl (by decide) (by decide)) (va_cwS 3 hts gX8_map_X8_in rfl rfl rfl (by decide +kernel) ⟨(Nat.le_of_ble_eq_true rfl), (Nat.le_of_ble_eq_true rfl)⟩) ⟨pk_blind, pk_call hPc hKc hDc⟩ rfl rfl hl.1 rfl (lv_room (Nat.le_of_ble_eq_true rfl)) dX8_map_138 ⟨(Nat.le_of_ble_eq_true rfl), (Nat.le_of_ble_eq_true rfl)⟩) hS (fun q _ h => hFc q h) hFc (fun r_50 ur_50 t H1 locs ht hvm hw hB hz1 hk1 hS => ?_)
                try dsimp only at hw
                have jr_50 := hw
                obtain ⟨hP, hD⟩ := va_join (wr := [(h0, .inr (8, [.int th, .ref q1, .ref q2, .ref q3, .ref q4, .ref q5, .ref q6, .ref q7, .ref q8, .ref q9, .ref q10, .ref q11, v12, .ref q13, .ref q14, .ref q15, v16])), (q1, .inl (c1, 16, .inl a1)), (q2, .inl (c2, 67200, .inl a2)), (q3, .inl (c3, 16, .inl a3)), (q4, .inl (c4, 16, .inl a4)), (q5, .inl (c5, 16, .inl a5)), (q6, .inl (c6, 16, .inl a6)), (q7, .inl (c7, 16, .inl a7)), (q8, .inl (c8, 16, .inl a8)), (q9, .inl (c9, 16, .inl a9)), (q10, .inl (c10, 16, .inl a10)), (q11, .inl (c11, 16, .inl a11)), (q13, .inl (c13, 1000, .inl a13)), (q14, .inl (c14, 1000, .inl a14)), (q15, .inl (c15, 4096, .inl a15))]) (w1 := []) hP hD [] [0, 1, 2, 3, 4, 5, 6, 7, 8, 9, 10, 11, 12, 13, 14] rfl rfl (by decide) (by decide) hk1 hFc tx_P0 tx_D0
                clear hk1 hz1 ht hPc hDc hKc hFc
                generalize H1 = H at hP hS ⊢
                replace hP : va_P (dC, dI) vwCl [(h0, .inr (8, [.int th, .ref q1, .ref q2, .ref q3, .ref q4, .ref q5, .ref q6, .ref q7, .ref q8, .ref q9, .ref q10, .ref q11, v12, .ref q13, .ref q14, .ref q15, v16])), (q1, .inl (c1, 16, .inl a1)), (q2, .inl (c2, 67200, .inl a2)), (q3, .inl (c3, 16, .inl a3)), (q4, .inl (c4, 16, .inl a4)), (q5, .inl (c5, 16, .inl a5)), (q6, .inl (c6, 16, .inl a6)), (q7, .inl (c7, 16, .inl a7)), (q8, .inl (c8, 16, .inl a8)), (q9, .inl (c9, 16, .inl a9)), (q10, .inl (c10, 16, .inl a10)), (q11, .inl (c11, 16, .inl a11)), (q13, .inl (c13, 1000, .inl a13)), (q14, .inl (c14, 1000, .inl a14)), (q15, .inl (c15, 4096, .inl a15))] H := hP
                replace hD : va_D A [(h0, .inr (8, [.int th, .ref q1, .ref q2, .ref q3, .ref q4, .ref q5, .ref q6, .ref q7, .ref q8, .ref q9, .ref q10, .ref q11, v12, .ref q13, .ref q14, .ref q15, v16])), (q1, .inl (c1, 16, .inl a1)), (q2, .inl (c2, 67200, .inl a2)), (q3, .inl (c3, 16, .inl a3)), (q4, .inl (c4, 16, .inl a4)), (q5, .inl (c5, 16, .inl a5)), (q6, .inl (c6, 16, .inl a6)), (q7, .inl (c7, 16, .inl a7)), (q8, .inl (c8, 16, .inl a8)), (q9, .inl (c9, 16, .inl a9)), (q10, .inl (c10, 16, .inl a10)), (q11, .inl (c11, 16, .inl a11)), (q13, .inl (c13, 1000, .inl a13)), (q14, .inl (c14, 1000, .inl a14)), (q15, .inl (c15, 4096, .inl a15))] := hD
                refine W.widen (k := 0) (n := 0) (Nat.le_of_ble_eq_true rfl) (Nat.le_of_ble_eq_true rfl) ?_
                refine W.eq (g2 := F0 m 141 ls [.int r_50]) rfl ?_
                refine lv_if_eq (tgt := 154) hx hb dX8_map_141 (by decide) (fun c_51 => ?_) (fun c_51 => ?_)
                ·
                  have ic_51 : r_50.toInt = 0 := tx_eq rfl (by decide) c_51
                  exact jn154 (ls, H, locs) ⟨lv_sub hl [0, 1, 2, 3, 4, 5, 6] rfl, hP.sub [0, 1, 2, 3, 4, 5, 6, 7, 8, 9, 10, 11, 12, 13, 14] rfl, hS⟩
                ·
                  have ic_51 : ¬ r_50.toInt = 0 := tx_ne rfl (by decide) c_51
                  refine lv_aload_n hx hb dX8_map_144 rfl (lv_at hl 2 rfl) ?_
                  refine va_get (D := (dC, dI)) (ci := 8) (v := .ref q1) (C := RX8) (T := TX8) (N := 17) hx hb hts hi0_ hown hK hP 0 rfl rfl 1 (by decide) hw2_ (fun _ h9 => h9) rfl dX8_map_145 ?_
                  refine lv_iload_n hx hb dX8_map_148 rfl (lv_at hl 3 rfl) ?_
                  refine va_iald (i := nI o) hx hb hK hP 1 0 rfl rfl (vp_in_nI (by omega) (by omega)) dX8_map_149 ?_
                  refine W.eq (g2 := F0 m 150 ls [.int (a1 o)]) (by rw [nI_clamp (by omega)]) ?_
                  refine lv_iconst (v := 1) hx hb dX8_map_150 (by decide) ?_
                  refine lv_icmp_eq (tgt := 203) hx hb dX8_map_151 (by decide) (fun c_52 => ?_) (fun c_52 => ?_)
                  ·
                    have ic_52 : (a1 o).toInt = 1 := tx_eq rfl (by decide) c_52
                    refine lv_aload_n hx hb dX8_map_203 rfl (lv_at hl 2 rfl) ?_
                    refine lv_iconst (v := 5) hx hb dX8_map_204 (by decide) ?_
                    have hPc := hP.sub (ws' := [(h0, .inr (8, [.int th, .ref q1, .ref q2, .ref q3, .ref q4, .ref q5, .ref q6, .ref q7, .ref q8, .ref q9, .ref q10, .ref q11, v12, .ref q13, .ref q14, .ref q15, v16]))]) [0] rfl
                    have hDc := hD.sub (ws' := [(h0, .inr (8, [.int th, .ref q1, .ref q2, .ref q3, .ref q4, .ref q5, .ref q6, .ref q7, .ref q8, .ref q9, .ref q10, .ref q11, v12, .ref q13, .ref q14, .ref q15, v16]))]) [0] (by decide) rfl
                    have hKc := hK.sub (tys' := []) [] rfl
                    have hFc := va_free (wc := [(h0, .inr (8, [.int th, .ref q1, .ref q2, .ref q3, .ref q4, .ref q5, .ref q6, .ref q7, .ref q8, .ref q9, .ref q10, .ref q11, v12, .ref q13, .ref q14, .ref q15, v16]))]) hD hS hA [0] rfl
                    refine va_calli (va_runV (As := [.int 5]) (rest := []) ⟨hx, hb, hml, hown, hts⟩ (c_X8_refuse l  dC dI H.size h0 th (.ref q1) (.ref q2) (.ref q3) (.ref q4) (.ref q5) (.ref q6) (.ref q7) (.ref q8) (.ref q9) (.ref q10) (.ref q11) v12 (.ref q13) (.ref q14) (.ref q15) v16 5) (cwV 1 hts gX8_map_X8_refuse rfl rfl rfl (by decide +kernel) ⟨(Nat.le_of_ble_eq_true rfl), (Nat.le_of_ble_eq_true rfl)⟩) ⟨pk_blind, va_recv hKc hPc (ci := 8) (q0 := 0) rfl rfl, pk_call hPc hKc hDc⟩ rfl rfl hl.1 rfl (lv_room (Nat.le_of_ble_eq_true rfl)) dX8_map_205 ⟨(Nat.le_of_ble_eq_true rfl), (Nat.le_of_ble_eq_true rfl)⟩) hS (fun q _ h => hFc q h) hFc (fun r_53 ur_53 t H1 locs ht hvm hw hB hz1 hk1 hS => ?_)
                    try dsimp only at hw
                    obtain ⟨hP1, hK1, hD1⟩ := hB
                    rw [ht] at hP1
                    have hK1 := va_K.moved hvm.symm hK1
                    obtain ⟨hP, hD⟩ := va_join (wr := [(q1, .inl (c1, 16, .inl a1)), (q2, .inl (c2, 67200, .inl a2)), (q3, .inl (c3, 16, .inl a3)), (q4, .inl (c4, 16, .inl a4)), (q5, .inl (c5, 16, .inl a5)), (q6, .inl (c6, 16, .inl a6)), (q7, .inl (c7, 16, .inl a7)), (q8, .inl (c8, 16, .inl a8)), (q9, .inl (c9, 16, .inl a9)), (q10, .inl (c10, 16, .inl a10)), (q11, .inl (c11, 16, .inl a11)), (q13, .inl (c13, 1000, .inl a13)), (q14, .inl (c14, 1000, .inl a14)), (q15, .inl (c15, 4096, .inl a15))]) (w1 := [(h0, .inr (8, [.int 5, .ref q1, .ref q2, .ref q3, .ref q4, .ref q5, .ref q6, .ref q7, .ref q8, .ref q9, .ref q10, .ref q11, v12, .ref q13, .ref q14, .ref q15, v16]))]) hP hD [0] [1, 2, 3, 4, 5, 6, 7, 8, 9, 10, 11, 12, 13, 14] rfl rfl (by decide) (by decide) hk1 hFc hP1 hD1
                    clear hk1 hz1 ht hPc hDc hKc hFc
                    generalize H1 = H at hP hS ⊢
                    replace hP : va_P (dC, dI) vwCl [(q1, .inl (c1, 16, .inl a1)), (q2, .inl (c2, 67200, .inl a2)), (q3, .inl (c3, 16, .inl a3)), (q4, .inl (c4, 16, .inl a4)), (q5, .inl (c5, 16, .inl a5)), (q6, .inl (c6, 16, .inl a6)), (q7, .inl (c7, 16, .inl a7)), (q8, .inl (c8, 16, .inl a8)), (q9, .inl (c9, 16, .inl a9)), (q10, .inl (c10, 16, .inl a10)), (q11, .inl (c11, 16, .inl a11)), (q13, .inl (c13, 1000, .inl a13)), (q14, .inl (c14, 1000, .inl a14)), (q15, .inl (c15, 4096, .inl a15)), (h0, .inr (8, [.int 5, .ref q1, .ref q2, .ref q3, .ref q4, .ref q5, .ref q6, .ref q7, .ref q8, .ref q9, .ref q10, .ref q11, v12, .ref q13, .ref q14, .ref q15, v16]))] H := hP
                    replace hD : va_D A [(q1, .inl (c1, 16, .inl a1)), (q2, .inl (c2, 67200, .inl a2)), (q3, .inl (c3, 16, .inl a3)), (q4, .inl (c4, 16, .inl a4)), (q5, .inl (c5, 16, .inl a5)), (q6, .inl (c6, 16, .inl a6)), (q7, .inl (c7, 16, .inl a7)), (q8, .inl (c8, 16, .inl a8)), (q9, .inl (c9, 16, .inl a9)), (q10, .inl (c10, 16, .inl a10)), (q11, .inl (c11, 16, .inl a11)), (q13, .inl (c13, 1000, .inl a13)), (q14, .inl (c14, 1000, .inl a14)), (q15, .inl (c15, 4096, .inl a15)), (h0, .inr (8, [.int 5, .ref q1, .ref q2, .ref q3, .ref q4, .ref q5, .ref q6, .ref q7, .ref q8, .ref q9, .ref q10, .ref q11, v12, .ref q13, .ref q14, .ref q15, v16]))] := hD
                    refine W.widen (k := 0) (n := 0) (Nat.le_of_ble_eq_true rfl) (Nat.le_of_ble_eq_true rfl) ?_
                    obtain rfl : r_53 = 0 := hw
                    refine W.eq (g2 := F0 m 208 ls [.int 0]) rfl ?_
                    refine lv_i2l (v := (0 : Int32).toInt64) hx hb dX8_map_208 rfl ?_
                    have hP9 := hP.sub (ws' := [(h0, .inr (8, [.int 5, .ref q1, .ref q2, .ref q3, .ref q4, .ref q5, .ref q6, .ref q7, .ref q8, .ref q9, .ref q10, .ref q11, v12, .ref q13, .ref q14, .ref q15, v16])), (q1, .inl (c1, 16, .inl a1)), (q2, .inl (c2, 67200, .inl a2)), (q3, .inl (c3, 16, .inl a3)), (q4, .inl (c4, 16, .inl a4)), (q5, .inl (c5, 16, .inl a5)), (q6, .inl (c6, 16, .inl a6)), (q7, .inl (c7, 16, .inl a7)), (q8, .inl (c8, 16, .inl a8)), (q9, .inl (c9, 16, .inl a9)), (q10, .inl (c10, 16, .inl a10)), (q11, .inl (c11, 16, .inl a11)), (q13, .inl (c13, 1000, .inl a13)), (q14, .inl (c14, 1000, .inl a14)), (q15, .inl (c15, 4096, .inl a15))]) [14, 0, 1, 2, 3, 4, 5, 6, 7, 8, 9, 10, 11, 12, 13] rfl
                    have hD9 := hD.sub (ws' := [(h0, .inr (8, [.int 5, .ref q1, .ref q2, .ref q3, .ref q4, .ref q5, .ref q6, .ref q7, .ref q8, .ref q9, .ref q10, .ref q11, v12, .ref q13, .ref q14, .ref q15, v16])), (q1, .inl (c1, 16, .inl a1)), (q2, .inl (c2, 67200, .inl a2)), (q3, .inl (c3, 16, .inl a3)), (q4, .inl (c4, 16, .inl a4)), (q5, .inl (c5, 16, .inl a5)), (q6, .inl (c6, 16, .inl a6)), (q7, .inl (c7, 16, .inl a7)), (q8, .inl (c8, 16, .inl a8)), (q9, .inl (c9, 16, .inl a9)), (q10, .inl (c10, 16, .inl a10)), (q11, .inl (c11, 16, .inl a11)), (q13, .inl (c13, 1000, .inl a13)), (q14, .inl (c14, 1000, .inl a14)), (q15, .inl (c15, 4096, .inl a15))]) [14, 0, 1, 2, 3, 4, 5, 6, 7, 8, 9, 10, 11, 12, 13] (by decide) rfl
                    have hK9 := hK.sub (tys' := [(c1, .int), (c2, .int), (c3, .int), (c4, .int), (c5, .int), (c6, .int), (c7, .int), (c8, .int), (c9, .int), (c10, .int), (c11, .int), (c13, .int), (c14, .int), (c15, .boolean)]) [0, 1, 2, 3, 4, 5, 6, 7, 8, 9, 10, 11, 12, 13] rfl
                    refine W.widen (k := 0) (n := 0) (Nat.le_of_ble_eq_true rfl) (Nat.le_of_ble_eq_true rfl) ?_
                    exact W.lret (v := (0 : Int32).toInt64) hx hb hr (fun t ht hW => ⟨⟨(0 : Int32).toInt64, (5, a2, a3, a6, a7, a13, a14, a15), rfl, ⟨0, 0, by omega, rs_rf, hMa 0⟩, by rw [ht]; exact hP9, va_K.moved hW.alike hK9, hD9⟩, hS.F ht⟩) hS.2.2 dX8_map_209
                  ·
                    have ic_52 : ¬ (a1 o).toInt = 1 := tx_ne rfl (by decide) c_52
                    exact jn154 (ls, H, locs) ⟨lv_sub hl [0, 1, 2, 3, 4, 5, 6] rfl, hP.sub [0, 1, 2, 3, 4, 5, 6, 7, 8, 9, 10, 11, 12, 13, 14] rfl, hS⟩
          ·
            refine lv_aload_n hx hb dX8_map_106 rfl (lv_at hl 1 rfl) ?_
            refine va_get (D := (dC, dI)) (ci := 8) (v := .ref q1) (C := RX8) (T := TX8) (N := 17) hx hb hts hi0_ hown hK hP 0 rfl rfl 1 (by decide) hw2_ (fun _ h9 => h9) rfl dX8_map_107 ?_
            refine lv_iload_n hx hb dX8_map_110 rfl (lv_at hl 2 rfl) ?_
            refine va_iald (i := nI o) hx hb hK hP 1 0 rfl rfl (vp_in_nI (by omega) (by omega)) dX8_map_111 ?_
            refine W.eq (g2 := F0 m 112 ls [.int (a1 o)]) (by rw [nI_clamp (by omega)]) ?_
            refine lv_iconst (v := 3) hx hb dX8_map_112 (by decide) ?_
            refine lv_icmp_eq (tgt := 126) hx hb dX8_map_113 (by decide) (fun c_54 => ?_) (fun c_54 => ?_)
            ·
              have ic_54 : (a1 o).toInt = 3 := tx_eq rfl (by decide) c_54
              refine lv_iconst (v := 1) hx hb dX8_map_126 (by decide) ?_
              refine lv_goto (tgt := 131) hx hb dX8_map_127 (by decide) ?_
              refine lv_istore (lv' := [(6, .int 1), (5, .int x5), (0, .ref h0), (1, .int (nI o)), (2, .int p1), (3, .int p2), (4, .int p3)]) hx hb dX8_map_131 hl (by decide) rfl (fun ls hl => ?_)
              exact jn133 (ls, H, locs, 1) ⟨lv_sub hl [0, 1, 2, 3, 4, 5, 6] rfl, hP.sub [0, 1, 2, 3, 4, 5, 6, 7, 8, 9, 10, 11, 12, 13, 14] rfl, hS⟩
            ·
              have ic_54 : ¬ (a1 o).toInt = 3 := tx_ne rfl (by decide) c_54
              refine lv_aload_n hx hb dX8_map_116 rfl (lv_at hl 1 rfl) ?_
              refine va_get (D := (dC, dI)) (ci := 8) (v := .ref q1) (C := RX8) (T := TX8) (N := 17) hx hb hts hi0_ hown hK hP 0 rfl rfl 1 (by decide) hw2_ (fun _ h9 => h9) rfl dX8_map_117 ?_
              refine lv_iload_n hx hb dX8_map_120 rfl (lv_at hl 2 rfl) ?_
              refine va_iald (i := nI o) hx hb hK hP 1 0 rfl rfl (vp_in_nI (by omega) (by omega)) dX8_map_121 ?_
              refine W.eq (g2 := F0 m 122 ls [.int (a1 o)]) (by rw [nI_clamp (by omega)]) ?_
              refine lv_iconst (v := 4) hx hb dX8_map_122 (by decide) ?_
              refine lv_icmp_ne (tgt := 130) hx hb dX8_map_123 (by decide) (fun c_55 => ?_) (fun c_55 => ?_)
              ·
                have ic_55 : ¬ (a1 o).toInt = 4 := tx_ne rfl (by decide) c_55
                refine lv_iconst (v := 0) hx hb dX8_map_130 (by decide) ?_
                refine lv_istore (lv' := [(6, .int 0), (5, .int x5), (0, .ref h0), (1, .int (nI o)), (2, .int p1), (3, .int p2), (4, .int p3)]) hx hb dX8_map_131 hl (by decide) rfl (fun ls hl => ?_)
                exact jn133 (ls, H, locs, 0) ⟨lv_sub hl [0, 1, 2, 3, 4, 5, 6] rfl, hP.sub [0, 1, 2, 3, 4, 5, 6, 7, 8, 9, 10, 11, 12, 13, 14] rfl, hS⟩
              ·
                have ic_55 : (a1 o).toInt = 4 := tx_eq rfl (by decide) c_55
                refine lv_iconst (v := 1) hx hb dX8_map_126 (by decide) ?_
                refine lv_goto (tgt := 131) hx hb dX8_map_127 (by decide) ?_
                refine lv_istore (lv' := [(6, .int 1), (5, .int x5), (0, .ref h0), (1, .int (nI o)), (2, .int p1), (3, .int p2), (4, .int p3)]) hx hb dX8_map_131 hl (by decide) rfl (fun ls hl => ?_)
                exact jn133 (ls, H, locs, 1) ⟨lv_sub hl [0, 1, 2, 3, 4, 5, 6] rfl, hP.sub [0, 1, 2, 3, 4, 5, 6, 7, 8, 9, 10, 11, 12, 13, 14] rfl, hS⟩
        ·
          refine lv_iload_n hx hb dX8_map_77 rfl (lv_at hl 3 rfl) ?_
          refine lv_iconst (v := 0) hx hb dX8_map_78 (by decide) ?_
          refine lv_bipush (v := 25) hx hb dX8_map_79 (by decide) ?_
          have hPc := hP.sub (ws' := []) [] rfl
          have hDc := hD.sub (ws' := []) [] (by decide) rfl
          have hKc := hK.sub (tys' := []) [] rfl
          have hFc := va_free (wc := []) hD hS hA [] rfl
          refine va_calli (va_runS (As := [.int p1, .int 0, .int 25]) (rest := []) ⟨hx, hb, hml, hown, hts⟩ (c_X8_in l  dC dI H.size p1 0 25 p1.toInt 0 25 rfl (by decide) (by decide)) (va_cwS 3 hts gX8_map_X8_in rfl rfl rfl (by decide +kernel) ⟨(Nat.le_of_ble_eq_true rfl), (Nat.le_of_ble_eq_true rfl)⟩) ⟨pk_blind, pk_call hPc hKc hDc⟩ rfl rfl hl.1 rfl (lv_room (Nat.le_of_ble_eq_true rfl)) dX8_map_81 ⟨(Nat.le_of_ble_eq_true rfl), (Nat.le_of_ble_eq_true rfl)⟩) hS (fun q _ h => hFc q h) hFc (fun r_56 ur_56 t H1 locs ht hvm hw hB hz1 hk1 hS => ?_)
          try dsimp only at hw
          have jr_56 := hw
          obtain ⟨hP, hD⟩ := va_join (wr := [(h0, .inr (8, [.int th, .ref q1, .ref q2, .ref q3, .ref q4, .ref q5, .ref q6, .ref q7, .ref q8, .ref q9, .ref q10, .ref q11, v12, .ref q13, .ref q14, .ref q15, v16])), (q1, .inl (c1, 16, .inl a1)), (q2, .inl (c2, 67200, .inl a2)), (q3, .inl (c3, 16, .inl a3)), (q4, .inl (c4, 16, .inl a4)), (q5, .inl (c5, 16, .inl a5)), (q6, .inl (c6, 16, .inl a6)), (q7, .inl (c7, 16, .inl a7)), (q8, .inl (c8, 16, .inl a8)), (q9, .inl (c9, 16, .inl a9)), (q10, .inl (c10, 16, .inl a10)), (q11, .inl (c11, 16, .inl a11)), (q13, .inl (c13, 1000, .inl a13)), (q14, .inl (c14, 1000, .inl a14)), (q15, .inl (c15, 4096, .inl a15))]) (w1 := []) hP hD [] [0, 1, 2, 3, 4, 5, 6, 7, 8, 9, 10, 11, 12, 13, 14] rfl rfl (by decide) (by decide) hk1 hFc tx_P0 tx_D0
          clear hk1 hz1 ht hPc hDc hKc hFc
          generalize H1 = H at hP hS ⊢
          replace hP : va_P (dC, dI) vwCl [(h0, .inr (8, [.int th, .ref q1, .ref q2, .ref q3, .ref q4, .ref q5, .ref q6, .ref q7, .ref q8, .ref q9, .ref q10, .ref q11, v12, .ref q13, .ref q14, .ref q15, v16])), (q1, .inl (c1, 16, .inl a1)), (q2, .inl (c2, 67200, .inl a2)), (q3, .inl (c3, 16, .inl a3)), (q4, .inl (c4, 16, .inl a4)), (q5, .inl (c5, 16, .inl a5)), (q6, .inl (c6, 16, .inl a6)), (q7, .inl (c7, 16, .inl a7)), (q8, .inl (c8, 16, .inl a8)), (q9, .inl (c9, 16, .inl a9)), (q10, .inl (c10, 16, .inl a10)), (q11, .inl (c11, 16, .inl a11)), (q13, .inl (c13, 1000, .inl a13)), (q14, .inl (c14, 1000, .inl a14)), (q15, .inl (c15, 4096, .inl a15))] H := hP
          replace hD : va_D A [(h0, .inr (8, [.int th, .ref q1, .ref q2, .ref q3, .ref q4, .ref q5, .ref q6, .ref q7, .ref q8, .ref q9, .ref q10, .ref q11, v12, .ref q13, .ref q14, .ref q15, v16])), (q1, .inl (c1, 16, .inl a1)), (q2, .inl (c2, 67200, .inl a2)), (q3, .inl (c3, 16, .inl a3)), (q4, .inl (c4, 16, .inl a4)), (q5, .inl (c5, 16, .inl a5)), (q6, .inl (c6, 16, .inl a6)), (q7, .inl (c7, 16, .inl a7)), (q8, .inl (c8, 16, .inl a8)), (q9, .inl (c9, 16, .inl a9)), (q10, .inl (c10, 16, .inl a10)), (q11, .inl (c11, 16, .inl a11)), (q13, .inl (c13, 1000, .inl a13)), (q14, .inl (c14, 1000, .inl a14)), (q15, .inl (c15, 4096, .inl a15))] := hD
          refine W.widen (k := 0) (n := 0) (Nat.le_of_ble_eq_true rfl) (Nat.le_of_ble_eq_true rfl) ?_
          refine W.eq (g2 := F0 m 84 ls [.int r_56]) rfl ?_
          refine lv_if_eq (tgt := 99) hx hb dX8_map_84 (by decide) (fun c_57 => ?_) (fun c_57 => ?_)
          ·
            have ic_57 : r_56.toInt = 0 := tx_eq rfl (by decide) c_57
            refine lv_aload_n hx hb dX8_map_99 rfl (lv_at hl 1 rfl) ?_
            refine lv_iconst (v := 3) hx hb dX8_map_100 (by decide) ?_
            have hPc := hP.sub (ws' := [(h0, .inr (8, [.int th, .ref q1, .ref q2, .ref q3, .ref q4, .ref q5, .ref q6, .ref q7, .ref q8, .ref q9, .ref q10, .ref q11, v12, .ref q13, .ref q14, .ref q15, v16]))]) [0] rfl
            have hDc := hD.sub (ws' := [(h0, .inr (8, [.int th, .ref q1, .ref q2, .ref q3, .ref q4, .ref q5, .ref q6, .ref q7, .ref q8, .ref q9, .ref q10, .ref q11, v12, .ref q13, .ref q14, .ref q15, v16]))]) [0] (by decide) rfl
            have hKc := hK.sub (tys' := []) [] rfl
            have hFc := va_free (wc := [(h0, .inr (8, [.int th, .ref q1, .ref q2, .ref q3, .ref q4, .ref q5, .ref q6, .ref q7, .ref q8, .ref q9, .ref q10, .ref q11, v12, .ref q13, .ref q14, .ref q15, v16]))]) hD hS hA [0] rfl
            refine va_calli (va_runV (As := [.int 3]) (rest := []) ⟨hx, hb, hml, hown, hts⟩ (c_X8_refuse l  dC dI H.size h0 th (.ref q1) (.ref q2) (.ref q3) (.ref q4) (.ref q5) (.ref q6) (.ref q7) (.ref q8) (.ref q9) (.ref q10) (.ref q11) v12 (.ref q13) (.ref q14) (.ref q15) v16 3) (cwV 1 hts gX8_map_X8_refuse rfl rfl rfl (by decide +kernel) ⟨(Nat.le_of_ble_eq_true rfl), (Nat.le_of_ble_eq_true rfl)⟩) ⟨pk_blind, va_recv hKc hPc (ci := 8) (q0 := 0) rfl rfl, pk_call hPc hKc hDc⟩ rfl rfl hl.1 rfl (lv_room (Nat.le_of_ble_eq_true rfl)) dX8_map_101 ⟨(Nat.le_of_ble_eq_true rfl), (Nat.le_of_ble_eq_true rfl)⟩) hS (fun q _ h => hFc q h) hFc (fun r_58 ur_58 t H1 locs ht hvm hw hB hz1 hk1 hS => ?_)
            try dsimp only at hw
            obtain ⟨hP1, hK1, hD1⟩ := hB
            rw [ht] at hP1
            have hK1 := va_K.moved hvm.symm hK1
            obtain ⟨hP, hD⟩ := va_join (wr := [(q1, .inl (c1, 16, .inl a1)), (q2, .inl (c2, 67200, .inl a2)), (q3, .inl (c3, 16, .inl a3)), (q4, .inl (c4, 16, .inl a4)), (q5, .inl (c5, 16, .inl a5)), (q6, .inl (c6, 16, .inl a6)), (q7, .inl (c7, 16, .inl a7)), (q8, .inl (c8, 16, .inl a8)), (q9, .inl (c9, 16, .inl a9)), (q10, .inl (c10, 16, .inl a10)), (q11, .inl (c11, 16, .inl a11)), (q13, .inl (c13, 1000, .inl a13)), (q14, .inl (c14, 1000, .inl a14)), (q15, .inl (c15, 4096, .inl a15))]) (w1 := [(h0, .inr (8, [.int 3, .ref q1, .ref q2, .ref q3, .ref q4, .ref q5, .ref q6, .ref q7, .ref q8, .ref q9, .ref q10, .ref q11, v12, .ref q13, .ref q14, .ref q15, v16]))]) hP hD [0] [1, 2, 3, 4, 5, 6, 7, 8, 9, 10, 11, 12, 13, 14] rfl rfl (by decide) (by decide) hk1 hFc hP1 hD1
            clear hk1 hz1 ht hPc hDc hKc hFc
            generalize H1 = H at hP hS ⊢
            replace hP : va_P (dC, dI) vwCl [(q1, .inl (c1, 16, .inl a1)), (q2, .inl (c2, 67200, .inl a2)), (q3, .inl (c3, 16, .inl a3)), (q4, .inl (c4, 16, .inl a4)), (q5, .inl (c5, 16, .inl a5)), (q6, .inl (c6, 16, .inl a6)), (q7, .inl (c7, 16, .inl a7)), (q8, .inl (c8, 16, .inl a8)), (q9, .inl (c9, 16, .inl a9)), (q10, .inl (c10, 16, .inl a10)), (q11, .inl (c11, 16, .inl a11)), (q13, .inl (c13, 1000, .inl a13)), (q14, .inl (c14, 1000, .inl a14)), (q15, .inl (c15, 4096, .inl a15)), (h0, .inr (8, [.int 3, .ref q1, .ref q2, .ref q3, .ref q4, .ref q5, .ref q6, .ref q7, .ref q8, .ref q9, .ref q10, .ref q11, v12, .ref q13, .ref q14, .ref q15, v16]))] H := hP
            replace hD : va_D A [(q1, .inl (c1, 16, .inl a1)), (q2, .inl (c2, 67200, .inl a2)), (q3, .inl (c3, 16, .inl a3)), (q4, .inl (c4, 16, .inl a4)), (q5, .inl (c5, 16, .inl a5)), (q6, .inl (c6, 16, .inl a6)), (q7, .inl (c7, 16, .inl a7)), (q8, .inl (c8, 16, .inl a8)), (q9, .inl (c9, 16, .inl a9)), (q10, .inl (c10, 16, .inl a10)), (q11, .inl (c11, 16, .inl a11)), (q13, .inl (c13, 1000, .inl a13)), (q14, .inl (c14, 1000, .inl a14)), (q15, .inl (c15, 4096, .inl a15)), (h0, .inr (8, [.int 3, .ref q1, .ref q2, .ref q3, .ref q4, .ref q5, .ref q6, .ref q7, .ref q8, .ref q9, .ref q10, .ref q11, v12, .ref q13, .ref q14, .ref q15, v16]))] := hD
            refine W.widen (k := 0) (n := 0) (Nat.le_of_ble_eq_true rfl) (Nat.le_of_ble_eq_true rfl) ?_
            obtain rfl : r_58 = 0 := hw
            refine W.eq (g2 := F0 m 104 ls [.int 0]) rfl ?_
            refine lv_i2l (v := (0 : Int32).toInt64) hx hb dX8_map_104 rfl ?_
            have hP9 := hP.sub (ws' := [(h0, .inr (8, [.int 3, .ref q1, .ref q2, .ref q3, .ref q4, .ref q5, .ref q6, .ref q7, .ref q8, .ref q9, .ref q10, .ref q11, v12, .ref q13, .ref q14, .ref q15, v16])), (q1, .inl (c1, 16, .inl a1)), (q2, .inl (c2, 67200, .inl a2)), (q3, .inl (c3, 16, .inl a3)), (q4, .inl (c4, 16, .inl a4)), (q5, .inl (c5, 16, .inl a5)), (q6, .inl (c6, 16, .inl a6)), (q7, .inl (c7, 16, .inl a7)), (q8, .inl (c8, 16, .inl a8)), (q9, .inl (c9, 16, .inl a9)), (q10, .inl (c10, 16, .inl a10)), (q11, .inl (c11, 16, .inl a11)), (q13, .inl (c13, 1000, .inl a13)), (q14, .inl (c14, 1000, .inl a14)), (q15, .inl (c15, 4096, .inl a15))]) [14, 0, 1, 2, 3, 4, 5, 6, 7, 8, 9, 10, 11, 12, 13] rfl
            have hD9 := hD.sub (ws' := [(h0, .inr (8, [.int 3, .ref q1, .ref q2, .ref q3, .ref q4, .ref q5, .ref q6, .ref q7, .ref q8, .ref q9, .ref q10, .ref q11, v12, .ref q13, .ref q14, .ref q15, v16])), (q1, .inl (c1, 16, .inl a1)), (q2, .inl (c2, 67200, .inl a2)), (q3, .inl (c3, 16, .inl a3)), (q4, .inl (c4, 16, .inl a4)), (q5, .inl (c5, 16, .inl a5)), (q6, .inl (c6, 16, .inl a6)), (q7, .inl (c7, 16, .inl a7)), (q8, .inl (c8, 16, .inl a8)), (q9, .inl (c9, 16, .inl a9)), (q10, .inl (c10, 16, .inl a10)), (q11, .inl (c11, 16, .inl a11)), (q13, .inl (c13, 1000, .inl a13)), (q14, .inl (c14, 1000, .inl a14)), (q15, .inl (c15, 4096, .inl a15))]) [14, 0, 1, 2, 3, 4, 5, 6, 7, 8, 9, 10, 11, 12, 13] (by decide) rfl
            have hK9 := hK.sub (tys' := [(c1, .int), (c2, .int), (c3, .int), (c4, .int), (c5, .int), (c6, .int), (c7, .int), (c8, .int), (c9, .int), (c10, .int), (c11, .int), (c13, .int), (c14, .int), (c15, .boolean)]) [0, 1, 2, 3, 4, 5, 6, 7, 8, 9, 10, 11, 12, 13] rfl
            refine W.widen (k := 0) (n := 0) (Nat.le_of_ble_eq_true rfl) (Nat.le_of_ble_eq_true rfl) ?_
            exact W.lret (v := (0 : Int32).toInt64) hx hb hr (fun t ht hW => ⟨⟨(0 : Int32).toInt64, (3, a2, a3, a6, a7, a13, a14, a15), rfl, ⟨0, 0, by omega, rs_rf, hMa 0⟩, by rw [ht]; exact hP9, va_K.moved hW.alike hK9, hD9⟩, hS.F ht⟩) hS.2.2 dX8_map_105
          ·
            have ic_57 : ¬ r_56.toInt = 0 := tx_ne rfl (by decide) c_57
            refine lv_iload_n hx hb dX8_map_87 rfl (lv_at hl 3 rfl) ?_
            refine lv_bipush (v := 20) hx hb dX8_map_88 (by decide) ?_
            refine lv_icmp_ne (tgt := 106) hx hb dX8_map_90 (by decide) (fun c_59 => ?_) (fun c_59 => ?_)
            ·
              have ic_59 : ¬ p1.toInt = 20 := tx_ne rfl (by decide) c_59
              exact jn106 (ls, H, locs) ⟨lv_sub hl [0, 1, 2, 3, 4, 5] rfl, hP.sub [0, 1, 2, 3, 4, 5, 6, 7, 8, 9, 10, 11, 12, 13, 14] rfl, hS⟩
            ·
              have ic_59 : p1.toInt = 20 := tx_eq rfl (by decide) c_59
              refine lv_iload_n hx hb dX8_map_93 rfl (lv_at hl 2 rfl) ?_
              refine lv_iload hx hb dX8_map_94 (lv_at hl 5 rfl) ?_
              refine lv_icmp_ne (tgt := 106) hx hb dX8_map_96 (by decide) (fun c_60 => ?_) (fun c_60 => ?_)
              ·
                have ic_60 : ¬ ((o : Nat) : Int) = p3.toInt := tx_ne (nI_toInt (by omega)) rfl c_60
                exact jn106 (ls, H, locs) ⟨lv_sub hl [0, 1, 2, 3, 4, 5] rfl, hP.sub [0, 1, 2, 3, 4, 5, 6, 7, 8, 9, 10, 11, 12, 13, 14] rfl, hS⟩
              ·
                have ic_60 : ((o : Nat) : Int) = p3.toInt := tx_eq (nI_toInt (by omega)) rfl c_60
                refine lv_aload_n hx hb dX8_map_99 rfl (lv_at hl 1 rfl) ?_
                refine lv_iconst (v := 3) hx hb dX8_map_100 (by decide) ?_
                have hPc := hP.sub (ws' := [(h0, .inr (8, [.int th, .ref q1, .ref q2, .ref q3, .ref q4, .ref q5, .ref q6, .ref q7, .ref q8, .ref q9, .ref q10, .ref q11, v12, .ref q13, .ref q14, .ref q15, v16]))]) [0] rfl
                have hDc := hD.sub (ws' := [(h0, .inr (8, [.int th, .ref q1, .ref q2, .ref q3, .ref q4, .ref q5, .ref q6, .ref q7, .ref q8, .ref q9, .ref q10, .ref q11, v12, .ref q13, .ref q14, .ref q15, v16]))]) [0] (by decide) rfl
                have hKc := hK.sub (tys' := []) [] rfl
                have hFc := va_free (wc := [(h0, .inr (8, [.int th, .ref q1, .ref q2, .ref q3, .ref q4, .ref q5, .ref q6, .ref q7, .ref q8, .ref q9, .ref q10, .ref q11, v12, .ref q13, .ref q14, .ref q15, v16]))]) hD hS hA [0] rfl
                refine va_calli (va_runV (As := [.int 3]) (rest := []) ⟨hx, hb, hml, hown, hts⟩ (c_X8_refuse l  dC dI H.size h0 th (.ref q1) (.ref q2) (.ref q3) (.ref q4) (.ref q5) (.ref q6) (.ref q7) (.ref q8) (.ref q9) (.ref q10) (.ref q11) v12 (.ref q13) (.ref q14) (.ref q15) v16 3) (cwV 1 hts gX8_map_X8_refuse rfl rfl rfl (by decide +kernel) ⟨(Nat.le_of_ble_eq_true rfl), (Nat.le_of_ble_eq_true rfl)⟩) ⟨pk_blind, va_recv hKc hPc (ci := 8) (q0 := 0) rfl rfl, pk_call hPc hKc hDc⟩ rfl rfl hl.1 rfl (lv_room (Nat.le_of_ble_eq_true rfl)) dX8_map_101 ⟨(Nat.le_of_ble_eq_true rfl), (Nat.le_of_ble_eq_true rfl)⟩) hS (fun q _ h => hFc q h) hFc (fun r_61 ur_61 t H1 locs ht hvm hw hB hz1 hk1 hS => ?_)
                try dsimp only at hw
                obtain ⟨hP1, hK1, hD1⟩ := hB
                rw [ht] at hP1
                have hK1 := va_K.moved hvm.symm hK1
                obtain ⟨hP, hD⟩ := va_join (wr := [(q1, .inl (c1, 16, .inl a1)), (q2, .inl (c2, 67200, .inl a2)), (q3, .inl (c3, 16, .inl a3)), (q4, .inl (c4, 16, .inl a4)), (q5, .inl (c5, 16, .inl a5)), (q6, .inl (c6, 16, .inl a6)), (q7, .inl (c7, 16, .inl a7)), (q8, .inl (c8, 16, .inl a8)), (q9, .inl (c9, 16, .inl a9)), (q10, .inl (c10, 16, .inl a10)), (q11, .inl (c11, 16, .inl a11)), (q13, .inl (c13, 1000, .inl a13)), (q14, .inl (c14, 1000, .inl a14)), (q15, .inl (c15, 4096, .inl a15))]) (w1 := [(h0, .inr (8, [.int 3, .ref q1, .ref q2, .ref q3, .ref q4, .ref q5, .ref q6, .ref q7, .ref q8, .ref q9, .ref q10, .ref q11, v12, .ref q13, .ref q14, .ref q15, v16]))]) hP hD [0] [1, 2, 3, 4, 5, 6, 7, 8, 9, 10, 11, 12, 13, 14] rfl rfl (by decide) (by decide) hk1 hFc hP1 hD1
                clear hk1 hz1 ht hPc hDc hKc hFc
                generalize H1 = H at hP hS ⊢
                replace hP : va_P (dC, dI) vwCl [(q1, .inl (c1, 16, .inl a1)), (q2, .inl (c2, 67200, .inl a2)), (q3, .inl (c3, 16, .inl a3)), (q4, .inl (c4, 16, .inl a4)), (q5, .inl (c5, 16, .inl a5)), (q6, .inl (c6, 16, .inl a6)), (q7, .inl (c7, 16, .inl a7)), (q8, .inl (c8, 16, .inl a8)), (q9, .inl (c9, 16, .inl a9)), (q10, .inl (c10, 16, .inl a10)), (q11, .inl (c11, 16, .inl a11)), (q13, .inl (c13, 1000, .inl a13)), (q14, .inl (c14, 1000, .inl a14)), (q15, .inl (c15, 4096, .inl a15)), (h0, .inr (8, [.int 3, .ref q1, .ref q2, .ref q3, .ref q4, .ref q5, .ref q6, .ref q7, .ref q8, .ref q9, .ref q10, .ref q11, v12, .ref q13, .ref q14, .ref q15, v16]))] H := hP
                replace hD : va_D A [(q1, .inl (c1, 16, .inl a1)), (q2, .inl (c2, 67200, .inl a2)), (q3, .inl (c3, 16, .inl a3)), (q4, .inl (c4, 16, .inl a4)), (q5, .inl (c5, 16, .inl a5)), (q6, .inl (c6, 16, .inl a6)), (q7, .inl (c7, 16, .inl a7)), (q8, .inl (c8, 16, .inl a8)), (q9, .inl (c9, 16, .inl a9)), (q10, .inl (c10, 16, .inl a10)), (q11, .inl (c11, 16, .inl a11)), (q13, .inl (c13, 1000, .inl a13)), (q14, .inl (c14, 1000, .inl a14)), (q15, .inl (c15, 4096, .inl a15)), (h0, .inr (8, [.int 3, .ref q1, .ref q2, .ref q3, .ref q4, .ref q5, .ref q6, .ref q7, .ref q8, .ref q9, .ref q10, .ref q11, v12, .ref q13, .ref q14, .ref q15, v16]))] := hD
                refine W.widen (k := 0) (n := 0) (Nat.le_of_ble_eq_true rfl) (Nat.le_of_ble_eq_true rfl) ?_
                obtain rfl : r_61 = 0 := hw
                refine W.eq (g2 := F0 m 104 ls [.int 0]) rfl ?_
                refine lv_i2l (v := (0 : Int32).toInt64) hx hb dX8_map_104 rfl ?_
                have hP9 := hP.sub (ws' := [(h0, .inr (8, [.int 3, .ref q1, .ref q2, .ref q3, .ref q4, .ref q5, .ref q6, .ref q7, .ref q8, .ref q9, .ref q10, .ref q11, v12, .ref q13, .ref q14, .ref q15, v16])), (q1, .inl (c1, 16, .inl a1)), (q2, .inl (c2, 67200, .inl a2)), (q3, .inl (c3, 16, .inl a3)), (q4, .inl (c4, 16, .inl a4)), (q5, .inl (c5, 16, .inl a5)), (q6, .inl (c6, 16, .inl a6)), (q7, .inl (c7, 16, .inl a7)), (q8, .inl (c8, 16, .inl a8)), (q9, .inl (c9, 16, .inl a9)), (q10, .inl (c10, 16, .inl a10)), (q11, .inl (c11, 16, .inl a11)), (q13, .inl (c13, 1000, .inl a13)), (q14, .inl (c14, 1000, .inl a14)), (q15, .inl (c15, 4096, .inl a15))]) [14, 0, 1, 2, 3, 4, 5, 6, 7, 8, 9, 10, 11, 12, 13] rfl
                have hD9 := hD.sub (ws' := [(h0, .inr (8, [.int 3, .ref q1, .ref q2, .ref q3, .ref q4, .ref q5, .ref q6, .ref q7, .ref q8, .ref q9, .ref q10, .ref q11, v12, .ref q13, .ref q14, .ref q15, v16])), (q1, .inl (c1, 16, .inl a1)), (q2, .inl (c2, 67200, .inl a2)), (q3, .inl (c3, 16, .inl a3)), (q4, .inl (c4, 16, .inl a4)), (q5, .inl (c5, 16, .inl a5)), (q6, .inl (c6, 16, .inl a6)), (q7, .inl (c7, 16, .inl a7)), (q8, .inl (c8, 16, .inl a8)), (q9, .inl (c9, 16, .inl a9)), (q10, .inl (c10, 16, .inl a10)), (q11, .inl (c11, 16, .inl a11)), (q13, .inl (c13, 1000, .inl a13)), (q14, .inl (c14, 1000, .inl a14)), (q15, .inl (c15, 4096, .inl a15))]) [14, 0, 1, 2, 3, 4, 5, 6, 7, 8, 9, 10, 11, 12, 13] (by decide) rfl
                have hK9 := hK.sub (tys' := [(c1, .int), (c2, .int), (c3, .int), (c4, .int), (c5, .int), (c6, .int), (c7, .int), (c8, .int), (c9, .int), (c10, .int), (c11, .int), (c13, .int), (c14, .int), (c15, .boolean)]) [0, 1, 2, 3, 4, 5, 6, 7, 8, 9, 10, 11, 12, 13] rfl
                refine W.widen (k := 0) (n := 0) (Nat.le_of_ble_eq_true rfl) (Nat.le_of_ble_eq_true rfl) ?_
                exact W.lret (v := (0 : Int32).toInt64) hx hb hr (fun t ht hW => ⟨⟨(0 : Int32).toInt64, (3, a2, a3, a6, a7, a13, a14, a15), rfl, ⟨0, 0, by omega, rs_rf, hMa 0⟩, by rw [ht]; exact hP9, va_K.moved hW.alike hK9, hD9⟩, hS.F ht⟩) hS.2.2 dX8_map_105
      ·
        refine lv_aload_n hx hb dX8_map_48 rfl (lv_at hl 1 rfl) ?_
        refine lv_iload_n hx hb dX8_map_49 rfl (lv_at hl 2 rfl) ?_
        have hPc := hP.sub (ws' := [(h0, .inr (8, [.int th, .ref q1, .ref q2, .ref q3, .ref q4, .ref q5, .ref q6, .ref q7, .ref q8, .ref q9, .ref q10, .ref q11, v12, .ref q13, .ref q14, .ref q15, v16])), (q1, .inl (c1, 16, .inl a1))]) [0, 1] rfl
        have hDc := hD.sub (ws' := [(h0, .inr (8, [.int th, .ref q1, .ref q2, .ref q3, .ref q4, .ref q5, .ref q6, .ref q7, .ref q8, .ref q9, .ref q10, .ref q11, v12, .ref q13, .ref q14, .ref q15, v16])), (q1, .inl (c1, 16, .inl a1))]) [0, 1] (by decide) rfl
        have hKc := hK.sub (tys' := [(c1, .int)]) [0] rfl
        have hFc := va_free (wc := [(h0, .inr (8, [.int th, .ref q1, .ref q2, .ref q3, .ref q4, .ref q5, .ref q6, .ref q7, .ref q8, .ref q9, .ref q10, .ref q11, v12, .ref q13, .ref q14, .ref q15, v16])), (q1, .inl (c1, 16, .inl a1))]) hD hS hA [0, 1] rfl
        refine va_calli (va_runV (As := [.int (nI o)]) (rest := []) ⟨hx, hb, hml, hown, hts⟩ (c_X8_isMap l  dC dI H.size h0 th q1 c1 a1 (.ref q2) (.ref q3) (.ref q4) (.ref q5) (.ref q6) (.ref q7) (.ref q8) (.ref q9) (.ref q10) (.ref q11) v12 (.ref q13) (.ref q14) (.ref q15) v16 o ho9) (cwV 1 hts gX8_map_X8_isMap rfl rfl rfl (by decide +kernel) ⟨(Nat.le_of_ble_eq_true rfl), (Nat.le_of_ble_eq_true rfl)⟩) ⟨pk_blind, va_recv hKc hPc (ci := 8) (q0 := 0) rfl rfl, pk_call hPc hKc hDc⟩ rfl rfl hl.1 rfl (lv_room (Nat.le_of_ble_eq_true rfl)) dX8_map_50 ⟨(Nat.le_of_ble_eq_true rfl), (Nat.le_of_ble_eq_true rfl)⟩) hS (fun q _ h => hFc q h) hFc (fun r_62 ur_62 t H1 locs ht hvm hw hB hz1 hk1 hS => ?_)
        try dsimp only at hw
        have jr_62 := hw
        obtain ⟨hP1, hK1, hD1⟩ := hB
        rw [ht] at hP1
        have hK1 := va_K.moved hvm.symm hK1
        obtain ⟨hP, hD⟩ := va_join (wr := [(q2, .inl (c2, 67200, .inl a2)), (q3, .inl (c3, 16, .inl a3)), (q4, .inl (c4, 16, .inl a4)), (q5, .inl (c5, 16, .inl a5)), (q6, .inl (c6, 16, .inl a6)), (q7, .inl (c7, 16, .inl a7)), (q8, .inl (c8, 16, .inl a8)), (q9, .inl (c9, 16, .inl a9)), (q10, .inl (c10, 16, .inl a10)), (q11, .inl (c11, 16, .inl a11)), (q13, .inl (c13, 1000, .inl a13)), (q14, .inl (c14, 1000, .inl a14)), (q15, .inl (c15, 4096, .inl a15))]) (w1 := [(h0, .inr (8, [.int th, .ref q1, .ref q2, .ref q3, .ref q4, .ref q5, .ref q6, .ref q7, .ref q8, .ref q9, .ref q10, .ref q11, v12, .ref q13, .ref q14, .ref q15, v16])), (q1, .inl (c1, 16, .inl a1))]) hP hD [0, 1] [2, 3, 4, 5, 6, 7, 8, 9, 10, 11, 12, 13, 14] rfl rfl (by decide) (by decide) hk1 hFc hP1 hD1
        clear hk1 hz1 ht hPc hDc hKc hFc
        generalize H1 = H at hP hS ⊢
        replace hP : va_P (dC, dI) vwCl [(q2, .inl (c2, 67200, .inl a2)), (q3, .inl (c3, 16, .inl a3)), (q4, .inl (c4, 16, .inl a4)), (q5, .inl (c5, 16, .inl a5)), (q6, .inl (c6, 16, .inl a6)), (q7, .inl (c7, 16, .inl a7)), (q8, .inl (c8, 16, .inl a8)), (q9, .inl (c9, 16, .inl a9)), (q10, .inl (c10, 16, .inl a10)), (q11, .inl (c11, 16, .inl a11)), (q13, .inl (c13, 1000, .inl a13)), (q14, .inl (c14, 1000, .inl a14)), (q15, .inl (c15, 4096, .inl a15)), (h0, .inr (8, [.int th, .ref q1, .ref q2, .ref q3, .ref q4, .ref q5, .ref q6, .ref q7, .ref q8, .ref q9, .ref q10, .ref q11, v12, .ref q13, .ref q14, .ref q15, v16])), (q1, .inl (c1, 16, .inl a1))] H := hP
        replace hD : va_D A [(q2, .inl (c2, 67200, .inl a2)), (q3, .inl (c3, 16, .inl a3)), (q4, .inl (c4, 16, .inl a4)), (q5, .inl (c5, 16, .inl a5)), (q6, .inl (c6, 16, .inl a6)), (q7, .inl (c7, 16, .inl a7)), (q8, .inl (c8, 16, .inl a8)), (q9, .inl (c9, 16, .inl a9)), (q10, .inl (c10, 16, .inl a10)), (q11, .inl (c11, 16, .inl a11)), (q13, .inl (c13, 1000, .inl a13)), (q14, .inl (c14, 1000, .inl a14)), (q15, .inl (c15, 4096, .inl a15)), (h0, .inr (8, [.int th, .ref q1, .ref q2, .ref q3, .ref q4, .ref q5, .ref q6, .ref q7, .ref q8, .ref q9, .ref q10, .ref q11, v12, .ref q13, .ref q14, .ref q15, v16])), (q1, .inl (c1, 16, .inl a1))] := hD
        refine W.widen (k := 0) (n := 0) (Nat.le_of_ble_eq_true rfl) (Nat.le_of_ble_eq_true rfl) ?_
        refine W.eq (g2 := F0 m 53 ls [.int r_62]) rfl ?_
        refine lv_if_eq (tgt := 70) hx hb dX8_map_53 (by decide) (fun c_63 => ?_) (fun c_63 => ?_)
        ·
          have ic_63 : r_62.toInt = 0 := tx_eq rfl (by decide) c_63
          refine lv_aload_n hx hb dX8_map_70 rfl (lv_at hl 1 rfl) ?_
          refine lv_iconst (v := 2) hx hb dX8_map_71 (by decide) ?_
          have hPc := hP.sub (ws' := [(h0, .inr (8, [.int th, .ref q1, .ref q2, .ref q3, .ref q4, .ref q5, .ref q6, .ref q7, .ref q8, .ref q9, .ref q10, .ref q11, v12, .ref q13, .ref q14, .ref q15, v16]))]) [13] rfl
          have hDc := hD.sub (ws' := [(h0, .inr (8, [.int th, .ref q1, .ref q2, .ref q3, .ref q4, .ref q5, .ref q6, .ref q7, .ref q8, .ref q9, .ref q10, .ref q11, v12, .ref q13, .ref q14, .ref q15, v16]))]) [13] (by decide) rfl
          have hKc := hK.sub (tys' := []) [] rfl
          have hFc := va_free (wc := [(h0, .inr (8, [.int th, .ref q1, .ref q2, .ref q3, .ref q4, .ref q5, .ref q6, .ref q7, .ref q8, .ref q9, .ref q10, .ref q11, v12, .ref q13, .ref q14, .ref q15, v16]))]) hD hS hA [13] rfl
          refine va_calli (va_runV (As := [.int 2]) (rest := []) ⟨hx, hb, hml, hown, hts⟩ (c_X8_refuse l  dC dI H.size h0 th (.ref q1) (.ref q2) (.ref q3) (.ref q4) (.ref q5) (.ref q6) (.ref q7) (.ref q8) (.ref q9) (.ref q10) (.ref q11) v12 (.ref q13) (.ref q14) (.ref q15) v16 2) (cwV 1 hts gX8_map_X8_refuse rfl rfl rfl (by decide +kernel) ⟨(Nat.le_of_ble_eq_true rfl), (Nat.le_of_ble_eq_true rfl)⟩) ⟨pk_blind, va_recv hKc hPc (ci := 8) (q0 := 0) rfl rfl, pk_call hPc hKc hDc⟩ rfl rfl hl.1 rfl (lv_room (Nat.le_of_ble_eq_true rfl)) dX8_map_72 ⟨(Nat.le_of_ble_eq_true rfl), (Nat.le_of_ble_eq_true rfl)⟩) hS (fun q _ h => hFc q h) hFc (fun r_64 ur_64 t H1 locs ht hvm hw hB hz1 hk1 hS => ?_)
          try dsimp only at hw
          obtain ⟨hP1, hK1, hD1⟩ := hB
          rw [ht] at hP1
          have hK1 := va_K.moved hvm.symm hK1
          obtain ⟨hP, hD⟩ := va_join (wr := [(q2, .inl (c2, 67200, .inl a2)), (q3, .inl (c3, 16, .inl a3)), (q4, .inl (c4, 16, .inl a4)), (q5, .inl (c5, 16, .inl a5)), (q6, .inl (c6, 16, .inl a6)), (q7, .inl (c7, 16, .inl a7)), (q8, .inl (c8, 16, .inl a8)), (q9, .inl (c9, 16, .inl a9)), (q10, .inl (c10, 16, .inl a10)), (q11, .inl (c11, 16, .inl a11)), (q13, .inl (c13, 1000, .inl a13)), (q14, .inl (c14, 1000, .inl a14)), (q15, .inl (c15, 4096, .inl a15)), (q1, .inl (c1, 16, .inl a1))]) (w1 := [(h0, .inr (8, [.int 2, .ref q1, .ref q2, .ref q3, .ref q4, .ref q5, .ref q6, .ref q7, .ref q8, .ref q9, .ref q10, .ref q11, v12, .ref q13, .ref q14, .ref q15, v16]))]) hP hD [13] [0, 1, 2, 3, 4, 5, 6, 7, 8, 9, 10, 11, 12, 14] rfl rfl (by decide) (by decide) hk1 hFc hP1 hD1
          clear hk1 hz1 ht hPc hDc hKc hFc
          generalize H1 = H at hP hS ⊢
          replace hP : va_P (dC, dI) vwCl [(q2, .inl (c2, 67200, .inl a2)), (q3, .inl (c3, 16, .inl a3)), (q4, .inl (c4, 16, .inl a4)), (q5, .inl (c5, 16, .inl a5)), (q6, .inl (c6, 16, .inl a6)), (q7, .inl (c7, 16, .inl a7)), (q8, .inl (c8, 16, .inl a8)), (q9, .inl (c9, 16, .inl a9)), (q10, .inl (c10, 16, .inl a10)), (q11, .inl (c11, 16, .inl a11)), (q13, .inl (c13, 1000, .inl a13)), (q14, .inl (c14, 1000, .inl a14)), (q15, .inl (c15, 4096, .inl a15)), (q1, .inl (c1, 16, .inl a1)), (h0, .inr (8, [.int 2, .ref q1, .ref q2, .ref q3, .ref q4, .ref q5, .ref q6, .ref q7, .ref q8, .ref q9, .ref q10, .ref q11, v12, .ref q13, .ref q14, .ref q15, v16]))] H := hP
          replace hD : va_D A [(q2, .inl (c2, 67200, .inl a2)), (q3, .inl (c3, 16, .inl a3)), (q4, .inl (c4, 16, .inl a4)), (q5, .inl (c5, 16, .inl a5)), (q6, .inl (c6, 16, .inl a6)), (q7, .inl (c7, 16, .inl a7)), (q8, .inl (c8, 16, .inl a8)), (q9, .inl (c9, 16, .inl a9)), (q10, .inl (c10, 16, .inl a10)), (q11, .inl (c11, 16, .inl a11)), (q13, .inl (c13, 1000, .inl a13)), (q14, .inl (c14, 1000, .inl a14)), (q15, .inl (c15, 4096, .inl a15)), (q1, .inl (c1, 16, .inl a1)), (h0, .inr (8, [.int 2, .ref q1, .ref q2, .ref q3, .ref q4, .ref q5, .ref q6, .ref q7, .ref q8, .ref q9, .ref q10, .ref q11, v12, .ref q13, .ref q14, .ref q15, v16]))] := hD
          refine W.widen (k := 0) (n := 0) (Nat.le_of_ble_eq_true rfl) (Nat.le_of_ble_eq_true rfl) ?_
          obtain rfl : r_64 = 0 := hw
          refine W.eq (g2 := F0 m 75 ls [.int 0]) rfl ?_
          refine lv_i2l (v := (0 : Int32).toInt64) hx hb dX8_map_75 rfl ?_
          have hP9 := hP.sub (ws' := [(h0, .inr (8, [.int 2, .ref q1, .ref q2, .ref q3, .ref q4, .ref q5, .ref q6, .ref q7, .ref q8, .ref q9, .ref q10, .ref q11, v12, .ref q13, .ref q14, .ref q15, v16])), (q1, .inl (c1, 16, .inl a1)), (q2, .inl (c2, 67200, .inl a2)), (q3, .inl (c3, 16, .inl a3)), (q4, .inl (c4, 16, .inl a4)), (q5, .inl (c5, 16, .inl a5)), (q6, .inl (c6, 16, .inl a6)), (q7, .inl (c7, 16, .inl a7)), (q8, .inl (c8, 16, .inl a8)), (q9, .inl (c9, 16, .inl a9)), (q10, .inl (c10, 16, .inl a10)), (q11, .inl (c11, 16, .inl a11)), (q13, .inl (c13, 1000, .inl a13)), (q14, .inl (c14, 1000, .inl a14)), (q15, .inl (c15, 4096, .inl a15))]) [14, 13, 0, 1, 2, 3, 4, 5, 6, 7, 8, 9, 10, 11, 12] rfl
          have hD9 := hD.sub (ws' := [(h0, .inr (8, [.int 2, .ref q1, .ref q2, .ref q3, .ref q4, .ref q5, .ref q6, .ref q7, .ref q8, .ref q9, .ref q10, .ref q11, v12, .ref q13, .ref q14, .ref q15, v16])), (q1, .inl (c1, 16, .inl a1)), (q2, .inl (c2, 67200, .inl a2)), (q3, .inl (c3, 16, .inl a3)), (q4, .inl (c4, 16, .inl a4)), (q5, .inl (c5, 16, .inl a5)), (q6, .inl (c6, 16, .inl a6)), (q7, .inl (c7, 16, .inl a7)), (q8, .inl (c8, 16, .inl a8)), (q9, .inl (c9, 16, .inl a9)), (q10, .inl (c10, 16, .inl a10)), (q11, .inl (c11, 16, .inl a11)), (q13, .inl (c13, 1000, .inl a13)), (q14, .inl (c14, 1000, .inl a14)), (q15, .inl (c15, 4096, .inl a15))]) [14, 13, 0, 1, 2, 3, 4, 5, 6, 7, 8, 9, 10, 11, 12] (by decide) rfl
          have hK9 := hK.sub (tys' := [(c1, .int), (c2, .int), (c3, .int), (c4, .int), (c5, .int), (c6, .int), (c7, .int), (c8, .int), (c9, .int), (c10, .int), (c11, .int), (c13, .int), (c14, .int), (c15, .boolean)]) [0, 1, 2, 3, 4, 5, 6, 7, 8, 9, 10, 11, 12, 13] rfl
          refine W.widen (k := 0) (n := 0) (Nat.le_of_ble_eq_true rfl) (Nat.le_of_ble_eq_true rfl) ?_
          exact W.lret (v := (0 : Int32).toInt64) hx hb hr (fun t ht hW => ⟨⟨(0 : Int32).toInt64, (2, a2, a3, a6, a7, a13, a14, a15), rfl, ⟨0, 0, by omega, rs_rf, hMa 0⟩, by rw [ht]; exact hP9, va_K.moved hW.alike hK9, hD9⟩, hS.F ht⟩) hS.2.2 dX8_map_76
        ·
          have ic_63 : ¬ r_62.toInt = 0 := tx_ne rfl (by decide) c_63
          refine lv_iload hx hb dX8_map_56 (lv_at hl 0 rfl) ?_
          refine lv_if_eq (tgt := 77) hx hb dX8_map_58 (by decide) (fun c_65 => ?_) (fun c_65 => ?_)
          ·
            have ic_65 : x5.toInt = 0 := tx_eq rfl (by decide) c_65
            have fj0_ : 1 ≤ (a1 o).toInt ∧ (a1 o).toInt ≤ 4 := by omega
            have fj1_ : ¬ x5.toInt = 0 → mpP a1 p3 := fun h => absurd ic_65 h
            exact jn77 (ls, H, locs) ⟨lv_sub hl [0, 1, 2, 3, 4, 5] rfl, hP.sub [13, 14, 0, 1, 2, 3, 4, 5, 6, 7, 8, 9, 10, 11, 12] rfl, hS, fj0_, fj1_⟩
          ·
            have ic_65 : ¬ x5.toInt = 0 := tx_ne rfl (by decide) c_65
            refine lv_aload_n hx hb dX8_map_61 rfl (lv_at hl 1 rfl) ?_
            refine lv_iload hx hb dX8_map_62 (lv_at hl 5 rfl) ?_
            obtain ⟨o8, ho8, rfl, hko8⟩ := htw ic_65
            have hPc := hP.sub (ws' := [(h0, .inr (8, [.int th, .ref q1, .ref q2, .ref q3, .ref q4, .ref q5, .ref q6, .ref q7, .ref q8, .ref q9, .ref q10, .ref q11, v12, .ref q13, .ref q14, .ref q15, v16])), (q1, .inl (c1, 16, .inl a1))]) [13, 14] rfl
            have hDc := hD.sub (ws' := [(h0, .inr (8, [.int th, .ref q1, .ref q2, .ref q3, .ref q4, .ref q5, .ref q6, .ref q7, .ref q8, .ref q9, .ref q10, .ref q11, v12, .ref q13, .ref q14, .ref q15, v16])), (q1, .inl (c1, 16, .inl a1))]) [13, 14] (by decide) rfl
            have hKc := hK.sub (tys' := [(c1, .int)]) [0] rfl
            have hFc := va_free (wc := [(h0, .inr (8, [.int th, .ref q1, .ref q2, .ref q3, .ref q4, .ref q5, .ref q6, .ref q7, .ref q8, .ref q9, .ref q10, .ref q11, v12, .ref q13, .ref q14, .ref q15, v16])), (q1, .inl (c1, 16, .inl a1))]) hD hS hA [13, 14] rfl
            refine va_calli (va_runV (As := [.int (nI o8)]) (rest := []) ⟨hx, hb, hml, hown, hts⟩ (c_X8_isMap l  dC dI H.size h0 th q1 c1 a1 (.ref q2) (.ref q3) (.ref q4) (.ref q5) (.ref q6) (.ref q7) (.ref q8) (.ref q9) (.ref q10) (.ref q11) v12 (.ref q13) (.ref q14) (.ref q15) v16 o8 ho8) (cwV 1 hts gX8_map_X8_isMap rfl rfl rfl (by decide +kernel) ⟨(Nat.le_of_ble_eq_true rfl), (Nat.le_of_ble_eq_true rfl)⟩) ⟨pk_blind, va_recv hKc hPc (ci := 8) (q0 := 0) rfl rfl, pk_call hPc hKc hDc⟩ rfl rfl hl.1 rfl (lv_room (Nat.le_of_ble_eq_true rfl)) dX8_map_64 ⟨(Nat.le_of_ble_eq_true rfl), (Nat.le_of_ble_eq_true rfl)⟩) hS (fun q _ h => hFc q h) hFc (fun r_66 ur_66 t H1 locs ht hvm hw hB hz1 hk1 hS => ?_)
            try dsimp only at hw
            have jr_66 := hw
            obtain ⟨hP1, hK1, hD1⟩ := hB
            rw [ht] at hP1
            have hK1 := va_K.moved hvm.symm hK1
            obtain ⟨hP, hD⟩ := va_join (wr := [(q2, .inl (c2, 67200, .inl a2)), (q3, .inl (c3, 16, .inl a3)), (q4, .inl (c4, 16, .inl a4)), (q5, .inl (c5, 16, .inl a5)), (q6, .inl (c6, 16, .inl a6)), (q7, .inl (c7, 16, .inl a7)), (q8, .inl (c8, 16, .inl a8)), (q9, .inl (c9, 16, .inl a9)), (q10, .inl (c10, 16, .inl a10)), (q11, .inl (c11, 16, .inl a11)), (q13, .inl (c13, 1000, .inl a13)), (q14, .inl (c14, 1000, .inl a14)), (q15, .inl (c15, 4096, .inl a15))]) (w1 := [(h0, .inr (8, [.int th, .ref q1, .ref q2, .ref q3, .ref q4, .ref q5, .ref q6, .ref q7, .ref q8, .ref q9, .ref q10, .ref q11, v12, .ref q13, .ref q14, .ref q15, v16])), (q1, .inl (c1, 16, .inl a1))]) hP hD [13, 14] [0, 1, 2, 3, 4, 5, 6, 7, 8, 9, 10, 11, 12] rfl rfl (by decide) (by decide) hk1 hFc hP1 hD1
            clear hk1 hz1 ht hPc hDc hKc hFc
            generalize H1 = H at hP hS ⊢
            replace hP : va_P (dC, dI) vwCl [(q2, .inl (c2, 67200, .inl a2)), (q3, .inl (c3, 16, .inl a3)), (q4, .inl (c4, 16, .inl a4)), (q5, .inl (c5, 16, .inl a5)), (q6, .inl (c6, 16, .inl a6)), (q7, .inl (c7, 16, .inl a7)), (q8, .inl (c8, 16, .inl a8)), (q9, .inl (c9, 16, .inl a9)), (q10, .inl (c10, 16, .inl a10)), (q11, .inl (c11, 16, .inl a11)), (q13, .inl (c13, 1000, .inl a13)), (q14, .inl (c14, 1000, .inl a14)), (q15, .inl (c15, 4096, .inl a15)), (h0, .inr (8, [.int th, .ref q1, .ref q2, .ref q3, .ref q4, .ref q5, .ref q6, .ref q7, .ref q8, .ref q9, .ref q10, .ref q11, v12, .ref q13, .ref q14, .ref q15, v16])), (q1, .inl (c1, 16, .inl a1))] H := hP
            replace hD : va_D A [(q2, .inl (c2, 67200, .inl a2)), (q3, .inl (c3, 16, .inl a3)), (q4, .inl (c4, 16, .inl a4)), (q5, .inl (c5, 16, .inl a5)), (q6, .inl (c6, 16, .inl a6)), (q7, .inl (c7, 16, .inl a7)), (q8, .inl (c8, 16, .inl a8)), (q9, .inl (c9, 16, .inl a9)), (q10, .inl (c10, 16, .inl a10)), (q11, .inl (c11, 16, .inl a11)), (q13, .inl (c13, 1000, .inl a13)), (q14, .inl (c14, 1000, .inl a14)), (q15, .inl (c15, 4096, .inl a15)), (h0, .inr (8, [.int th, .ref q1, .ref q2, .ref q3, .ref q4, .ref q5, .ref q6, .ref q7, .ref q8, .ref q9, .ref q10, .ref q11, v12, .ref q13, .ref q14, .ref q15, v16])), (q1, .inl (c1, 16, .inl a1))] := hD
            refine W.widen (k := 0) (n := 0) (Nat.le_of_ble_eq_true rfl) (Nat.le_of_ble_eq_true rfl) ?_
            refine W.eq (g2 := F0 m 67 ls [.int r_66]) rfl ?_
            refine lv_if_ne (tgt := 77) hx hb dX8_map_67 (by decide) (fun c_67 => ?_) (fun c_67 => ?_)
            ·
              have ic_67 : ¬ r_66.toInt = 0 := tx_ne rfl (by decide) c_67
              have fj0_ : 1 ≤ (a1 o).toInt ∧ (a1 o).toInt ≤ 4 := by omega
              have fj1_ : ¬ x5.toInt = 0 → mpP a1 (nI o8) := fun _ => mp_i ho8 (by omega) (by omega)
              exact jn77 (ls, H, locs) ⟨lv_sub hl [0, 1, 2, 3, 4, 5] rfl, hP.sub [13, 14, 0, 1, 2, 3, 4, 5, 6, 7, 8, 9, 10, 11, 12] rfl, hS, fj0_, fj1_⟩
            ·
              have ic_67 : r_66.toInt = 0 := tx_eq rfl (by decide) c_67
              refine lv_aload_n hx hb dX8_map_70 rfl (lv_at hl 1 rfl) ?_
              refine lv_iconst (v := 2) hx hb dX8_map_71 (by decide) ?_
              have hPc := hP.sub (ws' := [(h0, .inr (8, [.int th, .ref q1, .ref q2, .ref q3, .ref q4, .ref q5, .ref q6, .ref q7, .ref q8, .ref q9, .ref q10, .ref q11, v12, .ref q13, .ref q14, .ref q15, v16]))]) [13] rfl
              have hDc := hD.sub (ws' := [(h0, .inr (8, [.int th, .ref q1, .ref q2, .ref q3, .ref q4, .ref q5, .ref q6, .ref q7, .ref q8, .ref q9, .ref q10, .ref q11, v12, .ref q13, .ref q14, .ref q15, v16]))]) [13] (by decide) rfl
              have hKc := hK.sub (tys' := []) [] rfl
              have hFc := va_free (wc := [(h0, .inr (8, [.int th, .ref q1, .ref q2, .ref q3, .ref q4, .ref q5, .ref q6, .ref q7, .ref q8, .ref q9, .ref q10, .ref q11, v12, .ref q13, .ref q14, .ref q15, v16]))]) hD hS hA [13] rfl
              refine va_calli (va_runV (As := [.int 2]) (rest := []) ⟨hx, hb, hml, hown, hts⟩ (c_X8_refuse l  dC dI H.size h0 th (.ref q1) (.ref q2) (.ref q3) (.ref q4) (.ref q5) (.ref q6) (.ref q7) (.ref q8) (.ref q9) (.ref q10) (.ref q11) v12 (.ref q13) (.ref q14) (.ref q15) v16 2) (cwV 1 hts gX8_map_X8_refuse rfl rfl rfl (by decide +kernel) ⟨(Nat.le_of_ble_eq_true rfl), (Nat.le_of_ble_eq_true rfl)⟩) ⟨pk_blind, va_recv hKc hPc (ci := 8) (q0 := 0) rfl rfl, pk_call hPc hKc hDc⟩ rfl rfl hl.1 rfl (lv_room (Nat.le_of_ble_eq_true rfl)) dX8_map_72 ⟨(Nat.le_of_ble_eq_true rfl), (Nat.le_of_ble_eq_true rfl)⟩) hS (fun q _ h => hFc q h) hFc (fun r_68 ur_68 t H1 locs ht hvm hw hB hz1 hk1 hS => ?_)
              try dsimp only at hw
              obtain ⟨hP1, hK1, hD1⟩ := hB
              rw [ht] at hP1
              have hK1 := va_K.moved hvm.symm hK1
              obtain ⟨hP, hD⟩ := va_join (wr := [(q2, .inl (c2, 67200, .inl a2)), (q3, .inl (c3, 16, .inl a3)), (q4, .inl (c4, 16, .inl a4)), (q5, .inl (c5, 16, .inl a5)), (q6, .inl (c6, 16, .inl a6)), (q7, .inl (c7, 16, .inl a7)), (q8, .inl (c8, 16, .inl a8)), (q9, .inl (c9, 16, .inl a9)), (q10, .inl (c10, 16, .inl a10)), (q11, .inl (c11, 16, .inl a11)), (q13, .inl (c13, 1000, .inl a13)), (q14, .inl (c14, 1000, .inl a14)), (q15, .inl (c15, 4096, .inl a15)), (q1, .inl (c1, 16, .inl a1))]) (w1 := [(h0, .inr (8, [.int 2, .ref q1, .ref q2, .ref q3, .ref q4, .ref q5, .ref q6, .ref q7, .ref q8, .ref q9, .ref q10, .ref q11, v12, .ref q13, .ref q14, .ref q15, v16]))]) hP hD [13] [0, 1, 2, 3, 4, 5, 6, 7, 8, 9, 10, 11, 12, 14] rfl rfl (by decide) (by decide) hk1 hFc hP1 hD1
              clear hk1 hz1 ht hPc hDc hKc hFc
              generalize H1 = H at hP hS ⊢
              replace hP : va_P (dC, dI) vwCl [(q2, .inl (c2, 67200, .inl a2)), (q3, .inl (c3, 16, .inl a3)), (q4, .inl (c4, 16, .inl a4)), (q5, .inl (c5, 16, .inl a5)), (q6, .inl (c6, 16, .inl a6)), (q7, .inl (c7, 16, .inl a7)), (q8, .inl (c8, 16, .inl a8)), (q9, .inl (c9, 16, .inl a9)), (q10, .inl (c10, 16, .inl a10)), (q11, .inl (c11, 16, .inl a11)), (q13, .inl (c13, 1000, .inl a13)), (q14, .inl (c14, 1000, .inl a14)), (q15, .inl (c15, 4096, .inl a15)), (q1, .inl (c1, 16, .inl a1)), (h0, .inr (8, [.int 2, .ref q1, .ref q2, .ref q3, .ref q4, .ref q5, .ref q6, .ref q7, .ref q8, .ref q9, .ref q10, .ref q11, v12, .ref q13, .ref q14, .ref q15, v16]))] H := hP
              replace hD : va_D A [(q2, .inl (c2, 67200, .inl a2)), (q3, .inl (c3, 16, .inl a3)), (q4, .inl (c4, 16, .inl a4)), (q5, .inl (c5, 16, .inl a5)), (q6, .inl (c6, 16, .inl a6)), (q7, .inl (c7, 16, .inl a7)), (q8, .inl (c8, 16, .inl a8)), (q9, .inl (c9, 16, .inl a9)), (q10, .inl (c10, 16, .inl a10)), (q11, .inl (c11, 16, .inl a11)), (q13, .inl (c13, 1000, .inl a13)), (q14, .inl (c14, 1000, .inl a14)), (q15, .inl (c15, 4096, .inl a15)), (q1, .inl (c1, 16, .inl a1)), (h0, .inr (8, [.int 2, .ref q1, .ref q2, .ref q3, .ref q4, .ref q5, .ref q6, .ref q7, .ref q8, .ref q9, .ref q10, .ref q11, v12, .ref q13, .ref q14, .ref q15, v16]))] := hD
              refine W.widen (k := 0) (n := 0) (Nat.le_of_ble_eq_true rfl) (Nat.le_of_ble_eq_true rfl) ?_
              obtain rfl : r_68 = 0 := hw
              refine W.eq (g2 := F0 m 75 ls [.int 0]) rfl ?_
              refine lv_i2l (v := (0 : Int32).toInt64) hx hb dX8_map_75 rfl ?_
              have hP9 := hP.sub (ws' := [(h0, .inr (8, [.int 2, .ref q1, .ref q2, .ref q3, .ref q4, .ref q5, .ref q6, .ref q7, .ref q8, .ref q9, .ref q10, .ref q11, v12, .ref q13, .ref q14, .ref q15, v16])), (q1, .inl (c1, 16, .inl a1)), (q2, .inl (c2, 67200, .inl a2)), (q3, .inl (c3, 16, .inl a3)), (q4, .inl (c4, 16, .inl a4)), (q5, .inl (c5, 16, .inl a5)), (q6, .inl (c6, 16, .inl a6)), (q7, .inl (c7, 16, .inl a7)), (q8, .inl (c8, 16, .inl a8)), (q9, .inl (c9, 16, .inl a9)), (q10, .inl (c10, 16, .inl a10)), (q11, .inl (c11, 16, .inl a11)), (q13, .inl (c13, 1000, .inl a13)), (q14, .inl (c14, 1000, .inl a14)), (q15, .inl (c15, 4096, .inl a15))]) [14, 13, 0, 1, 2, 3, 4, 5, 6, 7, 8, 9, 10, 11, 12] rfl
              have hD9 := hD.sub (ws' := [(h0, .inr (8, [.int 2, .ref q1, .ref q2, .ref q3, .ref q4, .ref q5, .ref q6, .ref q7, .ref q8, .ref q9, .ref q10, .ref q11, v12, .ref q13, .ref q14, .ref q15, v16])), (q1, .inl (c1, 16, .inl a1)), (q2, .inl (c2, 67200, .inl a2)), (q3, .inl (c3, 16, .inl a3)), (q4, .inl (c4, 16, .inl a4)), (q5, .inl (c5, 16, .inl a5)), (q6, .inl (c6, 16, .inl a6)), (q7, .inl (c7, 16, .inl a7)), (q8, .inl (c8, 16, .inl a8)), (q9, .inl (c9, 16, .inl a9)), (q10, .inl (c10, 16, .inl a10)), (q11, .inl (c11, 16, .inl a11)), (q13, .inl (c13, 1000, .inl a13)), (q14, .inl (c14, 1000, .inl a14)), (q15, .inl (c15, 4096, .inl a15))]) [14, 13, 0, 1, 2, 3, 4, 5, 6, 7, 8, 9, 10, 11, 12] (by decide) rfl
              have hK9 := hK.sub (tys' := [(c1, .int), (c2, .int), (c3, .int), (c4, .int), (c5, .int), (c6, .int), (c7, .int), (c8, .int), (c9, .int), (c10, .int), (c11, .int), (c13, .int), (c14, .int), (c15, .boolean)]) [0, 1, 2, 3, 4, 5, 6, 7, 8, 9, 10, 11, 12, 13] rfl
              refine W.widen (k := 0) (n := 0) (Nat.le_of_ble_eq_true rfl) (Nat.le_of_ble_eq_true rfl) ?_
              exact W.lret (v := (0 : Int32).toInt64) hx hb hr (fun t ht hW => ⟨⟨(0 : Int32).toInt64, (2, a2, a3, a6, a7, a13, a14, a15), rfl, ⟨0, 0, by omega, rs_rf, hMa 0⟩, by rw [ht]; exact hP9, va_K.moved hW.alike hK9, hD9⟩, hS.F ht⟩) hS.2.2 dX8_map_76
    ·
      refine lv_aload_n hx hb dX8_map_19 rfl (lv_at hl 1 rfl) ?_
      refine lv_iload_n hx hb dX8_map_20 rfl (lv_at hl 2 rfl) ?_
      have hPc := hP.sub (ws' := [(h0, .inr (8, [.int th, .ref q1, .ref q2, .ref q3, .ref q4, .ref q5, .ref q6, .ref q7, .ref q8, .ref q9, .ref q10, .ref q11, v12, .ref q13, .ref q14, .ref q15, v16])), (q1, .inl (c1, 16, .inl a1))]) [0, 1] rfl
      have hDc := hD.sub (ws' := [(h0, .inr (8, [.int th, .ref q1, .ref q2, .ref q3, .ref q4, .ref q5, .ref q6, .ref q7, .ref q8, .ref q9, .ref q10, .ref q11, v12, .ref q13, .ref q14, .ref q15, v16])), (q1, .inl (c1, 16, .inl a1))]) [0, 1] (by decide) rfl
      have hKc := hK.sub (tys' := [(c1, .int)]) [0] rfl
      have hFc := va_free (wc := [(h0, .inr (8, [.int th, .ref q1, .ref q2, .ref q3, .ref q4, .ref q5, .ref q6, .ref q7, .ref q8, .ref q9, .ref q10, .ref q11, v12, .ref q13, .ref q14, .ref q15, v16])), (q1, .inl (c1, 16, .inl a1))]) hD hS hA [0, 1] rfl
      refine va_calli (va_runV (As := [.int p0]) (rest := []) ⟨hx, hb, hml, hown, hts⟩ (c_X8_isThere l  dC dI H.size h0 th q1 c1 a1 (.ref q2) (.ref q3) (.ref q4) (.ref q5) (.ref q6) (.ref q7) (.ref q8) (.ref q9) (.ref q10) (.ref q11) v12 (.ref q13) (.ref q14) (.ref q15) v16 p0) (cwV 1 hts gX8_map_X8_isThere rfl rfl rfl (by decide +kernel) ⟨(Nat.le_of_ble_eq_true rfl), (Nat.le_of_ble_eq_true rfl)⟩) ⟨pk_blind, va_recv hKc hPc (ci := 8) (q0 := 0) rfl rfl, pk_call hPc hKc hDc⟩ rfl rfl hl.1 rfl (lv_room (Nat.le_of_ble_eq_true rfl)) dX8_map_21 ⟨(Nat.le_of_ble_eq_true rfl), (Nat.le_of_ble_eq_true rfl)⟩) hS (fun q _ h => hFc q h) hFc (fun r_69 ur_69 t H1 locs ht hvm hw hB hz1 hk1 hS => ?_)
      try dsimp only at hw
      have jr_69 := hw
      obtain ⟨hP1, hK1, hD1⟩ := hB
      rw [ht] at hP1
      have hK1 := va_K.moved hvm.symm hK1
      obtain ⟨hP, hD⟩ := va_join (wr := [(q2, .inl (c2, 67200, .inl a2)), (q3, .inl (c3, 16, .inl a3)), (q4, .inl (c4, 16, .inl a4)), (q5, .inl (c5, 16, .inl a5)), (q6, .inl (c6, 16, .inl a6)), (q7, .inl (c7, 16, .inl a7)), (q8, .inl (c8, 16, .inl a8)), (q9, .inl (c9, 16, .inl a9)), (q10, .inl (c10, 16, .inl a10)), (q11, .inl (c11, 16, .inl a11)), (q13, .inl (c13, 1000, .inl a13)), (q14, .inl (c14, 1000, .inl a14)), (q15, .inl (c15, 4096, .inl a15))]) (w1 := [(h0, .inr (8, [.int th, .ref q1, .ref q2, .ref q3, .ref q4, .ref q5, .ref q6, .ref q7, .ref q8, .ref q9, .ref q10, .ref q11, v12, .ref q13, .ref q14, .ref q15, v16])), (q1, .inl (c1, 16, .inl a1))]) hP hD [0, 1] [2, 3, 4, 5, 6, 7, 8, 9, 10, 11, 12, 13, 14] rfl rfl (by decide) (by decide) hk1 hFc hP1 hD1
      clear hk1 hz1 ht hPc hDc hKc hFc
      generalize H1 = H at hP hS ⊢
      replace hP : va_P (dC, dI) vwCl [(q2, .inl (c2, 67200, .inl a2)), (q3, .inl (c3, 16, .inl a3)), (q4, .inl (c4, 16, .inl a4)), (q5, .inl (c5, 16, .inl a5)), (q6, .inl (c6, 16, .inl a6)), (q7, .inl (c7, 16, .inl a7)), (q8, .inl (c8, 16, .inl a8)), (q9, .inl (c9, 16, .inl a9)), (q10, .inl (c10, 16, .inl a10)), (q11, .inl (c11, 16, .inl a11)), (q13, .inl (c13, 1000, .inl a13)), (q14, .inl (c14, 1000, .inl a14)), (q15, .inl (c15, 4096, .inl a15)), (h0, .inr (8, [.int th, .ref q1, .ref q2, .ref q3, .ref q4, .ref q5, .ref q6, .ref q7, .ref q8, .ref q9, .ref q10, .ref q11, v12, .ref q13, .ref q14, .ref q15, v16])), (q1, .inl (c1, 16, .inl a1))] H := hP
      replace hD : va_D A [(q2, .inl (c2, 67200, .inl a2)), (q3, .inl (c3, 16, .inl a3)), (q4, .inl (c4, 16, .inl a4)), (q5, .inl (c5, 16, .inl a5)), (q6, .inl (c6, 16, .inl a6)), (q7, .inl (c7, 16, .inl a7)), (q8, .inl (c8, 16, .inl a8)), (q9, .inl (c9, 16, .inl a9)), (q10, .inl (c10, 16, .inl a10)), (q11, .inl (c11, 16, .inl a11)), (q13, .inl (c13, 1000, .inl a13)), (q14, .inl (c14, 1000, .inl a14)), (q15, .inl (c15, 4096, .inl a15)), (h0, .inr (8, [.int th, .ref q1, .ref q2, .ref q3, .ref q4, .ref q5, .ref q6, .ref q7, .ref q8, .ref q9, .ref q10, .ref q11, v12, .ref q13, .ref q14, .ref q15, v16])), (q1, .inl (c1, 16, .inl a1))] := hD
      refine W.widen (k := 0) (n := 0) (Nat.le_of_ble_eq_true rfl) (Nat.le_of_ble_eq_true rfl) ?_
      refine W.eq (g2 := F0 m 24 ls [.int r_69]) rfl ?_
      refine lv_if_eq (tgt := 41) hx hb dX8_map_24 (by decide) (fun c_70 => ?_) (fun c_70 => ?_)
      ·
        have ic_70 : r_69.toInt = 0 := tx_eq rfl (by decide) c_70
        refine lv_aload_n hx hb dX8_map_41 rfl (lv_at hl 1 rfl) ?_
        refine lv_iconst (v := 1) hx hb dX8_map_42 (by decide) ?_
        have hPc := hP.sub (ws' := [(h0, .inr (8, [.int th, .ref q1, .ref q2, .ref q3, .ref q4, .ref q5, .ref q6, .ref q7, .ref q8, .ref q9, .ref q10, .ref q11, v12, .ref q13, .ref q14, .ref q15, v16]))]) [13] rfl
        have hDc := hD.sub (ws' := [(h0, .inr (8, [.int th, .ref q1, .ref q2, .ref q3, .ref q4, .ref q5, .ref q6, .ref q7, .ref q8, .ref q9, .ref q10, .ref q11, v12, .ref q13, .ref q14, .ref q15, v16]))]) [13] (by decide) rfl
        have hKc := hK.sub (tys' := []) [] rfl
        have hFc := va_free (wc := [(h0, .inr (8, [.int th, .ref q1, .ref q2, .ref q3, .ref q4, .ref q5, .ref q6, .ref q7, .ref q8, .ref q9, .ref q10, .ref q11, v12, .ref q13, .ref q14, .ref q15, v16]))]) hD hS hA [13] rfl
        refine va_calli (va_runV (As := [.int 1]) (rest := []) ⟨hx, hb, hml, hown, hts⟩ (c_X8_refuse l  dC dI H.size h0 th (.ref q1) (.ref q2) (.ref q3) (.ref q4) (.ref q5) (.ref q6) (.ref q7) (.ref q8) (.ref q9) (.ref q10) (.ref q11) v12 (.ref q13) (.ref q14) (.ref q15) v16 1) (cwV 1 hts gX8_map_X8_refuse rfl rfl rfl (by decide +kernel) ⟨(Nat.le_of_ble_eq_true rfl), (Nat.le_of_ble_eq_true rfl)⟩) ⟨pk_blind, va_recv hKc hPc (ci := 8) (q0 := 0) rfl rfl, pk_call hPc hKc hDc⟩ rfl rfl hl.1 rfl (lv_room (Nat.le_of_ble_eq_true rfl)) dX8_map_43 ⟨(Nat.le_of_ble_eq_true rfl), (Nat.le_of_ble_eq_true rfl)⟩) hS (fun q _ h => hFc q h) hFc (fun r_71 ur_71 t H1 locs ht hvm hw hB hz1 hk1 hS => ?_)
        try dsimp only at hw
        obtain ⟨hP1, hK1, hD1⟩ := hB
        rw [ht] at hP1
        have hK1 := va_K.moved hvm.symm hK1
        obtain ⟨hP, hD⟩ := va_join (wr := [(q2, .inl (c2, 67200, .inl a2)), (q3, .inl (c3, 16, .inl a3)), (q4, .inl (c4, 16, .inl a4)), (q5, .inl (c5, 16, .inl a5)), (q6, .inl (c6, 16, .inl a6)), (q7, .inl (c7, 16, .inl a7)), (q8, .inl (c8, 16, .inl a8)), (q9, .inl (c9, 16, .inl a9)), (q10, .inl (c10, 16, .inl a10)), (q11, .inl (c11, 16, .inl a11)), (q13, .inl (c13, 1000, .inl a13)), (q14, .inl (c14, 1000, .inl a14)), (q15, .inl (c15, 4096, .inl a15)), (q1, .inl (c1, 16, .inl a1))]) (w1 := [(h0, .inr (8, [.int 1, .ref q1, .ref q2, .ref q3, .ref q4, .ref q5, .ref q6, .ref q7, .ref q8, .ref q9, .ref q10, .ref q11, v12, .ref q13, .ref q14, .ref q15, v16]))]) hP hD [13] [0, 1, 2, 3, 4, 5, 6, 7, 8, 9, 10, 11, 12, 14] rfl rfl (by decide) (by decide) hk1 hFc hP1 hD1
        clear hk1 hz1 ht hPc hDc hKc hFc
        generalize H1 = H at hP hS ⊢
        replace hP : va_P (dC, dI) vwCl [(q2, .inl (c2, 67200, .inl a2)), (q3, .inl (c3, 16, .inl a3)), (q4, .inl (c4, 16, .inl a4)), (q5, .inl (c5, 16, .inl a5)), (q6, .inl (c6, 16, .inl a6)), (q7, .inl (c7, 16, .inl a7)), (q8, .inl (c8, 16, .inl a8)), (q9, .inl (c9, 16, .inl a9)), (q10, .inl (c10, 16, .inl a10)), (q11, .inl (c11, 16, .inl a11)), (q13, .inl (c13, 1000, .inl a13)), (q14, .inl (c14, 1000, .inl a14)), (q15, .inl (c15, 4096, .inl a15)), (q1, .inl (c1, 16, .inl a1)), (h0, .inr (8, [.int 1, .ref q1, .ref q2, .ref q3, .ref q4, .ref q5, .ref q6, .ref q7, .ref q8, .ref q9, .ref q10, .ref q11, v12, .ref q13, .ref q14, .ref q15, v16]))] H := hP
        replace hD : va_D A [(q2, .inl (c2, 67200, .inl a2)), (q3, .inl (c3, 16, .inl a3)), (q4, .inl (c4, 16, .inl a4)), (q5, .inl (c5, 16, .inl a5)), (q6, .inl (c6, 16, .inl a6)), (q7, .inl (c7, 16, .inl a7)), (q8, .inl (c8, 16, .inl a8)), (q9, .inl (c9, 16, .inl a9)), (q10, .inl (c10, 16, .inl a10)), (q11, .inl (c11, 16, .inl a11)), (q13, .inl (c13, 1000, .inl a13)), (q14, .inl (c14, 1000, .inl a14)), (q15, .inl (c15, 4096, .inl a15)), (q1, .inl (c1, 16, .inl a1)), (h0, .inr (8, [.int 1, .ref q1, .ref q2, .ref q3, .ref q4, .ref q5, .ref q6, .ref q7, .ref q8, .ref q9, .ref q10, .ref q11, v12, .ref q13, .ref q14, .ref q15, v16]))] := hD
        refine W.widen (k := 0) (n := 0) (Nat.le_of_ble_eq_true rfl) (Nat.le_of_ble_eq_true rfl) ?_
        obtain rfl : r_71 = 0 := hw
        refine W.eq (g2 := F0 m 46 ls [.int 0]) rfl ?_
        refine lv_i2l (v := (0 : Int32).toInt64) hx hb dX8_map_46 rfl ?_
        have hP9 := hP.sub (ws' := [(h0, .inr (8, [.int 1, .ref q1, .ref q2, .ref q3, .ref q4, .ref q5, .ref q6, .ref q7, .ref q8, .ref q9, .ref q10, .ref q11, v12, .ref q13, .ref q14, .ref q15, v16])), (q1, .inl (c1, 16, .inl a1)), (q2, .inl (c2, 67200, .inl a2)), (q3, .inl (c3, 16, .inl a3)), (q4, .inl (c4, 16, .inl a4)), (q5, .inl (c5, 16, .inl a5)), (q6, .inl (c6, 16, .inl a6)), (q7, .inl (c7, 16, .inl a7)), (q8, .inl (c8, 16, .inl a8)), (q9, .inl (c9, 16, .inl a9)), (q10, .inl (c10, 16, .inl a10)), (q11, .inl (c11, 16, .inl a11)), (q13, .inl (c13, 1000, .inl a13)), (q14, .inl (c14, 1000, .inl a14)), (q15, .inl (c15, 4096, .inl a15))]) [14, 13, 0, 1, 2, 3, 4, 5, 6, 7, 8, 9, 10, 11, 12] rfl
        have hD9 := hD.sub (ws' := [(h0, .inr (8, [.int 1, .ref q1, .ref q2, .ref q3, .ref q4, .ref q5, .ref q6, .ref q7, .ref q8, .ref q9, .ref q10, .ref q11, v12, .ref q13, .ref q14, .ref q15, v16])), (q1, .inl (c1, 16, .inl a1)), (q2, .inl (c2, 67200, .inl a2)), (q3, .inl (c3, 16, .inl a3)), (q4, .inl (c4, 16, .inl a4)), (q5, .inl (c5, 16, .inl a5)), (q6, .inl (c6, 16, .inl a6)), (q7, .inl (c7, 16, .inl a7)), (q8, .inl (c8, 16, .inl a8)), (q9, .inl (c9, 16, .inl a9)), (q10, .inl (c10, 16, .inl a10)), (q11, .inl (c11, 16, .inl a11)), (q13, .inl (c13, 1000, .inl a13)), (q14, .inl (c14, 1000, .inl a14)), (q15, .inl (c15, 4096, .inl a15))]) [14, 13, 0, 1, 2, 3, 4, 5, 6, 7, 8, 9, 10, 11, 12] (by decide) rfl
        have hK9 := hK.sub (tys' := [(c1, .int), (c2, .int), (c3, .int), (c4, .int), (c5, .int), (c6, .int), (c7, .int), (c8, .int), (c9, .int), (c10, .int), (c11, .int), (c13, .int), (c14, .int), (c15, .boolean)]) [0, 1, 2, 3, 4, 5, 6, 7, 8, 9, 10, 11, 12, 13] rfl
        refine W.widen (k := 0) (n := 0) (Nat.le_of_ble_eq_true rfl) (Nat.le_of_ble_eq_true rfl) ?_
        exact W.lret (v := (0 : Int32).toInt64) hx hb hr (fun t ht hW => ⟨⟨(0 : Int32).toInt64, (1, a2, a3, a6, a7, a13, a14, a15), rfl, ⟨0, 0, by omega, rs_rf, hMa 0⟩, by rw [ht]; exact hP9, va_K.moved hW.alike hK9, hD9⟩, hS.F ht⟩) hS.2.2 dX8_map_47
      ·
        have ic_70 : ¬ r_69.toInt = 0 := tx_ne rfl (by decide) c_70
        refine lv_iload hx hb dX8_map_27 (lv_at hl 0 rfl) ?_
        refine lv_if_eq (tgt := 48) hx hb dX8_map_29 (by decide) (fun c_72 => ?_) (fun c_72 => ?_)
        ·
          have ic_72 : x5.toInt = 0 := tx_eq rfl (by decide) c_72
          have fj0_ : ∃ o9 : Nat, o9 < 16 ∧ p0 = nI o9 ∧ ¬ (a1 o9).toInt = 0 := (jr_69.resolve_right (fun h => absurd h.1 ic_70)).2
          have fj1_ : ¬ x5.toInt = 0 → thP a1 p3 := fun h => absurd ic_72 h
          exact jn48 (ls, H, locs) ⟨lv_sub hl [0, 1, 2, 3, 4, 5] rfl, hP.sub [13, 14, 0, 1, 2, 3, 4, 5, 6, 7, 8, 9, 10, 11, 12] rfl, hS, fj0_, fj1_⟩
        ·
          have ic_72 : ¬ x5.toInt = 0 := tx_ne rfl (by decide) c_72
          refine lv_aload_n hx hb dX8_map_32 rfl (lv_at hl 1 rfl) ?_
          refine lv_iload hx hb dX8_map_33 (lv_at hl 5 rfl) ?_
          have hPc := hP.sub (ws' := [(h0, .inr (8, [.int th, .ref q1, .ref q2, .ref q3, .ref q4, .ref q5, .ref q6, .ref q7, .ref q8, .ref q9, .ref q10, .ref q11, v12, .ref q13, .ref q14, .ref q15, v16])), (q1, .inl (c1, 16, .inl a1))]) [13, 14] rfl
          have hDc := hD.sub (ws' := [(h0, .inr (8, [.int th, .ref q1, .ref q2, .ref q3, .ref q4, .ref q5, .ref q6, .ref q7, .ref q8, .ref q9, .ref q10, .ref q11, v12, .ref q13, .ref q14, .ref q15, v16])), (q1, .inl (c1, 16, .inl a1))]) [13, 14] (by decide) rfl
          have hKc := hK.sub (tys' := [(c1, .int)]) [0] rfl
          have hFc := va_free (wc := [(h0, .inr (8, [.int th, .ref q1, .ref q2, .ref q3, .ref q4, .ref q5, .ref q6, .ref q7, .ref q8, .ref q9, .ref q10, .ref q11, v12, .ref q13, .ref q14, .ref q15, v16])), (q1, .inl (c1, 16, .inl a1))]) hD hS hA [13, 14] rfl
          refine va_calli (va_runV (As := [.int p3]) (rest := []) ⟨hx, hb, hml, hown, hts⟩ (c_X8_isThere l  dC dI H.size h0 th q1 c1 a1 (.ref q2) (.ref q3) (.ref q4) (.ref q5) (.ref q6) (.ref q7) (.ref q8) (.ref q9) (.ref q10) (.ref q11) v12 (.ref q13) (.ref q14) (.ref q15) v16 p3) (cwV 1 hts gX8_map_X8_isThere rfl rfl rfl (by decide +kernel) ⟨(Nat.le_of_ble_eq_true rfl), (Nat.le_of_ble_eq_true rfl)⟩) ⟨pk_blind, va_recv hKc hPc (ci := 8) (q0 := 0) rfl rfl, pk_call hPc hKc hDc⟩ rfl rfl hl.1 rfl (lv_room (Nat.le_of_ble_eq_true rfl)) dX8_map_35 ⟨(Nat.le_of_ble_eq_true rfl), (Nat.le_of_ble_eq_true rfl)⟩) hS (fun q _ h => hFc q h) hFc (fun r_73 ur_73 t H1 locs ht hvm hw hB hz1 hk1 hS => ?_)
          try dsimp only at hw
          have jr_73 := hw
          obtain ⟨hP1, hK1, hD1⟩ := hB
          rw [ht] at hP1
          have hK1 := va_K.moved hvm.symm hK1
          obtain ⟨hP, hD⟩ := va_join (wr := [(q2, .inl (c2, 67200, .inl a2)), (q3, .inl (c3, 16, .inl a3)), (q4, .inl (c4, 16, .inl a4)), (q5, .inl (c5, 16, .inl a5)), (q6, .inl (c6, 16, .inl a6)), (q7, .inl (c7, 16, .inl a7)), (q8, .inl (c8, 16, .inl a8)), (q9, .inl (c9, 16, .inl a9)), (q10, .inl (c10, 16, .inl a10)), (q11, .inl (c11, 16, .inl a11)), (q13, .inl (c13, 1000, .inl a13)), (q14, .inl (c14, 1000, .inl a14)), (q15, .inl (c15, 4096, .inl a15))]) (w1 := [(h0, .inr (8, [.int th, .ref q1, .ref q2, .ref q3, .ref q4, .ref q5, .ref q6, .ref q7, .ref q8, .ref q9, .ref q10, .ref q11, v12, .ref q13, .ref q14, .ref q15, v16])), (q1, .inl (c1, 16, .inl a1))]) hP hD [13, 14] [0, 1, 2, 3, 4, 5, 6, 7, 8, 9, 10, 11, 12] rfl rfl (by decide) (by decide) hk1 hFc hP1 hD1
          clear hk1 hz1 ht hPc hDc hKc hFc
          generalize H1 = H at hP hS ⊢
          replace hP : va_P (dC, dI) vwCl [(q2, .inl (c2, 67200, .inl a2)), (q3, .inl (c3, 16, .inl a3)), (q4, .inl (c4, 16, .inl a4)), (q5, .inl (c5, 16, .inl a5)), (q6, .inl (c6, 16, .inl a6)), (q7, .inl (c7, 16, .inl a7)), (q8, .inl (c8, 16, .inl a8)), (q9, .inl (c9, 16, .inl a9)), (q10, .inl (c10, 16, .inl a10)), (q11, .inl (c11, 16, .inl a11)), (q13, .inl (c13, 1000, .inl a13)), (q14, .inl (c14, 1000, .inl a14)), (q15, .inl (c15, 4096, .inl a15)), (h0, .inr (8, [.int th, .ref q1, .ref q2, .ref q3, .ref q4, .ref q5, .ref q6, .ref q7, .ref q8, .ref q9, .ref q10, .ref q11, v12, .ref q13, .ref q14, .ref q15, v16])), (q1, .inl (c1, 16, .inl a1))] H := hP
          replace hD : va_D A [(q2, .inl (c2, 67200, .inl a2)), (q3, .inl (c3, 16, .inl a3)), (q4, .inl (c4, 16, .inl a4)), (q5, .inl (c5, 16, .inl a5)), (q6, .inl (c6, 16, .inl a6)), (q7, .inl (c7, 16, .inl a7)), (q8, .inl (c8, 16, .inl a8)), (q9, .inl (c9, 16, .inl a9)), (q10, .inl (c10, 16, .inl a10)), (q11, .inl (c11, 16, .inl a11)), (q13, .inl (c13, 1000, .inl a13)), (q14, .inl (c14, 1000, .inl a14)), (q15, .inl (c15, 4096, .inl a15)), (h0, .inr (8, [.int th, .ref q1, .ref q2, .ref q3, .ref q4, .ref q5, .ref q6, .ref q7, .ref q8, .ref q9, .ref q10, .ref q11, v12, .ref q13, .ref q14, .ref q15, v16])), (q1, .inl (c1, 16, .inl a1))] := hD
          refine W.widen (k := 0) (n := 0) (Nat.le_of_ble_eq_true rfl) (Nat.le_of_ble_eq_true rfl) ?_
          refine W.eq (g2 := F0 m 38 ls [.int r_73]) rfl ?_
          refine lv_if_ne (tgt := 48) hx hb dX8_map_38 (by decide) (fun c_74 => ?_) (fun c_74 => ?_)
          ·
            have ic_74 : ¬ r_73.toInt = 0 := tx_ne rfl (by decide) c_74
            have fj0_ : ∃ o9 : Nat, o9 < 16 ∧ p0 = nI o9 ∧ ¬ (a1 o9).toInt = 0 := (jr_69.resolve_right (fun h => absurd h.1 ic_70)).2
            have fj1_ : ¬ x5.toInt = 0 → thP a1 p3 := fun _ => (jr_73.resolve_right (fun h => absurd h.1 ic_74)).2
            exact jn48 (ls, H, locs) ⟨lv_sub hl [0, 1, 2, 3, 4, 5] rfl, hP.sub [13, 14, 0, 1, 2, 3, 4, 5, 6, 7, 8, 9, 10, 11, 12] rfl, hS, fj0_, fj1_⟩
          ·
            have ic_74 : r_73.toInt = 0 := tx_eq rfl (by decide) c_74
            refine lv_aload_n hx hb dX8_map_41 rfl (lv_at hl 1 rfl) ?_
            refine lv_iconst (v := 1) hx hb dX8_map_42 (by decide) ?_
            have hPc := hP.sub (ws' := [(h0, .inr (8, [.int th, .ref q1, .ref q2, .ref q3, .ref q4, .ref q5, .ref q6, .ref q7, .ref q8, .ref q9, .ref q10, .ref q11, v12, .ref q13, .ref q14, .ref q15, v16]))]) [13] rfl
            have hDc := hD.sub (ws' := [(h0, .inr (8, [.int th, .ref q1, .ref q2, .ref q3, .ref q4, .ref q5, .ref q6, .ref q7, .ref q8, .ref q9, .ref q10, .ref q11, v12, .ref q13, .ref q14, .ref q15, v16]))]) [13] (by decide) rfl
            have hKc := hK.sub (tys' := []) [] rfl
            have hFc := va_free (wc := [(h0, .inr (8, [.int th, .ref q1, .ref q2, .ref q3, .ref q4, .ref q5, .ref q6, .ref q7, .ref q8, .ref q9, .ref q10, .ref q11, v12, .ref q13, .ref q14, .ref q15, v16]))]) hD hS hA [13] rfl
            refine va_calli (va_runV (As := [.int 1]) (rest := []) ⟨hx, hb, hml, hown, hts⟩ (c_X8_refuse l  dC dI H.size h0 th (.ref q1) (.ref q2) (.ref q3) (.ref q4) (.ref q5) (.ref q6) (.ref q7) (.ref q8) (.ref q9) (.ref q10) (.ref q11) v12 (.ref q13) (.ref q14) (.ref q15) v16 1) (cwV 1 hts gX8_map_X8_refuse rfl rfl rfl (by decide +kernel) ⟨(Nat.le_of_ble_eq_true rfl), (Nat.le_of_ble_eq_true rfl)⟩) ⟨pk_blind, va_recv hKc hPc (ci := 8) (q0 := 0) rfl rfl, pk_call hPc hKc hDc⟩ rfl rfl hl.1 rfl (lv_room (Nat.le_of_ble_eq_true rfl)) dX8_map_43 ⟨(Nat.le_of_ble_eq_true rfl), (Nat.le_of_ble_eq_true rfl)⟩) hS (fun q _ h => hFc q h) hFc (fun r_75 ur_75 t H1 locs ht hvm hw hB hz1 hk1 hS => ?_)
            try dsimp only at hw
            obtain ⟨hP1, hK1, hD1⟩ := hB
            rw [ht] at hP1
            have hK1 := va_K.moved hvm.symm hK1
            obtain ⟨hP, hD⟩ := va_join (wr := [(q2, .inl (c2, 67200, .inl a2)), (q3, .inl (c3, 16, .inl a3)), (q4, .inl (c4, 16, .inl a4)), (q5, .inl (c5, 16, .inl a5)), (q6, .inl (c6, 16, .inl a6)), (q7, .inl (c7, 16, .inl a7)), (q8, .inl (c8, 16, .inl a8)), (q9, .inl (c9, 16, .inl a9)), (q10, .inl (c10, 16, .inl a10)), (q11, .inl (c11, 16, .inl a11)), (q13, .inl (c13, 1000, .inl a13)), (q14, .inl (c14, 1000, .inl a14)), (q15, .inl (c15, 4096, .inl a15)), (q1, .inl (c1, 16, .inl a1))]) (w1 := [(h0, .inr (8, [.int 1, .ref q1, .ref q2, .ref q3, .ref q4, .ref q5, .ref q6, .ref q7, .ref q8, .ref q9, .ref q10, .ref q11, v12, .ref q13, .ref q14, .ref q15, v16]))]) hP hD [13] [0, 1, 2, 3, 4, 5, 6, 7, 8, 9, 10, 11, 12, 14] rfl rfl (by decide) (by decide) hk1 hFc hP1 hD1
            clear hk1 hz1 ht hPc hDc hKc hFc
            generalize H1 = H at hP hS ⊢
            replace hP : va_P (dC, dI) vwCl [(q2, .inl (c2, 67200, .inl a2)), (q3, .inl (c3, 16, .inl a3)), (q4, .inl (c4, 16, .inl a4)), (q5, .inl (c5, 16, .inl a5)), (q6, .inl (c6, 16, .inl a6)), (q7, .inl (c7, 16, .inl a7)), (q8, .inl (c8, 16, .inl a8)), (q9, .inl (c9, 16, .inl a9)), (q10, .inl (c10, 16, .inl a10)), (q11, .inl (c11, 16, .inl a11)), (q13, .inl (c13, 1000, .inl a13)), (q14, .inl (c14, 1000, .inl a14)), (q15, .inl (c15, 4096, .inl a15)), (q1, .inl (c1, 16, .inl a1)), (h0, .inr (8, [.int 1, .ref q1, .ref q2, .ref q3, .ref q4, .ref q5, .ref q6, .ref q7, .ref q8, .ref q9, .ref q10, .ref q11, v12, .ref q13, .ref q14, .ref q15, v16]))] H := hP
            replace hD : va_D A [(q2, .inl (c2, 67200, .inl a2)), (q3, .inl (c3, 16, .inl a3)), (q4, .inl (c4, 16, .inl a4)), (q5, .inl (c5, 16, .inl a5)), (q6, .inl (c6, 16, .inl a6)), (q7, .inl (c7, 16, .inl a7)), (q8, .inl (c8, 16, .inl a8)), (q9, .inl (c9, 16, .inl a9)), (q10, .inl (c10, 16, .inl a10)), (q11, .inl (c11, 16, .inl a11)), (q13, .inl (c13, 1000, .inl a13)), (q14, .inl (c14, 1000, .inl a14)), (q15, .inl (c15, 4096, .inl a15)), (q1, .inl (c1, 16, .inl a1)), (h0, .inr (8, [.int 1, .ref q1, .ref q2, .ref q3, .ref q4, .ref q5, .ref q6, .ref q7, .ref q8, .ref q9, .ref q10, .ref q11, v12, .ref q13, .ref q14, .ref q15, v16]))] := hD
            refine W.widen (k := 0) (n := 0) (Nat.le_of_ble_eq_true rfl) (Nat.le_of_ble_eq_true rfl) ?_
            obtain rfl : r_75 = 0 := hw
            refine W.eq (g2 := F0 m 46 ls [.int 0]) rfl ?_
            refine lv_i2l (v := (0 : Int32).toInt64) hx hb dX8_map_46 rfl ?_
            have hP9 := hP.sub (ws' := [(h0, .inr (8, [.int 1, .ref q1, .ref q2, .ref q3, .ref q4, .ref q5, .ref q6, .ref q7, .ref q8, .ref q9, .ref q10, .ref q11, v12, .ref q13, .ref q14, .ref q15, v16])), (q1, .inl (c1, 16, .inl a1)), (q2, .inl (c2, 67200, .inl a2)), (q3, .inl (c3, 16, .inl a3)), (q4, .inl (c4, 16, .inl a4)), (q5, .inl (c5, 16, .inl a5)), (q6, .inl (c6, 16, .inl a6)), (q7, .inl (c7, 16, .inl a7)), (q8, .inl (c8, 16, .inl a8)), (q9, .inl (c9, 16, .inl a9)), (q10, .inl (c10, 16, .inl a10)), (q11, .inl (c11, 16, .inl a11)), (q13, .inl (c13, 1000, .inl a13)), (q14, .inl (c14, 1000, .inl a14)), (q15, .inl (c15, 4096, .inl a15))]) [14, 13, 0, 1, 2, 3, 4, 5, 6, 7, 8, 9, 10, 11, 12] rfl
            have hD9 := hD.sub (ws' := [(h0, .inr (8, [.int 1, .ref q1, .ref q2, .ref q3, .ref q4, .ref q5, .ref q6, .ref q7, .ref q8, .ref q9, .ref q10, .ref q11, v12, .ref q13, .ref q14, .ref q15, v16])), (q1, .inl (c1, 16, .inl a1)), (q2, .inl (c2, 67200, .inl a2)), (q3, .inl (c3, 16, .inl a3)), (q4, .inl (c4, 16, .inl a4)), (q5, .inl (c5, 16, .inl a5)), (q6, .inl (c6, 16, .inl a6)), (q7, .inl (c7, 16, .inl a7)), (q8, .inl (c8, 16, .inl a8)), (q9, .inl (c9, 16, .inl a9)), (q10, .inl (c10, 16, .inl a10)), (q11, .inl (c11, 16, .inl a11)), (q13, .inl (c13, 1000, .inl a13)), (q14, .inl (c14, 1000, .inl a14)), (q15, .inl (c15, 4096, .inl a15))]) [14, 13, 0, 1, 2, 3, 4, 5, 6, 7, 8, 9, 10, 11, 12] (by decide) rfl
            have hK9 := hK.sub (tys' := [(c1, .int), (c2, .int), (c3, .int), (c4, .int), (c5, .int), (c6, .int), (c7, .int), (c8, .int), (c9, .int), (c10, .int), (c11, .int), (c13, .int), (c14, .int), (c15, .boolean)]) [0, 1, 2, 3, 4, 5, 6, 7, 8, 9, 10, 11, 12, 13] rfl
            refine W.widen (k := 0) (n := 0) (Nat.le_of_ble_eq_true rfl) (Nat.le_of_ble_eq_true rfl) ?_
            exact W.lret (v := (0 : Int32).toInt64) hx hb hr (fun t ht hW => ⟨⟨(0 : Int32).toInt64, (1, a2, a3, a6, a7, a13, a14, a15), rfl, ⟨0, 0, by omega, rs_rf, hMa 0⟩, by rw [ht]; exact hP9, va_K.moved hW.alike hK9, hD9⟩, hS.F ht⟩) hS.2.2 dX8_map_47
  ·
    refine lv_iload_n hx hb dX8_map_0 rfl (lv_at hl 2 rfl) ?_
    refine lv_bipush (v := 19) hx hb dX8_map_1 (by decide) ?_
    refine lv_icmp_eq (tgt := 12) hx hb dX8_map_3 (by decide) (fun c_76 => ?_) (fun c_76 => ?_)
    ·
      have ic_76 : p1.toInt = 19 := tx_eq rfl (by decide) c_76
      refine lv_iconst (v := 1) hx hb dX8_map_12 (by decide) ?_
      refine lv_goto (tgt := 17) hx hb dX8_map_13 (by decide) ?_
      refine lv_istore (lv' := [(5, .int 1), (0, .ref h0), (1, .int p0), (2, .int p1), (3, .int p2), (4, .int p3)]) hx hb dX8_map_17 hl (by decide) rfl (fun ls hl => ?_)
      have fj0_ : ((1 : Int32).toInt = 0 ∧ ¬ p1.toInt = 19 ∧ ¬ p1.toInt = 20) ∨ (¬ (1 : Int32).toInt = 0 ∧ (p1.toInt = 19 ∨ p1.toInt = 20)) := Or.inr ⟨by decide, by omega⟩
      exact jn19 (ls, H, locs, 1) ⟨lv_sub hl [0, 1, 2, 3, 4, 5] rfl, hP.sub [0, 1, 2, 3, 4, 5, 6, 7, 8, 9, 10, 11, 12, 13, 14] rfl, hS, fj0_⟩
    ·
      have ic_76 : ¬ p1.toInt = 19 := tx_ne rfl (by decide) c_76
      refine lv_iload_n hx hb dX8_map_6 rfl (lv_at hl 2 rfl) ?_
      refine lv_bipush (v := 20) hx hb dX8_map_7 (by decide) ?_
      refine lv_icmp_ne (tgt := 16) hx hb dX8_map_9 (by decide) (fun c_77 => ?_) (fun c_77 => ?_)
      ·
        have ic_77 : ¬ p1.toInt = 20 := tx_ne rfl (by decide) c_77
        refine lv_iconst (v := 0) hx hb dX8_map_16 (by decide) ?_
        refine lv_istore (lv' := [(5, .int 0), (0, .ref h0), (1, .int p0), (2, .int p1), (3, .int p2), (4, .int p3)]) hx hb dX8_map_17 hl (by decide) rfl (fun ls hl => ?_)
        have fj0_ : ((0 : Int32).toInt = 0 ∧ ¬ p1.toInt = 19 ∧ ¬ p1.toInt = 20) ∨ (¬ (0 : Int32).toInt = 0 ∧ (p1.toInt = 19 ∨ p1.toInt = 20)) := Or.inl ⟨by decide, by omega, by omega⟩
        exact jn19 (ls, H, locs, 0) ⟨lv_sub hl [0, 1, 2, 3, 4, 5] rfl, hP.sub [0, 1, 2, 3, 4, 5, 6, 7, 8, 9, 10, 11, 12, 13, 14] rfl, hS, fj0_⟩
      ·
        have ic_77 : p1.toInt = 20 := tx_eq rfl (by decide) c_77
        refine lv_iconst (v := 1) hx hb dX8_map_12 (by decide) ?_
        refine lv_goto (tgt := 17) hx hb dX8_map_13 (by decide) ?_
        refine lv_istore (lv' := [(5, .int 1), (0, .ref h0), (1, .int p0), (2, .int p1), (3, .int p2), (4, .int p3)]) hx hb dX8_map_17 hl (by decide) rfl (fun ls hl => ?_)
        have fj0_ : ((1 : Int32).toInt = 0 ∧ ¬ p1.toInt = 19 ∧ ¬ p1.toInt = 20) ∨ (¬ (1 : Int32).toInt = 0 ∧ (p1.toInt = 19 ∨ p1.toInt = 20)) := Or.inr ⟨by decide, by omega⟩
        exact jn19 (ls, H, locs, 1) ⟨lv_sub hl [0, 1, 2, 3, 4, 5] rfl, hP.sub [0, 1, 2, 3, 4, 5, 6, 7, 8, 9, 10, 11, 12, 13, 14] rfl, hS, fj0_⟩
