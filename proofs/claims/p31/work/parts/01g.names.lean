theorem dL_sprites_255 : decode cL_sprites 255 = .ok (.istore_n 3, 1) := by decide +kernel
theorem dL_sprites_256 : decode cL_sprites 256 = .ok (.aload_n 0, 1) := by decide +kernel
theorem dL_sprites_257 : decode cL_sprites 257 = .ok (.iload 6, 2) := by decide +kernel
theorem dL_sprites_259 : decode cL_sprites 259 = .ok (.iconst 0, 1) := by decide +kernel
theorem dL_sprites_260 : decode cL_sprites 260 = .ok (.invokevirtual 42, 3) := by decide +kernel
theorem dL_sprites_263 : decode cL_sprites 263 = .ok (.iload 4, 2) := by decide +kernel
theorem dL_sprites_265 : decode cL_sprites 265 = .ok (.if_icmp .le 13, 3) := by decide +kernel
theorem dL_sprites_268 : decode cL_sprites 268 = .ok (.aload_n 0, 1) := by decide +kernel
theorem dL_sprites_269 : decode cL_sprites 269 = .ok (.iload 6, 2) := by decide +kernel
theorem dL_sprites_271 : decode cL_sprites 271 = .ok (.iconst 0, 1) := by decide +kernel
theorem dL_sprites_272 : decode cL_sprites 272 = .ok (.invokevirtual 42, 3) := by decide +kernel
theorem dL_sprites_275 : decode cL_sprites 275 = .ok (.goto 5, 3) := by decide +kernel
theorem dL_sprites_278 : decode cL_sprites 278 = .ok (.iload 4, 2) := by decide +kernel
theorem dL_sprites_280 : decode cL_sprites 280 = .ok (.istore 4, 2) := by decide +kernel
theorem dL_sprites_282 : decode cL_sprites 282 = .ok (.iload 5, 2) := by decide +kernel
theorem dL_sprites_284 : decode cL_sprites 284 = .ok (.aload_n 0, 1) := by decide +kernel
theorem dL_sprites_285 : decode cL_sprites 285 = .ok (.iload 6, 2) := by decide +kernel
theorem dL_sprites_287 : decode cL_sprites 287 = .ok (.iconst 3, 1) := by decide +kernel
theorem dL_sprites_288 : decode cL_sprites 288 = .ok (.invokevirtual 42, 3) := by decide +kernel
theorem dL_sprites_291 : decode cL_sprites 291 = .ok (.ifCond .lt 7, 3) := by decide +kernel
theorem dL_sprites_294 : decode cL_sprites 294 = .ok (.iconst 1, 1) := by decide +kernel
theorem dL_sprites_295 : decode cL_sprites 295 = .ok (.goto 4, 3) := by decide +kernel
theorem dL_sprites_298 : decode cL_sprites 298 = .ok (.iconst 0, 1) := by decide +kernel
theorem dL_sprites_299 : decode cL_sprites 299 = .ok (.iadd, 1) := by decide +kernel
theorem dL_sprites_300 : decode cL_sprites 300 = .ok (.istore 5, 2) := by decide +kernel
theorem dL_sprites_302 : decode cL_sprites 302 = .ok (.iinc 6 1, 3) := by decide +kernel
theorem dL_sprites_305 : decode cL_sprites 305 = .ok (.goto (-80), 3) := by decide +kernel
theorem dL_sprites_308 : decode cL_sprites 308 = .ok (.iconst 0, 1) := by decide +kernel
theorem dL_sprites_309 : decode cL_sprites 309 = .ok (.istore 6, 2) := by decide +kernel
theorem dL_sprites_311 : decode cL_sprites 311 = .ok (.iconst 0, 1) := by decide +kernel
theorem dL_sprites_312 : decode cL_sprites 312 = .ok (.istore 7, 2) := by decide +kernel
theorem dL_sprites_314 : decode cL_sprites 314 = .ok (.iload 7, 2) := by decide +kernel
theorem dL_sprites_316 : decode cL_sprites 316 = .ok (.aload_n 0, 1) := by decide +kernel
theorem dL_sprites_317 : decode cL_sprites 317 = .ok (.iconst 0, 1) := by decide +kernel
theorem dL_sprites_318 : decode cL_sprites 318 = .ok (.invokevirtual 28, 3) := by decide +kernel
theorem dL_sprites_321 : decode cL_sprites 321 = .ok (.if_icmp .ge 70, 3) := by decide +kernel
theorem dL_sprites_324 : decode cL_sprites 324 = .ok (.iconst 0, 1) := by decide +kernel
theorem dL_sprites_325 : decode cL_sprites 325 = .ok (.istore 8, 2) := by decide +kernel
theorem dL_sprites_327 : decode cL_sprites 327 = .ok (.iconst 0, 1) := by decide +kernel
theorem dL_sprites_328 : decode cL_sprites 328 = .ok (.istore 9, 2) := by decide +kernel
theorem dL_sprites_330 : decode cL_sprites 330 = .ok (.iload 9, 2) := by decide +kernel
theorem dL_sprites_332 : decode cL_sprites 332 = .ok (.aload_n 0, 1) := by decide +kernel
theorem dL_sprites_333 : decode cL_sprites 333 = .ok (.iconst 1, 1) := by decide +kernel
theorem dL_sprites_334 : decode cL_sprites 334 = .ok (.invokevirtual 28, 3) := by decide +kernel
theorem dL_sprites_337 : decode cL_sprites 337 = .ok (.if_icmp .ge 33, 3) := by decide +kernel
theorem dL_sprites_340 : decode cL_sprites 340 = .ok (.iload 8, 2) := by decide +kernel
theorem dL_sprites_342 : decode cL_sprites 342 = .ok (.ifCond .ne 15, 3) := by decide +kernel
theorem dL_sprites_345 : decode cL_sprites 345 = .ok (.aload_n 0, 1) := by decide +kernel
theorem dL_sprites_346 : decode cL_sprites 346 = .ok (.iload 9, 2) := by decide +kernel
theorem dL_sprites_348 : decode cL_sprites 348 = .ok (.iconst 0, 1) := by decide +kernel
theorem dL_sprites_349 : decode cL_sprites 349 = .ok (.invokevirtual 25, 3) := by decide +kernel
theorem dL_sprites_352 : decode cL_sprites 352 = .ok (.iload 7, 2) := by decide +kernel
theorem dL_sprites_354 : decode cL_sprites 354 = .ok (.if_icmp .ne 7, 3) := by decide +kernel
theorem dL_sprites_357 : decode cL_sprites 357 = .ok (.iconst 1, 1) := by decide +kernel
theorem dL_sprites_358 : decode cL_sprites 358 = .ok (.goto 4, 3) := by decide +kernel
theorem dL_sprites_361 : decode cL_sprites 361 = .ok (.iconst 0, 1) := by decide +kernel
theorem dL_sprites_362 : decode cL_sprites 362 = .ok (.istore 8, 2) := by decide +kernel
theorem dL_sprites_364 : decode cL_sprites 364 = .ok (.iinc 9 1, 3) := by decide +kernel
theorem dL_sprites_367 : decode cL_sprites 367 = .ok (.goto (-37), 3) := by decide +kernel
theorem dL_sprites_370 : decode cL_sprites 370 = .ok (.iload 6, 2) := by decide +kernel
theorem dL_sprites_372 : decode cL_sprites 372 = .ok (.iload 8, 2) := by decide +kernel
theorem dL_sprites_374 : decode cL_sprites 374 = .ok (.ifCond .eq 7, 3) := by decide +kernel
theorem dL_sprites_377 : decode cL_sprites 377 = .ok (.iconst 0, 1) := by decide +kernel
theorem dL_sprites_378 : decode cL_sprites 378 = .ok (.goto 4, 3) := by decide +kernel
theorem dL_sprites_381 : decode cL_sprites 381 = .ok (.iconst 1, 1) := by decide +kernel
theorem dL_sprites_382 : decode cL_sprites 382 = .ok (.iadd, 1) := by decide +kernel
theorem dL_sprites_383 : decode cL_sprites 383 = .ok (.istore 6, 2) := by decide +kernel
theorem dL_sprites_385 : decode cL_sprites 385 = .ok (.iinc 7 1, 3) := by decide +kernel
theorem dL_sprites_388 : decode cL_sprites 388 = .ok (.goto (-74), 3) := by decide +kernel
theorem dL_sprites_391 : decode cL_sprites 391 = .ok (.aload_n 0, 1) := by decide +kernel
theorem dL_sprites_392 : decode cL_sprites 392 = .ok (.iconst 2, 1) := by decide +kernel
theorem dL_sprites_393 : decode cL_sprites 393 = .ok (.invokevirtual 28, 3) := by decide +kernel
theorem dL_sprites_396 : decode cL_sprites 396 = .ok (.iload_n 1, 1) := by decide +kernel
theorem dL_sprites_397 : decode cL_sprites 397 = .ok (.if_icmp .ne 84, 3) := by decide +kernel
theorem dL_sprites_400 : decode cL_sprites 400 = .ok (.aload_n 0, 1) := by decide +kernel
theorem dL_sprites_401 : decode cL_sprites 401 = .ok (.iconst 3, 1) := by decide +kernel
theorem dL_sprites_402 : decode cL_sprites 402 = .ok (.invokevirtual 28, 3) := by decide +kernel
theorem dL_sprites_405 : decode cL_sprites 405 = .ok (.iload_n 3, 1) := by decide +kernel
theorem dL_sprites_406 : decode cL_sprites 406 = .ok (.if_icmp .ne 75, 3) := by decide +kernel
theorem dL_sprites_409 : decode cL_sprites 409 = .ok (.aload_n 0, 1) := by decide +kernel
theorem dL_sprites_410 : decode cL_sprites 410 = .ok (.iconst 4, 1) := by decide +kernel
theorem dL_sprites_411 : decode cL_sprites 411 = .ok (.invokevirtual 28, 3) := by decide +kernel
theorem dL_sprites_414 : decode cL_sprites 414 = .ok (.iload 4, 2) := by decide +kernel
theorem dL_sprites_416 : decode cL_sprites 416 = .ok (.if_icmp .ne 65, 3) := by decide +kernel
theorem dL_sprites_419 : decode cL_sprites 419 = .ok (.aload_n 0, 1) := by decide +kernel
theorem dL_sprites_420 : decode cL_sprites 420 = .ok (.iconst 5, 1) := by decide +kernel
theorem dL_sprites_421 : decode cL_sprites 421 = .ok (.invokevirtual 28, 3) := by decide +kernel
theorem dL_sprites_424 : decode cL_sprites 424 = .ok (.iload 5, 2) := by decide +kernel
theorem dL_sprites_426 : decode cL_sprites 426 = .ok (.if_icmp .ne 55, 3) := by decide +kernel
theorem dL_sprites_429 : decode cL_sprites 429 = .ok (.iconst 2, 1) := by decide +kernel
theorem dL_sprites_430 : decode cL_sprites 430 = .ok (.aload_n 0, 1) := by decide +kernel
theorem dL_sprites_431 : decode cL_sprites 431 = .ok (.bipush 6, 2) := by decide +kernel
theorem dL_sprites_433 : decode cL_sprites 433 = .ok (.invokevirtual 28, 3) := by decide +kernel
theorem dL_sprites_436 : decode cL_sprites 436 = .ok (.imul, 1) := by decide +kernel
theorem dL_sprites_437 : decode cL_sprites 437 = .ok (.iload_n 2, 1) := by decide +kernel
theorem dL_sprites_438 : decode cL_sprites 438 = .ok (.if_icmp .ne 43, 3) := by decide +kernel
theorem dL_sprites_441 : decode cL_sprites 441 = .ok (.aload_n 0, 1) := by decide +kernel
theorem dL_sprites_442 : decode cL_sprites 442 = .ok (.bipush 7, 2) := by decide +kernel
theorem dL_sprites_444 : decode cL_sprites 444 = .ok (.invokevirtual 28, 3) := by decide +kernel
theorem dL_sprites_447 : decode cL_sprites 447 = .ok (.iload 6, 2) := by decide +kernel
theorem dL_sprites_449 : decode cL_sprites 449 = .ok (.if_icmp .ne 32, 3) := by decide +kernel
theorem dL_sprites_452 : decode cL_sprites 452 = .ok (.aload_n 0, 1) := by decide +kernel
theorem dL_sprites_453 : decode cL_sprites 453 = .ok (.bipush 14, 2) := by decide +kernel
theorem dL_sprites_455 : decode cL_sprites 455 = .ok (.invokevirtual 28, 3) := by decide +kernel
theorem dL_sprites_458 : decode cL_sprites 458 = .ok (.bipush (-2), 2) := by decide +kernel
theorem dL_sprites_460 : decode cL_sprites 460 = .ok (.if_icmp .ne 21, 3) := by decide +kernel
theorem dL_sprites_463 : decode cL_sprites 463 = .ok (.aload_n 0, 1) := by decide +kernel
theorem dL_sprites_464 : decode cL_sprites 464 = .ok (.aload_n 0, 1) := by decide +kernel
theorem dL_sprites_465 : decode cL_sprites 465 = .ok (.iconst 1, 1) := by decide +kernel
theorem dL_sprites_466 : decode cL_sprites 466 = .ok (.invokevirtual 28, 3) := by decide +kernel
theorem dL_sprites_469 : decode cL_sprites 469 = .ok (.iconst 0, 1) := by decide +kernel
theorem dL_sprites_470 : decode cL_sprites 470 = .ok (.invokevirtual 25, 3) := by decide +kernel
theorem dL_sprites_473 : decode cL_sprites 473 = .ok (.iconst (-1), 1) := by decide +kernel
theorem dL_sprites_474 : decode cL_sprites 474 = .ok (.if_icmp .ne 7, 3) := by decide +kernel
theorem dL_sprites_477 : decode cL_sprites 477 = .ok (.iconst 1, 1) := by decide +kernel
theorem dL_sprites_478 : decode cL_sprites 478 = .ok (.goto 4, 3) := by decide +kernel
theorem dL_sprites_481 : decode cL_sprites 481 = .ok (.iconst 0, 1) := by decide +kernel
theorem dL_sprites_482 : decode cL_sprites 482 = .ok (.ireturn, 1) := by decide +kernel
set_option maxRecDepth 20000 in
theorem ggL_print_X6_color : GoodIn wsL_print wsX6_color := goodIn_r _ [5, 6, 7, 8, 9, 10, 4, 11, 12, 13, 14, 15, 16, 17, 18, 19, 20, 21, 22, 23, 24, 25, 26, 27, 28, 29, 30, 31, 32, 33, 34, 35, 36, 37, 38, 39, 40, 41, 42, 43, 44, 45, 46, 47, 48, 49, 50, 51, 52, 53, 54, 55, 56, 57, 58, 59, 60, 61, 62, 63, 64, 65, 66, 67, 68, 69, 70, 71, 72, 73, 74, 75, 76, 77, 78, 79, 80, 81, 82, 83, 84, 85, 86, 87, 88, 89, 90, 91, 92, 93, 94, 95, 96, 97, 98, 99, 100, 101, 102, 103, 104, 105, 106, 107, 108, 109] (by decide +kernel) (by decide +kernel)
set_option maxRecDepth 20000 in
theorem gL_print_X6_color : GoodIn wsL_print (wsV RL 56 RX6 yX6_color wsX6_color) := goodIn_app (goodIn_of _ (by decide +kernel)) ggL_print_X6_color
theorem dL_print_0 : decode cL_print 0 = .ok (.bipush 7, 2) := by decide +kernel
theorem dL_print_2 : decode cL_print 2 = .ok (.istore_n 1, 1) := by decide +kernel
theorem dL_print_3 : decode cL_print 3 = .ok (.iconst 0, 1) := by decide +kernel
theorem dL_print_4 : decode cL_print 4 = .ok (.istore_n 2, 1) := by decide +kernel
theorem dL_print_5 : decode cL_print 5 = .ok (.iload_n 2, 1) := by decide +kernel
theorem dL_print_6 : decode cL_print 6 = .ok (.sipush 1024, 3) := by decide +kernel
theorem dL_print_9 : decode cL_print 9 = .ok (.if_icmp .ge 27, 3) := by decide +kernel
theorem dL_print_12 : decode cL_print 12 = .ok (.bipush 31, 2) := by decide +kernel
theorem dL_print_14 : decode cL_print 14 = .ok (.iload_n 1, 1) := by decide +kernel
theorem dL_print_15 : decode cL_print 15 = .ok (.imul, 1) := by decide +kernel
theorem dL_print_16 : decode cL_print 16 = .ok (.aload_n 0, 1) := by decide +kernel
theorem dL_print_17 : decode cL_print 17 = .ok (.iload_n 2, 1) := by decide +kernel
theorem dL_print_18 : decode cL_print 18 = .ok (.bipush 32, 2) := by decide +kernel
theorem dL_print_20 : decode cL_print 20 = .ok (.idiv, 1) := by decide +kernel
theorem dL_print_21 : decode cL_print 21 = .ok (.iload_n 2, 1) := by decide +kernel
theorem dL_print_22 : decode cL_print 22 = .ok (.bipush 32, 2) := by decide +kernel
theorem dL_print_24 : decode cL_print 24 = .ok (.irem, 1) := by decide +kernel
theorem dL_print_25 : decode cL_print 25 = .ok (.invokevirtual 56, 3) := by decide +kernel
theorem dL_print_28 : decode cL_print 28 = .ok (.iadd, 1) := by decide +kernel
theorem dL_print_29 : decode cL_print 29 = .ok (.istore_n 1, 1) := by decide +kernel
theorem dL_print_30 : decode cL_print 30 = .ok (.iinc 2 3, 3) := by decide +kernel
theorem dL_print_33 : decode cL_print 33 = .ok (.goto (-28), 3) := by decide +kernel
theorem dL_print_36 : decode cL_print 36 = .ok (.iload_n 1, 1) := by decide +kernel
theorem dL_print_37 : decode cL_print 37 = .ok (.ireturn, 1) := by decide +kernel
set_option maxRecDepth 20000 in
theorem ggL_packs_X6_count : GoodIn wsL_packs wsX6_count := goodIn_r _ [5, 6, 7, 8, 9, 10, 11, 12, 13, 14, 15, 16, 17, 18, 19, 20, 21, 22, 23, 24, 25, 26, 27, 28, 29, 30, 31, 32, 33, 34, 35, 36, 37, 38, 39, 40, 41, 42, 43, 44, 45, 46, 47, 48, 49, 50, 51, 52, 53, 54, 55, 56, 57, 58, 59, 60, 61, 62, 63, 64, 65, 66, 67, 68, 69, 70, 71, 72, 73, 74, 75, 76, 77, 78, 79, 80, 81, 82, 83, 84, 85, 86, 87, 88, 89, 90, 91, 92, 93, 94, 95, 4, 96, 97, 98, 99, 100, 101, 102, 103, 104, 105, 106, 107, 108, 109, 110, 111, 112, 113, 114, 115, 116, 117, 118, 119, 120, 121, 122, 123, 124, 125, 126, 127, 128, 129, 130, 131, 132, 133, 134, 135, 136, 137, 138, 139, 140, 141, 142, 143, 144, 145, 146, 147, 148, 149, 150, 151, 152, 153, 154, 155, 156, 157, 158, 159, 160, 161, 162, 163, 164, 165, 166, 167, 168, 169, 170, 171, 319, 320, 321, 322, 323, 324, 325, 326, 327, 328, 329, 330, 331, 332, 333, 334, 335, 336, 337, 338, 339, 340, 341, 342, 343, 344, 345, 346, 347, 348, 349, 350, 351, 352] (by decide +kernel) (by decide +kernel)
set_option maxRecDepth 20000 in
theorem gL_packs_X6_count : GoodIn wsL_packs (wsV RL 28 RX6 yX6_count wsX6_count) := goodIn_app (goodIn_of _ (by decide +kernel)) ggL_packs_X6_count
set_option maxRecDepth 20000 in
theorem ggL_packs_L_print : GoodIn wsL_packs wsL_print := goodIn_r _ [175, 176, 177, 178, 4, 179, 10, 6, 11, 180, 181, 182, 183, 83, 84, 32, 85, 86, 87, 88, 89, 90, 34, 40, 35, 91, 92, 51, 93, 94, 41, 42, 43, 21, 44, 24, 25, 26, 27, 28, 184, 185, 186, 187, 95, 96, 188, 189, 190, 191, 101, 102, 192, 193, 194, 195, 196, 106, 197, 109, 110, 111, 112, 113, 114, 115, 116, 117, 118, 198, 199, 200, 201, 61, 62, 63, 64, 65, 66, 67, 68, 69, 70, 202, 203, 204, 205, 206, 319, 320, 321, 322, 323, 324, 325, 326, 327, 328, 329, 330, 331, 332, 333, 349, 350, 351, 352, 334, 335, 336] (by decide +kernel) (by decide +kernel)
set_option maxRecDepth 20000 in
theorem gL_packs_L_print : GoodIn wsL_packs (va_wsS RL 62 yL_print wsL_print) := goodIn_app (goodIn_of _ (by decide +kernel)) ggL_packs_L_print
set_option maxRecDepth 20000 in
theorem ggL_packs_X6_alike : GoodIn wsL_packs wsX6_alike := goodIn_r _ [210, 6, 7, 211, 212, 213, 4, 214, 8, 215, 216, 217, 106, 218, 109, 110, 111, 112, 113, 119, 120, 121, 122, 123, 124, 125, 126, 127, 128, 129, 130, 114, 115, 116, 117, 118, 319, 320, 321, 322, 323, 324, 325, 326, 327, 328, 329, 330, 331, 332, 333, 334, 335, 336] (by decide +kernel) (by decide +kernel)
set_option maxRecDepth 20000 in
theorem gL_packs_X6_alike : GoodIn wsL_packs (wsV RL 15 RX6 yX6_alike wsX6_alike) := goodIn_app (goodIn_of _ (by decide +kernel)) ggL_packs_X6_alike
set_option maxRecDepth 20000 in
theorem ggL_packs_X6_pack : GoodIn wsL_packs wsX6_pack := goodIn_r _ [222, 223, 14, 6, 224, 225, 226, 227, 228, 229, 230, 231, 232, 233, 234, 235, 236, 237, 238, 92, 51, 93, 239, 240, 241, 106, 242, 243, 216, 217, 218, 109, 110, 111, 112, 113, 119, 120, 121, 122, 123, 124, 125, 126, 127, 128, 129, 130, 114, 115, 116, 117, 118, 244, 245, 246, 247, 248, 249, 25, 26, 21, 27, 28, 250, 251, 252, 253, 254, 255, 256, 257, 258, 259, 260, 261, 262, 263, 264, 265, 266, 267, 268, 269, 270, 271, 272, 273, 274, 275, 276, 277, 278, 279, 280, 281, 23, 146, 282, 283, 284, 285, 206, 65, 70, 286, 287, 288, 289, 290, 291, 292, 293, 294, 295, 296, 297, 298, 299, 300, 301, 302, 303, 304, 305, 306, 307, 308, 309, 310, 319, 320, 321, 322, 323, 324, 353, 354, 355, 356, 325, 326, 327, 328, 329, 330, 331, 332, 333, 334, 335, 336, 337, 338, 339] (by decide +kernel) (by decide +kernel)
set_option maxRecDepth 20000 in
theorem gL_packs_X6_pack : GoodIn wsL_packs (wsV RL 66 RX6 yX6_pack wsX6_pack) := goodIn_app (goodIn_of _ (by decide +kernel)) ggL_packs_X6_pack
set_option maxRecDepth 20000 in
theorem ggL_packs_X6_undo : GoodIn wsL_packs wsX6_undo := goodIn_r _ [314, 14, 15, 6, 315, 316, 317, 262, 318, 264, 266, 267, 268, 269, 270, 265, 271, 272, 273, 274, 275, 276, 277, 21, 278, 279, 280, 281, 23, 146, 28, 282, 283, 284, 285, 206, 65, 70, 286, 287, 288, 106, 289, 290, 113, 291, 118, 319, 320, 321, 322, 323, 324, 337, 338, 339, 325, 326, 327, 328, 329, 330, 331, 332, 333, 334, 335, 336] (by decide +kernel) (by decide +kernel)
set_option maxRecDepth 20000 in
theorem gL_packs_X6_undo : GoodIn wsL_packs (wsV RL 70 RX6 yX6_undo wsX6_undo) := goodIn_app (goodIn_of _ (by decide +kernel)) ggL_packs_X6_undo
theorem dL_packs_0 : decode cL_packs 0 = .ok (.aload_n 0, 1) := by decide +kernel
theorem dL_packs_1 : decode cL_packs 1 = .ok (.iconst 0, 1) := by decide +kernel
theorem dL_packs_2 : decode cL_packs 2 = .ok (.invokevirtual 28, 3) := by decide +kernel
theorem dL_packs_5 : decode cL_packs 5 = .ok (.istore_n 2, 1) := by decide +kernel
theorem dL_packs_6 : decode cL_packs 6 = .ok (.aload_n 0, 1) := by decide +kernel
theorem dL_packs_7 : decode cL_packs 7 = .ok (.bipush 7, 2) := by decide +kernel
theorem dL_packs_9 : decode cL_packs 9 = .ok (.invokevirtual 28, 3) := by decide +kernel
theorem dL_packs_12 : decode cL_packs 12 = .ok (.istore_n 3, 1) := by decide +kernel
theorem dL_packs_13 : decode cL_packs 13 = .ok (.aload_n 0, 1) := by decide +kernel
theorem dL_packs_14 : decode cL_packs 14 = .ok (.invokestatic 62, 3) := by decide +kernel
theorem dL_packs_17 : decode cL_packs 17 = .ok (.istore 4, 2) := by decide +kernel
theorem dL_packs_19 : decode cL_packs 19 = .ok (.iconst 0, 1) := by decide +kernel
theorem dL_packs_20 : decode cL_packs 20 = .ok (.istore 5, 2) := by decide +kernel
theorem dL_packs_22 : decode cL_packs 22 = .ok (.iconst 0, 1) := by decide +kernel
theorem dL_packs_23 : decode cL_packs 23 = .ok (.istore 6, 2) := by decide +kernel
theorem dL_packs_25 : decode cL_packs 25 = .ok (.iload 6, 2) := by decide +kernel
theorem dL_packs_27 : decode cL_packs 27 = .ok (.iload_n 2, 1) := by decide +kernel
theorem dL_packs_28 : decode cL_packs 28 = .ok (.if_icmp .ge 66, 3) := by decide +kernel
theorem dL_packs_31 : decode cL_packs 31 = .ok (.iconst 0, 1) := by decide +kernel
theorem dL_packs_32 : decode cL_packs 32 = .ok (.istore 7, 2) := by decide +kernel
theorem dL_packs_34 : decode cL_packs 34 = .ok (.iconst 0, 1) := by decide +kernel
theorem dL_packs_35 : decode cL_packs 35 = .ok (.istore 8, 2) := by decide +kernel
theorem dL_packs_37 : decode cL_packs 37 = .ok (.iload 8, 2) := by decide +kernel
theorem dL_packs_39 : decode cL_packs 39 = .ok (.iload 6, 2) := by decide +kernel
theorem dL_packs_41 : decode cL_packs 41 = .ok (.if_icmp .ge 32, 3) := by decide +kernel
theorem dL_packs_44 : decode cL_packs 44 = .ok (.iload 7, 2) := by decide +kernel
theorem dL_packs_46 : decode cL_packs 46 = .ok (.ifCond .ne 14, 3) := by decide +kernel
theorem dL_packs_49 : decode cL_packs 49 = .ok (.aload_n 0, 1) := by decide +kernel
theorem dL_packs_50 : decode cL_packs 50 = .ok (.iload 8, 2) := by decide +kernel
theorem dL_packs_52 : decode cL_packs 52 = .ok (.iload 6, 2) := by decide +kernel
theorem dL_packs_54 : decode cL_packs 54 = .ok (.invokevirtual 15, 3) := by decide +kernel
theorem dL_packs_57 : decode cL_packs 57 = .ok (.ifCond .lt 7, 3) := by decide +kernel
theorem dL_packs_60 : decode cL_packs 60 = .ok (.iconst 1, 1) := by decide +kernel
theorem dL_packs_61 : decode cL_packs 61 = .ok (.goto 4, 3) := by decide +kernel
theorem dL_packs_64 : decode cL_packs 64 = .ok (.iconst 0, 1) := by decide +kernel
theorem dL_packs_65 : decode cL_packs 65 = .ok (.istore 7, 2) := by decide +kernel
theorem dL_packs_67 : decode cL_packs 67 = .ok (.iinc 8 1, 3) := by decide +kernel
theorem dL_packs_70 : decode cL_packs 70 = .ok (.goto (-33), 3) := by decide +kernel
theorem dL_packs_73 : decode cL_packs 73 = .ok (.iload 5, 2) := by decide +kernel
theorem dL_packs_75 : decode cL_packs 75 = .ok (.iload 7, 2) := by decide +kernel
theorem dL_packs_77 : decode cL_packs 77 = .ok (.ifCond .eq 7, 3) := by decide +kernel
theorem dL_packs_80 : decode cL_packs 80 = .ok (.iconst 1, 1) := by decide +kernel
theorem dL_packs_81 : decode cL_packs 81 = .ok (.goto 4, 3) := by decide +kernel
theorem dL_packs_84 : decode cL_packs 84 = .ok (.iconst 0, 1) := by decide +kernel
theorem dL_packs_85 : decode cL_packs 85 = .ok (.iadd, 1) := by decide +kernel
theorem dL_packs_86 : decode cL_packs 86 = .ok (.istore 5, 2) := by decide +kernel
theorem dL_packs_88 : decode cL_packs 88 = .ok (.iinc 6 1, 3) := by decide +kernel
theorem dL_packs_91 : decode cL_packs 91 = .ok (.goto (-66), 3) := by decide +kernel
theorem dL_packs_94 : decode cL_packs 94 = .ok (.aload_n 0, 1) := by decide +kernel
theorem dL_packs_95 : decode cL_packs 95 = .ok (.iload_n 1, 1) := by decide +kernel
theorem dL_packs_96 : decode cL_packs 96 = .ok (.invokevirtual 66, 3) := by decide +kernel
theorem dL_packs_99 : decode cL_packs 99 = .ok (.istore 6, 2) := by decide +kernel
theorem dL_packs_101 : decode cL_packs 101 = .ok (.iload 6, 2) := by decide +kernel
theorem dL_packs_103 : decode cL_packs 103 = .ok (.bipush (-5), 2) := by decide +kernel
theorem dL_packs_105 : decode cL_packs 105 = .ok (.if_icmp .ne 7, 3) := by decide +kernel
theorem dL_packs_108 : decode cL_packs 108 = .ok (.iconst 0, 1) := by decide +kernel
theorem dL_packs_109 : decode cL_packs 109 = .ok (.goto 5, 3) := by decide +kernel
theorem dL_packs_112 : decode cL_packs 112 = .ok (.iload 6, 2) := by decide +kernel
theorem dL_packs_114 : decode cL_packs 114 = .ok (.istore 7, 2) := by decide +kernel
theorem dL_packs_116 : decode cL_packs 116 = .ok (.aload_n 0, 1) := by decide +kernel
theorem dL_packs_117 : decode cL_packs 117 = .ok (.iconst 0, 1) := by decide +kernel
theorem dL_packs_118 : decode cL_packs 118 = .ok (.invokevirtual 28, 3) := by decide +kernel
theorem dL_packs_121 : decode cL_packs 121 = .ok (.iload_n 2, 1) := by decide +kernel
theorem dL_packs_122 : decode cL_packs 122 = .ok (.iload 7, 2) := by decide +kernel
theorem dL_packs_124 : decode cL_packs 124 = .ok (.isub, 1) := by decide +kernel
theorem dL_packs_125 : decode cL_packs 125 = .ok (.if_icmp .ne 52, 3) := by decide +kernel
theorem dL_packs_128 : decode cL_packs 128 = .ok (.aload_n 0, 1) := by decide +kernel
theorem dL_packs_129 : decode cL_packs 129 = .ok (.invokestatic 62, 3) := by decide +kernel
theorem dL_packs_132 : decode cL_packs 132 = .ok (.iload 4, 2) := by decide +kernel
theorem dL_packs_134 : decode cL_packs 134 = .ok (.if_icmp .ne 43, 3) := by decide +kernel
theorem dL_packs_137 : decode cL_packs 137 = .ok (.iload_n 1, 1) := by decide +kernel
theorem dL_packs_138 : decode cL_packs 138 = .ok (.ifCond .ne 10, 3) := by decide +kernel
theorem dL_packs_141 : decode cL_packs 141 = .ok (.iload 7, 2) := by decide +kernel
theorem dL_packs_143 : decode cL_packs 143 = .ok (.iload 5, 2) := by decide +kernel
theorem dL_packs_145 : decode cL_packs 145 = .ok (.if_icmp .ne 32, 3) := by decide +kernel
theorem dL_packs_148 : decode cL_packs 148 = .ok (.iload 7, 2) := by decide +kernel
theorem dL_packs_150 : decode cL_packs 150 = .ok (.iload 5, 2) := by decide +kernel
theorem dL_packs_152 : decode cL_packs 152 = .ok (.if_icmp .lt 25, 3) := by decide +kernel
theorem dL_packs_155 : decode cL_packs 155 = .ok (.iload 7, 2) := by decide +kernel
theorem dL_packs_157 : decode cL_packs 157 = .ok (.iload 5, 2) := by decide +kernel
theorem dL_packs_159 : decode cL_packs 159 = .ok (.iload_n 3, 1) := by decide +kernel
theorem dL_packs_160 : decode cL_packs 160 = .ok (.iadd, 1) := by decide +kernel
theorem dL_packs_161 : decode cL_packs 161 = .ok (.if_icmp .gt 16, 3) := by decide +kernel
theorem dL_packs_164 : decode cL_packs 164 = .ok (.iload_n 1, 1) := by decide +kernel
theorem dL_packs_165 : decode cL_packs 165 = .ok (.ifCond .eq 14, 3) := by decide +kernel
theorem dL_packs_168 : decode cL_packs 168 = .ok (.aload_n 0, 1) := by decide +kernel
theorem dL_packs_169 : decode cL_packs 169 = .ok (.bipush 7, 2) := by decide +kernel
theorem dL_packs_171 : decode cL_packs 171 = .ok (.invokevirtual 28, 3) := by decide +kernel
theorem dL_packs_174 : decode cL_packs 174 = .ok (.ifCond .eq 5, 3) := by decide +kernel
theorem dL_packs_177 : decode cL_packs 177 = .ok (.iconst 0, 1) := by decide +kernel
theorem dL_packs_178 : decode cL_packs 178 = .ok (.ireturn, 1) := by decide +kernel
theorem dL_packs_179 : decode cL_packs 179 = .ok (.iconst 0, 1) := by decide +kernel
theorem dL_packs_180 : decode cL_packs 180 = .ok (.istore 8, 2) := by decide +kernel
theorem dL_packs_182 : decode cL_packs 182 = .ok (.iload 8, 2) := by decide +kernel
theorem dL_packs_184 : decode cL_packs 184 = .ok (.aload_n 0, 1) := by decide +kernel
theorem dL_packs_185 : decode cL_packs 185 = .ok (.iconst 0, 1) := by decide +kernel
theorem dL_packs_186 : decode cL_packs 186 = .ok (.invokevirtual 28, 3) := by decide +kernel
theorem dL_packs_189 : decode cL_packs 189 = .ok (.if_icmp .ge 40, 3) := by decide +kernel
theorem dL_packs_192 : decode cL_packs 192 = .ok (.iconst 0, 1) := by decide +kernel
theorem dL_packs_193 : decode cL_packs 193 = .ok (.istore 9, 2) := by decide +kernel
theorem dL_packs_195 : decode cL_packs 195 = .ok (.iload 9, 2) := by decide +kernel
theorem dL_packs_197 : decode cL_packs 197 = .ok (.iload 8, 2) := by decide +kernel
theorem dL_packs_199 : decode cL_packs 199 = .ok (.if_icmp .ge 24, 3) := by decide +kernel
theorem dL_packs_202 : decode cL_packs 202 = .ok (.aload_n 0, 1) := by decide +kernel
theorem dL_packs_203 : decode cL_packs 203 = .ok (.iload 9, 2) := by decide +kernel
theorem dL_packs_205 : decode cL_packs 205 = .ok (.iload 8, 2) := by decide +kernel
theorem dL_packs_207 : decode cL_packs 207 = .ok (.invokevirtual 15, 3) := by decide +kernel
theorem dL_packs_210 : decode cL_packs 210 = .ok (.bipush (-5), 2) := by decide +kernel
theorem dL_packs_212 : decode cL_packs 212 = .ok (.if_icmp .eq 5, 3) := by decide +kernel
theorem dL_packs_215 : decode cL_packs 215 = .ok (.iconst 0, 1) := by decide +kernel
theorem dL_packs_216 : decode cL_packs 216 = .ok (.ireturn, 1) := by decide +kernel
theorem dL_packs_217 : decode cL_packs 217 = .ok (.iinc 9 1, 3) := by decide +kernel
theorem dL_packs_220 : decode cL_packs 220 = .ok (.goto (-25), 3) := by decide +kernel
theorem dL_packs_223 : decode cL_packs 223 = .ok (.iinc 8 1, 3) := by decide +kernel
theorem dL_packs_226 : decode cL_packs 226 = .ok (.goto (-44), 3) := by decide +kernel
theorem dL_packs_229 : decode cL_packs 229 = .ok (.aload_n 0, 1) := by decide +kernel
theorem dL_packs_230 : decode cL_packs 230 = .ok (.iload_n 1, 1) := by decide +kernel
theorem dL_packs_231 : decode cL_packs 231 = .ok (.invokevirtual 66, 3) := by decide +kernel
theorem dL_packs_234 : decode cL_packs 234 = .ok (.bipush (-5), 2) := by decide +kernel
theorem dL_packs_236 : decode cL_packs 236 = .ok (.if_icmp .ne 37, 3) := by decide +kernel
theorem dL_packs_239 : decode cL_packs 239 = .ok (.iload 7, 2) := by decide +kernel
theorem dL_packs_241 : decode cL_packs 241 = .ok (.ifCond .eq 28, 3) := by decide +kernel
theorem dL_packs_244 : decode cL_packs 244 = .ok (.aload_n 0, 1) := by decide +kernel
theorem dL_packs_245 : decode cL_packs 245 = .ok (.invokevirtual 70, 3) := by decide +kernel
theorem dL_packs_248 : decode cL_packs 248 = .ok (.ifCond .lt 25, 3) := by decide +kernel
theorem dL_packs_251 : decode cL_packs 251 = .ok (.aload_n 0, 1) := by decide +kernel
theorem dL_packs_252 : decode cL_packs 252 = .ok (.iconst 0, 1) := by decide +kernel
theorem dL_packs_253 : decode cL_packs 253 = .ok (.invokevirtual 28, 3) := by decide +kernel
theorem dL_packs_256 : decode cL_packs 256 = .ok (.iload_n 2, 1) := by decide +kernel
theorem dL_packs_257 : decode cL_packs 257 = .ok (.if_icmp .ne 16, 3) := by decide +kernel
theorem dL_packs_260 : decode cL_packs 260 = .ok (.aload_n 0, 1) := by decide +kernel
theorem dL_packs_261 : decode cL_packs 261 = .ok (.invokestatic 62, 3) := by decide +kernel
theorem dL_packs_264 : decode cL_packs 264 = .ok (.iload 4, 2) := by decide +kernel
theorem dL_packs_266 : decode cL_packs 266 = .ok (.if_icmp .ne 7, 3) := by decide +kernel
theorem dL_packs_269 : decode cL_packs 269 = .ok (.iconst 1, 1) := by decide +kernel
theorem dL_packs_270 : decode cL_packs 270 = .ok (.goto 4, 3) := by decide +kernel
theorem dL_packs_273 : decode cL_packs 273 = .ok (.iconst 0, 1) := by decide +kernel
theorem dL_packs_274 : decode cL_packs 274 = .ok (.ireturn, 1) := by decide +kernel
set_option maxRecDepth 20000 in
theorem ggL_draws_L_low : GoodIn wsL_draws wsL_low := goodIn_r _ [5, 6] (by decide +kernel) (by decide +kernel)
set_option maxRecDepth 20000 in
theorem gL_draws_L_low : GoodIn wsL_draws (va_wsS RL 74 yL_low wsL_low) := goodIn_app (goodIn_of _ (by decide +kernel)) ggL_draws_L_low
set_option maxRecDepth 20000 in
theorem ggL_draws_X6_clearText : GoodIn wsL_draws wsX6_clearText := goodIn_r _ [11, 12, 13, 289, 290, 291, 292, 293, 294, 295, 296, 297, 298, 299, 300, 301, 302, 303] (by decide +kernel) (by decide +kernel)
set_option maxRecDepth 20000 in
theorem gL_draws_X6_clearText : GoodIn wsL_draws (wsV RL 77 RX6 yX6_clearText wsX6_clearText) := goodIn_app (goodIn_of _ (by decide +kernel)) ggL_draws_X6_clearText
set_option maxRecDepth 20000 in
theorem ggL_draws_X6_draw : GoodIn wsL_draws wsX6_draw := goodIn_r _ [17, 12, 18, 19, 20, 21, 22, 23, 24, 25, 26, 10, 27, 28, 29, 30, 31, 32, 33, 34, 35, 36, 37, 38, 39, 40, 41, 42, 43, 44, 45, 46, 47, 48, 49, 50, 51, 52, 53, 54, 55, 56, 57, 58, 59, 60, 61, 62, 63, 64, 65, 66, 67, 68, 69, 70, 71, 72, 73, 74, 75, 76, 77, 78, 79, 80, 81, 82, 83, 84, 85, 86, 87, 88, 89, 90, 91, 92, 93, 94, 95, 96, 97, 98, 99, 100, 101, 102, 103, 104, 105, 106, 107, 108, 109, 110, 111, 112, 113, 114, 115, 116, 117, 118, 119, 120, 121, 122, 289, 290, 291, 292, 293, 294, 295, 296, 297, 298, 299, 300, 301, 302, 303, 304, 305, 306, 307, 308, 309, 310, 311, 312, 313, 314, 315, 316, 317, 318] (by decide +kernel) (by decide +kernel)
set_option maxRecDepth 20000 in
theorem gL_draws_X6_draw : GoodIn wsL_draws (wsV RL 80 RX6 yX6_draw wsX6_draw) := goodIn_app (goodIn_of _ (by decide +kernel)) ggL_draws_X6_draw
set_option maxRecDepth 20000 in
theorem ggL_draws_X6_count : GoodIn wsL_draws wsX6_count := goodIn_r _ [126, 19, 21, 28, 127, 128, 129, 130, 131, 18, 132, 12, 13, 133, 134, 135, 82, 136, 87, 137, 138, 139, 140, 89, 141, 142, 143, 144, 145, 146, 147, 148, 149, 150, 151, 152, 153, 154, 155, 156, 157, 158, 159, 160, 161, 162, 163, 164, 165, 166, 167, 168, 169, 170, 171, 172, 173, 174, 175, 176, 95, 177, 178, 179, 180, 96, 181, 182, 183, 184, 185, 186, 187, 188, 189, 190, 191, 192, 193, 194, 195, 196, 197, 198, 199, 200, 201, 202, 203, 204, 205, 10, 206, 207, 208, 209, 210, 211, 212, 213, 214, 215, 100, 216, 217, 111, 112, 113, 114, 103, 115, 116, 117, 118, 105, 218, 219, 220, 221, 222, 223, 224, 225, 226, 227, 228, 229, 230, 231, 232, 233, 234, 235, 236, 237, 238, 239, 240, 241, 242, 243, 244, 88, 245, 246, 247, 248, 249, 250, 251, 252, 253, 254, 255, 256, 257, 258, 259, 260, 261, 262, 263, 264, 265, 266, 267, 268, 269, 289, 290, 291, 292, 293, 294, 304, 305, 306, 307, 308, 309, 310, 311, 312, 313, 314, 315, 316, 317, 318, 295, 296, 297, 298, 299, 300, 301, 302, 303, 319, 320, 321, 322] (by decide +kernel) (by decide +kernel)
set_option maxRecDepth 20000 in
theorem gL_draws_X6_count : GoodIn wsL_draws (wsV RL 28 RX6 yX6_count wsX6_count) := goodIn_app (goodIn_of _ (by decide +kernel)) ggL_draws_X6_count
set_option maxRecDepth 20000 in
theorem ggL_draws_X6_type : GoodIn wsL_draws wsX6_type := goodIn_r _ [273, 12, 13, 274, 275, 276, 32, 277, 40, 41, 289, 290, 291, 292, 293, 294, 295, 296, 297, 298, 299, 300, 301, 302, 303] (by decide +kernel) (by decide +kernel)
set_option maxRecDepth 20000 in
theorem gL_draws_X6_type : GoodIn wsL_draws (wsV RL 83 RX6 yX6_type wsX6_type) := goodIn_app (goodIn_of _ (by decide +kernel)) ggL_draws_X6_type
set_option maxRecDepth 20000 in
theorem ggL_draws_X6_pixel : GoodIn wsL_draws wsX6_pixel := goodIn_r _ [281, 19, 21, 24, 25, 26, 10, 27, 28, 282, 283, 284, 285, 286, 287, 100, 288, 111, 112, 113, 114, 103, 115, 116, 117, 118, 105, 289, 290, 291, 292, 293, 294, 304, 305, 306, 307, 308, 309, 310, 311, 312, 313, 314, 315] (by decide +kernel) (by decide +kernel)
set_option maxRecDepth 20000 in
theorem gL_draws_X6_pixel : GoodIn wsL_draws (wsV RL 9 RX6 yX6_pixel wsX6_pixel) := goodIn_app (goodIn_of _ (by decide +kernel)) ggL_draws_X6_pixel
theorem dL_draws_0 : decode cL_draws 0 = .ok (.bipush 64, 2) := by decide +kernel
theorem dL_draws_2 : decode cL_draws 2 = .ok (.newarray .int, 2) := by decide +kernel
theorem dL_draws_4 : decode cL_draws 4 = .ok (.astore 4, 2) := by decide +kernel
theorem dL_draws_6 : decode cL_draws 6 = .ok (.iconst 1, 1) := by decide +kernel
theorem dL_draws_7 : decode cL_draws 7 = .ok (.iload_n 2, 1) := by decide +kernel
theorem dL_draws_8 : decode cL_draws 8 = .ok (.iconst 4, 1) := by decide +kernel
theorem dL_draws_9 : decode cL_draws 9 = .ok (.invokestatic 74, 3) := by decide +kernel
theorem dL_draws_12 : decode cL_draws 12 = .ok (.iadd, 1) := by decide +kernel
theorem dL_draws_13 : decode cL_draws 13 = .ok (.istore 5, 2) := by decide +kernel
theorem dL_draws_15 : decode cL_draws 15 = .ok (.iconst 0, 1) := by decide +kernel
theorem dL_draws_16 : decode cL_draws 16 = .ok (.istore 6, 2) := by decide +kernel
theorem dL_draws_18 : decode cL_draws 18 = .ok (.aload_n 0, 1) := by decide +kernel
theorem dL_draws_19 : decode cL_draws 19 = .ok (.invokevirtual 77, 3) := by decide +kernel
theorem dL_draws_22 : decode cL_draws 22 = .ok (.pop, 1) := by decide +kernel
theorem dL_draws_23 : decode cL_draws 23 = .ok (.aload_n 0, 1) := by decide +kernel
theorem dL_draws_24 : decode cL_draws 24 = .ok (.iload_n 1, 1) := by decide +kernel
theorem dL_draws_25 : decode cL_draws 25 = .ok (.invokevirtual 80, 3) := by decide +kernel
theorem dL_draws_28 : decode cL_draws 28 = .ok (.bipush (-100), 2) := by decide +kernel
theorem dL_draws_30 : decode cL_draws 30 = .ok (.if_icmp .ne 20, 3) := by decide +kernel
theorem dL_draws_33 : decode cL_draws 33 = .ok (.aload_n 0, 1) := by decide +kernel
theorem dL_draws_34 : decode cL_draws 34 = .ok (.aload_n 0, 1) := by decide +kernel
theorem dL_draws_35 : decode cL_draws 35 = .ok (.iconst 0, 1) := by decide +kernel
theorem dL_draws_36 : decode cL_draws 36 = .ok (.invokevirtual 28, 3) := by decide +kernel
theorem dL_draws_39 : decode cL_draws 39 = .ok (.invokevirtual 80, 3) := by decide +kernel
theorem dL_draws_42 : decode cL_draws 42 = .ok (.iconst (-1), 1) := by decide +kernel
theorem dL_draws_43 : decode cL_draws 43 = .ok (.if_icmp .ne 7, 3) := by decide +kernel
theorem dL_draws_46 : decode cL_draws 46 = .ok (.iconst 1, 1) := by decide +kernel
theorem dL_draws_47 : decode cL_draws 47 = .ok (.goto 4, 3) := by decide +kernel
theorem dL_draws_50 : decode cL_draws 50 = .ok (.iconst 0, 1) := by decide +kernel
theorem dL_draws_51 : decode cL_draws 51 = .ok (.istore 7, 2) := by decide +kernel
theorem dL_draws_53 : decode cL_draws 53 = .ok (.iconst 0, 1) := by decide +kernel
theorem dL_draws_54 : decode cL_draws 54 = .ok (.istore 8, 2) := by decide +kernel
theorem dL_draws_56 : decode cL_draws 56 = .ok (.iload 8, 2) := by decide +kernel
theorem dL_draws_58 : decode cL_draws 58 = .ok (.iload 5, 2) := by decide +kernel
theorem dL_draws_60 : decode cL_draws 60 = .ok (.if_icmp .ge 183, 3) := by decide +kernel
theorem dL_draws_63 : decode cL_draws 63 = .ok (.iload 8, 2) := by decide +kernel
theorem dL_draws_65 : decode cL_draws 65 = .ok (.ifCond .le 26, 3) := by decide +kernel
theorem dL_draws_68 : decode cL_draws 68 = .ok (.aload_n 0, 1) := by decide +kernel
theorem dL_draws_69 : decode cL_draws 69 = .ok (.bipush 47, 2) := by decide +kernel
theorem dL_draws_71 : decode cL_draws 71 = .ok (.invokevirtual 83, 3) := by decide +kernel
theorem dL_draws_74 : decode cL_draws 74 = .ok (.istore 6, 2) := by decide +kernel
theorem dL_draws_76 : decode cL_draws 76 = .ok (.aload_n 0, 1) := by decide +kernel
theorem dL_draws_77 : decode cL_draws 77 = .ok (.iload_n 1, 1) := by decide +kernel
theorem dL_draws_78 : decode cL_draws 78 = .ok (.invokevirtual 80, 3) := by decide +kernel
theorem dL_draws_81 : decode cL_draws 81 = .ok (.bipush (-100), 2) := by decide +kernel
theorem dL_draws_83 : decode cL_draws 83 = .ok (.iload 6, 2) := by decide +kernel
theorem dL_draws_85 : decode cL_draws 85 = .ok (.isub, 1) := by decide +kernel
theorem dL_draws_86 : decode cL_draws 86 = .ok (.if_icmp .eq 5, 3) := by decide +kernel
theorem dL_draws_89 : decode cL_draws 89 = .ok (.iconst 0, 1) := by decide +kernel
theorem dL_draws_90 : decode cL_draws 90 = .ok (.ireturn, 1) := by decide +kernel
theorem dL_draws_91 : decode cL_draws 91 = .ok (.iconst 0, 1) := by decide +kernel
theorem dL_draws_92 : decode cL_draws 92 = .ok (.istore 9, 2) := by decide +kernel
theorem dL_draws_94 : decode cL_draws 94 = .ok (.iload 9, 2) := by decide +kernel
theorem dL_draws_96 : decode cL_draws 96 = .ok (.bipush 8, 2) := by decide +kernel
theorem dL_draws_98 : decode cL_draws 98 = .ok (.if_icmp .ge 139, 3) := by decide +kernel
theorem dL_draws_101 : decode cL_draws 101 = .ok (.iload_n 2, 1) := by decide +kernel
theorem dL_draws_102 : decode cL_draws 102 = .ok (.iload 9, 2) := by decide +kernel
theorem dL_draws_104 : decode cL_draws 104 = .ok (.ishr, 1) := by decide +kernel
theorem dL_draws_105 : decode cL_draws 105 = .ok (.iconst 4, 1) := by decide +kernel
theorem dL_draws_106 : decode cL_draws 106 = .ok (.invokestatic 74, 3) := by decide +kernel
theorem dL_draws_109 : decode cL_draws 109 = .ok (.istore 10, 2) := by decide +kernel
theorem dL_draws_111 : decode cL_draws 111 = .ok (.iconst 1, 1) := by decide +kernel
theorem dL_draws_112 : decode cL_draws 112 = .ok (.iload_n 3, 1) := by decide +kernel
theorem dL_draws_113 : decode cL_draws 113 = .ok (.iload 8, 2) := by decide +kernel
theorem dL_draws_115 : decode cL_draws 115 = .ok (.iload 9, 2) := by decide +kernel
theorem dL_draws_117 : decode cL_draws 117 = .ok (.iadd, 1) := by decide +kernel
theorem dL_draws_118 : decode cL_draws 118 = .ok (.ishr, 1) := by decide +kernel
theorem dL_draws_119 : decode cL_draws 119 = .ok (.bipush 8, 2) := by decide +kernel
theorem dL_draws_121 : decode cL_draws 121 = .ok (.iload 9, 2) := by decide +kernel
theorem dL_draws_123 : decode cL_draws 123 = .ok (.isub, 1) := by decide +kernel
theorem dL_draws_124 : decode cL_draws 124 = .ok (.invokestatic 74, 3) := by decide +kernel
theorem dL_draws_127 : decode cL_draws 127 = .ok (.iadd, 1) := by decide +kernel
theorem dL_draws_128 : decode cL_draws 128 = .ok (.istore 11, 2) := by decide +kernel
theorem dL_draws_130 : decode cL_draws 130 = .ok (.aload_n 0, 1) := by decide +kernel
theorem dL_draws_131 : decode cL_draws 131 = .ok (.iload 10, 2) := by decide +kernel
theorem dL_draws_133 : decode cL_draws 133 = .ok (.ifCond .ne 8, 3) := by decide +kernel
theorem dL_draws_136 : decode cL_draws 136 = .ok (.bipush 46, 2) := by decide +kernel
theorem dL_draws_138 : decode cL_draws 138 = .ok (.goto 9, 3) := by decide +kernel
theorem dL_draws_141 : decode cL_draws 141 = .ok (.bipush 48, 2) := by decide +kernel
theorem dL_draws_143 : decode cL_draws 143 = .ok (.iload 10, 2) := by decide +kernel
theorem dL_draws_145 : decode cL_draws 145 = .ok (.iadd, 1) := by decide +kernel
theorem dL_draws_146 : decode cL_draws 146 = .ok (.i2c, 1) := by decide +kernel
theorem dL_draws_147 : decode cL_draws 147 = .ok (.invokevirtual 83, 3) := by decide +kernel
theorem dL_draws_150 : decode cL_draws 150 = .ok (.istore 6, 2) := by decide +kernel
theorem dL_draws_152 : decode cL_draws 152 = .ok (.iload 11, 2) := by decide +kernel
theorem dL_draws_154 : decode cL_draws 154 = .ok (.iconst 1, 1) := by decide +kernel
theorem dL_draws_155 : decode cL_draws 155 = .ok (.if_icmp .le 38, 3) := by decide +kernel
theorem dL_draws_158 : decode cL_draws 158 = .ok (.aload_n 0, 1) := by decide +kernel
theorem dL_draws_159 : decode cL_draws 159 = .ok (.bipush 120, 2) := by decide +kernel
theorem dL_draws_161 : decode cL_draws 161 = .ok (.invokevirtual 83, 3) := by decide +kernel
theorem dL_draws_164 : decode cL_draws 164 = .ok (.istore 6, 2) := by decide +kernel
theorem dL_draws_166 : decode cL_draws 166 = .ok (.aload_n 0, 1) := by decide +kernel
theorem dL_draws_167 : decode cL_draws 167 = .ok (.iload_n 1, 1) := by decide +kernel
theorem dL_draws_168 : decode cL_draws 168 = .ok (.invokevirtual 80, 3) := by decide +kernel
theorem dL_draws_171 : decode cL_draws 171 = .ok (.bipush (-100), 2) := by decide +kernel
theorem dL_draws_173 : decode cL_draws 173 = .ok (.iload 6, 2) := by decide +kernel
theorem dL_draws_175 : decode cL_draws 175 = .ok (.isub, 1) := by decide +kernel
theorem dL_draws_176 : decode cL_draws 176 = .ok (.if_icmp .eq 5, 3) := by decide +kernel
theorem dL_draws_179 : decode cL_draws 179 = .ok (.iconst 0, 1) := by decide +kernel
theorem dL_draws_180 : decode cL_draws 180 = .ok (.ireturn, 1) := by decide +kernel
theorem dL_draws_181 : decode cL_draws 181 = .ok (.aload_n 0, 1) := by decide +kernel
theorem dL_draws_182 : decode cL_draws 182 = .ok (.bipush 48, 2) := by decide +kernel
theorem dL_draws_184 : decode cL_draws 184 = .ok (.iload 11, 2) := by decide +kernel
theorem dL_draws_186 : decode cL_draws 186 = .ok (.iadd, 1) := by decide +kernel
theorem dL_draws_187 : decode cL_draws 187 = .ok (.i2c, 1) := by decide +kernel
theorem dL_draws_188 : decode cL_draws 188 = .ok (.invokevirtual 83, 3) := by decide +kernel
theorem dL_draws_191 : decode cL_draws 191 = .ok (.istore 6, 2) := by decide +kernel
theorem dL_draws_193 : decode cL_draws 193 = .ok (.iconst 0, 1) := by decide +kernel
theorem dL_draws_194 : decode cL_draws 194 = .ok (.istore 12, 2) := by decide +kernel
theorem dL_draws_196 : decode cL_draws 196 = .ok (.iload 12, 2) := by decide +kernel
theorem dL_draws_198 : decode cL_draws 198 = .ok (.iload 11, 2) := by decide +kernel
theorem dL_draws_200 : decode cL_draws 200 = .ok (.if_icmp .ge 25, 3) := by decide +kernel
theorem dL_draws_203 : decode cL_draws 203 = .ok (.aload 4, 2) := by decide +kernel
theorem dL_draws_205 : decode cL_draws 205 = .ok (.bipush 8, 2) := by decide +kernel
theorem dL_draws_207 : decode cL_draws 207 = .ok (.iload 8, 2) := by decide +kernel
theorem dL_draws_209 : decode cL_draws 209 = .ok (.imul, 1) := by decide +kernel
theorem dL_draws_210 : decode cL_draws 210 = .ok (.iload 9, 2) := by decide +kernel
theorem dL_draws_212 : decode cL_draws 212 = .ok (.iadd, 1) := by decide +kernel
theorem dL_draws_213 : decode cL_draws 213 = .ok (.iload 10, 2) := by decide +kernel
theorem dL_draws_215 : decode cL_draws 215 = .ok (.iastore, 1) := by decide +kernel
theorem dL_draws_216 : decode cL_draws 216 = .ok (.iinc 9 1, 3) := by decide +kernel
theorem dL_draws_219 : decode cL_draws 219 = .ok (.iinc 12 1, 3) := by decide +kernel
theorem dL_draws_222 : decode cL_draws 222 = .ok (.goto (-26), 3) := by decide +kernel
theorem dL_draws_225 : decode cL_draws 225 = .ok (.iload 6, 2) := by decide +kernel
theorem dL_draws_227 : decode cL_draws 227 = .ok (.bipush 50, 2) := by decide +kernel
theorem dL_draws_229 : decode cL_draws 229 = .ok (.if_icmp .le 5, 3) := by decide +kernel
theorem dL_draws_232 : decode cL_draws 232 = .ok (.iconst 1, 1) := by decide +kernel
theorem dL_draws_233 : decode cL_draws 233 = .ok (.ireturn, 1) := by decide +kernel
theorem dL_draws_234 : decode cL_draws 234 = .ok (.goto (-140), 3) := by decide +kernel
theorem dL_draws_237 : decode cL_draws 237 = .ok (.iinc 8 1, 3) := by decide +kernel
theorem dL_draws_240 : decode cL_draws 240 = .ok (.goto (-184), 3) := by decide +kernel
theorem dL_draws_243 : decode cL_draws 243 = .ok (.iload 7, 2) := by decide +kernel
theorem dL_draws_245 : decode cL_draws 245 = .ok (.ifCond .eq 13, 3) := by decide +kernel
theorem dL_draws_248 : decode cL_draws 248 = .ok (.aload_n 0, 1) := by decide +kernel
theorem dL_draws_249 : decode cL_draws 249 = .ok (.iload_n 1, 1) := by decide +kernel
theorem dL_draws_250 : decode cL_draws 250 = .ok (.invokevirtual 80, 3) := by decide +kernel
theorem dL_draws_253 : decode cL_draws 253 = .ok (.iload 5, 2) := by decide +kernel
theorem dL_draws_255 : decode cL_draws 255 = .ok (.if_icmp .eq 5, 3) := by decide +kernel
theorem dL_draws_258 : decode cL_draws 258 = .ok (.iconst 0, 1) := by decide +kernel
theorem dL_draws_259 : decode cL_draws 259 = .ok (.ireturn, 1) := by decide +kernel
theorem dL_draws_260 : decode cL_draws 260 = .ok (.iconst 0, 1) := by decide +kernel
theorem dL_draws_261 : decode cL_draws 261 = .ok (.istore 8, 2) := by decide +kernel
theorem dL_draws_263 : decode cL_draws 263 = .ok (.iload 8, 2) := by decide +kernel
theorem dL_draws_265 : decode cL_draws 265 = .ok (.bipush 8, 2) := by decide +kernel
theorem dL_draws_267 : decode cL_draws 267 = .ok (.iload 5, 2) := by decide +kernel
theorem dL_draws_269 : decode cL_draws 269 = .ok (.imul, 1) := by decide +kernel
theorem dL_draws_270 : decode cL_draws 270 = .ok (.if_icmp .ge 34, 3) := by decide +kernel
theorem dL_draws_273 : decode cL_draws 273 = .ok (.aload_n 0, 1) := by decide +kernel
theorem dL_draws_274 : decode cL_draws 274 = .ok (.iload_n 1, 1) := by decide +kernel
theorem dL_draws_275 : decode cL_draws 275 = .ok (.iload 8, 2) := by decide +kernel
theorem dL_draws_277 : decode cL_draws 277 = .ok (.bipush 8, 2) := by decide +kernel
theorem dL_draws_279 : decode cL_draws 279 = .ok (.idiv, 1) := by decide +kernel
theorem dL_draws_280 : decode cL_draws 280 = .ok (.iload 8, 2) := by decide +kernel
theorem dL_draws_282 : decode cL_draws 282 = .ok (.bipush 8, 2) := by decide +kernel
theorem dL_draws_284 : decode cL_draws 284 = .ok (.irem, 1) := by decide +kernel
theorem dL_draws_285 : decode cL_draws 285 = .ok (.invokevirtual 9, 3) := by decide +kernel
theorem dL_draws_288 : decode cL_draws 288 = .ok (.aload 4, 2) := by decide +kernel
theorem dL_draws_290 : decode cL_draws 290 = .ok (.iload 8, 2) := by decide +kernel
theorem dL_draws_292 : decode cL_draws 292 = .ok (.iaload, 1) := by decide +kernel
theorem dL_draws_293 : decode cL_draws 293 = .ok (.if_icmp .eq 5, 3) := by decide +kernel
theorem dL_draws_296 : decode cL_draws 296 = .ok (.iconst 0, 1) := by decide +kernel
theorem dL_draws_297 : decode cL_draws 297 = .ok (.ireturn, 1) := by decide +kernel
theorem dL_draws_298 : decode cL_draws 298 = .ok (.iinc 8 1, 3) := by decide +kernel
theorem dL_draws_301 : decode cL_draws 301 = .ok (.goto (-38), 3) := by decide +kernel
theorem dL_draws_304 : decode cL_draws 304 = .ok (.aload_n 0, 1) := by decide +kernel
theorem dL_draws_305 : decode cL_draws 305 = .ok (.bipush 49, 2) := by decide +kernel
theorem dL_draws_307 : decode cL_draws 307 = .ok (.invokevirtual 83, 3) := by decide +kernel
theorem dL_draws_310 : decode cL_draws 310 = .ok (.istore 6, 2) := by decide +kernel
theorem dL_draws_312 : decode cL_draws 312 = .ok (.aload_n 0, 1) := by decide +kernel
theorem dL_draws_313 : decode cL_draws 313 = .ok (.iload_n 1, 1) := by decide +kernel
theorem dL_draws_314 : decode cL_draws 314 = .ok (.invokevirtual 80, 3) := by decide +kernel
theorem dL_draws_317 : decode cL_draws 317 = .ok (.bipush (-99), 2) := by decide +kernel
theorem dL_draws_319 : decode cL_draws 319 = .ok (.iload 6, 2) := by decide +kernel
theorem dL_draws_321 : decode cL_draws 321 = .ok (.isub, 1) := by decide +kernel
theorem dL_draws_322 : decode cL_draws 322 = .ok (.if_icmp .ne 7, 3) := by decide +kernel
theorem dL_draws_325 : decode cL_draws 325 = .ok (.iconst 1, 1) := by decide +kernel
theorem dL_draws_326 : decode cL_draws 326 = .ok (.goto 4, 3) := by decide +kernel
theorem dL_draws_329 : decode cL_draws 329 = .ok (.iconst 0, 1) := by decide +kernel
theorem dL_draws_330 : decode cL_draws 330 = .ok (.ireturn, 1) := by decide +kernel
set_option maxRecDepth 20000 in
theorem ggL_errors_X6_count : GoodIn wsL_errors wsX6_count := goodIn_r _ [6, 7, 8, 9, 10, 11, 12, 13, 14, 15, 16, 17, 18, 19, 20, 21, 22, 23, 24, 25, 26, 27, 28, 29, 30, 31, 32, 33, 34, 35, 36, 37, 38, 39, 40, 41, 42, 43, 44, 45, 46, 47, 48, 49, 50, 51, 52, 53, 54, 55, 56, 57, 58, 59, 60, 61, 62, 63, 64, 65, 66, 67, 68, 69, 70, 71, 72, 73, 74, 75, 76, 77, 78, 79, 80, 81, 82, 83, 84, 85, 86, 87, 88, 89, 90, 91, 92, 93, 94, 95, 96, 5, 97, 98, 99, 100, 101, 102, 103, 104, 105, 106, 107, 108, 109, 110, 111, 112, 113, 114, 115, 116, 117, 118, 119, 120, 121, 122, 123, 124, 125, 126, 127, 128, 129, 130, 131, 132, 133, 134, 135, 136, 137, 138, 139, 140, 141, 142, 143, 144, 145, 146, 147, 148, 149, 150, 151, 152, 153, 154, 155, 156, 157, 158, 159, 160, 161, 162, 163, 164, 165, 166, 167, 168, 169, 170, 171, 172, 394, 395, 396, 397, 398, 399, 400, 401, 402, 403, 404, 405, 406, 407, 408, 409, 410, 411, 412, 413, 414, 415, 416, 417, 418, 419, 420, 421, 422, 423, 424, 425, 426, 427] (by decide +kernel) (by decide +kernel)
set_option maxRecDepth 20000 in
theorem gL_errors_X6_count : GoodIn wsL_errors (wsV RL 28 RX6 yX6_count wsX6_count) := goodIn_app (goodIn_of _ (by decide +kernel)) ggL_errors_X6_count
set_option maxRecDepth 20000 in
theorem ggL_errors_X6_setPixel : GoodIn wsL_errors wsX6_setPixel := goodIn_r _ [176, 15, 7, 8, 177, 178, 179, 5, 180, 9, 181, 182, 183, 184, 185, 186, 187, 188, 189, 190, 191, 192, 193, 194, 195, 196, 197, 198, 199, 200, 201, 202, 22, 203, 204, 205, 206, 24, 147, 29, 207, 208, 209, 210, 211, 66, 71, 212, 213, 214, 107, 215, 216, 114, 217, 119, 218, 219, 220, 221, 110, 111, 112, 113, 115, 116, 117, 118, 222, 223, 224, 225, 226, 227, 228, 229, 230, 394, 395, 396, 397, 398, 399, 400, 401, 402, 403, 404, 405, 406, 407, 408, 409, 410, 411, 412, 413, 414] (by decide +kernel) (by decide +kernel)
set_option maxRecDepth 20000 in
theorem gL_errors_X6_setPixel : GoodIn wsL_errors (wsV RL 87 RX6 yX6_setPixel wsX6_setPixel) := goodIn_app (goodIn_of _ (by decide +kernel)) ggL_errors_X6_setPixel
set_option maxRecDepth 20000 in
theorem ggL_errors_X6_setColor : GoodIn wsL_errors wsX6_setColor := goodIn_r _ [234, 15, 7, 235, 236, 5, 237, 184, 185, 186, 187, 188, 189, 190, 191, 192, 193, 194, 195, 196, 197, 198, 199, 200, 201, 202, 22, 203, 204, 205, 206, 24, 147, 29, 207, 208, 209, 210, 211, 66, 71, 212, 213, 214, 107, 215, 216, 114, 217, 119, 238, 239, 240, 241, 242, 243, 244, 245, 394, 395, 396, 397, 398, 399, 412, 413, 414, 400, 401, 402, 403, 404, 405, 406, 407, 408, 409, 410, 411] (by decide +kernel) (by decide +kernel)
set_option maxRecDepth 20000 in
theorem gL_errors_X6_setColor : GoodIn wsL_errors (wsV RL 91 RX6 yX6_setColor wsX6_setColor) := goodIn_app (goodIn_of _ (by decide +kernel)) ggL_errors_X6_setColor
set_option maxRecDepth 20000 in
theorem ggL_errors_X6_addSprite : GoodIn wsL_errors wsX6_addSprite := goodIn_r _ [249, 7, 10, 15, 177, 178, 179, 5, 180, 8, 9, 250, 251, 252, 184, 185, 186, 187, 188, 189, 190, 191, 192, 193, 194, 195, 196, 197, 198, 199, 200, 201, 202, 22, 203, 204, 205, 206, 24, 147, 29, 207, 208, 209, 210, 211, 66, 71, 212, 213, 214, 107, 215, 216, 114, 217, 119, 253, 254, 255, 256, 394, 395, 396, 397, 398, 399, 400, 401, 402, 403, 404, 405, 406, 407, 408, 409, 410, 411, 412, 413, 414] (by decide +kernel) (by decide +kernel)
set_option maxRecDepth 20000 in
theorem gL_errors_X6_addSprite : GoodIn wsL_errors (wsV RL 94 RX6 yX6_addSprite wsX6_addSprite) := goodIn_app (goodIn_of _ (by decide +kernel)) ggL_errors_X6_addSprite
set_option maxRecDepth 20000 in
theorem ggL_errors_X6_move : GoodIn wsL_errors wsX6_move := goodIn_r _ [260, 15, 7, 261, 262, 263, 5, 264, 10, 250, 251, 252, 184, 185, 186, 187, 188, 189, 190, 191, 192, 193, 194, 195, 196, 197, 198, 199, 200, 201, 202, 22, 203, 204, 205, 206, 24, 147, 29, 207, 208, 209, 210, 211, 66, 71, 212, 213, 214, 107, 215, 216, 114, 217, 119, 253, 254, 255, 256, 265, 266, 267, 268, 269, 93, 52, 94, 270, 51, 53, 25, 26, 27, 28, 394, 395, 396, 397, 398, 399, 400, 401, 402, 403, 404, 405, 406, 407, 408, 412, 413, 414, 409, 410, 411] (by decide +kernel) (by decide +kernel)
set_option maxRecDepth 20000 in
theorem gL_errors_X6_move : GoodIn wsL_errors (wsV RL 97 RX6 yX6_move wsX6_move) := goodIn_app (goodIn_of _ (by decide +kernel)) ggL_errors_X6_move
set_option maxRecDepth 20000 in
theorem ggL_errors_X6_set : GoodIn wsL_errors wsX6_set := goodIn_r _ [274, 15, 7, 261, 262, 263, 5, 264, 10, 275, 276, 277, 278, 8, 9, 184, 185, 186, 187, 188, 189, 190, 191, 192, 193, 194, 195, 196, 197, 198, 199, 200, 201, 202, 22, 203, 204, 205, 206, 24, 147, 29, 207, 208, 209, 210, 211, 66, 71, 212, 213, 214, 107, 215, 216, 114, 217, 119, 279, 26, 27, 28, 253, 254, 255, 256, 394, 395, 396, 397, 398, 399, 400, 401, 402, 403, 404, 405, 406, 407, 408, 409, 410, 411, 412, 413, 414] (by decide +kernel) (by decide +kernel)
set_option maxRecDepth 20000 in
theorem gL_errors_X6_set : GoodIn wsL_errors (wsV RL 100 RX6 yX6_set wsX6_set) := goodIn_app (goodIn_of _ (by decide +kernel)) ggL_errors_X6_set
set_option maxRecDepth 20000 in
theorem ggL_errors_X6_swap : GoodIn wsL_errors wsX6_swap := goodIn_r _ [283, 15, 7, 284, 285, 5, 286, 235, 236, 237, 184, 185, 186, 187, 188, 189, 190, 191, 192, 193, 194, 195, 196, 197, 198, 199, 200, 201, 202, 22, 203, 204, 205, 206, 24, 147, 29, 207, 208, 209, 210, 211, 66, 71, 212, 213, 214, 107, 215, 216, 114, 217, 119, 287, 288, 289, 290, 269, 93, 52, 94, 270, 51, 53, 54, 55, 56, 57, 58, 59, 60, 61, 62, 63, 64, 65, 67, 68, 69, 70, 394, 395, 396, 397, 398, 399, 412, 413, 414, 400, 401, 402, 403, 404, 405, 406, 407, 408, 409, 410, 411] (by decide +kernel) (by decide +kernel)
set_option maxRecDepth 20000 in
theorem gL_errors_X6_swap : GoodIn wsL_errors (wsV RL 103 RX6 yX6_swap wsX6_swap) := goodIn_app (goodIn_of _ (by decide +kernel)) ggL_errors_X6_swap
set_option maxRecDepth 20000 in
theorem ggL_errors_X6_setLimit : GoodIn wsL_errors wsX6_setLimit := goodIn_r _ [294, 15, 7, 13, 184, 185, 186, 187, 188, 189, 190, 191, 192, 193, 194, 195, 196, 197, 198, 199, 200, 201, 202, 22, 203, 204, 205, 206, 24, 147, 29, 207, 208, 209, 210, 211, 66, 71, 212, 213, 214, 107, 215, 216, 114, 217, 119, 394, 395, 396, 397, 398, 399, 400, 401, 402, 403, 404, 405, 406, 407, 408, 412, 413, 414, 409, 410, 411] (by decide +kernel) (by decide +kernel)
set_option maxRecDepth 20000 in
theorem gL_errors_X6_setLimit : GoodIn wsL_errors (wsV RL 106 RX6 yX6_setLimit wsX6_setLimit) := goodIn_app (goodIn_of _ (by decide +kernel)) ggL_errors_X6_setLimit
set_option maxRecDepth 20000 in
theorem ggL_errors_X6_setStride : GoodIn wsL_errors wsX6_setStride := goodIn_r _ [298, 15, 7, 14, 184, 185, 186, 187, 188, 189, 190, 191, 192, 193, 194, 195, 196, 197, 198, 199, 200, 201, 202, 22, 203, 204, 205, 206, 24, 147, 29, 207, 208, 209, 210, 211, 66, 71, 212, 213, 214, 107, 215, 216, 114, 217, 119, 394, 395, 396, 397, 398, 399, 400, 401, 402, 403, 404, 405, 406, 407, 408, 412, 413, 414, 409, 410, 411] (by decide +kernel) (by decide +kernel)
set_option maxRecDepth 20000 in
theorem gL_errors_X6_setStride : GoodIn wsL_errors (wsV RL 109 RX6 yX6_setStride wsX6_setStride) := goodIn_app (goodIn_of _ (by decide +kernel)) ggL_errors_X6_setStride
set_option maxRecDepth 20000 in
theorem ggL_errors_X6_next : GoodIn wsL_errors wsX6_next := goodIn_r _ [302, 303, 7, 12, 304, 15, 184, 185, 186, 187, 188, 189, 190, 191, 192, 193, 194, 195, 196, 197, 198, 199, 200, 201, 202, 22, 203, 204, 205, 206, 24, 147, 29, 207, 208, 209, 210, 211, 66, 71, 212, 213, 214, 107, 215, 216, 114, 217, 119, 394, 395, 396, 397, 398, 399, 400, 401, 402, 403, 404, 405, 406, 407, 408, 412, 413, 414, 409, 410, 411] (by decide +kernel) (by decide +kernel)
set_option maxRecDepth 20000 in
theorem gL_errors_X6_next : GoodIn wsL_errors (wsV RL 112 RX6 yX6_next wsX6_next) := goodIn_app (goodIn_of _ (by decide +kernel)) ggL_errors_X6_next
set_option maxRecDepth 20000 in
theorem ggL_errors_X6_pixel : GoodIn wsL_errors wsX6_pixel := goodIn_r _ [308, 7, 8, 177, 178, 179, 5, 180, 9, 181, 182, 183, 218, 219, 220, 107, 221, 110, 111, 112, 113, 114, 115, 116, 117, 118, 119, 394, 395, 396, 397, 398, 399, 400, 401, 402, 403, 404, 405, 406, 407, 408, 409, 410, 411] (by decide +kernel) (by decide +kernel)
set_option maxRecDepth 20000 in
theorem gL_errors_X6_pixel : GoodIn wsL_errors (wsV RL 9 RX6 yX6_pixel wsX6_pixel) := goodIn_app (goodIn_of _ (by decide +kernel)) ggL_errors_X6_pixel
set_option maxRecDepth 20000 in
theorem ggL_errors_X6_alike : GoodIn wsL_errors wsX6_alike := goodIn_r _ [312, 7, 8, 177, 178, 179, 5, 180, 9, 313, 314, 315, 107, 316, 110, 111, 112, 113, 114, 120, 121, 122, 123, 124, 125, 126, 127, 128, 129, 130, 131, 115, 116, 117, 118, 119, 394, 395, 396, 397, 398, 399, 400, 401, 402, 403, 404, 405, 406, 407, 408, 409, 410, 411] (by decide +kernel) (by decide +kernel)
set_option maxRecDepth 20000 in
theorem gL_errors_X6_alike : GoodIn wsL_errors (wsV RL 15 RX6 yX6_alike wsX6_alike) := goodIn_app (goodIn_of _ (by decide +kernel)) ggL_errors_X6_alike
set_option maxRecDepth 20000 in
theorem ggL_errors_X6_meet : GoodIn wsL_errors wsX6_meet := goodIn_r _ [320, 11, 261, 262, 263, 5, 264, 7, 10, 321, 322, 323, 33, 324, 76, 77, 78, 79, 80, 35, 81, 82, 83, 84, 85, 86, 87, 88, 89, 90, 91, 41, 36, 92, 93, 52, 94, 95, 42, 43, 44, 22, 45, 25, 26, 27, 28, 29, 96, 97, 98, 99, 100, 101, 102, 103, 104, 105, 106, 107, 108, 109, 110, 111, 112, 113, 114, 115, 116, 117, 118, 119, 120, 121, 122, 123, 124, 125, 126, 127, 128, 129, 130, 131, 132, 133, 134, 135, 325, 394, 395, 396, 397, 398, 399, 400, 401, 402, 403, 404, 405, 406, 407, 408, 424, 425, 426, 427, 409, 410, 411] (by decide +kernel) (by decide +kernel)
set_option maxRecDepth 20000 in
theorem gL_errors_X6_meet : GoodIn wsL_errors (wsV RL 59 RX6 yX6_meet wsX6_meet) := goodIn_app (goodIn_of _ (by decide +kernel)) ggL_errors_X6_meet
set_option maxRecDepth 20000 in
theorem ggL_errors_X6_line : GoodIn wsL_errors wsX6_line := goodIn_r _ [329, 11, 7, 12, 284, 285, 5, 286, 330, 38, 39, 33, 40, 35, 41, 42, 43, 44, 22, 45, 25, 26, 27, 28, 29, 331, 89, 90, 91, 36, 87, 92, 93, 52, 94, 95, 332, 333, 334, 335, 81, 83, 84, 85, 86, 88, 336, 337, 338, 339, 96, 97, 340, 341, 342, 343, 102, 103, 182, 183, 344, 219, 220, 107, 221, 110, 111, 112, 113, 114, 115, 116, 117, 118, 119, 345, 346, 347, 348, 62, 63, 64, 65, 66, 67, 68, 69, 70, 71, 349, 239, 240, 241, 211, 350, 59, 60, 61, 351, 352, 394, 395, 396, 397, 398, 399, 400, 401, 402, 403, 404, 405, 406, 407, 408, 424, 425, 426, 427, 409, 410, 411] (by decide +kernel) (by decide +kernel)
set_option maxRecDepth 20000 in
theorem gL_errors_X6_line : GoodIn wsL_errors (wsV RL 42 RX6 yX6_line wsX6_line) := goodIn_app (goodIn_of _ (by decide +kernel)) ggL_errors_X6_line
set_option maxRecDepth 20000 in
theorem ggL_errors_X6_shown : GoodIn wsL_errors wsX6_shown := goodIn_r _ [356, 11, 284, 285, 5, 286, 357, 358, 359, 33, 360, 35, 81, 87, 88, 89, 90, 91, 41, 36, 92, 93, 52, 94, 95, 42, 43, 44, 22, 45, 25, 26, 27, 28, 29, 394, 395, 396, 397, 398, 399, 424, 425, 426, 427, 400, 401, 402, 403, 404, 405, 406, 407, 408] (by decide +kernel) (by decide +kernel)
set_option maxRecDepth 20000 in
theorem gL_errors_X6_shown : GoodIn wsL_errors (wsV RL 36 RX6 yX6_shown wsX6_shown) := goodIn_app (goodIn_of _ (by decide +kernel)) ggL_errors_X6_shown
set_option maxRecDepth 20000 in
theorem ggL_errors_X6_shownIn : GoodIn wsL_errors wsX6_shownIn := goodIn_r _ [364, 11, 7, 12, 284, 285, 5, 286, 261, 262, 263, 264, 10, 365, 84, 85, 33, 86, 87, 88, 89, 90, 91, 35, 41, 36, 92, 93, 52, 94, 95, 42, 43, 44, 22, 45, 25, 26, 27, 28, 29, 325, 96, 97, 394, 395, 396, 397, 398, 399, 400, 401, 402, 403, 404, 405, 406, 407, 408, 424, 425, 426, 427] (by decide +kernel) (by decide +kernel)
set_option maxRecDepth 20000 in
theorem gL_errors_X6_shownIn : GoodIn wsL_errors (wsV RL 39 RX6 yX6_shownIn wsX6_shownIn) := goodIn_app (goodIn_of _ (by decide +kernel)) ggL_errors_X6_shownIn
set_option maxRecDepth 20000 in
theorem ggL_errors_X6_keep : GoodIn wsL_errors wsX6_keep := goodIn_r _ [369, 370, 371, 372, 22, 7, 12, 373, 374, 5, 375, 376, 377, 378, 379, 380, 381, 205, 382, 383, 107, 147, 384, 29, 211, 66, 71, 385, 386, 387, 388, 114, 119, 389, 201, 202, 203, 204, 206, 24, 207, 208, 209, 210, 212, 213, 214, 215, 216, 217, 394, 395, 396, 397, 398, 399, 400, 401, 402, 403, 404, 405, 406, 407, 408, 409, 410, 411] (by decide +kernel) (by decide +kernel)
set_option maxRecDepth 20000 in
theorem gL_errors_X6_keep : GoodIn wsL_errors (wsV RL 116 RX6 yX6_keep wsX6_keep) := goodIn_app (goodIn_of _ (by decide +kernel)) ggL_errors_X6_keep
set_option maxRecDepth 20000 in
theorem ggL_errors_X6_restore : GoodIn wsL_errors wsX6_restore := goodIn_r _ [393, 370, 15, 7, 12, 373, 374, 5, 375, 184, 185, 186, 187, 188, 189, 190, 191, 192, 193, 194, 195, 196, 197, 198, 199, 200, 201, 202, 22, 203, 204, 205, 206, 24, 147, 29, 207, 208, 209, 210, 211, 66, 71, 212, 213, 214, 107, 215, 216, 114, 217, 119, 389, 394, 395, 396, 397, 398, 399, 400, 401, 402, 403, 404, 405, 406, 407, 408, 412, 413, 414, 409, 410, 411] (by decide +kernel) (by decide +kernel)
set_option maxRecDepth 20000 in
theorem gL_errors_X6_restore : GoodIn wsL_errors (wsV RL 119 RX6 yX6_restore wsX6_restore) := goodIn_app (goodIn_of _ (by decide +kernel)) ggL_errors_X6_restore
theorem dL_errors_0 : decode cL_errors 0 = .ok (.aload_n 0, 1) := by decide +kernel
theorem dL_errors_1 : decode cL_errors 1 = .ok (.iconst 0, 1) := by decide +kernel
theorem dL_errors_2 : decode cL_errors 2 = .ok (.invokevirtual 28, 3) := by decide +kernel
theorem dL_errors_5 : decode cL_errors 5 = .ok (.istore_n 1, 1) := by decide +kernel
theorem dL_errors_6 : decode cL_errors 6 = .ok (.aload_n 0, 1) := by decide +kernel
theorem dL_errors_7 : decode cL_errors 7 = .ok (.iconst 1, 1) := by decide +kernel
theorem dL_errors_8 : decode cL_errors 8 = .ok (.invokevirtual 28, 3) := by decide +kernel
theorem dL_errors_11 : decode cL_errors 11 = .ok (.istore_n 2, 1) := by decide +kernel
theorem dL_errors_12 : decode cL_errors 12 = .ok (.aload_n 0, 1) := by decide +kernel
theorem dL_errors_13 : decode cL_errors 13 = .ok (.iload_n 1, 1) := by decide +kernel
theorem dL_errors_14 : decode cL_errors 14 = .ok (.iconst 0, 1) := by decide +kernel
theorem dL_errors_15 : decode cL_errors 15 = .ok (.iconst 0, 1) := by decide +kernel
theorem dL_errors_16 : decode cL_errors 16 = .ok (.iconst 0, 1) := by decide +kernel
theorem dL_errors_17 : decode cL_errors 17 = .ok (.invokevirtual 87, 3) := by decide +kernel
theorem dL_errors_20 : decode cL_errors 20 = .ok (.iconst (-1), 1) := by decide +kernel
theorem dL_errors_21 : decode cL_errors 21 = .ok (.if_icmp .ne 142, 3) := by decide +kernel
theorem dL_errors_24 : decode cL_errors 24 = .ok (.aload_n 0, 1) := by decide +kernel
theorem dL_errors_25 : decode cL_errors 25 = .ok (.iconst 0, 1) := by decide +kernel
theorem dL_errors_26 : decode cL_errors 26 = .ok (.bipush 8, 2) := by decide +kernel
theorem dL_errors_28 : decode cL_errors 28 = .ok (.iconst 0, 1) := by decide +kernel
theorem dL_errors_29 : decode cL_errors 29 = .ok (.iconst 0, 1) := by decide +kernel
theorem dL_errors_30 : decode cL_errors 30 = .ok (.invokevirtual 87, 3) := by decide +kernel
theorem dL_errors_33 : decode cL_errors 33 = .ok (.bipush (-2), 2) := by decide +kernel
theorem dL_errors_35 : decode cL_errors 35 = .ok (.if_icmp .ne 128, 3) := by decide +kernel
theorem dL_errors_38 : decode cL_errors 38 = .ok (.aload_n 0, 1) := by decide +kernel
theorem dL_errors_39 : decode cL_errors 39 = .ok (.iconst 0, 1) := by decide +kernel
theorem dL_errors_40 : decode cL_errors 40 = .ok (.iconst 0, 1) := by decide +kernel
theorem dL_errors_41 : decode cL_errors 41 = .ok (.iconst (-1), 1) := by decide +kernel
theorem dL_errors_42 : decode cL_errors 42 = .ok (.iconst 0, 1) := by decide +kernel
theorem dL_errors_43 : decode cL_errors 43 = .ok (.invokevirtual 87, 3) := by decide +kernel
theorem dL_errors_46 : decode cL_errors 46 = .ok (.bipush (-2), 2) := by decide +kernel
theorem dL_errors_48 : decode cL_errors 48 = .ok (.if_icmp .ne 115, 3) := by decide +kernel
theorem dL_errors_51 : decode cL_errors 51 = .ok (.aload_n 0, 1) := by decide +kernel
theorem dL_errors_52 : decode cL_errors 52 = .ok (.iconst 0, 1) := by decide +kernel
theorem dL_errors_53 : decode cL_errors 53 = .ok (.iconst 0, 1) := by decide +kernel
theorem dL_errors_54 : decode cL_errors 54 = .ok (.iconst 0, 1) := by decide +kernel
theorem dL_errors_55 : decode cL_errors 55 = .ok (.iconst 4, 1) := by decide +kernel
theorem dL_errors_56 : decode cL_errors 56 = .ok (.invokevirtual 87, 3) := by decide +kernel
theorem dL_errors_59 : decode cL_errors 59 = .ok (.bipush (-2), 2) := by decide +kernel
theorem dL_errors_61 : decode cL_errors 61 = .ok (.if_icmp .ne 102, 3) := by decide +kernel
theorem dL_errors_64 : decode cL_errors 64 = .ok (.aload_n 0, 1) := by decide +kernel
theorem dL_errors_65 : decode cL_errors 65 = .ok (.iconst 4, 1) := by decide +kernel
theorem dL_errors_66 : decode cL_errors 66 = .ok (.iconst 1, 1) := by decide +kernel
theorem dL_errors_67 : decode cL_errors 67 = .ok (.iconst 0, 1) := by decide +kernel
theorem dL_errors_68 : decode cL_errors 68 = .ok (.invokevirtual 91, 3) := by decide +kernel
theorem dL_errors_71 : decode cL_errors 71 = .ok (.iconst (-1), 1) := by decide +kernel
theorem dL_errors_72 : decode cL_errors 72 = .ok (.if_icmp .ne 91, 3) := by decide +kernel
theorem dL_errors_75 : decode cL_errors 75 = .ok (.aload_n 0, 1) := by decide +kernel
theorem dL_errors_76 : decode cL_errors 76 = .ok (.iconst 0, 1) := by decide +kernel
theorem dL_errors_77 : decode cL_errors 77 = .ok (.iconst 0, 1) := by decide +kernel
theorem dL_errors_78 : decode cL_errors 78 = .ok (.iconst 0, 1) := by decide +kernel
theorem dL_errors_79 : decode cL_errors 79 = .ok (.invokevirtual 91, 3) := by decide +kernel
theorem dL_errors_82 : decode cL_errors 82 = .ok (.bipush (-2), 2) := by decide +kernel
theorem dL_errors_84 : decode cL_errors 84 = .ok (.if_icmp .ne 79, 3) := by decide +kernel
theorem dL_errors_87 : decode cL_errors 87 = .ok (.aload_n 0, 1) := by decide +kernel
theorem dL_errors_88 : decode cL_errors 88 = .ok (.iconst 0, 1) := by decide +kernel
theorem dL_errors_89 : decode cL_errors 89 = .ok (.iconst 1, 1) := by decide +kernel
theorem dL_errors_90 : decode cL_errors 90 = .ok (.bipush 64, 2) := by decide +kernel
theorem dL_errors_92 : decode cL_errors 92 = .ok (.invokevirtual 91, 3) := by decide +kernel
theorem dL_errors_95 : decode cL_errors 95 = .ok (.bipush (-2), 2) := by decide +kernel
theorem dL_errors_97 : decode cL_errors 97 = .ok (.if_icmp .ne 66, 3) := by decide +kernel
theorem dL_errors_100 : decode cL_errors 100 = .ok (.aload_n 0, 1) := by decide +kernel
theorem dL_errors_101 : decode cL_errors 101 = .ok (.iload_n 1, 1) := by decide +kernel
theorem dL_errors_102 : decode cL_errors 102 = .ok (.iconst 0, 1) := by decide +kernel
theorem dL_errors_103 : decode cL_errors 103 = .ok (.iconst 0, 1) := by decide +kernel
theorem dL_errors_104 : decode cL_errors 104 = .ok (.invokevirtual 94, 3) := by decide +kernel
theorem dL_errors_107 : decode cL_errors 107 = .ok (.iconst (-1), 1) := by decide +kernel
theorem dL_errors_108 : decode cL_errors 108 = .ok (.if_icmp .ne 55, 3) := by decide +kernel
theorem dL_errors_111 : decode cL_errors 111 = .ok (.aload_n 0, 1) := by decide +kernel
theorem dL_errors_112 : decode cL_errors 112 = .ok (.iconst 0, 1) := by decide +kernel
theorem dL_errors_113 : decode cL_errors 113 = .ok (.bipush 32, 2) := by decide +kernel
theorem dL_errors_115 : decode cL_errors 115 = .ok (.iconst 0, 1) := by decide +kernel
theorem dL_errors_116 : decode cL_errors 116 = .ok (.invokevirtual 94, 3) := by decide +kernel
theorem dL_errors_119 : decode cL_errors 119 = .ok (.bipush (-2), 2) := by decide +kernel
theorem dL_errors_121 : decode cL_errors 121 = .ok (.if_icmp .ne 42, 3) := by decide +kernel
theorem dL_errors_124 : decode cL_errors 124 = .ok (.aload_n 0, 1) := by decide +kernel
theorem dL_errors_125 : decode cL_errors 125 = .ok (.iconst 0, 1) := by decide +kernel
theorem dL_errors_126 : decode cL_errors 126 = .ok (.iconst 0, 1) := by decide +kernel
theorem dL_errors_127 : decode cL_errors 127 = .ok (.bipush (-8), 2) := by decide +kernel
theorem dL_errors_129 : decode cL_errors 129 = .ok (.invokevirtual 94, 3) := by decide +kernel
theorem dL_errors_132 : decode cL_errors 132 = .ok (.bipush (-2), 2) := by decide +kernel
theorem dL_errors_134 : decode cL_errors 134 = .ok (.if_icmp .ne 29, 3) := by decide +kernel
theorem dL_errors_137 : decode cL_errors 137 = .ok (.aload_n 0, 1) := by decide +kernel
theorem dL_errors_138 : decode cL_errors 138 = .ok (.iload_n 2, 1) := by decide +kernel
theorem dL_errors_139 : decode cL_errors 139 = .ok (.iconst 0, 1) := by decide +kernel
theorem dL_errors_140 : decode cL_errors 140 = .ok (.iconst 0, 1) := by decide +kernel
theorem dL_errors_141 : decode cL_errors 141 = .ok (.invokevirtual 97, 3) := by decide +kernel
theorem dL_errors_144 : decode cL_errors 144 = .ok (.iconst (-1), 1) := by decide +kernel
theorem dL_errors_145 : decode cL_errors 145 = .ok (.if_icmp .ne 18, 3) := by decide +kernel
theorem dL_errors_148 : decode cL_errors 148 = .ok (.aload_n 0, 1) := by decide +kernel
theorem dL_errors_149 : decode cL_errors 149 = .ok (.iload_n 2, 1) := by decide +kernel
theorem dL_errors_150 : decode cL_errors 150 = .ok (.iconst 0, 1) := by decide +kernel
theorem dL_errors_151 : decode cL_errors 151 = .ok (.iconst 0, 1) := by decide +kernel
theorem dL_errors_152 : decode cL_errors 152 = .ok (.invokevirtual 100, 3) := by decide +kernel
theorem dL_errors_155 : decode cL_errors 155 = .ok (.iconst (-1), 1) := by decide +kernel
theorem dL_errors_156 : decode cL_errors 156 = .ok (.if_icmp .ne 7, 3) := by decide +kernel
theorem dL_errors_159 : decode cL_errors 159 = .ok (.iconst 1, 1) := by decide +kernel
theorem dL_errors_160 : decode cL_errors 160 = .ok (.goto 4, 3) := by decide +kernel
theorem dL_errors_163 : decode cL_errors 163 = .ok (.iconst 0, 1) := by decide +kernel
theorem dL_errors_164 : decode cL_errors 164 = .ok (.istore_n 3, 1) := by decide +kernel
theorem dL_errors_165 : decode cL_errors 165 = .ok (.iload_n 3, 1) := by decide +kernel
theorem dL_errors_166 : decode cL_errors 166 = .ok (.ifCond .eq 192, 3) := by decide +kernel
theorem dL_errors_169 : decode cL_errors 169 = .ok (.aload_n 0, 1) := by decide +kernel
theorem dL_errors_170 : decode cL_errors 170 = .ok (.bipush 32, 2) := by decide +kernel
theorem dL_errors_172 : decode cL_errors 172 = .ok (.iconst 0, 1) := by decide +kernel
theorem dL_errors_173 : decode cL_errors 173 = .ok (.iconst 0, 1) := by decide +kernel
theorem dL_errors_174 : decode cL_errors 174 = .ok (.iconst 0, 1) := by decide +kernel
theorem dL_errors_175 : decode cL_errors 175 = .ok (.invokevirtual 103, 3) := by decide +kernel
theorem dL_errors_178 : decode cL_errors 178 = .ok (.iconst (-1), 1) := by decide +kernel
theorem dL_errors_179 : decode cL_errors 179 = .ok (.if_icmp .ne 179, 3) := by decide +kernel
theorem dL_errors_182 : decode cL_errors 182 = .ok (.aload_n 0, 1) := by decide +kernel
theorem dL_errors_183 : decode cL_errors 183 = .ok (.iconst 0, 1) := by decide +kernel
theorem dL_errors_184 : decode cL_errors 184 = .ok (.iconst 0, 1) := by decide +kernel
theorem dL_errors_185 : decode cL_errors 185 = .ok (.iconst 4, 1) := by decide +kernel
theorem dL_errors_186 : decode cL_errors 186 = .ok (.iconst 0, 1) := by decide +kernel
theorem dL_errors_187 : decode cL_errors 187 = .ok (.invokevirtual 103, 3) := by decide +kernel
theorem dL_errors_190 : decode cL_errors 190 = .ok (.iconst (-1), 1) := by decide +kernel
theorem dL_errors_191 : decode cL_errors 191 = .ok (.if_icmp .ne 167, 3) := by decide +kernel
theorem dL_errors_194 : decode cL_errors 194 = .ok (.aload_n 0, 1) := by decide +kernel
theorem dL_errors_195 : decode cL_errors 195 = .ok (.iconst 5, 1) := by decide +kernel
theorem dL_errors_196 : decode cL_errors 196 = .ok (.iconst 4, 1) := by decide +kernel
theorem dL_errors_197 : decode cL_errors 197 = .ok (.iconst 0, 1) := by decide +kernel
theorem dL_errors_198 : decode cL_errors 198 = .ok (.iconst 1, 1) := by decide +kernel
theorem dL_errors_199 : decode cL_errors 199 = .ok (.invokevirtual 103, 3) := by decide +kernel
theorem dL_errors_202 : decode cL_errors 202 = .ok (.bipush (-2), 2) := by decide +kernel
theorem dL_errors_204 : decode cL_errors 204 = .ok (.if_icmp .ne 154, 3) := by decide +kernel
theorem dL_errors_207 : decode cL_errors 207 = .ok (.aload_n 0, 1) := by decide +kernel
theorem dL_errors_208 : decode cL_errors 208 = .ok (.iconst 0, 1) := by decide +kernel
theorem dL_errors_209 : decode cL_errors 209 = .ok (.invokevirtual 106, 3) := by decide +kernel
theorem dL_errors_212 : decode cL_errors 212 = .ok (.bipush (-2), 2) := by decide +kernel
theorem dL_errors_214 : decode cL_errors 214 = .ok (.if_icmp .ne 144, 3) := by decide +kernel
theorem dL_errors_217 : decode cL_errors 217 = .ok (.aload_n 0, 1) := by decide +kernel
theorem dL_errors_218 : decode cL_errors 218 = .ok (.bipush 21, 2) := by decide +kernel
theorem dL_errors_220 : decode cL_errors 220 = .ok (.invokevirtual 106, 3) := by decide +kernel
theorem dL_errors_223 : decode cL_errors 223 = .ok (.bipush (-2), 2) := by decide +kernel
theorem dL_errors_225 : decode cL_errors 225 = .ok (.if_icmp .ne 133, 3) := by decide +kernel
theorem dL_errors_228 : decode cL_errors 228 = .ok (.aload_n 0, 1) := by decide +kernel
theorem dL_errors_229 : decode cL_errors 229 = .ok (.bipush 20, 2) := by decide +kernel
theorem dL_errors_231 : decode cL_errors 231 = .ok (.invokevirtual 109, 3) := by decide +kernel
theorem dL_errors_234 : decode cL_errors 234 = .ok (.bipush (-2), 2) := by decide +kernel
theorem dL_errors_236 : decode cL_errors 236 = .ok (.if_icmp .ne 122, 3) := by decide +kernel
theorem dL_errors_239 : decode cL_errors 239 = .ok (.aload_n 0, 1) := by decide +kernel
theorem dL_errors_240 : decode cL_errors 240 = .ok (.iconst 0, 1) := by decide +kernel
theorem dL_errors_241 : decode cL_errors 241 = .ok (.invokevirtual 112, 3) := by decide +kernel
theorem dL_errors_244 : decode cL_errors 244 = .ok (.bipush (-2), 2) := by decide +kernel
theorem dL_errors_246 : decode cL_errors 246 = .ok (.if_icmp .ne 112, 3) := by decide +kernel
theorem dL_errors_249 : decode cL_errors 249 = .ok (.aload_n 0, 1) := by decide +kernel
theorem dL_errors_250 : decode cL_errors 250 = .ok (.ldc 115, 2) := by decide +kernel
theorem dL_errors_252 : decode cL_errors 252 = .ok (.invokevirtual 112, 3) := by decide +kernel
theorem dL_errors_255 : decode cL_errors 255 = .ok (.bipush (-2), 2) := by decide +kernel
theorem dL_errors_257 : decode cL_errors 257 = .ok (.if_icmp .ne 101, 3) := by decide +kernel
theorem dL_errors_260 : decode cL_errors 260 = .ok (.aload_n 0, 1) := by decide +kernel
theorem dL_errors_261 : decode cL_errors 261 = .ok (.iload_n 1, 1) := by decide +kernel
theorem dL_errors_262 : decode cL_errors 262 = .ok (.iconst 0, 1) := by decide +kernel
theorem dL_errors_263 : decode cL_errors 263 = .ok (.iconst 0, 1) := by decide +kernel
theorem dL_errors_264 : decode cL_errors 264 = .ok (.invokevirtual 9, 3) := by decide +kernel
theorem dL_errors_267 : decode cL_errors 267 = .ok (.iconst (-1), 1) := by decide +kernel
theorem dL_errors_268 : decode cL_errors 268 = .ok (.if_icmp .ne 90, 3) := by decide +kernel
theorem dL_errors_271 : decode cL_errors 271 = .ok (.aload_n 0, 1) := by decide +kernel
theorem dL_errors_272 : decode cL_errors 272 = .ok (.iconst 0, 1) := by decide +kernel
theorem dL_errors_273 : decode cL_errors 273 = .ok (.bipush 8, 2) := by decide +kernel
theorem dL_errors_275 : decode cL_errors 275 = .ok (.iconst 0, 1) := by decide +kernel
theorem dL_errors_276 : decode cL_errors 276 = .ok (.invokevirtual 9, 3) := by decide +kernel
theorem dL_errors_279 : decode cL_errors 279 = .ok (.bipush (-2), 2) := by decide +kernel
theorem dL_errors_281 : decode cL_errors 281 = .ok (.if_icmp .ne 77, 3) := by decide +kernel
theorem dL_errors_284 : decode cL_errors 284 = .ok (.aload_n 0, 1) := by decide +kernel
theorem dL_errors_285 : decode cL_errors 285 = .ok (.iconst 0, 1) := by decide +kernel
theorem dL_errors_286 : decode cL_errors 286 = .ok (.iload_n 1, 1) := by decide +kernel
theorem dL_errors_287 : decode cL_errors 287 = .ok (.invokevirtual 15, 3) := by decide +kernel
theorem dL_errors_290 : decode cL_errors 290 = .ok (.iconst (-1), 1) := by decide +kernel
theorem dL_errors_291 : decode cL_errors 291 = .ok (.if_icmp .ne 67, 3) := by decide +kernel
theorem dL_errors_294 : decode cL_errors 294 = .ok (.aload_n 0, 1) := by decide +kernel
theorem dL_errors_295 : decode cL_errors 295 = .ok (.iconst 0, 1) := by decide +kernel
theorem dL_errors_296 : decode cL_errors 296 = .ok (.iload_n 2, 1) := by decide +kernel
theorem dL_errors_297 : decode cL_errors 297 = .ok (.invokevirtual 59, 3) := by decide +kernel
theorem dL_errors_300 : decode cL_errors 300 = .ok (.iconst (-1), 1) := by decide +kernel
theorem dL_errors_301 : decode cL_errors 301 = .ok (.if_icmp .ne 57, 3) := by decide +kernel
theorem dL_errors_304 : decode cL_errors 304 = .ok (.aload_n 0, 1) := by decide +kernel
theorem dL_errors_305 : decode cL_errors 305 = .ok (.bipush 32, 2) := by decide +kernel
theorem dL_errors_307 : decode cL_errors 307 = .ok (.iconst 0, 1) := by decide +kernel
theorem dL_errors_308 : decode cL_errors 308 = .ok (.invokevirtual 42, 3) := by decide +kernel
theorem dL_errors_311 : decode cL_errors 311 = .ok (.iconst (-1), 1) := by decide +kernel
theorem dL_errors_312 : decode cL_errors 312 = .ok (.if_icmp .ne 46, 3) := by decide +kernel
theorem dL_errors_315 : decode cL_errors 315 = .ok (.aload_n 0, 1) := by decide +kernel
theorem dL_errors_316 : decode cL_errors 316 = .ok (.iconst (-1), 1) := by decide +kernel
theorem dL_errors_317 : decode cL_errors 317 = .ok (.iconst 0, 1) := by decide +kernel
theorem dL_errors_318 : decode cL_errors 318 = .ok (.invokevirtual 36, 3) := by decide +kernel
theorem dL_errors_321 : decode cL_errors 321 = .ok (.iconst (-1), 1) := by decide +kernel
theorem dL_errors_322 : decode cL_errors 322 = .ok (.if_icmp .ne 36, 3) := by decide +kernel
theorem dL_errors_325 : decode cL_errors 325 = .ok (.aload_n 0, 1) := by decide +kernel
theorem dL_errors_326 : decode cL_errors 326 = .ok (.bipush 32, 2) := by decide +kernel
theorem dL_errors_328 : decode cL_errors 328 = .ok (.iconst 0, 1) := by decide +kernel
theorem dL_errors_329 : decode cL_errors 329 = .ok (.invokevirtual 39, 3) := by decide +kernel
theorem dL_errors_332 : decode cL_errors 332 = .ok (.iconst (-1), 1) := by decide +kernel
theorem dL_errors_333 : decode cL_errors 333 = .ok (.if_icmp .ne 25, 3) := by decide +kernel
theorem dL_errors_336 : decode cL_errors 336 = .ok (.aload_n 0, 1) := by decide +kernel
theorem dL_errors_337 : decode cL_errors 337 = .ok (.iconst 2, 1) := by decide +kernel
theorem dL_errors_338 : decode cL_errors 338 = .ok (.invokevirtual 116, 3) := by decide +kernel
theorem dL_errors_341 : decode cL_errors 341 = .ok (.iconst (-1), 1) := by decide +kernel
theorem dL_errors_342 : decode cL_errors 342 = .ok (.if_icmp .ne 16, 3) := by decide +kernel
theorem dL_errors_345 : decode cL_errors 345 = .ok (.aload_n 0, 1) := by decide +kernel
theorem dL_errors_346 : decode cL_errors 346 = .ok (.iconst 2, 1) := by decide +kernel
theorem dL_errors_347 : decode cL_errors 347 = .ok (.invokevirtual 119, 3) := by decide +kernel
theorem dL_errors_350 : decode cL_errors 350 = .ok (.iconst (-1), 1) := by decide +kernel
theorem dL_errors_351 : decode cL_errors 351 = .ok (.if_icmp .ne 7, 3) := by decide +kernel
theorem dL_errors_354 : decode cL_errors 354 = .ok (.iconst 1, 1) := by decide +kernel
theorem dL_errors_355 : decode cL_errors 355 = .ok (.goto 4, 3) := by decide +kernel
theorem dL_errors_358 : decode cL_errors 358 = .ok (.iconst 0, 1) := by decide +kernel
theorem dL_errors_359 : decode cL_errors 359 = .ok (.ireturn, 1) := by decide +kernel
set_option maxRecDepth 20000 in
theorem ggL_law_X6_init : GoodIn wsL_law wsX6_init := goodIn_r _ [6, 7, 8, 9, 10, 11, 12, 13, 14, 15, 16, 17, 18, 19, 20, 21, 22, 23, 24, 25, 26, 27, 28, 29, 30, 31, 32, 33, 34, 35, 36, 37, 38, 39, 3, 40, 41, 42, 43, 44, 45, 46, 47, 48, 49, 50, 51, 52, 53, 54, 55, 56, 57, 58, 59, 60, 61, 62, 63, 64, 65, 66, 67, 68, 69, 70, 71, 72, 73, 74, 75, 76, 77, 78, 623, 624, 625, 626, 627, 628, 629, 630, 631, 617, 618, 619, 620, 621, 622, 632, 633, 634, 635, 636, 637, 638, 639, 640, 641, 642, 643, 644, 645, 646, 647, 648, 649, 650, 651, 652, 653, 654] (by decide +kernel) (by decide +kernel)
set_option maxRecDepth 20000 in
theorem gL_law_X6_init : GoodIn wsL_law (wsX6_init) := ggL_law_X6_init
set_option maxRecDepth 20000 in
theorem ggL_law_X6_addPart : GoodIn wsL_law wsX6_addPart := goodIn_r _ [82, 13, 83, 84, 29, 85, 86, 87, 28, 88, 89, 90, 91, 92, 93, 94, 77, 95, 96, 97, 98, 99, 100, 101, 12, 102, 103, 35, 104, 105, 39, 40, 106, 107, 108, 109, 41, 42, 43, 110, 111, 112, 38, 113, 114, 48, 115, 49, 116, 117, 118, 119, 120, 121, 122, 123, 617, 618, 619, 620, 621, 622, 623, 624, 625, 626, 627, 628, 629, 630, 631, 652, 653, 654, 649, 650, 651] (by decide +kernel) (by decide +kernel)
set_option maxRecDepth 20000 in
theorem gL_law_X6_addPart : GoodIn wsL_law (wsV RL 123 RX6 yX6_addPart wsX6_addPart) := goodIn_app (goodIn_of _ (by decide +kernel)) ggL_law_X6_addPart
set_option maxRecDepth 20000 in
theorem ggL_law_X6_addSprite : GoodIn wsL_law wsX6_addSprite := goodIn_r _ [127, 13, 128, 29, 129, 130, 131, 2, 132, 83, 84, 133, 134, 135, 85, 86, 87, 28, 88, 89, 90, 91, 92, 93, 94, 77, 95, 96, 97, 98, 99, 100, 101, 12, 102, 103, 35, 104, 105, 39, 40, 106, 107, 108, 109, 41, 42, 43, 110, 111, 112, 38, 113, 114, 48, 115, 49, 136, 137, 138, 139, 617, 618, 619, 620, 621, 622, 623, 624, 625, 626, 627, 628, 629, 630, 631, 652, 653, 654, 649, 650, 651] (by decide +kernel) (by decide +kernel)
set_option maxRecDepth 20000 in
theorem gL_law_X6_addSprite : GoodIn wsL_law (wsV RL 94 RX6 yX6_addSprite wsX6_addSprite) := goodIn_app (goodIn_of _ (by decide +kernel)) ggL_law_X6_addSprite
set_option maxRecDepth 20000 in
theorem ggL_law_L_cell : GoodIn wsL_law wsL_cell := goodIn_r _ [143, 144] (by decide +kernel) (by decide +kernel)
set_option maxRecDepth 20000 in
theorem gL_law_L_cell : GoodIn wsL_law (va_wsS RL 126 yL_cell wsL_cell) := goodIn_app (goodIn_of _ (by decide +kernel)) ggL_law_L_cell
set_option maxRecDepth 20000 in
theorem ggL_law_L_low : GoodIn wsL_law wsL_low := goodIn_r _ [147, 148] (by decide +kernel) (by decide +kernel)
set_option maxRecDepth 20000 in
theorem gL_law_L_low : GoodIn wsL_law (va_wsS RL 74 yL_low wsL_low) := goodIn_app (goodIn_of _ (by decide +kernel)) ggL_law_L_low
set_option maxRecDepth 20000 in
theorem ggL_law_X6_count : GoodIn wsL_law wsX6_count := goodIn_r _ [152, 13, 83, 84, 128, 17, 153, 154, 155, 29, 156, 25, 157, 158, 159, 160, 12, 161, 105, 162, 163, 164, 165, 40, 166, 167, 168, 16, 169, 57, 170, 171, 172, 173, 174, 175, 176, 177, 178, 179, 180, 181, 182, 183, 184, 185, 186, 187, 188, 189, 190, 191, 192, 193, 194, 195, 196, 197, 198, 199, 42, 200, 201, 202, 203, 43, 204, 205, 206, 207, 56, 208, 209, 210, 211, 212, 55, 213, 214, 215, 216, 54, 217, 218, 219, 220, 221, 222, 223, 224, 225, 2, 226, 227, 228, 229, 230, 231, 232, 233, 234, 235, 38, 236, 237, 238, 239, 240, 241, 48, 242, 243, 244, 245, 49, 246, 247, 248, 249, 250, 251, 252, 253, 254, 255, 256, 257, 258, 259, 260, 261, 262, 263, 264, 265, 266, 267, 268, 269, 270, 271, 272, 39, 273, 274, 275, 276, 277, 278, 279, 280, 281, 282, 283, 284, 285, 286, 287, 288, 289, 290, 291, 292, 293, 294, 295, 296, 297, 617, 618, 619, 620, 621, 622, 623, 624, 625, 626, 627, 628, 629, 630, 631, 652, 653, 654, 649, 650, 651, 640, 641, 642, 643, 644, 645, 646, 647, 648, 632, 633, 634, 635] (by decide +kernel) (by decide +kernel)
set_option maxRecDepth 20000 in
theorem gL_law_X6_count : GoodIn wsL_law (wsV RL 28 RX6 yX6_count wsX6_count) := goodIn_app (goodIn_of _ (by decide +kernel)) ggL_law_X6_count
set_option maxRecDepth 20000 in
theorem ggL_law_X6_pixel : GoodIn wsL_law wsX6_pixel := goodIn_r _ [301, 13, 83, 129, 130, 131, 2, 132, 84, 302, 303, 304, 305, 306, 307, 38, 308, 238, 239, 240, 241, 48, 242, 243, 244, 245, 49, 617, 618, 619, 620, 621, 622, 623, 624, 625, 626, 627, 628, 629, 630, 631, 652, 653, 654] (by decide +kernel) (by decide +kernel)
set_option maxRecDepth 20000 in
theorem gL_law_X6_pixel : GoodIn wsL_law (wsV RL 9 RX6 yX6_pixel wsX6_pixel) := goodIn_app (goodIn_of _ (by decide +kernel)) ggL_law_X6_pixel
set_option maxRecDepth 20000 in
theorem ggL_law_X6_setPixel : GoodIn wsL_law wsX6_setPixel := goodIn_r _ [312, 29, 13, 83, 129, 130, 131, 2, 132, 84, 302, 303, 304, 85, 86, 87, 28, 88, 89, 90, 91, 92, 93, 94, 77, 95, 96, 97, 98, 99, 100, 101, 12, 102, 103, 35, 104, 105, 39, 40, 106, 107, 108, 109, 41, 42, 43, 110, 111, 112, 38, 113, 114, 48, 115, 49, 305, 306, 307, 308, 238, 239, 240, 241, 242, 243, 244, 245, 313, 314, 315, 316, 317, 120, 121, 122, 123, 617, 618, 619, 620, 621, 622, 623, 624, 625, 626, 627, 628, 629, 630, 631, 652, 653, 654, 649, 650, 651] (by decide +kernel) (by decide +kernel)
set_option maxRecDepth 20000 in
theorem gL_law_X6_setPixel : GoodIn wsL_law (wsV RL 87 RX6 yX6_setPixel wsX6_setPixel) := goodIn_app (goodIn_of _ (by decide +kernel)) ggL_law_X6_setPixel
set_option maxRecDepth 20000 in
theorem ggL_law_L_draws : GoodIn wsL_law wsL_draws := goodIn_r _ [320, 3, 145, 146, 142, 147, 148, 321, 322, 323, 2, 324, 25, 157, 325, 326, 327, 328, 29, 13, 329, 83, 330, 331, 129, 130, 131, 132, 84, 332, 333, 334, 24, 335, 336, 337, 338, 339, 340, 341, 342, 71, 343, 344, 345, 346, 347, 348, 349, 350, 351, 352, 353, 354, 355, 356, 357, 358, 359, 360, 361, 362, 363, 85, 86, 87, 28, 88, 89, 90, 91, 92, 93, 94, 77, 95, 96, 97, 98, 99, 100, 101, 12, 102, 103, 35, 104, 105, 39, 40, 106, 107, 108, 109, 41, 42, 43, 110, 111, 112, 38, 113, 114, 48, 115, 49, 364, 365, 366, 367, 317, 238, 239, 240, 241, 242, 243, 244, 245, 120, 121, 122, 123, 149, 150, 151, 152, 128, 17, 153, 154, 155, 156, 158, 159, 160, 161, 162, 163, 164, 165, 166, 167, 168, 16, 169, 57, 170, 171, 172, 173, 174, 175, 176, 177, 178, 179, 180, 181, 182, 183, 184, 185, 186, 187, 188, 189, 190, 191, 192, 193, 194, 195, 196, 197, 198, 199, 200, 201, 202, 203, 204, 205, 206, 207, 56, 208, 209, 210, 211, 212, 55, 213, 214, 215, 216, 54, 217, 218, 219, 220, 221, 222, 223, 224, 225, 226, 227, 228, 229, 230, 231, 232, 233, 234, 235, 236, 237, 246, 247, 248, 249, 250, 251, 252, 253, 254, 255, 256, 257, 258, 259, 260, 261, 262, 263, 264, 265, 266, 267, 268, 269, 270, 271, 272, 273, 274, 275, 276, 277, 278, 279, 280, 281, 282, 283, 284, 285, 286, 287, 288, 289, 290, 291, 292, 293, 294, 295, 296, 297, 368, 369, 370, 371, 372, 373, 374, 375, 298, 299, 300, 301, 302, 303, 304, 305, 306, 307, 308, 617, 618, 619, 620, 621, 622, 640, 641, 642, 643, 644, 645, 646, 647, 648, 623, 624, 625, 626, 627, 628, 629, 630, 631, 652, 653, 654, 649, 650, 651, 632, 633, 634, 635] (by decide +kernel) (by decide +kernel)
set_option maxRecDepth 20000 in
theorem gL_law_L_draws : GoodIn wsL_law (va_wsS RL 130 yL_draws wsL_draws) := goodIn_app (goodIn_of _ (by decide +kernel)) ggL_law_L_draws
set_option maxRecDepth 20000 in
theorem ggL_law_X6_sprite : GoodIn wsL_law wsX6_sprite := goodIn_r _ [379, 13, 17, 380, 381, 382, 2, 383, 128, 384, 163, 164, 12, 165, 40, 385, 386, 387, 16, 388, 57, 212, 176, 177, 178, 179, 162, 213, 214, 215, 216, 54, 217, 218, 219, 220, 175, 170, 221, 222, 186, 223, 224, 225, 226, 389, 390, 391, 392, 393, 394, 185, 187, 395, 396, 397, 398, 56, 208, 209, 210, 211, 55, 227, 228, 229, 230, 231, 232, 233, 234, 235, 38, 236, 237, 238, 239, 240, 241, 48, 242, 243, 244, 245, 49, 246, 247, 248, 249, 250, 251, 252, 253, 254, 255, 256, 257, 258, 259, 260, 261, 399, 263, 264, 265, 266, 267, 268, 617, 618, 619, 620, 621, 622, 623, 624, 625, 626, 627, 628, 629, 630, 631, 632, 633, 634, 635, 652, 653, 654] (by decide +kernel) (by decide +kernel)
set_option maxRecDepth 20000 in
theorem gL_law_X6_sprite : GoodIn wsL_law (wsV RL 25 RX6 yX6_sprite wsX6_sprite) := goodIn_app (goodIn_of _ (by decide +kernel)) ggL_law_X6_sprite
set_option maxRecDepth 20000 in
theorem ggL_law_X6_set : GoodIn wsL_law wsX6_set := goodIn_r _ [403, 29, 13, 380, 381, 382, 2, 383, 128, 404, 405, 406, 407, 83, 84, 85, 86, 87, 28, 88, 89, 90, 91, 92, 93, 94, 77, 95, 96, 97, 98, 99, 100, 101, 12, 102, 103, 35, 104, 105, 39, 40, 106, 107, 108, 109, 41, 42, 43, 110, 111, 112, 38, 113, 114, 48, 115, 49, 384, 163, 164, 165, 136, 137, 138, 139, 617, 618, 619, 620, 621, 622, 623, 624, 625, 626, 627, 628, 629, 630, 631, 652, 653, 654, 649, 650, 651] (by decide +kernel) (by decide +kernel)
set_option maxRecDepth 20000 in
theorem gL_law_X6_set : GoodIn wsL_law (wsV RL 100 RX6 yX6_set wsX6_set) := goodIn_app (goodIn_of _ (by decide +kernel)) ggL_law_X6_set
set_option maxRecDepth 20000 in
theorem ggL_law_X6_move : GoodIn wsL_law wsX6_move := goodIn_r _ [411, 29, 13, 380, 381, 382, 2, 383, 128, 133, 134, 135, 85, 86, 87, 28, 88, 89, 90, 91, 92, 93, 94, 77, 95, 96, 97, 98, 99, 100, 101, 12, 102, 103, 35, 104, 105, 39, 40, 106, 107, 108, 109, 41, 42, 43, 110, 111, 112, 38, 113, 114, 48, 115, 49, 136, 137, 138, 139, 389, 390, 391, 392, 393, 222, 186, 223, 394, 185, 187, 162, 163, 164, 165, 617, 618, 619, 620, 621, 622, 623, 624, 625, 626, 627, 628, 629, 630, 631, 649, 650, 651, 652, 653, 654] (by decide +kernel) (by decide +kernel)
set_option maxRecDepth 20000 in
theorem gL_law_X6_move : GoodIn wsL_law (wsV RL 97 RX6 yX6_move wsX6_move) := goodIn_app (goodIn_of _ (by decide +kernel)) ggL_law_X6_move
set_option maxRecDepth 20000 in
theorem ggL_law_X6_swap : GoodIn wsL_law wsX6_swap := goodIn_r _ [415, 29, 13, 416, 417, 2, 418, 419, 420, 421, 85, 86, 87, 28, 88, 89, 90, 91, 92, 93, 94, 77, 95, 96, 97, 98, 99, 100, 101, 12, 102, 103, 35, 104, 105, 39, 40, 106, 107, 108, 109, 41, 42, 43, 110, 111, 112, 38, 113, 114, 48, 115, 49, 422, 423, 424, 425, 393, 222, 186, 223, 394, 185, 187, 188, 189, 190, 191, 192, 193, 194, 195, 196, 197, 198, 199, 200, 201, 202, 203, 617, 618, 619, 620, 621, 622, 649, 650, 651, 623, 624, 625, 626, 627, 628, 629, 630, 631, 652, 653, 654] (by decide +kernel) (by decide +kernel)
set_option maxRecDepth 20000 in
theorem gL_law_X6_swap : GoodIn wsL_law (wsV RL 103 RX6 yX6_swap wsX6_swap) := goodIn_app (goodIn_of _ (by decide +kernel)) ggL_law_X6_swap
set_option maxRecDepth 20000 in
theorem ggL_law_X6_line : GoodIn wsL_law wsX6_line := goodIn_r _ [429, 17, 13, 153, 416, 417, 2, 418, 430, 172, 173, 16, 174, 57, 175, 176, 177, 178, 12, 179, 162, 163, 164, 165, 40, 431, 218, 219, 220, 170, 54, 221, 222, 186, 223, 224, 432, 433, 434, 435, 212, 213, 214, 215, 216, 217, 436, 437, 438, 439, 225, 226, 440, 441, 442, 443, 231, 232, 303, 304, 444, 306, 307, 38, 308, 238, 239, 240, 241, 48, 242, 243, 244, 245, 49, 445, 446, 447, 448, 196, 197, 198, 199, 42, 200, 201, 202, 203, 43, 449, 450, 451, 452, 41, 453, 193, 194, 195, 454, 455, 617, 618, 619, 620, 621, 622, 623, 624, 625, 626, 627, 628, 629, 630, 631, 632, 633, 634, 635, 652, 653, 654] (by decide +kernel) (by decide +kernel)
set_option maxRecDepth 20000 in
theorem gL_law_X6_line : GoodIn wsL_law (wsV RL 42 RX6 yX6_line wsX6_line) := goodIn_app (goodIn_of _ (by decide +kernel)) ggL_law_X6_line
set_option maxRecDepth 20000 in
theorem ggL_law_X6_setLimit : GoodIn wsL_law wsX6_setLimit := goodIn_r _ [459, 29, 13, 154, 85, 86, 87, 28, 88, 89, 90, 91, 92, 93, 94, 77, 95, 96, 97, 98, 99, 100, 101, 12, 102, 103, 35, 104, 105, 39, 40, 106, 107, 108, 109, 41, 42, 43, 110, 111, 112, 38, 113, 114, 48, 115, 49, 617, 618, 619, 620, 621, 622, 623, 624, 625, 626, 627, 628, 629, 630, 631, 649, 650, 651, 652, 653, 654] (by decide +kernel) (by decide +kernel)
set_option maxRecDepth 20000 in
theorem gL_law_X6_setLimit : GoodIn wsL_law (wsV RL 106 RX6 yX6_setLimit wsX6_setLimit) := goodIn_app (goodIn_of _ (by decide +kernel)) ggL_law_X6_setLimit
set_option maxRecDepth 20000 in
theorem ggL_law_X6_setStride : GoodIn wsL_law wsX6_setStride := goodIn_r _ [463, 29, 13, 155, 85, 86, 87, 28, 88, 89, 90, 91, 92, 93, 94, 77, 95, 96, 97, 98, 99, 100, 101, 12, 102, 103, 35, 104, 105, 39, 40, 106, 107, 108, 109, 41, 42, 43, 110, 111, 112, 38, 113, 114, 48, 115, 49, 617, 618, 619, 620, 621, 622, 623, 624, 625, 626, 627, 628, 629, 630, 631, 649, 650, 651, 652, 653, 654] (by decide +kernel) (by decide +kernel)
set_option maxRecDepth 20000 in
theorem gL_law_X6_setStride : GoodIn wsL_law (wsV RL 109 RX6 yX6_setStride wsX6_setStride) := goodIn_app (goodIn_of _ (by decide +kernel)) ggL_law_X6_setStride
set_option maxRecDepth 20000 in
theorem ggL_law_X6_next : GoodIn wsL_law wsX6_next := goodIn_r _ [467, 468, 13, 153, 469, 29, 85, 86, 87, 28, 88, 89, 90, 91, 92, 93, 94, 77, 95, 96, 97, 98, 99, 100, 101, 12, 102, 103, 35, 104, 105, 39, 40, 106, 107, 108, 109, 41, 42, 43, 110, 111, 112, 38, 113, 114, 48, 115, 49, 617, 618, 619, 620, 621, 622, 623, 624, 625, 626, 627, 628, 629, 630, 631, 649, 650, 651, 652, 653, 654] (by decide +kernel) (by decide +kernel)
set_option maxRecDepth 20000 in
theorem gL_law_X6_next : GoodIn wsL_law (wsV RL 112 RX6 yX6_next wsX6_next) := goodIn_app (goodIn_of _ (by decide +kernel)) ggL_law_X6_next
set_option maxRecDepth 20000 in
theorem ggL_law_X6_setColor : GoodIn wsL_law wsX6_setColor := goodIn_r _ [473, 29, 13, 419, 420, 2, 421, 85, 86, 87, 28, 88, 89, 90, 91, 92, 93, 94, 77, 95, 96, 97, 98, 99, 100, 101, 12, 102, 103, 35, 104, 105, 39, 40, 106, 107, 108, 109, 41, 42, 43, 110, 111, 112, 38, 113, 114, 48, 115, 49, 474, 450, 451, 452, 475, 476, 477, 478, 617, 618, 619, 620, 621, 622, 649, 650, 651, 623, 624, 625, 626, 627, 628, 629, 630, 631, 652, 653, 654] (by decide +kernel) (by decide +kernel)
set_option maxRecDepth 20000 in
theorem gL_law_X6_setColor : GoodIn wsL_law (wsV RL 91 RX6 yX6_setColor wsX6_setColor) := goodIn_app (goodIn_of _ (by decide +kernel)) ggL_law_X6_setColor
set_option maxRecDepth 20000 in
theorem ggL_law_L_packs : GoodIn wsL_law wsL_packs := goodIn_r _ [481, 149, 150, 151, 2, 152, 13, 83, 84, 128, 17, 153, 154, 155, 29, 156, 25, 157, 158, 159, 160, 12, 161, 105, 162, 163, 164, 165, 40, 166, 167, 168, 16, 169, 57, 170, 171, 172, 173, 174, 175, 176, 177, 178, 179, 180, 181, 182, 183, 184, 185, 186, 187, 188, 189, 190, 191, 192, 193, 194, 195, 196, 197, 198, 199, 42, 200, 201, 202, 203, 43, 204, 205, 206, 207, 56, 208, 209, 210, 211, 212, 55, 213, 214, 215, 216, 54, 217, 218, 219, 220, 221, 222, 223, 224, 225, 226, 227, 228, 229, 230, 231, 232, 233, 234, 235, 38, 236, 237, 238, 239, 240, 241, 48, 242, 243, 244, 245, 49, 246, 247, 248, 249, 250, 251, 252, 253, 254, 255, 256, 257, 258, 259, 260, 261, 262, 263, 264, 265, 266, 267, 268, 269, 270, 271, 272, 39, 273, 274, 275, 276, 277, 278, 279, 280, 281, 282, 283, 284, 285, 286, 287, 288, 289, 290, 291, 292, 293, 294, 295, 296, 297, 482, 483, 142, 484, 485, 486, 487, 488, 416, 417, 418, 489, 490, 437, 438, 439, 440, 441, 442, 443, 303, 304, 444, 306, 307, 308, 445, 446, 447, 448, 449, 450, 451, 452, 41, 491, 492, 493, 494, 129, 130, 131, 132, 495, 496, 497, 498, 499, 500, 501, 502, 21, 503, 504, 505, 20, 506, 62, 66, 507, 64, 508, 509, 510, 511, 512, 513, 514, 515, 516, 517, 518, 519, 520, 521, 522, 523, 524, 525, 526, 527, 528, 529, 530, 531, 532, 65, 85, 86, 87, 28, 88, 89, 90, 91, 92, 93, 94, 77, 95, 96, 97, 98, 99, 100, 101, 102, 103, 35, 104, 106, 107, 108, 109, 110, 111, 112, 113, 114, 115, 533, 534, 535, 536, 537, 538, 539, 540, 541, 542, 137, 138, 139, 543, 544, 545, 121, 122, 123, 546, 547, 548, 549, 550, 551, 552, 553, 617, 618, 619, 620, 621, 622, 623, 624, 625, 626, 627, 628, 629, 630, 631, 652, 653, 654, 649, 650, 651, 640, 641, 642, 643, 644, 645, 646, 647, 648, 632, 633, 634, 635, 636, 637, 638, 639] (by decide +kernel) (by decide +kernel)
set_option maxRecDepth 20000 in
theorem gL_law_L_packs : GoodIn wsL_law (va_wsS RL 134 yL_packs wsL_packs) := goodIn_app (goodIn_of _ (by decide +kernel)) ggL_law_L_packs
set_option maxRecDepth 20000 in
theorem ggL_law_L_alike : GoodIn wsL_law wsL_alike := goodIn_r _ [556, 491, 492, 493, 2, 494, 13, 83, 129, 130, 131, 132, 84, 495, 496, 497, 38, 498, 238, 239, 240, 241, 48, 246, 247, 248, 249, 250, 251, 252, 253, 254, 255, 256, 257, 242, 243, 244, 245, 49, 557, 558, 142, 559, 298, 299, 300, 301, 302, 303, 304, 305, 306, 307, 308, 617, 618, 619, 620, 621, 622, 623, 624, 625, 626, 627, 628, 629, 630, 631, 652, 653, 654] (by decide +kernel) (by decide +kernel)
set_option maxRecDepth 20000 in
theorem gL_law_L_alike : GoodIn wsL_law (va_wsS RL 138 yL_alike wsL_alike) := goodIn_app (goodIn_of _ (by decide +kernel)) ggL_law_L_alike
set_option maxRecDepth 20000 in
theorem ggL_law_L_meets : GoodIn wsL_law wsL_meets := goodIn_r _ [562, 563, 564, 142, 565, 376, 377, 378, 2, 379, 13, 17, 380, 381, 382, 383, 128, 384, 163, 164, 12, 165, 40, 385, 386, 387, 16, 388, 57, 212, 176, 177, 178, 179, 162, 213, 214, 215, 216, 54, 217, 218, 219, 220, 175, 170, 221, 222, 186, 223, 224, 225, 226, 389, 390, 391, 392, 393, 394, 185, 187, 395, 396, 397, 398, 56, 208, 209, 210, 211, 55, 227, 228, 229, 230, 231, 232, 233, 234, 235, 38, 236, 237, 238, 239, 240, 241, 48, 242, 243, 244, 245, 49, 246, 247, 248, 249, 250, 251, 252, 253, 254, 255, 256, 257, 258, 259, 260, 261, 399, 263, 264, 265, 266, 267, 268, 566, 567, 568, 426, 427, 428, 429, 153, 416, 417, 418, 430, 172, 173, 174, 431, 432, 433, 434, 435, 436, 437, 438, 439, 440, 441, 442, 443, 303, 304, 444, 306, 307, 308, 445, 446, 447, 448, 196, 197, 198, 199, 42, 200, 201, 202, 203, 43, 449, 450, 451, 452, 41, 453, 193, 194, 195, 454, 455, 569, 570, 571, 572, 573, 574, 575, 576, 577, 578, 579, 557, 558, 559, 298, 299, 300, 301, 83, 129, 130, 131, 132, 84, 302, 305, 580, 581, 582, 583, 584, 617, 618, 619, 620, 621, 622, 623, 624, 625, 626, 627, 628, 629, 630, 631, 632, 633, 634, 635, 652, 653, 654] (by decide +kernel) (by decide +kernel)
set_option maxRecDepth 20000 in
theorem gL_law_L_meets : GoodIn wsL_law (va_wsS RL 140 yL_meets wsL_meets) := goodIn_app (goodIn_of _ (by decide +kernel)) ggL_law_L_meets
set_option maxRecDepth 20000 in
theorem ggL_law_L_turns : GoodIn wsL_law wsL_turns := goodIn_r _ [587, 149, 150, 151, 2, 152, 13, 83, 84, 128, 17, 153, 154, 155, 29, 156, 25, 157, 158, 159, 160, 12, 161, 105, 162, 163, 164, 165, 40, 166, 167, 168, 16, 169, 57, 170, 171, 172, 173, 174, 175, 176, 177, 178, 179, 180, 181, 182, 183, 184, 185, 186, 187, 188, 189, 190, 191, 192, 193, 194, 195, 196, 197, 198, 199, 42, 200, 201, 202, 203, 43, 204, 205, 206, 207, 56, 208, 209, 210, 211, 212, 55, 213, 214, 215, 216, 54, 217, 218, 219, 220, 221, 222, 223, 224, 225, 226, 227, 228, 229, 230, 231, 232, 233, 234, 235, 38, 236, 237, 238, 239, 240, 241, 48, 242, 243, 244, 245, 49, 246, 247, 248, 249, 250, 251, 252, 253, 254, 255, 256, 257, 258, 259, 260, 261, 262, 263, 264, 265, 266, 267, 268, 269, 270, 271, 272, 39, 273, 274, 275, 276, 277, 278, 279, 280, 281, 282, 283, 284, 285, 286, 287, 288, 289, 290, 291, 292, 293, 294, 295, 296, 297, 563, 564, 142, 565, 376, 377, 378, 379, 380, 381, 382, 383, 384, 385, 386, 387, 388, 389, 390, 391, 392, 393, 394, 395, 396, 397, 398, 399, 569, 570, 571, 572, 416, 417, 418, 573, 574, 575, 576, 588, 589, 590, 591, 489, 584, 426, 427, 428, 429, 430, 431, 432, 433, 434, 435, 436, 437, 438, 439, 440, 441, 442, 443, 303, 304, 444, 306, 307, 308, 445, 446, 447, 448, 449, 450, 451, 452, 41, 453, 454, 455, 617, 618, 619, 620, 621, 622, 623, 624, 625, 626, 627, 628, 629, 630, 631, 652, 653, 654, 649, 650, 651, 640, 641, 642, 643, 644, 645, 646, 647, 648, 632, 633, 634, 635] (by decide +kernel) (by decide +kernel)
set_option maxRecDepth 20000 in
theorem gL_law_L_turns : GoodIn wsL_law (va_wsS RL 143 yL_turns wsL_turns) := goodIn_app (goodIn_of _ (by decide +kernel)) ggL_law_L_turns
set_option maxRecDepth 20000 in
theorem ggL_law_L_colors : GoodIn wsL_law wsL_colors := goodIn_r _ [594, 595, 596, 142, 597, 149, 150, 151, 2, 152, 13, 83, 84, 128, 17, 153, 154, 155, 29, 156, 25, 157, 158, 159, 160, 12, 161, 105, 162, 163, 164, 165, 40, 166, 167, 168, 16, 169, 57, 170, 171, 172, 173, 174, 175, 176, 177, 178, 179, 180, 181, 182, 183, 184, 185, 186, 187, 188, 189, 190, 191, 192, 193, 194, 195, 196, 197, 198, 199, 42, 200, 201, 202, 203, 43, 204, 205, 206, 207, 56, 208, 209, 210, 211, 212, 55, 213, 214, 215, 216, 54, 217, 218, 219, 220, 221, 222, 223, 224, 225, 226, 227, 228, 229, 230, 231, 232, 233, 234, 235, 38, 236, 237, 238, 239, 240, 241, 48, 242, 243, 244, 245, 49, 246, 247, 248, 249, 250, 251, 252, 253, 254, 255, 256, 257, 258, 259, 260, 261, 262, 263, 264, 265, 266, 267, 268, 269, 270, 271, 272, 39, 273, 274, 275, 276, 277, 278, 279, 280, 281, 282, 283, 284, 285, 286, 287, 288, 289, 290, 291, 292, 293, 294, 295, 296, 297, 577, 578, 579, 376, 377, 378, 379, 380, 381, 382, 383, 384, 385, 386, 387, 388, 389, 390, 391, 392, 393, 394, 395, 396, 397, 398, 399, 557, 558, 559, 298, 299, 300, 301, 129, 130, 131, 132, 302, 303, 304, 305, 306, 307, 308, 566, 567, 568, 426, 427, 428, 429, 416, 417, 418, 430, 431, 432, 433, 434, 435, 436, 437, 438, 439, 440, 441, 442, 443, 444, 445, 446, 447, 448, 449, 450, 451, 452, 41, 453, 454, 455, 569, 570, 571, 572, 573, 574, 575, 576, 485, 486, 487, 488, 489, 490, 617, 618, 619, 620, 621, 622, 623, 624, 625, 626, 627, 628, 629, 630, 631, 652, 653, 654, 649, 650, 651, 640, 641, 642, 643, 644, 645, 646, 647, 648, 632, 633, 634, 635] (by decide +kernel) (by decide +kernel)
set_option maxRecDepth 20000 in
theorem gL_law_L_colors : GoodIn wsL_law (va_wsS RL 147 yL_colors wsL_colors) := goodIn_app (goodIn_of _ (by decide +kernel)) ggL_law_L_colors
set_option maxRecDepth 20000 in
theorem ggL_law_L_sprites : GoodIn wsL_law wsL_sprites := goodIn_r _ [600, 149, 150, 151, 2, 152, 13, 83, 84, 128, 17, 153, 154, 155, 29, 156, 25, 157, 158, 159, 160, 12, 161, 105, 162, 163, 164, 165, 40, 166, 167, 168, 16, 169, 57, 170, 171, 172, 173, 174, 175, 176, 177, 178, 179, 180, 181, 182, 183, 184, 185, 186, 187, 188, 189, 190, 191, 192, 193, 194, 195, 196, 197, 198, 199, 42, 200, 201, 202, 203, 43, 204, 205, 206, 207, 56, 208, 209, 210, 211, 212, 55, 213, 214, 215, 216, 54, 217, 218, 219, 220, 221, 222, 223, 224, 225, 226, 227, 228, 229, 230, 231, 232, 233, 234, 235, 38, 236, 237, 238, 239, 240, 241, 48, 242, 243, 244, 245, 49, 246, 247, 248, 249, 250, 251, 252, 253, 254, 255, 256, 257, 258, 259, 260, 261, 262, 263, 264, 265, 266, 267, 268, 269, 270, 271, 272, 39, 273, 274, 275, 276, 277, 278, 279, 280, 281, 282, 283, 284, 285, 286, 287, 288, 289, 290, 291, 292, 293, 294, 295, 296, 297, 376, 377, 378, 379, 380, 381, 382, 383, 384, 385, 386, 387, 388, 389, 390, 391, 392, 393, 394, 395, 396, 397, 398, 399, 563, 564, 142, 565, 566, 567, 568, 426, 427, 428, 429, 416, 417, 418, 430, 431, 432, 433, 434, 435, 436, 437, 438, 439, 440, 441, 442, 443, 303, 304, 444, 306, 307, 308, 445, 446, 447, 448, 449, 450, 451, 452, 41, 453, 454, 455, 569, 570, 571, 572, 573, 574, 575, 576, 580, 581, 582, 583, 584, 617, 618, 619, 620, 621, 622, 623, 624, 625, 626, 627, 628, 629, 630, 631, 652, 653, 654, 649, 650, 651, 640, 641, 642, 643, 644, 645, 646, 647, 648, 632, 633, 634, 635] (by decide +kernel) (by decide +kernel)
set_option maxRecDepth 20000 in
theorem gL_law_L_sprites : GoodIn wsL_law (va_wsS RL 151 yL_sprites wsL_sprites) := goodIn_app (goodIn_of _ (by decide +kernel)) ggL_law_L_sprites
set_option maxRecDepth 20000 in
theorem ggL_law_L_errors : GoodIn wsL_law wsL_errors := goodIn_r _ [603, 604, 149, 150, 151, 2, 152, 13, 83, 84, 128, 17, 153, 154, 155, 29, 156, 25, 157, 158, 159, 160, 12, 161, 105, 162, 163, 164, 165, 40, 166, 167, 168, 16, 169, 57, 170, 171, 172, 173, 174, 175, 176, 177, 178, 179, 180, 181, 182, 183, 184, 185, 186, 187, 188, 189, 190, 191, 192, 193, 194, 195, 196, 197, 198, 199, 42, 200, 201, 202, 203, 43, 204, 205, 206, 207, 56, 208, 209, 210, 211, 212, 55, 213, 214, 215, 216, 54, 217, 218, 219, 220, 221, 222, 223, 224, 225, 226, 227, 228, 229, 230, 231, 232, 233, 234, 235, 38, 236, 237, 238, 239, 240, 241, 48, 242, 243, 244, 245, 49, 246, 247, 248, 249, 250, 251, 252, 253, 254, 255, 256, 257, 258, 259, 260, 261, 262, 263, 264, 265, 266, 267, 268, 269, 270, 271, 272, 39, 273, 274, 275, 276, 277, 278, 279, 280, 281, 282, 283, 284, 285, 286, 287, 288, 289, 290, 291, 292, 293, 294, 295, 296, 297, 309, 310, 311, 312, 129, 130, 131, 132, 302, 303, 304, 85, 86, 87, 28, 88, 89, 90, 91, 92, 93, 94, 77, 95, 96, 97, 98, 99, 100, 101, 102, 103, 35, 104, 106, 107, 108, 109, 41, 110, 111, 112, 113, 114, 115, 305, 306, 307, 308, 313, 314, 315, 316, 317, 120, 121, 122, 123, 470, 471, 472, 473, 419, 420, 421, 474, 450, 451, 452, 475, 476, 477, 478, 124, 125, 126, 127, 133, 134, 135, 136, 137, 138, 139, 408, 409, 410, 411, 380, 381, 382, 383, 389, 390, 391, 392, 393, 394, 400, 401, 402, 403, 404, 405, 406, 407, 384, 412, 413, 414, 415, 416, 417, 418, 422, 423, 424, 425, 456, 457, 458, 459, 460, 461, 462, 463, 464, 465, 466, 467, 468, 469, 298, 299, 300, 301, 491, 492, 493, 494, 495, 496, 497, 498, 580, 581, 582, 583, 395, 396, 397, 398, 584, 426, 427, 428, 429, 430, 431, 432, 433, 434, 435, 436, 437, 438, 439, 440, 441, 442, 443, 444, 445, 446, 447, 448, 449, 453, 454, 455, 569, 570, 571, 572, 573, 574, 575, 576, 588, 589, 590, 591, 489, 605, 606, 607, 608, 30, 10, 11, 609, 610, 611, 31, 32, 33, 34, 8, 9, 36, 37, 3, 44, 45, 46, 47, 612, 613, 614, 615, 616, 617, 618, 619, 620, 621, 622, 623, 624, 625, 626, 627, 628, 629, 630, 631, 652, 653, 654, 649, 650, 651, 640, 641, 642, 643, 644, 645, 646, 647, 648, 632, 633, 634, 635] (by decide +kernel) (by decide +kernel)
