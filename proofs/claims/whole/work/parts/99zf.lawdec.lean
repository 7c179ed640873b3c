/-! THE LAW: its instructions -/
def zf_all (l : List (Nat × Instr × Nat)) : Bool := l.all (fun q => decide (decode cL_law q.1 = .ok (q.2.1, q.2.2)))
theorem zf_at {l : List (Nat × Instr × Nat)} (h : zf_all l = true) (i : Nat) {pc len : Nat} {ins : Instr} (hi : l[i]? = some (pc, ins, len)) : decode cL_law pc = .ok (ins, len) := by
  have h1 := List.all_eq_true.mp h _ (List.mem_of_getElem? hi)
  exact of_decide_eq_true h1
theorem zf_0 : zf_all [(280, .aload_n 1, 1), (281, .aload_n 0, 1), (282, .iload 5, 2), (284, .iconst 1, 1), (285, .iadd, 1), (286, .iaload, 1), (287, .aload_n 0, 1), (288, .iload 5, 2), (290, .iconst 2, 1), (291, .iadd, 1), (292, .iaload, 1), (293, .aload_n 0, 1), (294, .iload 5, 2), (296, .iconst 3, 1), (297, .iadd, 1), (298, .iaload, 1), (299, .aload_n 0, 1), (300, .iload 5, 2), (302, .iconst 4, 1), (303, .iadd, 1), (304, .iaload, 1), (305, .aload_n 0, 1), (306, .iload 5, 2), (308, .iconst 5, 1), (309, .iadd, 1), (310, .iaload, 1), (311, .invokevirtual 178, 3), (314, .aload_n 2, 1), (315, .aload_n 0, 1), (316, .iload 5, 2), (318, .iconst 1, 1), (319, .iadd, 1), (320, .iaload, 1), (321, .aload_n 0, 1), (322, .iload 5, 2), (324, .iconst 2, 1), (325, .iadd, 1), (326, .iaload, 1), (327, .aload_n 0, 1), (328, .iload 5, 2), (330, .iconst 3, 1), (331, .iadd, 1), (332, .iaload, 1), (333, .aload_n 0, 1), (334, .iload 5, 2), (336, .iconst 4, 1), (337, .iadd, 1), (338, .iaload, 1), (339, .aload_n 0, 1), (340, .iload 5, 2), (342, .iconst 5, 1), (343, .iadd, 1), (344, .iaload, 1), (345, .invokevirtual 182, 3), (348, .if_icmp .eq 3056, 3)] = true := by decide +kernel
theorem dL_law_280 : decode cL_law 280 = .ok (.aload_n 1, 1) := zf_at zf_0 0 rfl
theorem dL_law_281 : decode cL_law 281 = .ok (.aload_n 0, 1) := zf_at zf_0 1 rfl
theorem dL_law_282 : decode cL_law 282 = .ok (.iload 5, 2) := zf_at zf_0 2 rfl
theorem dL_law_284 : decode cL_law 284 = .ok (.iconst 1, 1) := zf_at zf_0 3 rfl
theorem dL_law_285 : decode cL_law 285 = .ok (.iadd, 1) := zf_at zf_0 4 rfl
theorem dL_law_286 : decode cL_law 286 = .ok (.iaload, 1) := zf_at zf_0 5 rfl
theorem dL_law_287 : decode cL_law 287 = .ok (.aload_n 0, 1) := zf_at zf_0 6 rfl
theorem dL_law_288 : decode cL_law 288 = .ok (.iload 5, 2) := zf_at zf_0 7 rfl
theorem dL_law_290 : decode cL_law 290 = .ok (.iconst 2, 1) := zf_at zf_0 8 rfl
theorem dL_law_291 : decode cL_law 291 = .ok (.iadd, 1) := zf_at zf_0 9 rfl
theorem dL_law_292 : decode cL_law 292 = .ok (.iaload, 1) := zf_at zf_0 10 rfl
theorem dL_law_293 : decode cL_law 293 = .ok (.aload_n 0, 1) := zf_at zf_0 11 rfl
theorem dL_law_294 : decode cL_law 294 = .ok (.iload 5, 2) := zf_at zf_0 12 rfl
theorem dL_law_296 : decode cL_law 296 = .ok (.iconst 3, 1) := zf_at zf_0 13 rfl
theorem dL_law_297 : decode cL_law 297 = .ok (.iadd, 1) := zf_at zf_0 14 rfl
theorem dL_law_298 : decode cL_law 298 = .ok (.iaload, 1) := zf_at zf_0 15 rfl
theorem dL_law_299 : decode cL_law 299 = .ok (.aload_n 0, 1) := zf_at zf_0 16 rfl
theorem dL_law_300 : decode cL_law 300 = .ok (.iload 5, 2) := zf_at zf_0 17 rfl
theorem dL_law_302 : decode cL_law 302 = .ok (.iconst 4, 1) := zf_at zf_0 18 rfl
theorem dL_law_303 : decode cL_law 303 = .ok (.iadd, 1) := zf_at zf_0 19 rfl
theorem dL_law_304 : decode cL_law 304 = .ok (.iaload, 1) := zf_at zf_0 20 rfl
theorem dL_law_305 : decode cL_law 305 = .ok (.aload_n 0, 1) := zf_at zf_0 21 rfl
theorem dL_law_306 : decode cL_law 306 = .ok (.iload 5, 2) := zf_at zf_0 22 rfl
theorem dL_law_308 : decode cL_law 308 = .ok (.iconst 5, 1) := zf_at zf_0 23 rfl
theorem dL_law_309 : decode cL_law 309 = .ok (.iadd, 1) := zf_at zf_0 24 rfl
theorem dL_law_310 : decode cL_law 310 = .ok (.iaload, 1) := zf_at zf_0 25 rfl
theorem dL_law_311 : decode cL_law 311 = .ok (.invokevirtual 178, 3) := zf_at zf_0 26 rfl
theorem dL_law_314 : decode cL_law 314 = .ok (.aload_n 2, 1) := zf_at zf_0 27 rfl
theorem dL_law_315 : decode cL_law 315 = .ok (.aload_n 0, 1) := zf_at zf_0 28 rfl
theorem dL_law_316 : decode cL_law 316 = .ok (.iload 5, 2) := zf_at zf_0 29 rfl
theorem dL_law_318 : decode cL_law 318 = .ok (.iconst 1, 1) := zf_at zf_0 30 rfl
theorem dL_law_319 : decode cL_law 319 = .ok (.iadd, 1) := zf_at zf_0 31 rfl
theorem dL_law_320 : decode cL_law 320 = .ok (.iaload, 1) := zf_at zf_0 32 rfl
theorem dL_law_321 : decode cL_law 321 = .ok (.aload_n 0, 1) := zf_at zf_0 33 rfl
theorem dL_law_322 : decode cL_law 322 = .ok (.iload 5, 2) := zf_at zf_0 34 rfl
theorem dL_law_324 : decode cL_law 324 = .ok (.iconst 2, 1) := zf_at zf_0 35 rfl
theorem dL_law_325 : decode cL_law 325 = .ok (.iadd, 1) := zf_at zf_0 36 rfl
theorem dL_law_326 : decode cL_law 326 = .ok (.iaload, 1) := zf_at zf_0 37 rfl
theorem dL_law_327 : decode cL_law 327 = .ok (.aload_n 0, 1) := zf_at zf_0 38 rfl
theorem dL_law_328 : decode cL_law 328 = .ok (.iload 5, 2) := zf_at zf_0 39 rfl
theorem dL_law_330 : decode cL_law 330 = .ok (.iconst 3, 1) := zf_at zf_0 40 rfl
theorem dL_law_331 : decode cL_law 331 = .ok (.iadd, 1) := zf_at zf_0 41 rfl
theorem dL_law_332 : decode cL_law 332 = .ok (.iaload, 1) := zf_at zf_0 42 rfl
theorem dL_law_333 : decode cL_law 333 = .ok (.aload_n 0, 1) := zf_at zf_0 43 rfl
theorem dL_law_334 : decode cL_law 334 = .ok (.iload 5, 2) := zf_at zf_0 44 rfl
theorem dL_law_336 : decode cL_law 336 = .ok (.iconst 4, 1) := zf_at zf_0 45 rfl
theorem dL_law_337 : decode cL_law 337 = .ok (.iadd, 1) := zf_at zf_0 46 rfl
theorem dL_law_338 : decode cL_law 338 = .ok (.iaload, 1) := zf_at zf_0 47 rfl
theorem dL_law_339 : decode cL_law 339 = .ok (.aload_n 0, 1) := zf_at zf_0 48 rfl
theorem dL_law_340 : decode cL_law 340 = .ok (.iload 5, 2) := zf_at zf_0 49 rfl
theorem dL_law_342 : decode cL_law 342 = .ok (.iconst 5, 1) := zf_at zf_0 50 rfl
theorem dL_law_343 : decode cL_law 343 = .ok (.iadd, 1) := zf_at zf_0 51 rfl
theorem dL_law_344 : decode cL_law 344 = .ok (.iaload, 1) := zf_at zf_0 52 rfl
theorem dL_law_345 : decode cL_law 345 = .ok (.invokevirtual 182, 3) := zf_at zf_0 53 rfl
theorem dL_law_348 : decode cL_law 348 = .ok (.if_icmp .eq 3056, 3) := zf_at zf_0 54 rfl
theorem zf_1 : zf_all [(353, .aload_n 1, 1), (354, .aload_n 0, 1), (355, .iload 5, 2), (357, .iconst 1, 1), (358, .iadd, 1), (359, .iaload, 1), (360, .aload_n 3, 1), (361, .invokestatic 183, 3), (364, .istore 6, 2), (366, .aload_n 2, 1), (367, .aload_n 0, 1), (368, .iload 5, 2), (370, .iconst 1, 1), (371, .iadd, 1), (372, .iaload, 1), (373, .invokevirtual 188, 3), (376, .istore 7, 2), (378, .aload_n 2, 1), (379, .invokevirtual 189, 3), (382, .iload 6, 2), (384, .if_icmp .eq 5, 3), (389, .iload 6, 2), (391, .ifCond .ne 15, 3), (394, .aload_n 3, 1), (395, .iconst 0, 1), (396, .laload, 1), (397, .iload 7, 2), (399, .i2l, 1), (400, .lcmp, 1), (401, .ifCond .eq 5, 3), (406, .goto 2998, 3)] = true := by decide +kernel
theorem dL_law_353 : decode cL_law 353 = .ok (.aload_n 1, 1) := zf_at zf_1 0 rfl
theorem dL_law_354 : decode cL_law 354 = .ok (.aload_n 0, 1) := zf_at zf_1 1 rfl
theorem dL_law_355 : decode cL_law 355 = .ok (.iload 5, 2) := zf_at zf_1 2 rfl
theorem dL_law_357 : decode cL_law 357 = .ok (.iconst 1, 1) := zf_at zf_1 3 rfl
theorem dL_law_358 : decode cL_law 358 = .ok (.iadd, 1) := zf_at zf_1 4 rfl
theorem dL_law_359 : decode cL_law 359 = .ok (.iaload, 1) := zf_at zf_1 5 rfl
theorem dL_law_360 : decode cL_law 360 = .ok (.aload_n 3, 1) := zf_at zf_1 6 rfl
theorem dL_law_361 : decode cL_law 361 = .ok (.invokestatic 183, 3) := zf_at zf_1 7 rfl
theorem dL_law_364 : decode cL_law 364 = .ok (.istore 6, 2) := zf_at zf_1 8 rfl
theorem dL_law_366 : decode cL_law 366 = .ok (.aload_n 2, 1) := zf_at zf_1 9 rfl
theorem dL_law_367 : decode cL_law 367 = .ok (.aload_n 0, 1) := zf_at zf_1 10 rfl
theorem dL_law_368 : decode cL_law 368 = .ok (.iload 5, 2) := zf_at zf_1 11 rfl
theorem dL_law_370 : decode cL_law 370 = .ok (.iconst 1, 1) := zf_at zf_1 12 rfl
theorem dL_law_371 : decode cL_law 371 = .ok (.iadd, 1) := zf_at zf_1 13 rfl
theorem dL_law_372 : decode cL_law 372 = .ok (.iaload, 1) := zf_at zf_1 14 rfl
theorem dL_law_373 : decode cL_law 373 = .ok (.invokevirtual 188, 3) := zf_at zf_1 15 rfl
theorem dL_law_376 : decode cL_law 376 = .ok (.istore 7, 2) := zf_at zf_1 16 rfl
theorem dL_law_378 : decode cL_law 378 = .ok (.aload_n 2, 1) := zf_at zf_1 17 rfl
theorem dL_law_379 : decode cL_law 379 = .ok (.invokevirtual 189, 3) := zf_at zf_1 18 rfl
theorem dL_law_382 : decode cL_law 382 = .ok (.iload 6, 2) := zf_at zf_1 19 rfl
theorem dL_law_384 : decode cL_law 384 = .ok (.if_icmp .eq 5, 3) := zf_at zf_1 20 rfl
theorem dL_law_389 : decode cL_law 389 = .ok (.iload 6, 2) := zf_at zf_1 21 rfl
theorem dL_law_391 : decode cL_law 391 = .ok (.ifCond .ne 15, 3) := zf_at zf_1 22 rfl
theorem dL_law_394 : decode cL_law 394 = .ok (.aload_n 3, 1) := zf_at zf_1 23 rfl
theorem dL_law_395 : decode cL_law 395 = .ok (.iconst 0, 1) := zf_at zf_1 24 rfl
theorem dL_law_396 : decode cL_law 396 = .ok (.laload, 1) := zf_at zf_1 25 rfl
theorem dL_law_397 : decode cL_law 397 = .ok (.iload 7, 2) := zf_at zf_1 26 rfl
theorem dL_law_399 : decode cL_law 399 = .ok (.i2l, 1) := zf_at zf_1 27 rfl
theorem dL_law_400 : decode cL_law 400 = .ok (.lcmp, 1) := zf_at zf_1 28 rfl
theorem dL_law_401 : decode cL_law 401 = .ok (.ifCond .eq 5, 3) := zf_at zf_1 29 rfl
theorem dL_law_406 : decode cL_law 406 = .ok (.goto 2998, 3) := zf_at zf_1 30 rfl
theorem zf_2 : zf_all [(409, .aload_n 1, 1), (410, .invokevirtual 192, 3), (413, .aload_n 2, 1), (414, .invokevirtual 195, 3), (417, .if_icmp .eq 2987, 3)] = true := by decide +kernel
theorem dL_law_409 : decode cL_law 409 = .ok (.aload_n 1, 1) := zf_at zf_2 0 rfl
theorem dL_law_410 : decode cL_law 410 = .ok (.invokevirtual 192, 3) := zf_at zf_2 1 rfl
theorem dL_law_413 : decode cL_law 413 = .ok (.aload_n 2, 1) := zf_at zf_2 2 rfl
theorem dL_law_414 : decode cL_law 414 = .ok (.invokevirtual 195, 3) := zf_at zf_2 3 rfl
theorem dL_law_417 : decode cL_law 417 = .ok (.if_icmp .eq 2987, 3) := zf_at zf_2 4 rfl
theorem zf_3 : zf_all [(422, .aload_n 1, 1), (423, .invokevirtual 196, 3), (426, .aload_n 2, 1), (427, .invokevirtual 199, 3), (430, .if_icmp .eq 2974, 3)] = true := by decide +kernel
theorem dL_law_422 : decode cL_law 422 = .ok (.aload_n 1, 1) := zf_at zf_3 0 rfl
theorem dL_law_423 : decode cL_law 423 = .ok (.invokevirtual 196, 3) := zf_at zf_3 1 rfl
theorem dL_law_426 : decode cL_law 426 = .ok (.aload_n 2, 1) := zf_at zf_3 2 rfl
theorem dL_law_427 : decode cL_law 427 = .ok (.invokevirtual 199, 3) := zf_at zf_3 3 rfl
theorem dL_law_430 : decode cL_law 430 = .ok (.if_icmp .eq 2974, 3) := zf_at zf_3 4 rfl
theorem zf_4 : zf_all [(435, .aload_n 1, 1), (436, .invokevirtual 200, 3), (439, .aload_n 2, 1), (440, .invokevirtual 203, 3), (443, .if_icmp .eq 2961, 3)] = true := by decide +kernel
theorem dL_law_435 : decode cL_law 435 = .ok (.aload_n 1, 1) := zf_at zf_4 0 rfl
theorem dL_law_436 : decode cL_law 436 = .ok (.invokevirtual 200, 3) := zf_at zf_4 1 rfl
theorem dL_law_439 : decode cL_law 439 = .ok (.aload_n 2, 1) := zf_at zf_4 2 rfl
theorem dL_law_440 : decode cL_law 440 = .ok (.invokevirtual 203, 3) := zf_at zf_4 3 rfl
theorem dL_law_443 : decode cL_law 443 = .ok (.if_icmp .eq 2961, 3) := zf_at zf_4 4 rfl
theorem zf_5 : zf_all [(448, .aload_n 1, 1), (449, .aload_n 0, 1), (450, .iload 5, 2), (452, .iconst 1, 1), (453, .iadd, 1), (454, .iaload, 1), (455, .aload_n 3, 1), (456, .invokestatic 204, 3), (459, .istore 6, 2), (461, .aload_n 2, 1), (462, .aload_n 0, 1), (463, .iload 5, 2), (465, .iconst 1, 1), (466, .iadd, 1), (467, .iaload, 1), (468, .invokevirtual 206, 3), (471, .istore 7, 2), (473, .aload_n 2, 1), (474, .invokevirtual 189, 3), (477, .iload 6, 2), (479, .if_icmp .eq 5, 3), (484, .iload 6, 2), (486, .ifCond .ne 15, 3), (489, .aload_n 3, 1), (490, .iconst 0, 1), (491, .laload, 1), (492, .iload 7, 2), (494, .i2l, 1), (495, .lcmp, 1), (496, .ifCond .eq 5, 3), (501, .goto 2903, 3)] = true := by decide +kernel
theorem dL_law_448 : decode cL_law 448 = .ok (.aload_n 1, 1) := zf_at zf_5 0 rfl
theorem dL_law_449 : decode cL_law 449 = .ok (.aload_n 0, 1) := zf_at zf_5 1 rfl
theorem dL_law_450 : decode cL_law 450 = .ok (.iload 5, 2) := zf_at zf_5 2 rfl
theorem dL_law_452 : decode cL_law 452 = .ok (.iconst 1, 1) := zf_at zf_5 3 rfl
theorem dL_law_453 : decode cL_law 453 = .ok (.iadd, 1) := zf_at zf_5 4 rfl
theorem dL_law_454 : decode cL_law 454 = .ok (.iaload, 1) := zf_at zf_5 5 rfl
theorem dL_law_455 : decode cL_law 455 = .ok (.aload_n 3, 1) := zf_at zf_5 6 rfl
theorem dL_law_456 : decode cL_law 456 = .ok (.invokestatic 204, 3) := zf_at zf_5 7 rfl
theorem dL_law_459 : decode cL_law 459 = .ok (.istore 6, 2) := zf_at zf_5 8 rfl
theorem dL_law_461 : decode cL_law 461 = .ok (.aload_n 2, 1) := zf_at zf_5 9 rfl
theorem dL_law_462 : decode cL_law 462 = .ok (.aload_n 0, 1) := zf_at zf_5 10 rfl
theorem dL_law_463 : decode cL_law 463 = .ok (.iload 5, 2) := zf_at zf_5 11 rfl
theorem dL_law_465 : decode cL_law 465 = .ok (.iconst 1, 1) := zf_at zf_5 12 rfl
theorem dL_law_466 : decode cL_law 466 = .ok (.iadd, 1) := zf_at zf_5 13 rfl
theorem dL_law_467 : decode cL_law 467 = .ok (.iaload, 1) := zf_at zf_5 14 rfl
theorem dL_law_468 : decode cL_law 468 = .ok (.invokevirtual 206, 3) := zf_at zf_5 15 rfl
theorem dL_law_471 : decode cL_law 471 = .ok (.istore 7, 2) := zf_at zf_5 16 rfl
theorem dL_law_473 : decode cL_law 473 = .ok (.aload_n 2, 1) := zf_at zf_5 17 rfl
theorem dL_law_474 : decode cL_law 474 = .ok (.invokevirtual 189, 3) := zf_at zf_5 18 rfl
theorem dL_law_477 : decode cL_law 477 = .ok (.iload 6, 2) := zf_at zf_5 19 rfl
theorem dL_law_479 : decode cL_law 479 = .ok (.if_icmp .eq 5, 3) := zf_at zf_5 20 rfl
theorem dL_law_484 : decode cL_law 484 = .ok (.iload 6, 2) := zf_at zf_5 21 rfl
theorem dL_law_486 : decode cL_law 486 = .ok (.ifCond .ne 15, 3) := zf_at zf_5 22 rfl
theorem dL_law_489 : decode cL_law 489 = .ok (.aload_n 3, 1) := zf_at zf_5 23 rfl
theorem dL_law_490 : decode cL_law 490 = .ok (.iconst 0, 1) := zf_at zf_5 24 rfl
theorem dL_law_491 : decode cL_law 491 = .ok (.laload, 1) := zf_at zf_5 25 rfl
theorem dL_law_492 : decode cL_law 492 = .ok (.iload 7, 2) := zf_at zf_5 26 rfl
theorem dL_law_494 : decode cL_law 494 = .ok (.i2l, 1) := zf_at zf_5 27 rfl
theorem dL_law_495 : decode cL_law 495 = .ok (.lcmp, 1) := zf_at zf_5 28 rfl
theorem dL_law_496 : decode cL_law 496 = .ok (.ifCond .eq 5, 3) := zf_at zf_5 29 rfl
theorem dL_law_501 : decode cL_law 501 = .ok (.goto 2903, 3) := zf_at zf_5 30 rfl
theorem zf_6 : zf_all [(504, .aload_n 1, 1), (505, .aload_n 0, 1), (506, .iload 5, 2), (508, .iconst 1, 1), (509, .iadd, 1), (510, .iaload, 1), (511, .aload_n 3, 1), (512, .invokestatic 207, 3), (515, .istore 6, 2), (517, .aload_n 2, 1), (518, .aload_n 0, 1), (519, .iload 5, 2), (521, .iconst 1, 1), (522, .iadd, 1), (523, .iaload, 1), (524, .invokevirtual 209, 3), (527, .istore 7, 2), (529, .aload_n 2, 1), (530, .invokevirtual 189, 3), (533, .iload 6, 2), (535, .if_icmp .eq 5, 3), (540, .iload 6, 2), (542, .ifCond .ne 15, 3), (545, .aload_n 3, 1), (546, .iconst 0, 1), (547, .laload, 1), (548, .iload 7, 2), (550, .i2l, 1), (551, .lcmp, 1), (552, .ifCond .eq 5, 3), (557, .goto 2847, 3)] = true := by decide +kernel
theorem dL_law_504 : decode cL_law 504 = .ok (.aload_n 1, 1) := zf_at zf_6 0 rfl
theorem dL_law_505 : decode cL_law 505 = .ok (.aload_n 0, 1) := zf_at zf_6 1 rfl
theorem dL_law_506 : decode cL_law 506 = .ok (.iload 5, 2) := zf_at zf_6 2 rfl
theorem dL_law_508 : decode cL_law 508 = .ok (.iconst 1, 1) := zf_at zf_6 3 rfl
theorem dL_law_509 : decode cL_law 509 = .ok (.iadd, 1) := zf_at zf_6 4 rfl
theorem dL_law_510 : decode cL_law 510 = .ok (.iaload, 1) := zf_at zf_6 5 rfl
theorem dL_law_511 : decode cL_law 511 = .ok (.aload_n 3, 1) := zf_at zf_6 6 rfl
theorem dL_law_512 : decode cL_law 512 = .ok (.invokestatic 207, 3) := zf_at zf_6 7 rfl
theorem dL_law_515 : decode cL_law 515 = .ok (.istore 6, 2) := zf_at zf_6 8 rfl
theorem dL_law_517 : decode cL_law 517 = .ok (.aload_n 2, 1) := zf_at zf_6 9 rfl
theorem dL_law_518 : decode cL_law 518 = .ok (.aload_n 0, 1) := zf_at zf_6 10 rfl
theorem dL_law_519 : decode cL_law 519 = .ok (.iload 5, 2) := zf_at zf_6 11 rfl
theorem dL_law_521 : decode cL_law 521 = .ok (.iconst 1, 1) := zf_at zf_6 12 rfl
theorem dL_law_522 : decode cL_law 522 = .ok (.iadd, 1) := zf_at zf_6 13 rfl
theorem dL_law_523 : decode cL_law 523 = .ok (.iaload, 1) := zf_at zf_6 14 rfl
theorem dL_law_524 : decode cL_law 524 = .ok (.invokevirtual 209, 3) := zf_at zf_6 15 rfl
theorem dL_law_527 : decode cL_law 527 = .ok (.istore 7, 2) := zf_at zf_6 16 rfl
theorem dL_law_529 : decode cL_law 529 = .ok (.aload_n 2, 1) := zf_at zf_6 17 rfl
theorem dL_law_530 : decode cL_law 530 = .ok (.invokevirtual 189, 3) := zf_at zf_6 18 rfl
theorem dL_law_533 : decode cL_law 533 = .ok (.iload 6, 2) := zf_at zf_6 19 rfl
theorem dL_law_535 : decode cL_law 535 = .ok (.if_icmp .eq 5, 3) := zf_at zf_6 20 rfl
theorem dL_law_540 : decode cL_law 540 = .ok (.iload 6, 2) := zf_at zf_6 21 rfl
theorem dL_law_542 : decode cL_law 542 = .ok (.ifCond .ne 15, 3) := zf_at zf_6 22 rfl
theorem dL_law_545 : decode cL_law 545 = .ok (.aload_n 3, 1) := zf_at zf_6 23 rfl
theorem dL_law_546 : decode cL_law 546 = .ok (.iconst 0, 1) := zf_at zf_6 24 rfl
theorem dL_law_547 : decode cL_law 547 = .ok (.laload, 1) := zf_at zf_6 25 rfl
theorem dL_law_548 : decode cL_law 548 = .ok (.iload 7, 2) := zf_at zf_6 26 rfl
theorem dL_law_550 : decode cL_law 550 = .ok (.i2l, 1) := zf_at zf_6 27 rfl
theorem dL_law_551 : decode cL_law 551 = .ok (.lcmp, 1) := zf_at zf_6 28 rfl
theorem dL_law_552 : decode cL_law 552 = .ok (.ifCond .eq 5, 3) := zf_at zf_6 29 rfl
theorem dL_law_557 : decode cL_law 557 = .ok (.goto 2847, 3) := zf_at zf_6 30 rfl
theorem zf_7 : zf_all [(560, .aload_n 1, 1), (561, .aload_n 0, 1), (562, .iload 5, 2), (564, .iconst 1, 1), (565, .iadd, 1), (566, .iaload, 1), (567, .aload_n 0, 1), (568, .iload 5, 2), (570, .iconst 2, 1), (571, .iadd, 1), (572, .iaload, 1), (573, .aload_n 3, 1), (574, .invokestatic 210, 3), (577, .istore 6, 2), (579, .aload_n 2, 1), (580, .aload_n 0, 1), (581, .iload 5, 2), (583, .iconst 1, 1), (584, .iadd, 1), (585, .iaload, 1), (586, .aload_n 0, 1), (587, .iload 5, 2), (589, .iconst 2, 1), (590, .iadd, 1), (591, .iaload, 1), (592, .invokevirtual 213, 3), (595, .istore 7, 2), (597, .aload_n 2, 1), (598, .invokevirtual 189, 3), (601, .iload 6, 2), (603, .if_icmp .eq 5, 3), (608, .iload 6, 2), (610, .ifCond .ne 15, 3), (613, .aload_n 3, 1), (614, .iconst 0, 1), (615, .laload, 1), (616, .iload 7, 2), (618, .i2l, 1), (619, .lcmp, 1), (620, .ifCond .eq 5, 3), (625, .goto 2779, 3)] = true := by decide +kernel
theorem dL_law_560 : decode cL_law 560 = .ok (.aload_n 1, 1) := zf_at zf_7 0 rfl
theorem dL_law_561 : decode cL_law 561 = .ok (.aload_n 0, 1) := zf_at zf_7 1 rfl
theorem dL_law_562 : decode cL_law 562 = .ok (.iload 5, 2) := zf_at zf_7 2 rfl
theorem dL_law_564 : decode cL_law 564 = .ok (.iconst 1, 1) := zf_at zf_7 3 rfl
theorem dL_law_565 : decode cL_law 565 = .ok (.iadd, 1) := zf_at zf_7 4 rfl
theorem dL_law_566 : decode cL_law 566 = .ok (.iaload, 1) := zf_at zf_7 5 rfl
theorem dL_law_567 : decode cL_law 567 = .ok (.aload_n 0, 1) := zf_at zf_7 6 rfl
theorem dL_law_568 : decode cL_law 568 = .ok (.iload 5, 2) := zf_at zf_7 7 rfl
theorem dL_law_570 : decode cL_law 570 = .ok (.iconst 2, 1) := zf_at zf_7 8 rfl
theorem dL_law_571 : decode cL_law 571 = .ok (.iadd, 1) := zf_at zf_7 9 rfl
theorem dL_law_572 : decode cL_law 572 = .ok (.iaload, 1) := zf_at zf_7 10 rfl
theorem dL_law_573 : decode cL_law 573 = .ok (.aload_n 3, 1) := zf_at zf_7 11 rfl
theorem dL_law_574 : decode cL_law 574 = .ok (.invokestatic 210, 3) := zf_at zf_7 12 rfl
theorem dL_law_577 : decode cL_law 577 = .ok (.istore 6, 2) := zf_at zf_7 13 rfl
theorem dL_law_579 : decode cL_law 579 = .ok (.aload_n 2, 1) := zf_at zf_7 14 rfl
theorem dL_law_580 : decode cL_law 580 = .ok (.aload_n 0, 1) := zf_at zf_7 15 rfl
theorem dL_law_581 : decode cL_law 581 = .ok (.iload 5, 2) := zf_at zf_7 16 rfl
theorem dL_law_583 : decode cL_law 583 = .ok (.iconst 1, 1) := zf_at zf_7 17 rfl
theorem dL_law_584 : decode cL_law 584 = .ok (.iadd, 1) := zf_at zf_7 18 rfl
theorem dL_law_585 : decode cL_law 585 = .ok (.iaload, 1) := zf_at zf_7 19 rfl
theorem dL_law_586 : decode cL_law 586 = .ok (.aload_n 0, 1) := zf_at zf_7 20 rfl
theorem dL_law_587 : decode cL_law 587 = .ok (.iload 5, 2) := zf_at zf_7 21 rfl
theorem dL_law_589 : decode cL_law 589 = .ok (.iconst 2, 1) := zf_at zf_7 22 rfl
theorem dL_law_590 : decode cL_law 590 = .ok (.iadd, 1) := zf_at zf_7 23 rfl
theorem dL_law_591 : decode cL_law 591 = .ok (.iaload, 1) := zf_at zf_7 24 rfl
theorem dL_law_592 : decode cL_law 592 = .ok (.invokevirtual 213, 3) := zf_at zf_7 25 rfl
theorem dL_law_595 : decode cL_law 595 = .ok (.istore 7, 2) := zf_at zf_7 26 rfl
theorem dL_law_597 : decode cL_law 597 = .ok (.aload_n 2, 1) := zf_at zf_7 27 rfl
theorem dL_law_598 : decode cL_law 598 = .ok (.invokevirtual 189, 3) := zf_at zf_7 28 rfl
theorem dL_law_601 : decode cL_law 601 = .ok (.iload 6, 2) := zf_at zf_7 29 rfl
theorem dL_law_603 : decode cL_law 603 = .ok (.if_icmp .eq 5, 3) := zf_at zf_7 30 rfl
theorem dL_law_608 : decode cL_law 608 = .ok (.iload 6, 2) := zf_at zf_7 31 rfl
theorem dL_law_610 : decode cL_law 610 = .ok (.ifCond .ne 15, 3) := zf_at zf_7 32 rfl
theorem dL_law_613 : decode cL_law 613 = .ok (.aload_n 3, 1) := zf_at zf_7 33 rfl
theorem dL_law_614 : decode cL_law 614 = .ok (.iconst 0, 1) := zf_at zf_7 34 rfl
theorem dL_law_615 : decode cL_law 615 = .ok (.laload, 1) := zf_at zf_7 35 rfl
theorem dL_law_616 : decode cL_law 616 = .ok (.iload 7, 2) := zf_at zf_7 36 rfl
theorem dL_law_618 : decode cL_law 618 = .ok (.i2l, 1) := zf_at zf_7 37 rfl
theorem dL_law_619 : decode cL_law 619 = .ok (.lcmp, 1) := zf_at zf_7 38 rfl
theorem dL_law_620 : decode cL_law 620 = .ok (.ifCond .eq 5, 3) := zf_at zf_7 39 rfl
theorem dL_law_625 : decode cL_law 625 = .ok (.goto 2779, 3) := zf_at zf_7 40 rfl
theorem zf_8 : zf_all [(628, .aload_n 1, 1), (629, .aload_n 0, 1), (630, .iload 5, 2), (632, .iconst 1, 1), (633, .iadd, 1), (634, .iaload, 1), (635, .aload_n 0, 1), (636, .iload 5, 2), (638, .iconst 2, 1), (639, .iadd, 1), (640, .iaload, 1), (641, .aload_n 3, 1), (642, .invokestatic 214, 3), (645, .istore 6, 2), (647, .aload_n 2, 1), (648, .aload_n 0, 1), (649, .iload 5, 2), (651, .iconst 1, 1), (652, .iadd, 1), (653, .iaload, 1), (654, .aload_n 0, 1), (655, .iload 5, 2), (657, .iconst 2, 1), (658, .iadd, 1), (659, .iaload, 1), (660, .invokevirtual 216, 3), (663, .istore 7, 2), (665, .aload_n 2, 1), (666, .invokevirtual 189, 3), (669, .iload 6, 2), (671, .if_icmp .eq 5, 3), (676, .iload 6, 2), (678, .ifCond .ne 15, 3), (681, .aload_n 3, 1), (682, .iconst 0, 1), (683, .laload, 1), (684, .iload 7, 2), (686, .i2l, 1), (687, .lcmp, 1), (688, .ifCond .eq 5, 3), (693, .goto 2711, 3)] = true := by decide +kernel
theorem dL_law_628 : decode cL_law 628 = .ok (.aload_n 1, 1) := zf_at zf_8 0 rfl
theorem dL_law_629 : decode cL_law 629 = .ok (.aload_n 0, 1) := zf_at zf_8 1 rfl
theorem dL_law_630 : decode cL_law 630 = .ok (.iload 5, 2) := zf_at zf_8 2 rfl
theorem dL_law_632 : decode cL_law 632 = .ok (.iconst 1, 1) := zf_at zf_8 3 rfl
theorem dL_law_633 : decode cL_law 633 = .ok (.iadd, 1) := zf_at zf_8 4 rfl
theorem dL_law_634 : decode cL_law 634 = .ok (.iaload, 1) := zf_at zf_8 5 rfl
theorem dL_law_635 : decode cL_law 635 = .ok (.aload_n 0, 1) := zf_at zf_8 6 rfl
theorem dL_law_636 : decode cL_law 636 = .ok (.iload 5, 2) := zf_at zf_8 7 rfl
theorem dL_law_638 : decode cL_law 638 = .ok (.iconst 2, 1) := zf_at zf_8 8 rfl
theorem dL_law_639 : decode cL_law 639 = .ok (.iadd, 1) := zf_at zf_8 9 rfl
theorem dL_law_640 : decode cL_law 640 = .ok (.iaload, 1) := zf_at zf_8 10 rfl
theorem dL_law_641 : decode cL_law 641 = .ok (.aload_n 3, 1) := zf_at zf_8 11 rfl
theorem dL_law_642 : decode cL_law 642 = .ok (.invokestatic 214, 3) := zf_at zf_8 12 rfl
theorem dL_law_645 : decode cL_law 645 = .ok (.istore 6, 2) := zf_at zf_8 13 rfl
theorem dL_law_647 : decode cL_law 647 = .ok (.aload_n 2, 1) := zf_at zf_8 14 rfl
theorem dL_law_648 : decode cL_law 648 = .ok (.aload_n 0, 1) := zf_at zf_8 15 rfl
theorem dL_law_649 : decode cL_law 649 = .ok (.iload 5, 2) := zf_at zf_8 16 rfl
theorem dL_law_651 : decode cL_law 651 = .ok (.iconst 1, 1) := zf_at zf_8 17 rfl
theorem dL_law_652 : decode cL_law 652 = .ok (.iadd, 1) := zf_at zf_8 18 rfl
theorem dL_law_653 : decode cL_law 653 = .ok (.iaload, 1) := zf_at zf_8 19 rfl
theorem dL_law_654 : decode cL_law 654 = .ok (.aload_n 0, 1) := zf_at zf_8 20 rfl
theorem dL_law_655 : decode cL_law 655 = .ok (.iload 5, 2) := zf_at zf_8 21 rfl
theorem dL_law_657 : decode cL_law 657 = .ok (.iconst 2, 1) := zf_at zf_8 22 rfl
theorem dL_law_658 : decode cL_law 658 = .ok (.iadd, 1) := zf_at zf_8 23 rfl
theorem dL_law_659 : decode cL_law 659 = .ok (.iaload, 1) := zf_at zf_8 24 rfl
theorem dL_law_660 : decode cL_law 660 = .ok (.invokevirtual 216, 3) := zf_at zf_8 25 rfl
theorem dL_law_663 : decode cL_law 663 = .ok (.istore 7, 2) := zf_at zf_8 26 rfl
theorem dL_law_665 : decode cL_law 665 = .ok (.aload_n 2, 1) := zf_at zf_8 27 rfl
theorem dL_law_666 : decode cL_law 666 = .ok (.invokevirtual 189, 3) := zf_at zf_8 28 rfl
theorem dL_law_669 : decode cL_law 669 = .ok (.iload 6, 2) := zf_at zf_8 29 rfl
theorem dL_law_671 : decode cL_law 671 = .ok (.if_icmp .eq 5, 3) := zf_at zf_8 30 rfl
theorem dL_law_676 : decode cL_law 676 = .ok (.iload 6, 2) := zf_at zf_8 31 rfl
theorem dL_law_678 : decode cL_law 678 = .ok (.ifCond .ne 15, 3) := zf_at zf_8 32 rfl
theorem dL_law_681 : decode cL_law 681 = .ok (.aload_n 3, 1) := zf_at zf_8 33 rfl
theorem dL_law_682 : decode cL_law 682 = .ok (.iconst 0, 1) := zf_at zf_8 34 rfl
theorem dL_law_683 : decode cL_law 683 = .ok (.laload, 1) := zf_at zf_8 35 rfl
theorem dL_law_684 : decode cL_law 684 = .ok (.iload 7, 2) := zf_at zf_8 36 rfl
theorem dL_law_686 : decode cL_law 686 = .ok (.i2l, 1) := zf_at zf_8 37 rfl
theorem dL_law_687 : decode cL_law 687 = .ok (.lcmp, 1) := zf_at zf_8 38 rfl
theorem dL_law_688 : decode cL_law 688 = .ok (.ifCond .eq 5, 3) := zf_at zf_8 39 rfl
theorem dL_law_693 : decode cL_law 693 = .ok (.goto 2711, 3) := zf_at zf_8 40 rfl
theorem zf_9 : zf_all [(696, .aload_n 1, 1), (697, .aload_n 0, 1), (698, .iload 5, 2), (700, .iconst 1, 1), (701, .iadd, 1), (702, .iaload, 1), (703, .aload_n 0, 1), (704, .iload 5, 2), (706, .iconst 2, 1), (707, .iadd, 1), (708, .iaload, 1), (709, .aload_n 3, 1), (710, .invokestatic 217, 3), (713, .istore 6, 2), (715, .aload_n 2, 1), (716, .aload_n 0, 1), (717, .iload 5, 2), (719, .iconst 1, 1), (720, .iadd, 1), (721, .iaload, 1), (722, .aload_n 0, 1), (723, .iload 5, 2), (725, .iconst 2, 1), (726, .iadd, 1), (727, .iaload, 1), (728, .invokevirtual 219, 3), (731, .istore 7, 2), (733, .aload_n 2, 1), (734, .invokevirtual 189, 3), (737, .iload 6, 2), (739, .if_icmp .eq 5, 3), (744, .iload 6, 2), (746, .ifCond .ne 15, 3), (749, .aload_n 3, 1), (750, .iconst 0, 1), (751, .laload, 1), (752, .iload 7, 2), (754, .i2l, 1), (755, .lcmp, 1), (756, .ifCond .eq 5, 3), (761, .goto 2643, 3)] = true := by decide +kernel
theorem dL_law_696 : decode cL_law 696 = .ok (.aload_n 1, 1) := zf_at zf_9 0 rfl
theorem dL_law_697 : decode cL_law 697 = .ok (.aload_n 0, 1) := zf_at zf_9 1 rfl
theorem dL_law_698 : decode cL_law 698 = .ok (.iload 5, 2) := zf_at zf_9 2 rfl
theorem dL_law_700 : decode cL_law 700 = .ok (.iconst 1, 1) := zf_at zf_9 3 rfl
theorem dL_law_701 : decode cL_law 701 = .ok (.iadd, 1) := zf_at zf_9 4 rfl
theorem dL_law_702 : decode cL_law 702 = .ok (.iaload, 1) := zf_at zf_9 5 rfl
theorem dL_law_703 : decode cL_law 703 = .ok (.aload_n 0, 1) := zf_at zf_9 6 rfl
theorem dL_law_704 : decode cL_law 704 = .ok (.iload 5, 2) := zf_at zf_9 7 rfl
theorem dL_law_706 : decode cL_law 706 = .ok (.iconst 2, 1) := zf_at zf_9 8 rfl
theorem dL_law_707 : decode cL_law 707 = .ok (.iadd, 1) := zf_at zf_9 9 rfl
theorem dL_law_708 : decode cL_law 708 = .ok (.iaload, 1) := zf_at zf_9 10 rfl
theorem dL_law_709 : decode cL_law 709 = .ok (.aload_n 3, 1) := zf_at zf_9 11 rfl
theorem dL_law_710 : decode cL_law 710 = .ok (.invokestatic 217, 3) := zf_at zf_9 12 rfl
theorem dL_law_713 : decode cL_law 713 = .ok (.istore 6, 2) := zf_at zf_9 13 rfl
theorem dL_law_715 : decode cL_law 715 = .ok (.aload_n 2, 1) := zf_at zf_9 14 rfl
theorem dL_law_716 : decode cL_law 716 = .ok (.aload_n 0, 1) := zf_at zf_9 15 rfl
theorem dL_law_717 : decode cL_law 717 = .ok (.iload 5, 2) := zf_at zf_9 16 rfl
theorem dL_law_719 : decode cL_law 719 = .ok (.iconst 1, 1) := zf_at zf_9 17 rfl
theorem dL_law_720 : decode cL_law 720 = .ok (.iadd, 1) := zf_at zf_9 18 rfl
theorem dL_law_721 : decode cL_law 721 = .ok (.iaload, 1) := zf_at zf_9 19 rfl
theorem dL_law_722 : decode cL_law 722 = .ok (.aload_n 0, 1) := zf_at zf_9 20 rfl
theorem dL_law_723 : decode cL_law 723 = .ok (.iload 5, 2) := zf_at zf_9 21 rfl
theorem dL_law_725 : decode cL_law 725 = .ok (.iconst 2, 1) := zf_at zf_9 22 rfl
theorem dL_law_726 : decode cL_law 726 = .ok (.iadd, 1) := zf_at zf_9 23 rfl
theorem dL_law_727 : decode cL_law 727 = .ok (.iaload, 1) := zf_at zf_9 24 rfl
theorem dL_law_728 : decode cL_law 728 = .ok (.invokevirtual 219, 3) := zf_at zf_9 25 rfl
theorem dL_law_731 : decode cL_law 731 = .ok (.istore 7, 2) := zf_at zf_9 26 rfl
theorem dL_law_733 : decode cL_law 733 = .ok (.aload_n 2, 1) := zf_at zf_9 27 rfl
theorem dL_law_734 : decode cL_law 734 = .ok (.invokevirtual 189, 3) := zf_at zf_9 28 rfl
theorem dL_law_737 : decode cL_law 737 = .ok (.iload 6, 2) := zf_at zf_9 29 rfl
theorem dL_law_739 : decode cL_law 739 = .ok (.if_icmp .eq 5, 3) := zf_at zf_9 30 rfl
theorem dL_law_744 : decode cL_law 744 = .ok (.iload 6, 2) := zf_at zf_9 31 rfl
theorem dL_law_746 : decode cL_law 746 = .ok (.ifCond .ne 15, 3) := zf_at zf_9 32 rfl
theorem dL_law_749 : decode cL_law 749 = .ok (.aload_n 3, 1) := zf_at zf_9 33 rfl
theorem dL_law_750 : decode cL_law 750 = .ok (.iconst 0, 1) := zf_at zf_9 34 rfl
theorem dL_law_751 : decode cL_law 751 = .ok (.laload, 1) := zf_at zf_9 35 rfl
theorem dL_law_752 : decode cL_law 752 = .ok (.iload 7, 2) := zf_at zf_9 36 rfl
theorem dL_law_754 : decode cL_law 754 = .ok (.i2l, 1) := zf_at zf_9 37 rfl
theorem dL_law_755 : decode cL_law 755 = .ok (.lcmp, 1) := zf_at zf_9 38 rfl
theorem dL_law_756 : decode cL_law 756 = .ok (.ifCond .eq 5, 3) := zf_at zf_9 39 rfl
theorem dL_law_761 : decode cL_law 761 = .ok (.goto 2643, 3) := zf_at zf_9 40 rfl
theorem zf_10 : zf_all [(764, .aload_n 1, 1), (765, .aload_n 0, 1), (766, .iload 5, 2), (768, .iconst 1, 1), (769, .iadd, 1), (770, .iaload, 1), (771, .aload_n 0, 1), (772, .iload 5, 2), (774, .iconst 2, 1), (775, .iadd, 1), (776, .iaload, 1), (777, .aload_n 3, 1), (778, .invokestatic 220, 3), (781, .istore 6, 2), (783, .aload_n 2, 1), (784, .aload_n 0, 1), (785, .iload 5, 2), (787, .iconst 1, 1), (788, .iadd, 1), (789, .iaload, 1), (790, .aload_n 0, 1), (791, .iload 5, 2), (793, .iconst 2, 1), (794, .iadd, 1), (795, .iaload, 1), (796, .invokevirtual 222, 3), (799, .istore 7, 2), (801, .aload_n 2, 1), (802, .invokevirtual 189, 3), (805, .iload 6, 2), (807, .if_icmp .eq 5, 3), (812, .iload 6, 2), (814, .ifCond .ne 15, 3), (817, .aload_n 3, 1), (818, .iconst 0, 1), (819, .laload, 1), (820, .iload 7, 2), (822, .i2l, 1), (823, .lcmp, 1), (824, .ifCond .eq 5, 3), (829, .goto 2575, 3)] = true := by decide +kernel
theorem dL_law_764 : decode cL_law 764 = .ok (.aload_n 1, 1) := zf_at zf_10 0 rfl
theorem dL_law_765 : decode cL_law 765 = .ok (.aload_n 0, 1) := zf_at zf_10 1 rfl
theorem dL_law_766 : decode cL_law 766 = .ok (.iload 5, 2) := zf_at zf_10 2 rfl
theorem dL_law_768 : decode cL_law 768 = .ok (.iconst 1, 1) := zf_at zf_10 3 rfl
theorem dL_law_769 : decode cL_law 769 = .ok (.iadd, 1) := zf_at zf_10 4 rfl
theorem dL_law_770 : decode cL_law 770 = .ok (.iaload, 1) := zf_at zf_10 5 rfl
theorem dL_law_771 : decode cL_law 771 = .ok (.aload_n 0, 1) := zf_at zf_10 6 rfl
theorem dL_law_772 : decode cL_law 772 = .ok (.iload 5, 2) := zf_at zf_10 7 rfl
theorem dL_law_774 : decode cL_law 774 = .ok (.iconst 2, 1) := zf_at zf_10 8 rfl
theorem dL_law_775 : decode cL_law 775 = .ok (.iadd, 1) := zf_at zf_10 9 rfl
theorem dL_law_776 : decode cL_law 776 = .ok (.iaload, 1) := zf_at zf_10 10 rfl
theorem dL_law_777 : decode cL_law 777 = .ok (.aload_n 3, 1) := zf_at zf_10 11 rfl
theorem dL_law_778 : decode cL_law 778 = .ok (.invokestatic 220, 3) := zf_at zf_10 12 rfl
theorem dL_law_781 : decode cL_law 781 = .ok (.istore 6, 2) := zf_at zf_10 13 rfl
theorem dL_law_783 : decode cL_law 783 = .ok (.aload_n 2, 1) := zf_at zf_10 14 rfl
theorem dL_law_784 : decode cL_law 784 = .ok (.aload_n 0, 1) := zf_at zf_10 15 rfl
theorem dL_law_785 : decode cL_law 785 = .ok (.iload 5, 2) := zf_at zf_10 16 rfl
theorem dL_law_787 : decode cL_law 787 = .ok (.iconst 1, 1) := zf_at zf_10 17 rfl
theorem dL_law_788 : decode cL_law 788 = .ok (.iadd, 1) := zf_at zf_10 18 rfl
theorem dL_law_789 : decode cL_law 789 = .ok (.iaload, 1) := zf_at zf_10 19 rfl
theorem dL_law_790 : decode cL_law 790 = .ok (.aload_n 0, 1) := zf_at zf_10 20 rfl
theorem dL_law_791 : decode cL_law 791 = .ok (.iload 5, 2) := zf_at zf_10 21 rfl
theorem dL_law_793 : decode cL_law 793 = .ok (.iconst 2, 1) := zf_at zf_10 22 rfl
theorem dL_law_794 : decode cL_law 794 = .ok (.iadd, 1) := zf_at zf_10 23 rfl
theorem dL_law_795 : decode cL_law 795 = .ok (.iaload, 1) := zf_at zf_10 24 rfl
theorem dL_law_796 : decode cL_law 796 = .ok (.invokevirtual 222, 3) := zf_at zf_10 25 rfl
theorem dL_law_799 : decode cL_law 799 = .ok (.istore 7, 2) := zf_at zf_10 26 rfl
theorem dL_law_801 : decode cL_law 801 = .ok (.aload_n 2, 1) := zf_at zf_10 27 rfl
theorem dL_law_802 : decode cL_law 802 = .ok (.invokevirtual 189, 3) := zf_at zf_10 28 rfl
theorem dL_law_805 : decode cL_law 805 = .ok (.iload 6, 2) := zf_at zf_10 29 rfl
theorem dL_law_807 : decode cL_law 807 = .ok (.if_icmp .eq 5, 3) := zf_at zf_10 30 rfl
theorem dL_law_812 : decode cL_law 812 = .ok (.iload 6, 2) := zf_at zf_10 31 rfl
theorem dL_law_814 : decode cL_law 814 = .ok (.ifCond .ne 15, 3) := zf_at zf_10 32 rfl
theorem dL_law_817 : decode cL_law 817 = .ok (.aload_n 3, 1) := zf_at zf_10 33 rfl
theorem dL_law_818 : decode cL_law 818 = .ok (.iconst 0, 1) := zf_at zf_10 34 rfl
theorem dL_law_819 : decode cL_law 819 = .ok (.laload, 1) := zf_at zf_10 35 rfl
theorem dL_law_820 : decode cL_law 820 = .ok (.iload 7, 2) := zf_at zf_10 36 rfl
theorem dL_law_822 : decode cL_law 822 = .ok (.i2l, 1) := zf_at zf_10 37 rfl
theorem dL_law_823 : decode cL_law 823 = .ok (.lcmp, 1) := zf_at zf_10 38 rfl
theorem dL_law_824 : decode cL_law 824 = .ok (.ifCond .eq 5, 3) := zf_at zf_10 39 rfl
theorem dL_law_829 : decode cL_law 829 = .ok (.goto 2575, 3) := zf_at zf_10 40 rfl
theorem zf_11 : zf_all [(832, .aload_n 1, 1), (833, .aload_n 0, 1), (834, .iload 5, 2), (836, .iconst 1, 1), (837, .iadd, 1), (838, .iaload, 1), (839, .ifCond .eq 7, 3), (842, .iconst 1, 1), (843, .goto 4, 3), (846, .iconst 0, 1), (847, .aload_n 0, 1), (848, .iload 5, 2), (850, .iconst 2, 1), (851, .iadd, 1), (852, .iaload, 1), (853, .aload_n 3, 1), (854, .invokestatic 223, 3), (857, .istore 6, 2), (859, .aload_n 2, 1), (860, .aload_n 0, 1), (861, .iload 5, 2), (863, .iconst 1, 1), (864, .iadd, 1), (865, .iaload, 1), (866, .ifCond .eq 7, 3), (869, .iconst 1, 1), (870, .goto 4, 3), (873, .iconst 0, 1), (874, .aload_n 0, 1), (875, .iload 5, 2), (877, .iconst 2, 1), (878, .iadd, 1), (879, .iaload, 1), (880, .invokevirtual 226, 3), (883, .istore 7, 2), (885, .aload_n 2, 1), (886, .invokevirtual 189, 3), (889, .iload 6, 2), (891, .if_icmp .eq 5, 3), (896, .iload 6, 2), (898, .ifCond .ne 15, 3), (901, .aload_n 3, 1), (902, .iconst 0, 1), (903, .laload, 1), (904, .iload 7, 2), (906, .i2l, 1), (907, .lcmp, 1), (908, .ifCond .eq 5, 3), (913, .goto 2491, 3)] = true := by decide +kernel
theorem dL_law_832 : decode cL_law 832 = .ok (.aload_n 1, 1) := zf_at zf_11 0 rfl
theorem dL_law_833 : decode cL_law 833 = .ok (.aload_n 0, 1) := zf_at zf_11 1 rfl
theorem dL_law_834 : decode cL_law 834 = .ok (.iload 5, 2) := zf_at zf_11 2 rfl
theorem dL_law_836 : decode cL_law 836 = .ok (.iconst 1, 1) := zf_at zf_11 3 rfl
theorem dL_law_837 : decode cL_law 837 = .ok (.iadd, 1) := zf_at zf_11 4 rfl
theorem dL_law_838 : decode cL_law 838 = .ok (.iaload, 1) := zf_at zf_11 5 rfl
theorem dL_law_839 : decode cL_law 839 = .ok (.ifCond .eq 7, 3) := zf_at zf_11 6 rfl
theorem dL_law_842 : decode cL_law 842 = .ok (.iconst 1, 1) := zf_at zf_11 7 rfl
theorem dL_law_843 : decode cL_law 843 = .ok (.goto 4, 3) := zf_at zf_11 8 rfl
theorem dL_law_846 : decode cL_law 846 = .ok (.iconst 0, 1) := zf_at zf_11 9 rfl
theorem dL_law_847 : decode cL_law 847 = .ok (.aload_n 0, 1) := zf_at zf_11 10 rfl
theorem dL_law_848 : decode cL_law 848 = .ok (.iload 5, 2) := zf_at zf_11 11 rfl
theorem dL_law_850 : decode cL_law 850 = .ok (.iconst 2, 1) := zf_at zf_11 12 rfl
theorem dL_law_851 : decode cL_law 851 = .ok (.iadd, 1) := zf_at zf_11 13 rfl
theorem dL_law_852 : decode cL_law 852 = .ok (.iaload, 1) := zf_at zf_11 14 rfl
theorem dL_law_853 : decode cL_law 853 = .ok (.aload_n 3, 1) := zf_at zf_11 15 rfl
theorem dL_law_854 : decode cL_law 854 = .ok (.invokestatic 223, 3) := zf_at zf_11 16 rfl
theorem dL_law_857 : decode cL_law 857 = .ok (.istore 6, 2) := zf_at zf_11 17 rfl
theorem dL_law_859 : decode cL_law 859 = .ok (.aload_n 2, 1) := zf_at zf_11 18 rfl
theorem dL_law_860 : decode cL_law 860 = .ok (.aload_n 0, 1) := zf_at zf_11 19 rfl
theorem dL_law_861 : decode cL_law 861 = .ok (.iload 5, 2) := zf_at zf_11 20 rfl
theorem dL_law_863 : decode cL_law 863 = .ok (.iconst 1, 1) := zf_at zf_11 21 rfl
theorem dL_law_864 : decode cL_law 864 = .ok (.iadd, 1) := zf_at zf_11 22 rfl
theorem dL_law_865 : decode cL_law 865 = .ok (.iaload, 1) := zf_at zf_11 23 rfl
theorem dL_law_866 : decode cL_law 866 = .ok (.ifCond .eq 7, 3) := zf_at zf_11 24 rfl
theorem dL_law_869 : decode cL_law 869 = .ok (.iconst 1, 1) := zf_at zf_11 25 rfl
theorem dL_law_870 : decode cL_law 870 = .ok (.goto 4, 3) := zf_at zf_11 26 rfl
theorem dL_law_873 : decode cL_law 873 = .ok (.iconst 0, 1) := zf_at zf_11 27 rfl
theorem dL_law_874 : decode cL_law 874 = .ok (.aload_n 0, 1) := zf_at zf_11 28 rfl
theorem dL_law_875 : decode cL_law 875 = .ok (.iload 5, 2) := zf_at zf_11 29 rfl
theorem dL_law_877 : decode cL_law 877 = .ok (.iconst 2, 1) := zf_at zf_11 30 rfl
theorem dL_law_878 : decode cL_law 878 = .ok (.iadd, 1) := zf_at zf_11 31 rfl
theorem dL_law_879 : decode cL_law 879 = .ok (.iaload, 1) := zf_at zf_11 32 rfl
theorem dL_law_880 : decode cL_law 880 = .ok (.invokevirtual 226, 3) := zf_at zf_11 33 rfl
theorem dL_law_883 : decode cL_law 883 = .ok (.istore 7, 2) := zf_at zf_11 34 rfl
theorem dL_law_885 : decode cL_law 885 = .ok (.aload_n 2, 1) := zf_at zf_11 35 rfl
theorem dL_law_886 : decode cL_law 886 = .ok (.invokevirtual 189, 3) := zf_at zf_11 36 rfl
theorem dL_law_889 : decode cL_law 889 = .ok (.iload 6, 2) := zf_at zf_11 37 rfl
theorem dL_law_891 : decode cL_law 891 = .ok (.if_icmp .eq 5, 3) := zf_at zf_11 38 rfl
theorem dL_law_896 : decode cL_law 896 = .ok (.iload 6, 2) := zf_at zf_11 39 rfl
theorem dL_law_898 : decode cL_law 898 = .ok (.ifCond .ne 15, 3) := zf_at zf_11 40 rfl
theorem dL_law_901 : decode cL_law 901 = .ok (.aload_n 3, 1) := zf_at zf_11 41 rfl
theorem dL_law_902 : decode cL_law 902 = .ok (.iconst 0, 1) := zf_at zf_11 42 rfl
theorem dL_law_903 : decode cL_law 903 = .ok (.laload, 1) := zf_at zf_11 43 rfl
theorem dL_law_904 : decode cL_law 904 = .ok (.iload 7, 2) := zf_at zf_11 44 rfl
theorem dL_law_906 : decode cL_law 906 = .ok (.i2l, 1) := zf_at zf_11 45 rfl
theorem dL_law_907 : decode cL_law 907 = .ok (.lcmp, 1) := zf_at zf_11 46 rfl
theorem dL_law_908 : decode cL_law 908 = .ok (.ifCond .eq 5, 3) := zf_at zf_11 47 rfl
theorem dL_law_913 : decode cL_law 913 = .ok (.goto 2491, 3) := zf_at zf_11 48 rfl
theorem zf_12 : zf_all [(916, .aload_n 1, 1), (917, .aload_n 0, 1), (918, .iload 5, 2), (920, .iconst 1, 1), (921, .iadd, 1), (922, .iaload, 1), (923, .aload_n 3, 1), (924, .invokestatic 227, 3), (927, .istore 6, 2), (929, .aload_n 2, 1), (930, .aload_n 0, 1), (931, .iload 5, 2), (933, .iconst 1, 1), (934, .iadd, 1), (935, .iaload, 1), (936, .invokevirtual 229, 3), (939, .istore 7, 2), (941, .aload_n 2, 1), (942, .invokevirtual 189, 3), (945, .iload 6, 2), (947, .if_icmp .eq 5, 3), (952, .iload 6, 2), (954, .ifCond .ne 22, 3), (957, .aload_n 3, 1), (958, .iconst 0, 1), (959, .laload, 1), (960, .iload 7, 2), (962, .ifCond .eq 7, 3), (965, .lconst 1, 1), (966, .goto 4, 3), (969, .lconst 0, 1), (970, .lcmp, 1), (971, .ifCond .eq 5, 3), (976, .goto 2428, 3)] = true := by decide +kernel
theorem dL_law_916 : decode cL_law 916 = .ok (.aload_n 1, 1) := zf_at zf_12 0 rfl
theorem dL_law_917 : decode cL_law 917 = .ok (.aload_n 0, 1) := zf_at zf_12 1 rfl
theorem dL_law_918 : decode cL_law 918 = .ok (.iload 5, 2) := zf_at zf_12 2 rfl
theorem dL_law_920 : decode cL_law 920 = .ok (.iconst 1, 1) := zf_at zf_12 3 rfl
theorem dL_law_921 : decode cL_law 921 = .ok (.iadd, 1) := zf_at zf_12 4 rfl
theorem dL_law_922 : decode cL_law 922 = .ok (.iaload, 1) := zf_at zf_12 5 rfl
theorem dL_law_923 : decode cL_law 923 = .ok (.aload_n 3, 1) := zf_at zf_12 6 rfl
theorem dL_law_924 : decode cL_law 924 = .ok (.invokestatic 227, 3) := zf_at zf_12 7 rfl
theorem dL_law_927 : decode cL_law 927 = .ok (.istore 6, 2) := zf_at zf_12 8 rfl
theorem dL_law_929 : decode cL_law 929 = .ok (.aload_n 2, 1) := zf_at zf_12 9 rfl
theorem dL_law_930 : decode cL_law 930 = .ok (.aload_n 0, 1) := zf_at zf_12 10 rfl
theorem dL_law_931 : decode cL_law 931 = .ok (.iload 5, 2) := zf_at zf_12 11 rfl
theorem dL_law_933 : decode cL_law 933 = .ok (.iconst 1, 1) := zf_at zf_12 12 rfl
theorem dL_law_934 : decode cL_law 934 = .ok (.iadd, 1) := zf_at zf_12 13 rfl
theorem dL_law_935 : decode cL_law 935 = .ok (.iaload, 1) := zf_at zf_12 14 rfl
theorem dL_law_936 : decode cL_law 936 = .ok (.invokevirtual 229, 3) := zf_at zf_12 15 rfl
theorem dL_law_939 : decode cL_law 939 = .ok (.istore 7, 2) := zf_at zf_12 16 rfl
theorem dL_law_941 : decode cL_law 941 = .ok (.aload_n 2, 1) := zf_at zf_12 17 rfl
theorem dL_law_942 : decode cL_law 942 = .ok (.invokevirtual 189, 3) := zf_at zf_12 18 rfl
theorem dL_law_945 : decode cL_law 945 = .ok (.iload 6, 2) := zf_at zf_12 19 rfl
theorem dL_law_947 : decode cL_law 947 = .ok (.if_icmp .eq 5, 3) := zf_at zf_12 20 rfl
theorem dL_law_952 : decode cL_law 952 = .ok (.iload 6, 2) := zf_at zf_12 21 rfl
theorem dL_law_954 : decode cL_law 954 = .ok (.ifCond .ne 22, 3) := zf_at zf_12 22 rfl
theorem dL_law_957 : decode cL_law 957 = .ok (.aload_n 3, 1) := zf_at zf_12 23 rfl
theorem dL_law_958 : decode cL_law 958 = .ok (.iconst 0, 1) := zf_at zf_12 24 rfl
theorem dL_law_959 : decode cL_law 959 = .ok (.laload, 1) := zf_at zf_12 25 rfl
theorem dL_law_960 : decode cL_law 960 = .ok (.iload 7, 2) := zf_at zf_12 26 rfl
theorem dL_law_962 : decode cL_law 962 = .ok (.ifCond .eq 7, 3) := zf_at zf_12 27 rfl
theorem dL_law_965 : decode cL_law 965 = .ok (.lconst 1, 1) := zf_at zf_12 28 rfl
theorem dL_law_966 : decode cL_law 966 = .ok (.goto 4, 3) := zf_at zf_12 29 rfl
theorem dL_law_969 : decode cL_law 969 = .ok (.lconst 0, 1) := zf_at zf_12 30 rfl
theorem dL_law_970 : decode cL_law 970 = .ok (.lcmp, 1) := zf_at zf_12 31 rfl
theorem dL_law_971 : decode cL_law 971 = .ok (.ifCond .eq 5, 3) := zf_at zf_12 32 rfl
theorem dL_law_976 : decode cL_law 976 = .ok (.goto 2428, 3) := zf_at zf_12 33 rfl
theorem zf_13 : zf_all [(979, .aload_n 1, 1), (980, .aload_n 3, 1), (981, .invokestatic 230, 3), (984, .istore 6, 2), (986, .aload_n 2, 1), (987, .invokevirtual 233, 3), (990, .istore 7, 2), (992, .aload_n 2, 1), (993, .invokevirtual 189, 3), (996, .iload 6, 2), (998, .if_icmp .eq 5, 3), (1003, .iload 6, 2), (1005, .ifCond .ne 15, 3), (1008, .aload_n 3, 1), (1009, .iconst 0, 1), (1010, .laload, 1), (1011, .iload 7, 2), (1013, .i2l, 1), (1014, .lcmp, 1), (1015, .ifCond .eq 5, 3), (1020, .goto 2384, 3)] = true := by decide +kernel
theorem dL_law_979 : decode cL_law 979 = .ok (.aload_n 1, 1) := zf_at zf_13 0 rfl
theorem dL_law_980 : decode cL_law 980 = .ok (.aload_n 3, 1) := zf_at zf_13 1 rfl
theorem dL_law_981 : decode cL_law 981 = .ok (.invokestatic 230, 3) := zf_at zf_13 2 rfl
theorem dL_law_984 : decode cL_law 984 = .ok (.istore 6, 2) := zf_at zf_13 3 rfl
theorem dL_law_986 : decode cL_law 986 = .ok (.aload_n 2, 1) := zf_at zf_13 4 rfl
theorem dL_law_987 : decode cL_law 987 = .ok (.invokevirtual 233, 3) := zf_at zf_13 5 rfl
theorem dL_law_990 : decode cL_law 990 = .ok (.istore 7, 2) := zf_at zf_13 6 rfl
theorem dL_law_992 : decode cL_law 992 = .ok (.aload_n 2, 1) := zf_at zf_13 7 rfl
theorem dL_law_993 : decode cL_law 993 = .ok (.invokevirtual 189, 3) := zf_at zf_13 8 rfl
theorem dL_law_996 : decode cL_law 996 = .ok (.iload 6, 2) := zf_at zf_13 9 rfl
theorem dL_law_998 : decode cL_law 998 = .ok (.if_icmp .eq 5, 3) := zf_at zf_13 10 rfl
theorem dL_law_1003 : decode cL_law 1003 = .ok (.iload 6, 2) := zf_at zf_13 11 rfl
theorem dL_law_1005 : decode cL_law 1005 = .ok (.ifCond .ne 15, 3) := zf_at zf_13 12 rfl
theorem dL_law_1008 : decode cL_law 1008 = .ok (.aload_n 3, 1) := zf_at zf_13 13 rfl
theorem dL_law_1009 : decode cL_law 1009 = .ok (.iconst 0, 1) := zf_at zf_13 14 rfl
theorem dL_law_1010 : decode cL_law 1010 = .ok (.laload, 1) := zf_at zf_13 15 rfl
theorem dL_law_1011 : decode cL_law 1011 = .ok (.iload 7, 2) := zf_at zf_13 16 rfl
theorem dL_law_1013 : decode cL_law 1013 = .ok (.i2l, 1) := zf_at zf_13 17 rfl
theorem dL_law_1014 : decode cL_law 1014 = .ok (.lcmp, 1) := zf_at zf_13 18 rfl
theorem dL_law_1015 : decode cL_law 1015 = .ok (.ifCond .eq 5, 3) := zf_at zf_13 19 rfl
theorem dL_law_1020 : decode cL_law 1020 = .ok (.goto 2384, 3) := zf_at zf_13 20 rfl
theorem zf_14 : zf_all [(1023, .aload_n 1, 1), (1024, .aload_n 3, 1), (1025, .invokestatic 234, 3), (1028, .istore 6, 2), (1030, .aload_n 2, 1), (1031, .invokevirtual 236, 3), (1034, .istore 7, 2), (1036, .aload_n 2, 1), (1037, .invokevirtual 189, 3), (1040, .iload 6, 2), (1042, .if_icmp .eq 5, 3), (1047, .iload 6, 2), (1049, .ifCond .ne 15, 3), (1052, .aload_n 3, 1), (1053, .iconst 0, 1), (1054, .laload, 1), (1055, .iload 7, 2), (1057, .i2l, 1), (1058, .lcmp, 1), (1059, .ifCond .eq 5, 3), (1064, .goto 2340, 3)] = true := by decide +kernel
theorem dL_law_1023 : decode cL_law 1023 = .ok (.aload_n 1, 1) := zf_at zf_14 0 rfl
theorem dL_law_1024 : decode cL_law 1024 = .ok (.aload_n 3, 1) := zf_at zf_14 1 rfl
theorem dL_law_1025 : decode cL_law 1025 = .ok (.invokestatic 234, 3) := zf_at zf_14 2 rfl
theorem dL_law_1028 : decode cL_law 1028 = .ok (.istore 6, 2) := zf_at zf_14 3 rfl
theorem dL_law_1030 : decode cL_law 1030 = .ok (.aload_n 2, 1) := zf_at zf_14 4 rfl
theorem dL_law_1031 : decode cL_law 1031 = .ok (.invokevirtual 236, 3) := zf_at zf_14 5 rfl
theorem dL_law_1034 : decode cL_law 1034 = .ok (.istore 7, 2) := zf_at zf_14 6 rfl
theorem dL_law_1036 : decode cL_law 1036 = .ok (.aload_n 2, 1) := zf_at zf_14 7 rfl
theorem dL_law_1037 : decode cL_law 1037 = .ok (.invokevirtual 189, 3) := zf_at zf_14 8 rfl
theorem dL_law_1040 : decode cL_law 1040 = .ok (.iload 6, 2) := zf_at zf_14 9 rfl
theorem dL_law_1042 : decode cL_law 1042 = .ok (.if_icmp .eq 5, 3) := zf_at zf_14 10 rfl
theorem dL_law_1047 : decode cL_law 1047 = .ok (.iload 6, 2) := zf_at zf_14 11 rfl
theorem dL_law_1049 : decode cL_law 1049 = .ok (.ifCond .ne 15, 3) := zf_at zf_14 12 rfl
theorem dL_law_1052 : decode cL_law 1052 = .ok (.aload_n 3, 1) := zf_at zf_14 13 rfl
theorem dL_law_1053 : decode cL_law 1053 = .ok (.iconst 0, 1) := zf_at zf_14 14 rfl
theorem dL_law_1054 : decode cL_law 1054 = .ok (.laload, 1) := zf_at zf_14 15 rfl
theorem dL_law_1055 : decode cL_law 1055 = .ok (.iload 7, 2) := zf_at zf_14 16 rfl
theorem dL_law_1057 : decode cL_law 1057 = .ok (.i2l, 1) := zf_at zf_14 17 rfl
theorem dL_law_1058 : decode cL_law 1058 = .ok (.lcmp, 1) := zf_at zf_14 18 rfl
theorem dL_law_1059 : decode cL_law 1059 = .ok (.ifCond .eq 5, 3) := zf_at zf_14 19 rfl
theorem dL_law_1064 : decode cL_law 1064 = .ok (.goto 2340, 3) := zf_at zf_14 20 rfl
theorem zf_15 : zf_all [(1067, .aload_n 1, 1), (1068, .aload_n 3, 1), (1069, .invokestatic 237, 3), (1072, .istore 6, 2), (1074, .aload_n 2, 1), (1075, .invokevirtual 239, 3), (1078, .istore 7, 2), (1080, .aload_n 2, 1), (1081, .invokevirtual 189, 3), (1084, .iload 6, 2), (1086, .if_icmp .eq 5, 3), (1091, .iload 6, 2), (1093, .ifCond .ne 15, 3), (1096, .aload_n 3, 1), (1097, .iconst 0, 1), (1098, .laload, 1), (1099, .iload 7, 2), (1101, .i2l, 1), (1102, .lcmp, 1), (1103, .ifCond .eq 5, 3), (1108, .goto 2296, 3)] = true := by decide +kernel
theorem dL_law_1067 : decode cL_law 1067 = .ok (.aload_n 1, 1) := zf_at zf_15 0 rfl
theorem dL_law_1068 : decode cL_law 1068 = .ok (.aload_n 3, 1) := zf_at zf_15 1 rfl
theorem dL_law_1069 : decode cL_law 1069 = .ok (.invokestatic 237, 3) := zf_at zf_15 2 rfl
theorem dL_law_1072 : decode cL_law 1072 = .ok (.istore 6, 2) := zf_at zf_15 3 rfl
theorem dL_law_1074 : decode cL_law 1074 = .ok (.aload_n 2, 1) := zf_at zf_15 4 rfl
theorem dL_law_1075 : decode cL_law 1075 = .ok (.invokevirtual 239, 3) := zf_at zf_15 5 rfl
theorem dL_law_1078 : decode cL_law 1078 = .ok (.istore 7, 2) := zf_at zf_15 6 rfl
theorem dL_law_1080 : decode cL_law 1080 = .ok (.aload_n 2, 1) := zf_at zf_15 7 rfl
theorem dL_law_1081 : decode cL_law 1081 = .ok (.invokevirtual 189, 3) := zf_at zf_15 8 rfl
theorem dL_law_1084 : decode cL_law 1084 = .ok (.iload 6, 2) := zf_at zf_15 9 rfl
theorem dL_law_1086 : decode cL_law 1086 = .ok (.if_icmp .eq 5, 3) := zf_at zf_15 10 rfl
theorem dL_law_1091 : decode cL_law 1091 = .ok (.iload 6, 2) := zf_at zf_15 11 rfl
theorem dL_law_1093 : decode cL_law 1093 = .ok (.ifCond .ne 15, 3) := zf_at zf_15 12 rfl
theorem dL_law_1096 : decode cL_law 1096 = .ok (.aload_n 3, 1) := zf_at zf_15 13 rfl
theorem dL_law_1097 : decode cL_law 1097 = .ok (.iconst 0, 1) := zf_at zf_15 14 rfl
theorem dL_law_1098 : decode cL_law 1098 = .ok (.laload, 1) := zf_at zf_15 15 rfl
theorem dL_law_1099 : decode cL_law 1099 = .ok (.iload 7, 2) := zf_at zf_15 16 rfl
theorem dL_law_1101 : decode cL_law 1101 = .ok (.i2l, 1) := zf_at zf_15 17 rfl
theorem dL_law_1102 : decode cL_law 1102 = .ok (.lcmp, 1) := zf_at zf_15 18 rfl
theorem dL_law_1103 : decode cL_law 1103 = .ok (.ifCond .eq 5, 3) := zf_at zf_15 19 rfl
theorem dL_law_1108 : decode cL_law 1108 = .ok (.goto 2296, 3) := zf_at zf_15 20 rfl
theorem zf_16 : zf_all [(1111, .aload_n 1, 1), (1112, .aload_n 3, 1), (1113, .invokestatic 240, 3), (1116, .istore 6, 2), (1118, .aload_n 2, 1), (1119, .invokevirtual 242, 3), (1122, .istore 7, 2), (1124, .aload_n 2, 1), (1125, .invokevirtual 189, 3), (1128, .iload 6, 2), (1130, .if_icmp .eq 5, 3), (1135, .iload 6, 2), (1137, .ifCond .ne 15, 3), (1140, .aload_n 3, 1), (1141, .iconst 0, 1), (1142, .laload, 1), (1143, .iload 7, 2), (1145, .i2l, 1), (1146, .lcmp, 1), (1147, .ifCond .eq 5, 3), (1152, .goto 2252, 3)] = true := by decide +kernel
theorem dL_law_1111 : decode cL_law 1111 = .ok (.aload_n 1, 1) := zf_at zf_16 0 rfl
theorem dL_law_1112 : decode cL_law 1112 = .ok (.aload_n 3, 1) := zf_at zf_16 1 rfl
theorem dL_law_1113 : decode cL_law 1113 = .ok (.invokestatic 240, 3) := zf_at zf_16 2 rfl
theorem dL_law_1116 : decode cL_law 1116 = .ok (.istore 6, 2) := zf_at zf_16 3 rfl
theorem dL_law_1118 : decode cL_law 1118 = .ok (.aload_n 2, 1) := zf_at zf_16 4 rfl
theorem dL_law_1119 : decode cL_law 1119 = .ok (.invokevirtual 242, 3) := zf_at zf_16 5 rfl
theorem dL_law_1122 : decode cL_law 1122 = .ok (.istore 7, 2) := zf_at zf_16 6 rfl
theorem dL_law_1124 : decode cL_law 1124 = .ok (.aload_n 2, 1) := zf_at zf_16 7 rfl
theorem dL_law_1125 : decode cL_law 1125 = .ok (.invokevirtual 189, 3) := zf_at zf_16 8 rfl
theorem dL_law_1128 : decode cL_law 1128 = .ok (.iload 6, 2) := zf_at zf_16 9 rfl
theorem dL_law_1130 : decode cL_law 1130 = .ok (.if_icmp .eq 5, 3) := zf_at zf_16 10 rfl
theorem dL_law_1135 : decode cL_law 1135 = .ok (.iload 6, 2) := zf_at zf_16 11 rfl
theorem dL_law_1137 : decode cL_law 1137 = .ok (.ifCond .ne 15, 3) := zf_at zf_16 12 rfl
theorem dL_law_1140 : decode cL_law 1140 = .ok (.aload_n 3, 1) := zf_at zf_16 13 rfl
theorem dL_law_1141 : decode cL_law 1141 = .ok (.iconst 0, 1) := zf_at zf_16 14 rfl
theorem dL_law_1142 : decode cL_law 1142 = .ok (.laload, 1) := zf_at zf_16 15 rfl
theorem dL_law_1143 : decode cL_law 1143 = .ok (.iload 7, 2) := zf_at zf_16 16 rfl
theorem dL_law_1145 : decode cL_law 1145 = .ok (.i2l, 1) := zf_at zf_16 17 rfl
theorem dL_law_1146 : decode cL_law 1146 = .ok (.lcmp, 1) := zf_at zf_16 18 rfl
theorem dL_law_1147 : decode cL_law 1147 = .ok (.ifCond .eq 5, 3) := zf_at zf_16 19 rfl
theorem dL_law_1152 : decode cL_law 1152 = .ok (.goto 2252, 3) := zf_at zf_16 20 rfl
theorem zf_17 : zf_all [(1155, .aload_n 1, 1), (1156, .aload 4, 2), (1158, .invokestatic 243, 3), (1161, .istore 6, 2), (1163, .aload_n 2, 1), (1164, .invokevirtual 246, 3), (1167, .dstore 7, 2), (1169, .aload_n 2, 1), (1170, .invokevirtual 189, 3), (1173, .iload 6, 2), (1175, .if_icmp .eq 5, 3), (1180, .iload 6, 2), (1182, .ifCond .ne 35, 3), (1185, .aload 4, 2), (1187, .iconst 0, 1), (1188, .daload, 1), (1189, .dload 7, 2), (1191, .dcmp .l, 1), (1192, .ifCond .eq 25, 3), (1217, .goto 2187, 3)] = true := by decide +kernel
theorem dL_law_1155 : decode cL_law 1155 = .ok (.aload_n 1, 1) := zf_at zf_17 0 rfl
theorem dL_law_1156 : decode cL_law 1156 = .ok (.aload 4, 2) := zf_at zf_17 1 rfl
theorem dL_law_1158 : decode cL_law 1158 = .ok (.invokestatic 243, 3) := zf_at zf_17 2 rfl
theorem dL_law_1161 : decode cL_law 1161 = .ok (.istore 6, 2) := zf_at zf_17 3 rfl
theorem dL_law_1163 : decode cL_law 1163 = .ok (.aload_n 2, 1) := zf_at zf_17 4 rfl
theorem dL_law_1164 : decode cL_law 1164 = .ok (.invokevirtual 246, 3) := zf_at zf_17 5 rfl
theorem dL_law_1167 : decode cL_law 1167 = .ok (.dstore 7, 2) := zf_at zf_17 6 rfl
theorem dL_law_1169 : decode cL_law 1169 = .ok (.aload_n 2, 1) := zf_at zf_17 7 rfl
theorem dL_law_1170 : decode cL_law 1170 = .ok (.invokevirtual 189, 3) := zf_at zf_17 8 rfl
theorem dL_law_1173 : decode cL_law 1173 = .ok (.iload 6, 2) := zf_at zf_17 9 rfl
theorem dL_law_1175 : decode cL_law 1175 = .ok (.if_icmp .eq 5, 3) := zf_at zf_17 10 rfl
theorem dL_law_1180 : decode cL_law 1180 = .ok (.iload 6, 2) := zf_at zf_17 11 rfl
theorem dL_law_1182 : decode cL_law 1182 = .ok (.ifCond .ne 35, 3) := zf_at zf_17 12 rfl
theorem dL_law_1185 : decode cL_law 1185 = .ok (.aload 4, 2) := zf_at zf_17 13 rfl
theorem dL_law_1187 : decode cL_law 1187 = .ok (.iconst 0, 1) := zf_at zf_17 14 rfl
theorem dL_law_1188 : decode cL_law 1188 = .ok (.daload, 1) := zf_at zf_17 15 rfl
theorem dL_law_1189 : decode cL_law 1189 = .ok (.dload 7, 2) := zf_at zf_17 16 rfl
theorem dL_law_1191 : decode cL_law 1191 = .ok (.dcmp .l, 1) := zf_at zf_17 17 rfl
theorem dL_law_1192 : decode cL_law 1192 = .ok (.ifCond .eq 25, 3) := zf_at zf_17 18 rfl
theorem dL_law_1217 : decode cL_law 1217 = .ok (.goto 2187, 3) := zf_at zf_17 19 rfl
theorem zf_18 : zf_all [(1220, .aload_n 1, 1), (1221, .aload 4, 2), (1223, .invokestatic 247, 3), (1226, .istore 6, 2), (1228, .aload_n 2, 1), (1229, .invokevirtual 249, 3), (1232, .fstore 7, 2), (1234, .aload_n 2, 1), (1235, .invokevirtual 189, 3), (1238, .iload 6, 2), (1240, .if_icmp .eq 5, 3), (1245, .iload 6, 2), (1247, .ifCond .ne 36, 3), (1250, .aload 4, 2), (1252, .iconst 0, 1), (1253, .daload, 1), (1254, .fload 7, 2), (1256, .f2d, 1), (1257, .dcmp .l, 1), (1258, .ifCond .eq 25, 3), (1283, .goto 2121, 3)] = true := by decide +kernel
theorem dL_law_1220 : decode cL_law 1220 = .ok (.aload_n 1, 1) := zf_at zf_18 0 rfl
theorem dL_law_1221 : decode cL_law 1221 = .ok (.aload 4, 2) := zf_at zf_18 1 rfl
theorem dL_law_1223 : decode cL_law 1223 = .ok (.invokestatic 247, 3) := zf_at zf_18 2 rfl
theorem dL_law_1226 : decode cL_law 1226 = .ok (.istore 6, 2) := zf_at zf_18 3 rfl
theorem dL_law_1228 : decode cL_law 1228 = .ok (.aload_n 2, 1) := zf_at zf_18 4 rfl
theorem dL_law_1229 : decode cL_law 1229 = .ok (.invokevirtual 249, 3) := zf_at zf_18 5 rfl
theorem dL_law_1232 : decode cL_law 1232 = .ok (.fstore 7, 2) := zf_at zf_18 6 rfl
theorem dL_law_1234 : decode cL_law 1234 = .ok (.aload_n 2, 1) := zf_at zf_18 7 rfl
theorem dL_law_1235 : decode cL_law 1235 = .ok (.invokevirtual 189, 3) := zf_at zf_18 8 rfl
theorem dL_law_1238 : decode cL_law 1238 = .ok (.iload 6, 2) := zf_at zf_18 9 rfl
theorem dL_law_1240 : decode cL_law 1240 = .ok (.if_icmp .eq 5, 3) := zf_at zf_18 10 rfl
theorem dL_law_1245 : decode cL_law 1245 = .ok (.iload 6, 2) := zf_at zf_18 11 rfl
theorem dL_law_1247 : decode cL_law 1247 = .ok (.ifCond .ne 36, 3) := zf_at zf_18 12 rfl
theorem dL_law_1250 : decode cL_law 1250 = .ok (.aload 4, 2) := zf_at zf_18 13 rfl
theorem dL_law_1252 : decode cL_law 1252 = .ok (.iconst 0, 1) := zf_at zf_18 14 rfl
theorem dL_law_1253 : decode cL_law 1253 = .ok (.daload, 1) := zf_at zf_18 15 rfl
theorem dL_law_1254 : decode cL_law 1254 = .ok (.fload 7, 2) := zf_at zf_18 16 rfl
theorem dL_law_1256 : decode cL_law 1256 = .ok (.f2d, 1) := zf_at zf_18 17 rfl
theorem dL_law_1257 : decode cL_law 1257 = .ok (.dcmp .l, 1) := zf_at zf_18 18 rfl
theorem dL_law_1258 : decode cL_law 1258 = .ok (.ifCond .eq 25, 3) := zf_at zf_18 19 rfl
theorem dL_law_1283 : decode cL_law 1283 = .ok (.goto 2121, 3) := zf_at zf_18 20 rfl
theorem zf_19 : zf_all [(1286, .aload_n 1, 1), (1287, .aload 4, 2), (1289, .invokestatic 250, 3), (1292, .istore 6, 2), (1294, .aload_n 2, 1), (1295, .invokevirtual 252, 3), (1298, .fstore 7, 2), (1300, .aload_n 2, 1), (1301, .invokevirtual 189, 3), (1304, .iload 6, 2), (1306, .if_icmp .eq 5, 3), (1311, .iload 6, 2), (1313, .ifCond .ne 36, 3), (1316, .aload 4, 2), (1318, .iconst 0, 1), (1319, .daload, 1), (1320, .fload 7, 2), (1322, .f2d, 1), (1323, .dcmp .l, 1), (1324, .ifCond .eq 25, 3), (1349, .goto 2055, 3)] = true := by decide +kernel
theorem dL_law_1286 : decode cL_law 1286 = .ok (.aload_n 1, 1) := zf_at zf_19 0 rfl
theorem dL_law_1287 : decode cL_law 1287 = .ok (.aload 4, 2) := zf_at zf_19 1 rfl
theorem dL_law_1289 : decode cL_law 1289 = .ok (.invokestatic 250, 3) := zf_at zf_19 2 rfl
theorem dL_law_1292 : decode cL_law 1292 = .ok (.istore 6, 2) := zf_at zf_19 3 rfl
theorem dL_law_1294 : decode cL_law 1294 = .ok (.aload_n 2, 1) := zf_at zf_19 4 rfl
theorem dL_law_1295 : decode cL_law 1295 = .ok (.invokevirtual 252, 3) := zf_at zf_19 5 rfl
theorem dL_law_1298 : decode cL_law 1298 = .ok (.fstore 7, 2) := zf_at zf_19 6 rfl
theorem dL_law_1300 : decode cL_law 1300 = .ok (.aload_n 2, 1) := zf_at zf_19 7 rfl
theorem dL_law_1301 : decode cL_law 1301 = .ok (.invokevirtual 189, 3) := zf_at zf_19 8 rfl
theorem dL_law_1304 : decode cL_law 1304 = .ok (.iload 6, 2) := zf_at zf_19 9 rfl
theorem dL_law_1306 : decode cL_law 1306 = .ok (.if_icmp .eq 5, 3) := zf_at zf_19 10 rfl
theorem dL_law_1311 : decode cL_law 1311 = .ok (.iload 6, 2) := zf_at zf_19 11 rfl
theorem dL_law_1313 : decode cL_law 1313 = .ok (.ifCond .ne 36, 3) := zf_at zf_19 12 rfl
theorem dL_law_1316 : decode cL_law 1316 = .ok (.aload 4, 2) := zf_at zf_19 13 rfl
theorem dL_law_1318 : decode cL_law 1318 = .ok (.iconst 0, 1) := zf_at zf_19 14 rfl
theorem dL_law_1319 : decode cL_law 1319 = .ok (.daload, 1) := zf_at zf_19 15 rfl
theorem dL_law_1320 : decode cL_law 1320 = .ok (.fload 7, 2) := zf_at zf_19 16 rfl
theorem dL_law_1322 : decode cL_law 1322 = .ok (.f2d, 1) := zf_at zf_19 17 rfl
theorem dL_law_1323 : decode cL_law 1323 = .ok (.dcmp .l, 1) := zf_at zf_19 18 rfl
theorem dL_law_1324 : decode cL_law 1324 = .ok (.ifCond .eq 25, 3) := zf_at zf_19 19 rfl
theorem dL_law_1349 : decode cL_law 1349 = .ok (.goto 2055, 3) := zf_at zf_19 20 rfl
theorem zf_20 : zf_all [(1352, .aload_n 1, 1), (1353, .aload_n 0, 1), (1354, .iload 5, 2), (1356, .iconst 1, 1), (1357, .iadd, 1), (1358, .iaload, 1), (1359, .aload_n 0, 1), (1360, .iload 5, 2), (1362, .iconst 2, 1), (1363, .iadd, 1), (1364, .iaload, 1), (1365, .aload_n 3, 1), (1366, .invokestatic 253, 3), (1369, .istore 6, 2), (1371, .aload_n 2, 1), (1372, .aload_n 0, 1), (1373, .iload 5, 2), (1375, .iconst 1, 1), (1376, .iadd, 1), (1377, .iaload, 1), (1378, .aload_n 0, 1), (1379, .iload 5, 2), (1381, .iconst 2, 1), (1382, .iadd, 1), (1383, .iaload, 1), (1384, .invokevirtual 255, 3), (1387, .istore 7, 2), (1389, .aload_n 2, 1), (1390, .invokevirtual 189, 3), (1393, .iload 6, 2), (1395, .if_icmp .eq 5, 3), (1400, .iload 6, 2), (1402, .ifCond .ne 15, 3), (1405, .aload_n 3, 1), (1406, .iconst 0, 1), (1407, .laload, 1), (1408, .iload 7, 2), (1410, .i2l, 1), (1411, .lcmp, 1), (1412, .ifCond .eq 5, 3), (1417, .goto 1987, 3)] = true := by decide +kernel
theorem dL_law_1352 : decode cL_law 1352 = .ok (.aload_n 1, 1) := zf_at zf_20 0 rfl
theorem dL_law_1353 : decode cL_law 1353 = .ok (.aload_n 0, 1) := zf_at zf_20 1 rfl
theorem dL_law_1354 : decode cL_law 1354 = .ok (.iload 5, 2) := zf_at zf_20 2 rfl
theorem dL_law_1356 : decode cL_law 1356 = .ok (.iconst 1, 1) := zf_at zf_20 3 rfl
theorem dL_law_1357 : decode cL_law 1357 = .ok (.iadd, 1) := zf_at zf_20 4 rfl
theorem dL_law_1358 : decode cL_law 1358 = .ok (.iaload, 1) := zf_at zf_20 5 rfl
theorem dL_law_1359 : decode cL_law 1359 = .ok (.aload_n 0, 1) := zf_at zf_20 6 rfl
theorem dL_law_1360 : decode cL_law 1360 = .ok (.iload 5, 2) := zf_at zf_20 7 rfl
theorem dL_law_1362 : decode cL_law 1362 = .ok (.iconst 2, 1) := zf_at zf_20 8 rfl
theorem dL_law_1363 : decode cL_law 1363 = .ok (.iadd, 1) := zf_at zf_20 9 rfl
theorem dL_law_1364 : decode cL_law 1364 = .ok (.iaload, 1) := zf_at zf_20 10 rfl
theorem dL_law_1365 : decode cL_law 1365 = .ok (.aload_n 3, 1) := zf_at zf_20 11 rfl
theorem dL_law_1366 : decode cL_law 1366 = .ok (.invokestatic 253, 3) := zf_at zf_20 12 rfl
theorem dL_law_1369 : decode cL_law 1369 = .ok (.istore 6, 2) := zf_at zf_20 13 rfl
theorem dL_law_1371 : decode cL_law 1371 = .ok (.aload_n 2, 1) := zf_at zf_20 14 rfl
theorem dL_law_1372 : decode cL_law 1372 = .ok (.aload_n 0, 1) := zf_at zf_20 15 rfl
theorem dL_law_1373 : decode cL_law 1373 = .ok (.iload 5, 2) := zf_at zf_20 16 rfl
theorem dL_law_1375 : decode cL_law 1375 = .ok (.iconst 1, 1) := zf_at zf_20 17 rfl
theorem dL_law_1376 : decode cL_law 1376 = .ok (.iadd, 1) := zf_at zf_20 18 rfl
theorem dL_law_1377 : decode cL_law 1377 = .ok (.iaload, 1) := zf_at zf_20 19 rfl
theorem dL_law_1378 : decode cL_law 1378 = .ok (.aload_n 0, 1) := zf_at zf_20 20 rfl
theorem dL_law_1379 : decode cL_law 1379 = .ok (.iload 5, 2) := zf_at zf_20 21 rfl
theorem dL_law_1381 : decode cL_law 1381 = .ok (.iconst 2, 1) := zf_at zf_20 22 rfl
theorem dL_law_1382 : decode cL_law 1382 = .ok (.iadd, 1) := zf_at zf_20 23 rfl
theorem dL_law_1383 : decode cL_law 1383 = .ok (.iaload, 1) := zf_at zf_20 24 rfl
theorem dL_law_1384 : decode cL_law 1384 = .ok (.invokevirtual 255, 3) := zf_at zf_20 25 rfl
theorem dL_law_1387 : decode cL_law 1387 = .ok (.istore 7, 2) := zf_at zf_20 26 rfl
theorem dL_law_1389 : decode cL_law 1389 = .ok (.aload_n 2, 1) := zf_at zf_20 27 rfl
theorem dL_law_1390 : decode cL_law 1390 = .ok (.invokevirtual 189, 3) := zf_at zf_20 28 rfl
theorem dL_law_1393 : decode cL_law 1393 = .ok (.iload 6, 2) := zf_at zf_20 29 rfl
theorem dL_law_1395 : decode cL_law 1395 = .ok (.if_icmp .eq 5, 3) := zf_at zf_20 30 rfl
theorem dL_law_1400 : decode cL_law 1400 = .ok (.iload 6, 2) := zf_at zf_20 31 rfl
theorem dL_law_1402 : decode cL_law 1402 = .ok (.ifCond .ne 15, 3) := zf_at zf_20 32 rfl
theorem dL_law_1405 : decode cL_law 1405 = .ok (.aload_n 3, 1) := zf_at zf_20 33 rfl
theorem dL_law_1406 : decode cL_law 1406 = .ok (.iconst 0, 1) := zf_at zf_20 34 rfl
theorem dL_law_1407 : decode cL_law 1407 = .ok (.laload, 1) := zf_at zf_20 35 rfl
theorem dL_law_1408 : decode cL_law 1408 = .ok (.iload 7, 2) := zf_at zf_20 36 rfl
theorem dL_law_1410 : decode cL_law 1410 = .ok (.i2l, 1) := zf_at zf_20 37 rfl
theorem dL_law_1411 : decode cL_law 1411 = .ok (.lcmp, 1) := zf_at zf_20 38 rfl
theorem dL_law_1412 : decode cL_law 1412 = .ok (.ifCond .eq 5, 3) := zf_at zf_20 39 rfl
theorem dL_law_1417 : decode cL_law 1417 = .ok (.goto 1987, 3) := zf_at zf_20 40 rfl
theorem zf_21 : zf_all [(1420, .aload_n 1, 1), (1421, .aload_n 0, 1), (1422, .iload 5, 2), (1424, .iconst 1, 1), (1425, .iadd, 1), (1426, .iaload, 1), (1427, .aload_n 0, 1), (1428, .iload 5, 2), (1430, .iconst 2, 1), (1431, .iadd, 1), (1432, .iaload, 1), (1433, .aload_n 3, 1), (1434, .invokestatic 256, 3), (1437, .istore 6, 2), (1439, .aload_n 2, 1), (1440, .aload_n 0, 1), (1441, .iload 5, 2), (1443, .iconst 1, 1), (1444, .iadd, 1), (1445, .iaload, 1), (1446, .aload_n 0, 1), (1447, .iload 5, 2), (1449, .iconst 2, 1), (1450, .iadd, 1), (1451, .iaload, 1), (1452, .invokevirtual 258, 3), (1455, .istore 7, 2), (1457, .aload_n 2, 1), (1458, .invokevirtual 189, 3), (1461, .iload 6, 2), (1463, .if_icmp .eq 5, 3), (1468, .iload 6, 2), (1470, .ifCond .ne 15, 3), (1473, .aload_n 3, 1), (1474, .iconst 0, 1), (1475, .laload, 1), (1476, .iload 7, 2), (1478, .i2l, 1), (1479, .lcmp, 1), (1480, .ifCond .eq 5, 3), (1485, .goto 1919, 3)] = true := by decide +kernel
theorem dL_law_1420 : decode cL_law 1420 = .ok (.aload_n 1, 1) := zf_at zf_21 0 rfl
theorem dL_law_1421 : decode cL_law 1421 = .ok (.aload_n 0, 1) := zf_at zf_21 1 rfl
theorem dL_law_1422 : decode cL_law 1422 = .ok (.iload 5, 2) := zf_at zf_21 2 rfl
theorem dL_law_1424 : decode cL_law 1424 = .ok (.iconst 1, 1) := zf_at zf_21 3 rfl
theorem dL_law_1425 : decode cL_law 1425 = .ok (.iadd, 1) := zf_at zf_21 4 rfl
theorem dL_law_1426 : decode cL_law 1426 = .ok (.iaload, 1) := zf_at zf_21 5 rfl
theorem dL_law_1427 : decode cL_law 1427 = .ok (.aload_n 0, 1) := zf_at zf_21 6 rfl
theorem dL_law_1428 : decode cL_law 1428 = .ok (.iload 5, 2) := zf_at zf_21 7 rfl
theorem dL_law_1430 : decode cL_law 1430 = .ok (.iconst 2, 1) := zf_at zf_21 8 rfl
theorem dL_law_1431 : decode cL_law 1431 = .ok (.iadd, 1) := zf_at zf_21 9 rfl
theorem dL_law_1432 : decode cL_law 1432 = .ok (.iaload, 1) := zf_at zf_21 10 rfl
theorem dL_law_1433 : decode cL_law 1433 = .ok (.aload_n 3, 1) := zf_at zf_21 11 rfl
theorem dL_law_1434 : decode cL_law 1434 = .ok (.invokestatic 256, 3) := zf_at zf_21 12 rfl
theorem dL_law_1437 : decode cL_law 1437 = .ok (.istore 6, 2) := zf_at zf_21 13 rfl
theorem dL_law_1439 : decode cL_law 1439 = .ok (.aload_n 2, 1) := zf_at zf_21 14 rfl
theorem dL_law_1440 : decode cL_law 1440 = .ok (.aload_n 0, 1) := zf_at zf_21 15 rfl
theorem dL_law_1441 : decode cL_law 1441 = .ok (.iload 5, 2) := zf_at zf_21 16 rfl
theorem dL_law_1443 : decode cL_law 1443 = .ok (.iconst 1, 1) := zf_at zf_21 17 rfl
theorem dL_law_1444 : decode cL_law 1444 = .ok (.iadd, 1) := zf_at zf_21 18 rfl
theorem dL_law_1445 : decode cL_law 1445 = .ok (.iaload, 1) := zf_at zf_21 19 rfl
theorem dL_law_1446 : decode cL_law 1446 = .ok (.aload_n 0, 1) := zf_at zf_21 20 rfl
theorem dL_law_1447 : decode cL_law 1447 = .ok (.iload 5, 2) := zf_at zf_21 21 rfl
theorem dL_law_1449 : decode cL_law 1449 = .ok (.iconst 2, 1) := zf_at zf_21 22 rfl
theorem dL_law_1450 : decode cL_law 1450 = .ok (.iadd, 1) := zf_at zf_21 23 rfl
theorem dL_law_1451 : decode cL_law 1451 = .ok (.iaload, 1) := zf_at zf_21 24 rfl
theorem dL_law_1452 : decode cL_law 1452 = .ok (.invokevirtual 258, 3) := zf_at zf_21 25 rfl
theorem dL_law_1455 : decode cL_law 1455 = .ok (.istore 7, 2) := zf_at zf_21 26 rfl
theorem dL_law_1457 : decode cL_law 1457 = .ok (.aload_n 2, 1) := zf_at zf_21 27 rfl
theorem dL_law_1458 : decode cL_law 1458 = .ok (.invokevirtual 189, 3) := zf_at zf_21 28 rfl
theorem dL_law_1461 : decode cL_law 1461 = .ok (.iload 6, 2) := zf_at zf_21 29 rfl
theorem dL_law_1463 : decode cL_law 1463 = .ok (.if_icmp .eq 5, 3) := zf_at zf_21 30 rfl
theorem dL_law_1468 : decode cL_law 1468 = .ok (.iload 6, 2) := zf_at zf_21 31 rfl
theorem dL_law_1470 : decode cL_law 1470 = .ok (.ifCond .ne 15, 3) := zf_at zf_21 32 rfl
theorem dL_law_1473 : decode cL_law 1473 = .ok (.aload_n 3, 1) := zf_at zf_21 33 rfl
theorem dL_law_1474 : decode cL_law 1474 = .ok (.iconst 0, 1) := zf_at zf_21 34 rfl
theorem dL_law_1475 : decode cL_law 1475 = .ok (.laload, 1) := zf_at zf_21 35 rfl
theorem dL_law_1476 : decode cL_law 1476 = .ok (.iload 7, 2) := zf_at zf_21 36 rfl
theorem dL_law_1478 : decode cL_law 1478 = .ok (.i2l, 1) := zf_at zf_21 37 rfl
theorem dL_law_1479 : decode cL_law 1479 = .ok (.lcmp, 1) := zf_at zf_21 38 rfl
theorem dL_law_1480 : decode cL_law 1480 = .ok (.ifCond .eq 5, 3) := zf_at zf_21 39 rfl
theorem dL_law_1485 : decode cL_law 1485 = .ok (.goto 1919, 3) := zf_at zf_21 40 rfl
theorem zf_22 : zf_all [(1488, .aload_n 1, 1), (1489, .aload_n 0, 1), (1490, .iload 5, 2), (1492, .iconst 1, 1), (1493, .iadd, 1), (1494, .iaload, 1), (1495, .aload_n 3, 1), (1496, .invokestatic 259, 3), (1499, .istore 6, 2), (1501, .aload_n 2, 1), (1502, .aload_n 0, 1), (1503, .iload 5, 2), (1505, .iconst 1, 1), (1506, .iadd, 1), (1507, .iaload, 1), (1508, .invokevirtual 261, 3), (1511, .istore 7, 2), (1513, .aload_n 2, 1), (1514, .invokevirtual 189, 3), (1517, .iload 6, 2), (1519, .if_icmp .eq 5, 3), (1524, .iload 6, 2), (1526, .ifCond .ne 15, 3), (1529, .aload_n 3, 1), (1530, .iconst 0, 1), (1531, .laload, 1), (1532, .iload 7, 2), (1534, .i2l, 1), (1535, .lcmp, 1), (1536, .ifCond .eq 5, 3), (1541, .goto 1863, 3)] = true := by decide +kernel
theorem dL_law_1488 : decode cL_law 1488 = .ok (.aload_n 1, 1) := zf_at zf_22 0 rfl
theorem dL_law_1489 : decode cL_law 1489 = .ok (.aload_n 0, 1) := zf_at zf_22 1 rfl
theorem dL_law_1490 : decode cL_law 1490 = .ok (.iload 5, 2) := zf_at zf_22 2 rfl
theorem dL_law_1492 : decode cL_law 1492 = .ok (.iconst 1, 1) := zf_at zf_22 3 rfl
theorem dL_law_1493 : decode cL_law 1493 = .ok (.iadd, 1) := zf_at zf_22 4 rfl
theorem dL_law_1494 : decode cL_law 1494 = .ok (.iaload, 1) := zf_at zf_22 5 rfl
theorem dL_law_1495 : decode cL_law 1495 = .ok (.aload_n 3, 1) := zf_at zf_22 6 rfl
theorem dL_law_1496 : decode cL_law 1496 = .ok (.invokestatic 259, 3) := zf_at zf_22 7 rfl
theorem dL_law_1499 : decode cL_law 1499 = .ok (.istore 6, 2) := zf_at zf_22 8 rfl
theorem dL_law_1501 : decode cL_law 1501 = .ok (.aload_n 2, 1) := zf_at zf_22 9 rfl
theorem dL_law_1502 : decode cL_law 1502 = .ok (.aload_n 0, 1) := zf_at zf_22 10 rfl
theorem dL_law_1503 : decode cL_law 1503 = .ok (.iload 5, 2) := zf_at zf_22 11 rfl
theorem dL_law_1505 : decode cL_law 1505 = .ok (.iconst 1, 1) := zf_at zf_22 12 rfl
theorem dL_law_1506 : decode cL_law 1506 = .ok (.iadd, 1) := zf_at zf_22 13 rfl
theorem dL_law_1507 : decode cL_law 1507 = .ok (.iaload, 1) := zf_at zf_22 14 rfl
theorem dL_law_1508 : decode cL_law 1508 = .ok (.invokevirtual 261, 3) := zf_at zf_22 15 rfl
theorem dL_law_1511 : decode cL_law 1511 = .ok (.istore 7, 2) := zf_at zf_22 16 rfl
theorem dL_law_1513 : decode cL_law 1513 = .ok (.aload_n 2, 1) := zf_at zf_22 17 rfl
theorem dL_law_1514 : decode cL_law 1514 = .ok (.invokevirtual 189, 3) := zf_at zf_22 18 rfl
theorem dL_law_1517 : decode cL_law 1517 = .ok (.iload 6, 2) := zf_at zf_22 19 rfl
theorem dL_law_1519 : decode cL_law 1519 = .ok (.if_icmp .eq 5, 3) := zf_at zf_22 20 rfl
theorem dL_law_1524 : decode cL_law 1524 = .ok (.iload 6, 2) := zf_at zf_22 21 rfl
theorem dL_law_1526 : decode cL_law 1526 = .ok (.ifCond .ne 15, 3) := zf_at zf_22 22 rfl
theorem dL_law_1529 : decode cL_law 1529 = .ok (.aload_n 3, 1) := zf_at zf_22 23 rfl
theorem dL_law_1530 : decode cL_law 1530 = .ok (.iconst 0, 1) := zf_at zf_22 24 rfl
theorem dL_law_1531 : decode cL_law 1531 = .ok (.laload, 1) := zf_at zf_22 25 rfl
theorem dL_law_1532 : decode cL_law 1532 = .ok (.iload 7, 2) := zf_at zf_22 26 rfl
theorem dL_law_1534 : decode cL_law 1534 = .ok (.i2l, 1) := zf_at zf_22 27 rfl
theorem dL_law_1535 : decode cL_law 1535 = .ok (.lcmp, 1) := zf_at zf_22 28 rfl
theorem dL_law_1536 : decode cL_law 1536 = .ok (.ifCond .eq 5, 3) := zf_at zf_22 29 rfl
theorem dL_law_1541 : decode cL_law 1541 = .ok (.goto 1863, 3) := zf_at zf_22 30 rfl
theorem zf_23 : zf_all [(1544, .aload_n 1, 1), (1545, .aload_n 0, 1), (1546, .iload 5, 2), (1548, .iconst 1, 1), (1549, .iadd, 1), (1550, .iaload, 1), (1551, .aload_n 3, 1), (1552, .invokestatic 262, 3), (1555, .istore 6, 2), (1557, .aload_n 2, 1), (1558, .aload_n 0, 1), (1559, .iload 5, 2), (1561, .iconst 1, 1), (1562, .iadd, 1), (1563, .iaload, 1), (1564, .invokevirtual 264, 3), (1567, .istore 7, 2), (1569, .aload_n 2, 1), (1570, .invokevirtual 189, 3), (1573, .iload 6, 2), (1575, .if_icmp .eq 5, 3), (1580, .iload 6, 2), (1582, .ifCond .ne 15, 3), (1585, .aload_n 3, 1), (1586, .iconst 0, 1), (1587, .laload, 1), (1588, .iload 7, 2), (1590, .i2l, 1), (1591, .lcmp, 1), (1592, .ifCond .eq 5, 3), (1597, .goto 1807, 3)] = true := by decide +kernel
theorem dL_law_1544 : decode cL_law 1544 = .ok (.aload_n 1, 1) := zf_at zf_23 0 rfl
theorem dL_law_1545 : decode cL_law 1545 = .ok (.aload_n 0, 1) := zf_at zf_23 1 rfl
theorem dL_law_1546 : decode cL_law 1546 = .ok (.iload 5, 2) := zf_at zf_23 2 rfl
theorem dL_law_1548 : decode cL_law 1548 = .ok (.iconst 1, 1) := zf_at zf_23 3 rfl
theorem dL_law_1549 : decode cL_law 1549 = .ok (.iadd, 1) := zf_at zf_23 4 rfl
theorem dL_law_1550 : decode cL_law 1550 = .ok (.iaload, 1) := zf_at zf_23 5 rfl
theorem dL_law_1551 : decode cL_law 1551 = .ok (.aload_n 3, 1) := zf_at zf_23 6 rfl
theorem dL_law_1552 : decode cL_law 1552 = .ok (.invokestatic 262, 3) := zf_at zf_23 7 rfl
theorem dL_law_1555 : decode cL_law 1555 = .ok (.istore 6, 2) := zf_at zf_23 8 rfl
theorem dL_law_1557 : decode cL_law 1557 = .ok (.aload_n 2, 1) := zf_at zf_23 9 rfl
theorem dL_law_1558 : decode cL_law 1558 = .ok (.aload_n 0, 1) := zf_at zf_23 10 rfl
theorem dL_law_1559 : decode cL_law 1559 = .ok (.iload 5, 2) := zf_at zf_23 11 rfl
theorem dL_law_1561 : decode cL_law 1561 = .ok (.iconst 1, 1) := zf_at zf_23 12 rfl
theorem dL_law_1562 : decode cL_law 1562 = .ok (.iadd, 1) := zf_at zf_23 13 rfl
theorem dL_law_1563 : decode cL_law 1563 = .ok (.iaload, 1) := zf_at zf_23 14 rfl
theorem dL_law_1564 : decode cL_law 1564 = .ok (.invokevirtual 264, 3) := zf_at zf_23 15 rfl
theorem dL_law_1567 : decode cL_law 1567 = .ok (.istore 7, 2) := zf_at zf_23 16 rfl
theorem dL_law_1569 : decode cL_law 1569 = .ok (.aload_n 2, 1) := zf_at zf_23 17 rfl
theorem dL_law_1570 : decode cL_law 1570 = .ok (.invokevirtual 189, 3) := zf_at zf_23 18 rfl
theorem dL_law_1573 : decode cL_law 1573 = .ok (.iload 6, 2) := zf_at zf_23 19 rfl
theorem dL_law_1575 : decode cL_law 1575 = .ok (.if_icmp .eq 5, 3) := zf_at zf_23 20 rfl
theorem dL_law_1580 : decode cL_law 1580 = .ok (.iload 6, 2) := zf_at zf_23 21 rfl
theorem dL_law_1582 : decode cL_law 1582 = .ok (.ifCond .ne 15, 3) := zf_at zf_23 22 rfl
theorem dL_law_1585 : decode cL_law 1585 = .ok (.aload_n 3, 1) := zf_at zf_23 23 rfl
theorem dL_law_1586 : decode cL_law 1586 = .ok (.iconst 0, 1) := zf_at zf_23 24 rfl
theorem dL_law_1587 : decode cL_law 1587 = .ok (.laload, 1) := zf_at zf_23 25 rfl
theorem dL_law_1588 : decode cL_law 1588 = .ok (.iload 7, 2) := zf_at zf_23 26 rfl
theorem dL_law_1590 : decode cL_law 1590 = .ok (.i2l, 1) := zf_at zf_23 27 rfl
theorem dL_law_1591 : decode cL_law 1591 = .ok (.lcmp, 1) := zf_at zf_23 28 rfl
theorem dL_law_1592 : decode cL_law 1592 = .ok (.ifCond .eq 5, 3) := zf_at zf_23 29 rfl
theorem dL_law_1597 : decode cL_law 1597 = .ok (.goto 1807, 3) := zf_at zf_23 30 rfl
theorem zf_24 : zf_all [(1600, .aload_n 1, 1), (1601, .aload_n 0, 1), (1602, .iload 5, 2), (1604, .iconst 1, 1), (1605, .iadd, 1), (1606, .iaload, 1), (1607, .aload_n 0, 1), (1608, .iload 5, 2), (1610, .iconst 2, 1), (1611, .iadd, 1), (1612, .iaload, 1), (1613, .aload_n 3, 1), (1614, .invokestatic 265, 3), (1617, .istore 6, 2), (1619, .aload_n 2, 1), (1620, .aload_n 0, 1), (1621, .iload 5, 2), (1623, .iconst 1, 1), (1624, .iadd, 1), (1625, .iaload, 1), (1626, .aload_n 0, 1), (1627, .iload 5, 2), (1629, .iconst 2, 1), (1630, .iadd, 1), (1631, .iaload, 1), (1632, .invokevirtual 267, 3), (1635, .istore 7, 2), (1637, .aload_n 2, 1), (1638, .invokevirtual 189, 3), (1641, .iload 6, 2), (1643, .if_icmp .eq 5, 3), (1648, .iload 6, 2), (1650, .ifCond .ne 15, 3), (1653, .aload_n 3, 1), (1654, .iconst 0, 1), (1655, .laload, 1), (1656, .iload 7, 2), (1658, .i2l, 1), (1659, .lcmp, 1), (1660, .ifCond .eq 5, 3), (1665, .goto 1739, 3)] = true := by decide +kernel
theorem dL_law_1600 : decode cL_law 1600 = .ok (.aload_n 1, 1) := zf_at zf_24 0 rfl
theorem dL_law_1601 : decode cL_law 1601 = .ok (.aload_n 0, 1) := zf_at zf_24 1 rfl
theorem dL_law_1602 : decode cL_law 1602 = .ok (.iload 5, 2) := zf_at zf_24 2 rfl
theorem dL_law_1604 : decode cL_law 1604 = .ok (.iconst 1, 1) := zf_at zf_24 3 rfl
theorem dL_law_1605 : decode cL_law 1605 = .ok (.iadd, 1) := zf_at zf_24 4 rfl
theorem dL_law_1606 : decode cL_law 1606 = .ok (.iaload, 1) := zf_at zf_24 5 rfl
theorem dL_law_1607 : decode cL_law 1607 = .ok (.aload_n 0, 1) := zf_at zf_24 6 rfl
theorem dL_law_1608 : decode cL_law 1608 = .ok (.iload 5, 2) := zf_at zf_24 7 rfl
theorem dL_law_1610 : decode cL_law 1610 = .ok (.iconst 2, 1) := zf_at zf_24 8 rfl
theorem dL_law_1611 : decode cL_law 1611 = .ok (.iadd, 1) := zf_at zf_24 9 rfl
theorem dL_law_1612 : decode cL_law 1612 = .ok (.iaload, 1) := zf_at zf_24 10 rfl
theorem dL_law_1613 : decode cL_law 1613 = .ok (.aload_n 3, 1) := zf_at zf_24 11 rfl
theorem dL_law_1614 : decode cL_law 1614 = .ok (.invokestatic 265, 3) := zf_at zf_24 12 rfl
theorem dL_law_1617 : decode cL_law 1617 = .ok (.istore 6, 2) := zf_at zf_24 13 rfl
theorem dL_law_1619 : decode cL_law 1619 = .ok (.aload_n 2, 1) := zf_at zf_24 14 rfl
theorem dL_law_1620 : decode cL_law 1620 = .ok (.aload_n 0, 1) := zf_at zf_24 15 rfl
theorem dL_law_1621 : decode cL_law 1621 = .ok (.iload 5, 2) := zf_at zf_24 16 rfl
theorem dL_law_1623 : decode cL_law 1623 = .ok (.iconst 1, 1) := zf_at zf_24 17 rfl
theorem dL_law_1624 : decode cL_law 1624 = .ok (.iadd, 1) := zf_at zf_24 18 rfl
theorem dL_law_1625 : decode cL_law 1625 = .ok (.iaload, 1) := zf_at zf_24 19 rfl
theorem dL_law_1626 : decode cL_law 1626 = .ok (.aload_n 0, 1) := zf_at zf_24 20 rfl
theorem dL_law_1627 : decode cL_law 1627 = .ok (.iload 5, 2) := zf_at zf_24 21 rfl
theorem dL_law_1629 : decode cL_law 1629 = .ok (.iconst 2, 1) := zf_at zf_24 22 rfl
theorem dL_law_1630 : decode cL_law 1630 = .ok (.iadd, 1) := zf_at zf_24 23 rfl
theorem dL_law_1631 : decode cL_law 1631 = .ok (.iaload, 1) := zf_at zf_24 24 rfl
theorem dL_law_1632 : decode cL_law 1632 = .ok (.invokevirtual 267, 3) := zf_at zf_24 25 rfl
theorem dL_law_1635 : decode cL_law 1635 = .ok (.istore 7, 2) := zf_at zf_24 26 rfl
theorem dL_law_1637 : decode cL_law 1637 = .ok (.aload_n 2, 1) := zf_at zf_24 27 rfl
theorem dL_law_1638 : decode cL_law 1638 = .ok (.invokevirtual 189, 3) := zf_at zf_24 28 rfl
theorem dL_law_1641 : decode cL_law 1641 = .ok (.iload 6, 2) := zf_at zf_24 29 rfl
theorem dL_law_1643 : decode cL_law 1643 = .ok (.if_icmp .eq 5, 3) := zf_at zf_24 30 rfl
theorem dL_law_1648 : decode cL_law 1648 = .ok (.iload 6, 2) := zf_at zf_24 31 rfl
theorem dL_law_1650 : decode cL_law 1650 = .ok (.ifCond .ne 15, 3) := zf_at zf_24 32 rfl
theorem dL_law_1653 : decode cL_law 1653 = .ok (.aload_n 3, 1) := zf_at zf_24 33 rfl
theorem dL_law_1654 : decode cL_law 1654 = .ok (.iconst 0, 1) := zf_at zf_24 34 rfl
theorem dL_law_1655 : decode cL_law 1655 = .ok (.laload, 1) := zf_at zf_24 35 rfl
theorem dL_law_1656 : decode cL_law 1656 = .ok (.iload 7, 2) := zf_at zf_24 36 rfl
theorem dL_law_1658 : decode cL_law 1658 = .ok (.i2l, 1) := zf_at zf_24 37 rfl
theorem dL_law_1659 : decode cL_law 1659 = .ok (.lcmp, 1) := zf_at zf_24 38 rfl
theorem dL_law_1660 : decode cL_law 1660 = .ok (.ifCond .eq 5, 3) := zf_at zf_24 39 rfl
theorem dL_law_1665 : decode cL_law 1665 = .ok (.goto 1739, 3) := zf_at zf_24 40 rfl
theorem zf_25 : zf_all [(1668, .aload_n 1, 1), (1669, .aload_n 0, 1), (1670, .iload 5, 2), (1672, .iconst 1, 1), (1673, .iadd, 1), (1674, .iaload, 1), (1675, .aload_n 3, 1), (1676, .invokestatic 268, 3), (1679, .istore 6, 2), (1681, .aload_n 2, 1), (1682, .aload_n 0, 1), (1683, .iload 5, 2), (1685, .iconst 1, 1), (1686, .iadd, 1), (1687, .iaload, 1), (1688, .invokevirtual 270, 3), (1691, .istore 7, 2), (1693, .aload_n 2, 1), (1694, .invokevirtual 189, 3), (1697, .iload 6, 2), (1699, .if_icmp .eq 5, 3), (1704, .iload 6, 2), (1706, .ifCond .ne 15, 3), (1709, .aload_n 3, 1), (1710, .iconst 0, 1), (1711, .laload, 1), (1712, .iload 7, 2), (1714, .i2l, 1), (1715, .lcmp, 1), (1716, .ifCond .eq 5, 3), (1721, .goto 1683, 3)] = true := by decide +kernel
theorem dL_law_1668 : decode cL_law 1668 = .ok (.aload_n 1, 1) := zf_at zf_25 0 rfl
theorem dL_law_1669 : decode cL_law 1669 = .ok (.aload_n 0, 1) := zf_at zf_25 1 rfl
theorem dL_law_1670 : decode cL_law 1670 = .ok (.iload 5, 2) := zf_at zf_25 2 rfl
theorem dL_law_1672 : decode cL_law 1672 = .ok (.iconst 1, 1) := zf_at zf_25 3 rfl
theorem dL_law_1673 : decode cL_law 1673 = .ok (.iadd, 1) := zf_at zf_25 4 rfl
theorem dL_law_1674 : decode cL_law 1674 = .ok (.iaload, 1) := zf_at zf_25 5 rfl
theorem dL_law_1675 : decode cL_law 1675 = .ok (.aload_n 3, 1) := zf_at zf_25 6 rfl
theorem dL_law_1676 : decode cL_law 1676 = .ok (.invokestatic 268, 3) := zf_at zf_25 7 rfl
theorem dL_law_1679 : decode cL_law 1679 = .ok (.istore 6, 2) := zf_at zf_25 8 rfl
theorem dL_law_1681 : decode cL_law 1681 = .ok (.aload_n 2, 1) := zf_at zf_25 9 rfl
theorem dL_law_1682 : decode cL_law 1682 = .ok (.aload_n 0, 1) := zf_at zf_25 10 rfl
theorem dL_law_1683 : decode cL_law 1683 = .ok (.iload 5, 2) := zf_at zf_25 11 rfl
theorem dL_law_1685 : decode cL_law 1685 = .ok (.iconst 1, 1) := zf_at zf_25 12 rfl
theorem dL_law_1686 : decode cL_law 1686 = .ok (.iadd, 1) := zf_at zf_25 13 rfl
theorem dL_law_1687 : decode cL_law 1687 = .ok (.iaload, 1) := zf_at zf_25 14 rfl
theorem dL_law_1688 : decode cL_law 1688 = .ok (.invokevirtual 270, 3) := zf_at zf_25 15 rfl
theorem dL_law_1691 : decode cL_law 1691 = .ok (.istore 7, 2) := zf_at zf_25 16 rfl
theorem dL_law_1693 : decode cL_law 1693 = .ok (.aload_n 2, 1) := zf_at zf_25 17 rfl
theorem dL_law_1694 : decode cL_law 1694 = .ok (.invokevirtual 189, 3) := zf_at zf_25 18 rfl
theorem dL_law_1697 : decode cL_law 1697 = .ok (.iload 6, 2) := zf_at zf_25 19 rfl
theorem dL_law_1699 : decode cL_law 1699 = .ok (.if_icmp .eq 5, 3) := zf_at zf_25 20 rfl
theorem dL_law_1704 : decode cL_law 1704 = .ok (.iload 6, 2) := zf_at zf_25 21 rfl
theorem dL_law_1706 : decode cL_law 1706 = .ok (.ifCond .ne 15, 3) := zf_at zf_25 22 rfl
theorem dL_law_1709 : decode cL_law 1709 = .ok (.aload_n 3, 1) := zf_at zf_25 23 rfl
theorem dL_law_1710 : decode cL_law 1710 = .ok (.iconst 0, 1) := zf_at zf_25 24 rfl
theorem dL_law_1711 : decode cL_law 1711 = .ok (.laload, 1) := zf_at zf_25 25 rfl
theorem dL_law_1712 : decode cL_law 1712 = .ok (.iload 7, 2) := zf_at zf_25 26 rfl
theorem dL_law_1714 : decode cL_law 1714 = .ok (.i2l, 1) := zf_at zf_25 27 rfl
theorem dL_law_1715 : decode cL_law 1715 = .ok (.lcmp, 1) := zf_at zf_25 28 rfl
theorem dL_law_1716 : decode cL_law 1716 = .ok (.ifCond .eq 5, 3) := zf_at zf_25 29 rfl
theorem dL_law_1721 : decode cL_law 1721 = .ok (.goto 1683, 3) := zf_at zf_25 30 rfl
theorem zf_26 : zf_all [(1724, .aload_n 1, 1), (1725, .aload_n 0, 1), (1726, .iload 5, 2), (1728, .iconst 1, 1), (1729, .iadd, 1), (1730, .iaload, 1), (1731, .aload_n 3, 1), (1732, .invokestatic 271, 3), (1735, .istore 6, 2), (1737, .aload_n 2, 1), (1738, .aload_n 0, 1), (1739, .iload 5, 2), (1741, .iconst 1, 1), (1742, .iadd, 1), (1743, .iaload, 1), (1744, .invokevirtual 273, 3), (1747, .istore 7, 2), (1749, .aload_n 2, 1), (1750, .invokevirtual 189, 3), (1753, .iload 6, 2), (1755, .if_icmp .eq 5, 3), (1760, .iload 6, 2), (1762, .ifCond .ne 15, 3), (1765, .aload_n 3, 1), (1766, .iconst 0, 1), (1767, .laload, 1), (1768, .iload 7, 2), (1770, .i2l, 1), (1771, .lcmp, 1), (1772, .ifCond .eq 5, 3), (1777, .goto 1627, 3)] = true := by decide +kernel
theorem dL_law_1724 : decode cL_law 1724 = .ok (.aload_n 1, 1) := zf_at zf_26 0 rfl
theorem dL_law_1725 : decode cL_law 1725 = .ok (.aload_n 0, 1) := zf_at zf_26 1 rfl
theorem dL_law_1726 : decode cL_law 1726 = .ok (.iload 5, 2) := zf_at zf_26 2 rfl
theorem dL_law_1728 : decode cL_law 1728 = .ok (.iconst 1, 1) := zf_at zf_26 3 rfl
theorem dL_law_1729 : decode cL_law 1729 = .ok (.iadd, 1) := zf_at zf_26 4 rfl
theorem dL_law_1730 : decode cL_law 1730 = .ok (.iaload, 1) := zf_at zf_26 5 rfl
theorem dL_law_1731 : decode cL_law 1731 = .ok (.aload_n 3, 1) := zf_at zf_26 6 rfl
theorem dL_law_1732 : decode cL_law 1732 = .ok (.invokestatic 271, 3) := zf_at zf_26 7 rfl
theorem dL_law_1735 : decode cL_law 1735 = .ok (.istore 6, 2) := zf_at zf_26 8 rfl
theorem dL_law_1737 : decode cL_law 1737 = .ok (.aload_n 2, 1) := zf_at zf_26 9 rfl
theorem dL_law_1738 : decode cL_law 1738 = .ok (.aload_n 0, 1) := zf_at zf_26 10 rfl
theorem dL_law_1739 : decode cL_law 1739 = .ok (.iload 5, 2) := zf_at zf_26 11 rfl
theorem dL_law_1741 : decode cL_law 1741 = .ok (.iconst 1, 1) := zf_at zf_26 12 rfl
theorem dL_law_1742 : decode cL_law 1742 = .ok (.iadd, 1) := zf_at zf_26 13 rfl
theorem dL_law_1743 : decode cL_law 1743 = .ok (.iaload, 1) := zf_at zf_26 14 rfl
theorem dL_law_1744 : decode cL_law 1744 = .ok (.invokevirtual 273, 3) := zf_at zf_26 15 rfl
theorem dL_law_1747 : decode cL_law 1747 = .ok (.istore 7, 2) := zf_at zf_26 16 rfl
theorem dL_law_1749 : decode cL_law 1749 = .ok (.aload_n 2, 1) := zf_at zf_26 17 rfl
theorem dL_law_1750 : decode cL_law 1750 = .ok (.invokevirtual 189, 3) := zf_at zf_26 18 rfl
theorem dL_law_1753 : decode cL_law 1753 = .ok (.iload 6, 2) := zf_at zf_26 19 rfl
theorem dL_law_1755 : decode cL_law 1755 = .ok (.if_icmp .eq 5, 3) := zf_at zf_26 20 rfl
theorem dL_law_1760 : decode cL_law 1760 = .ok (.iload 6, 2) := zf_at zf_26 21 rfl
theorem dL_law_1762 : decode cL_law 1762 = .ok (.ifCond .ne 15, 3) := zf_at zf_26 22 rfl
theorem dL_law_1765 : decode cL_law 1765 = .ok (.aload_n 3, 1) := zf_at zf_26 23 rfl
theorem dL_law_1766 : decode cL_law 1766 = .ok (.iconst 0, 1) := zf_at zf_26 24 rfl
theorem dL_law_1767 : decode cL_law 1767 = .ok (.laload, 1) := zf_at zf_26 25 rfl
theorem dL_law_1768 : decode cL_law 1768 = .ok (.iload 7, 2) := zf_at zf_26 26 rfl
theorem dL_law_1770 : decode cL_law 1770 = .ok (.i2l, 1) := zf_at zf_26 27 rfl
theorem dL_law_1771 : decode cL_law 1771 = .ok (.lcmp, 1) := zf_at zf_26 28 rfl
theorem dL_law_1772 : decode cL_law 1772 = .ok (.ifCond .eq 5, 3) := zf_at zf_26 29 rfl
theorem dL_law_1777 : decode cL_law 1777 = .ok (.goto 1627, 3) := zf_at zf_26 30 rfl
theorem zf_27 : zf_all [(1780, .aload_n 1, 1), (1781, .aload_n 0, 1), (1782, .iload 5, 2), (1784, .iconst 1, 1), (1785, .iadd, 1), (1786, .iaload, 1), (1787, .aload_n 0, 1), (1788, .iload 5, 2), (1790, .iconst 2, 1), (1791, .iadd, 1), (1792, .iaload, 1), (1793, .aload_n 3, 1), (1794, .invokestatic 274, 3), (1797, .istore 6, 2), (1799, .aload_n 2, 1), (1800, .aload_n 0, 1), (1801, .iload 5, 2), (1803, .iconst 1, 1), (1804, .iadd, 1), (1805, .iaload, 1), (1806, .aload_n 0, 1), (1807, .iload 5, 2), (1809, .iconst 2, 1), (1810, .iadd, 1), (1811, .iaload, 1), (1812, .invokevirtual 276, 3), (1815, .istore 7, 2), (1817, .aload_n 2, 1), (1818, .invokevirtual 189, 3), (1821, .iload 6, 2), (1823, .if_icmp .eq 5, 3), (1828, .iload 6, 2), (1830, .ifCond .ne 22, 3), (1833, .aload_n 3, 1), (1834, .iconst 0, 1), (1835, .laload, 1), (1836, .iload 7, 2), (1838, .ifCond .eq 7, 3), (1841, .lconst 1, 1), (1842, .goto 4, 3), (1845, .lconst 0, 1), (1846, .lcmp, 1), (1847, .ifCond .eq 5, 3), (1852, .goto 1552, 3)] = true := by decide +kernel
theorem dL_law_1780 : decode cL_law 1780 = .ok (.aload_n 1, 1) := zf_at zf_27 0 rfl
theorem dL_law_1781 : decode cL_law 1781 = .ok (.aload_n 0, 1) := zf_at zf_27 1 rfl
theorem dL_law_1782 : decode cL_law 1782 = .ok (.iload 5, 2) := zf_at zf_27 2 rfl
theorem dL_law_1784 : decode cL_law 1784 = .ok (.iconst 1, 1) := zf_at zf_27 3 rfl
theorem dL_law_1785 : decode cL_law 1785 = .ok (.iadd, 1) := zf_at zf_27 4 rfl
theorem dL_law_1786 : decode cL_law 1786 = .ok (.iaload, 1) := zf_at zf_27 5 rfl
theorem dL_law_1787 : decode cL_law 1787 = .ok (.aload_n 0, 1) := zf_at zf_27 6 rfl
theorem dL_law_1788 : decode cL_law 1788 = .ok (.iload 5, 2) := zf_at zf_27 7 rfl
theorem dL_law_1790 : decode cL_law 1790 = .ok (.iconst 2, 1) := zf_at zf_27 8 rfl
theorem dL_law_1791 : decode cL_law 1791 = .ok (.iadd, 1) := zf_at zf_27 9 rfl
theorem dL_law_1792 : decode cL_law 1792 = .ok (.iaload, 1) := zf_at zf_27 10 rfl
theorem dL_law_1793 : decode cL_law 1793 = .ok (.aload_n 3, 1) := zf_at zf_27 11 rfl
theorem dL_law_1794 : decode cL_law 1794 = .ok (.invokestatic 274, 3) := zf_at zf_27 12 rfl
theorem dL_law_1797 : decode cL_law 1797 = .ok (.istore 6, 2) := zf_at zf_27 13 rfl
theorem dL_law_1799 : decode cL_law 1799 = .ok (.aload_n 2, 1) := zf_at zf_27 14 rfl
theorem dL_law_1800 : decode cL_law 1800 = .ok (.aload_n 0, 1) := zf_at zf_27 15 rfl
theorem dL_law_1801 : decode cL_law 1801 = .ok (.iload 5, 2) := zf_at zf_27 16 rfl
theorem dL_law_1803 : decode cL_law 1803 = .ok (.iconst 1, 1) := zf_at zf_27 17 rfl
theorem dL_law_1804 : decode cL_law 1804 = .ok (.iadd, 1) := zf_at zf_27 18 rfl
theorem dL_law_1805 : decode cL_law 1805 = .ok (.iaload, 1) := zf_at zf_27 19 rfl
theorem dL_law_1806 : decode cL_law 1806 = .ok (.aload_n 0, 1) := zf_at zf_27 20 rfl
theorem dL_law_1807 : decode cL_law 1807 = .ok (.iload 5, 2) := zf_at zf_27 21 rfl
theorem dL_law_1809 : decode cL_law 1809 = .ok (.iconst 2, 1) := zf_at zf_27 22 rfl
theorem dL_law_1810 : decode cL_law 1810 = .ok (.iadd, 1) := zf_at zf_27 23 rfl
theorem dL_law_1811 : decode cL_law 1811 = .ok (.iaload, 1) := zf_at zf_27 24 rfl
theorem dL_law_1812 : decode cL_law 1812 = .ok (.invokevirtual 276, 3) := zf_at zf_27 25 rfl
theorem dL_law_1815 : decode cL_law 1815 = .ok (.istore 7, 2) := zf_at zf_27 26 rfl
theorem dL_law_1817 : decode cL_law 1817 = .ok (.aload_n 2, 1) := zf_at zf_27 27 rfl
theorem dL_law_1818 : decode cL_law 1818 = .ok (.invokevirtual 189, 3) := zf_at zf_27 28 rfl
theorem dL_law_1821 : decode cL_law 1821 = .ok (.iload 6, 2) := zf_at zf_27 29 rfl
theorem dL_law_1823 : decode cL_law 1823 = .ok (.if_icmp .eq 5, 3) := zf_at zf_27 30 rfl
theorem dL_law_1828 : decode cL_law 1828 = .ok (.iload 6, 2) := zf_at zf_27 31 rfl
theorem dL_law_1830 : decode cL_law 1830 = .ok (.ifCond .ne 22, 3) := zf_at zf_27 32 rfl
theorem dL_law_1833 : decode cL_law 1833 = .ok (.aload_n 3, 1) := zf_at zf_27 33 rfl
theorem dL_law_1834 : decode cL_law 1834 = .ok (.iconst 0, 1) := zf_at zf_27 34 rfl
theorem dL_law_1835 : decode cL_law 1835 = .ok (.laload, 1) := zf_at zf_27 35 rfl
theorem dL_law_1836 : decode cL_law 1836 = .ok (.iload 7, 2) := zf_at zf_27 36 rfl
theorem dL_law_1838 : decode cL_law 1838 = .ok (.ifCond .eq 7, 3) := zf_at zf_27 37 rfl
theorem dL_law_1841 : decode cL_law 1841 = .ok (.lconst 1, 1) := zf_at zf_27 38 rfl
theorem dL_law_1842 : decode cL_law 1842 = .ok (.goto 4, 3) := zf_at zf_27 39 rfl
theorem dL_law_1845 : decode cL_law 1845 = .ok (.lconst 0, 1) := zf_at zf_27 40 rfl
theorem dL_law_1846 : decode cL_law 1846 = .ok (.lcmp, 1) := zf_at zf_27 41 rfl
theorem dL_law_1847 : decode cL_law 1847 = .ok (.ifCond .eq 5, 3) := zf_at zf_27 42 rfl
theorem dL_law_1852 : decode cL_law 1852 = .ok (.goto 1552, 3) := zf_at zf_27 43 rfl
theorem zf_28 : zf_all [(1855, .aload_n 1, 1), (1856, .aload_n 0, 1), (1857, .iload 5, 2), (1859, .iconst 1, 1), (1860, .iadd, 1), (1861, .iaload, 1), (1862, .aload_n 3, 1), (1863, .invokestatic 277, 3), (1866, .istore 6, 2), (1868, .aload_n 2, 1), (1869, .aload_n 0, 1), (1870, .iload 5, 2), (1872, .iconst 1, 1), (1873, .iadd, 1), (1874, .iaload, 1), (1875, .invokevirtual 279, 3), (1878, .istore 7, 2), (1880, .aload_n 2, 1), (1881, .invokevirtual 189, 3), (1884, .iload 6, 2), (1886, .if_icmp .eq 5, 3), (1891, .iload 6, 2), (1893, .ifCond .ne 15, 3), (1896, .aload_n 3, 1), (1897, .iconst 0, 1), (1898, .laload, 1), (1899, .iload 7, 2), (1901, .i2l, 1), (1902, .lcmp, 1), (1903, .ifCond .eq 5, 3), (1908, .goto 1496, 3)] = true := by decide +kernel
theorem dL_law_1855 : decode cL_law 1855 = .ok (.aload_n 1, 1) := zf_at zf_28 0 rfl
theorem dL_law_1856 : decode cL_law 1856 = .ok (.aload_n 0, 1) := zf_at zf_28 1 rfl
theorem dL_law_1857 : decode cL_law 1857 = .ok (.iload 5, 2) := zf_at zf_28 2 rfl
theorem dL_law_1859 : decode cL_law 1859 = .ok (.iconst 1, 1) := zf_at zf_28 3 rfl
theorem dL_law_1860 : decode cL_law 1860 = .ok (.iadd, 1) := zf_at zf_28 4 rfl
theorem dL_law_1861 : decode cL_law 1861 = .ok (.iaload, 1) := zf_at zf_28 5 rfl
theorem dL_law_1862 : decode cL_law 1862 = .ok (.aload_n 3, 1) := zf_at zf_28 6 rfl
theorem dL_law_1863 : decode cL_law 1863 = .ok (.invokestatic 277, 3) := zf_at zf_28 7 rfl
theorem dL_law_1866 : decode cL_law 1866 = .ok (.istore 6, 2) := zf_at zf_28 8 rfl
theorem dL_law_1868 : decode cL_law 1868 = .ok (.aload_n 2, 1) := zf_at zf_28 9 rfl
theorem dL_law_1869 : decode cL_law 1869 = .ok (.aload_n 0, 1) := zf_at zf_28 10 rfl
theorem dL_law_1870 : decode cL_law 1870 = .ok (.iload 5, 2) := zf_at zf_28 11 rfl
theorem dL_law_1872 : decode cL_law 1872 = .ok (.iconst 1, 1) := zf_at zf_28 12 rfl
theorem dL_law_1873 : decode cL_law 1873 = .ok (.iadd, 1) := zf_at zf_28 13 rfl
theorem dL_law_1874 : decode cL_law 1874 = .ok (.iaload, 1) := zf_at zf_28 14 rfl
theorem dL_law_1875 : decode cL_law 1875 = .ok (.invokevirtual 279, 3) := zf_at zf_28 15 rfl
theorem dL_law_1878 : decode cL_law 1878 = .ok (.istore 7, 2) := zf_at zf_28 16 rfl
theorem dL_law_1880 : decode cL_law 1880 = .ok (.aload_n 2, 1) := zf_at zf_28 17 rfl
theorem dL_law_1881 : decode cL_law 1881 = .ok (.invokevirtual 189, 3) := zf_at zf_28 18 rfl
theorem dL_law_1884 : decode cL_law 1884 = .ok (.iload 6, 2) := zf_at zf_28 19 rfl
theorem dL_law_1886 : decode cL_law 1886 = .ok (.if_icmp .eq 5, 3) := zf_at zf_28 20 rfl
theorem dL_law_1891 : decode cL_law 1891 = .ok (.iload 6, 2) := zf_at zf_28 21 rfl
theorem dL_law_1893 : decode cL_law 1893 = .ok (.ifCond .ne 15, 3) := zf_at zf_28 22 rfl
theorem dL_law_1896 : decode cL_law 1896 = .ok (.aload_n 3, 1) := zf_at zf_28 23 rfl
theorem dL_law_1897 : decode cL_law 1897 = .ok (.iconst 0, 1) := zf_at zf_28 24 rfl
theorem dL_law_1898 : decode cL_law 1898 = .ok (.laload, 1) := zf_at zf_28 25 rfl
theorem dL_law_1899 : decode cL_law 1899 = .ok (.iload 7, 2) := zf_at zf_28 26 rfl
theorem dL_law_1901 : decode cL_law 1901 = .ok (.i2l, 1) := zf_at zf_28 27 rfl
theorem dL_law_1902 : decode cL_law 1902 = .ok (.lcmp, 1) := zf_at zf_28 28 rfl
theorem dL_law_1903 : decode cL_law 1903 = .ok (.ifCond .eq 5, 3) := zf_at zf_28 29 rfl
theorem dL_law_1908 : decode cL_law 1908 = .ok (.goto 1496, 3) := zf_at zf_28 30 rfl
theorem zf_29 : zf_all [(1911, .aload_n 1, 1), (1912, .aload_n 0, 1), (1913, .iload 5, 2), (1915, .iconst 1, 1), (1916, .iadd, 1), (1917, .iaload, 1), (1918, .aload_n 3, 1), (1919, .invokestatic 280, 3), (1922, .istore 6, 2), (1924, .aload_n 2, 1), (1925, .aload_n 0, 1), (1926, .iload 5, 2), (1928, .iconst 1, 1), (1929, .iadd, 1), (1930, .iaload, 1), (1931, .invokevirtual 282, 3), (1934, .istore 7, 2), (1936, .aload_n 2, 1), (1937, .invokevirtual 189, 3), (1940, .iload 6, 2), (1942, .if_icmp .eq 5, 3), (1947, .iload 6, 2), (1949, .ifCond .ne 15, 3), (1952, .aload_n 3, 1), (1953, .iconst 0, 1), (1954, .laload, 1), (1955, .iload 7, 2), (1957, .i2l, 1), (1958, .lcmp, 1), (1959, .ifCond .eq 5, 3), (1964, .goto 1440, 3)] = true := by decide +kernel
theorem dL_law_1911 : decode cL_law 1911 = .ok (.aload_n 1, 1) := zf_at zf_29 0 rfl
theorem dL_law_1912 : decode cL_law 1912 = .ok (.aload_n 0, 1) := zf_at zf_29 1 rfl
theorem dL_law_1913 : decode cL_law 1913 = .ok (.iload 5, 2) := zf_at zf_29 2 rfl
theorem dL_law_1915 : decode cL_law 1915 = .ok (.iconst 1, 1) := zf_at zf_29 3 rfl
theorem dL_law_1916 : decode cL_law 1916 = .ok (.iadd, 1) := zf_at zf_29 4 rfl
theorem dL_law_1917 : decode cL_law 1917 = .ok (.iaload, 1) := zf_at zf_29 5 rfl
theorem dL_law_1918 : decode cL_law 1918 = .ok (.aload_n 3, 1) := zf_at zf_29 6 rfl
theorem dL_law_1919 : decode cL_law 1919 = .ok (.invokestatic 280, 3) := zf_at zf_29 7 rfl
theorem dL_law_1922 : decode cL_law 1922 = .ok (.istore 6, 2) := zf_at zf_29 8 rfl
theorem dL_law_1924 : decode cL_law 1924 = .ok (.aload_n 2, 1) := zf_at zf_29 9 rfl
theorem dL_law_1925 : decode cL_law 1925 = .ok (.aload_n 0, 1) := zf_at zf_29 10 rfl
theorem dL_law_1926 : decode cL_law 1926 = .ok (.iload 5, 2) := zf_at zf_29 11 rfl
theorem dL_law_1928 : decode cL_law 1928 = .ok (.iconst 1, 1) := zf_at zf_29 12 rfl
theorem dL_law_1929 : decode cL_law 1929 = .ok (.iadd, 1) := zf_at zf_29 13 rfl
theorem dL_law_1930 : decode cL_law 1930 = .ok (.iaload, 1) := zf_at zf_29 14 rfl
theorem dL_law_1931 : decode cL_law 1931 = .ok (.invokevirtual 282, 3) := zf_at zf_29 15 rfl
theorem dL_law_1934 : decode cL_law 1934 = .ok (.istore 7, 2) := zf_at zf_29 16 rfl
theorem dL_law_1936 : decode cL_law 1936 = .ok (.aload_n 2, 1) := zf_at zf_29 17 rfl
theorem dL_law_1937 : decode cL_law 1937 = .ok (.invokevirtual 189, 3) := zf_at zf_29 18 rfl
theorem dL_law_1940 : decode cL_law 1940 = .ok (.iload 6, 2) := zf_at zf_29 19 rfl
theorem dL_law_1942 : decode cL_law 1942 = .ok (.if_icmp .eq 5, 3) := zf_at zf_29 20 rfl
theorem dL_law_1947 : decode cL_law 1947 = .ok (.iload 6, 2) := zf_at zf_29 21 rfl
theorem dL_law_1949 : decode cL_law 1949 = .ok (.ifCond .ne 15, 3) := zf_at zf_29 22 rfl
theorem dL_law_1952 : decode cL_law 1952 = .ok (.aload_n 3, 1) := zf_at zf_29 23 rfl
theorem dL_law_1953 : decode cL_law 1953 = .ok (.iconst 0, 1) := zf_at zf_29 24 rfl
theorem dL_law_1954 : decode cL_law 1954 = .ok (.laload, 1) := zf_at zf_29 25 rfl
theorem dL_law_1955 : decode cL_law 1955 = .ok (.iload 7, 2) := zf_at zf_29 26 rfl
theorem dL_law_1957 : decode cL_law 1957 = .ok (.i2l, 1) := zf_at zf_29 27 rfl
theorem dL_law_1958 : decode cL_law 1958 = .ok (.lcmp, 1) := zf_at zf_29 28 rfl
theorem dL_law_1959 : decode cL_law 1959 = .ok (.ifCond .eq 5, 3) := zf_at zf_29 29 rfl
theorem dL_law_1964 : decode cL_law 1964 = .ok (.goto 1440, 3) := zf_at zf_29 30 rfl
theorem zf_30 : zf_all [(1967, .aload_n 1, 1), (1968, .aload_n 0, 1), (1969, .iload 5, 2), (1971, .iconst 1, 1), (1972, .iadd, 1), (1973, .iaload, 1), (1974, .aload_n 0, 1), (1975, .iload 5, 2), (1977, .iconst 2, 1), (1978, .iadd, 1), (1979, .iaload, 1), (1980, .ifCond .eq 7, 3), (1983, .iconst 1, 1), (1984, .goto 4, 3), (1987, .iconst 0, 1), (1988, .aload_n 3, 1), (1989, .invokestatic 283, 3), (1992, .istore 6, 2), (1994, .aload_n 2, 1), (1995, .aload_n 0, 1), (1996, .iload 5, 2), (1998, .iconst 1, 1), (1999, .iadd, 1), (2000, .iaload, 1), (2001, .aload_n 0, 1), (2002, .iload 5, 2), (2004, .iconst 2, 1), (2005, .iadd, 1), (2006, .iaload, 1), (2007, .ifCond .eq 7, 3), (2010, .iconst 1, 1), (2011, .goto 4, 3), (2014, .iconst 0, 1), (2015, .invokevirtual 286, 3), (2018, .istore 7, 2), (2020, .aload_n 2, 1), (2021, .invokevirtual 189, 3), (2024, .iload 6, 2), (2026, .if_icmp .eq 5, 3), (2031, .iload 6, 2), (2033, .ifCond .ne 15, 3), (2036, .aload_n 3, 1), (2037, .iconst 0, 1), (2038, .laload, 1), (2039, .iload 7, 2), (2041, .i2l, 1), (2042, .lcmp, 1), (2043, .ifCond .eq 5, 3), (2048, .goto 1356, 3)] = true := by decide +kernel
theorem dL_law_1967 : decode cL_law 1967 = .ok (.aload_n 1, 1) := zf_at zf_30 0 rfl
theorem dL_law_1968 : decode cL_law 1968 = .ok (.aload_n 0, 1) := zf_at zf_30 1 rfl
theorem dL_law_1969 : decode cL_law 1969 = .ok (.iload 5, 2) := zf_at zf_30 2 rfl
theorem dL_law_1971 : decode cL_law 1971 = .ok (.iconst 1, 1) := zf_at zf_30 3 rfl
theorem dL_law_1972 : decode cL_law 1972 = .ok (.iadd, 1) := zf_at zf_30 4 rfl
theorem dL_law_1973 : decode cL_law 1973 = .ok (.iaload, 1) := zf_at zf_30 5 rfl
theorem dL_law_1974 : decode cL_law 1974 = .ok (.aload_n 0, 1) := zf_at zf_30 6 rfl
theorem dL_law_1975 : decode cL_law 1975 = .ok (.iload 5, 2) := zf_at zf_30 7 rfl
theorem dL_law_1977 : decode cL_law 1977 = .ok (.iconst 2, 1) := zf_at zf_30 8 rfl
theorem dL_law_1978 : decode cL_law 1978 = .ok (.iadd, 1) := zf_at zf_30 9 rfl
theorem dL_law_1979 : decode cL_law 1979 = .ok (.iaload, 1) := zf_at zf_30 10 rfl
theorem dL_law_1980 : decode cL_law 1980 = .ok (.ifCond .eq 7, 3) := zf_at zf_30 11 rfl
theorem dL_law_1983 : decode cL_law 1983 = .ok (.iconst 1, 1) := zf_at zf_30 12 rfl
theorem dL_law_1984 : decode cL_law 1984 = .ok (.goto 4, 3) := zf_at zf_30 13 rfl
theorem dL_law_1987 : decode cL_law 1987 = .ok (.iconst 0, 1) := zf_at zf_30 14 rfl
theorem dL_law_1988 : decode cL_law 1988 = .ok (.aload_n 3, 1) := zf_at zf_30 15 rfl
theorem dL_law_1989 : decode cL_law 1989 = .ok (.invokestatic 283, 3) := zf_at zf_30 16 rfl
theorem dL_law_1992 : decode cL_law 1992 = .ok (.istore 6, 2) := zf_at zf_30 17 rfl
theorem dL_law_1994 : decode cL_law 1994 = .ok (.aload_n 2, 1) := zf_at zf_30 18 rfl
theorem dL_law_1995 : decode cL_law 1995 = .ok (.aload_n 0, 1) := zf_at zf_30 19 rfl
theorem dL_law_1996 : decode cL_law 1996 = .ok (.iload 5, 2) := zf_at zf_30 20 rfl
theorem dL_law_1998 : decode cL_law 1998 = .ok (.iconst 1, 1) := zf_at zf_30 21 rfl
theorem dL_law_1999 : decode cL_law 1999 = .ok (.iadd, 1) := zf_at zf_30 22 rfl
theorem dL_law_2000 : decode cL_law 2000 = .ok (.iaload, 1) := zf_at zf_30 23 rfl
theorem dL_law_2001 : decode cL_law 2001 = .ok (.aload_n 0, 1) := zf_at zf_30 24 rfl
theorem dL_law_2002 : decode cL_law 2002 = .ok (.iload 5, 2) := zf_at zf_30 25 rfl
theorem dL_law_2004 : decode cL_law 2004 = .ok (.iconst 2, 1) := zf_at zf_30 26 rfl
theorem dL_law_2005 : decode cL_law 2005 = .ok (.iadd, 1) := zf_at zf_30 27 rfl
theorem dL_law_2006 : decode cL_law 2006 = .ok (.iaload, 1) := zf_at zf_30 28 rfl
theorem dL_law_2007 : decode cL_law 2007 = .ok (.ifCond .eq 7, 3) := zf_at zf_30 29 rfl
theorem dL_law_2010 : decode cL_law 2010 = .ok (.iconst 1, 1) := zf_at zf_30 30 rfl
theorem dL_law_2011 : decode cL_law 2011 = .ok (.goto 4, 3) := zf_at zf_30 31 rfl
theorem dL_law_2014 : decode cL_law 2014 = .ok (.iconst 0, 1) := zf_at zf_30 32 rfl
theorem dL_law_2015 : decode cL_law 2015 = .ok (.invokevirtual 286, 3) := zf_at zf_30 33 rfl
theorem dL_law_2018 : decode cL_law 2018 = .ok (.istore 7, 2) := zf_at zf_30 34 rfl
theorem dL_law_2020 : decode cL_law 2020 = .ok (.aload_n 2, 1) := zf_at zf_30 35 rfl
theorem dL_law_2021 : decode cL_law 2021 = .ok (.invokevirtual 189, 3) := zf_at zf_30 36 rfl
theorem dL_law_2024 : decode cL_law 2024 = .ok (.iload 6, 2) := zf_at zf_30 37 rfl
theorem dL_law_2026 : decode cL_law 2026 = .ok (.if_icmp .eq 5, 3) := zf_at zf_30 38 rfl
theorem dL_law_2031 : decode cL_law 2031 = .ok (.iload 6, 2) := zf_at zf_30 39 rfl
theorem dL_law_2033 : decode cL_law 2033 = .ok (.ifCond .ne 15, 3) := zf_at zf_30 40 rfl
theorem dL_law_2036 : decode cL_law 2036 = .ok (.aload_n 3, 1) := zf_at zf_30 41 rfl
theorem dL_law_2037 : decode cL_law 2037 = .ok (.iconst 0, 1) := zf_at zf_30 42 rfl
theorem dL_law_2038 : decode cL_law 2038 = .ok (.laload, 1) := zf_at zf_30 43 rfl
theorem dL_law_2039 : decode cL_law 2039 = .ok (.iload 7, 2) := zf_at zf_30 44 rfl
theorem dL_law_2041 : decode cL_law 2041 = .ok (.i2l, 1) := zf_at zf_30 45 rfl
theorem dL_law_2042 : decode cL_law 2042 = .ok (.lcmp, 1) := zf_at zf_30 46 rfl
theorem dL_law_2043 : decode cL_law 2043 = .ok (.ifCond .eq 5, 3) := zf_at zf_30 47 rfl
theorem dL_law_2048 : decode cL_law 2048 = .ok (.goto 1356, 3) := zf_at zf_30 48 rfl
theorem zf_31 : zf_all [(2051, .aload_n 1, 1), (2052, .aload_n 0, 1), (2053, .iload 5, 2), (2055, .iconst 1, 1), (2056, .iadd, 1), (2057, .iaload, 1), (2058, .aload_n 3, 1), (2059, .invokestatic 287, 3), (2062, .istore 6, 2), (2064, .aload_n 2, 1), (2065, .aload_n 0, 1), (2066, .iload 5, 2), (2068, .iconst 1, 1), (2069, .iadd, 1), (2070, .iaload, 1), (2071, .invokevirtual 289, 3), (2074, .istore 7, 2), (2076, .aload_n 2, 1), (2077, .invokevirtual 189, 3), (2080, .iload 6, 2), (2082, .if_icmp .eq 5, 3), (2087, .iload 6, 2), (2089, .ifCond .ne 15, 3), (2092, .aload_n 3, 1), (2093, .iconst 0, 1), (2094, .laload, 1), (2095, .iload 7, 2), (2097, .i2l, 1), (2098, .lcmp, 1), (2099, .ifCond .eq 5, 3), (2104, .goto 1300, 3)] = true := by decide +kernel
theorem dL_law_2051 : decode cL_law 2051 = .ok (.aload_n 1, 1) := zf_at zf_31 0 rfl
theorem dL_law_2052 : decode cL_law 2052 = .ok (.aload_n 0, 1) := zf_at zf_31 1 rfl
theorem dL_law_2053 : decode cL_law 2053 = .ok (.iload 5, 2) := zf_at zf_31 2 rfl
theorem dL_law_2055 : decode cL_law 2055 = .ok (.iconst 1, 1) := zf_at zf_31 3 rfl
theorem dL_law_2056 : decode cL_law 2056 = .ok (.iadd, 1) := zf_at zf_31 4 rfl
theorem dL_law_2057 : decode cL_law 2057 = .ok (.iaload, 1) := zf_at zf_31 5 rfl
theorem dL_law_2058 : decode cL_law 2058 = .ok (.aload_n 3, 1) := zf_at zf_31 6 rfl
theorem dL_law_2059 : decode cL_law 2059 = .ok (.invokestatic 287, 3) := zf_at zf_31 7 rfl
theorem dL_law_2062 : decode cL_law 2062 = .ok (.istore 6, 2) := zf_at zf_31 8 rfl
theorem dL_law_2064 : decode cL_law 2064 = .ok (.aload_n 2, 1) := zf_at zf_31 9 rfl
theorem dL_law_2065 : decode cL_law 2065 = .ok (.aload_n 0, 1) := zf_at zf_31 10 rfl
theorem dL_law_2066 : decode cL_law 2066 = .ok (.iload 5, 2) := zf_at zf_31 11 rfl
theorem dL_law_2068 : decode cL_law 2068 = .ok (.iconst 1, 1) := zf_at zf_31 12 rfl
theorem dL_law_2069 : decode cL_law 2069 = .ok (.iadd, 1) := zf_at zf_31 13 rfl
theorem dL_law_2070 : decode cL_law 2070 = .ok (.iaload, 1) := zf_at zf_31 14 rfl
theorem dL_law_2071 : decode cL_law 2071 = .ok (.invokevirtual 289, 3) := zf_at zf_31 15 rfl
theorem dL_law_2074 : decode cL_law 2074 = .ok (.istore 7, 2) := zf_at zf_31 16 rfl
theorem dL_law_2076 : decode cL_law 2076 = .ok (.aload_n 2, 1) := zf_at zf_31 17 rfl
theorem dL_law_2077 : decode cL_law 2077 = .ok (.invokevirtual 189, 3) := zf_at zf_31 18 rfl
theorem dL_law_2080 : decode cL_law 2080 = .ok (.iload 6, 2) := zf_at zf_31 19 rfl
theorem dL_law_2082 : decode cL_law 2082 = .ok (.if_icmp .eq 5, 3) := zf_at zf_31 20 rfl
theorem dL_law_2087 : decode cL_law 2087 = .ok (.iload 6, 2) := zf_at zf_31 21 rfl
theorem dL_law_2089 : decode cL_law 2089 = .ok (.ifCond .ne 15, 3) := zf_at zf_31 22 rfl
theorem dL_law_2092 : decode cL_law 2092 = .ok (.aload_n 3, 1) := zf_at zf_31 23 rfl
theorem dL_law_2093 : decode cL_law 2093 = .ok (.iconst 0, 1) := zf_at zf_31 24 rfl
theorem dL_law_2094 : decode cL_law 2094 = .ok (.laload, 1) := zf_at zf_31 25 rfl
theorem dL_law_2095 : decode cL_law 2095 = .ok (.iload 7, 2) := zf_at zf_31 26 rfl
theorem dL_law_2097 : decode cL_law 2097 = .ok (.i2l, 1) := zf_at zf_31 27 rfl
theorem dL_law_2098 : decode cL_law 2098 = .ok (.lcmp, 1) := zf_at zf_31 28 rfl
theorem dL_law_2099 : decode cL_law 2099 = .ok (.ifCond .eq 5, 3) := zf_at zf_31 29 rfl
theorem dL_law_2104 : decode cL_law 2104 = .ok (.goto 1300, 3) := zf_at zf_31 30 rfl
theorem zf_32 : zf_all [(2107, .aload_n 1, 1), (2108, .aload_n 3, 1), (2109, .invokestatic 290, 3), (2112, .istore 6, 2), (2114, .aload_n 2, 1), (2115, .invokevirtual 292, 3), (2118, .istore 7, 2), (2120, .aload_n 2, 1), (2121, .invokevirtual 189, 3), (2124, .iload 6, 2), (2126, .if_icmp .eq 5, 3), (2131, .iload 6, 2), (2133, .ifCond .ne 15, 3), (2136, .aload_n 3, 1), (2137, .iconst 0, 1), (2138, .laload, 1), (2139, .iload 7, 2), (2141, .i2l, 1), (2142, .lcmp, 1), (2143, .ifCond .eq 5, 3), (2148, .goto 1256, 3)] = true := by decide +kernel
theorem dL_law_2107 : decode cL_law 2107 = .ok (.aload_n 1, 1) := zf_at zf_32 0 rfl
theorem dL_law_2108 : decode cL_law 2108 = .ok (.aload_n 3, 1) := zf_at zf_32 1 rfl
theorem dL_law_2109 : decode cL_law 2109 = .ok (.invokestatic 290, 3) := zf_at zf_32 2 rfl
theorem dL_law_2112 : decode cL_law 2112 = .ok (.istore 6, 2) := zf_at zf_32 3 rfl
theorem dL_law_2114 : decode cL_law 2114 = .ok (.aload_n 2, 1) := zf_at zf_32 4 rfl
theorem dL_law_2115 : decode cL_law 2115 = .ok (.invokevirtual 292, 3) := zf_at zf_32 5 rfl
theorem dL_law_2118 : decode cL_law 2118 = .ok (.istore 7, 2) := zf_at zf_32 6 rfl
theorem dL_law_2120 : decode cL_law 2120 = .ok (.aload_n 2, 1) := zf_at zf_32 7 rfl
theorem dL_law_2121 : decode cL_law 2121 = .ok (.invokevirtual 189, 3) := zf_at zf_32 8 rfl
theorem dL_law_2124 : decode cL_law 2124 = .ok (.iload 6, 2) := zf_at zf_32 9 rfl
theorem dL_law_2126 : decode cL_law 2126 = .ok (.if_icmp .eq 5, 3) := zf_at zf_32 10 rfl
theorem dL_law_2131 : decode cL_law 2131 = .ok (.iload 6, 2) := zf_at zf_32 11 rfl
theorem dL_law_2133 : decode cL_law 2133 = .ok (.ifCond .ne 15, 3) := zf_at zf_32 12 rfl
theorem dL_law_2136 : decode cL_law 2136 = .ok (.aload_n 3, 1) := zf_at zf_32 13 rfl
theorem dL_law_2137 : decode cL_law 2137 = .ok (.iconst 0, 1) := zf_at zf_32 14 rfl
theorem dL_law_2138 : decode cL_law 2138 = .ok (.laload, 1) := zf_at zf_32 15 rfl
theorem dL_law_2139 : decode cL_law 2139 = .ok (.iload 7, 2) := zf_at zf_32 16 rfl
theorem dL_law_2141 : decode cL_law 2141 = .ok (.i2l, 1) := zf_at zf_32 17 rfl
theorem dL_law_2142 : decode cL_law 2142 = .ok (.lcmp, 1) := zf_at zf_32 18 rfl
theorem dL_law_2143 : decode cL_law 2143 = .ok (.ifCond .eq 5, 3) := zf_at zf_32 19 rfl
theorem dL_law_2148 : decode cL_law 2148 = .ok (.goto 1256, 3) := zf_at zf_32 20 rfl
theorem zf_33 : zf_all [(2151, .aload_n 1, 1), (2152, .aload_n 3, 1), (2153, .invokestatic 293, 3), (2156, .istore 6, 2), (2158, .aload_n 2, 1), (2159, .invokevirtual 295, 3), (2162, .istore 7, 2), (2164, .aload_n 2, 1), (2165, .invokevirtual 189, 3), (2168, .iload 6, 2), (2170, .if_icmp .eq 5, 3), (2175, .iload 6, 2), (2177, .ifCond .ne 15, 3), (2180, .aload_n 3, 1), (2181, .iconst 0, 1), (2182, .laload, 1), (2183, .iload 7, 2), (2185, .i2l, 1), (2186, .lcmp, 1), (2187, .ifCond .eq 5, 3), (2192, .goto 1212, 3)] = true := by decide +kernel
theorem dL_law_2151 : decode cL_law 2151 = .ok (.aload_n 1, 1) := zf_at zf_33 0 rfl
theorem dL_law_2152 : decode cL_law 2152 = .ok (.aload_n 3, 1) := zf_at zf_33 1 rfl
theorem dL_law_2153 : decode cL_law 2153 = .ok (.invokestatic 293, 3) := zf_at zf_33 2 rfl
theorem dL_law_2156 : decode cL_law 2156 = .ok (.istore 6, 2) := zf_at zf_33 3 rfl
theorem dL_law_2158 : decode cL_law 2158 = .ok (.aload_n 2, 1) := zf_at zf_33 4 rfl
theorem dL_law_2159 : decode cL_law 2159 = .ok (.invokevirtual 295, 3) := zf_at zf_33 5 rfl
theorem dL_law_2162 : decode cL_law 2162 = .ok (.istore 7, 2) := zf_at zf_33 6 rfl
theorem dL_law_2164 : decode cL_law 2164 = .ok (.aload_n 2, 1) := zf_at zf_33 7 rfl
theorem dL_law_2165 : decode cL_law 2165 = .ok (.invokevirtual 189, 3) := zf_at zf_33 8 rfl
theorem dL_law_2168 : decode cL_law 2168 = .ok (.iload 6, 2) := zf_at zf_33 9 rfl
theorem dL_law_2170 : decode cL_law 2170 = .ok (.if_icmp .eq 5, 3) := zf_at zf_33 10 rfl
theorem dL_law_2175 : decode cL_law 2175 = .ok (.iload 6, 2) := zf_at zf_33 11 rfl
theorem dL_law_2177 : decode cL_law 2177 = .ok (.ifCond .ne 15, 3) := zf_at zf_33 12 rfl
theorem dL_law_2180 : decode cL_law 2180 = .ok (.aload_n 3, 1) := zf_at zf_33 13 rfl
theorem dL_law_2181 : decode cL_law 2181 = .ok (.iconst 0, 1) := zf_at zf_33 14 rfl
theorem dL_law_2182 : decode cL_law 2182 = .ok (.laload, 1) := zf_at zf_33 15 rfl
theorem dL_law_2183 : decode cL_law 2183 = .ok (.iload 7, 2) := zf_at zf_33 16 rfl
theorem dL_law_2185 : decode cL_law 2185 = .ok (.i2l, 1) := zf_at zf_33 17 rfl
theorem dL_law_2186 : decode cL_law 2186 = .ok (.lcmp, 1) := zf_at zf_33 18 rfl
theorem dL_law_2187 : decode cL_law 2187 = .ok (.ifCond .eq 5, 3) := zf_at zf_33 19 rfl
theorem dL_law_2192 : decode cL_law 2192 = .ok (.goto 1212, 3) := zf_at zf_33 20 rfl
theorem zf_34 : zf_all [(2195, .aload_n 1, 1), (2196, .aload_n 0, 1), (2197, .iload 5, 2), (2199, .iconst 1, 1), (2200, .iadd, 1), (2201, .iaload, 1), (2202, .aload_n 3, 1), (2203, .invokestatic 296, 3), (2206, .istore 6, 2), (2208, .aload_n 2, 1), (2209, .aload_n 0, 1), (2210, .iload 5, 2), (2212, .iconst 1, 1), (2213, .iadd, 1), (2214, .iaload, 1), (2215, .invokevirtual 298, 3), (2218, .istore 7, 2), (2220, .aload_n 2, 1), (2221, .invokevirtual 189, 3), (2224, .iload 6, 2), (2226, .if_icmp .eq 5, 3), (2231, .iload 6, 2), (2233, .ifCond .ne 15, 3), (2236, .aload_n 3, 1), (2237, .iconst 0, 1), (2238, .laload, 1), (2239, .iload 7, 2), (2241, .i2l, 1), (2242, .lcmp, 1), (2243, .ifCond .eq 5, 3), (2248, .goto 1156, 3)] = true := by decide +kernel
theorem dL_law_2195 : decode cL_law 2195 = .ok (.aload_n 1, 1) := zf_at zf_34 0 rfl
theorem dL_law_2196 : decode cL_law 2196 = .ok (.aload_n 0, 1) := zf_at zf_34 1 rfl
theorem dL_law_2197 : decode cL_law 2197 = .ok (.iload 5, 2) := zf_at zf_34 2 rfl
theorem dL_law_2199 : decode cL_law 2199 = .ok (.iconst 1, 1) := zf_at zf_34 3 rfl
theorem dL_law_2200 : decode cL_law 2200 = .ok (.iadd, 1) := zf_at zf_34 4 rfl
theorem dL_law_2201 : decode cL_law 2201 = .ok (.iaload, 1) := zf_at zf_34 5 rfl
theorem dL_law_2202 : decode cL_law 2202 = .ok (.aload_n 3, 1) := zf_at zf_34 6 rfl
theorem dL_law_2203 : decode cL_law 2203 = .ok (.invokestatic 296, 3) := zf_at zf_34 7 rfl
theorem dL_law_2206 : decode cL_law 2206 = .ok (.istore 6, 2) := zf_at zf_34 8 rfl
theorem dL_law_2208 : decode cL_law 2208 = .ok (.aload_n 2, 1) := zf_at zf_34 9 rfl
theorem dL_law_2209 : decode cL_law 2209 = .ok (.aload_n 0, 1) := zf_at zf_34 10 rfl
theorem dL_law_2210 : decode cL_law 2210 = .ok (.iload 5, 2) := zf_at zf_34 11 rfl
theorem dL_law_2212 : decode cL_law 2212 = .ok (.iconst 1, 1) := zf_at zf_34 12 rfl
theorem dL_law_2213 : decode cL_law 2213 = .ok (.iadd, 1) := zf_at zf_34 13 rfl
theorem dL_law_2214 : decode cL_law 2214 = .ok (.iaload, 1) := zf_at zf_34 14 rfl
theorem dL_law_2215 : decode cL_law 2215 = .ok (.invokevirtual 298, 3) := zf_at zf_34 15 rfl
theorem dL_law_2218 : decode cL_law 2218 = .ok (.istore 7, 2) := zf_at zf_34 16 rfl
theorem dL_law_2220 : decode cL_law 2220 = .ok (.aload_n 2, 1) := zf_at zf_34 17 rfl
theorem dL_law_2221 : decode cL_law 2221 = .ok (.invokevirtual 189, 3) := zf_at zf_34 18 rfl
theorem dL_law_2224 : decode cL_law 2224 = .ok (.iload 6, 2) := zf_at zf_34 19 rfl
theorem dL_law_2226 : decode cL_law 2226 = .ok (.if_icmp .eq 5, 3) := zf_at zf_34 20 rfl
theorem dL_law_2231 : decode cL_law 2231 = .ok (.iload 6, 2) := zf_at zf_34 21 rfl
theorem dL_law_2233 : decode cL_law 2233 = .ok (.ifCond .ne 15, 3) := zf_at zf_34 22 rfl
theorem dL_law_2236 : decode cL_law 2236 = .ok (.aload_n 3, 1) := zf_at zf_34 23 rfl
theorem dL_law_2237 : decode cL_law 2237 = .ok (.iconst 0, 1) := zf_at zf_34 24 rfl
theorem dL_law_2238 : decode cL_law 2238 = .ok (.laload, 1) := zf_at zf_34 25 rfl
theorem dL_law_2239 : decode cL_law 2239 = .ok (.iload 7, 2) := zf_at zf_34 26 rfl
theorem dL_law_2241 : decode cL_law 2241 = .ok (.i2l, 1) := zf_at zf_34 27 rfl
theorem dL_law_2242 : decode cL_law 2242 = .ok (.lcmp, 1) := zf_at zf_34 28 rfl
theorem dL_law_2243 : decode cL_law 2243 = .ok (.ifCond .eq 5, 3) := zf_at zf_34 29 rfl
theorem dL_law_2248 : decode cL_law 2248 = .ok (.goto 1156, 3) := zf_at zf_34 30 rfl
theorem zf_35 : zf_all [(2251, .aload_n 1, 1), (2252, .aload_n 0, 1), (2253, .iload 5, 2), (2255, .iconst 1, 1), (2256, .iadd, 1), (2257, .iaload, 1), (2258, .aload_n 3, 1), (2259, .invokestatic 299, 3), (2262, .istore 6, 2), (2264, .aload_n 2, 1), (2265, .aload_n 0, 1), (2266, .iload 5, 2), (2268, .iconst 1, 1), (2269, .iadd, 1), (2270, .iaload, 1), (2271, .invokevirtual 301, 3), (2274, .istore 7, 2), (2276, .aload_n 2, 1), (2277, .invokevirtual 189, 3), (2280, .iload 6, 2), (2282, .if_icmp .eq 5, 3), (2287, .iload 6, 2), (2289, .ifCond .ne 15, 3), (2292, .aload_n 3, 1), (2293, .iconst 0, 1), (2294, .laload, 1), (2295, .iload 7, 2), (2297, .i2l, 1), (2298, .lcmp, 1), (2299, .ifCond .eq 5, 3), (2304, .goto 1100, 3)] = true := by decide +kernel
theorem dL_law_2251 : decode cL_law 2251 = .ok (.aload_n 1, 1) := zf_at zf_35 0 rfl
theorem dL_law_2252 : decode cL_law 2252 = .ok (.aload_n 0, 1) := zf_at zf_35 1 rfl
theorem dL_law_2253 : decode cL_law 2253 = .ok (.iload 5, 2) := zf_at zf_35 2 rfl
theorem dL_law_2255 : decode cL_law 2255 = .ok (.iconst 1, 1) := zf_at zf_35 3 rfl
theorem dL_law_2256 : decode cL_law 2256 = .ok (.iadd, 1) := zf_at zf_35 4 rfl
theorem dL_law_2257 : decode cL_law 2257 = .ok (.iaload, 1) := zf_at zf_35 5 rfl
theorem dL_law_2258 : decode cL_law 2258 = .ok (.aload_n 3, 1) := zf_at zf_35 6 rfl
theorem dL_law_2259 : decode cL_law 2259 = .ok (.invokestatic 299, 3) := zf_at zf_35 7 rfl
theorem dL_law_2262 : decode cL_law 2262 = .ok (.istore 6, 2) := zf_at zf_35 8 rfl
theorem dL_law_2264 : decode cL_law 2264 = .ok (.aload_n 2, 1) := zf_at zf_35 9 rfl
theorem dL_law_2265 : decode cL_law 2265 = .ok (.aload_n 0, 1) := zf_at zf_35 10 rfl
theorem dL_law_2266 : decode cL_law 2266 = .ok (.iload 5, 2) := zf_at zf_35 11 rfl
theorem dL_law_2268 : decode cL_law 2268 = .ok (.iconst 1, 1) := zf_at zf_35 12 rfl
theorem dL_law_2269 : decode cL_law 2269 = .ok (.iadd, 1) := zf_at zf_35 13 rfl
theorem dL_law_2270 : decode cL_law 2270 = .ok (.iaload, 1) := zf_at zf_35 14 rfl
theorem dL_law_2271 : decode cL_law 2271 = .ok (.invokevirtual 301, 3) := zf_at zf_35 15 rfl
theorem dL_law_2274 : decode cL_law 2274 = .ok (.istore 7, 2) := zf_at zf_35 16 rfl
theorem dL_law_2276 : decode cL_law 2276 = .ok (.aload_n 2, 1) := zf_at zf_35 17 rfl
theorem dL_law_2277 : decode cL_law 2277 = .ok (.invokevirtual 189, 3) := zf_at zf_35 18 rfl
theorem dL_law_2280 : decode cL_law 2280 = .ok (.iload 6, 2) := zf_at zf_35 19 rfl
theorem dL_law_2282 : decode cL_law 2282 = .ok (.if_icmp .eq 5, 3) := zf_at zf_35 20 rfl
theorem dL_law_2287 : decode cL_law 2287 = .ok (.iload 6, 2) := zf_at zf_35 21 rfl
theorem dL_law_2289 : decode cL_law 2289 = .ok (.ifCond .ne 15, 3) := zf_at zf_35 22 rfl
theorem dL_law_2292 : decode cL_law 2292 = .ok (.aload_n 3, 1) := zf_at zf_35 23 rfl
theorem dL_law_2293 : decode cL_law 2293 = .ok (.iconst 0, 1) := zf_at zf_35 24 rfl
theorem dL_law_2294 : decode cL_law 2294 = .ok (.laload, 1) := zf_at zf_35 25 rfl
theorem dL_law_2295 : decode cL_law 2295 = .ok (.iload 7, 2) := zf_at zf_35 26 rfl
theorem dL_law_2297 : decode cL_law 2297 = .ok (.i2l, 1) := zf_at zf_35 27 rfl
theorem dL_law_2298 : decode cL_law 2298 = .ok (.lcmp, 1) := zf_at zf_35 28 rfl
theorem dL_law_2299 : decode cL_law 2299 = .ok (.ifCond .eq 5, 3) := zf_at zf_35 29 rfl
theorem dL_law_2304 : decode cL_law 2304 = .ok (.goto 1100, 3) := zf_at zf_35 30 rfl
theorem zf_36 : zf_all [(2307, .aload_n 1, 1), (2308, .aload_n 3, 1), (2309, .invokestatic 302, 3), (2312, .istore 6, 2), (2314, .aload_n 2, 1), (2315, .invokevirtual 304, 3), (2318, .istore 7, 2), (2320, .aload_n 2, 1), (2321, .invokevirtual 189, 3), (2324, .iload 6, 2), (2326, .if_icmp .eq 5, 3), (2331, .iload 6, 2), (2333, .ifCond .ne 15, 3), (2336, .aload_n 3, 1), (2337, .iconst 0, 1), (2338, .laload, 1), (2339, .iload 7, 2), (2341, .i2l, 1), (2342, .lcmp, 1), (2343, .ifCond .eq 5, 3), (2348, .goto 1056, 3)] = true := by decide +kernel
theorem dL_law_2307 : decode cL_law 2307 = .ok (.aload_n 1, 1) := zf_at zf_36 0 rfl
theorem dL_law_2308 : decode cL_law 2308 = .ok (.aload_n 3, 1) := zf_at zf_36 1 rfl
theorem dL_law_2309 : decode cL_law 2309 = .ok (.invokestatic 302, 3) := zf_at zf_36 2 rfl
theorem dL_law_2312 : decode cL_law 2312 = .ok (.istore 6, 2) := zf_at zf_36 3 rfl
theorem dL_law_2314 : decode cL_law 2314 = .ok (.aload_n 2, 1) := zf_at zf_36 4 rfl
theorem dL_law_2315 : decode cL_law 2315 = .ok (.invokevirtual 304, 3) := zf_at zf_36 5 rfl
theorem dL_law_2318 : decode cL_law 2318 = .ok (.istore 7, 2) := zf_at zf_36 6 rfl
theorem dL_law_2320 : decode cL_law 2320 = .ok (.aload_n 2, 1) := zf_at zf_36 7 rfl
theorem dL_law_2321 : decode cL_law 2321 = .ok (.invokevirtual 189, 3) := zf_at zf_36 8 rfl
theorem dL_law_2324 : decode cL_law 2324 = .ok (.iload 6, 2) := zf_at zf_36 9 rfl
theorem dL_law_2326 : decode cL_law 2326 = .ok (.if_icmp .eq 5, 3) := zf_at zf_36 10 rfl
theorem dL_law_2331 : decode cL_law 2331 = .ok (.iload 6, 2) := zf_at zf_36 11 rfl
theorem dL_law_2333 : decode cL_law 2333 = .ok (.ifCond .ne 15, 3) := zf_at zf_36 12 rfl
theorem dL_law_2336 : decode cL_law 2336 = .ok (.aload_n 3, 1) := zf_at zf_36 13 rfl
theorem dL_law_2337 : decode cL_law 2337 = .ok (.iconst 0, 1) := zf_at zf_36 14 rfl
theorem dL_law_2338 : decode cL_law 2338 = .ok (.laload, 1) := zf_at zf_36 15 rfl
theorem dL_law_2339 : decode cL_law 2339 = .ok (.iload 7, 2) := zf_at zf_36 16 rfl
theorem dL_law_2341 : decode cL_law 2341 = .ok (.i2l, 1) := zf_at zf_36 17 rfl
theorem dL_law_2342 : decode cL_law 2342 = .ok (.lcmp, 1) := zf_at zf_36 18 rfl
theorem dL_law_2343 : decode cL_law 2343 = .ok (.ifCond .eq 5, 3) := zf_at zf_36 19 rfl
theorem dL_law_2348 : decode cL_law 2348 = .ok (.goto 1056, 3) := zf_at zf_36 20 rfl
theorem zf_37 : zf_all [(2351, .aload_n 1, 1), (2352, .aload_n 0, 1), (2353, .iload 5, 2), (2355, .iconst 1, 1), (2356, .iadd, 1), (2357, .iaload, 1), (2358, .aload_n 3, 1), (2359, .invokestatic 305, 3), (2362, .istore 6, 2), (2364, .aload_n 2, 1), (2365, .aload_n 0, 1), (2366, .iload 5, 2), (2368, .iconst 1, 1), (2369, .iadd, 1), (2370, .iaload, 1), (2371, .invokevirtual 307, 3), (2374, .istore 7, 2), (2376, .aload_n 2, 1), (2377, .invokevirtual 189, 3), (2380, .iload 6, 2), (2382, .if_icmp .eq 5, 3), (2387, .iload 6, 2), (2389, .ifCond .ne 15, 3), (2392, .aload_n 3, 1), (2393, .iconst 0, 1), (2394, .laload, 1), (2395, .iload 7, 2), (2397, .i2l, 1), (2398, .lcmp, 1), (2399, .ifCond .eq 5, 3), (2404, .goto 1000, 3)] = true := by decide +kernel
theorem dL_law_2351 : decode cL_law 2351 = .ok (.aload_n 1, 1) := zf_at zf_37 0 rfl
theorem dL_law_2352 : decode cL_law 2352 = .ok (.aload_n 0, 1) := zf_at zf_37 1 rfl
theorem dL_law_2353 : decode cL_law 2353 = .ok (.iload 5, 2) := zf_at zf_37 2 rfl
theorem dL_law_2355 : decode cL_law 2355 = .ok (.iconst 1, 1) := zf_at zf_37 3 rfl
theorem dL_law_2356 : decode cL_law 2356 = .ok (.iadd, 1) := zf_at zf_37 4 rfl
theorem dL_law_2357 : decode cL_law 2357 = .ok (.iaload, 1) := zf_at zf_37 5 rfl
theorem dL_law_2358 : decode cL_law 2358 = .ok (.aload_n 3, 1) := zf_at zf_37 6 rfl
theorem dL_law_2359 : decode cL_law 2359 = .ok (.invokestatic 305, 3) := zf_at zf_37 7 rfl
theorem dL_law_2362 : decode cL_law 2362 = .ok (.istore 6, 2) := zf_at zf_37 8 rfl
theorem dL_law_2364 : decode cL_law 2364 = .ok (.aload_n 2, 1) := zf_at zf_37 9 rfl
theorem dL_law_2365 : decode cL_law 2365 = .ok (.aload_n 0, 1) := zf_at zf_37 10 rfl
theorem dL_law_2366 : decode cL_law 2366 = .ok (.iload 5, 2) := zf_at zf_37 11 rfl
theorem dL_law_2368 : decode cL_law 2368 = .ok (.iconst 1, 1) := zf_at zf_37 12 rfl
theorem dL_law_2369 : decode cL_law 2369 = .ok (.iadd, 1) := zf_at zf_37 13 rfl
theorem dL_law_2370 : decode cL_law 2370 = .ok (.iaload, 1) := zf_at zf_37 14 rfl
theorem dL_law_2371 : decode cL_law 2371 = .ok (.invokevirtual 307, 3) := zf_at zf_37 15 rfl
theorem dL_law_2374 : decode cL_law 2374 = .ok (.istore 7, 2) := zf_at zf_37 16 rfl
theorem dL_law_2376 : decode cL_law 2376 = .ok (.aload_n 2, 1) := zf_at zf_37 17 rfl
theorem dL_law_2377 : decode cL_law 2377 = .ok (.invokevirtual 189, 3) := zf_at zf_37 18 rfl
theorem dL_law_2380 : decode cL_law 2380 = .ok (.iload 6, 2) := zf_at zf_37 19 rfl
theorem dL_law_2382 : decode cL_law 2382 = .ok (.if_icmp .eq 5, 3) := zf_at zf_37 20 rfl
theorem dL_law_2387 : decode cL_law 2387 = .ok (.iload 6, 2) := zf_at zf_37 21 rfl
theorem dL_law_2389 : decode cL_law 2389 = .ok (.ifCond .ne 15, 3) := zf_at zf_37 22 rfl
theorem dL_law_2392 : decode cL_law 2392 = .ok (.aload_n 3, 1) := zf_at zf_37 23 rfl
theorem dL_law_2393 : decode cL_law 2393 = .ok (.iconst 0, 1) := zf_at zf_37 24 rfl
theorem dL_law_2394 : decode cL_law 2394 = .ok (.laload, 1) := zf_at zf_37 25 rfl
theorem dL_law_2395 : decode cL_law 2395 = .ok (.iload 7, 2) := zf_at zf_37 26 rfl
theorem dL_law_2397 : decode cL_law 2397 = .ok (.i2l, 1) := zf_at zf_37 27 rfl
theorem dL_law_2398 : decode cL_law 2398 = .ok (.lcmp, 1) := zf_at zf_37 28 rfl
theorem dL_law_2399 : decode cL_law 2399 = .ok (.ifCond .eq 5, 3) := zf_at zf_37 29 rfl
theorem dL_law_2404 : decode cL_law 2404 = .ok (.goto 1000, 3) := zf_at zf_37 30 rfl
theorem zf_38 : zf_all [(2407, .aload_n 1, 1), (2408, .aload_n 0, 1), (2409, .iload 5, 2), (2411, .iconst 1, 1), (2412, .iadd, 1), (2413, .iaload, 1), (2414, .aload_n 0, 1), (2415, .iload 5, 2), (2417, .iconst 2, 1), (2418, .iadd, 1), (2419, .iaload, 1), (2420, .aload_n 3, 1), (2421, .invokestatic 308, 3), (2424, .istore 6, 2), (2426, .aload_n 2, 1), (2427, .aload_n 0, 1), (2428, .iload 5, 2), (2430, .iconst 1, 1), (2431, .iadd, 1), (2432, .iaload, 1), (2433, .aload_n 0, 1), (2434, .iload 5, 2), (2436, .iconst 2, 1), (2437, .iadd, 1), (2438, .iaload, 1), (2439, .invokevirtual 310, 3), (2442, .istore 7, 2), (2444, .aload_n 2, 1), (2445, .invokevirtual 189, 3), (2448, .iload 6, 2), (2450, .if_icmp .eq 5, 3), (2455, .iload 6, 2), (2457, .ifCond .ne 15, 3), (2460, .aload_n 3, 1), (2461, .iconst 0, 1), (2462, .laload, 1), (2463, .iload 7, 2), (2465, .i2l, 1), (2466, .lcmp, 1), (2467, .ifCond .eq 5, 3), (2472, .goto 932, 3)] = true := by decide +kernel
theorem dL_law_2407 : decode cL_law 2407 = .ok (.aload_n 1, 1) := zf_at zf_38 0 rfl
theorem dL_law_2408 : decode cL_law 2408 = .ok (.aload_n 0, 1) := zf_at zf_38 1 rfl
theorem dL_law_2409 : decode cL_law 2409 = .ok (.iload 5, 2) := zf_at zf_38 2 rfl
theorem dL_law_2411 : decode cL_law 2411 = .ok (.iconst 1, 1) := zf_at zf_38 3 rfl
theorem dL_law_2412 : decode cL_law 2412 = .ok (.iadd, 1) := zf_at zf_38 4 rfl
theorem dL_law_2413 : decode cL_law 2413 = .ok (.iaload, 1) := zf_at zf_38 5 rfl
theorem dL_law_2414 : decode cL_law 2414 = .ok (.aload_n 0, 1) := zf_at zf_38 6 rfl
theorem dL_law_2415 : decode cL_law 2415 = .ok (.iload 5, 2) := zf_at zf_38 7 rfl
theorem dL_law_2417 : decode cL_law 2417 = .ok (.iconst 2, 1) := zf_at zf_38 8 rfl
theorem dL_law_2418 : decode cL_law 2418 = .ok (.iadd, 1) := zf_at zf_38 9 rfl
theorem dL_law_2419 : decode cL_law 2419 = .ok (.iaload, 1) := zf_at zf_38 10 rfl
theorem dL_law_2420 : decode cL_law 2420 = .ok (.aload_n 3, 1) := zf_at zf_38 11 rfl
theorem dL_law_2421 : decode cL_law 2421 = .ok (.invokestatic 308, 3) := zf_at zf_38 12 rfl
theorem dL_law_2424 : decode cL_law 2424 = .ok (.istore 6, 2) := zf_at zf_38 13 rfl
theorem dL_law_2426 : decode cL_law 2426 = .ok (.aload_n 2, 1) := zf_at zf_38 14 rfl
theorem dL_law_2427 : decode cL_law 2427 = .ok (.aload_n 0, 1) := zf_at zf_38 15 rfl
theorem dL_law_2428 : decode cL_law 2428 = .ok (.iload 5, 2) := zf_at zf_38 16 rfl
theorem dL_law_2430 : decode cL_law 2430 = .ok (.iconst 1, 1) := zf_at zf_38 17 rfl
theorem dL_law_2431 : decode cL_law 2431 = .ok (.iadd, 1) := zf_at zf_38 18 rfl
theorem dL_law_2432 : decode cL_law 2432 = .ok (.iaload, 1) := zf_at zf_38 19 rfl
theorem dL_law_2433 : decode cL_law 2433 = .ok (.aload_n 0, 1) := zf_at zf_38 20 rfl
theorem dL_law_2434 : decode cL_law 2434 = .ok (.iload 5, 2) := zf_at zf_38 21 rfl
theorem dL_law_2436 : decode cL_law 2436 = .ok (.iconst 2, 1) := zf_at zf_38 22 rfl
theorem dL_law_2437 : decode cL_law 2437 = .ok (.iadd, 1) := zf_at zf_38 23 rfl
theorem dL_law_2438 : decode cL_law 2438 = .ok (.iaload, 1) := zf_at zf_38 24 rfl
theorem dL_law_2439 : decode cL_law 2439 = .ok (.invokevirtual 310, 3) := zf_at zf_38 25 rfl
theorem dL_law_2442 : decode cL_law 2442 = .ok (.istore 7, 2) := zf_at zf_38 26 rfl
theorem dL_law_2444 : decode cL_law 2444 = .ok (.aload_n 2, 1) := zf_at zf_38 27 rfl
theorem dL_law_2445 : decode cL_law 2445 = .ok (.invokevirtual 189, 3) := zf_at zf_38 28 rfl
theorem dL_law_2448 : decode cL_law 2448 = .ok (.iload 6, 2) := zf_at zf_38 29 rfl
theorem dL_law_2450 : decode cL_law 2450 = .ok (.if_icmp .eq 5, 3) := zf_at zf_38 30 rfl
theorem dL_law_2455 : decode cL_law 2455 = .ok (.iload 6, 2) := zf_at zf_38 31 rfl
theorem dL_law_2457 : decode cL_law 2457 = .ok (.ifCond .ne 15, 3) := zf_at zf_38 32 rfl
theorem dL_law_2460 : decode cL_law 2460 = .ok (.aload_n 3, 1) := zf_at zf_38 33 rfl
theorem dL_law_2461 : decode cL_law 2461 = .ok (.iconst 0, 1) := zf_at zf_38 34 rfl
theorem dL_law_2462 : decode cL_law 2462 = .ok (.laload, 1) := zf_at zf_38 35 rfl
theorem dL_law_2463 : decode cL_law 2463 = .ok (.iload 7, 2) := zf_at zf_38 36 rfl
theorem dL_law_2465 : decode cL_law 2465 = .ok (.i2l, 1) := zf_at zf_38 37 rfl
theorem dL_law_2466 : decode cL_law 2466 = .ok (.lcmp, 1) := zf_at zf_38 38 rfl
theorem dL_law_2467 : decode cL_law 2467 = .ok (.ifCond .eq 5, 3) := zf_at zf_38 39 rfl
theorem dL_law_2472 : decode cL_law 2472 = .ok (.goto 932, 3) := zf_at zf_38 40 rfl
theorem zf_39 : zf_all [(2475, .aload_n 1, 1), (2476, .aload_n 0, 1), (2477, .iload 5, 2), (2479, .iconst 1, 1), (2480, .iadd, 1), (2481, .iaload, 1), (2482, .aload_n 0, 1), (2483, .iload 5, 2), (2485, .iconst 2, 1), (2486, .iadd, 1), (2487, .iaload, 1), (2488, .aload_n 3, 1), (2489, .invokestatic 311, 3), (2492, .istore 6, 2), (2494, .aload_n 2, 1), (2495, .aload_n 0, 1), (2496, .iload 5, 2), (2498, .iconst 1, 1), (2499, .iadd, 1), (2500, .iaload, 1), (2501, .aload_n 0, 1), (2502, .iload 5, 2), (2504, .iconst 2, 1), (2505, .iadd, 1), (2506, .iaload, 1), (2507, .invokevirtual 313, 3), (2510, .istore 7, 2), (2512, .aload_n 2, 1), (2513, .invokevirtual 189, 3), (2516, .iload 6, 2), (2518, .if_icmp .eq 5, 3), (2523, .iload 6, 2), (2525, .ifCond .ne 15, 3), (2528, .aload_n 3, 1), (2529, .iconst 0, 1), (2530, .laload, 1), (2531, .iload 7, 2), (2533, .i2l, 1), (2534, .lcmp, 1), (2535, .ifCond .eq 5, 3), (2540, .goto 864, 3)] = true := by decide +kernel
theorem dL_law_2475 : decode cL_law 2475 = .ok (.aload_n 1, 1) := zf_at zf_39 0 rfl
theorem dL_law_2476 : decode cL_law 2476 = .ok (.aload_n 0, 1) := zf_at zf_39 1 rfl
theorem dL_law_2477 : decode cL_law 2477 = .ok (.iload 5, 2) := zf_at zf_39 2 rfl
theorem dL_law_2479 : decode cL_law 2479 = .ok (.iconst 1, 1) := zf_at zf_39 3 rfl
theorem dL_law_2480 : decode cL_law 2480 = .ok (.iadd, 1) := zf_at zf_39 4 rfl
theorem dL_law_2481 : decode cL_law 2481 = .ok (.iaload, 1) := zf_at zf_39 5 rfl
theorem dL_law_2482 : decode cL_law 2482 = .ok (.aload_n 0, 1) := zf_at zf_39 6 rfl
theorem dL_law_2483 : decode cL_law 2483 = .ok (.iload 5, 2) := zf_at zf_39 7 rfl
theorem dL_law_2485 : decode cL_law 2485 = .ok (.iconst 2, 1) := zf_at zf_39 8 rfl
theorem dL_law_2486 : decode cL_law 2486 = .ok (.iadd, 1) := zf_at zf_39 9 rfl
theorem dL_law_2487 : decode cL_law 2487 = .ok (.iaload, 1) := zf_at zf_39 10 rfl
theorem dL_law_2488 : decode cL_law 2488 = .ok (.aload_n 3, 1) := zf_at zf_39 11 rfl
theorem dL_law_2489 : decode cL_law 2489 = .ok (.invokestatic 311, 3) := zf_at zf_39 12 rfl
theorem dL_law_2492 : decode cL_law 2492 = .ok (.istore 6, 2) := zf_at zf_39 13 rfl
theorem dL_law_2494 : decode cL_law 2494 = .ok (.aload_n 2, 1) := zf_at zf_39 14 rfl
theorem dL_law_2495 : decode cL_law 2495 = .ok (.aload_n 0, 1) := zf_at zf_39 15 rfl
theorem dL_law_2496 : decode cL_law 2496 = .ok (.iload 5, 2) := zf_at zf_39 16 rfl
theorem dL_law_2498 : decode cL_law 2498 = .ok (.iconst 1, 1) := zf_at zf_39 17 rfl
theorem dL_law_2499 : decode cL_law 2499 = .ok (.iadd, 1) := zf_at zf_39 18 rfl
theorem dL_law_2500 : decode cL_law 2500 = .ok (.iaload, 1) := zf_at zf_39 19 rfl
theorem dL_law_2501 : decode cL_law 2501 = .ok (.aload_n 0, 1) := zf_at zf_39 20 rfl
theorem dL_law_2502 : decode cL_law 2502 = .ok (.iload 5, 2) := zf_at zf_39 21 rfl
theorem dL_law_2504 : decode cL_law 2504 = .ok (.iconst 2, 1) := zf_at zf_39 22 rfl
theorem dL_law_2505 : decode cL_law 2505 = .ok (.iadd, 1) := zf_at zf_39 23 rfl
theorem dL_law_2506 : decode cL_law 2506 = .ok (.iaload, 1) := zf_at zf_39 24 rfl
theorem dL_law_2507 : decode cL_law 2507 = .ok (.invokevirtual 313, 3) := zf_at zf_39 25 rfl
theorem dL_law_2510 : decode cL_law 2510 = .ok (.istore 7, 2) := zf_at zf_39 26 rfl
theorem dL_law_2512 : decode cL_law 2512 = .ok (.aload_n 2, 1) := zf_at zf_39 27 rfl
theorem dL_law_2513 : decode cL_law 2513 = .ok (.invokevirtual 189, 3) := zf_at zf_39 28 rfl
theorem dL_law_2516 : decode cL_law 2516 = .ok (.iload 6, 2) := zf_at zf_39 29 rfl
theorem dL_law_2518 : decode cL_law 2518 = .ok (.if_icmp .eq 5, 3) := zf_at zf_39 30 rfl
theorem dL_law_2523 : decode cL_law 2523 = .ok (.iload 6, 2) := zf_at zf_39 31 rfl
theorem dL_law_2525 : decode cL_law 2525 = .ok (.ifCond .ne 15, 3) := zf_at zf_39 32 rfl
theorem dL_law_2528 : decode cL_law 2528 = .ok (.aload_n 3, 1) := zf_at zf_39 33 rfl
theorem dL_law_2529 : decode cL_law 2529 = .ok (.iconst 0, 1) := zf_at zf_39 34 rfl
theorem dL_law_2530 : decode cL_law 2530 = .ok (.laload, 1) := zf_at zf_39 35 rfl
theorem dL_law_2531 : decode cL_law 2531 = .ok (.iload 7, 2) := zf_at zf_39 36 rfl
theorem dL_law_2533 : decode cL_law 2533 = .ok (.i2l, 1) := zf_at zf_39 37 rfl
theorem dL_law_2534 : decode cL_law 2534 = .ok (.lcmp, 1) := zf_at zf_39 38 rfl
theorem dL_law_2535 : decode cL_law 2535 = .ok (.ifCond .eq 5, 3) := zf_at zf_39 39 rfl
theorem dL_law_2540 : decode cL_law 2540 = .ok (.goto 864, 3) := zf_at zf_39 40 rfl
theorem zf_40 : zf_all [(2543, .aload_n 1, 1), (2544, .aload_n 0, 1), (2545, .iload 5, 2), (2547, .iconst 1, 1), (2548, .iadd, 1), (2549, .iaload, 1), (2550, .aload_n 0, 1), (2551, .iload 5, 2), (2553, .iconst 2, 1), (2554, .iadd, 1), (2555, .iaload, 1), (2556, .aload_n 3, 1), (2557, .invokestatic 314, 3), (2560, .istore 6, 2), (2562, .aload_n 2, 1), (2563, .aload_n 0, 1), (2564, .iload 5, 2), (2566, .iconst 1, 1), (2567, .iadd, 1), (2568, .iaload, 1), (2569, .aload_n 0, 1), (2570, .iload 5, 2), (2572, .iconst 2, 1), (2573, .iadd, 1), (2574, .iaload, 1), (2575, .invokevirtual 316, 3), (2578, .istore 7, 2), (2580, .aload_n 2, 1), (2581, .invokevirtual 189, 3), (2584, .iload 6, 2), (2586, .if_icmp .eq 5, 3), (2591, .iload 6, 2), (2593, .ifCond .ne 15, 3), (2596, .aload_n 3, 1), (2597, .iconst 0, 1), (2598, .laload, 1), (2599, .iload 7, 2), (2601, .i2l, 1), (2602, .lcmp, 1), (2603, .ifCond .eq 5, 3), (2608, .goto 796, 3)] = true := by decide +kernel
theorem dL_law_2543 : decode cL_law 2543 = .ok (.aload_n 1, 1) := zf_at zf_40 0 rfl
theorem dL_law_2544 : decode cL_law 2544 = .ok (.aload_n 0, 1) := zf_at zf_40 1 rfl
theorem dL_law_2545 : decode cL_law 2545 = .ok (.iload 5, 2) := zf_at zf_40 2 rfl
theorem dL_law_2547 : decode cL_law 2547 = .ok (.iconst 1, 1) := zf_at zf_40 3 rfl
theorem dL_law_2548 : decode cL_law 2548 = .ok (.iadd, 1) := zf_at zf_40 4 rfl
theorem dL_law_2549 : decode cL_law 2549 = .ok (.iaload, 1) := zf_at zf_40 5 rfl
theorem dL_law_2550 : decode cL_law 2550 = .ok (.aload_n 0, 1) := zf_at zf_40 6 rfl
theorem dL_law_2551 : decode cL_law 2551 = .ok (.iload 5, 2) := zf_at zf_40 7 rfl
theorem dL_law_2553 : decode cL_law 2553 = .ok (.iconst 2, 1) := zf_at zf_40 8 rfl
theorem dL_law_2554 : decode cL_law 2554 = .ok (.iadd, 1) := zf_at zf_40 9 rfl
theorem dL_law_2555 : decode cL_law 2555 = .ok (.iaload, 1) := zf_at zf_40 10 rfl
theorem dL_law_2556 : decode cL_law 2556 = .ok (.aload_n 3, 1) := zf_at zf_40 11 rfl
theorem dL_law_2557 : decode cL_law 2557 = .ok (.invokestatic 314, 3) := zf_at zf_40 12 rfl
theorem dL_law_2560 : decode cL_law 2560 = .ok (.istore 6, 2) := zf_at zf_40 13 rfl
theorem dL_law_2562 : decode cL_law 2562 = .ok (.aload_n 2, 1) := zf_at zf_40 14 rfl
theorem dL_law_2563 : decode cL_law 2563 = .ok (.aload_n 0, 1) := zf_at zf_40 15 rfl
theorem dL_law_2564 : decode cL_law 2564 = .ok (.iload 5, 2) := zf_at zf_40 16 rfl
theorem dL_law_2566 : decode cL_law 2566 = .ok (.iconst 1, 1) := zf_at zf_40 17 rfl
theorem dL_law_2567 : decode cL_law 2567 = .ok (.iadd, 1) := zf_at zf_40 18 rfl
theorem dL_law_2568 : decode cL_law 2568 = .ok (.iaload, 1) := zf_at zf_40 19 rfl
theorem dL_law_2569 : decode cL_law 2569 = .ok (.aload_n 0, 1) := zf_at zf_40 20 rfl
theorem dL_law_2570 : decode cL_law 2570 = .ok (.iload 5, 2) := zf_at zf_40 21 rfl
theorem dL_law_2572 : decode cL_law 2572 = .ok (.iconst 2, 1) := zf_at zf_40 22 rfl
theorem dL_law_2573 : decode cL_law 2573 = .ok (.iadd, 1) := zf_at zf_40 23 rfl
theorem dL_law_2574 : decode cL_law 2574 = .ok (.iaload, 1) := zf_at zf_40 24 rfl
theorem dL_law_2575 : decode cL_law 2575 = .ok (.invokevirtual 316, 3) := zf_at zf_40 25 rfl
theorem dL_law_2578 : decode cL_law 2578 = .ok (.istore 7, 2) := zf_at zf_40 26 rfl
theorem dL_law_2580 : decode cL_law 2580 = .ok (.aload_n 2, 1) := zf_at zf_40 27 rfl
theorem dL_law_2581 : decode cL_law 2581 = .ok (.invokevirtual 189, 3) := zf_at zf_40 28 rfl
theorem dL_law_2584 : decode cL_law 2584 = .ok (.iload 6, 2) := zf_at zf_40 29 rfl
theorem dL_law_2586 : decode cL_law 2586 = .ok (.if_icmp .eq 5, 3) := zf_at zf_40 30 rfl
theorem dL_law_2591 : decode cL_law 2591 = .ok (.iload 6, 2) := zf_at zf_40 31 rfl
theorem dL_law_2593 : decode cL_law 2593 = .ok (.ifCond .ne 15, 3) := zf_at zf_40 32 rfl
theorem dL_law_2596 : decode cL_law 2596 = .ok (.aload_n 3, 1) := zf_at zf_40 33 rfl
theorem dL_law_2597 : decode cL_law 2597 = .ok (.iconst 0, 1) := zf_at zf_40 34 rfl
theorem dL_law_2598 : decode cL_law 2598 = .ok (.laload, 1) := zf_at zf_40 35 rfl
theorem dL_law_2599 : decode cL_law 2599 = .ok (.iload 7, 2) := zf_at zf_40 36 rfl
theorem dL_law_2601 : decode cL_law 2601 = .ok (.i2l, 1) := zf_at zf_40 37 rfl
theorem dL_law_2602 : decode cL_law 2602 = .ok (.lcmp, 1) := zf_at zf_40 38 rfl
theorem dL_law_2603 : decode cL_law 2603 = .ok (.ifCond .eq 5, 3) := zf_at zf_40 39 rfl
theorem dL_law_2608 : decode cL_law 2608 = .ok (.goto 796, 3) := zf_at zf_40 40 rfl
theorem zf_41 : zf_all [(2611, .aload_n 1, 1), (2612, .aload_n 0, 1), (2613, .iload 5, 2), (2615, .iconst 1, 1), (2616, .iadd, 1), (2617, .iaload, 1), (2618, .aload_n 0, 1), (2619, .iload 5, 2), (2621, .iconst 2, 1), (2622, .iadd, 1), (2623, .iaload, 1), (2624, .aload_n 3, 1), (2625, .invokestatic 317, 3), (2628, .istore 6, 2), (2630, .aload_n 2, 1), (2631, .aload_n 0, 1), (2632, .iload 5, 2), (2634, .iconst 1, 1), (2635, .iadd, 1), (2636, .iaload, 1), (2637, .aload_n 0, 1), (2638, .iload 5, 2), (2640, .iconst 2, 1), (2641, .iadd, 1), (2642, .iaload, 1), (2643, .invokevirtual 319, 3), (2646, .istore 7, 2), (2648, .aload_n 2, 1), (2649, .invokevirtual 189, 3), (2652, .iload 6, 2), (2654, .if_icmp .eq 5, 3), (2659, .iload 6, 2), (2661, .ifCond .ne 15, 3), (2664, .aload_n 3, 1), (2665, .iconst 0, 1), (2666, .laload, 1), (2667, .iload 7, 2), (2669, .i2l, 1), (2670, .lcmp, 1), (2671, .ifCond .eq 5, 3), (2676, .goto 728, 3)] = true := by decide +kernel
theorem dL_law_2611 : decode cL_law 2611 = .ok (.aload_n 1, 1) := zf_at zf_41 0 rfl
theorem dL_law_2612 : decode cL_law 2612 = .ok (.aload_n 0, 1) := zf_at zf_41 1 rfl
theorem dL_law_2613 : decode cL_law 2613 = .ok (.iload 5, 2) := zf_at zf_41 2 rfl
theorem dL_law_2615 : decode cL_law 2615 = .ok (.iconst 1, 1) := zf_at zf_41 3 rfl
theorem dL_law_2616 : decode cL_law 2616 = .ok (.iadd, 1) := zf_at zf_41 4 rfl
theorem dL_law_2617 : decode cL_law 2617 = .ok (.iaload, 1) := zf_at zf_41 5 rfl
theorem dL_law_2618 : decode cL_law 2618 = .ok (.aload_n 0, 1) := zf_at zf_41 6 rfl
theorem dL_law_2619 : decode cL_law 2619 = .ok (.iload 5, 2) := zf_at zf_41 7 rfl
theorem dL_law_2621 : decode cL_law 2621 = .ok (.iconst 2, 1) := zf_at zf_41 8 rfl
theorem dL_law_2622 : decode cL_law 2622 = .ok (.iadd, 1) := zf_at zf_41 9 rfl
theorem dL_law_2623 : decode cL_law 2623 = .ok (.iaload, 1) := zf_at zf_41 10 rfl
theorem dL_law_2624 : decode cL_law 2624 = .ok (.aload_n 3, 1) := zf_at zf_41 11 rfl
theorem dL_law_2625 : decode cL_law 2625 = .ok (.invokestatic 317, 3) := zf_at zf_41 12 rfl
theorem dL_law_2628 : decode cL_law 2628 = .ok (.istore 6, 2) := zf_at zf_41 13 rfl
theorem dL_law_2630 : decode cL_law 2630 = .ok (.aload_n 2, 1) := zf_at zf_41 14 rfl
theorem dL_law_2631 : decode cL_law 2631 = .ok (.aload_n 0, 1) := zf_at zf_41 15 rfl
theorem dL_law_2632 : decode cL_law 2632 = .ok (.iload 5, 2) := zf_at zf_41 16 rfl
theorem dL_law_2634 : decode cL_law 2634 = .ok (.iconst 1, 1) := zf_at zf_41 17 rfl
theorem dL_law_2635 : decode cL_law 2635 = .ok (.iadd, 1) := zf_at zf_41 18 rfl
theorem dL_law_2636 : decode cL_law 2636 = .ok (.iaload, 1) := zf_at zf_41 19 rfl
theorem dL_law_2637 : decode cL_law 2637 = .ok (.aload_n 0, 1) := zf_at zf_41 20 rfl
theorem dL_law_2638 : decode cL_law 2638 = .ok (.iload 5, 2) := zf_at zf_41 21 rfl
theorem dL_law_2640 : decode cL_law 2640 = .ok (.iconst 2, 1) := zf_at zf_41 22 rfl
theorem dL_law_2641 : decode cL_law 2641 = .ok (.iadd, 1) := zf_at zf_41 23 rfl
theorem dL_law_2642 : decode cL_law 2642 = .ok (.iaload, 1) := zf_at zf_41 24 rfl
theorem dL_law_2643 : decode cL_law 2643 = .ok (.invokevirtual 319, 3) := zf_at zf_41 25 rfl
theorem dL_law_2646 : decode cL_law 2646 = .ok (.istore 7, 2) := zf_at zf_41 26 rfl
theorem dL_law_2648 : decode cL_law 2648 = .ok (.aload_n 2, 1) := zf_at zf_41 27 rfl
theorem dL_law_2649 : decode cL_law 2649 = .ok (.invokevirtual 189, 3) := zf_at zf_41 28 rfl
theorem dL_law_2652 : decode cL_law 2652 = .ok (.iload 6, 2) := zf_at zf_41 29 rfl
theorem dL_law_2654 : decode cL_law 2654 = .ok (.if_icmp .eq 5, 3) := zf_at zf_41 30 rfl
theorem dL_law_2659 : decode cL_law 2659 = .ok (.iload 6, 2) := zf_at zf_41 31 rfl
theorem dL_law_2661 : decode cL_law 2661 = .ok (.ifCond .ne 15, 3) := zf_at zf_41 32 rfl
theorem dL_law_2664 : decode cL_law 2664 = .ok (.aload_n 3, 1) := zf_at zf_41 33 rfl
theorem dL_law_2665 : decode cL_law 2665 = .ok (.iconst 0, 1) := zf_at zf_41 34 rfl
theorem dL_law_2666 : decode cL_law 2666 = .ok (.laload, 1) := zf_at zf_41 35 rfl
theorem dL_law_2667 : decode cL_law 2667 = .ok (.iload 7, 2) := zf_at zf_41 36 rfl
theorem dL_law_2669 : decode cL_law 2669 = .ok (.i2l, 1) := zf_at zf_41 37 rfl
theorem dL_law_2670 : decode cL_law 2670 = .ok (.lcmp, 1) := zf_at zf_41 38 rfl
theorem dL_law_2671 : decode cL_law 2671 = .ok (.ifCond .eq 5, 3) := zf_at zf_41 39 rfl
theorem dL_law_2676 : decode cL_law 2676 = .ok (.goto 728, 3) := zf_at zf_41 40 rfl
theorem zf_42 : zf_all [(2679, .aload_n 1, 1), (2680, .aload_n 0, 1), (2681, .iload 5, 2), (2683, .iconst 1, 1), (2684, .iadd, 1), (2685, .iaload, 1), (2686, .aload_n 0, 1), (2687, .iload 5, 2), (2689, .iconst 2, 1), (2690, .iadd, 1), (2691, .iaload, 1), (2692, .ifCond .eq 7, 3), (2695, .iconst 1, 1), (2696, .goto 4, 3), (2699, .iconst 0, 1), (2700, .aload_n 3, 1), (2701, .invokestatic 320, 3), (2704, .istore 6, 2), (2706, .aload_n 2, 1), (2707, .aload_n 0, 1), (2708, .iload 5, 2), (2710, .iconst 1, 1), (2711, .iadd, 1), (2712, .iaload, 1), (2713, .aload_n 0, 1), (2714, .iload 5, 2), (2716, .iconst 2, 1), (2717, .iadd, 1), (2718, .iaload, 1), (2719, .ifCond .eq 7, 3), (2722, .iconst 1, 1), (2723, .goto 4, 3), (2726, .iconst 0, 1), (2727, .invokevirtual 322, 3), (2730, .istore 7, 2), (2732, .aload_n 2, 1), (2733, .invokevirtual 189, 3), (2736, .iload 6, 2), (2738, .if_icmp .eq 5, 3), (2743, .iload 6, 2), (2745, .ifCond .ne 15, 3), (2748, .aload_n 3, 1), (2749, .iconst 0, 1), (2750, .laload, 1), (2751, .iload 7, 2), (2753, .i2l, 1), (2754, .lcmp, 1), (2755, .ifCond .eq 5, 3), (2760, .goto 644, 3)] = true := by decide +kernel
theorem dL_law_2679 : decode cL_law 2679 = .ok (.aload_n 1, 1) := zf_at zf_42 0 rfl
theorem dL_law_2680 : decode cL_law 2680 = .ok (.aload_n 0, 1) := zf_at zf_42 1 rfl
theorem dL_law_2681 : decode cL_law 2681 = .ok (.iload 5, 2) := zf_at zf_42 2 rfl
theorem dL_law_2683 : decode cL_law 2683 = .ok (.iconst 1, 1) := zf_at zf_42 3 rfl
theorem dL_law_2684 : decode cL_law 2684 = .ok (.iadd, 1) := zf_at zf_42 4 rfl
theorem dL_law_2685 : decode cL_law 2685 = .ok (.iaload, 1) := zf_at zf_42 5 rfl
theorem dL_law_2686 : decode cL_law 2686 = .ok (.aload_n 0, 1) := zf_at zf_42 6 rfl
theorem dL_law_2687 : decode cL_law 2687 = .ok (.iload 5, 2) := zf_at zf_42 7 rfl
theorem dL_law_2689 : decode cL_law 2689 = .ok (.iconst 2, 1) := zf_at zf_42 8 rfl
theorem dL_law_2690 : decode cL_law 2690 = .ok (.iadd, 1) := zf_at zf_42 9 rfl
theorem dL_law_2691 : decode cL_law 2691 = .ok (.iaload, 1) := zf_at zf_42 10 rfl
theorem dL_law_2692 : decode cL_law 2692 = .ok (.ifCond .eq 7, 3) := zf_at zf_42 11 rfl
theorem dL_law_2695 : decode cL_law 2695 = .ok (.iconst 1, 1) := zf_at zf_42 12 rfl
theorem dL_law_2696 : decode cL_law 2696 = .ok (.goto 4, 3) := zf_at zf_42 13 rfl
theorem dL_law_2699 : decode cL_law 2699 = .ok (.iconst 0, 1) := zf_at zf_42 14 rfl
theorem dL_law_2700 : decode cL_law 2700 = .ok (.aload_n 3, 1) := zf_at zf_42 15 rfl
theorem dL_law_2701 : decode cL_law 2701 = .ok (.invokestatic 320, 3) := zf_at zf_42 16 rfl
theorem dL_law_2704 : decode cL_law 2704 = .ok (.istore 6, 2) := zf_at zf_42 17 rfl
theorem dL_law_2706 : decode cL_law 2706 = .ok (.aload_n 2, 1) := zf_at zf_42 18 rfl
theorem dL_law_2707 : decode cL_law 2707 = .ok (.aload_n 0, 1) := zf_at zf_42 19 rfl
theorem dL_law_2708 : decode cL_law 2708 = .ok (.iload 5, 2) := zf_at zf_42 20 rfl
theorem dL_law_2710 : decode cL_law 2710 = .ok (.iconst 1, 1) := zf_at zf_42 21 rfl
theorem dL_law_2711 : decode cL_law 2711 = .ok (.iadd, 1) := zf_at zf_42 22 rfl
theorem dL_law_2712 : decode cL_law 2712 = .ok (.iaload, 1) := zf_at zf_42 23 rfl
theorem dL_law_2713 : decode cL_law 2713 = .ok (.aload_n 0, 1) := zf_at zf_42 24 rfl
theorem dL_law_2714 : decode cL_law 2714 = .ok (.iload 5, 2) := zf_at zf_42 25 rfl
theorem dL_law_2716 : decode cL_law 2716 = .ok (.iconst 2, 1) := zf_at zf_42 26 rfl
theorem dL_law_2717 : decode cL_law 2717 = .ok (.iadd, 1) := zf_at zf_42 27 rfl
theorem dL_law_2718 : decode cL_law 2718 = .ok (.iaload, 1) := zf_at zf_42 28 rfl
theorem dL_law_2719 : decode cL_law 2719 = .ok (.ifCond .eq 7, 3) := zf_at zf_42 29 rfl
theorem dL_law_2722 : decode cL_law 2722 = .ok (.iconst 1, 1) := zf_at zf_42 30 rfl
theorem dL_law_2723 : decode cL_law 2723 = .ok (.goto 4, 3) := zf_at zf_42 31 rfl
theorem dL_law_2726 : decode cL_law 2726 = .ok (.iconst 0, 1) := zf_at zf_42 32 rfl
theorem dL_law_2727 : decode cL_law 2727 = .ok (.invokevirtual 322, 3) := zf_at zf_42 33 rfl
theorem dL_law_2730 : decode cL_law 2730 = .ok (.istore 7, 2) := zf_at zf_42 34 rfl
theorem dL_law_2732 : decode cL_law 2732 = .ok (.aload_n 2, 1) := zf_at zf_42 35 rfl
theorem dL_law_2733 : decode cL_law 2733 = .ok (.invokevirtual 189, 3) := zf_at zf_42 36 rfl
theorem dL_law_2736 : decode cL_law 2736 = .ok (.iload 6, 2) := zf_at zf_42 37 rfl
theorem dL_law_2738 : decode cL_law 2738 = .ok (.if_icmp .eq 5, 3) := zf_at zf_42 38 rfl
theorem dL_law_2743 : decode cL_law 2743 = .ok (.iload 6, 2) := zf_at zf_42 39 rfl
theorem dL_law_2745 : decode cL_law 2745 = .ok (.ifCond .ne 15, 3) := zf_at zf_42 40 rfl
theorem dL_law_2748 : decode cL_law 2748 = .ok (.aload_n 3, 1) := zf_at zf_42 41 rfl
theorem dL_law_2749 : decode cL_law 2749 = .ok (.iconst 0, 1) := zf_at zf_42 42 rfl
theorem dL_law_2750 : decode cL_law 2750 = .ok (.laload, 1) := zf_at zf_42 43 rfl
theorem dL_law_2751 : decode cL_law 2751 = .ok (.iload 7, 2) := zf_at zf_42 44 rfl
theorem dL_law_2753 : decode cL_law 2753 = .ok (.i2l, 1) := zf_at zf_42 45 rfl
theorem dL_law_2754 : decode cL_law 2754 = .ok (.lcmp, 1) := zf_at zf_42 46 rfl
theorem dL_law_2755 : decode cL_law 2755 = .ok (.ifCond .eq 5, 3) := zf_at zf_42 47 rfl
theorem dL_law_2760 : decode cL_law 2760 = .ok (.goto 644, 3) := zf_at zf_42 48 rfl
theorem zf_43 : zf_all [(2763, .aload_n 1, 1), (2764, .aload_n 0, 1), (2765, .iload 5, 2), (2767, .iconst 1, 1), (2768, .iadd, 1), (2769, .iaload, 1), (2770, .aload_n 0, 1), (2771, .iload 5, 2), (2773, .iconst 2, 1), (2774, .iadd, 1), (2775, .iaload, 1), (2776, .aload_n 3, 1), (2777, .invokestatic 323, 3), (2780, .istore 6, 2), (2782, .aload_n 2, 1), (2783, .aload_n 0, 1), (2784, .iload 5, 2), (2786, .iconst 1, 1), (2787, .iadd, 1), (2788, .iaload, 1), (2789, .aload_n 0, 1), (2790, .iload 5, 2), (2792, .iconst 2, 1), (2793, .iadd, 1), (2794, .iaload, 1), (2795, .invokevirtual 325, 3), (2798, .istore 7, 2), (2800, .aload_n 2, 1), (2801, .invokevirtual 189, 3), (2804, .iload 6, 2), (2806, .if_icmp .eq 5, 3), (2811, .iload 6, 2), (2813, .ifCond .ne 15, 3), (2816, .aload_n 3, 1), (2817, .iconst 0, 1), (2818, .laload, 1), (2819, .iload 7, 2), (2821, .i2l, 1), (2822, .lcmp, 1), (2823, .ifCond .eq 5, 3), (2828, .goto 576, 3)] = true := by decide +kernel
theorem dL_law_2763 : decode cL_law 2763 = .ok (.aload_n 1, 1) := zf_at zf_43 0 rfl
theorem dL_law_2764 : decode cL_law 2764 = .ok (.aload_n 0, 1) := zf_at zf_43 1 rfl
theorem dL_law_2765 : decode cL_law 2765 = .ok (.iload 5, 2) := zf_at zf_43 2 rfl
theorem dL_law_2767 : decode cL_law 2767 = .ok (.iconst 1, 1) := zf_at zf_43 3 rfl
theorem dL_law_2768 : decode cL_law 2768 = .ok (.iadd, 1) := zf_at zf_43 4 rfl
theorem dL_law_2769 : decode cL_law 2769 = .ok (.iaload, 1) := zf_at zf_43 5 rfl
theorem dL_law_2770 : decode cL_law 2770 = .ok (.aload_n 0, 1) := zf_at zf_43 6 rfl
theorem dL_law_2771 : decode cL_law 2771 = .ok (.iload 5, 2) := zf_at zf_43 7 rfl
theorem dL_law_2773 : decode cL_law 2773 = .ok (.iconst 2, 1) := zf_at zf_43 8 rfl
theorem dL_law_2774 : decode cL_law 2774 = .ok (.iadd, 1) := zf_at zf_43 9 rfl
theorem dL_law_2775 : decode cL_law 2775 = .ok (.iaload, 1) := zf_at zf_43 10 rfl
theorem dL_law_2776 : decode cL_law 2776 = .ok (.aload_n 3, 1) := zf_at zf_43 11 rfl
theorem dL_law_2777 : decode cL_law 2777 = .ok (.invokestatic 323, 3) := zf_at zf_43 12 rfl
theorem dL_law_2780 : decode cL_law 2780 = .ok (.istore 6, 2) := zf_at zf_43 13 rfl
theorem dL_law_2782 : decode cL_law 2782 = .ok (.aload_n 2, 1) := zf_at zf_43 14 rfl
theorem dL_law_2783 : decode cL_law 2783 = .ok (.aload_n 0, 1) := zf_at zf_43 15 rfl
theorem dL_law_2784 : decode cL_law 2784 = .ok (.iload 5, 2) := zf_at zf_43 16 rfl
theorem dL_law_2786 : decode cL_law 2786 = .ok (.iconst 1, 1) := zf_at zf_43 17 rfl
theorem dL_law_2787 : decode cL_law 2787 = .ok (.iadd, 1) := zf_at zf_43 18 rfl
theorem dL_law_2788 : decode cL_law 2788 = .ok (.iaload, 1) := zf_at zf_43 19 rfl
theorem dL_law_2789 : decode cL_law 2789 = .ok (.aload_n 0, 1) := zf_at zf_43 20 rfl
theorem dL_law_2790 : decode cL_law 2790 = .ok (.iload 5, 2) := zf_at zf_43 21 rfl
theorem dL_law_2792 : decode cL_law 2792 = .ok (.iconst 2, 1) := zf_at zf_43 22 rfl
theorem dL_law_2793 : decode cL_law 2793 = .ok (.iadd, 1) := zf_at zf_43 23 rfl
theorem dL_law_2794 : decode cL_law 2794 = .ok (.iaload, 1) := zf_at zf_43 24 rfl
theorem dL_law_2795 : decode cL_law 2795 = .ok (.invokevirtual 325, 3) := zf_at zf_43 25 rfl
theorem dL_law_2798 : decode cL_law 2798 = .ok (.istore 7, 2) := zf_at zf_43 26 rfl
theorem dL_law_2800 : decode cL_law 2800 = .ok (.aload_n 2, 1) := zf_at zf_43 27 rfl
theorem dL_law_2801 : decode cL_law 2801 = .ok (.invokevirtual 189, 3) := zf_at zf_43 28 rfl
theorem dL_law_2804 : decode cL_law 2804 = .ok (.iload 6, 2) := zf_at zf_43 29 rfl
theorem dL_law_2806 : decode cL_law 2806 = .ok (.if_icmp .eq 5, 3) := zf_at zf_43 30 rfl
theorem dL_law_2811 : decode cL_law 2811 = .ok (.iload 6, 2) := zf_at zf_43 31 rfl
theorem dL_law_2813 : decode cL_law 2813 = .ok (.ifCond .ne 15, 3) := zf_at zf_43 32 rfl
theorem dL_law_2816 : decode cL_law 2816 = .ok (.aload_n 3, 1) := zf_at zf_43 33 rfl
theorem dL_law_2817 : decode cL_law 2817 = .ok (.iconst 0, 1) := zf_at zf_43 34 rfl
theorem dL_law_2818 : decode cL_law 2818 = .ok (.laload, 1) := zf_at zf_43 35 rfl
theorem dL_law_2819 : decode cL_law 2819 = .ok (.iload 7, 2) := zf_at zf_43 36 rfl
theorem dL_law_2821 : decode cL_law 2821 = .ok (.i2l, 1) := zf_at zf_43 37 rfl
theorem dL_law_2822 : decode cL_law 2822 = .ok (.lcmp, 1) := zf_at zf_43 38 rfl
theorem dL_law_2823 : decode cL_law 2823 = .ok (.ifCond .eq 5, 3) := zf_at zf_43 39 rfl
theorem dL_law_2828 : decode cL_law 2828 = .ok (.goto 576, 3) := zf_at zf_43 40 rfl
theorem zf_44 : zf_all [(2831, .aload_n 1, 1), (2832, .aload_n 0, 1), (2833, .iload 5, 2), (2835, .iconst 1, 1), (2836, .iadd, 1), (2837, .iaload, 1), (2838, .aload_n 3, 1), (2839, .invokestatic 326, 3), (2842, .istore 6, 2), (2844, .aload_n 2, 1), (2845, .aload_n 0, 1), (2846, .iload 5, 2), (2848, .iconst 1, 1), (2849, .iadd, 1), (2850, .iaload, 1), (2851, .invokevirtual 328, 3), (2854, .istore 7, 2), (2856, .aload_n 2, 1), (2857, .invokevirtual 189, 3), (2860, .iload 6, 2), (2862, .if_icmp .eq 5, 3), (2867, .iload 6, 2), (2869, .ifCond .ne 15, 3), (2872, .aload_n 3, 1), (2873, .iconst 0, 1), (2874, .laload, 1), (2875, .iload 7, 2), (2877, .i2l, 1), (2878, .lcmp, 1), (2879, .ifCond .eq 5, 3), (2884, .goto 520, 3)] = true := by decide +kernel
theorem dL_law_2831 : decode cL_law 2831 = .ok (.aload_n 1, 1) := zf_at zf_44 0 rfl
theorem dL_law_2832 : decode cL_law 2832 = .ok (.aload_n 0, 1) := zf_at zf_44 1 rfl
theorem dL_law_2833 : decode cL_law 2833 = .ok (.iload 5, 2) := zf_at zf_44 2 rfl
theorem dL_law_2835 : decode cL_law 2835 = .ok (.iconst 1, 1) := zf_at zf_44 3 rfl
theorem dL_law_2836 : decode cL_law 2836 = .ok (.iadd, 1) := zf_at zf_44 4 rfl
theorem dL_law_2837 : decode cL_law 2837 = .ok (.iaload, 1) := zf_at zf_44 5 rfl
theorem dL_law_2838 : decode cL_law 2838 = .ok (.aload_n 3, 1) := zf_at zf_44 6 rfl
theorem dL_law_2839 : decode cL_law 2839 = .ok (.invokestatic 326, 3) := zf_at zf_44 7 rfl
theorem dL_law_2842 : decode cL_law 2842 = .ok (.istore 6, 2) := zf_at zf_44 8 rfl
theorem dL_law_2844 : decode cL_law 2844 = .ok (.aload_n 2, 1) := zf_at zf_44 9 rfl
theorem dL_law_2845 : decode cL_law 2845 = .ok (.aload_n 0, 1) := zf_at zf_44 10 rfl
theorem dL_law_2846 : decode cL_law 2846 = .ok (.iload 5, 2) := zf_at zf_44 11 rfl
theorem dL_law_2848 : decode cL_law 2848 = .ok (.iconst 1, 1) := zf_at zf_44 12 rfl
theorem dL_law_2849 : decode cL_law 2849 = .ok (.iadd, 1) := zf_at zf_44 13 rfl
theorem dL_law_2850 : decode cL_law 2850 = .ok (.iaload, 1) := zf_at zf_44 14 rfl
theorem dL_law_2851 : decode cL_law 2851 = .ok (.invokevirtual 328, 3) := zf_at zf_44 15 rfl
theorem dL_law_2854 : decode cL_law 2854 = .ok (.istore 7, 2) := zf_at zf_44 16 rfl
theorem dL_law_2856 : decode cL_law 2856 = .ok (.aload_n 2, 1) := zf_at zf_44 17 rfl
theorem dL_law_2857 : decode cL_law 2857 = .ok (.invokevirtual 189, 3) := zf_at zf_44 18 rfl
theorem dL_law_2860 : decode cL_law 2860 = .ok (.iload 6, 2) := zf_at zf_44 19 rfl
theorem dL_law_2862 : decode cL_law 2862 = .ok (.if_icmp .eq 5, 3) := zf_at zf_44 20 rfl
theorem dL_law_2867 : decode cL_law 2867 = .ok (.iload 6, 2) := zf_at zf_44 21 rfl
theorem dL_law_2869 : decode cL_law 2869 = .ok (.ifCond .ne 15, 3) := zf_at zf_44 22 rfl
theorem dL_law_2872 : decode cL_law 2872 = .ok (.aload_n 3, 1) := zf_at zf_44 23 rfl
theorem dL_law_2873 : decode cL_law 2873 = .ok (.iconst 0, 1) := zf_at zf_44 24 rfl
theorem dL_law_2874 : decode cL_law 2874 = .ok (.laload, 1) := zf_at zf_44 25 rfl
theorem dL_law_2875 : decode cL_law 2875 = .ok (.iload 7, 2) := zf_at zf_44 26 rfl
theorem dL_law_2877 : decode cL_law 2877 = .ok (.i2l, 1) := zf_at zf_44 27 rfl
theorem dL_law_2878 : decode cL_law 2878 = .ok (.lcmp, 1) := zf_at zf_44 28 rfl
theorem dL_law_2879 : decode cL_law 2879 = .ok (.ifCond .eq 5, 3) := zf_at zf_44 29 rfl
theorem dL_law_2884 : decode cL_law 2884 = .ok (.goto 520, 3) := zf_at zf_44 30 rfl
theorem zf_45 : zf_all [(2887, .aload_n 1, 1), (2888, .aload_n 0, 1), (2889, .iload 5, 2), (2891, .iconst 1, 1), (2892, .iadd, 1), (2893, .iaload, 1), (2894, .aload_n 3, 1), (2895, .invokestatic 329, 3), (2898, .istore 6, 2), (2900, .aload_n 2, 1), (2901, .aload_n 0, 1), (2902, .iload 5, 2), (2904, .iconst 1, 1), (2905, .iadd, 1), (2906, .iaload, 1), (2907, .invokevirtual 331, 3), (2910, .istore 7, 2), (2912, .aload_n 2, 1), (2913, .invokevirtual 189, 3), (2916, .iload 6, 2), (2918, .if_icmp .eq 5, 3), (2923, .iload 6, 2), (2925, .ifCond .ne 15, 3), (2928, .aload_n 3, 1), (2929, .iconst 0, 1), (2930, .laload, 1), (2931, .iload 7, 2), (2933, .i2l, 1), (2934, .lcmp, 1), (2935, .ifCond .eq 5, 3), (2940, .goto 464, 3)] = true := by decide +kernel
theorem dL_law_2887 : decode cL_law 2887 = .ok (.aload_n 1, 1) := zf_at zf_45 0 rfl
theorem dL_law_2888 : decode cL_law 2888 = .ok (.aload_n 0, 1) := zf_at zf_45 1 rfl
theorem dL_law_2889 : decode cL_law 2889 = .ok (.iload 5, 2) := zf_at zf_45 2 rfl
theorem dL_law_2891 : decode cL_law 2891 = .ok (.iconst 1, 1) := zf_at zf_45 3 rfl
theorem dL_law_2892 : decode cL_law 2892 = .ok (.iadd, 1) := zf_at zf_45 4 rfl
theorem dL_law_2893 : decode cL_law 2893 = .ok (.iaload, 1) := zf_at zf_45 5 rfl
theorem dL_law_2894 : decode cL_law 2894 = .ok (.aload_n 3, 1) := zf_at zf_45 6 rfl
theorem dL_law_2895 : decode cL_law 2895 = .ok (.invokestatic 329, 3) := zf_at zf_45 7 rfl
theorem dL_law_2898 : decode cL_law 2898 = .ok (.istore 6, 2) := zf_at zf_45 8 rfl
theorem dL_law_2900 : decode cL_law 2900 = .ok (.aload_n 2, 1) := zf_at zf_45 9 rfl
theorem dL_law_2901 : decode cL_law 2901 = .ok (.aload_n 0, 1) := zf_at zf_45 10 rfl
theorem dL_law_2902 : decode cL_law 2902 = .ok (.iload 5, 2) := zf_at zf_45 11 rfl
theorem dL_law_2904 : decode cL_law 2904 = .ok (.iconst 1, 1) := zf_at zf_45 12 rfl
theorem dL_law_2905 : decode cL_law 2905 = .ok (.iadd, 1) := zf_at zf_45 13 rfl
theorem dL_law_2906 : decode cL_law 2906 = .ok (.iaload, 1) := zf_at zf_45 14 rfl
theorem dL_law_2907 : decode cL_law 2907 = .ok (.invokevirtual 331, 3) := zf_at zf_45 15 rfl
theorem dL_law_2910 : decode cL_law 2910 = .ok (.istore 7, 2) := zf_at zf_45 16 rfl
theorem dL_law_2912 : decode cL_law 2912 = .ok (.aload_n 2, 1) := zf_at zf_45 17 rfl
theorem dL_law_2913 : decode cL_law 2913 = .ok (.invokevirtual 189, 3) := zf_at zf_45 18 rfl
theorem dL_law_2916 : decode cL_law 2916 = .ok (.iload 6, 2) := zf_at zf_45 19 rfl
theorem dL_law_2918 : decode cL_law 2918 = .ok (.if_icmp .eq 5, 3) := zf_at zf_45 20 rfl
theorem dL_law_2923 : decode cL_law 2923 = .ok (.iload 6, 2) := zf_at zf_45 21 rfl
theorem dL_law_2925 : decode cL_law 2925 = .ok (.ifCond .ne 15, 3) := zf_at zf_45 22 rfl
theorem dL_law_2928 : decode cL_law 2928 = .ok (.aload_n 3, 1) := zf_at zf_45 23 rfl
theorem dL_law_2929 : decode cL_law 2929 = .ok (.iconst 0, 1) := zf_at zf_45 24 rfl
theorem dL_law_2930 : decode cL_law 2930 = .ok (.laload, 1) := zf_at zf_45 25 rfl
theorem dL_law_2931 : decode cL_law 2931 = .ok (.iload 7, 2) := zf_at zf_45 26 rfl
theorem dL_law_2933 : decode cL_law 2933 = .ok (.i2l, 1) := zf_at zf_45 27 rfl
theorem dL_law_2934 : decode cL_law 2934 = .ok (.lcmp, 1) := zf_at zf_45 28 rfl
theorem dL_law_2935 : decode cL_law 2935 = .ok (.ifCond .eq 5, 3) := zf_at zf_45 29 rfl
theorem dL_law_2940 : decode cL_law 2940 = .ok (.goto 464, 3) := zf_at zf_45 30 rfl
theorem zf_46 : zf_all [(2943, .aload_n 1, 1), (2944, .aload_n 0, 1), (2945, .iload 5, 2), (2947, .iconst 1, 1), (2948, .iadd, 1), (2949, .iaload, 1), (2950, .aload_n 3, 1), (2951, .invokestatic 332, 3), (2954, .istore 6, 2), (2956, .aload_n 2, 1), (2957, .aload_n 0, 1), (2958, .iload 5, 2), (2960, .iconst 1, 1), (2961, .iadd, 1), (2962, .iaload, 1), (2963, .invokevirtual 334, 3), (2966, .istore 7, 2), (2968, .aload_n 2, 1), (2969, .invokevirtual 189, 3), (2972, .iload 6, 2), (2974, .if_icmp .eq 5, 3), (2979, .iload 6, 2), (2981, .ifCond .ne 15, 3), (2984, .aload_n 3, 1), (2985, .iconst 0, 1), (2986, .laload, 1), (2987, .iload 7, 2), (2989, .i2l, 1), (2990, .lcmp, 1), (2991, .ifCond .eq 5, 3), (2996, .goto 408, 3)] = true := by decide +kernel
theorem dL_law_2943 : decode cL_law 2943 = .ok (.aload_n 1, 1) := zf_at zf_46 0 rfl
theorem dL_law_2944 : decode cL_law 2944 = .ok (.aload_n 0, 1) := zf_at zf_46 1 rfl
theorem dL_law_2945 : decode cL_law 2945 = .ok (.iload 5, 2) := zf_at zf_46 2 rfl
theorem dL_law_2947 : decode cL_law 2947 = .ok (.iconst 1, 1) := zf_at zf_46 3 rfl
theorem dL_law_2948 : decode cL_law 2948 = .ok (.iadd, 1) := zf_at zf_46 4 rfl
theorem dL_law_2949 : decode cL_law 2949 = .ok (.iaload, 1) := zf_at zf_46 5 rfl
theorem dL_law_2950 : decode cL_law 2950 = .ok (.aload_n 3, 1) := zf_at zf_46 6 rfl
theorem dL_law_2951 : decode cL_law 2951 = .ok (.invokestatic 332, 3) := zf_at zf_46 7 rfl
theorem dL_law_2954 : decode cL_law 2954 = .ok (.istore 6, 2) := zf_at zf_46 8 rfl
theorem dL_law_2956 : decode cL_law 2956 = .ok (.aload_n 2, 1) := zf_at zf_46 9 rfl
theorem dL_law_2957 : decode cL_law 2957 = .ok (.aload_n 0, 1) := zf_at zf_46 10 rfl
theorem dL_law_2958 : decode cL_law 2958 = .ok (.iload 5, 2) := zf_at zf_46 11 rfl
theorem dL_law_2960 : decode cL_law 2960 = .ok (.iconst 1, 1) := zf_at zf_46 12 rfl
theorem dL_law_2961 : decode cL_law 2961 = .ok (.iadd, 1) := zf_at zf_46 13 rfl
theorem dL_law_2962 : decode cL_law 2962 = .ok (.iaload, 1) := zf_at zf_46 14 rfl
theorem dL_law_2963 : decode cL_law 2963 = .ok (.invokevirtual 334, 3) := zf_at zf_46 15 rfl
theorem dL_law_2966 : decode cL_law 2966 = .ok (.istore 7, 2) := zf_at zf_46 16 rfl
theorem dL_law_2968 : decode cL_law 2968 = .ok (.aload_n 2, 1) := zf_at zf_46 17 rfl
theorem dL_law_2969 : decode cL_law 2969 = .ok (.invokevirtual 189, 3) := zf_at zf_46 18 rfl
theorem dL_law_2972 : decode cL_law 2972 = .ok (.iload 6, 2) := zf_at zf_46 19 rfl
theorem dL_law_2974 : decode cL_law 2974 = .ok (.if_icmp .eq 5, 3) := zf_at zf_46 20 rfl
theorem dL_law_2979 : decode cL_law 2979 = .ok (.iload 6, 2) := zf_at zf_46 21 rfl
theorem dL_law_2981 : decode cL_law 2981 = .ok (.ifCond .ne 15, 3) := zf_at zf_46 22 rfl
theorem dL_law_2984 : decode cL_law 2984 = .ok (.aload_n 3, 1) := zf_at zf_46 23 rfl
theorem dL_law_2985 : decode cL_law 2985 = .ok (.iconst 0, 1) := zf_at zf_46 24 rfl
theorem dL_law_2986 : decode cL_law 2986 = .ok (.laload, 1) := zf_at zf_46 25 rfl
theorem dL_law_2987 : decode cL_law 2987 = .ok (.iload 7, 2) := zf_at zf_46 26 rfl
theorem dL_law_2989 : decode cL_law 2989 = .ok (.i2l, 1) := zf_at zf_46 27 rfl
theorem dL_law_2990 : decode cL_law 2990 = .ok (.lcmp, 1) := zf_at zf_46 28 rfl
theorem dL_law_2991 : decode cL_law 2991 = .ok (.ifCond .eq 5, 3) := zf_at zf_46 29 rfl
theorem dL_law_2996 : decode cL_law 2996 = .ok (.goto 408, 3) := zf_at zf_46 30 rfl
theorem zf_47 : zf_all [(2999, .aload_n 1, 1), (3000, .aload_n 0, 1), (3001, .iload 5, 2), (3003, .iconst 1, 1), (3004, .iadd, 1), (3005, .iaload, 1), (3006, .aload_n 3, 1), (3007, .invokestatic 335, 3), (3010, .istore 6, 2), (3012, .aload_n 2, 1), (3013, .aload_n 0, 1), (3014, .iload 5, 2), (3016, .iconst 1, 1), (3017, .iadd, 1), (3018, .iaload, 1), (3019, .invokevirtual 337, 3), (3022, .istore 7, 2), (3024, .aload_n 2, 1), (3025, .invokevirtual 189, 3), (3028, .iload 6, 2), (3030, .if_icmp .eq 5, 3), (3035, .iload 6, 2), (3037, .ifCond .ne 15, 3), (3040, .aload_n 3, 1), (3041, .iconst 0, 1), (3042, .laload, 1), (3043, .iload 7, 2), (3045, .i2l, 1), (3046, .lcmp, 1), (3047, .ifCond .eq 5, 3), (3052, .goto 352, 3)] = true := by decide +kernel
theorem dL_law_2999 : decode cL_law 2999 = .ok (.aload_n 1, 1) := zf_at zf_47 0 rfl
theorem dL_law_3000 : decode cL_law 3000 = .ok (.aload_n 0, 1) := zf_at zf_47 1 rfl
theorem dL_law_3001 : decode cL_law 3001 = .ok (.iload 5, 2) := zf_at zf_47 2 rfl
theorem dL_law_3003 : decode cL_law 3003 = .ok (.iconst 1, 1) := zf_at zf_47 3 rfl
theorem dL_law_3004 : decode cL_law 3004 = .ok (.iadd, 1) := zf_at zf_47 4 rfl
theorem dL_law_3005 : decode cL_law 3005 = .ok (.iaload, 1) := zf_at zf_47 5 rfl
theorem dL_law_3006 : decode cL_law 3006 = .ok (.aload_n 3, 1) := zf_at zf_47 6 rfl
theorem dL_law_3007 : decode cL_law 3007 = .ok (.invokestatic 335, 3) := zf_at zf_47 7 rfl
theorem dL_law_3010 : decode cL_law 3010 = .ok (.istore 6, 2) := zf_at zf_47 8 rfl
theorem dL_law_3012 : decode cL_law 3012 = .ok (.aload_n 2, 1) := zf_at zf_47 9 rfl
theorem dL_law_3013 : decode cL_law 3013 = .ok (.aload_n 0, 1) := zf_at zf_47 10 rfl
theorem dL_law_3014 : decode cL_law 3014 = .ok (.iload 5, 2) := zf_at zf_47 11 rfl
theorem dL_law_3016 : decode cL_law 3016 = .ok (.iconst 1, 1) := zf_at zf_47 12 rfl
theorem dL_law_3017 : decode cL_law 3017 = .ok (.iadd, 1) := zf_at zf_47 13 rfl
theorem dL_law_3018 : decode cL_law 3018 = .ok (.iaload, 1) := zf_at zf_47 14 rfl
theorem dL_law_3019 : decode cL_law 3019 = .ok (.invokevirtual 337, 3) := zf_at zf_47 15 rfl
theorem dL_law_3022 : decode cL_law 3022 = .ok (.istore 7, 2) := zf_at zf_47 16 rfl
theorem dL_law_3024 : decode cL_law 3024 = .ok (.aload_n 2, 1) := zf_at zf_47 17 rfl
theorem dL_law_3025 : decode cL_law 3025 = .ok (.invokevirtual 189, 3) := zf_at zf_47 18 rfl
theorem dL_law_3028 : decode cL_law 3028 = .ok (.iload 6, 2) := zf_at zf_47 19 rfl
theorem dL_law_3030 : decode cL_law 3030 = .ok (.if_icmp .eq 5, 3) := zf_at zf_47 20 rfl
theorem dL_law_3035 : decode cL_law 3035 = .ok (.iload 6, 2) := zf_at zf_47 21 rfl
theorem dL_law_3037 : decode cL_law 3037 = .ok (.ifCond .ne 15, 3) := zf_at zf_47 22 rfl
theorem dL_law_3040 : decode cL_law 3040 = .ok (.aload_n 3, 1) := zf_at zf_47 23 rfl
theorem dL_law_3041 : decode cL_law 3041 = .ok (.iconst 0, 1) := zf_at zf_47 24 rfl
theorem dL_law_3042 : decode cL_law 3042 = .ok (.laload, 1) := zf_at zf_47 25 rfl
theorem dL_law_3043 : decode cL_law 3043 = .ok (.iload 7, 2) := zf_at zf_47 26 rfl
theorem dL_law_3045 : decode cL_law 3045 = .ok (.i2l, 1) := zf_at zf_47 27 rfl
theorem dL_law_3046 : decode cL_law 3046 = .ok (.lcmp, 1) := zf_at zf_47 28 rfl
theorem dL_law_3047 : decode cL_law 3047 = .ok (.ifCond .eq 5, 3) := zf_at zf_47 29 rfl
theorem dL_law_3052 : decode cL_law 3052 = .ok (.goto 352, 3) := zf_at zf_47 30 rfl
theorem zf_48 : zf_all [(3055, .aload_n 1, 1), (3056, .aload_n 0, 1), (3057, .iload 5, 2), (3059, .iconst 1, 1), (3060, .iadd, 1), (3061, .iaload, 1), (3062, .aload_n 3, 1), (3063, .invokestatic 338, 3), (3066, .istore 6, 2), (3068, .aload_n 2, 1), (3069, .aload_n 0, 1), (3070, .iload 5, 2), (3072, .iconst 1, 1), (3073, .iadd, 1), (3074, .iaload, 1), (3075, .invokevirtual 340, 3), (3078, .istore 7, 2), (3080, .aload_n 2, 1), (3081, .invokevirtual 189, 3), (3084, .iload 6, 2), (3086, .if_icmp .eq 5, 3), (3091, .iload 6, 2), (3093, .ifCond .ne 15, 3), (3096, .aload_n 3, 1), (3097, .iconst 0, 1), (3098, .laload, 1), (3099, .iload 7, 2), (3101, .i2l, 1), (3102, .lcmp, 1), (3103, .ifCond .eq 5, 3), (3108, .goto 296, 3)] = true := by decide +kernel
theorem dL_law_3055 : decode cL_law 3055 = .ok (.aload_n 1, 1) := zf_at zf_48 0 rfl
theorem dL_law_3056 : decode cL_law 3056 = .ok (.aload_n 0, 1) := zf_at zf_48 1 rfl
theorem dL_law_3057 : decode cL_law 3057 = .ok (.iload 5, 2) := zf_at zf_48 2 rfl
theorem dL_law_3059 : decode cL_law 3059 = .ok (.iconst 1, 1) := zf_at zf_48 3 rfl
theorem dL_law_3060 : decode cL_law 3060 = .ok (.iadd, 1) := zf_at zf_48 4 rfl
theorem dL_law_3061 : decode cL_law 3061 = .ok (.iaload, 1) := zf_at zf_48 5 rfl
theorem dL_law_3062 : decode cL_law 3062 = .ok (.aload_n 3, 1) := zf_at zf_48 6 rfl
theorem dL_law_3063 : decode cL_law 3063 = .ok (.invokestatic 338, 3) := zf_at zf_48 7 rfl
theorem dL_law_3066 : decode cL_law 3066 = .ok (.istore 6, 2) := zf_at zf_48 8 rfl
theorem dL_law_3068 : decode cL_law 3068 = .ok (.aload_n 2, 1) := zf_at zf_48 9 rfl
theorem dL_law_3069 : decode cL_law 3069 = .ok (.aload_n 0, 1) := zf_at zf_48 10 rfl
theorem dL_law_3070 : decode cL_law 3070 = .ok (.iload 5, 2) := zf_at zf_48 11 rfl
theorem dL_law_3072 : decode cL_law 3072 = .ok (.iconst 1, 1) := zf_at zf_48 12 rfl
theorem dL_law_3073 : decode cL_law 3073 = .ok (.iadd, 1) := zf_at zf_48 13 rfl
theorem dL_law_3074 : decode cL_law 3074 = .ok (.iaload, 1) := zf_at zf_48 14 rfl
theorem dL_law_3075 : decode cL_law 3075 = .ok (.invokevirtual 340, 3) := zf_at zf_48 15 rfl
theorem dL_law_3078 : decode cL_law 3078 = .ok (.istore 7, 2) := zf_at zf_48 16 rfl
theorem dL_law_3080 : decode cL_law 3080 = .ok (.aload_n 2, 1) := zf_at zf_48 17 rfl
theorem dL_law_3081 : decode cL_law 3081 = .ok (.invokevirtual 189, 3) := zf_at zf_48 18 rfl
theorem dL_law_3084 : decode cL_law 3084 = .ok (.iload 6, 2) := zf_at zf_48 19 rfl
theorem dL_law_3086 : decode cL_law 3086 = .ok (.if_icmp .eq 5, 3) := zf_at zf_48 20 rfl
theorem dL_law_3091 : decode cL_law 3091 = .ok (.iload 6, 2) := zf_at zf_48 21 rfl
theorem dL_law_3093 : decode cL_law 3093 = .ok (.ifCond .ne 15, 3) := zf_at zf_48 22 rfl
theorem dL_law_3096 : decode cL_law 3096 = .ok (.aload_n 3, 1) := zf_at zf_48 23 rfl
theorem dL_law_3097 : decode cL_law 3097 = .ok (.iconst 0, 1) := zf_at zf_48 24 rfl
theorem dL_law_3098 : decode cL_law 3098 = .ok (.laload, 1) := zf_at zf_48 25 rfl
theorem dL_law_3099 : decode cL_law 3099 = .ok (.iload 7, 2) := zf_at zf_48 26 rfl
theorem dL_law_3101 : decode cL_law 3101 = .ok (.i2l, 1) := zf_at zf_48 27 rfl
theorem dL_law_3102 : decode cL_law 3102 = .ok (.lcmp, 1) := zf_at zf_48 28 rfl
theorem dL_law_3103 : decode cL_law 3103 = .ok (.ifCond .eq 5, 3) := zf_at zf_48 29 rfl
theorem dL_law_3108 : decode cL_law 3108 = .ok (.goto 296, 3) := zf_at zf_48 30 rfl
theorem zf_49 : zf_all [(3111, .aload_n 1, 1), (3112, .aload_n 0, 1), (3113, .iload 5, 2), (3115, .iconst 1, 1), (3116, .iadd, 1), (3117, .iaload, 1), (3118, .aload_n 3, 1), (3119, .invokestatic 341, 3), (3122, .istore 6, 2), (3124, .aload_n 2, 1), (3125, .aload_n 0, 1), (3126, .iload 5, 2), (3128, .iconst 1, 1), (3129, .iadd, 1), (3130, .iaload, 1), (3131, .invokevirtual 343, 3), (3134, .istore 7, 2), (3136, .aload_n 2, 1), (3137, .invokevirtual 189, 3), (3140, .iload 6, 2), (3142, .if_icmp .eq 5, 3), (3147, .iload 6, 2), (3149, .ifCond .ne 15, 3), (3152, .aload_n 3, 1), (3153, .iconst 0, 1), (3154, .laload, 1), (3155, .iload 7, 2), (3157, .i2l, 1), (3158, .lcmp, 1), (3159, .ifCond .eq 5, 3), (3164, .goto 240, 3)] = true := by decide +kernel
theorem dL_law_3111 : decode cL_law 3111 = .ok (.aload_n 1, 1) := zf_at zf_49 0 rfl
theorem dL_law_3112 : decode cL_law 3112 = .ok (.aload_n 0, 1) := zf_at zf_49 1 rfl
theorem dL_law_3113 : decode cL_law 3113 = .ok (.iload 5, 2) := zf_at zf_49 2 rfl
theorem dL_law_3115 : decode cL_law 3115 = .ok (.iconst 1, 1) := zf_at zf_49 3 rfl
theorem dL_law_3116 : decode cL_law 3116 = .ok (.iadd, 1) := zf_at zf_49 4 rfl
theorem dL_law_3117 : decode cL_law 3117 = .ok (.iaload, 1) := zf_at zf_49 5 rfl
theorem dL_law_3118 : decode cL_law 3118 = .ok (.aload_n 3, 1) := zf_at zf_49 6 rfl
theorem dL_law_3119 : decode cL_law 3119 = .ok (.invokestatic 341, 3) := zf_at zf_49 7 rfl
theorem dL_law_3122 : decode cL_law 3122 = .ok (.istore 6, 2) := zf_at zf_49 8 rfl
theorem dL_law_3124 : decode cL_law 3124 = .ok (.aload_n 2, 1) := zf_at zf_49 9 rfl
theorem dL_law_3125 : decode cL_law 3125 = .ok (.aload_n 0, 1) := zf_at zf_49 10 rfl
theorem dL_law_3126 : decode cL_law 3126 = .ok (.iload 5, 2) := zf_at zf_49 11 rfl
theorem dL_law_3128 : decode cL_law 3128 = .ok (.iconst 1, 1) := zf_at zf_49 12 rfl
theorem dL_law_3129 : decode cL_law 3129 = .ok (.iadd, 1) := zf_at zf_49 13 rfl
theorem dL_law_3130 : decode cL_law 3130 = .ok (.iaload, 1) := zf_at zf_49 14 rfl
theorem dL_law_3131 : decode cL_law 3131 = .ok (.invokevirtual 343, 3) := zf_at zf_49 15 rfl
theorem dL_law_3134 : decode cL_law 3134 = .ok (.istore 7, 2) := zf_at zf_49 16 rfl
theorem dL_law_3136 : decode cL_law 3136 = .ok (.aload_n 2, 1) := zf_at zf_49 17 rfl
theorem dL_law_3137 : decode cL_law 3137 = .ok (.invokevirtual 189, 3) := zf_at zf_49 18 rfl
theorem dL_law_3140 : decode cL_law 3140 = .ok (.iload 6, 2) := zf_at zf_49 19 rfl
theorem dL_law_3142 : decode cL_law 3142 = .ok (.if_icmp .eq 5, 3) := zf_at zf_49 20 rfl
theorem dL_law_3147 : decode cL_law 3147 = .ok (.iload 6, 2) := zf_at zf_49 21 rfl
theorem dL_law_3149 : decode cL_law 3149 = .ok (.ifCond .ne 15, 3) := zf_at zf_49 22 rfl
theorem dL_law_3152 : decode cL_law 3152 = .ok (.aload_n 3, 1) := zf_at zf_49 23 rfl
theorem dL_law_3153 : decode cL_law 3153 = .ok (.iconst 0, 1) := zf_at zf_49 24 rfl
theorem dL_law_3154 : decode cL_law 3154 = .ok (.laload, 1) := zf_at zf_49 25 rfl
theorem dL_law_3155 : decode cL_law 3155 = .ok (.iload 7, 2) := zf_at zf_49 26 rfl
theorem dL_law_3157 : decode cL_law 3157 = .ok (.i2l, 1) := zf_at zf_49 27 rfl
theorem dL_law_3158 : decode cL_law 3158 = .ok (.lcmp, 1) := zf_at zf_49 28 rfl
theorem dL_law_3159 : decode cL_law 3159 = .ok (.ifCond .eq 5, 3) := zf_at zf_49 29 rfl
theorem dL_law_3164 : decode cL_law 3164 = .ok (.goto 240, 3) := zf_at zf_49 30 rfl
theorem zf_50 : zf_all [(3167, .aload_n 1, 1), (3168, .aload_n 0, 1), (3169, .iload 5, 2), (3171, .iconst 1, 1), (3172, .iadd, 1), (3173, .iaload, 1), (3174, .aload_n 0, 1), (3175, .iload 5, 2), (3177, .iconst 2, 1), (3178, .iadd, 1), (3179, .iaload, 1), (3180, .aload_n 3, 1), (3181, .invokestatic 344, 3), (3184, .istore 6, 2), (3186, .aload_n 2, 1), (3187, .aload_n 0, 1), (3188, .iload 5, 2), (3190, .iconst 1, 1), (3191, .iadd, 1), (3192, .iaload, 1), (3193, .aload_n 0, 1), (3194, .iload 5, 2), (3196, .iconst 2, 1), (3197, .iadd, 1), (3198, .iaload, 1), (3199, .invokevirtual 346, 3), (3202, .istore 7, 2), (3204, .aload_n 2, 1), (3205, .invokevirtual 189, 3), (3208, .iload 6, 2), (3210, .if_icmp .eq 5, 3), (3215, .iload 6, 2), (3217, .ifCond .ne 15, 3), (3220, .aload_n 3, 1), (3221, .iconst 0, 1), (3222, .laload, 1), (3223, .iload 7, 2), (3225, .i2l, 1), (3226, .lcmp, 1), (3227, .ifCond .eq 5, 3), (3232, .goto 172, 3)] = true := by decide +kernel
theorem dL_law_3167 : decode cL_law 3167 = .ok (.aload_n 1, 1) := zf_at zf_50 0 rfl
theorem dL_law_3168 : decode cL_law 3168 = .ok (.aload_n 0, 1) := zf_at zf_50 1 rfl
theorem dL_law_3169 : decode cL_law 3169 = .ok (.iload 5, 2) := zf_at zf_50 2 rfl
theorem dL_law_3171 : decode cL_law 3171 = .ok (.iconst 1, 1) := zf_at zf_50 3 rfl
theorem dL_law_3172 : decode cL_law 3172 = .ok (.iadd, 1) := zf_at zf_50 4 rfl
theorem dL_law_3173 : decode cL_law 3173 = .ok (.iaload, 1) := zf_at zf_50 5 rfl
theorem dL_law_3174 : decode cL_law 3174 = .ok (.aload_n 0, 1) := zf_at zf_50 6 rfl
theorem dL_law_3175 : decode cL_law 3175 = .ok (.iload 5, 2) := zf_at zf_50 7 rfl
theorem dL_law_3177 : decode cL_law 3177 = .ok (.iconst 2, 1) := zf_at zf_50 8 rfl
theorem dL_law_3178 : decode cL_law 3178 = .ok (.iadd, 1) := zf_at zf_50 9 rfl
theorem dL_law_3179 : decode cL_law 3179 = .ok (.iaload, 1) := zf_at zf_50 10 rfl
theorem dL_law_3180 : decode cL_law 3180 = .ok (.aload_n 3, 1) := zf_at zf_50 11 rfl
theorem dL_law_3181 : decode cL_law 3181 = .ok (.invokestatic 344, 3) := zf_at zf_50 12 rfl
theorem dL_law_3184 : decode cL_law 3184 = .ok (.istore 6, 2) := zf_at zf_50 13 rfl
theorem dL_law_3186 : decode cL_law 3186 = .ok (.aload_n 2, 1) := zf_at zf_50 14 rfl
theorem dL_law_3187 : decode cL_law 3187 = .ok (.aload_n 0, 1) := zf_at zf_50 15 rfl
theorem dL_law_3188 : decode cL_law 3188 = .ok (.iload 5, 2) := zf_at zf_50 16 rfl
theorem dL_law_3190 : decode cL_law 3190 = .ok (.iconst 1, 1) := zf_at zf_50 17 rfl
theorem dL_law_3191 : decode cL_law 3191 = .ok (.iadd, 1) := zf_at zf_50 18 rfl
theorem dL_law_3192 : decode cL_law 3192 = .ok (.iaload, 1) := zf_at zf_50 19 rfl
theorem dL_law_3193 : decode cL_law 3193 = .ok (.aload_n 0, 1) := zf_at zf_50 20 rfl
theorem dL_law_3194 : decode cL_law 3194 = .ok (.iload 5, 2) := zf_at zf_50 21 rfl
theorem dL_law_3196 : decode cL_law 3196 = .ok (.iconst 2, 1) := zf_at zf_50 22 rfl
theorem dL_law_3197 : decode cL_law 3197 = .ok (.iadd, 1) := zf_at zf_50 23 rfl
theorem dL_law_3198 : decode cL_law 3198 = .ok (.iaload, 1) := zf_at zf_50 24 rfl
theorem dL_law_3199 : decode cL_law 3199 = .ok (.invokevirtual 346, 3) := zf_at zf_50 25 rfl
theorem dL_law_3202 : decode cL_law 3202 = .ok (.istore 7, 2) := zf_at zf_50 26 rfl
theorem dL_law_3204 : decode cL_law 3204 = .ok (.aload_n 2, 1) := zf_at zf_50 27 rfl
theorem dL_law_3205 : decode cL_law 3205 = .ok (.invokevirtual 189, 3) := zf_at zf_50 28 rfl
theorem dL_law_3208 : decode cL_law 3208 = .ok (.iload 6, 2) := zf_at zf_50 29 rfl
theorem dL_law_3210 : decode cL_law 3210 = .ok (.if_icmp .eq 5, 3) := zf_at zf_50 30 rfl
theorem dL_law_3215 : decode cL_law 3215 = .ok (.iload 6, 2) := zf_at zf_50 31 rfl
theorem dL_law_3217 : decode cL_law 3217 = .ok (.ifCond .ne 15, 3) := zf_at zf_50 32 rfl
theorem dL_law_3220 : decode cL_law 3220 = .ok (.aload_n 3, 1) := zf_at zf_50 33 rfl
theorem dL_law_3221 : decode cL_law 3221 = .ok (.iconst 0, 1) := zf_at zf_50 34 rfl
theorem dL_law_3222 : decode cL_law 3222 = .ok (.laload, 1) := zf_at zf_50 35 rfl
theorem dL_law_3223 : decode cL_law 3223 = .ok (.iload 7, 2) := zf_at zf_50 36 rfl
theorem dL_law_3225 : decode cL_law 3225 = .ok (.i2l, 1) := zf_at zf_50 37 rfl
theorem dL_law_3226 : decode cL_law 3226 = .ok (.lcmp, 1) := zf_at zf_50 38 rfl
theorem dL_law_3227 : decode cL_law 3227 = .ok (.ifCond .eq 5, 3) := zf_at zf_50 39 rfl
theorem dL_law_3232 : decode cL_law 3232 = .ok (.goto 172, 3) := zf_at zf_50 40 rfl
theorem zf_51 : zf_all [(3235, .aload_n 1, 1), (3236, .aload_n 3, 1), (3237, .invokestatic 347, 3), (3240, .istore 6, 2), (3242, .aload_n 2, 1), (3243, .invokevirtual 349, 3), (3246, .istore 7, 2), (3248, .aload_n 2, 1), (3249, .invokevirtual 189, 3), (3252, .iload 6, 2), (3254, .if_icmp .eq 5, 3), (3259, .iload 6, 2), (3261, .ifCond .ne 15, 3), (3264, .aload_n 3, 1), (3265, .iconst 0, 1), (3266, .laload, 1), (3267, .iload 7, 2), (3269, .i2l, 1), (3270, .lcmp, 1), (3271, .ifCond .eq 5, 3), (3276, .goto 128, 3)] = true := by decide +kernel
theorem dL_law_3235 : decode cL_law 3235 = .ok (.aload_n 1, 1) := zf_at zf_51 0 rfl
theorem dL_law_3236 : decode cL_law 3236 = .ok (.aload_n 3, 1) := zf_at zf_51 1 rfl
theorem dL_law_3237 : decode cL_law 3237 = .ok (.invokestatic 347, 3) := zf_at zf_51 2 rfl
theorem dL_law_3240 : decode cL_law 3240 = .ok (.istore 6, 2) := zf_at zf_51 3 rfl
theorem dL_law_3242 : decode cL_law 3242 = .ok (.aload_n 2, 1) := zf_at zf_51 4 rfl
theorem dL_law_3243 : decode cL_law 3243 = .ok (.invokevirtual 349, 3) := zf_at zf_51 5 rfl
theorem dL_law_3246 : decode cL_law 3246 = .ok (.istore 7, 2) := zf_at zf_51 6 rfl
theorem dL_law_3248 : decode cL_law 3248 = .ok (.aload_n 2, 1) := zf_at zf_51 7 rfl
theorem dL_law_3249 : decode cL_law 3249 = .ok (.invokevirtual 189, 3) := zf_at zf_51 8 rfl
theorem dL_law_3252 : decode cL_law 3252 = .ok (.iload 6, 2) := zf_at zf_51 9 rfl
theorem dL_law_3254 : decode cL_law 3254 = .ok (.if_icmp .eq 5, 3) := zf_at zf_51 10 rfl
theorem dL_law_3259 : decode cL_law 3259 = .ok (.iload 6, 2) := zf_at zf_51 11 rfl
theorem dL_law_3261 : decode cL_law 3261 = .ok (.ifCond .ne 15, 3) := zf_at zf_51 12 rfl
theorem dL_law_3264 : decode cL_law 3264 = .ok (.aload_n 3, 1) := zf_at zf_51 13 rfl
theorem dL_law_3265 : decode cL_law 3265 = .ok (.iconst 0, 1) := zf_at zf_51 14 rfl
theorem dL_law_3266 : decode cL_law 3266 = .ok (.laload, 1) := zf_at zf_51 15 rfl
theorem dL_law_3267 : decode cL_law 3267 = .ok (.iload 7, 2) := zf_at zf_51 16 rfl
theorem dL_law_3269 : decode cL_law 3269 = .ok (.i2l, 1) := zf_at zf_51 17 rfl
theorem dL_law_3270 : decode cL_law 3270 = .ok (.lcmp, 1) := zf_at zf_51 18 rfl
theorem dL_law_3271 : decode cL_law 3271 = .ok (.ifCond .eq 5, 3) := zf_at zf_51 19 rfl
theorem dL_law_3276 : decode cL_law 3276 = .ok (.goto 128, 3) := zf_at zf_51 20 rfl
theorem zf_52 : zf_all [(3279, .aload_n 1, 1), (3280, .invokevirtual 350, 3), (3283, .aload_n 2, 1), (3284, .invokevirtual 353, 3), (3287, .if_icmp .eq 117, 3)] = true := by decide +kernel
theorem dL_law_3279 : decode cL_law 3279 = .ok (.aload_n 1, 1) := zf_at zf_52 0 rfl
theorem dL_law_3280 : decode cL_law 3280 = .ok (.invokevirtual 350, 3) := zf_at zf_52 1 rfl
theorem dL_law_3283 : decode cL_law 3283 = .ok (.aload_n 2, 1) := zf_at zf_52 2 rfl
theorem dL_law_3284 : decode cL_law 3284 = .ok (.invokevirtual 353, 3) := zf_at zf_52 3 rfl
theorem dL_law_3287 : decode cL_law 3287 = .ok (.if_icmp .eq 117, 3) := zf_at zf_52 4 rfl
theorem zf_53 : zf_all [(3292, .aload_n 1, 1), (3293, .aload_n 0, 1), (3294, .iload 5, 2), (3296, .iconst 1, 1), (3297, .iadd, 1), (3298, .iaload, 1), (3299, .aload_n 3, 1), (3300, .invokestatic 354, 3), (3303, .istore 6, 2), (3305, .aload_n 2, 1), (3306, .aload_n 0, 1), (3307, .iload 5, 2), (3309, .iconst 1, 1), (3310, .iadd, 1), (3311, .iaload, 1), (3312, .invokevirtual 356, 3), (3315, .istore 7, 2), (3317, .aload_n 2, 1), (3318, .invokevirtual 189, 3), (3321, .iload 6, 2), (3323, .if_icmp .eq 5, 3), (3328, .iload 6, 2), (3330, .ifCond .ne 15, 3), (3333, .aload_n 3, 1), (3334, .iconst 0, 1), (3335, .laload, 1), (3336, .iload 7, 2), (3338, .i2l, 1), (3339, .lcmp, 1), (3340, .ifCond .eq 5, 3), (3345, .goto 59, 3)] = true := by decide +kernel
theorem dL_law_3292 : decode cL_law 3292 = .ok (.aload_n 1, 1) := zf_at zf_53 0 rfl
theorem dL_law_3293 : decode cL_law 3293 = .ok (.aload_n 0, 1) := zf_at zf_53 1 rfl
theorem dL_law_3294 : decode cL_law 3294 = .ok (.iload 5, 2) := zf_at zf_53 2 rfl
theorem dL_law_3296 : decode cL_law 3296 = .ok (.iconst 1, 1) := zf_at zf_53 3 rfl
theorem dL_law_3297 : decode cL_law 3297 = .ok (.iadd, 1) := zf_at zf_53 4 rfl
theorem dL_law_3298 : decode cL_law 3298 = .ok (.iaload, 1) := zf_at zf_53 5 rfl
theorem dL_law_3299 : decode cL_law 3299 = .ok (.aload_n 3, 1) := zf_at zf_53 6 rfl
theorem dL_law_3300 : decode cL_law 3300 = .ok (.invokestatic 354, 3) := zf_at zf_53 7 rfl
theorem dL_law_3303 : decode cL_law 3303 = .ok (.istore 6, 2) := zf_at zf_53 8 rfl
theorem dL_law_3305 : decode cL_law 3305 = .ok (.aload_n 2, 1) := zf_at zf_53 9 rfl
theorem dL_law_3306 : decode cL_law 3306 = .ok (.aload_n 0, 1) := zf_at zf_53 10 rfl
theorem dL_law_3307 : decode cL_law 3307 = .ok (.iload 5, 2) := zf_at zf_53 11 rfl
theorem dL_law_3309 : decode cL_law 3309 = .ok (.iconst 1, 1) := zf_at zf_53 12 rfl
theorem dL_law_3310 : decode cL_law 3310 = .ok (.iadd, 1) := zf_at zf_53 13 rfl
theorem dL_law_3311 : decode cL_law 3311 = .ok (.iaload, 1) := zf_at zf_53 14 rfl
theorem dL_law_3312 : decode cL_law 3312 = .ok (.invokevirtual 356, 3) := zf_at zf_53 15 rfl
theorem dL_law_3315 : decode cL_law 3315 = .ok (.istore 7, 2) := zf_at zf_53 16 rfl
theorem dL_law_3317 : decode cL_law 3317 = .ok (.aload_n 2, 1) := zf_at zf_53 17 rfl
theorem dL_law_3318 : decode cL_law 3318 = .ok (.invokevirtual 189, 3) := zf_at zf_53 18 rfl
theorem dL_law_3321 : decode cL_law 3321 = .ok (.iload 6, 2) := zf_at zf_53 19 rfl
theorem dL_law_3323 : decode cL_law 3323 = .ok (.if_icmp .eq 5, 3) := zf_at zf_53 20 rfl
theorem dL_law_3328 : decode cL_law 3328 = .ok (.iload 6, 2) := zf_at zf_53 21 rfl
theorem dL_law_3330 : decode cL_law 3330 = .ok (.ifCond .ne 15, 3) := zf_at zf_53 22 rfl
theorem dL_law_3333 : decode cL_law 3333 = .ok (.aload_n 3, 1) := zf_at zf_53 23 rfl
theorem dL_law_3334 : decode cL_law 3334 = .ok (.iconst 0, 1) := zf_at zf_53 24 rfl
theorem dL_law_3335 : decode cL_law 3335 = .ok (.laload, 1) := zf_at zf_53 25 rfl
theorem dL_law_3336 : decode cL_law 3336 = .ok (.iload 7, 2) := zf_at zf_53 26 rfl
theorem dL_law_3338 : decode cL_law 3338 = .ok (.i2l, 1) := zf_at zf_53 27 rfl
theorem dL_law_3339 : decode cL_law 3339 = .ok (.lcmp, 1) := zf_at zf_53 28 rfl
theorem dL_law_3340 : decode cL_law 3340 = .ok (.ifCond .eq 5, 3) := zf_at zf_53 29 rfl
theorem dL_law_3345 : decode cL_law 3345 = .ok (.goto 59, 3) := zf_at zf_53 30 rfl
theorem zf_54 : zf_all [(3348, .aload_n 1, 1), (3349, .aload_n 0, 1), (3350, .iload 5, 2), (3352, .iconst 1, 1), (3353, .iadd, 1), (3354, .iaload, 1), (3355, .aload_n 3, 1), (3356, .invokestatic 357, 3), (3359, .istore 6, 2), (3361, .aload_n 2, 1), (3362, .aload_n 0, 1), (3363, .iload 5, 2), (3365, .iconst 1, 1), (3366, .iadd, 1), (3367, .iaload, 1), (3368, .invokevirtual 359, 3), (3371, .istore 7, 2), (3373, .aload_n 2, 1), (3374, .invokevirtual 189, 3), (3377, .iload 6, 2), (3379, .if_icmp .eq 5, 3), (3384, .iload 6, 2), (3386, .ifCond .ne 15, 3), (3389, .aload_n 3, 1), (3390, .iconst 0, 1), (3391, .laload, 1), (3392, .iload 7, 2), (3394, .i2l, 1), (3395, .lcmp, 1), (3396, .ifCond .eq 5, 3), (3401, .goto 3, 3)] = true := by decide +kernel
theorem dL_law_3348 : decode cL_law 3348 = .ok (.aload_n 1, 1) := zf_at zf_54 0 rfl
theorem dL_law_3349 : decode cL_law 3349 = .ok (.aload_n 0, 1) := zf_at zf_54 1 rfl
theorem dL_law_3350 : decode cL_law 3350 = .ok (.iload 5, 2) := zf_at zf_54 2 rfl
theorem dL_law_3352 : decode cL_law 3352 = .ok (.iconst 1, 1) := zf_at zf_54 3 rfl
theorem dL_law_3353 : decode cL_law 3353 = .ok (.iadd, 1) := zf_at zf_54 4 rfl
theorem dL_law_3354 : decode cL_law 3354 = .ok (.iaload, 1) := zf_at zf_54 5 rfl
theorem dL_law_3355 : decode cL_law 3355 = .ok (.aload_n 3, 1) := zf_at zf_54 6 rfl
theorem dL_law_3356 : decode cL_law 3356 = .ok (.invokestatic 357, 3) := zf_at zf_54 7 rfl
theorem dL_law_3359 : decode cL_law 3359 = .ok (.istore 6, 2) := zf_at zf_54 8 rfl
theorem dL_law_3361 : decode cL_law 3361 = .ok (.aload_n 2, 1) := zf_at zf_54 9 rfl
theorem dL_law_3362 : decode cL_law 3362 = .ok (.aload_n 0, 1) := zf_at zf_54 10 rfl
theorem dL_law_3363 : decode cL_law 3363 = .ok (.iload 5, 2) := zf_at zf_54 11 rfl
theorem dL_law_3365 : decode cL_law 3365 = .ok (.iconst 1, 1) := zf_at zf_54 12 rfl
theorem dL_law_3366 : decode cL_law 3366 = .ok (.iadd, 1) := zf_at zf_54 13 rfl
theorem dL_law_3367 : decode cL_law 3367 = .ok (.iaload, 1) := zf_at zf_54 14 rfl
theorem dL_law_3368 : decode cL_law 3368 = .ok (.invokevirtual 359, 3) := zf_at zf_54 15 rfl
theorem dL_law_3371 : decode cL_law 3371 = .ok (.istore 7, 2) := zf_at zf_54 16 rfl
theorem dL_law_3373 : decode cL_law 3373 = .ok (.aload_n 2, 1) := zf_at zf_54 17 rfl
theorem dL_law_3374 : decode cL_law 3374 = .ok (.invokevirtual 189, 3) := zf_at zf_54 18 rfl
theorem dL_law_3377 : decode cL_law 3377 = .ok (.iload 6, 2) := zf_at zf_54 19 rfl
theorem dL_law_3379 : decode cL_law 3379 = .ok (.if_icmp .eq 5, 3) := zf_at zf_54 20 rfl
theorem dL_law_3384 : decode cL_law 3384 = .ok (.iload 6, 2) := zf_at zf_54 21 rfl
theorem dL_law_3386 : decode cL_law 3386 = .ok (.ifCond .ne 15, 3) := zf_at zf_54 22 rfl
theorem dL_law_3389 : decode cL_law 3389 = .ok (.aload_n 3, 1) := zf_at zf_54 23 rfl
theorem dL_law_3390 : decode cL_law 3390 = .ok (.iconst 0, 1) := zf_at zf_54 24 rfl
theorem dL_law_3391 : decode cL_law 3391 = .ok (.laload, 1) := zf_at zf_54 25 rfl
theorem dL_law_3392 : decode cL_law 3392 = .ok (.iload 7, 2) := zf_at zf_54 26 rfl
theorem dL_law_3394 : decode cL_law 3394 = .ok (.i2l, 1) := zf_at zf_54 27 rfl
theorem dL_law_3395 : decode cL_law 3395 = .ok (.lcmp, 1) := zf_at zf_54 28 rfl
theorem dL_law_3396 : decode cL_law 3396 = .ok (.ifCond .eq 5, 3) := zf_at zf_54 29 rfl
theorem dL_law_3401 : decode cL_law 3401 = .ok (.goto 3, 3) := zf_at zf_54 30 rfl
theorem zf_55 : zf_all [(25, .iconst 0, 1), (26, .istore 5, 2), (28, .iload 5, 2), (30, .aload_n 0, 1), (31, .arraylength, 1), (32, .bipush 6, 2), (34, .isub, 1), (35, .if_icmp .gt 3375, 3), (38, .aload_n 0, 1), (39, .iload 5, 2), (41, .iaload, 1), (42, .bipush 63, 2), (44, .iand, 1), (45, .tableswitch 3359 0 54 #[235, 308, 364, 377, 390, 403, 459, 515, 583, 651, 719, 787, 871, 934, 978, 1022, 1066, 1110, 1175, 1241, 1307, 1375, 1443, 1499, 1555, 1623, 1679, 1735, 1810, 1866, 1922, 2006, 2062, 2106, 2150, 2206, 2262, 2306, 2362, 2430, 2498, 2566, 2634, 2718, 2786, 2842, 2898, 2954, 3010, 3066, 3122, 3190, 3234, 3247, 3303], 235), (3404, .iinc 5 6, 3), (3407, .goto (-3379), 3), (3410, .iconst 1, 1), (3411, .ireturn, 1), (0, .new 8, 3), (3, .dup, 1), (4, .invokespecial 174, 3), (7, .astore_n 1, 1), (8, .new 175, 3), (11, .dup, 1), (12, .invokespecial 177, 3), (15, .astore_n 2, 1), (16, .iconst 1, 1), (17, .newarray .long, 2), (19, .astore_n 3, 1), (20, .iconst 1, 1), (21, .newarray .double, 2), (23, .astore 4, 2)] = true := by decide +kernel
theorem dL_law_25 : decode cL_law 25 = .ok (.iconst 0, 1) := zf_at zf_55 0 rfl
theorem dL_law_26 : decode cL_law 26 = .ok (.istore 5, 2) := zf_at zf_55 1 rfl
theorem dL_law_28 : decode cL_law 28 = .ok (.iload 5, 2) := zf_at zf_55 2 rfl
theorem dL_law_30 : decode cL_law 30 = .ok (.aload_n 0, 1) := zf_at zf_55 3 rfl
theorem dL_law_31 : decode cL_law 31 = .ok (.arraylength, 1) := zf_at zf_55 4 rfl
theorem dL_law_32 : decode cL_law 32 = .ok (.bipush 6, 2) := zf_at zf_55 5 rfl
theorem dL_law_34 : decode cL_law 34 = .ok (.isub, 1) := zf_at zf_55 6 rfl
theorem dL_law_35 : decode cL_law 35 = .ok (.if_icmp .gt 3375, 3) := zf_at zf_55 7 rfl
theorem dL_law_38 : decode cL_law 38 = .ok (.aload_n 0, 1) := zf_at zf_55 8 rfl
theorem dL_law_39 : decode cL_law 39 = .ok (.iload 5, 2) := zf_at zf_55 9 rfl
theorem dL_law_41 : decode cL_law 41 = .ok (.iaload, 1) := zf_at zf_55 10 rfl
theorem dL_law_42 : decode cL_law 42 = .ok (.bipush 63, 2) := zf_at zf_55 11 rfl
theorem dL_law_44 : decode cL_law 44 = .ok (.iand, 1) := zf_at zf_55 12 rfl
theorem dL_law_45 : decode cL_law 45 = .ok (.tableswitch 3359 0 54 #[235, 308, 364, 377, 390, 403, 459, 515, 583, 651, 719, 787, 871, 934, 978, 1022, 1066, 1110, 1175, 1241, 1307, 1375, 1443, 1499, 1555, 1623, 1679, 1735, 1810, 1866, 1922, 2006, 2062, 2106, 2150, 2206, 2262, 2306, 2362, 2430, 2498, 2566, 2634, 2718, 2786, 2842, 2898, 2954, 3010, 3066, 3122, 3190, 3234, 3247, 3303], 235) := zf_at zf_55 13 rfl
theorem dL_law_3404 : decode cL_law 3404 = .ok (.iinc 5 6, 3) := zf_at zf_55 14 rfl
theorem dL_law_3407 : decode cL_law 3407 = .ok (.goto (-3379), 3) := zf_at zf_55 15 rfl
theorem dL_law_3410 : decode cL_law 3410 = .ok (.iconst 1, 1) := zf_at zf_55 16 rfl
theorem dL_law_3411 : decode cL_law 3411 = .ok (.ireturn, 1) := zf_at zf_55 17 rfl
theorem dL_law_0 : decode cL_law 0 = .ok (.new 8, 3) := zf_at zf_55 18 rfl
theorem dL_law_3 : decode cL_law 3 = .ok (.dup, 1) := zf_at zf_55 19 rfl
theorem dL_law_4 : decode cL_law 4 = .ok (.invokespecial 174, 3) := zf_at zf_55 20 rfl
theorem dL_law_7 : decode cL_law 7 = .ok (.astore_n 1, 1) := zf_at zf_55 21 rfl
theorem dL_law_8 : decode cL_law 8 = .ok (.new 175, 3) := zf_at zf_55 22 rfl
theorem dL_law_11 : decode cL_law 11 = .ok (.dup, 1) := zf_at zf_55 23 rfl
theorem dL_law_12 : decode cL_law 12 = .ok (.invokespecial 177, 3) := zf_at zf_55 24 rfl
theorem dL_law_15 : decode cL_law 15 = .ok (.astore_n 2, 1) := zf_at zf_55 25 rfl
theorem dL_law_16 : decode cL_law 16 = .ok (.iconst 1, 1) := zf_at zf_55 26 rfl
theorem dL_law_17 : decode cL_law 17 = .ok (.newarray .long, 2) := zf_at zf_55 27 rfl
theorem dL_law_19 : decode cL_law 19 = .ok (.astore_n 3, 1) := zf_at zf_55 28 rfl
theorem dL_law_20 : decode cL_law 20 = .ok (.iconst 1, 1) := zf_at zf_55 29 rfl
theorem dL_law_21 : decode cL_law 21 = .ok (.newarray .double, 2) := zf_at zf_55 30 rfl
theorem dL_law_23 : decode cL_law 23 = .ok (.astore 4, 2) := zf_at zf_55 31 rfl
