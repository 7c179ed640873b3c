theorem zf_29 : zf_all cL_act [(345, .ireturn, 1), (346, .iload_n 3, 1), (347, .iconst 5, 1), (348, .if_icmp .ne 145, 3), (351, .aload_n 1, 1), (352, .getfield 142, 3), (355, .iload 4, 2), (357, .iaload, 1), (358, .ifCond .ne 31, 3), (361, .aload_n 0, 1), (362, .bipush 13, 2), (364, .iconst 2, 1), (365, .newarray .int, 2), (367, .dup, 1), (368, .iconst 0, 1), (369, .iload 4, 2), (371, .iastore, 1), (372, .dup, 1), (373, .iconst 1, 1), (374, .iconst 0, 1), (375, .iastore, 1), (376, .invokestatic 189, 3), (379, .iconst 2, 1), (380, .if_icmp .ne 7, 3), (383, .iconst 1, 1), (384, .goto 4, 3), (387, .iconst 0, 1), (388, .ireturn, 1), (389, .aload_n 2, 1), (390, .iconst 0, 1), (391, .aload_n 1, 1), (392, .getfield 142, 3), (395, .iload 4, 2), (397, .iaload, 1), (398, .iconst 1, 1), (399, .isub, 1), (400, .invokevirtual 205, 3), (403, .istore 5, 2), (405, .aload_n 1, 1), (406, .getfield 163, 3)] = true := by decide +kernel
theorem dL_act_345 : decode cL_act 345 = .ok (.ireturn, 1) := zf_at zf_29 0 rfl
theorem dL_act_346 : decode cL_act 346 = .ok (.iload_n 3, 1) := zf_at zf_29 1 rfl
theorem dL_act_347 : decode cL_act 347 = .ok (.iconst 5, 1) := zf_at zf_29 2 rfl
theorem dL_act_348 : decode cL_act 348 = .ok (.if_icmp .ne 145, 3) := zf_at zf_29 3 rfl
theorem dL_act_351 : decode cL_act 351 = .ok (.aload_n 1, 1) := zf_at zf_29 4 rfl
theorem dL_act_352 : decode cL_act 352 = .ok (.getfield 142, 3) := zf_at zf_29 5 rfl
theorem dL_act_355 : decode cL_act 355 = .ok (.iload 4, 2) := zf_at zf_29 6 rfl
theorem dL_act_357 : decode cL_act 357 = .ok (.iaload, 1) := zf_at zf_29 7 rfl
theorem dL_act_358 : decode cL_act 358 = .ok (.ifCond .ne 31, 3) := zf_at zf_29 8 rfl
theorem dL_act_361 : decode cL_act 361 = .ok (.aload_n 0, 1) := zf_at zf_29 9 rfl
theorem dL_act_362 : decode cL_act 362 = .ok (.bipush 13, 2) := zf_at zf_29 10 rfl
theorem dL_act_364 : decode cL_act 364 = .ok (.iconst 2, 1) := zf_at zf_29 11 rfl
theorem dL_act_365 : decode cL_act 365 = .ok (.newarray .int, 2) := zf_at zf_29 12 rfl
theorem dL_act_367 : decode cL_act 367 = .ok (.dup, 1) := zf_at zf_29 13 rfl
theorem dL_act_368 : decode cL_act 368 = .ok (.iconst 0, 1) := zf_at zf_29 14 rfl
theorem dL_act_369 : decode cL_act 369 = .ok (.iload 4, 2) := zf_at zf_29 15 rfl
theorem dL_act_371 : decode cL_act 371 = .ok (.iastore, 1) := zf_at zf_29 16 rfl
theorem dL_act_372 : decode cL_act 372 = .ok (.dup, 1) := zf_at zf_29 17 rfl
theorem dL_act_373 : decode cL_act 373 = .ok (.iconst 1, 1) := zf_at zf_29 18 rfl
theorem dL_act_374 : decode cL_act 374 = .ok (.iconst 0, 1) := zf_at zf_29 19 rfl
theorem dL_act_375 : decode cL_act 375 = .ok (.iastore, 1) := zf_at zf_29 20 rfl
theorem dL_act_376 : decode cL_act 376 = .ok (.invokestatic 189, 3) := zf_at zf_29 21 rfl
theorem dL_act_379 : decode cL_act 379 = .ok (.iconst 2, 1) := zf_at zf_29 22 rfl
theorem dL_act_380 : decode cL_act 380 = .ok (.if_icmp .ne 7, 3) := zf_at zf_29 23 rfl
theorem dL_act_383 : decode cL_act 383 = .ok (.iconst 1, 1) := zf_at zf_29 24 rfl
theorem dL_act_384 : decode cL_act 384 = .ok (.goto 4, 3) := zf_at zf_29 25 rfl
theorem dL_act_387 : decode cL_act 387 = .ok (.iconst 0, 1) := zf_at zf_29 26 rfl
theorem dL_act_388 : decode cL_act 388 = .ok (.ireturn, 1) := zf_at zf_29 27 rfl
theorem dL_act_389 : decode cL_act 389 = .ok (.aload_n 2, 1) := zf_at zf_29 28 rfl
theorem dL_act_390 : decode cL_act 390 = .ok (.iconst 0, 1) := zf_at zf_29 29 rfl
theorem dL_act_391 : decode cL_act 391 = .ok (.aload_n 1, 1) := zf_at zf_29 30 rfl
theorem dL_act_392 : decode cL_act 392 = .ok (.getfield 142, 3) := zf_at zf_29 31 rfl
theorem dL_act_395 : decode cL_act 395 = .ok (.iload 4, 2) := zf_at zf_29 32 rfl
theorem dL_act_397 : decode cL_act 397 = .ok (.iaload, 1) := zf_at zf_29 33 rfl
theorem dL_act_398 : decode cL_act 398 = .ok (.iconst 1, 1) := zf_at zf_29 34 rfl
theorem dL_act_399 : decode cL_act 399 = .ok (.isub, 1) := zf_at zf_29 35 rfl
theorem dL_act_400 : decode cL_act 400 = .ok (.invokevirtual 205, 3) := zf_at zf_29 36 rfl
theorem dL_act_403 : decode cL_act 403 = .ok (.istore 5, 2) := zf_at zf_29 37 rfl
theorem dL_act_405 : decode cL_act 405 = .ok (.aload_n 1, 1) := zf_at zf_29 38 rfl
theorem dL_act_406 : decode cL_act 406 = .ok (.getfield 163, 3) := zf_at zf_29 39 rfl
theorem zf_30 : zf_all cL_act [(409, .iload 4, 2), (411, .aaload, 1), (412, .iload 5, 2), (414, .iaload, 1), (415, .istore 6, 2), (417, .iload 5, 2), (419, .istore 7, 2), (421, .iload 7, 2), (423, .iconst 1, 1), (424, .iadd, 1), (425, .aload_n 1, 1), (426, .getfield 142, 3), (429, .iload 4, 2), (431, .iaload, 1), (432, .if_icmp .ge 31, 3), (435, .aload_n 1, 1), (436, .getfield 163, 3), (439, .iload 4, 2), (441, .aaload, 1), (442, .iload 7, 2), (444, .aload_n 1, 1), (445, .getfield 163, 3), (448, .iload 4, 2), (450, .aaload, 1), (451, .iload 7, 2), (453, .iconst 1, 1), (454, .iadd, 1), (455, .iaload, 1), (456, .iastore, 1), (457, .iinc 7 1, 3), (460, .goto (-39), 3), (463, .aload_n 1, 1), (464, .getfield 142, 3), (467, .iload 4, 2), (469, .dup2, 1), (470, .iaload, 1), (471, .iconst 1, 1), (472, .isub, 1), (473, .iastore, 1), (474, .aload_n 0, 1)] = true := by decide +kernel
theorem dL_act_409 : decode cL_act 409 = .ok (.iload 4, 2) := zf_at zf_30 0 rfl
theorem dL_act_411 : decode cL_act 411 = .ok (.aaload, 1) := zf_at zf_30 1 rfl
theorem dL_act_412 : decode cL_act 412 = .ok (.iload 5, 2) := zf_at zf_30 2 rfl
theorem dL_act_414 : decode cL_act 414 = .ok (.iaload, 1) := zf_at zf_30 3 rfl
theorem dL_act_415 : decode cL_act 415 = .ok (.istore 6, 2) := zf_at zf_30 4 rfl
theorem dL_act_417 : decode cL_act 417 = .ok (.iload 5, 2) := zf_at zf_30 5 rfl
theorem dL_act_419 : decode cL_act 419 = .ok (.istore 7, 2) := zf_at zf_30 6 rfl
theorem dL_act_421 : decode cL_act 421 = .ok (.iload 7, 2) := zf_at zf_30 7 rfl
theorem dL_act_423 : decode cL_act 423 = .ok (.iconst 1, 1) := zf_at zf_30 8 rfl
theorem dL_act_424 : decode cL_act 424 = .ok (.iadd, 1) := zf_at zf_30 9 rfl
theorem dL_act_425 : decode cL_act 425 = .ok (.aload_n 1, 1) := zf_at zf_30 10 rfl
theorem dL_act_426 : decode cL_act 426 = .ok (.getfield 142, 3) := zf_at zf_30 11 rfl
theorem dL_act_429 : decode cL_act 429 = .ok (.iload 4, 2) := zf_at zf_30 12 rfl
theorem dL_act_431 : decode cL_act 431 = .ok (.iaload, 1) := zf_at zf_30 13 rfl
theorem dL_act_432 : decode cL_act 432 = .ok (.if_icmp .ge 31, 3) := zf_at zf_30 14 rfl
theorem dL_act_435 : decode cL_act 435 = .ok (.aload_n 1, 1) := zf_at zf_30 15 rfl
theorem dL_act_436 : decode cL_act 436 = .ok (.getfield 163, 3) := zf_at zf_30 16 rfl
theorem dL_act_439 : decode cL_act 439 = .ok (.iload 4, 2) := zf_at zf_30 17 rfl
theorem dL_act_441 : decode cL_act 441 = .ok (.aaload, 1) := zf_at zf_30 18 rfl
theorem dL_act_442 : decode cL_act 442 = .ok (.iload 7, 2) := zf_at zf_30 19 rfl
theorem dL_act_444 : decode cL_act 444 = .ok (.aload_n 1, 1) := zf_at zf_30 20 rfl
theorem dL_act_445 : decode cL_act 445 = .ok (.getfield 163, 3) := zf_at zf_30 21 rfl
theorem dL_act_448 : decode cL_act 448 = .ok (.iload 4, 2) := zf_at zf_30 22 rfl
theorem dL_act_450 : decode cL_act 450 = .ok (.aaload, 1) := zf_at zf_30 23 rfl
theorem dL_act_451 : decode cL_act 451 = .ok (.iload 7, 2) := zf_at zf_30 24 rfl
theorem dL_act_453 : decode cL_act 453 = .ok (.iconst 1, 1) := zf_at zf_30 25 rfl
theorem dL_act_454 : decode cL_act 454 = .ok (.iadd, 1) := zf_at zf_30 26 rfl
theorem dL_act_455 : decode cL_act 455 = .ok (.iaload, 1) := zf_at zf_30 27 rfl
theorem dL_act_456 : decode cL_act 456 = .ok (.iastore, 1) := zf_at zf_30 28 rfl
theorem dL_act_457 : decode cL_act 457 = .ok (.iinc 7 1, 3) := zf_at zf_30 29 rfl
theorem dL_act_460 : decode cL_act 460 = .ok (.goto (-39), 3) := zf_at zf_30 30 rfl
theorem dL_act_463 : decode cL_act 463 = .ok (.aload_n 1, 1) := zf_at zf_30 31 rfl
theorem dL_act_464 : decode cL_act 464 = .ok (.getfield 142, 3) := zf_at zf_30 32 rfl
theorem dL_act_467 : decode cL_act 467 = .ok (.iload 4, 2) := zf_at zf_30 33 rfl
theorem dL_act_469 : decode cL_act 469 = .ok (.dup2, 1) := zf_at zf_30 34 rfl
theorem dL_act_470 : decode cL_act 470 = .ok (.iaload, 1) := zf_at zf_30 35 rfl
theorem dL_act_471 : decode cL_act 471 = .ok (.iconst 1, 1) := zf_at zf_30 36 rfl
theorem dL_act_472 : decode cL_act 472 = .ok (.isub, 1) := zf_at zf_30 37 rfl
theorem dL_act_473 : decode cL_act 473 = .ok (.iastore, 1) := zf_at zf_30 38 rfl
theorem dL_act_474 : decode cL_act 474 = .ok (.aload_n 0, 1) := zf_at zf_30 39 rfl
theorem zf_31 : zf_all cL_act [(475, .iload 4, 2), (477, .iload 5, 2), (479, .invokevirtual 73, 3), (482, .iload 6, 2), (484, .if_icmp .ne 7, 3), (487, .iconst 1, 1), (488, .goto 4, 3), (491, .iconst 0, 1), (492, .ireturn, 1), (493, .iload_n 3, 1), (494, .bipush 8, 2), (496, .if_icmp .ge 137, 3), (499, .aload_n 1, 1), (500, .getfield 170, 3), (503, .ifCond .ne 31, 3), (506, .aload_n 0, 1), (507, .bipush 14, 2), (509, .iconst 2, 1), (510, .newarray .int, 2), (512, .dup, 1), (513, .iconst 0, 1), (514, .iload 4, 2), (516, .iastore, 1), (517, .dup, 1), (518, .iconst 1, 1), (519, .iconst 0, 1), (520, .iastore, 1), (521, .invokestatic 189, 3), (524, .iconst 2, 1), (525, .if_icmp .ne 7, 3), (528, .iconst 1, 1), (529, .goto 4, 3), (532, .iconst 0, 1), (533, .ireturn, 1), (534, .aload_n 2, 1), (535, .iconst 0, 1), (536, .aload_n 1, 1), (537, .getfield 170, 3), (540, .iconst 1, 1), (541, .isub, 1)] = true := by decide +kernel
theorem dL_act_475 : decode cL_act 475 = .ok (.iload 4, 2) := zf_at zf_31 0 rfl
theorem dL_act_477 : decode cL_act 477 = .ok (.iload 5, 2) := zf_at zf_31 1 rfl
theorem dL_act_479 : decode cL_act 479 = .ok (.invokevirtual 73, 3) := zf_at zf_31 2 rfl
theorem dL_act_482 : decode cL_act 482 = .ok (.iload 6, 2) := zf_at zf_31 3 rfl
theorem dL_act_484 : decode cL_act 484 = .ok (.if_icmp .ne 7, 3) := zf_at zf_31 4 rfl
theorem dL_act_487 : decode cL_act 487 = .ok (.iconst 1, 1) := zf_at zf_31 5 rfl
theorem dL_act_488 : decode cL_act 488 = .ok (.goto 4, 3) := zf_at zf_31 6 rfl
theorem dL_act_491 : decode cL_act 491 = .ok (.iconst 0, 1) := zf_at zf_31 7 rfl
theorem dL_act_492 : decode cL_act 492 = .ok (.ireturn, 1) := zf_at zf_31 8 rfl
theorem dL_act_493 : decode cL_act 493 = .ok (.iload_n 3, 1) := zf_at zf_31 9 rfl
theorem dL_act_494 : decode cL_act 494 = .ok (.bipush 8, 2) := zf_at zf_31 10 rfl
theorem dL_act_496 : decode cL_act 496 = .ok (.if_icmp .ge 137, 3) := zf_at zf_31 11 rfl
theorem dL_act_499 : decode cL_act 499 = .ok (.aload_n 1, 1) := zf_at zf_31 12 rfl
theorem dL_act_500 : decode cL_act 500 = .ok (.getfield 170, 3) := zf_at zf_31 13 rfl
theorem dL_act_503 : decode cL_act 503 = .ok (.ifCond .ne 31, 3) := zf_at zf_31 14 rfl
theorem dL_act_506 : decode cL_act 506 = .ok (.aload_n 0, 1) := zf_at zf_31 15 rfl
theorem dL_act_507 : decode cL_act 507 = .ok (.bipush 14, 2) := zf_at zf_31 16 rfl
theorem dL_act_509 : decode cL_act 509 = .ok (.iconst 2, 1) := zf_at zf_31 17 rfl
theorem dL_act_510 : decode cL_act 510 = .ok (.newarray .int, 2) := zf_at zf_31 18 rfl
theorem dL_act_512 : decode cL_act 512 = .ok (.dup, 1) := zf_at zf_31 19 rfl
theorem dL_act_513 : decode cL_act 513 = .ok (.iconst 0, 1) := zf_at zf_31 20 rfl
theorem dL_act_514 : decode cL_act 514 = .ok (.iload 4, 2) := zf_at zf_31 21 rfl
theorem dL_act_516 : decode cL_act 516 = .ok (.iastore, 1) := zf_at zf_31 22 rfl
theorem dL_act_517 : decode cL_act 517 = .ok (.dup, 1) := zf_at zf_31 23 rfl
theorem dL_act_518 : decode cL_act 518 = .ok (.iconst 1, 1) := zf_at zf_31 24 rfl
theorem dL_act_519 : decode cL_act 519 = .ok (.iconst 0, 1) := zf_at zf_31 25 rfl
theorem dL_act_520 : decode cL_act 520 = .ok (.iastore, 1) := zf_at zf_31 26 rfl
theorem dL_act_521 : decode cL_act 521 = .ok (.invokestatic 189, 3) := zf_at zf_31 27 rfl
theorem dL_act_524 : decode cL_act 524 = .ok (.iconst 2, 1) := zf_at zf_31 28 rfl
theorem dL_act_525 : decode cL_act 525 = .ok (.if_icmp .ne 7, 3) := zf_at zf_31 29 rfl
theorem dL_act_528 : decode cL_act 528 = .ok (.iconst 1, 1) := zf_at zf_31 30 rfl
theorem dL_act_529 : decode cL_act 529 = .ok (.goto 4, 3) := zf_at zf_31 31 rfl
theorem dL_act_532 : decode cL_act 532 = .ok (.iconst 0, 1) := zf_at zf_31 32 rfl
theorem dL_act_533 : decode cL_act 533 = .ok (.ireturn, 1) := zf_at zf_31 33 rfl
theorem dL_act_534 : decode cL_act 534 = .ok (.aload_n 2, 1) := zf_at zf_31 34 rfl
theorem dL_act_535 : decode cL_act 535 = .ok (.iconst 0, 1) := zf_at zf_31 35 rfl
theorem dL_act_536 : decode cL_act 536 = .ok (.aload_n 1, 1) := zf_at zf_31 36 rfl
theorem dL_act_537 : decode cL_act 537 = .ok (.getfield 170, 3) := zf_at zf_31 37 rfl
theorem dL_act_540 : decode cL_act 540 = .ok (.iconst 1, 1) := zf_at zf_31 38 rfl
theorem dL_act_541 : decode cL_act 541 = .ok (.isub, 1) := zf_at zf_31 39 rfl
theorem zf_32 : zf_all cL_act [(542, .invokevirtual 205, 3), (545, .istore 5, 2), (547, .aload_n 1, 1), (548, .getfield 178, 3), (551, .iload 5, 2), (553, .iaload, 1), (554, .ifCond .eq 19, 3), (557, .aload_n 1, 1), (558, .getfield 181, 3), (561, .iload 5, 2), (563, .iaload, 1), (564, .aload_n 1, 1), (565, .iload 4, 2), (567, .invokevirtual 148, 3), (570, .if_icmp .le 32, 3), (573, .aload_n 0, 1), (574, .bipush 14, 2), (576, .iconst 2, 1), (577, .newarray .int, 2), (579, .dup, 1), (580, .iconst 0, 1), (581, .iload 4, 2), (583, .iastore, 1), (584, .dup, 1), (585, .iconst 1, 1), (586, .iload 5, 2), (588, .iastore, 1), (589, .invokestatic 189, 3), (592, .iconst 3, 1), (593, .if_icmp .ne 7, 3), (596, .iconst 1, 1), (597, .goto 4, 3), (600, .iconst 0, 1), (601, .ireturn, 1), (602, .aload_n 1, 1), (603, .iload 4, 2), (605, .iload 5, 2), (607, .invokevirtual 215, 3), (610, .aload_n 0, 1), (611, .iload 4, 2)] = true := by decide +kernel
theorem dL_act_542 : decode cL_act 542 = .ok (.invokevirtual 205, 3) := zf_at zf_32 0 rfl
theorem dL_act_545 : decode cL_act 545 = .ok (.istore 5, 2) := zf_at zf_32 1 rfl
theorem dL_act_547 : decode cL_act 547 = .ok (.aload_n 1, 1) := zf_at zf_32 2 rfl
theorem dL_act_548 : decode cL_act 548 = .ok (.getfield 178, 3) := zf_at zf_32 3 rfl
theorem dL_act_551 : decode cL_act 551 = .ok (.iload 5, 2) := zf_at zf_32 4 rfl
theorem dL_act_553 : decode cL_act 553 = .ok (.iaload, 1) := zf_at zf_32 5 rfl
theorem dL_act_554 : decode cL_act 554 = .ok (.ifCond .eq 19, 3) := zf_at zf_32 6 rfl
theorem dL_act_557 : decode cL_act 557 = .ok (.aload_n 1, 1) := zf_at zf_32 7 rfl
theorem dL_act_558 : decode cL_act 558 = .ok (.getfield 181, 3) := zf_at zf_32 8 rfl
theorem dL_act_561 : decode cL_act 561 = .ok (.iload 5, 2) := zf_at zf_32 9 rfl
theorem dL_act_563 : decode cL_act 563 = .ok (.iaload, 1) := zf_at zf_32 10 rfl
theorem dL_act_564 : decode cL_act 564 = .ok (.aload_n 1, 1) := zf_at zf_32 11 rfl
theorem dL_act_565 : decode cL_act 565 = .ok (.iload 4, 2) := zf_at zf_32 12 rfl
theorem dL_act_567 : decode cL_act 567 = .ok (.invokevirtual 148, 3) := zf_at zf_32 13 rfl
theorem dL_act_570 : decode cL_act 570 = .ok (.if_icmp .le 32, 3) := zf_at zf_32 14 rfl
theorem dL_act_573 : decode cL_act 573 = .ok (.aload_n 0, 1) := zf_at zf_32 15 rfl
theorem dL_act_574 : decode cL_act 574 = .ok (.bipush 14, 2) := zf_at zf_32 16 rfl
theorem dL_act_576 : decode cL_act 576 = .ok (.iconst 2, 1) := zf_at zf_32 17 rfl
theorem dL_act_577 : decode cL_act 577 = .ok (.newarray .int, 2) := zf_at zf_32 18 rfl
theorem dL_act_579 : decode cL_act 579 = .ok (.dup, 1) := zf_at zf_32 19 rfl
theorem dL_act_580 : decode cL_act 580 = .ok (.iconst 0, 1) := zf_at zf_32 20 rfl
theorem dL_act_581 : decode cL_act 581 = .ok (.iload 4, 2) := zf_at zf_32 21 rfl
theorem dL_act_583 : decode cL_act 583 = .ok (.iastore, 1) := zf_at zf_32 22 rfl
theorem dL_act_584 : decode cL_act 584 = .ok (.dup, 1) := zf_at zf_32 23 rfl
theorem dL_act_585 : decode cL_act 585 = .ok (.iconst 1, 1) := zf_at zf_32 24 rfl
theorem dL_act_586 : decode cL_act 586 = .ok (.iload 5, 2) := zf_at zf_32 25 rfl
theorem dL_act_588 : decode cL_act 588 = .ok (.iastore, 1) := zf_at zf_32 26 rfl
theorem dL_act_589 : decode cL_act 589 = .ok (.invokestatic 189, 3) := zf_at zf_32 27 rfl
theorem dL_act_592 : decode cL_act 592 = .ok (.iconst 3, 1) := zf_at zf_32 28 rfl
theorem dL_act_593 : decode cL_act 593 = .ok (.if_icmp .ne 7, 3) := zf_at zf_32 29 rfl
theorem dL_act_596 : decode cL_act 596 = .ok (.iconst 1, 1) := zf_at zf_32 30 rfl
theorem dL_act_597 : decode cL_act 597 = .ok (.goto 4, 3) := zf_at zf_32 31 rfl
theorem dL_act_600 : decode cL_act 600 = .ok (.iconst 0, 1) := zf_at zf_32 32 rfl
theorem dL_act_601 : decode cL_act 601 = .ok (.ireturn, 1) := zf_at zf_32 33 rfl
theorem dL_act_602 : decode cL_act 602 = .ok (.aload_n 1, 1) := zf_at zf_32 34 rfl
theorem dL_act_603 : decode cL_act 603 = .ok (.iload 4, 2) := zf_at zf_32 35 rfl
theorem dL_act_605 : decode cL_act 605 = .ok (.iload 5, 2) := zf_at zf_32 36 rfl
theorem dL_act_607 : decode cL_act 607 = .ok (.invokevirtual 215, 3) := zf_at zf_32 37 rfl
theorem dL_act_610 : decode cL_act 610 = .ok (.aload_n 0, 1) := zf_at zf_32 38 rfl
theorem dL_act_611 : decode cL_act 611 = .ok (.iload 4, 2) := zf_at zf_32 39 rfl
theorem zf_33 : zf_all cL_act [(613, .iload 5, 2), (615, .invokevirtual 76, 3), (618, .aload_n 1, 1), (619, .iload 4, 2), (621, .invokevirtual 148, 3), (624, .if_icmp .ne 7, 3), (627, .iconst 1, 1), (628, .goto 4, 3), (631, .iconst 0, 1), (632, .ireturn, 1), (633, .iload_n 3, 1), (634, .bipush 8, 2), (636, .if_icmp .ne 156, 3), (639, .aload_n 1, 1), (640, .getfield 145, 3), (643, .iload 4, 2), (645, .iaload, 1), (646, .ifCond .ne 31, 3), (649, .aload_n 0, 1), (650, .bipush 15, 2), (652, .iconst 2, 1), (653, .newarray .int, 2), (655, .dup, 1), (656, .iconst 0, 1), (657, .iload 4, 2), (659, .iastore, 1), (660, .dup, 1), (661, .iconst 1, 1), (662, .iconst 0, 1), (663, .iastore, 1), (664, .invokestatic 189, 3), (667, .iconst 2, 1), (668, .if_icmp .ne 7, 3), (671, .iconst 1, 1), (672, .goto 4, 3), (675, .iconst 0, 1), (676, .ireturn, 1), (677, .aload_n 2, 1), (678, .iconst 0, 1), (679, .aload_n 1, 1)] = true := by decide +kernel
theorem dL_act_613 : decode cL_act 613 = .ok (.iload 5, 2) := zf_at zf_33 0 rfl
theorem dL_act_615 : decode cL_act 615 = .ok (.invokevirtual 76, 3) := zf_at zf_33 1 rfl
theorem dL_act_618 : decode cL_act 618 = .ok (.aload_n 1, 1) := zf_at zf_33 2 rfl
theorem dL_act_619 : decode cL_act 619 = .ok (.iload 4, 2) := zf_at zf_33 3 rfl
theorem dL_act_621 : decode cL_act 621 = .ok (.invokevirtual 148, 3) := zf_at zf_33 4 rfl
theorem dL_act_624 : decode cL_act 624 = .ok (.if_icmp .ne 7, 3) := zf_at zf_33 5 rfl
theorem dL_act_627 : decode cL_act 627 = .ok (.iconst 1, 1) := zf_at zf_33 6 rfl
theorem dL_act_628 : decode cL_act 628 = .ok (.goto 4, 3) := zf_at zf_33 7 rfl
theorem dL_act_631 : decode cL_act 631 = .ok (.iconst 0, 1) := zf_at zf_33 8 rfl
theorem dL_act_632 : decode cL_act 632 = .ok (.ireturn, 1) := zf_at zf_33 9 rfl
theorem dL_act_633 : decode cL_act 633 = .ok (.iload_n 3, 1) := zf_at zf_33 10 rfl
theorem dL_act_634 : decode cL_act 634 = .ok (.bipush 8, 2) := zf_at zf_33 11 rfl
theorem dL_act_636 : decode cL_act 636 = .ok (.if_icmp .ne 156, 3) := zf_at zf_33 12 rfl
theorem dL_act_639 : decode cL_act 639 = .ok (.aload_n 1, 1) := zf_at zf_33 13 rfl
theorem dL_act_640 : decode cL_act 640 = .ok (.getfield 145, 3) := zf_at zf_33 14 rfl
theorem dL_act_643 : decode cL_act 643 = .ok (.iload 4, 2) := zf_at zf_33 15 rfl
theorem dL_act_645 : decode cL_act 645 = .ok (.iaload, 1) := zf_at zf_33 16 rfl
theorem dL_act_646 : decode cL_act 646 = .ok (.ifCond .ne 31, 3) := zf_at zf_33 17 rfl
theorem dL_act_649 : decode cL_act 649 = .ok (.aload_n 0, 1) := zf_at zf_33 18 rfl
theorem dL_act_650 : decode cL_act 650 = .ok (.bipush 15, 2) := zf_at zf_33 19 rfl
theorem dL_act_652 : decode cL_act 652 = .ok (.iconst 2, 1) := zf_at zf_33 20 rfl
theorem dL_act_653 : decode cL_act 653 = .ok (.newarray .int, 2) := zf_at zf_33 21 rfl
theorem dL_act_655 : decode cL_act 655 = .ok (.dup, 1) := zf_at zf_33 22 rfl
theorem dL_act_656 : decode cL_act 656 = .ok (.iconst 0, 1) := zf_at zf_33 23 rfl
theorem dL_act_657 : decode cL_act 657 = .ok (.iload 4, 2) := zf_at zf_33 24 rfl
theorem dL_act_659 : decode cL_act 659 = .ok (.iastore, 1) := zf_at zf_33 25 rfl
theorem dL_act_660 : decode cL_act 660 = .ok (.dup, 1) := zf_at zf_33 26 rfl
theorem dL_act_661 : decode cL_act 661 = .ok (.iconst 1, 1) := zf_at zf_33 27 rfl
theorem dL_act_662 : decode cL_act 662 = .ok (.iconst 0, 1) := zf_at zf_33 28 rfl
theorem dL_act_663 : decode cL_act 663 = .ok (.iastore, 1) := zf_at zf_33 29 rfl
theorem dL_act_664 : decode cL_act 664 = .ok (.invokestatic 189, 3) := zf_at zf_33 30 rfl
theorem dL_act_667 : decode cL_act 667 = .ok (.iconst 2, 1) := zf_at zf_33 31 rfl
theorem dL_act_668 : decode cL_act 668 = .ok (.if_icmp .ne 7, 3) := zf_at zf_33 32 rfl
theorem dL_act_671 : decode cL_act 671 = .ok (.iconst 1, 1) := zf_at zf_33 33 rfl
theorem dL_act_672 : decode cL_act 672 = .ok (.goto 4, 3) := zf_at zf_33 34 rfl
theorem dL_act_675 : decode cL_act 675 = .ok (.iconst 0, 1) := zf_at zf_33 35 rfl
theorem dL_act_676 : decode cL_act 676 = .ok (.ireturn, 1) := zf_at zf_33 36 rfl
theorem dL_act_677 : decode cL_act 677 = .ok (.aload_n 2, 1) := zf_at zf_33 37 rfl
theorem dL_act_678 : decode cL_act 678 = .ok (.iconst 0, 1) := zf_at zf_33 38 rfl
theorem dL_act_679 : decode cL_act 679 = .ok (.aload_n 1, 1) := zf_at zf_33 39 rfl
theorem zf_34 : zf_all cL_act [(680, .getfield 145, 3), (683, .iload 4, 2), (685, .iaload, 1), (686, .iconst 1, 1), (687, .isub, 1), (688, .invokevirtual 205, 3), (691, .istore 5, 2), (693, .aload_n 1, 1), (694, .getfield 167, 3), (697, .iload 4, 2), (699, .aaload, 1), (700, .iload 5, 2), (702, .iaload, 1), (703, .istore 6, 2), (705, .iload 5, 2), (707, .istore 7, 2), (709, .iload 7, 2), (711, .iconst 1, 1), (712, .iadd, 1), (713, .aload_n 1, 1), (714, .getfield 145, 3), (717, .iload 4, 2), (719, .iaload, 1), (720, .if_icmp .ge 31, 3), (723, .aload_n 1, 1), (724, .getfield 167, 3), (727, .iload 4, 2), (729, .aaload, 1), (730, .iload 7, 2), (732, .aload_n 1, 1), (733, .getfield 167, 3), (736, .iload 4, 2), (738, .aaload, 1), (739, .iload 7, 2), (741, .iconst 1, 1), (742, .iadd, 1), (743, .iaload, 1), (744, .iastore, 1), (745, .iinc 7 1, 3), (748, .goto (-39), 3)] = true := by decide +kernel
theorem dL_act_680 : decode cL_act 680 = .ok (.getfield 145, 3) := zf_at zf_34 0 rfl
theorem dL_act_683 : decode cL_act 683 = .ok (.iload 4, 2) := zf_at zf_34 1 rfl
theorem dL_act_685 : decode cL_act 685 = .ok (.iaload, 1) := zf_at zf_34 2 rfl
theorem dL_act_686 : decode cL_act 686 = .ok (.iconst 1, 1) := zf_at zf_34 3 rfl
theorem dL_act_687 : decode cL_act 687 = .ok (.isub, 1) := zf_at zf_34 4 rfl
theorem dL_act_688 : decode cL_act 688 = .ok (.invokevirtual 205, 3) := zf_at zf_34 5 rfl
theorem dL_act_691 : decode cL_act 691 = .ok (.istore 5, 2) := zf_at zf_34 6 rfl
theorem dL_act_693 : decode cL_act 693 = .ok (.aload_n 1, 1) := zf_at zf_34 7 rfl
theorem dL_act_694 : decode cL_act 694 = .ok (.getfield 167, 3) := zf_at zf_34 8 rfl
theorem dL_act_697 : decode cL_act 697 = .ok (.iload 4, 2) := zf_at zf_34 9 rfl
theorem dL_act_699 : decode cL_act 699 = .ok (.aaload, 1) := zf_at zf_34 10 rfl
theorem dL_act_700 : decode cL_act 700 = .ok (.iload 5, 2) := zf_at zf_34 11 rfl
theorem dL_act_702 : decode cL_act 702 = .ok (.iaload, 1) := zf_at zf_34 12 rfl
theorem dL_act_703 : decode cL_act 703 = .ok (.istore 6, 2) := zf_at zf_34 13 rfl
theorem dL_act_705 : decode cL_act 705 = .ok (.iload 5, 2) := zf_at zf_34 14 rfl
theorem dL_act_707 : decode cL_act 707 = .ok (.istore 7, 2) := zf_at zf_34 15 rfl
theorem dL_act_709 : decode cL_act 709 = .ok (.iload 7, 2) := zf_at zf_34 16 rfl
theorem dL_act_711 : decode cL_act 711 = .ok (.iconst 1, 1) := zf_at zf_34 17 rfl
theorem dL_act_712 : decode cL_act 712 = .ok (.iadd, 1) := zf_at zf_34 18 rfl
theorem dL_act_713 : decode cL_act 713 = .ok (.aload_n 1, 1) := zf_at zf_34 19 rfl
theorem dL_act_714 : decode cL_act 714 = .ok (.getfield 145, 3) := zf_at zf_34 20 rfl
theorem dL_act_717 : decode cL_act 717 = .ok (.iload 4, 2) := zf_at zf_34 21 rfl
theorem dL_act_719 : decode cL_act 719 = .ok (.iaload, 1) := zf_at zf_34 22 rfl
theorem dL_act_720 : decode cL_act 720 = .ok (.if_icmp .ge 31, 3) := zf_at zf_34 23 rfl
theorem dL_act_723 : decode cL_act 723 = .ok (.aload_n 1, 1) := zf_at zf_34 24 rfl
theorem dL_act_724 : decode cL_act 724 = .ok (.getfield 167, 3) := zf_at zf_34 25 rfl
theorem dL_act_727 : decode cL_act 727 = .ok (.iload 4, 2) := zf_at zf_34 26 rfl
theorem dL_act_729 : decode cL_act 729 = .ok (.aaload, 1) := zf_at zf_34 27 rfl
theorem dL_act_730 : decode cL_act 730 = .ok (.iload 7, 2) := zf_at zf_34 28 rfl
theorem dL_act_732 : decode cL_act 732 = .ok (.aload_n 1, 1) := zf_at zf_34 29 rfl
theorem dL_act_733 : decode cL_act 733 = .ok (.getfield 167, 3) := zf_at zf_34 30 rfl
theorem dL_act_736 : decode cL_act 736 = .ok (.iload 4, 2) := zf_at zf_34 31 rfl
theorem dL_act_738 : decode cL_act 738 = .ok (.aaload, 1) := zf_at zf_34 32 rfl
theorem dL_act_739 : decode cL_act 739 = .ok (.iload 7, 2) := zf_at zf_34 33 rfl
theorem dL_act_741 : decode cL_act 741 = .ok (.iconst 1, 1) := zf_at zf_34 34 rfl
theorem dL_act_742 : decode cL_act 742 = .ok (.iadd, 1) := zf_at zf_34 35 rfl
theorem dL_act_743 : decode cL_act 743 = .ok (.iaload, 1) := zf_at zf_34 36 rfl
theorem dL_act_744 : decode cL_act 744 = .ok (.iastore, 1) := zf_at zf_34 37 rfl
theorem dL_act_745 : decode cL_act 745 = .ok (.iinc 7 1, 3) := zf_at zf_34 38 rfl
theorem dL_act_748 : decode cL_act 748 = .ok (.goto (-39), 3) := zf_at zf_34 39 rfl
theorem zf_35 : zf_all cL_act [(751, .aload_n 1, 1), (752, .getfield 145, 3), (755, .iload 4, 2), (757, .dup2, 1), (758, .iaload, 1), (759, .iconst 1, 1), (760, .isub, 1), (761, .iastore, 1), (762, .aload_n 1, 1), (763, .getfield 178, 3), (766, .iload 6, 2), (768, .dup2, 1), (769, .iaload, 1), (770, .iconst 1, 1), (771, .iadd, 1), (772, .iastore, 1), (773, .aload_n 0, 1), (774, .iload 4, 2), (776, .iload 5, 2), (778, .invokevirtual 79, 3), (781, .iload 6, 2), (783, .if_icmp .ne 7, 3), (786, .iconst 1, 1), (787, .goto 4, 3), (790, .iconst 0, 1), (791, .ireturn, 1), (792, .iload_n 3, 1), (793, .bipush 9, 2), (795, .if_icmp .ne 170, 3), (798, .aload_n 2, 1), (799, .iconst 0, 1), (800, .iconst 1, 1), (801, .invokevirtual 205, 3), (804, .ifCond .ne 7, 3), (807, .iconst 1, 1), (808, .goto 4, 3), (811, .iconst 0, 1), (812, .istore 5, 2), (814, .iload 5, 2), (816, .aload_n 1, 1)] = true := by decide +kernel
theorem dL_act_751 : decode cL_act 751 = .ok (.aload_n 1, 1) := zf_at zf_35 0 rfl
theorem dL_act_752 : decode cL_act 752 = .ok (.getfield 145, 3) := zf_at zf_35 1 rfl
theorem dL_act_755 : decode cL_act 755 = .ok (.iload 4, 2) := zf_at zf_35 2 rfl
theorem dL_act_757 : decode cL_act 757 = .ok (.dup2, 1) := zf_at zf_35 3 rfl
theorem dL_act_758 : decode cL_act 758 = .ok (.iaload, 1) := zf_at zf_35 4 rfl
theorem dL_act_759 : decode cL_act 759 = .ok (.iconst 1, 1) := zf_at zf_35 5 rfl
theorem dL_act_760 : decode cL_act 760 = .ok (.isub, 1) := zf_at zf_35 6 rfl
theorem dL_act_761 : decode cL_act 761 = .ok (.iastore, 1) := zf_at zf_35 7 rfl
theorem dL_act_762 : decode cL_act 762 = .ok (.aload_n 1, 1) := zf_at zf_35 8 rfl
theorem dL_act_763 : decode cL_act 763 = .ok (.getfield 178, 3) := zf_at zf_35 9 rfl
theorem dL_act_766 : decode cL_act 766 = .ok (.iload 6, 2) := zf_at zf_35 10 rfl
theorem dL_act_768 : decode cL_act 768 = .ok (.dup2, 1) := zf_at zf_35 11 rfl
theorem dL_act_769 : decode cL_act 769 = .ok (.iaload, 1) := zf_at zf_35 12 rfl
theorem dL_act_770 : decode cL_act 770 = .ok (.iconst 1, 1) := zf_at zf_35 13 rfl
theorem dL_act_771 : decode cL_act 771 = .ok (.iadd, 1) := zf_at zf_35 14 rfl
theorem dL_act_772 : decode cL_act 772 = .ok (.iastore, 1) := zf_at zf_35 15 rfl
theorem dL_act_773 : decode cL_act 773 = .ok (.aload_n 0, 1) := zf_at zf_35 16 rfl
theorem dL_act_774 : decode cL_act 774 = .ok (.iload 4, 2) := zf_at zf_35 17 rfl
theorem dL_act_776 : decode cL_act 776 = .ok (.iload 5, 2) := zf_at zf_35 18 rfl
theorem dL_act_778 : decode cL_act 778 = .ok (.invokevirtual 79, 3) := zf_at zf_35 19 rfl
theorem dL_act_781 : decode cL_act 781 = .ok (.iload 6, 2) := zf_at zf_35 20 rfl
theorem dL_act_783 : decode cL_act 783 = .ok (.if_icmp .ne 7, 3) := zf_at zf_35 21 rfl
theorem dL_act_786 : decode cL_act 786 = .ok (.iconst 1, 1) := zf_at zf_35 22 rfl
theorem dL_act_787 : decode cL_act 787 = .ok (.goto 4, 3) := zf_at zf_35 23 rfl
theorem dL_act_790 : decode cL_act 790 = .ok (.iconst 0, 1) := zf_at zf_35 24 rfl
theorem dL_act_791 : decode cL_act 791 = .ok (.ireturn, 1) := zf_at zf_35 25 rfl
theorem dL_act_792 : decode cL_act 792 = .ok (.iload_n 3, 1) := zf_at zf_35 26 rfl
theorem dL_act_793 : decode cL_act 793 = .ok (.bipush 9, 2) := zf_at zf_35 27 rfl
theorem dL_act_795 : decode cL_act 795 = .ok (.if_icmp .ne 170, 3) := zf_at zf_35 28 rfl
theorem dL_act_798 : decode cL_act 798 = .ok (.aload_n 2, 1) := zf_at zf_35 29 rfl
theorem dL_act_799 : decode cL_act 799 = .ok (.iconst 0, 1) := zf_at zf_35 30 rfl
theorem dL_act_800 : decode cL_act 800 = .ok (.iconst 1, 1) := zf_at zf_35 31 rfl
theorem dL_act_801 : decode cL_act 801 = .ok (.invokevirtual 205, 3) := zf_at zf_35 32 rfl
theorem dL_act_804 : decode cL_act 804 = .ok (.ifCond .ne 7, 3) := zf_at zf_35 33 rfl
theorem dL_act_807 : decode cL_act 807 = .ok (.iconst 1, 1) := zf_at zf_35 34 rfl
theorem dL_act_808 : decode cL_act 808 = .ok (.goto 4, 3) := zf_at zf_35 35 rfl
theorem dL_act_811 : decode cL_act 811 = .ok (.iconst 0, 1) := zf_at zf_35 36 rfl
theorem dL_act_812 : decode cL_act 812 = .ok (.istore 5, 2) := zf_at zf_35 37 rfl
theorem dL_act_814 : decode cL_act 814 = .ok (.iload 5, 2) := zf_at zf_35 38 rfl
theorem dL_act_816 : decode cL_act 816 = .ok (.aload_n 1, 1) := zf_at zf_35 39 rfl
theorem zf_36 : zf_all cL_act [(817, .getfield 140, 3), (820, .iload 4, 2), (822, .iaload, 1), (823, .ifCond .lt 7, 3), (826, .iconst 1, 1), (827, .goto 4, 3), (830, .iconst 0, 1), (831, .if_icmp .eq 30, 3), (834, .iload 5, 2), (836, .ifCond .eq 62, 3), (839, .aload_n 1, 1), (840, .getfield 197, 3), (843, .ifCond .eq 18, 3), (846, .aload_n 1, 1), (847, .iload 4, 2), (849, .invokevirtual 148, 3), (852, .aload_n 1, 1), (853, .getfield 134, 3), (856, .iconst 2, 1), (857, .iaload, 1), (858, .if_icmp .ge 40, 3), (861, .aload_n 0, 1), (862, .bipush 16, 2), (864, .iconst 2, 1), (865, .newarray .int, 2), (867, .dup, 1), (868, .iconst 0, 1), (869, .iload 4, 2), (871, .iastore, 1), (872, .dup, 1), (873, .iconst 1, 1), (874, .iload 5, 2), (876, .ifCond .eq 7, 3), (879, .iconst 1, 1), (880, .goto 4, 3), (883, .iconst 0, 1), (884, .iastore, 1), (885, .invokestatic 189, 3), (888, .iconst 3, 1), (889, .if_icmp .ne 7, 3)] = true := by decide +kernel
theorem dL_act_817 : decode cL_act 817 = .ok (.getfield 140, 3) := zf_at zf_36 0 rfl
theorem dL_act_820 : decode cL_act 820 = .ok (.iload 4, 2) := zf_at zf_36 1 rfl
theorem dL_act_822 : decode cL_act 822 = .ok (.iaload, 1) := zf_at zf_36 2 rfl
theorem dL_act_823 : decode cL_act 823 = .ok (.ifCond .lt 7, 3) := zf_at zf_36 3 rfl
theorem dL_act_826 : decode cL_act 826 = .ok (.iconst 1, 1) := zf_at zf_36 4 rfl
theorem dL_act_827 : decode cL_act 827 = .ok (.goto 4, 3) := zf_at zf_36 5 rfl
theorem dL_act_830 : decode cL_act 830 = .ok (.iconst 0, 1) := zf_at zf_36 6 rfl
theorem dL_act_831 : decode cL_act 831 = .ok (.if_icmp .eq 30, 3) := zf_at zf_36 7 rfl
theorem dL_act_834 : decode cL_act 834 = .ok (.iload 5, 2) := zf_at zf_36 8 rfl
theorem dL_act_836 : decode cL_act 836 = .ok (.ifCond .eq 62, 3) := zf_at zf_36 9 rfl
theorem dL_act_839 : decode cL_act 839 = .ok (.aload_n 1, 1) := zf_at zf_36 10 rfl
theorem dL_act_840 : decode cL_act 840 = .ok (.getfield 197, 3) := zf_at zf_36 11 rfl
theorem dL_act_843 : decode cL_act 843 = .ok (.ifCond .eq 18, 3) := zf_at zf_36 12 rfl
theorem dL_act_846 : decode cL_act 846 = .ok (.aload_n 1, 1) := zf_at zf_36 13 rfl
theorem dL_act_847 : decode cL_act 847 = .ok (.iload 4, 2) := zf_at zf_36 14 rfl
theorem dL_act_849 : decode cL_act 849 = .ok (.invokevirtual 148, 3) := zf_at zf_36 15 rfl
theorem dL_act_852 : decode cL_act 852 = .ok (.aload_n 1, 1) := zf_at zf_36 16 rfl
theorem dL_act_853 : decode cL_act 853 = .ok (.getfield 134, 3) := zf_at zf_36 17 rfl
theorem dL_act_856 : decode cL_act 856 = .ok (.iconst 2, 1) := zf_at zf_36 18 rfl
theorem dL_act_857 : decode cL_act 857 = .ok (.iaload, 1) := zf_at zf_36 19 rfl
theorem dL_act_858 : decode cL_act 858 = .ok (.if_icmp .ge 40, 3) := zf_at zf_36 20 rfl
theorem dL_act_861 : decode cL_act 861 = .ok (.aload_n 0, 1) := zf_at zf_36 21 rfl
theorem dL_act_862 : decode cL_act 862 = .ok (.bipush 16, 2) := zf_at zf_36 22 rfl
theorem dL_act_864 : decode cL_act 864 = .ok (.iconst 2, 1) := zf_at zf_36 23 rfl
theorem dL_act_865 : decode cL_act 865 = .ok (.newarray .int, 2) := zf_at zf_36 24 rfl
theorem dL_act_867 : decode cL_act 867 = .ok (.dup, 1) := zf_at zf_36 25 rfl
theorem dL_act_868 : decode cL_act 868 = .ok (.iconst 0, 1) := zf_at zf_36 26 rfl
theorem dL_act_869 : decode cL_act 869 = .ok (.iload 4, 2) := zf_at zf_36 27 rfl
theorem dL_act_871 : decode cL_act 871 = .ok (.iastore, 1) := zf_at zf_36 28 rfl
theorem dL_act_872 : decode cL_act 872 = .ok (.dup, 1) := zf_at zf_36 29 rfl
theorem dL_act_873 : decode cL_act 873 = .ok (.iconst 1, 1) := zf_at zf_36 30 rfl
theorem dL_act_874 : decode cL_act 874 = .ok (.iload 5, 2) := zf_at zf_36 31 rfl
theorem dL_act_876 : decode cL_act 876 = .ok (.ifCond .eq 7, 3) := zf_at zf_36 32 rfl
theorem dL_act_879 : decode cL_act 879 = .ok (.iconst 1, 1) := zf_at zf_36 33 rfl
theorem dL_act_880 : decode cL_act 880 = .ok (.goto 4, 3) := zf_at zf_36 34 rfl
theorem dL_act_883 : decode cL_act 883 = .ok (.iconst 0, 1) := zf_at zf_36 35 rfl
theorem dL_act_884 : decode cL_act 884 = .ok (.iastore, 1) := zf_at zf_36 36 rfl
theorem dL_act_885 : decode cL_act 885 = .ok (.invokestatic 189, 3) := zf_at zf_36 37 rfl
theorem dL_act_888 : decode cL_act 888 = .ok (.iconst 3, 1) := zf_at zf_36 38 rfl
theorem dL_act_889 : decode cL_act 889 = .ok (.if_icmp .ne 7, 3) := zf_at zf_36 39 rfl
theorem zf_37 : zf_all cL_act [(892, .iconst 1, 1), (893, .goto 4, 3), (896, .iconst 0, 1), (897, .ireturn, 1), (898, .aload_n 1, 1), (899, .dup, 1), (900, .getfield 197, 3), (903, .iload 5, 2), (905, .ifCond .eq 7, 3), (908, .iconst (-1), 1), (909, .goto 4, 3), (912, .iconst 1, 1), (913, .iadd, 1), (914, .putfield 197, 3), (917, .aload_n 1, 1), (918, .getfield 140, 3), (921, .iload 4, 2), (923, .iload 5, 2), (925, .ifCond .eq 7, 3), (928, .iconst 0, 1), (929, .goto 4, 3), (932, .iconst (-1), 1), (933, .iastore, 1), (934, .aload_n 1, 1), (935, .getfield 160, 3), (938, .iload 4, 2), (940, .iconst 0, 1), (941, .iastore, 1), (942, .aload_n 0, 1), (943, .iload 4, 2), (945, .iload 5, 2), (947, .invokevirtual 82, 3), (950, .aload_n 1, 1), (951, .iload 4, 2), (953, .invokevirtual 148, 3), (956, .if_icmp .ne 7, 3), (959, .iconst 1, 1), (960, .goto 4, 3), (963, .iconst 0, 1), (964, .ireturn, 1)] = true := by decide +kernel
theorem dL_act_892 : decode cL_act 892 = .ok (.iconst 1, 1) := zf_at zf_37 0 rfl
theorem dL_act_893 : decode cL_act 893 = .ok (.goto 4, 3) := zf_at zf_37 1 rfl
theorem dL_act_896 : decode cL_act 896 = .ok (.iconst 0, 1) := zf_at zf_37 2 rfl
theorem dL_act_897 : decode cL_act 897 = .ok (.ireturn, 1) := zf_at zf_37 3 rfl
theorem dL_act_898 : decode cL_act 898 = .ok (.aload_n 1, 1) := zf_at zf_37 4 rfl
theorem dL_act_899 : decode cL_act 899 = .ok (.dup, 1) := zf_at zf_37 5 rfl
theorem dL_act_900 : decode cL_act 900 = .ok (.getfield 197, 3) := zf_at zf_37 6 rfl
theorem dL_act_903 : decode cL_act 903 = .ok (.iload 5, 2) := zf_at zf_37 7 rfl
theorem dL_act_905 : decode cL_act 905 = .ok (.ifCond .eq 7, 3) := zf_at zf_37 8 rfl
theorem dL_act_908 : decode cL_act 908 = .ok (.iconst (-1), 1) := zf_at zf_37 9 rfl
theorem dL_act_909 : decode cL_act 909 = .ok (.goto 4, 3) := zf_at zf_37 10 rfl
theorem dL_act_912 : decode cL_act 912 = .ok (.iconst 1, 1) := zf_at zf_37 11 rfl
theorem dL_act_913 : decode cL_act 913 = .ok (.iadd, 1) := zf_at zf_37 12 rfl
theorem dL_act_914 : decode cL_act 914 = .ok (.putfield 197, 3) := zf_at zf_37 13 rfl
theorem dL_act_917 : decode cL_act 917 = .ok (.aload_n 1, 1) := zf_at zf_37 14 rfl
theorem dL_act_918 : decode cL_act 918 = .ok (.getfield 140, 3) := zf_at zf_37 15 rfl
theorem dL_act_921 : decode cL_act 921 = .ok (.iload 4, 2) := zf_at zf_37 16 rfl
theorem dL_act_923 : decode cL_act 923 = .ok (.iload 5, 2) := zf_at zf_37 17 rfl
theorem dL_act_925 : decode cL_act 925 = .ok (.ifCond .eq 7, 3) := zf_at zf_37 18 rfl
theorem dL_act_928 : decode cL_act 928 = .ok (.iconst 0, 1) := zf_at zf_37 19 rfl
theorem dL_act_929 : decode cL_act 929 = .ok (.goto 4, 3) := zf_at zf_37 20 rfl
theorem dL_act_932 : decode cL_act 932 = .ok (.iconst (-1), 1) := zf_at zf_37 21 rfl
theorem dL_act_933 : decode cL_act 933 = .ok (.iastore, 1) := zf_at zf_37 22 rfl
theorem dL_act_934 : decode cL_act 934 = .ok (.aload_n 1, 1) := zf_at zf_37 23 rfl
theorem dL_act_935 : decode cL_act 935 = .ok (.getfield 160, 3) := zf_at zf_37 24 rfl
theorem dL_act_938 : decode cL_act 938 = .ok (.iload 4, 2) := zf_at zf_37 25 rfl
theorem dL_act_940 : decode cL_act 940 = .ok (.iconst 0, 1) := zf_at zf_37 26 rfl
theorem dL_act_941 : decode cL_act 941 = .ok (.iastore, 1) := zf_at zf_37 27 rfl
theorem dL_act_942 : decode cL_act 942 = .ok (.aload_n 0, 1) := zf_at zf_37 28 rfl
theorem dL_act_943 : decode cL_act 943 = .ok (.iload 4, 2) := zf_at zf_37 29 rfl
theorem dL_act_945 : decode cL_act 945 = .ok (.iload 5, 2) := zf_at zf_37 30 rfl
theorem dL_act_947 : decode cL_act 947 = .ok (.invokevirtual 82, 3) := zf_at zf_37 31 rfl
theorem dL_act_950 : decode cL_act 950 = .ok (.aload_n 1, 1) := zf_at zf_37 32 rfl
theorem dL_act_951 : decode cL_act 951 = .ok (.iload 4, 2) := zf_at zf_37 33 rfl
theorem dL_act_953 : decode cL_act 953 = .ok (.invokevirtual 148, 3) := zf_at zf_37 34 rfl
theorem dL_act_956 : decode cL_act 956 = .ok (.if_icmp .ne 7, 3) := zf_at zf_37 35 rfl
theorem dL_act_959 : decode cL_act 959 = .ok (.iconst 1, 1) := zf_at zf_37 36 rfl
theorem dL_act_960 : decode cL_act 960 = .ok (.goto 4, 3) := zf_at zf_37 37 rfl
theorem dL_act_963 : decode cL_act 963 = .ok (.iconst 0, 1) := zf_at zf_37 38 rfl
theorem dL_act_964 : decode cL_act 964 = .ok (.ireturn, 1) := zf_at zf_37 39 rfl
theorem zf_38 : zf_all cL_act [(965, .iload_n 3, 1), (966, .bipush 10, 2), (968, .if_icmp .ne 142, 3), (971, .aload_n 2, 1), (972, .iconst 0, 1), (973, .aload_n 1, 1), (974, .getfield 134, 3), (977, .iconst 3, 1), (978, .iaload, 1), (979, .invokevirtual 205, 3), (982, .istore 5, 2), (984, .aload_n 1, 1), (985, .getfield 140, 3), (988, .iload 4, 2), (990, .iaload, 1), (991, .ifCond .lt 21, 3), (994, .aload_n 1, 1), (995, .iload 4, 2), (997, .invokevirtual 219, 3), (1000, .aload_n 1, 1), (1001, .getfield 134, 3), (1004, .iconst 2, 1), (1005, .iaload, 1), (1006, .iload 5, 2), (1008, .iadd, 1), (1009, .if_icmp .ge 32, 3), (1012, .aload_n 0, 1), (1013, .bipush 17, 2), (1015, .iconst 2, 1), (1016, .newarray .int, 2), (1018, .dup, 1), (1019, .iconst 0, 1), (1020, .iload 4, 2), (1022, .iastore, 1), (1023, .dup, 1), (1024, .iconst 1, 1), (1025, .iload 5, 2), (1027, .iastore, 1), (1028, .invokestatic 189, 3), (1031, .iconst 3, 1)] = true := by decide +kernel
theorem dL_act_965 : decode cL_act 965 = .ok (.iload_n 3, 1) := zf_at zf_38 0 rfl
theorem dL_act_966 : decode cL_act 966 = .ok (.bipush 10, 2) := zf_at zf_38 1 rfl
theorem dL_act_968 : decode cL_act 968 = .ok (.if_icmp .ne 142, 3) := zf_at zf_38 2 rfl
theorem dL_act_971 : decode cL_act 971 = .ok (.aload_n 2, 1) := zf_at zf_38 3 rfl
theorem dL_act_972 : decode cL_act 972 = .ok (.iconst 0, 1) := zf_at zf_38 4 rfl
theorem dL_act_973 : decode cL_act 973 = .ok (.aload_n 1, 1) := zf_at zf_38 5 rfl
theorem dL_act_974 : decode cL_act 974 = .ok (.getfield 134, 3) := zf_at zf_38 6 rfl
theorem dL_act_977 : decode cL_act 977 = .ok (.iconst 3, 1) := zf_at zf_38 7 rfl
theorem dL_act_978 : decode cL_act 978 = .ok (.iaload, 1) := zf_at zf_38 8 rfl
theorem dL_act_979 : decode cL_act 979 = .ok (.invokevirtual 205, 3) := zf_at zf_38 9 rfl
theorem dL_act_982 : decode cL_act 982 = .ok (.istore 5, 2) := zf_at zf_38 10 rfl
theorem dL_act_984 : decode cL_act 984 = .ok (.aload_n 1, 1) := zf_at zf_38 11 rfl
theorem dL_act_985 : decode cL_act 985 = .ok (.getfield 140, 3) := zf_at zf_38 12 rfl
theorem dL_act_988 : decode cL_act 988 = .ok (.iload 4, 2) := zf_at zf_38 13 rfl
theorem dL_act_990 : decode cL_act 990 = .ok (.iaload, 1) := zf_at zf_38 14 rfl
theorem dL_act_991 : decode cL_act 991 = .ok (.ifCond .lt 21, 3) := zf_at zf_38 15 rfl
theorem dL_act_994 : decode cL_act 994 = .ok (.aload_n 1, 1) := zf_at zf_38 16 rfl
theorem dL_act_995 : decode cL_act 995 = .ok (.iload 4, 2) := zf_at zf_38 17 rfl
theorem dL_act_997 : decode cL_act 997 = .ok (.invokevirtual 219, 3) := zf_at zf_38 18 rfl
theorem dL_act_1000 : decode cL_act 1000 = .ok (.aload_n 1, 1) := zf_at zf_38 19 rfl
theorem dL_act_1001 : decode cL_act 1001 = .ok (.getfield 134, 3) := zf_at zf_38 20 rfl
theorem dL_act_1004 : decode cL_act 1004 = .ok (.iconst 2, 1) := zf_at zf_38 21 rfl
theorem dL_act_1005 : decode cL_act 1005 = .ok (.iaload, 1) := zf_at zf_38 22 rfl
theorem dL_act_1006 : decode cL_act 1006 = .ok (.iload 5, 2) := zf_at zf_38 23 rfl
theorem dL_act_1008 : decode cL_act 1008 = .ok (.iadd, 1) := zf_at zf_38 24 rfl
theorem dL_act_1009 : decode cL_act 1009 = .ok (.if_icmp .ge 32, 3) := zf_at zf_38 25 rfl
theorem dL_act_1012 : decode cL_act 1012 = .ok (.aload_n 0, 1) := zf_at zf_38 26 rfl
theorem dL_act_1013 : decode cL_act 1013 = .ok (.bipush 17, 2) := zf_at zf_38 27 rfl
theorem dL_act_1015 : decode cL_act 1015 = .ok (.iconst 2, 1) := zf_at zf_38 28 rfl
theorem dL_act_1016 : decode cL_act 1016 = .ok (.newarray .int, 2) := zf_at zf_38 29 rfl
theorem dL_act_1018 : decode cL_act 1018 = .ok (.dup, 1) := zf_at zf_38 30 rfl
theorem dL_act_1019 : decode cL_act 1019 = .ok (.iconst 0, 1) := zf_at zf_38 31 rfl
theorem dL_act_1020 : decode cL_act 1020 = .ok (.iload 4, 2) := zf_at zf_38 32 rfl
theorem dL_act_1022 : decode cL_act 1022 = .ok (.iastore, 1) := zf_at zf_38 33 rfl
theorem dL_act_1023 : decode cL_act 1023 = .ok (.dup, 1) := zf_at zf_38 34 rfl
theorem dL_act_1024 : decode cL_act 1024 = .ok (.iconst 1, 1) := zf_at zf_38 35 rfl
theorem dL_act_1025 : decode cL_act 1025 = .ok (.iload 5, 2) := zf_at zf_38 36 rfl
theorem dL_act_1027 : decode cL_act 1027 = .ok (.iastore, 1) := zf_at zf_38 37 rfl
theorem dL_act_1028 : decode cL_act 1028 = .ok (.invokestatic 189, 3) := zf_at zf_38 38 rfl
theorem dL_act_1031 : decode cL_act 1031 = .ok (.iconst 3, 1) := zf_at zf_38 39 rfl
theorem zf_39 : zf_all cL_act [(1032, .if_icmp .ne 7, 3), (1035, .iconst 1, 1), (1036, .goto 4, 3), (1039, .iconst 0, 1), (1040, .ireturn, 1), (1041, .aload_n 1, 1), (1042, .getfield 140, 3), (1045, .iload 4, 2), (1047, .iload 5, 2), (1049, .iastore, 1), (1050, .aload_n 1, 1), (1051, .getfield 160, 3), (1054, .iload 4, 2), (1056, .iconst 0, 1), (1057, .iastore, 1), (1058, .aload_n 0, 1), (1059, .iload 4, 2), (1061, .iload 5, 2), (1063, .invokevirtual 86, 3), (1066, .aload_n 1, 1), (1067, .iload 4, 2), (1069, .invokevirtual 148, 3), (1072, .if_icmp .ne 36, 3), (1075, .aload_n 0, 1), (1076, .bipush 17, 2), (1078, .iconst 2, 1), (1079, .newarray .int, 2), (1081, .dup, 1), (1082, .iconst 0, 1), (1083, .iload 4, 2), (1085, .iastore, 1), (1086, .dup, 1), (1087, .iconst 1, 1), (1088, .aload_n 1, 1), (1089, .getfield 134, 3), (1092, .iconst 3, 1), (1093, .iaload, 1), (1094, .iconst 1, 1), (1095, .iadd, 1), (1096, .iastore, 1)] = true := by decide +kernel
theorem dL_act_1032 : decode cL_act 1032 = .ok (.if_icmp .ne 7, 3) := zf_at zf_39 0 rfl
theorem dL_act_1035 : decode cL_act 1035 = .ok (.iconst 1, 1) := zf_at zf_39 1 rfl
theorem dL_act_1036 : decode cL_act 1036 = .ok (.goto 4, 3) := zf_at zf_39 2 rfl
theorem dL_act_1039 : decode cL_act 1039 = .ok (.iconst 0, 1) := zf_at zf_39 3 rfl
theorem dL_act_1040 : decode cL_act 1040 = .ok (.ireturn, 1) := zf_at zf_39 4 rfl
theorem dL_act_1041 : decode cL_act 1041 = .ok (.aload_n 1, 1) := zf_at zf_39 5 rfl
theorem dL_act_1042 : decode cL_act 1042 = .ok (.getfield 140, 3) := zf_at zf_39 6 rfl
theorem dL_act_1045 : decode cL_act 1045 = .ok (.iload 4, 2) := zf_at zf_39 7 rfl
theorem dL_act_1047 : decode cL_act 1047 = .ok (.iload 5, 2) := zf_at zf_39 8 rfl
theorem dL_act_1049 : decode cL_act 1049 = .ok (.iastore, 1) := zf_at zf_39 9 rfl
theorem dL_act_1050 : decode cL_act 1050 = .ok (.aload_n 1, 1) := zf_at zf_39 10 rfl
theorem dL_act_1051 : decode cL_act 1051 = .ok (.getfield 160, 3) := zf_at zf_39 11 rfl
theorem dL_act_1054 : decode cL_act 1054 = .ok (.iload 4, 2) := zf_at zf_39 12 rfl
theorem dL_act_1056 : decode cL_act 1056 = .ok (.iconst 0, 1) := zf_at zf_39 13 rfl
theorem dL_act_1057 : decode cL_act 1057 = .ok (.iastore, 1) := zf_at zf_39 14 rfl
theorem dL_act_1058 : decode cL_act 1058 = .ok (.aload_n 0, 1) := zf_at zf_39 15 rfl
theorem dL_act_1059 : decode cL_act 1059 = .ok (.iload 4, 2) := zf_at zf_39 16 rfl
theorem dL_act_1061 : decode cL_act 1061 = .ok (.iload 5, 2) := zf_at zf_39 17 rfl
theorem dL_act_1063 : decode cL_act 1063 = .ok (.invokevirtual 86, 3) := zf_at zf_39 18 rfl
theorem dL_act_1066 : decode cL_act 1066 = .ok (.aload_n 1, 1) := zf_at zf_39 19 rfl
theorem dL_act_1067 : decode cL_act 1067 = .ok (.iload 4, 2) := zf_at zf_39 20 rfl
theorem dL_act_1069 : decode cL_act 1069 = .ok (.invokevirtual 148, 3) := zf_at zf_39 21 rfl
theorem dL_act_1072 : decode cL_act 1072 = .ok (.if_icmp .ne 36, 3) := zf_at zf_39 22 rfl
theorem dL_act_1075 : decode cL_act 1075 = .ok (.aload_n 0, 1) := zf_at zf_39 23 rfl
theorem dL_act_1076 : decode cL_act 1076 = .ok (.bipush 17, 2) := zf_at zf_39 24 rfl
theorem dL_act_1078 : decode cL_act 1078 = .ok (.iconst 2, 1) := zf_at zf_39 25 rfl
theorem dL_act_1079 : decode cL_act 1079 = .ok (.newarray .int, 2) := zf_at zf_39 26 rfl
theorem dL_act_1081 : decode cL_act 1081 = .ok (.dup, 1) := zf_at zf_39 27 rfl
theorem dL_act_1082 : decode cL_act 1082 = .ok (.iconst 0, 1) := zf_at zf_39 28 rfl
theorem dL_act_1083 : decode cL_act 1083 = .ok (.iload 4, 2) := zf_at zf_39 29 rfl
theorem dL_act_1085 : decode cL_act 1085 = .ok (.iastore, 1) := zf_at zf_39 30 rfl
theorem dL_act_1086 : decode cL_act 1086 = .ok (.dup, 1) := zf_at zf_39 31 rfl
theorem dL_act_1087 : decode cL_act 1087 = .ok (.iconst 1, 1) := zf_at zf_39 32 rfl
theorem dL_act_1088 : decode cL_act 1088 = .ok (.aload_n 1, 1) := zf_at zf_39 33 rfl
theorem dL_act_1089 : decode cL_act 1089 = .ok (.getfield 134, 3) := zf_at zf_39 34 rfl
theorem dL_act_1092 : decode cL_act 1092 = .ok (.iconst 3, 1) := zf_at zf_39 35 rfl
theorem dL_act_1093 : decode cL_act 1093 = .ok (.iaload, 1) := zf_at zf_39 36 rfl
theorem dL_act_1094 : decode cL_act 1094 = .ok (.iconst 1, 1) := zf_at zf_39 37 rfl
theorem dL_act_1095 : decode cL_act 1095 = .ok (.iadd, 1) := zf_at zf_39 38 rfl
theorem dL_act_1096 : decode cL_act 1096 = .ok (.iastore, 1) := zf_at zf_39 39 rfl
theorem zf_40 : zf_all cL_act [(1097, .invokestatic 189, 3), (1100, .iconst 3, 1), (1101, .if_icmp .ne 7, 3), (1104, .iconst 1, 1), (1105, .goto 4, 3), (1108, .iconst 0, 1), (1109, .ireturn, 1), (1110, .iload_n 3, 1), (1111, .bipush 13, 2), (1113, .if_icmp .ge 72, 3), (1116, .aload_n 1, 1), (1117, .getfield 145, 3), (1120, .iload 4, 2), (1122, .iaload, 1), (1123, .istore 5, 2), (1125, .aload_n 1, 1), (1126, .iload 4, 2), (1128, .invokevirtual 222, 3), (1131, .ifCond .eq 30, 3), (1134, .aload_n 0, 1), (1135, .iload 4, 2), (1137, .invokevirtual 89, 3), (1140, .aload_n 1, 1), (1141, .getfield 145, 3), (1144, .iload 4, 2), (1146, .iaload, 1), (1147, .iload 5, 2), (1149, .isub, 1), (1150, .if_icmp .ne 7, 3), (1153, .iconst 1, 1), (1154, .goto 30, 3), (1157, .iconst 0, 1), (1158, .goto 26, 3), (1161, .aload_n 0, 1), (1162, .bipush 18, 2), (1164, .iconst 1, 1), (1165, .newarray .int, 2), (1167, .dup, 1), (1168, .iconst 0, 1), (1169, .iload 4, 2)] = true := by decide +kernel
theorem dL_act_1097 : decode cL_act 1097 = .ok (.invokestatic 189, 3) := zf_at zf_40 0 rfl
theorem dL_act_1100 : decode cL_act 1100 = .ok (.iconst 3, 1) := zf_at zf_40 1 rfl
theorem dL_act_1101 : decode cL_act 1101 = .ok (.if_icmp .ne 7, 3) := zf_at zf_40 2 rfl
theorem dL_act_1104 : decode cL_act 1104 = .ok (.iconst 1, 1) := zf_at zf_40 3 rfl
theorem dL_act_1105 : decode cL_act 1105 = .ok (.goto 4, 3) := zf_at zf_40 4 rfl
theorem dL_act_1108 : decode cL_act 1108 = .ok (.iconst 0, 1) := zf_at zf_40 5 rfl
theorem dL_act_1109 : decode cL_act 1109 = .ok (.ireturn, 1) := zf_at zf_40 6 rfl
theorem dL_act_1110 : decode cL_act 1110 = .ok (.iload_n 3, 1) := zf_at zf_40 7 rfl
theorem dL_act_1111 : decode cL_act 1111 = .ok (.bipush 13, 2) := zf_at zf_40 8 rfl
theorem dL_act_1113 : decode cL_act 1113 = .ok (.if_icmp .ge 72, 3) := zf_at zf_40 9 rfl
theorem dL_act_1116 : decode cL_act 1116 = .ok (.aload_n 1, 1) := zf_at zf_40 10 rfl
theorem dL_act_1117 : decode cL_act 1117 = .ok (.getfield 145, 3) := zf_at zf_40 11 rfl
theorem dL_act_1120 : decode cL_act 1120 = .ok (.iload 4, 2) := zf_at zf_40 12 rfl
theorem dL_act_1122 : decode cL_act 1122 = .ok (.iaload, 1) := zf_at zf_40 13 rfl
theorem dL_act_1123 : decode cL_act 1123 = .ok (.istore 5, 2) := zf_at zf_40 14 rfl
theorem dL_act_1125 : decode cL_act 1125 = .ok (.aload_n 1, 1) := zf_at zf_40 15 rfl
theorem dL_act_1126 : decode cL_act 1126 = .ok (.iload 4, 2) := zf_at zf_40 16 rfl
theorem dL_act_1128 : decode cL_act 1128 = .ok (.invokevirtual 222, 3) := zf_at zf_40 17 rfl
theorem dL_act_1131 : decode cL_act 1131 = .ok (.ifCond .eq 30, 3) := zf_at zf_40 18 rfl
theorem dL_act_1134 : decode cL_act 1134 = .ok (.aload_n 0, 1) := zf_at zf_40 19 rfl
theorem dL_act_1135 : decode cL_act 1135 = .ok (.iload 4, 2) := zf_at zf_40 20 rfl
theorem dL_act_1137 : decode cL_act 1137 = .ok (.invokevirtual 89, 3) := zf_at zf_40 21 rfl
theorem dL_act_1140 : decode cL_act 1140 = .ok (.aload_n 1, 1) := zf_at zf_40 22 rfl
theorem dL_act_1141 : decode cL_act 1141 = .ok (.getfield 145, 3) := zf_at zf_40 23 rfl
theorem dL_act_1144 : decode cL_act 1144 = .ok (.iload 4, 2) := zf_at zf_40 24 rfl
theorem dL_act_1146 : decode cL_act 1146 = .ok (.iaload, 1) := zf_at zf_40 25 rfl
theorem dL_act_1147 : decode cL_act 1147 = .ok (.iload 5, 2) := zf_at zf_40 26 rfl
theorem dL_act_1149 : decode cL_act 1149 = .ok (.isub, 1) := zf_at zf_40 27 rfl
theorem dL_act_1150 : decode cL_act 1150 = .ok (.if_icmp .ne 7, 3) := zf_at zf_40 28 rfl
theorem dL_act_1153 : decode cL_act 1153 = .ok (.iconst 1, 1) := zf_at zf_40 29 rfl
theorem dL_act_1154 : decode cL_act 1154 = .ok (.goto 30, 3) := zf_at zf_40 30 rfl
theorem dL_act_1157 : decode cL_act 1157 = .ok (.iconst 0, 1) := zf_at zf_40 31 rfl
theorem dL_act_1158 : decode cL_act 1158 = .ok (.goto 26, 3) := zf_at zf_40 32 rfl
theorem dL_act_1161 : decode cL_act 1161 = .ok (.aload_n 0, 1) := zf_at zf_40 33 rfl
theorem dL_act_1162 : decode cL_act 1162 = .ok (.bipush 18, 2) := zf_at zf_40 34 rfl
theorem dL_act_1164 : decode cL_act 1164 = .ok (.iconst 1, 1) := zf_at zf_40 35 rfl
theorem dL_act_1165 : decode cL_act 1165 = .ok (.newarray .int, 2) := zf_at zf_40 36 rfl
theorem dL_act_1167 : decode cL_act 1167 = .ok (.dup, 1) := zf_at zf_40 37 rfl
theorem dL_act_1168 : decode cL_act 1168 = .ok (.iconst 0, 1) := zf_at zf_40 38 rfl
theorem dL_act_1169 : decode cL_act 1169 = .ok (.iload 4, 2) := zf_at zf_40 39 rfl
theorem zf_41 : zf_all cL_act [(1171, .iastore, 1), (1172, .invokestatic 189, 3), (1175, .iconst 3, 1), (1176, .if_icmp .ne 7, 3), (1179, .iconst 1, 1), (1180, .goto 4, 3), (1183, .iconst 0, 1), (1184, .ireturn, 1), (1185, .iload_n 3, 1), (1186, .bipush 13, 2), (1188, .if_icmp .ne 24, 3), (1191, .aload_n 0, 1), (1192, .iload 4, 2), (1194, .invokevirtual 224, 3), (1197, .aload_n 1, 1), (1198, .iload 4, 2), (1200, .invokevirtual 227, 3), (1203, .if_icmp .ne 7, 3), (1206, .iconst 1, 1), (1207, .goto 4, 3), (1210, .iconst 0, 1), (1211, .ireturn, 1), (1212, .iload_n 3, 1), (1213, .bipush 14, 2), (1215, .if_icmp .ne 95, 3), (1218, .new 135, 3), (1221, .dup, 1), (1222, .aload_n 1, 1), (1223, .invokespecial 228, 3), (1226, .astore 5, 2), (1228, .aload 5, 2), (1230, .iload 4, 2), (1232, .invokevirtual 227, 3), (1235, .istore 6, 2), (1237, .aload 5, 2), (1239, .iload 4, 2), (1241, .invokevirtual 222, 3), (1244, .ifCond .ne 27, 3), (1247, .aload_n 0, 1), (1248, .bipush 19, 2)] = true := by decide +kernel
theorem dL_act_1171 : decode cL_act 1171 = .ok (.iastore, 1) := zf_at zf_41 0 rfl
theorem dL_act_1172 : decode cL_act 1172 = .ok (.invokestatic 189, 3) := zf_at zf_41 1 rfl
theorem dL_act_1175 : decode cL_act 1175 = .ok (.iconst 3, 1) := zf_at zf_41 2 rfl
theorem dL_act_1176 : decode cL_act 1176 = .ok (.if_icmp .ne 7, 3) := zf_at zf_41 3 rfl
theorem dL_act_1179 : decode cL_act 1179 = .ok (.iconst 1, 1) := zf_at zf_41 4 rfl
theorem dL_act_1180 : decode cL_act 1180 = .ok (.goto 4, 3) := zf_at zf_41 5 rfl
theorem dL_act_1183 : decode cL_act 1183 = .ok (.iconst 0, 1) := zf_at zf_41 6 rfl
theorem dL_act_1184 : decode cL_act 1184 = .ok (.ireturn, 1) := zf_at zf_41 7 rfl
theorem dL_act_1185 : decode cL_act 1185 = .ok (.iload_n 3, 1) := zf_at zf_41 8 rfl
theorem dL_act_1186 : decode cL_act 1186 = .ok (.bipush 13, 2) := zf_at zf_41 9 rfl
theorem dL_act_1188 : decode cL_act 1188 = .ok (.if_icmp .ne 24, 3) := zf_at zf_41 10 rfl
theorem dL_act_1191 : decode cL_act 1191 = .ok (.aload_n 0, 1) := zf_at zf_41 11 rfl
theorem dL_act_1192 : decode cL_act 1192 = .ok (.iload 4, 2) := zf_at zf_41 12 rfl
theorem dL_act_1194 : decode cL_act 1194 = .ok (.invokevirtual 224, 3) := zf_at zf_41 13 rfl
theorem dL_act_1197 : decode cL_act 1197 = .ok (.aload_n 1, 1) := zf_at zf_41 14 rfl
theorem dL_act_1198 : decode cL_act 1198 = .ok (.iload 4, 2) := zf_at zf_41 15 rfl
theorem dL_act_1200 : decode cL_act 1200 = .ok (.invokevirtual 227, 3) := zf_at zf_41 16 rfl
theorem dL_act_1203 : decode cL_act 1203 = .ok (.if_icmp .ne 7, 3) := zf_at zf_41 17 rfl
theorem dL_act_1206 : decode cL_act 1206 = .ok (.iconst 1, 1) := zf_at zf_41 18 rfl
theorem dL_act_1207 : decode cL_act 1207 = .ok (.goto 4, 3) := zf_at zf_41 19 rfl
theorem dL_act_1210 : decode cL_act 1210 = .ok (.iconst 0, 1) := zf_at zf_41 20 rfl
theorem dL_act_1211 : decode cL_act 1211 = .ok (.ireturn, 1) := zf_at zf_41 21 rfl
theorem dL_act_1212 : decode cL_act 1212 = .ok (.iload_n 3, 1) := zf_at zf_41 22 rfl
theorem dL_act_1213 : decode cL_act 1213 = .ok (.bipush 14, 2) := zf_at zf_41 23 rfl
theorem dL_act_1215 : decode cL_act 1215 = .ok (.if_icmp .ne 95, 3) := zf_at zf_41 24 rfl
theorem dL_act_1218 : decode cL_act 1218 = .ok (.new 135, 3) := zf_at zf_41 25 rfl
theorem dL_act_1221 : decode cL_act 1221 = .ok (.dup, 1) := zf_at zf_41 26 rfl
theorem dL_act_1222 : decode cL_act 1222 = .ok (.aload_n 1, 1) := zf_at zf_41 27 rfl
theorem dL_act_1223 : decode cL_act 1223 = .ok (.invokespecial 228, 3) := zf_at zf_41 28 rfl
theorem dL_act_1226 : decode cL_act 1226 = .ok (.astore 5, 2) := zf_at zf_41 29 rfl
theorem dL_act_1228 : decode cL_act 1228 = .ok (.aload 5, 2) := zf_at zf_41 30 rfl
theorem dL_act_1230 : decode cL_act 1230 = .ok (.iload 4, 2) := zf_at zf_41 31 rfl
theorem dL_act_1232 : decode cL_act 1232 = .ok (.invokevirtual 227, 3) := zf_at zf_41 32 rfl
theorem dL_act_1235 : decode cL_act 1235 = .ok (.istore 6, 2) := zf_at zf_41 33 rfl
theorem dL_act_1237 : decode cL_act 1237 = .ok (.aload 5, 2) := zf_at zf_41 34 rfl
theorem dL_act_1239 : decode cL_act 1239 = .ok (.iload 4, 2) := zf_at zf_41 35 rfl
theorem dL_act_1241 : decode cL_act 1241 = .ok (.invokevirtual 222, 3) := zf_at zf_41 36 rfl
theorem dL_act_1244 : decode cL_act 1244 = .ok (.ifCond .ne 27, 3) := zf_at zf_41 37 rfl
theorem dL_act_1247 : decode cL_act 1247 = .ok (.aload_n 0, 1) := zf_at zf_41 38 rfl
theorem dL_act_1248 : decode cL_act 1248 = .ok (.bipush 19, 2) := zf_at zf_41 39 rfl
theorem zf_42 : zf_all cL_act [(1250, .iconst 1, 1), (1251, .newarray .int, 2), (1253, .dup, 1), (1254, .iconst 0, 1), (1255, .iload 4, 2), (1257, .iastore, 1), (1258, .invokestatic 189, 3), (1261, .iconst 3, 1), (1262, .if_icmp .ne 7, 3), (1265, .iconst 1, 1), (1266, .goto 4, 3), (1269, .iconst 0, 1), (1270, .ireturn, 1), (1271, .aload_n 1, 1), (1272, .iload 4, 2), (1274, .invokevirtual 227, 3), (1277, .istore 6, 2), (1279, .aload_n 1, 1), (1280, .iload 4, 2), (1282, .invokevirtual 222, 3), (1285, .ifCond .eq 23, 3), (1288, .aload_n 0, 1), (1289, .iload 4, 2), (1291, .invokevirtual 92, 3), (1294, .aload_n 1, 1), (1295, .getfield 145, 3), (1298, .iload 4, 2), (1300, .iaload, 1), (1301, .if_icmp .ne 7, 3), (1304, .iconst 1, 1), (1305, .goto 4, 3), (1308, .iconst 0, 1), (1309, .ireturn, 1), (1310, .iload_n 3, 1), (1311, .bipush 15, 2), (1313, .if_icmp .ne 131, 3), (1316, .aload_n 1, 1), (1317, .getfield 140, 3), (1320, .iload 4, 2), (1322, .iaload, 1)] = true := by decide +kernel
theorem dL_act_1250 : decode cL_act 1250 = .ok (.iconst 1, 1) := zf_at zf_42 0 rfl
theorem dL_act_1251 : decode cL_act 1251 = .ok (.newarray .int, 2) := zf_at zf_42 1 rfl
theorem dL_act_1253 : decode cL_act 1253 = .ok (.dup, 1) := zf_at zf_42 2 rfl
theorem dL_act_1254 : decode cL_act 1254 = .ok (.iconst 0, 1) := zf_at zf_42 3 rfl
theorem dL_act_1255 : decode cL_act 1255 = .ok (.iload 4, 2) := zf_at zf_42 4 rfl
theorem dL_act_1257 : decode cL_act 1257 = .ok (.iastore, 1) := zf_at zf_42 5 rfl
theorem dL_act_1258 : decode cL_act 1258 = .ok (.invokestatic 189, 3) := zf_at zf_42 6 rfl
theorem dL_act_1261 : decode cL_act 1261 = .ok (.iconst 3, 1) := zf_at zf_42 7 rfl
theorem dL_act_1262 : decode cL_act 1262 = .ok (.if_icmp .ne 7, 3) := zf_at zf_42 8 rfl
theorem dL_act_1265 : decode cL_act 1265 = .ok (.iconst 1, 1) := zf_at zf_42 9 rfl
theorem dL_act_1266 : decode cL_act 1266 = .ok (.goto 4, 3) := zf_at zf_42 10 rfl
theorem dL_act_1269 : decode cL_act 1269 = .ok (.iconst 0, 1) := zf_at zf_42 11 rfl
theorem dL_act_1270 : decode cL_act 1270 = .ok (.ireturn, 1) := zf_at zf_42 12 rfl
theorem dL_act_1271 : decode cL_act 1271 = .ok (.aload_n 1, 1) := zf_at zf_42 13 rfl
theorem dL_act_1272 : decode cL_act 1272 = .ok (.iload 4, 2) := zf_at zf_42 14 rfl
theorem dL_act_1274 : decode cL_act 1274 = .ok (.invokevirtual 227, 3) := zf_at zf_42 15 rfl
theorem dL_act_1277 : decode cL_act 1277 = .ok (.istore 6, 2) := zf_at zf_42 16 rfl
theorem dL_act_1279 : decode cL_act 1279 = .ok (.aload_n 1, 1) := zf_at zf_42 17 rfl
theorem dL_act_1280 : decode cL_act 1280 = .ok (.iload 4, 2) := zf_at zf_42 18 rfl
theorem dL_act_1282 : decode cL_act 1282 = .ok (.invokevirtual 222, 3) := zf_at zf_42 19 rfl
theorem dL_act_1285 : decode cL_act 1285 = .ok (.ifCond .eq 23, 3) := zf_at zf_42 20 rfl
theorem dL_act_1288 : decode cL_act 1288 = .ok (.aload_n 0, 1) := zf_at zf_42 21 rfl
theorem dL_act_1289 : decode cL_act 1289 = .ok (.iload 4, 2) := zf_at zf_42 22 rfl
theorem dL_act_1291 : decode cL_act 1291 = .ok (.invokevirtual 92, 3) := zf_at zf_42 23 rfl
theorem dL_act_1294 : decode cL_act 1294 = .ok (.aload_n 1, 1) := zf_at zf_42 24 rfl
theorem dL_act_1295 : decode cL_act 1295 = .ok (.getfield 145, 3) := zf_at zf_42 25 rfl
theorem dL_act_1298 : decode cL_act 1298 = .ok (.iload 4, 2) := zf_at zf_42 26 rfl
theorem dL_act_1300 : decode cL_act 1300 = .ok (.iaload, 1) := zf_at zf_42 27 rfl
theorem dL_act_1301 : decode cL_act 1301 = .ok (.if_icmp .ne 7, 3) := zf_at zf_42 28 rfl
theorem dL_act_1304 : decode cL_act 1304 = .ok (.iconst 1, 1) := zf_at zf_42 29 rfl
theorem dL_act_1305 : decode cL_act 1305 = .ok (.goto 4, 3) := zf_at zf_42 30 rfl
theorem dL_act_1308 : decode cL_act 1308 = .ok (.iconst 0, 1) := zf_at zf_42 31 rfl
theorem dL_act_1309 : decode cL_act 1309 = .ok (.ireturn, 1) := zf_at zf_42 32 rfl
theorem dL_act_1310 : decode cL_act 1310 = .ok (.iload_n 3, 1) := zf_at zf_42 33 rfl
theorem dL_act_1311 : decode cL_act 1311 = .ok (.bipush 15, 2) := zf_at zf_42 34 rfl
theorem dL_act_1313 : decode cL_act 1313 = .ok (.if_icmp .ne 131, 3) := zf_at zf_42 35 rfl
theorem dL_act_1316 : decode cL_act 1316 = .ok (.aload_n 1, 1) := zf_at zf_42 36 rfl
theorem dL_act_1317 : decode cL_act 1317 = .ok (.getfield 140, 3) := zf_at zf_42 37 rfl
theorem dL_act_1320 : decode cL_act 1320 = .ok (.iload 4, 2) := zf_at zf_42 38 rfl
theorem dL_act_1322 : decode cL_act 1322 = .ok (.iaload, 1) := zf_at zf_42 39 rfl
theorem zf_43 : zf_all cL_act [(1323, .ifCond .ge 27, 3), (1326, .aload_n 0, 1), (1327, .bipush 20, 2), (1329, .iconst 1, 1), (1330, .newarray .int, 2), (1332, .dup, 1), (1333, .iconst 0, 1), (1334, .iload 4, 2), (1336, .iastore, 1), (1337, .invokestatic 189, 3), (1340, .iconst 3, 1), (1341, .if_icmp .ne 7, 3), (1344, .iconst 1, 1), (1345, .goto 4, 3), (1348, .iconst 0, 1), (1349, .ireturn, 1), (1350, .aload_n 1, 1), (1351, .getfield 140, 3), (1354, .iload 4, 2), (1356, .iaload, 1), (1357, .aload_n 1, 1), (1358, .getfield 134, 3), (1361, .iconst 3, 1), (1362, .iaload, 1), (1363, .if_icmp .ge 59, 3), (1366, .aload_n 1, 1), (1367, .getfield 151, 3), (1370, .iload 4, 2), (1372, .iaload, 1), (1373, .ifCond .le 49, 3), (1376, .aload_n 1, 1), (1377, .getfield 140, 3), (1380, .iload 4, 2), (1382, .dup2, 1), (1383, .iaload, 1), (1384, .iconst 1, 1), (1385, .iadd, 1), (1386, .iastore, 1), (1387, .aload_n 1, 1), (1388, .getfield 160, 3)] = true := by decide +kernel
theorem dL_act_1323 : decode cL_act 1323 = .ok (.ifCond .ge 27, 3) := zf_at zf_43 0 rfl
theorem dL_act_1326 : decode cL_act 1326 = .ok (.aload_n 0, 1) := zf_at zf_43 1 rfl
theorem dL_act_1327 : decode cL_act 1327 = .ok (.bipush 20, 2) := zf_at zf_43 2 rfl
theorem dL_act_1329 : decode cL_act 1329 = .ok (.iconst 1, 1) := zf_at zf_43 3 rfl
theorem dL_act_1330 : decode cL_act 1330 = .ok (.newarray .int, 2) := zf_at zf_43 4 rfl
theorem dL_act_1332 : decode cL_act 1332 = .ok (.dup, 1) := zf_at zf_43 5 rfl
theorem dL_act_1333 : decode cL_act 1333 = .ok (.iconst 0, 1) := zf_at zf_43 6 rfl
theorem dL_act_1334 : decode cL_act 1334 = .ok (.iload 4, 2) := zf_at zf_43 7 rfl
theorem dL_act_1336 : decode cL_act 1336 = .ok (.iastore, 1) := zf_at zf_43 8 rfl
theorem dL_act_1337 : decode cL_act 1337 = .ok (.invokestatic 189, 3) := zf_at zf_43 9 rfl
theorem dL_act_1340 : decode cL_act 1340 = .ok (.iconst 3, 1) := zf_at zf_43 10 rfl
theorem dL_act_1341 : decode cL_act 1341 = .ok (.if_icmp .ne 7, 3) := zf_at zf_43 11 rfl
theorem dL_act_1344 : decode cL_act 1344 = .ok (.iconst 1, 1) := zf_at zf_43 12 rfl
theorem dL_act_1345 : decode cL_act 1345 = .ok (.goto 4, 3) := zf_at zf_43 13 rfl
theorem dL_act_1348 : decode cL_act 1348 = .ok (.iconst 0, 1) := zf_at zf_43 14 rfl
theorem dL_act_1349 : decode cL_act 1349 = .ok (.ireturn, 1) := zf_at zf_43 15 rfl
theorem dL_act_1350 : decode cL_act 1350 = .ok (.aload_n 1, 1) := zf_at zf_43 16 rfl
theorem dL_act_1351 : decode cL_act 1351 = .ok (.getfield 140, 3) := zf_at zf_43 17 rfl
theorem dL_act_1354 : decode cL_act 1354 = .ok (.iload 4, 2) := zf_at zf_43 18 rfl
theorem dL_act_1356 : decode cL_act 1356 = .ok (.iaload, 1) := zf_at zf_43 19 rfl
theorem dL_act_1357 : decode cL_act 1357 = .ok (.aload_n 1, 1) := zf_at zf_43 20 rfl
theorem dL_act_1358 : decode cL_act 1358 = .ok (.getfield 134, 3) := zf_at zf_43 21 rfl
theorem dL_act_1361 : decode cL_act 1361 = .ok (.iconst 3, 1) := zf_at zf_43 22 rfl
theorem dL_act_1362 : decode cL_act 1362 = .ok (.iaload, 1) := zf_at zf_43 23 rfl
theorem dL_act_1363 : decode cL_act 1363 = .ok (.if_icmp .ge 59, 3) := zf_at zf_43 24 rfl
theorem dL_act_1366 : decode cL_act 1366 = .ok (.aload_n 1, 1) := zf_at zf_43 25 rfl
theorem dL_act_1367 : decode cL_act 1367 = .ok (.getfield 151, 3) := zf_at zf_43 26 rfl
theorem dL_act_1370 : decode cL_act 1370 = .ok (.iload 4, 2) := zf_at zf_43 27 rfl
theorem dL_act_1372 : decode cL_act 1372 = .ok (.iaload, 1) := zf_at zf_43 28 rfl
theorem dL_act_1373 : decode cL_act 1373 = .ok (.ifCond .le 49, 3) := zf_at zf_43 29 rfl
theorem dL_act_1376 : decode cL_act 1376 = .ok (.aload_n 1, 1) := zf_at zf_43 30 rfl
theorem dL_act_1377 : decode cL_act 1377 = .ok (.getfield 140, 3) := zf_at zf_43 31 rfl
theorem dL_act_1380 : decode cL_act 1380 = .ok (.iload 4, 2) := zf_at zf_43 32 rfl
theorem dL_act_1382 : decode cL_act 1382 = .ok (.dup2, 1) := zf_at zf_43 33 rfl
theorem dL_act_1383 : decode cL_act 1383 = .ok (.iaload, 1) := zf_at zf_43 34 rfl
theorem dL_act_1384 : decode cL_act 1384 = .ok (.iconst 1, 1) := zf_at zf_43 35 rfl
theorem dL_act_1385 : decode cL_act 1385 = .ok (.iadd, 1) := zf_at zf_43 36 rfl
theorem dL_act_1386 : decode cL_act 1386 = .ok (.iastore, 1) := zf_at zf_43 37 rfl
theorem dL_act_1387 : decode cL_act 1387 = .ok (.aload_n 1, 1) := zf_at zf_43 38 rfl
theorem dL_act_1388 : decode cL_act 1388 = .ok (.getfield 160, 3) := zf_at zf_43 39 rfl
theorem zf_44 : zf_all cL_act [(1391, .iload 4, 2), (1393, .dup2, 1), (1394, .iaload, 1), (1395, .iconst 1, 1), (1396, .iadd, 1), (1397, .iastore, 1), (1398, .aload_n 1, 1), (1399, .getfield 151, 3), (1402, .iload 4, 2), (1404, .iconst 0, 1), (1405, .aload_n 1, 1), (1406, .getfield 151, 3), (1409, .iload 4, 2), (1411, .iaload, 1), (1412, .bipush 10, 2), (1414, .isub, 1), (1415, .invokestatic 231, 3), (1418, .iastore, 1), (1419, .goto (-69), 3), (1422, .aload_n 0, 1), (1423, .iload 4, 2), (1425, .invokevirtual 95, 3), (1428, .aload_n 1, 1), (1429, .getfield 151, 3), (1432, .iload 4, 2), (1434, .iaload, 1), (1435, .if_icmp .ne 7, 3), (1438, .iconst 1, 1), (1439, .goto 4, 3), (1442, .iconst 0, 1), (1443, .ireturn, 1), (1444, .aload_n 1, 1), (1445, .getfield 170, 3), (1448, .ifCond .ne 30, 3), (1451, .aload_n 0, 1), (1452, .bipush 23, 2), (1454, .iconst 2, 1), (1455, .newarray .int, 2), (1457, .dup, 1), (1458, .iconst 0, 1)] = true := by decide +kernel
theorem dL_act_1391 : decode cL_act 1391 = .ok (.iload 4, 2) := zf_at zf_44 0 rfl
theorem dL_act_1393 : decode cL_act 1393 = .ok (.dup2, 1) := zf_at zf_44 1 rfl
theorem dL_act_1394 : decode cL_act 1394 = .ok (.iaload, 1) := zf_at zf_44 2 rfl
theorem dL_act_1395 : decode cL_act 1395 = .ok (.iconst 1, 1) := zf_at zf_44 3 rfl
theorem dL_act_1396 : decode cL_act 1396 = .ok (.iadd, 1) := zf_at zf_44 4 rfl
theorem dL_act_1397 : decode cL_act 1397 = .ok (.iastore, 1) := zf_at zf_44 5 rfl
theorem dL_act_1398 : decode cL_act 1398 = .ok (.aload_n 1, 1) := zf_at zf_44 6 rfl
theorem dL_act_1399 : decode cL_act 1399 = .ok (.getfield 151, 3) := zf_at zf_44 7 rfl
theorem dL_act_1402 : decode cL_act 1402 = .ok (.iload 4, 2) := zf_at zf_44 8 rfl
theorem dL_act_1404 : decode cL_act 1404 = .ok (.iconst 0, 1) := zf_at zf_44 9 rfl
theorem dL_act_1405 : decode cL_act 1405 = .ok (.aload_n 1, 1) := zf_at zf_44 10 rfl
theorem dL_act_1406 : decode cL_act 1406 = .ok (.getfield 151, 3) := zf_at zf_44 11 rfl
theorem dL_act_1409 : decode cL_act 1409 = .ok (.iload 4, 2) := zf_at zf_44 12 rfl
theorem dL_act_1411 : decode cL_act 1411 = .ok (.iaload, 1) := zf_at zf_44 13 rfl
theorem dL_act_1412 : decode cL_act 1412 = .ok (.bipush 10, 2) := zf_at zf_44 14 rfl
theorem dL_act_1414 : decode cL_act 1414 = .ok (.isub, 1) := zf_at zf_44 15 rfl
theorem dL_act_1415 : decode cL_act 1415 = .ok (.invokestatic 231, 3) := zf_at zf_44 16 rfl
theorem dL_act_1418 : decode cL_act 1418 = .ok (.iastore, 1) := zf_at zf_44 17 rfl
theorem dL_act_1419 : decode cL_act 1419 = .ok (.goto (-69), 3) := zf_at zf_44 18 rfl
theorem dL_act_1422 : decode cL_act 1422 = .ok (.aload_n 0, 1) := zf_at zf_44 19 rfl
theorem dL_act_1423 : decode cL_act 1423 = .ok (.iload 4, 2) := zf_at zf_44 20 rfl
theorem dL_act_1425 : decode cL_act 1425 = .ok (.invokevirtual 95, 3) := zf_at zf_44 21 rfl
theorem dL_act_1428 : decode cL_act 1428 = .ok (.aload_n 1, 1) := zf_at zf_44 22 rfl
theorem dL_act_1429 : decode cL_act 1429 = .ok (.getfield 151, 3) := zf_at zf_44 23 rfl
theorem dL_act_1432 : decode cL_act 1432 = .ok (.iload 4, 2) := zf_at zf_44 24 rfl
theorem dL_act_1434 : decode cL_act 1434 = .ok (.iaload, 1) := zf_at zf_44 25 rfl
theorem dL_act_1435 : decode cL_act 1435 = .ok (.if_icmp .ne 7, 3) := zf_at zf_44 26 rfl
theorem dL_act_1438 : decode cL_act 1438 = .ok (.iconst 1, 1) := zf_at zf_44 27 rfl
theorem dL_act_1439 : decode cL_act 1439 = .ok (.goto 4, 3) := zf_at zf_44 28 rfl
theorem dL_act_1442 : decode cL_act 1442 = .ok (.iconst 0, 1) := zf_at zf_44 29 rfl
theorem dL_act_1443 : decode cL_act 1443 = .ok (.ireturn, 1) := zf_at zf_44 30 rfl
theorem dL_act_1444 : decode cL_act 1444 = .ok (.aload_n 1, 1) := zf_at zf_44 31 rfl
theorem dL_act_1445 : decode cL_act 1445 = .ok (.getfield 170, 3) := zf_at zf_44 32 rfl
theorem dL_act_1448 : decode cL_act 1448 = .ok (.ifCond .ne 30, 3) := zf_at zf_44 33 rfl
theorem dL_act_1451 : decode cL_act 1451 = .ok (.aload_n 0, 1) := zf_at zf_44 34 rfl
theorem dL_act_1452 : decode cL_act 1452 = .ok (.bipush 23, 2) := zf_at zf_44 35 rfl
theorem dL_act_1454 : decode cL_act 1454 = .ok (.iconst 2, 1) := zf_at zf_44 36 rfl
theorem dL_act_1455 : decode cL_act 1455 = .ok (.newarray .int, 2) := zf_at zf_44 37 rfl
theorem dL_act_1457 : decode cL_act 1457 = .ok (.dup, 1) := zf_at zf_44 38 rfl
theorem dL_act_1458 : decode cL_act 1458 = .ok (.iconst 0, 1) := zf_at zf_44 39 rfl
theorem zf_45 : zf_all cL_act [(1459, .iconst 0, 1), (1460, .iastore, 1), (1461, .dup, 1), (1462, .iconst 1, 1), (1463, .iconst 1, 1), (1464, .iastore, 1), (1465, .invokestatic 189, 3), (1468, .iconst 2, 1), (1469, .if_icmp .ne 7, 3), (1472, .iconst 1, 1), (1473, .goto 4, 3), (1476, .iconst 0, 1), (1477, .ireturn, 1), (1478, .aload_n 2, 1), (1479, .iconst 0, 1), (1480, .aload_n 1, 1), (1481, .getfield 170, 3), (1484, .iconst 1, 1), (1485, .isub, 1), (1486, .invokevirtual 205, 3), (1489, .istore 5, 2), (1491, .aload_n 2, 1), (1492, .iconst 1, 1), (1493, .iconst 3, 1), (1494, .invokevirtual 205, 3), (1497, .istore 6, 2), (1499, .aload_n 1, 1), (1500, .getfield 178, 3), (1503, .iload 5, 2), (1505, .iaload, 1), (1506, .iload 6, 2), (1508, .iadd, 1), (1509, .bipush 14, 2), (1511, .if_icmp .le 32, 3), (1514, .aload_n 0, 1), (1515, .bipush 23, 2), (1517, .iconst 2, 1), (1518, .newarray .int, 2), (1520, .dup, 1), (1521, .iconst 0, 1)] = true := by decide +kernel
theorem dL_act_1459 : decode cL_act 1459 = .ok (.iconst 0, 1) := zf_at zf_45 0 rfl
theorem dL_act_1460 : decode cL_act 1460 = .ok (.iastore, 1) := zf_at zf_45 1 rfl
theorem dL_act_1461 : decode cL_act 1461 = .ok (.dup, 1) := zf_at zf_45 2 rfl
theorem dL_act_1462 : decode cL_act 1462 = .ok (.iconst 1, 1) := zf_at zf_45 3 rfl
theorem dL_act_1463 : decode cL_act 1463 = .ok (.iconst 1, 1) := zf_at zf_45 4 rfl
theorem dL_act_1464 : decode cL_act 1464 = .ok (.iastore, 1) := zf_at zf_45 5 rfl
theorem dL_act_1465 : decode cL_act 1465 = .ok (.invokestatic 189, 3) := zf_at zf_45 6 rfl
theorem dL_act_1468 : decode cL_act 1468 = .ok (.iconst 2, 1) := zf_at zf_45 7 rfl
theorem dL_act_1469 : decode cL_act 1469 = .ok (.if_icmp .ne 7, 3) := zf_at zf_45 8 rfl
theorem dL_act_1472 : decode cL_act 1472 = .ok (.iconst 1, 1) := zf_at zf_45 9 rfl
theorem dL_act_1473 : decode cL_act 1473 = .ok (.goto 4, 3) := zf_at zf_45 10 rfl
theorem dL_act_1476 : decode cL_act 1476 = .ok (.iconst 0, 1) := zf_at zf_45 11 rfl
theorem dL_act_1477 : decode cL_act 1477 = .ok (.ireturn, 1) := zf_at zf_45 12 rfl
theorem dL_act_1478 : decode cL_act 1478 = .ok (.aload_n 2, 1) := zf_at zf_45 13 rfl
theorem dL_act_1479 : decode cL_act 1479 = .ok (.iconst 0, 1) := zf_at zf_45 14 rfl
theorem dL_act_1480 : decode cL_act 1480 = .ok (.aload_n 1, 1) := zf_at zf_45 15 rfl
theorem dL_act_1481 : decode cL_act 1481 = .ok (.getfield 170, 3) := zf_at zf_45 16 rfl
theorem dL_act_1484 : decode cL_act 1484 = .ok (.iconst 1, 1) := zf_at zf_45 17 rfl
theorem dL_act_1485 : decode cL_act 1485 = .ok (.isub, 1) := zf_at zf_45 18 rfl
theorem dL_act_1486 : decode cL_act 1486 = .ok (.invokevirtual 205, 3) := zf_at zf_45 19 rfl
theorem dL_act_1489 : decode cL_act 1489 = .ok (.istore 5, 2) := zf_at zf_45 20 rfl
theorem dL_act_1491 : decode cL_act 1491 = .ok (.aload_n 2, 1) := zf_at zf_45 21 rfl
theorem dL_act_1492 : decode cL_act 1492 = .ok (.iconst 1, 1) := zf_at zf_45 22 rfl
theorem dL_act_1493 : decode cL_act 1493 = .ok (.iconst 3, 1) := zf_at zf_45 23 rfl
theorem dL_act_1494 : decode cL_act 1494 = .ok (.invokevirtual 205, 3) := zf_at zf_45 24 rfl
theorem dL_act_1497 : decode cL_act 1497 = .ok (.istore 6, 2) := zf_at zf_45 25 rfl
theorem dL_act_1499 : decode cL_act 1499 = .ok (.aload_n 1, 1) := zf_at zf_45 26 rfl
theorem dL_act_1500 : decode cL_act 1500 = .ok (.getfield 178, 3) := zf_at zf_45 27 rfl
theorem dL_act_1503 : decode cL_act 1503 = .ok (.iload 5, 2) := zf_at zf_45 28 rfl
theorem dL_act_1505 : decode cL_act 1505 = .ok (.iaload, 1) := zf_at zf_45 29 rfl
theorem dL_act_1506 : decode cL_act 1506 = .ok (.iload 6, 2) := zf_at zf_45 30 rfl
theorem dL_act_1508 : decode cL_act 1508 = .ok (.iadd, 1) := zf_at zf_45 31 rfl
theorem dL_act_1509 : decode cL_act 1509 = .ok (.bipush 14, 2) := zf_at zf_45 32 rfl
theorem dL_act_1511 : decode cL_act 1511 = .ok (.if_icmp .le 32, 3) := zf_at zf_45 33 rfl
theorem dL_act_1514 : decode cL_act 1514 = .ok (.aload_n 0, 1) := zf_at zf_45 34 rfl
theorem dL_act_1515 : decode cL_act 1515 = .ok (.bipush 23, 2) := zf_at zf_45 35 rfl
theorem dL_act_1517 : decode cL_act 1517 = .ok (.iconst 2, 1) := zf_at zf_45 36 rfl
theorem dL_act_1518 : decode cL_act 1518 = .ok (.newarray .int, 2) := zf_at zf_45 37 rfl
theorem dL_act_1520 : decode cL_act 1520 = .ok (.dup, 1) := zf_at zf_45 38 rfl
theorem dL_act_1521 : decode cL_act 1521 = .ok (.iconst 0, 1) := zf_at zf_45 39 rfl
theorem zf_46 : zf_all cL_act [(1522, .iload 5, 2), (1524, .iastore, 1), (1525, .dup, 1), (1526, .iconst 1, 1), (1527, .bipush 100, 2), (1529, .iastore, 1), (1530, .invokestatic 189, 3), (1533, .iconst 3, 1), (1534, .if_icmp .ne 7, 3), (1537, .iconst 1, 1), (1538, .goto 4, 3), (1541, .iconst 0, 1), (1542, .ireturn, 1), (1543, .aload_n 1, 1), (1544, .getfield 178, 3), (1547, .iload 5, 2), (1549, .dup2, 1), (1550, .iaload, 1), (1551, .iload 6, 2), (1553, .iadd, 1), (1554, .iastore, 1), (1555, .aload_n 0, 1), (1556, .iload 5, 2), (1558, .iload 6, 2), (1560, .invokevirtual 104, 3), (1563, .aload_n 1, 1), (1564, .getfield 178, 3), (1567, .iload 5, 2), (1569, .iaload, 1), (1570, .if_icmp .ne 38, 3), (1573, .aload_n 0, 1), (1574, .bipush 23, 2), (1576, .iconst 2, 1), (1577, .newarray .int, 2), (1579, .dup, 1), (1580, .iconst 0, 1), (1581, .iload 5, 2), (1583, .iastore, 1), (1584, .dup, 1), (1585, .iconst 1, 1)] = true := by decide +kernel
theorem dL_act_1522 : decode cL_act 1522 = .ok (.iload 5, 2) := zf_at zf_46 0 rfl
theorem dL_act_1524 : decode cL_act 1524 = .ok (.iastore, 1) := zf_at zf_46 1 rfl
theorem dL_act_1525 : decode cL_act 1525 = .ok (.dup, 1) := zf_at zf_46 2 rfl
theorem dL_act_1526 : decode cL_act 1526 = .ok (.iconst 1, 1) := zf_at zf_46 3 rfl
theorem dL_act_1527 : decode cL_act 1527 = .ok (.bipush 100, 2) := zf_at zf_46 4 rfl
theorem dL_act_1529 : decode cL_act 1529 = .ok (.iastore, 1) := zf_at zf_46 5 rfl
theorem dL_act_1530 : decode cL_act 1530 = .ok (.invokestatic 189, 3) := zf_at zf_46 6 rfl
theorem dL_act_1533 : decode cL_act 1533 = .ok (.iconst 3, 1) := zf_at zf_46 7 rfl
theorem dL_act_1534 : decode cL_act 1534 = .ok (.if_icmp .ne 7, 3) := zf_at zf_46 8 rfl
theorem dL_act_1537 : decode cL_act 1537 = .ok (.iconst 1, 1) := zf_at zf_46 9 rfl
theorem dL_act_1538 : decode cL_act 1538 = .ok (.goto 4, 3) := zf_at zf_46 10 rfl
theorem dL_act_1541 : decode cL_act 1541 = .ok (.iconst 0, 1) := zf_at zf_46 11 rfl
theorem dL_act_1542 : decode cL_act 1542 = .ok (.ireturn, 1) := zf_at zf_46 12 rfl
theorem dL_act_1543 : decode cL_act 1543 = .ok (.aload_n 1, 1) := zf_at zf_46 13 rfl
theorem dL_act_1544 : decode cL_act 1544 = .ok (.getfield 178, 3) := zf_at zf_46 14 rfl
theorem dL_act_1547 : decode cL_act 1547 = .ok (.iload 5, 2) := zf_at zf_46 15 rfl
theorem dL_act_1549 : decode cL_act 1549 = .ok (.dup2, 1) := zf_at zf_46 16 rfl
theorem dL_act_1550 : decode cL_act 1550 = .ok (.iaload, 1) := zf_at zf_46 17 rfl
theorem dL_act_1551 : decode cL_act 1551 = .ok (.iload 6, 2) := zf_at zf_46 18 rfl
theorem dL_act_1553 : decode cL_act 1553 = .ok (.iadd, 1) := zf_at zf_46 19 rfl
theorem dL_act_1554 : decode cL_act 1554 = .ok (.iastore, 1) := zf_at zf_46 20 rfl
theorem dL_act_1555 : decode cL_act 1555 = .ok (.aload_n 0, 1) := zf_at zf_46 21 rfl
theorem dL_act_1556 : decode cL_act 1556 = .ok (.iload 5, 2) := zf_at zf_46 22 rfl
theorem dL_act_1558 : decode cL_act 1558 = .ok (.iload 6, 2) := zf_at zf_46 23 rfl
theorem dL_act_1560 : decode cL_act 1560 = .ok (.invokevirtual 104, 3) := zf_at zf_46 24 rfl
theorem dL_act_1563 : decode cL_act 1563 = .ok (.aload_n 1, 1) := zf_at zf_46 25 rfl
theorem dL_act_1564 : decode cL_act 1564 = .ok (.getfield 178, 3) := zf_at zf_46 26 rfl
theorem dL_act_1567 : decode cL_act 1567 = .ok (.iload 5, 2) := zf_at zf_46 27 rfl
theorem dL_act_1569 : decode cL_act 1569 = .ok (.iaload, 1) := zf_at zf_46 28 rfl
theorem dL_act_1570 : decode cL_act 1570 = .ok (.if_icmp .ne 38, 3) := zf_at zf_46 29 rfl
theorem dL_act_1573 : decode cL_act 1573 = .ok (.aload_n 0, 1) := zf_at zf_46 30 rfl
theorem dL_act_1574 : decode cL_act 1574 = .ok (.bipush 23, 2) := zf_at zf_46 31 rfl
theorem dL_act_1576 : decode cL_act 1576 = .ok (.iconst 2, 1) := zf_at zf_46 32 rfl
theorem dL_act_1577 : decode cL_act 1577 = .ok (.newarray .int, 2) := zf_at zf_46 33 rfl
theorem dL_act_1579 : decode cL_act 1579 = .ok (.dup, 1) := zf_at zf_46 34 rfl
theorem dL_act_1580 : decode cL_act 1580 = .ok (.iconst 0, 1) := zf_at zf_46 35 rfl
theorem dL_act_1581 : decode cL_act 1581 = .ok (.iload 5, 2) := zf_at zf_46 36 rfl
theorem dL_act_1583 : decode cL_act 1583 = .ok (.iastore, 1) := zf_at zf_46 37 rfl
theorem dL_act_1584 : decode cL_act 1584 = .ok (.dup, 1) := zf_at zf_46 38 rfl
theorem dL_act_1585 : decode cL_act 1585 = .ok (.iconst 1, 1) := zf_at zf_46 39 rfl
theorem zf_47 : zf_all cL_act [(1586, .bipush 100, 2), (1588, .aload_n 1, 1), (1589, .getfield 178, 3), (1592, .iload 5, 2), (1594, .iaload, 1), (1595, .isub, 1), (1596, .iastore, 1), (1597, .invokestatic 189, 3), (1600, .iconst 3, 1), (1601, .if_icmp .ne 7, 3), (1604, .iconst 1, 1), (1605, .goto 4, 3), (1608, .iconst 0, 1), (1609, .ireturn, 1)] = true := by decide +kernel
theorem dL_act_1586 : decode cL_act 1586 = .ok (.bipush 100, 2) := zf_at zf_47 0 rfl
theorem dL_act_1588 : decode cL_act 1588 = .ok (.aload_n 1, 1) := zf_at zf_47 1 rfl
theorem dL_act_1589 : decode cL_act 1589 = .ok (.getfield 178, 3) := zf_at zf_47 2 rfl
theorem dL_act_1592 : decode cL_act 1592 = .ok (.iload 5, 2) := zf_at zf_47 3 rfl
theorem dL_act_1594 : decode cL_act 1594 = .ok (.iaload, 1) := zf_at zf_47 4 rfl
theorem dL_act_1595 : decode cL_act 1595 = .ok (.isub, 1) := zf_at zf_47 5 rfl
theorem dL_act_1596 : decode cL_act 1596 = .ok (.iastore, 1) := zf_at zf_47 6 rfl
theorem dL_act_1597 : decode cL_act 1597 = .ok (.invokestatic 189, 3) := zf_at zf_47 7 rfl
theorem dL_act_1600 : decode cL_act 1600 = .ok (.iconst 3, 1) := zf_at zf_47 8 rfl
theorem dL_act_1601 : decode cL_act 1601 = .ok (.if_icmp .ne 7, 3) := zf_at zf_47 9 rfl
theorem dL_act_1604 : decode cL_act 1604 = .ok (.iconst 1, 1) := zf_at zf_47 10 rfl
theorem dL_act_1605 : decode cL_act 1605 = .ok (.goto 4, 3) := zf_at zf_47 11 rfl
theorem dL_act_1608 : decode cL_act 1608 = .ok (.iconst 0, 1) := zf_at zf_47 12 rfl
theorem dL_act_1609 : decode cL_act 1609 = .ok (.ireturn, 1) := zf_at zf_47 13 rfl
theorem zf_48 : zf_all cL_isText [(0, .iload_n 1, 1), (1, .aload_n 2, 1), (2, .invokevirtual 7, 3), (5, .if_icmp .eq 5, 3), (8, .iconst 0, 1), (9, .ireturn, 1), (10, .iconst 0, 1), (11, .istore_n 3, 1), (12, .iload_n 3, 1), (13, .aload_n 2, 1), (14, .invokevirtual 7, 3), (17, .if_icmp .ge 24, 3), (20, .aload_n 0, 1), (21, .iload_n 3, 1), (22, .invokevirtual 67, 3), (25, .aload_n 2, 1), (26, .iload_n 3, 1), (27, .invokevirtual 13, 3), (30, .if_icmp .eq 5, 3), (33, .iconst 0, 1), (34, .ireturn, 1), (35, .iinc 3 1, 3), (38, .goto (-26), 3), (41, .aload_n 0, 1), (42, .bipush 11, 2), (44, .iconst 1, 1), (45, .newarray .int, 2), (47, .dup, 1), (48, .iconst 0, 1), (49, .iload_n 1, 1), (50, .iastore, 1), (51, .invokestatic 189, 3), (54, .iconst 2, 1), (55, .if_icmp .ne 7, 3), (58, .iconst 1, 1), (59, .goto 4, 3), (62, .iconst 0, 1), (63, .ireturn, 1)] = true := by decide +kernel
theorem dL_isText_0 : decode cL_isText 0 = .ok (.iload_n 1, 1) := zf_at zf_48 0 rfl
theorem dL_isText_1 : decode cL_isText 1 = .ok (.aload_n 2, 1) := zf_at zf_48 1 rfl
theorem dL_isText_2 : decode cL_isText 2 = .ok (.invokevirtual 7, 3) := zf_at zf_48 2 rfl
theorem dL_isText_5 : decode cL_isText 5 = .ok (.if_icmp .eq 5, 3) := zf_at zf_48 3 rfl
theorem dL_isText_8 : decode cL_isText 8 = .ok (.iconst 0, 1) := zf_at zf_48 4 rfl
theorem dL_isText_9 : decode cL_isText 9 = .ok (.ireturn, 1) := zf_at zf_48 5 rfl
theorem dL_isText_10 : decode cL_isText 10 = .ok (.iconst 0, 1) := zf_at zf_48 6 rfl
theorem dL_isText_11 : decode cL_isText 11 = .ok (.istore_n 3, 1) := zf_at zf_48 7 rfl
theorem dL_isText_12 : decode cL_isText 12 = .ok (.iload_n 3, 1) := zf_at zf_48 8 rfl
theorem dL_isText_13 : decode cL_isText 13 = .ok (.aload_n 2, 1) := zf_at zf_48 9 rfl
theorem dL_isText_14 : decode cL_isText 14 = .ok (.invokevirtual 7, 3) := zf_at zf_48 10 rfl
theorem dL_isText_17 : decode cL_isText 17 = .ok (.if_icmp .ge 24, 3) := zf_at zf_48 11 rfl
theorem dL_isText_20 : decode cL_isText 20 = .ok (.aload_n 0, 1) := zf_at zf_48 12 rfl
theorem dL_isText_21 : decode cL_isText 21 = .ok (.iload_n 3, 1) := zf_at zf_48 13 rfl
theorem dL_isText_22 : decode cL_isText 22 = .ok (.invokevirtual 67, 3) := zf_at zf_48 14 rfl
theorem dL_isText_25 : decode cL_isText 25 = .ok (.aload_n 2, 1) := zf_at zf_48 15 rfl
theorem dL_isText_26 : decode cL_isText 26 = .ok (.iload_n 3, 1) := zf_at zf_48 16 rfl
theorem dL_isText_27 : decode cL_isText 27 = .ok (.invokevirtual 13, 3) := zf_at zf_48 17 rfl
theorem dL_isText_30 : decode cL_isText 30 = .ok (.if_icmp .eq 5, 3) := zf_at zf_48 18 rfl
theorem dL_isText_33 : decode cL_isText 33 = .ok (.iconst 0, 1) := zf_at zf_48 19 rfl
theorem dL_isText_34 : decode cL_isText 34 = .ok (.ireturn, 1) := zf_at zf_48 20 rfl
theorem dL_isText_35 : decode cL_isText 35 = .ok (.iinc 3 1, 3) := zf_at zf_48 21 rfl
theorem dL_isText_38 : decode cL_isText 38 = .ok (.goto (-26), 3) := zf_at zf_48 22 rfl
theorem dL_isText_41 : decode cL_isText 41 = .ok (.aload_n 0, 1) := zf_at zf_48 23 rfl
theorem dL_isText_42 : decode cL_isText 42 = .ok (.bipush 11, 2) := zf_at zf_48 24 rfl
theorem dL_isText_44 : decode cL_isText 44 = .ok (.iconst 1, 1) := zf_at zf_48 25 rfl
theorem dL_isText_45 : decode cL_isText 45 = .ok (.newarray .int, 2) := zf_at zf_48 26 rfl
theorem dL_isText_47 : decode cL_isText 47 = .ok (.dup, 1) := zf_at zf_48 27 rfl
theorem dL_isText_48 : decode cL_isText 48 = .ok (.iconst 0, 1) := zf_at zf_48 28 rfl
theorem dL_isText_49 : decode cL_isText 49 = .ok (.iload_n 1, 1) := zf_at zf_48 29 rfl
theorem dL_isText_50 : decode cL_isText 50 = .ok (.iastore, 1) := zf_at zf_48 30 rfl
theorem dL_isText_51 : decode cL_isText 51 = .ok (.invokestatic 189, 3) := zf_at zf_48 31 rfl
theorem dL_isText_54 : decode cL_isText 54 = .ok (.iconst 2, 1) := zf_at zf_48 32 rfl
theorem dL_isText_55 : decode cL_isText 55 = .ok (.if_icmp .ne 7, 3) := zf_at zf_48 33 rfl
theorem dL_isText_58 : decode cL_isText 58 = .ok (.iconst 1, 1) := zf_at zf_48 34 rfl
theorem dL_isText_59 : decode cL_isText 59 = .ok (.goto 4, 3) := zf_at zf_48 35 rfl
theorem dL_isText_62 : decode cL_isText 62 = .ok (.iconst 0, 1) := zf_at zf_48 36 rfl
theorem dL_isText_63 : decode cL_isText 63 = .ok (.ireturn, 1) := zf_at zf_48 37 rfl
theorem zf_49 : zf_all cL_looks [(0, .iconst 0, 1), (1, .istore_n 2, 1), (2, .iconst (-1), 1), (3, .istore_n 3, 1), (4, .iconst (-1), 1), (5, .istore 4, 2), (7, .iconst 0, 1), (8, .istore 5, 2), (10, .iconst 0, 1), (11, .istore 6, 2), (13, .iconst 0, 1), (14, .istore 7, 2), (16, .iconst 0, 1), (17, .istore 8, 2), (19, .iconst 0, 1), (20, .istore 9, 2), (22, .iload 9, 2), (24, .aload_n 1, 1), (25, .getfield 134, 3), (28, .iconst 1, 1), (29, .iaload, 1), (30, .if_icmp .ge 95, 3), (33, .aload_n 1, 1), (34, .iload 9, 2), (36, .invokevirtual 148, 3), (39, .aload_n 1, 1), (40, .iload_n 2, 1), (41, .invokevirtual 148, 3), (44, .if_icmp .le 8, 3), (47, .iload 9, 2), (49, .goto 4, 3), (52, .iload_n 2, 1), (53, .istore_n 2, 1), (54, .aload_n 1, 1), (55, .getfield 142, 3), (58, .iload 9, 2), (60, .iaload, 1), (61, .ifCond .le 24, 3), (64, .iload_n 3, 1), (65, .ifCond .lt 17, 3)] = true := by decide +kernel
theorem dL_looks_0 : decode cL_looks 0 = .ok (.iconst 0, 1) := zf_at zf_49 0 rfl
theorem dL_looks_1 : decode cL_looks 1 = .ok (.istore_n 2, 1) := zf_at zf_49 1 rfl
theorem dL_looks_2 : decode cL_looks 2 = .ok (.iconst (-1), 1) := zf_at zf_49 2 rfl
theorem dL_looks_3 : decode cL_looks 3 = .ok (.istore_n 3, 1) := zf_at zf_49 3 rfl
theorem dL_looks_4 : decode cL_looks 4 = .ok (.iconst (-1), 1) := zf_at zf_49 4 rfl
theorem dL_looks_5 : decode cL_looks 5 = .ok (.istore 4, 2) := zf_at zf_49 5 rfl
theorem dL_looks_7 : decode cL_looks 7 = .ok (.iconst 0, 1) := zf_at zf_49 6 rfl
theorem dL_looks_8 : decode cL_looks 8 = .ok (.istore 5, 2) := zf_at zf_49 7 rfl
theorem dL_looks_10 : decode cL_looks 10 = .ok (.iconst 0, 1) := zf_at zf_49 8 rfl
theorem dL_looks_11 : decode cL_looks 11 = .ok (.istore 6, 2) := zf_at zf_49 9 rfl
theorem dL_looks_13 : decode cL_looks 13 = .ok (.iconst 0, 1) := zf_at zf_49 10 rfl
theorem dL_looks_14 : decode cL_looks 14 = .ok (.istore 7, 2) := zf_at zf_49 11 rfl
theorem dL_looks_16 : decode cL_looks 16 = .ok (.iconst 0, 1) := zf_at zf_49 12 rfl
theorem dL_looks_17 : decode cL_looks 17 = .ok (.istore 8, 2) := zf_at zf_49 13 rfl
theorem dL_looks_19 : decode cL_looks 19 = .ok (.iconst 0, 1) := zf_at zf_49 14 rfl
theorem dL_looks_20 : decode cL_looks 20 = .ok (.istore 9, 2) := zf_at zf_49 15 rfl
theorem dL_looks_22 : decode cL_looks 22 = .ok (.iload 9, 2) := zf_at zf_49 16 rfl
theorem dL_looks_24 : decode cL_looks 24 = .ok (.aload_n 1, 1) := zf_at zf_49 17 rfl
theorem dL_looks_25 : decode cL_looks 25 = .ok (.getfield 134, 3) := zf_at zf_49 18 rfl
theorem dL_looks_28 : decode cL_looks 28 = .ok (.iconst 1, 1) := zf_at zf_49 19 rfl
theorem dL_looks_29 : decode cL_looks 29 = .ok (.iaload, 1) := zf_at zf_49 20 rfl
theorem dL_looks_30 : decode cL_looks 30 = .ok (.if_icmp .ge 95, 3) := zf_at zf_49 21 rfl
theorem dL_looks_33 : decode cL_looks 33 = .ok (.aload_n 1, 1) := zf_at zf_49 22 rfl
theorem dL_looks_34 : decode cL_looks 34 = .ok (.iload 9, 2) := zf_at zf_49 23 rfl
theorem dL_looks_36 : decode cL_looks 36 = .ok (.invokevirtual 148, 3) := zf_at zf_49 24 rfl
theorem dL_looks_39 : decode cL_looks 39 = .ok (.aload_n 1, 1) := zf_at zf_49 25 rfl
theorem dL_looks_40 : decode cL_looks 40 = .ok (.iload_n 2, 1) := zf_at zf_49 26 rfl
theorem dL_looks_41 : decode cL_looks 41 = .ok (.invokevirtual 148, 3) := zf_at zf_49 27 rfl
theorem dL_looks_44 : decode cL_looks 44 = .ok (.if_icmp .le 8, 3) := zf_at zf_49 28 rfl
theorem dL_looks_47 : decode cL_looks 47 = .ok (.iload 9, 2) := zf_at zf_49 29 rfl
theorem dL_looks_49 : decode cL_looks 49 = .ok (.goto 4, 3) := zf_at zf_49 30 rfl
theorem dL_looks_52 : decode cL_looks 52 = .ok (.iload_n 2, 1) := zf_at zf_49 31 rfl
theorem dL_looks_53 : decode cL_looks 53 = .ok (.istore_n 2, 1) := zf_at zf_49 32 rfl
theorem dL_looks_54 : decode cL_looks 54 = .ok (.aload_n 1, 1) := zf_at zf_49 33 rfl
theorem dL_looks_55 : decode cL_looks 55 = .ok (.getfield 142, 3) := zf_at zf_49 34 rfl
theorem dL_looks_58 : decode cL_looks 58 = .ok (.iload 9, 2) := zf_at zf_49 35 rfl
theorem dL_looks_60 : decode cL_looks 60 = .ok (.iaload, 1) := zf_at zf_49 36 rfl
theorem dL_looks_61 : decode cL_looks 61 = .ok (.ifCond .le 24, 3) := zf_at zf_49 37 rfl
theorem dL_looks_64 : decode cL_looks 64 = .ok (.iload_n 3, 1) := zf_at zf_49 38 rfl
theorem dL_looks_65 : decode cL_looks 65 = .ok (.ifCond .lt 17, 3) := zf_at zf_49 39 rfl
theorem zf_50 : zf_all cL_looks [(68, .aload_n 1, 1), (69, .iload 9, 2), (71, .invokevirtual 236, 3), (74, .aload_n 1, 1), (75, .iload_n 3, 1), (76, .invokevirtual 236, 3), (79, .if_icmp .le 6, 3), (82, .iload 9, 2), (84, .istore_n 3, 1), (85, .iload 6, 2), (87, .aload_n 1, 1), (88, .iload 9, 2), (90, .invokevirtual 148, 3), (93, .iadd, 1), (94, .istore 6, 2), (96, .iload 7, 2), (98, .aload_n 1, 1), (99, .iload 9, 2), (101, .invokevirtual 154, 3), (104, .iadd, 1), (105, .istore 7, 2), (107, .iload 8, 2), (109, .aload_n 1, 1), (110, .getfield 145, 3), (113, .iload 9, 2), (115, .iaload, 1), (116, .iadd, 1), (117, .istore 8, 2), (119, .iinc 9 1, 3), (122, .goto (-100), 3), (125, .new 239, 3), (128, .dup, 1), (129, .invokespecial 241, 3), (132, .astore 9, 2), (134, .iconst 0, 1), (135, .istore 10, 2), (137, .iload 10, 2), (139, .aload_n 1, 1), (140, .getfield 170, 3), (143, .if_icmp .ge 125, 3)] = true := by decide +kernel
theorem dL_looks_68 : decode cL_looks 68 = .ok (.aload_n 1, 1) := zf_at zf_50 0 rfl
theorem dL_looks_69 : decode cL_looks 69 = .ok (.iload 9, 2) := zf_at zf_50 1 rfl
theorem dL_looks_71 : decode cL_looks 71 = .ok (.invokevirtual 236, 3) := zf_at zf_50 2 rfl
theorem dL_looks_74 : decode cL_looks 74 = .ok (.aload_n 1, 1) := zf_at zf_50 3 rfl
theorem dL_looks_75 : decode cL_looks 75 = .ok (.iload_n 3, 1) := zf_at zf_50 4 rfl
theorem dL_looks_76 : decode cL_looks 76 = .ok (.invokevirtual 236, 3) := zf_at zf_50 5 rfl
theorem dL_looks_79 : decode cL_looks 79 = .ok (.if_icmp .le 6, 3) := zf_at zf_50 6 rfl
theorem dL_looks_82 : decode cL_looks 82 = .ok (.iload 9, 2) := zf_at zf_50 7 rfl
theorem dL_looks_84 : decode cL_looks 84 = .ok (.istore_n 3, 1) := zf_at zf_50 8 rfl
theorem dL_looks_85 : decode cL_looks 85 = .ok (.iload 6, 2) := zf_at zf_50 9 rfl
theorem dL_looks_87 : decode cL_looks 87 = .ok (.aload_n 1, 1) := zf_at zf_50 10 rfl
theorem dL_looks_88 : decode cL_looks 88 = .ok (.iload 9, 2) := zf_at zf_50 11 rfl
theorem dL_looks_90 : decode cL_looks 90 = .ok (.invokevirtual 148, 3) := zf_at zf_50 12 rfl
theorem dL_looks_93 : decode cL_looks 93 = .ok (.iadd, 1) := zf_at zf_50 13 rfl
theorem dL_looks_94 : decode cL_looks 94 = .ok (.istore 6, 2) := zf_at zf_50 14 rfl
theorem dL_looks_96 : decode cL_looks 96 = .ok (.iload 7, 2) := zf_at zf_50 15 rfl
theorem dL_looks_98 : decode cL_looks 98 = .ok (.aload_n 1, 1) := zf_at zf_50 16 rfl
theorem dL_looks_99 : decode cL_looks 99 = .ok (.iload 9, 2) := zf_at zf_50 17 rfl
theorem dL_looks_101 : decode cL_looks 101 = .ok (.invokevirtual 154, 3) := zf_at zf_50 18 rfl
theorem dL_looks_104 : decode cL_looks 104 = .ok (.iadd, 1) := zf_at zf_50 19 rfl
theorem dL_looks_105 : decode cL_looks 105 = .ok (.istore 7, 2) := zf_at zf_50 20 rfl
theorem dL_looks_107 : decode cL_looks 107 = .ok (.iload 8, 2) := zf_at zf_50 21 rfl
theorem dL_looks_109 : decode cL_looks 109 = .ok (.aload_n 1, 1) := zf_at zf_50 22 rfl
theorem dL_looks_110 : decode cL_looks 110 = .ok (.getfield 145, 3) := zf_at zf_50 23 rfl
theorem dL_looks_113 : decode cL_looks 113 = .ok (.iload 9, 2) := zf_at zf_50 24 rfl
theorem dL_looks_115 : decode cL_looks 115 = .ok (.iaload, 1) := zf_at zf_50 25 rfl
theorem dL_looks_116 : decode cL_looks 116 = .ok (.iadd, 1) := zf_at zf_50 26 rfl
theorem dL_looks_117 : decode cL_looks 117 = .ok (.istore 8, 2) := zf_at zf_50 27 rfl
theorem dL_looks_119 : decode cL_looks 119 = .ok (.iinc 9 1, 3) := zf_at zf_50 28 rfl
theorem dL_looks_122 : decode cL_looks 122 = .ok (.goto (-100), 3) := zf_at zf_50 29 rfl
theorem dL_looks_125 : decode cL_looks 125 = .ok (.new 239, 3) := zf_at zf_50 30 rfl
theorem dL_looks_128 : decode cL_looks 128 = .ok (.dup, 1) := zf_at zf_50 31 rfl
theorem dL_looks_129 : decode cL_looks 129 = .ok (.invokespecial 241, 3) := zf_at zf_50 32 rfl
theorem dL_looks_132 : decode cL_looks 132 = .ok (.astore 9, 2) := zf_at zf_50 33 rfl
theorem dL_looks_134 : decode cL_looks 134 = .ok (.iconst 0, 1) := zf_at zf_50 34 rfl
theorem dL_looks_135 : decode cL_looks 135 = .ok (.istore 10, 2) := zf_at zf_50 35 rfl
theorem dL_looks_137 : decode cL_looks 137 = .ok (.iload 10, 2) := zf_at zf_50 36 rfl
theorem dL_looks_139 : decode cL_looks 139 = .ok (.aload_n 1, 1) := zf_at zf_50 37 rfl
theorem dL_looks_140 : decode cL_looks 140 = .ok (.getfield 170, 3) := zf_at zf_50 38 rfl
theorem dL_looks_143 : decode cL_looks 143 = .ok (.if_icmp .ge 125, 3) := zf_at zf_50 39 rfl
theorem zf_51 : zf_all cL_looks [(146, .iload 10, 2), (148, .ifCond .le 11, 3), (151, .aload 9, 2), (153, .bipush 44, 2), (155, .invokevirtual 242, 3), (158, .pop, 1), (159, .aload 9, 2), (161, .aload_n 1, 1), (162, .getfield 193, 3), (165, .iload 10, 2), (167, .baload, 1), (168, .ifCond .eq 8, 3), (171, .bipush 109, 2), (173, .goto 5, 3), (176, .bipush 119, 2), (178, .invokevirtual 242, 3), (181, .aload_n 1, 1), (182, .getfield 181, 3), (185, .iload 10, 2), (187, .iaload, 1), (188, .invokevirtual 245, 3), (191, .bipush 58, 2), (193, .invokevirtual 242, 3), (196, .aload_n 1, 1), (197, .getfield 178, 3), (200, .iload 10, 2), (202, .iaload, 1), (203, .invokevirtual 245, 3), (206, .pop, 1), (207, .iload 5, 2), (209, .aload_n 1, 1), (210, .getfield 181, 3), (213, .iload 10, 2), (215, .iaload, 1), (216, .aload_n 1, 1), (217, .getfield 178, 3), (220, .iload 10, 2), (222, .iaload, 1), (223, .imul, 1), (224, .iadd, 1)] = true := by decide +kernel
theorem dL_looks_146 : decode cL_looks 146 = .ok (.iload 10, 2) := zf_at zf_51 0 rfl
theorem dL_looks_148 : decode cL_looks 148 = .ok (.ifCond .le 11, 3) := zf_at zf_51 1 rfl
theorem dL_looks_151 : decode cL_looks 151 = .ok (.aload 9, 2) := zf_at zf_51 2 rfl
theorem dL_looks_153 : decode cL_looks 153 = .ok (.bipush 44, 2) := zf_at zf_51 3 rfl
theorem dL_looks_155 : decode cL_looks 155 = .ok (.invokevirtual 242, 3) := zf_at zf_51 4 rfl
theorem dL_looks_158 : decode cL_looks 158 = .ok (.pop, 1) := zf_at zf_51 5 rfl
theorem dL_looks_159 : decode cL_looks 159 = .ok (.aload 9, 2) := zf_at zf_51 6 rfl
theorem dL_looks_161 : decode cL_looks 161 = .ok (.aload_n 1, 1) := zf_at zf_51 7 rfl
theorem dL_looks_162 : decode cL_looks 162 = .ok (.getfield 193, 3) := zf_at zf_51 8 rfl
theorem dL_looks_165 : decode cL_looks 165 = .ok (.iload 10, 2) := zf_at zf_51 9 rfl
theorem dL_looks_167 : decode cL_looks 167 = .ok (.baload, 1) := zf_at zf_51 10 rfl
theorem dL_looks_168 : decode cL_looks 168 = .ok (.ifCond .eq 8, 3) := zf_at zf_51 11 rfl
theorem dL_looks_171 : decode cL_looks 171 = .ok (.bipush 109, 2) := zf_at zf_51 12 rfl
theorem dL_looks_173 : decode cL_looks 173 = .ok (.goto 5, 3) := zf_at zf_51 13 rfl
theorem dL_looks_176 : decode cL_looks 176 = .ok (.bipush 119, 2) := zf_at zf_51 14 rfl
theorem dL_looks_178 : decode cL_looks 178 = .ok (.invokevirtual 242, 3) := zf_at zf_51 15 rfl
theorem dL_looks_181 : decode cL_looks 181 = .ok (.aload_n 1, 1) := zf_at zf_51 16 rfl
theorem dL_looks_182 : decode cL_looks 182 = .ok (.getfield 181, 3) := zf_at zf_51 17 rfl
theorem dL_looks_185 : decode cL_looks 185 = .ok (.iload 10, 2) := zf_at zf_51 18 rfl
theorem dL_looks_187 : decode cL_looks 187 = .ok (.iaload, 1) := zf_at zf_51 19 rfl
theorem dL_looks_188 : decode cL_looks 188 = .ok (.invokevirtual 245, 3) := zf_at zf_51 20 rfl
theorem dL_looks_191 : decode cL_looks 191 = .ok (.bipush 58, 2) := zf_at zf_51 21 rfl
theorem dL_looks_193 : decode cL_looks 193 = .ok (.invokevirtual 242, 3) := zf_at zf_51 22 rfl
theorem dL_looks_196 : decode cL_looks 196 = .ok (.aload_n 1, 1) := zf_at zf_51 23 rfl
theorem dL_looks_197 : decode cL_looks 197 = .ok (.getfield 178, 3) := zf_at zf_51 24 rfl
theorem dL_looks_200 : decode cL_looks 200 = .ok (.iload 10, 2) := zf_at zf_51 25 rfl
theorem dL_looks_202 : decode cL_looks 202 = .ok (.iaload, 1) := zf_at zf_51 26 rfl
theorem dL_looks_203 : decode cL_looks 203 = .ok (.invokevirtual 245, 3) := zf_at zf_51 27 rfl
theorem dL_looks_206 : decode cL_looks 206 = .ok (.pop, 1) := zf_at zf_51 28 rfl
theorem dL_looks_207 : decode cL_looks 207 = .ok (.iload 5, 2) := zf_at zf_51 29 rfl
theorem dL_looks_209 : decode cL_looks 209 = .ok (.aload_n 1, 1) := zf_at zf_51 30 rfl
theorem dL_looks_210 : decode cL_looks 210 = .ok (.getfield 181, 3) := zf_at zf_51 31 rfl
theorem dL_looks_213 : decode cL_looks 213 = .ok (.iload 10, 2) := zf_at zf_51 32 rfl
theorem dL_looks_215 : decode cL_looks 215 = .ok (.iaload, 1) := zf_at zf_51 33 rfl
theorem dL_looks_216 : decode cL_looks 216 = .ok (.aload_n 1, 1) := zf_at zf_51 34 rfl
theorem dL_looks_217 : decode cL_looks 217 = .ok (.getfield 178, 3) := zf_at zf_51 35 rfl
theorem dL_looks_220 : decode cL_looks 220 = .ok (.iload 10, 2) := zf_at zf_51 36 rfl
theorem dL_looks_222 : decode cL_looks 222 = .ok (.iaload, 1) := zf_at zf_51 37 rfl
theorem dL_looks_223 : decode cL_looks 223 = .ok (.imul, 1) := zf_at zf_51 38 rfl
theorem dL_looks_224 : decode cL_looks 224 = .ok (.iadd, 1) := zf_at zf_51 39 rfl
theorem zf_52 : zf_all cL_looks [(225, .istore 5, 2), (227, .aload_n 1, 1), (228, .getfield 248, 3), (231, .aload_n 1, 1), (232, .getfield 170, 3), (235, .iconst 1, 1), (236, .isub, 1), (237, .iload 10, 2), (239, .isub, 1), (240, .iaload, 1), (241, .istore 11, 2), (243, .aload_n 1, 1), (244, .getfield 178, 3), (247, .iload 11, 2), (249, .iaload, 1), (250, .ifCond .le 8, 3), (253, .iload 11, 2), (255, .goto 5, 3), (258, .iload 4, 2), (260, .istore 4, 2), (262, .iinc 10 1, 3), (265, .goto (-128), 3), (268, .iload 6, 2), (270, .i2d, 1), (271, .aload_n 1, 1), (272, .getfield 134, 3), (275, .iconst 1, 1), (276, .iaload, 1), (277, .i2d, 1), (278, .ddiv, 1), (279, .dstore 10, 2), (281, .iload 8, 2), (283, .ifCond .ne 7, 3), (286, .fconst 0, 1), (287, .goto 10, 3), (290, .iload 7, 2), (292, .i2f, 1), (293, .iload 8, 2), (295, .i2f, 1), (296, .fdiv, 1)] = true := by decide +kernel
theorem dL_looks_225 : decode cL_looks 225 = .ok (.istore 5, 2) := zf_at zf_52 0 rfl
theorem dL_looks_227 : decode cL_looks 227 = .ok (.aload_n 1, 1) := zf_at zf_52 1 rfl
theorem dL_looks_228 : decode cL_looks 228 = .ok (.getfield 248, 3) := zf_at zf_52 2 rfl
theorem dL_looks_231 : decode cL_looks 231 = .ok (.aload_n 1, 1) := zf_at zf_52 3 rfl
theorem dL_looks_232 : decode cL_looks 232 = .ok (.getfield 170, 3) := zf_at zf_52 4 rfl
theorem dL_looks_235 : decode cL_looks 235 = .ok (.iconst 1, 1) := zf_at zf_52 5 rfl
theorem dL_looks_236 : decode cL_looks 236 = .ok (.isub, 1) := zf_at zf_52 6 rfl
theorem dL_looks_237 : decode cL_looks 237 = .ok (.iload 10, 2) := zf_at zf_52 7 rfl
theorem dL_looks_239 : decode cL_looks 239 = .ok (.isub, 1) := zf_at zf_52 8 rfl
theorem dL_looks_240 : decode cL_looks 240 = .ok (.iaload, 1) := zf_at zf_52 9 rfl
theorem dL_looks_241 : decode cL_looks 241 = .ok (.istore 11, 2) := zf_at zf_52 10 rfl
theorem dL_looks_243 : decode cL_looks 243 = .ok (.aload_n 1, 1) := zf_at zf_52 11 rfl
theorem dL_looks_244 : decode cL_looks 244 = .ok (.getfield 178, 3) := zf_at zf_52 12 rfl
theorem dL_looks_247 : decode cL_looks 247 = .ok (.iload 11, 2) := zf_at zf_52 13 rfl
theorem dL_looks_249 : decode cL_looks 249 = .ok (.iaload, 1) := zf_at zf_52 14 rfl
theorem dL_looks_250 : decode cL_looks 250 = .ok (.ifCond .le 8, 3) := zf_at zf_52 15 rfl
theorem dL_looks_253 : decode cL_looks 253 = .ok (.iload 11, 2) := zf_at zf_52 16 rfl
theorem dL_looks_255 : decode cL_looks 255 = .ok (.goto 5, 3) := zf_at zf_52 17 rfl
theorem dL_looks_258 : decode cL_looks 258 = .ok (.iload 4, 2) := zf_at zf_52 18 rfl
theorem dL_looks_260 : decode cL_looks 260 = .ok (.istore 4, 2) := zf_at zf_52 19 rfl
theorem dL_looks_262 : decode cL_looks 262 = .ok (.iinc 10 1, 3) := zf_at zf_52 20 rfl
theorem dL_looks_265 : decode cL_looks 265 = .ok (.goto (-128), 3) := zf_at zf_52 21 rfl
theorem dL_looks_268 : decode cL_looks 268 = .ok (.iload 6, 2) := zf_at zf_52 22 rfl
theorem dL_looks_270 : decode cL_looks 270 = .ok (.i2d, 1) := zf_at zf_52 23 rfl
theorem dL_looks_271 : decode cL_looks 271 = .ok (.aload_n 1, 1) := zf_at zf_52 24 rfl
theorem dL_looks_272 : decode cL_looks 272 = .ok (.getfield 134, 3) := zf_at zf_52 25 rfl
theorem dL_looks_275 : decode cL_looks 275 = .ok (.iconst 1, 1) := zf_at zf_52 26 rfl
theorem dL_looks_276 : decode cL_looks 276 = .ok (.iaload, 1) := zf_at zf_52 27 rfl
theorem dL_looks_277 : decode cL_looks 277 = .ok (.i2d, 1) := zf_at zf_52 28 rfl
theorem dL_looks_278 : decode cL_looks 278 = .ok (.ddiv, 1) := zf_at zf_52 29 rfl
theorem dL_looks_279 : decode cL_looks 279 = .ok (.dstore 10, 2) := zf_at zf_52 30 rfl
theorem dL_looks_281 : decode cL_looks 281 = .ok (.iload 8, 2) := zf_at zf_52 31 rfl
theorem dL_looks_283 : decode cL_looks 283 = .ok (.ifCond .ne 7, 3) := zf_at zf_52 32 rfl
theorem dL_looks_286 : decode cL_looks 286 = .ok (.fconst 0, 1) := zf_at zf_52 33 rfl
theorem dL_looks_287 : decode cL_looks 287 = .ok (.goto 10, 3) := zf_at zf_52 34 rfl
theorem dL_looks_290 : decode cL_looks 290 = .ok (.iload 7, 2) := zf_at zf_52 35 rfl
theorem dL_looks_292 : decode cL_looks 292 = .ok (.i2f, 1) := zf_at zf_52 36 rfl
theorem dL_looks_293 : decode cL_looks 293 = .ok (.iload 8, 2) := zf_at zf_52 37 rfl
theorem dL_looks_295 : decode cL_looks 295 = .ok (.i2f, 1) := zf_at zf_52 38 rfl
theorem dL_looks_296 : decode cL_looks 296 = .ok (.fdiv, 1) := zf_at zf_52 39 rfl
theorem zf_53 : zf_all cL_looks [(297, .fstore 12, 2), (299, .aload_n 1, 1), (300, .getfield 203, 3), (303, .iconst 0, 1), (304, .iaload, 1), (305, .ifCond .ne 7, 3), (308, .fconst 0, 1), (309, .goto 18, 3), (312, .aload_n 1, 1), (313, .getfield 203, 3), (316, .iconst 1, 1), (317, .iaload, 1), (318, .i2f, 1), (319, .aload_n 1, 1), (320, .getfield 203, 3), (323, .iconst 0, 1), (324, .iaload, 1), (325, .i2f, 1), (326, .fdiv, 1), (327, .fstore 13, 2), (329, .aload_n 0, 1), (330, .invokevirtual 251, 3), (333, .iload_n 2, 1), (334, .if_icmp .ne 59, 3), (337, .aload_n 0, 1), (338, .invokevirtual 254, 3), (341, .iload_n 3, 1), (342, .if_icmp .ne 51, 3), (345, .aload_n 0, 1), (346, .invokevirtual 257, 3), (349, .iload 4, 2), (351, .if_icmp .ne 42, 3), (354, .aload_n 0, 1), (355, .invokevirtual 260, 3), (358, .iload 5, 2), (360, .if_icmp .ne 33, 3), (363, .aload_n 0, 1), (364, .invokevirtual 263, 3), (367, .dload 10, 2), (369, .dcmp .l, 1)] = true := by decide +kernel
theorem dL_looks_297 : decode cL_looks 297 = .ok (.fstore 12, 2) := zf_at zf_53 0 rfl
theorem dL_looks_299 : decode cL_looks 299 = .ok (.aload_n 1, 1) := zf_at zf_53 1 rfl
theorem dL_looks_300 : decode cL_looks 300 = .ok (.getfield 203, 3) := zf_at zf_53 2 rfl
theorem dL_looks_303 : decode cL_looks 303 = .ok (.iconst 0, 1) := zf_at zf_53 3 rfl
theorem dL_looks_304 : decode cL_looks 304 = .ok (.iaload, 1) := zf_at zf_53 4 rfl
theorem dL_looks_305 : decode cL_looks 305 = .ok (.ifCond .ne 7, 3) := zf_at zf_53 5 rfl
theorem dL_looks_308 : decode cL_looks 308 = .ok (.fconst 0, 1) := zf_at zf_53 6 rfl
theorem dL_looks_309 : decode cL_looks 309 = .ok (.goto 18, 3) := zf_at zf_53 7 rfl
theorem dL_looks_312 : decode cL_looks 312 = .ok (.aload_n 1, 1) := zf_at zf_53 8 rfl
theorem dL_looks_313 : decode cL_looks 313 = .ok (.getfield 203, 3) := zf_at zf_53 9 rfl
theorem dL_looks_316 : decode cL_looks 316 = .ok (.iconst 1, 1) := zf_at zf_53 10 rfl
theorem dL_looks_317 : decode cL_looks 317 = .ok (.iaload, 1) := zf_at zf_53 11 rfl
theorem dL_looks_318 : decode cL_looks 318 = .ok (.i2f, 1) := zf_at zf_53 12 rfl
theorem dL_looks_319 : decode cL_looks 319 = .ok (.aload_n 1, 1) := zf_at zf_53 13 rfl
theorem dL_looks_320 : decode cL_looks 320 = .ok (.getfield 203, 3) := zf_at zf_53 14 rfl
theorem dL_looks_323 : decode cL_looks 323 = .ok (.iconst 0, 1) := zf_at zf_53 15 rfl
theorem dL_looks_324 : decode cL_looks 324 = .ok (.iaload, 1) := zf_at zf_53 16 rfl
theorem dL_looks_325 : decode cL_looks 325 = .ok (.i2f, 1) := zf_at zf_53 17 rfl
theorem dL_looks_326 : decode cL_looks 326 = .ok (.fdiv, 1) := zf_at zf_53 18 rfl
theorem dL_looks_327 : decode cL_looks 327 = .ok (.fstore 13, 2) := zf_at zf_53 19 rfl
theorem dL_looks_329 : decode cL_looks 329 = .ok (.aload_n 0, 1) := zf_at zf_53 20 rfl
theorem dL_looks_330 : decode cL_looks 330 = .ok (.invokevirtual 251, 3) := zf_at zf_53 21 rfl
theorem dL_looks_333 : decode cL_looks 333 = .ok (.iload_n 2, 1) := zf_at zf_53 22 rfl
theorem dL_looks_334 : decode cL_looks 334 = .ok (.if_icmp .ne 59, 3) := zf_at zf_53 23 rfl
theorem dL_looks_337 : decode cL_looks 337 = .ok (.aload_n 0, 1) := zf_at zf_53 24 rfl
theorem dL_looks_338 : decode cL_looks 338 = .ok (.invokevirtual 254, 3) := zf_at zf_53 25 rfl
theorem dL_looks_341 : decode cL_looks 341 = .ok (.iload_n 3, 1) := zf_at zf_53 26 rfl
theorem dL_looks_342 : decode cL_looks 342 = .ok (.if_icmp .ne 51, 3) := zf_at zf_53 27 rfl
theorem dL_looks_345 : decode cL_looks 345 = .ok (.aload_n 0, 1) := zf_at zf_53 28 rfl
theorem dL_looks_346 : decode cL_looks 346 = .ok (.invokevirtual 257, 3) := zf_at zf_53 29 rfl
theorem dL_looks_349 : decode cL_looks 349 = .ok (.iload 4, 2) := zf_at zf_53 30 rfl
theorem dL_looks_351 : decode cL_looks 351 = .ok (.if_icmp .ne 42, 3) := zf_at zf_53 31 rfl
theorem dL_looks_354 : decode cL_looks 354 = .ok (.aload_n 0, 1) := zf_at zf_53 32 rfl
theorem dL_looks_355 : decode cL_looks 355 = .ok (.invokevirtual 260, 3) := zf_at zf_53 33 rfl
theorem dL_looks_358 : decode cL_looks 358 = .ok (.iload 5, 2) := zf_at zf_53 34 rfl
theorem dL_looks_360 : decode cL_looks 360 = .ok (.if_icmp .ne 33, 3) := zf_at zf_53 35 rfl
theorem dL_looks_363 : decode cL_looks 363 = .ok (.aload_n 0, 1) := zf_at zf_53 36 rfl
theorem dL_looks_364 : decode cL_looks 364 = .ok (.invokevirtual 263, 3) := zf_at zf_53 37 rfl
theorem dL_looks_367 : decode cL_looks 367 = .ok (.dload 10, 2) := zf_at zf_53 38 rfl
theorem dL_looks_369 : decode cL_looks 369 = .ok (.dcmp .l, 1) := zf_at zf_53 39 rfl
theorem zf_54 : zf_all cL_looks [(370, .ifCond .ne 23, 3), (373, .aload_n 0, 1), (374, .invokevirtual 267, 3), (377, .fload 12, 2), (379, .fcmp .l, 1), (380, .ifCond .ne 13, 3), (383, .aload_n 0, 1), (384, .invokevirtual 271, 3), (387, .fload 13, 2), (389, .fcmp .l, 1), (390, .ifCond .eq 5, 3), (393, .iconst 0, 1), (394, .ireturn, 1), (395, .iconst 1, 1), (396, .istore 14, 2), (398, .iload 14, 2), (400, .bipush 100, 2), (402, .if_icmp .ge 45, 3), (405, .aload_n 0, 1), (406, .iconst 1, 1), (407, .iload 14, 2), (409, .invokevirtual 274, 3), (412, .aload_n 1, 1), (413, .iconst 1, 1), (414, .iload 14, 2), (416, .invokevirtual 278, 3), (419, .if_icmp .ne 20, 3), (422, .aload_n 0, 1), (423, .iconst 0, 1), (424, .iload 14, 2), (426, .invokevirtual 274, 3), (429, .aload_n 1, 1), (430, .iconst 0, 1), (431, .iload 14, 2), (433, .invokevirtual 278, 3), (436, .if_icmp .eq 5, 3), (439, .iconst 0, 1), (440, .ireturn, 1), (441, .iinc 14 1, 3), (444, .goto (-46), 3)] = true := by decide +kernel
theorem dL_looks_370 : decode cL_looks 370 = .ok (.ifCond .ne 23, 3) := zf_at zf_54 0 rfl
theorem dL_looks_373 : decode cL_looks 373 = .ok (.aload_n 0, 1) := zf_at zf_54 1 rfl
theorem dL_looks_374 : decode cL_looks 374 = .ok (.invokevirtual 267, 3) := zf_at zf_54 2 rfl
theorem dL_looks_377 : decode cL_looks 377 = .ok (.fload 12, 2) := zf_at zf_54 3 rfl
theorem dL_looks_379 : decode cL_looks 379 = .ok (.fcmp .l, 1) := zf_at zf_54 4 rfl
theorem dL_looks_380 : decode cL_looks 380 = .ok (.ifCond .ne 13, 3) := zf_at zf_54 5 rfl
theorem dL_looks_383 : decode cL_looks 383 = .ok (.aload_n 0, 1) := zf_at zf_54 6 rfl
theorem dL_looks_384 : decode cL_looks 384 = .ok (.invokevirtual 271, 3) := zf_at zf_54 7 rfl
theorem dL_looks_387 : decode cL_looks 387 = .ok (.fload 13, 2) := zf_at zf_54 8 rfl
theorem dL_looks_389 : decode cL_looks 389 = .ok (.fcmp .l, 1) := zf_at zf_54 9 rfl
theorem dL_looks_390 : decode cL_looks 390 = .ok (.ifCond .eq 5, 3) := zf_at zf_54 10 rfl
theorem dL_looks_393 : decode cL_looks 393 = .ok (.iconst 0, 1) := zf_at zf_54 11 rfl
theorem dL_looks_394 : decode cL_looks 394 = .ok (.ireturn, 1) := zf_at zf_54 12 rfl
theorem dL_looks_395 : decode cL_looks 395 = .ok (.iconst 1, 1) := zf_at zf_54 13 rfl
theorem dL_looks_396 : decode cL_looks 396 = .ok (.istore 14, 2) := zf_at zf_54 14 rfl
theorem dL_looks_398 : decode cL_looks 398 = .ok (.iload 14, 2) := zf_at zf_54 15 rfl
theorem dL_looks_400 : decode cL_looks 400 = .ok (.bipush 100, 2) := zf_at zf_54 16 rfl
theorem dL_looks_402 : decode cL_looks 402 = .ok (.if_icmp .ge 45, 3) := zf_at zf_54 17 rfl
theorem dL_looks_405 : decode cL_looks 405 = .ok (.aload_n 0, 1) := zf_at zf_54 18 rfl
theorem dL_looks_406 : decode cL_looks 406 = .ok (.iconst 1, 1) := zf_at zf_54 19 rfl
theorem dL_looks_407 : decode cL_looks 407 = .ok (.iload 14, 2) := zf_at zf_54 20 rfl
theorem dL_looks_409 : decode cL_looks 409 = .ok (.invokevirtual 274, 3) := zf_at zf_54 21 rfl
theorem dL_looks_412 : decode cL_looks 412 = .ok (.aload_n 1, 1) := zf_at zf_54 22 rfl
theorem dL_looks_413 : decode cL_looks 413 = .ok (.iconst 1, 1) := zf_at zf_54 23 rfl
theorem dL_looks_414 : decode cL_looks 414 = .ok (.iload 14, 2) := zf_at zf_54 24 rfl
theorem dL_looks_416 : decode cL_looks 416 = .ok (.invokevirtual 278, 3) := zf_at zf_54 25 rfl
theorem dL_looks_419 : decode cL_looks 419 = .ok (.if_icmp .ne 20, 3) := zf_at zf_54 26 rfl
theorem dL_looks_422 : decode cL_looks 422 = .ok (.aload_n 0, 1) := zf_at zf_54 27 rfl
theorem dL_looks_423 : decode cL_looks 423 = .ok (.iconst 0, 1) := zf_at zf_54 28 rfl
theorem dL_looks_424 : decode cL_looks 424 = .ok (.iload 14, 2) := zf_at zf_54 29 rfl
theorem dL_looks_426 : decode cL_looks 426 = .ok (.invokevirtual 274, 3) := zf_at zf_54 30 rfl
theorem dL_looks_429 : decode cL_looks 429 = .ok (.aload_n 1, 1) := zf_at zf_54 31 rfl
theorem dL_looks_430 : decode cL_looks 430 = .ok (.iconst 0, 1) := zf_at zf_54 32 rfl
theorem dL_looks_431 : decode cL_looks 431 = .ok (.iload 14, 2) := zf_at zf_54 33 rfl
theorem dL_looks_433 : decode cL_looks 433 = .ok (.invokevirtual 278, 3) := zf_at zf_54 34 rfl
theorem dL_looks_436 : decode cL_looks 436 = .ok (.if_icmp .eq 5, 3) := zf_at zf_54 35 rfl
theorem dL_looks_439 : decode cL_looks 439 = .ok (.iconst 0, 1) := zf_at zf_54 36 rfl
theorem dL_looks_440 : decode cL_looks 440 = .ok (.ireturn, 1) := zf_at zf_54 37 rfl
theorem dL_looks_441 : decode cL_looks 441 = .ok (.iinc 14 1, 3) := zf_at zf_54 38 rfl
theorem dL_looks_444 : decode cL_looks 444 = .ok (.goto (-46), 3) := zf_at zf_54 39 rfl
theorem zf_55 : zf_all cL_looks [(447, .aload_n 0, 1), (448, .aload_n 0, 1), (449, .invokevirtual 280, 3), (452, .aload 9, 2), (454, .invokevirtual 283, 3), (457, .invokestatic 287, 3), (460, .ireturn, 1)] = true := by decide +kernel
theorem dL_looks_447 : decode cL_looks 447 = .ok (.aload_n 0, 1) := zf_at zf_55 0 rfl
theorem dL_looks_448 : decode cL_looks 448 = .ok (.aload_n 0, 1) := zf_at zf_55 1 rfl
theorem dL_looks_449 : decode cL_looks 449 = .ok (.invokevirtual 280, 3) := zf_at zf_55 2 rfl
theorem dL_looks_452 : decode cL_looks 452 = .ok (.aload 9, 2) := zf_at zf_55 3 rfl
theorem dL_looks_454 : decode cL_looks 454 = .ok (.invokevirtual 283, 3) := zf_at zf_55 4 rfl
theorem dL_looks_457 : decode cL_looks 457 = .ok (.invokestatic 287, 3) := zf_at zf_55 5 rfl
theorem dL_looks_460 : decode cL_looks 460 = .ok (.ireturn, 1) := zf_at zf_55 6 rfl
theorem zf_56 : zf_all cL_rows [(0, .iconst 0, 1), (1, .istore_n 2, 1), (2, .iload_n 2, 1), (3, .aload_n 1, 1), (4, .getfield 134, 3), (7, .iconst 1, 1), (8, .iaload, 1), (9, .if_icmp .ge 195, 3), (12, .new 239, 3), (15, .dup, 1), (16, .invokespecial 241, 3), (19, .astore_n 3, 1), (20, .iconst 0, 1), (21, .istore 4, 2), (23, .iload 4, 2), (25, .aload_n 1, 1), (26, .getfield 142, 3), (29, .iload_n 2, 1), (30, .iaload, 1), (31, .if_icmp .ge 34, 3), (34, .aload_n 3, 1), (35, .ldc_w 291, 3), (38, .invokevirtual 293, 3), (41, .aload_n 1, 1), (42, .getfield 163, 3), (45, .iload_n 2, 1), (46, .aaload, 1), (47, .iload 4, 2), (49, .iaload, 1), (50, .invokevirtual 245, 3), (53, .bipush 93, 2), (55, .invokevirtual 242, 3), (58, .pop, 1), (59, .iinc 4 1, 3), (62, .goto (-39), 3), (65, .iconst 0, 1), (66, .istore 4, 2), (68, .iload 4, 2), (70, .aload_n 1, 1), (71, .getfield 145, 3)] = true := by decide +kernel
theorem dL_rows_0 : decode cL_rows 0 = .ok (.iconst 0, 1) := zf_at zf_56 0 rfl
theorem dL_rows_1 : decode cL_rows 1 = .ok (.istore_n 2, 1) := zf_at zf_56 1 rfl
theorem dL_rows_2 : decode cL_rows 2 = .ok (.iload_n 2, 1) := zf_at zf_56 2 rfl
theorem dL_rows_3 : decode cL_rows 3 = .ok (.aload_n 1, 1) := zf_at zf_56 3 rfl
theorem dL_rows_4 : decode cL_rows 4 = .ok (.getfield 134, 3) := zf_at zf_56 4 rfl
theorem dL_rows_7 : decode cL_rows 7 = .ok (.iconst 1, 1) := zf_at zf_56 5 rfl
theorem dL_rows_8 : decode cL_rows 8 = .ok (.iaload, 1) := zf_at zf_56 6 rfl
theorem dL_rows_9 : decode cL_rows 9 = .ok (.if_icmp .ge 195, 3) := zf_at zf_56 7 rfl
theorem dL_rows_12 : decode cL_rows 12 = .ok (.new 239, 3) := zf_at zf_56 8 rfl
theorem dL_rows_15 : decode cL_rows 15 = .ok (.dup, 1) := zf_at zf_56 9 rfl
theorem dL_rows_16 : decode cL_rows 16 = .ok (.invokespecial 241, 3) := zf_at zf_56 10 rfl
theorem dL_rows_19 : decode cL_rows 19 = .ok (.astore_n 3, 1) := zf_at zf_56 11 rfl
theorem dL_rows_20 : decode cL_rows 20 = .ok (.iconst 0, 1) := zf_at zf_56 12 rfl
theorem dL_rows_21 : decode cL_rows 21 = .ok (.istore 4, 2) := zf_at zf_56 13 rfl
theorem dL_rows_23 : decode cL_rows 23 = .ok (.iload 4, 2) := zf_at zf_56 14 rfl
theorem dL_rows_25 : decode cL_rows 25 = .ok (.aload_n 1, 1) := zf_at zf_56 15 rfl
theorem dL_rows_26 : decode cL_rows 26 = .ok (.getfield 142, 3) := zf_at zf_56 16 rfl
theorem dL_rows_29 : decode cL_rows 29 = .ok (.iload_n 2, 1) := zf_at zf_56 17 rfl
theorem dL_rows_30 : decode cL_rows 30 = .ok (.iaload, 1) := zf_at zf_56 18 rfl
theorem dL_rows_31 : decode cL_rows 31 = .ok (.if_icmp .ge 34, 3) := zf_at zf_56 19 rfl
theorem dL_rows_34 : decode cL_rows 34 = .ok (.aload_n 3, 1) := zf_at zf_56 20 rfl
theorem dL_rows_35 : decode cL_rows 35 = .ok (.ldc_w 291, 3) := zf_at zf_56 21 rfl
theorem dL_rows_38 : decode cL_rows 38 = .ok (.invokevirtual 293, 3) := zf_at zf_56 22 rfl
theorem dL_rows_41 : decode cL_rows 41 = .ok (.aload_n 1, 1) := zf_at zf_56 23 rfl
theorem dL_rows_42 : decode cL_rows 42 = .ok (.getfield 163, 3) := zf_at zf_56 24 rfl
theorem dL_rows_45 : decode cL_rows 45 = .ok (.iload_n 2, 1) := zf_at zf_56 25 rfl
theorem dL_rows_46 : decode cL_rows 46 = .ok (.aaload, 1) := zf_at zf_56 26 rfl
theorem dL_rows_47 : decode cL_rows 47 = .ok (.iload 4, 2) := zf_at zf_56 27 rfl
theorem dL_rows_49 : decode cL_rows 49 = .ok (.iaload, 1) := zf_at zf_56 28 rfl
theorem dL_rows_50 : decode cL_rows 50 = .ok (.invokevirtual 245, 3) := zf_at zf_56 29 rfl
theorem dL_rows_53 : decode cL_rows 53 = .ok (.bipush 93, 2) := zf_at zf_56 30 rfl
theorem dL_rows_55 : decode cL_rows 55 = .ok (.invokevirtual 242, 3) := zf_at zf_56 31 rfl
theorem dL_rows_58 : decode cL_rows 58 = .ok (.pop, 1) := zf_at zf_56 32 rfl
theorem dL_rows_59 : decode cL_rows 59 = .ok (.iinc 4 1, 3) := zf_at zf_56 33 rfl
theorem dL_rows_62 : decode cL_rows 62 = .ok (.goto (-39), 3) := zf_at zf_56 34 rfl
theorem dL_rows_65 : decode cL_rows 65 = .ok (.iconst 0, 1) := zf_at zf_56 35 rfl
theorem dL_rows_66 : decode cL_rows 66 = .ok (.istore 4, 2) := zf_at zf_56 36 rfl
theorem dL_rows_68 : decode cL_rows 68 = .ok (.iload 4, 2) := zf_at zf_56 37 rfl
theorem dL_rows_70 : decode cL_rows 70 = .ok (.aload_n 1, 1) := zf_at zf_56 38 rfl
theorem dL_rows_71 : decode cL_rows 71 = .ok (.getfield 145, 3) := zf_at zf_56 39 rfl
theorem zf_57 : zf_all cL_rows [(74, .iload_n 2, 1), (75, .iaload, 1), (76, .if_icmp .ge 57, 3), (79, .aload_n 3, 1), (80, .aload_n 1, 1), (81, .getfield 193, 3), (84, .aload_n 1, 1), (85, .getfield 167, 3), (88, .iload_n 2, 1), (89, .aaload, 1), (90, .iload 4, 2), (92, .iaload, 1), (93, .baload, 1), (94, .ifCond .eq 9, 3), (97, .ldc_w 296, 3), (100, .goto 6, 3), (103, .ldc_w 298, 3), (106, .invokevirtual 293, 3), (109, .aload_n 1, 1), (110, .getfield 181, 3), (113, .aload_n 1, 1), (114, .getfield 167, 3), (117, .iload_n 2, 1), (118, .aaload, 1), (119, .iload 4, 2), (121, .iaload, 1), (122, .iaload, 1), (123, .invokevirtual 245, 3), (126, .pop, 1), (127, .iinc 4 1, 3), (130, .goto (-62), 3), (133, .aload_n 1, 1), (134, .getfield 140, 3), (137, .iload_n 2, 1), (138, .iaload, 1), (139, .ifCond .lt 20, 3), (142, .aload_n 3, 1), (143, .ldc_w 300, 3), (146, .invokevirtual 293, 3), (149, .aload_n 1, 1)] = true := by decide +kernel
theorem dL_rows_74 : decode cL_rows 74 = .ok (.iload_n 2, 1) := zf_at zf_57 0 rfl
theorem dL_rows_75 : decode cL_rows 75 = .ok (.iaload, 1) := zf_at zf_57 1 rfl
theorem dL_rows_76 : decode cL_rows 76 = .ok (.if_icmp .ge 57, 3) := zf_at zf_57 2 rfl
theorem dL_rows_79 : decode cL_rows 79 = .ok (.aload_n 3, 1) := zf_at zf_57 3 rfl
theorem dL_rows_80 : decode cL_rows 80 = .ok (.aload_n 1, 1) := zf_at zf_57 4 rfl
theorem dL_rows_81 : decode cL_rows 81 = .ok (.getfield 193, 3) := zf_at zf_57 5 rfl
theorem dL_rows_84 : decode cL_rows 84 = .ok (.aload_n 1, 1) := zf_at zf_57 6 rfl
theorem dL_rows_85 : decode cL_rows 85 = .ok (.getfield 167, 3) := zf_at zf_57 7 rfl
theorem dL_rows_88 : decode cL_rows 88 = .ok (.iload_n 2, 1) := zf_at zf_57 8 rfl
theorem dL_rows_89 : decode cL_rows 89 = .ok (.aaload, 1) := zf_at zf_57 9 rfl
theorem dL_rows_90 : decode cL_rows 90 = .ok (.iload 4, 2) := zf_at zf_57 10 rfl
theorem dL_rows_92 : decode cL_rows 92 = .ok (.iaload, 1) := zf_at zf_57 11 rfl
theorem dL_rows_93 : decode cL_rows 93 = .ok (.baload, 1) := zf_at zf_57 12 rfl
theorem dL_rows_94 : decode cL_rows 94 = .ok (.ifCond .eq 9, 3) := zf_at zf_57 13 rfl
theorem dL_rows_97 : decode cL_rows 97 = .ok (.ldc_w 296, 3) := zf_at zf_57 14 rfl
theorem dL_rows_100 : decode cL_rows 100 = .ok (.goto 6, 3) := zf_at zf_57 15 rfl
theorem dL_rows_103 : decode cL_rows 103 = .ok (.ldc_w 298, 3) := zf_at zf_57 16 rfl
theorem dL_rows_106 : decode cL_rows 106 = .ok (.invokevirtual 293, 3) := zf_at zf_57 17 rfl
theorem dL_rows_109 : decode cL_rows 109 = .ok (.aload_n 1, 1) := zf_at zf_57 18 rfl
theorem dL_rows_110 : decode cL_rows 110 = .ok (.getfield 181, 3) := zf_at zf_57 19 rfl
theorem dL_rows_113 : decode cL_rows 113 = .ok (.aload_n 1, 1) := zf_at zf_57 20 rfl
theorem dL_rows_114 : decode cL_rows 114 = .ok (.getfield 167, 3) := zf_at zf_57 21 rfl
theorem dL_rows_117 : decode cL_rows 117 = .ok (.iload_n 2, 1) := zf_at zf_57 22 rfl
theorem dL_rows_118 : decode cL_rows 118 = .ok (.aaload, 1) := zf_at zf_57 23 rfl
theorem dL_rows_119 : decode cL_rows 119 = .ok (.iload 4, 2) := zf_at zf_57 24 rfl
theorem dL_rows_121 : decode cL_rows 121 = .ok (.iaload, 1) := zf_at zf_57 25 rfl
theorem dL_rows_122 : decode cL_rows 122 = .ok (.iaload, 1) := zf_at zf_57 26 rfl
theorem dL_rows_123 : decode cL_rows 123 = .ok (.invokevirtual 245, 3) := zf_at zf_57 27 rfl
theorem dL_rows_126 : decode cL_rows 126 = .ok (.pop, 1) := zf_at zf_57 28 rfl
theorem dL_rows_127 : decode cL_rows 127 = .ok (.iinc 4 1, 3) := zf_at zf_57 29 rfl
theorem dL_rows_130 : decode cL_rows 130 = .ok (.goto (-62), 3) := zf_at zf_57 30 rfl
theorem dL_rows_133 : decode cL_rows 133 = .ok (.aload_n 1, 1) := zf_at zf_57 31 rfl
theorem dL_rows_134 : decode cL_rows 134 = .ok (.getfield 140, 3) := zf_at zf_57 32 rfl
theorem dL_rows_137 : decode cL_rows 137 = .ok (.iload_n 2, 1) := zf_at zf_57 33 rfl
theorem dL_rows_138 : decode cL_rows 138 = .ok (.iaload, 1) := zf_at zf_57 34 rfl
theorem dL_rows_139 : decode cL_rows 139 = .ok (.ifCond .lt 20, 3) := zf_at zf_57 35 rfl
theorem dL_rows_142 : decode cL_rows 142 = .ok (.aload_n 3, 1) := zf_at zf_57 36 rfl
theorem dL_rows_143 : decode cL_rows 143 = .ok (.ldc_w 300, 3) := zf_at zf_57 37 rfl
theorem dL_rows_146 : decode cL_rows 146 = .ok (.invokevirtual 293, 3) := zf_at zf_57 38 rfl
theorem dL_rows_149 : decode cL_rows 149 = .ok (.aload_n 1, 1) := zf_at zf_57 39 rfl
