/-! ===== the law: its instructions ===== -/
theorem d332_0 : decode (cdN 332) 0 = .ok (.new 8, 3) := by decide +kernel
theorem n332_8 : clN (owN 332) 8 = some (9, 115, 116, 92) := by decide +kernel
theorem d332_3 : decode (cdN 332) 3 = .ok (.dup, 1) := by decide +kernel
theorem d332_4 : decode (cdN 332) 4 = .ok (.invokespecial 136, 3) := by decide +kernel
theorem c332_136 : ctN (owN 332) 136 = some (2, 75, [117, 118, 92]) := by decide +kernel
theorem d332_7 : decode (cdN 332) 7 = .ok (.astore_n 1, 1) := by decide +kernel
theorem d332_8 : decode (cdN 332) 8 = .ok (.new 137, 3) := by decide +kernel
theorem n332_137 : clN (owN 332) 137 = some (10, 1358, 1359, 104) := by decide +kernel
theorem d332_11 : decode (cdN 332) 11 = .ok (.dup, 1) := by decide +kernel
theorem d332_12 : decode (cdN 332) 12 = .ok (.invokespecial 139, 3) := by decide +kernel
theorem c332_139 : ctN (owN 332) 139 = some (2, 146, [1360, 1361, 104]) := by decide +kernel
theorem d332_15 : decode (cdN 332) 15 = .ok (.astore_n 2, 1) := by decide +kernel
theorem d332_16 : decode (cdN 332) 16 = .ok (.iconst 1, 1) := by decide +kernel
theorem d332_17 : decode (cdN 332) 17 = .ok (.newarray .long, 2) := by decide +kernel
theorem d332_19 : decode (cdN 332) 19 = .ok (.astore_n 3, 1) := by decide +kernel
theorem d332_20 : decode (cdN 332) 20 = .ok (.iconst 0, 1) := by decide +kernel
theorem d332_21 : decode (cdN 332) 21 = .ok (.istore 4, 2) := by decide +kernel
theorem d332_23 : decode (cdN 332) 23 = .ok (.iload 4, 2) := by decide +kernel
theorem d332_25 : decode (cdN 332) 25 = .ok (.aload_n 0, 1) := by decide +kernel
theorem d332_26 : decode (cdN 332) 26 = .ok (.arraylength, 1) := by decide +kernel
theorem d332_27 : decode (cdN 332) 27 = .ok (.bipush 6, 2) := by decide +kernel
theorem d332_29 : decode (cdN 332) 29 = .ok (.isub, 1) := by decide +kernel
theorem d332_30 : decode (cdN 332) 30 = .ok (.if_icmp .gt 3008, 3) := by decide +kernel
theorem d332_33 : decode (cdN 332) 33 = .ok (.aload_n 0, 1) := by decide +kernel
theorem d332_34 : decode (cdN 332) 34 = .ok (.iload 4, 2) := by decide +kernel
theorem d332_36 : decode (cdN 332) 36 = .ok (.iaload, 1) := by decide +kernel
theorem d332_37 : decode (cdN 332) 37 = .ok (.bipush 63, 2) := by decide +kernel
theorem d332_39 : decode (cdN 332) 39 = .ok (.iand, 1) := by decide +kernel
theorem d332_40 : decode (cdN 332) 40 = .ok (.tableswitch 2992 0 63 #[272, 376, 432, 476, 520, 533, 546, 559, 572, 585, 598, 661, 717, 773, 786, 799, 855, 911, 967, 980, 1036, 1104, 1172, 1228, 1284, 1347, 1415, 1478, 1534, 1547, 1627, 1695, 1763, 1831, 1899, 1986, 2042, 2098, 2111, 2124, 2137, 2150, 2163, 2176, 2189, 2202, 2215, 2228, 2241, 2254, 2297, 2338, 2382, 2438, 2494, 2550, 2606, 2662, 2742, 2798, 2842, 2855, 2899, 2967], 272) := by decide +kernel
theorem d332_312 : decode (cdN 332) 312 = .ok (.aload_n 1, 1) := by decide +kernel
theorem d332_313 : decode (cdN 332) 313 = .ok (.aload_n 0, 1) := by decide +kernel
theorem d332_314 : decode (cdN 332) 314 = .ok (.iload 4, 2) := by decide +kernel
theorem d332_316 : decode (cdN 332) 316 = .ok (.iconst 1, 1) := by decide +kernel
theorem d332_317 : decode (cdN 332) 317 = .ok (.iadd, 1) := by decide +kernel
theorem d332_318 : decode (cdN 332) 318 = .ok (.iaload, 1) := by decide +kernel
theorem d332_319 : decode (cdN 332) 319 = .ok (.aload_n 0, 1) := by decide +kernel
theorem d332_320 : decode (cdN 332) 320 = .ok (.iload 4, 2) := by decide +kernel
theorem d332_322 : decode (cdN 332) 322 = .ok (.iconst 2, 1) := by decide +kernel
theorem d332_323 : decode (cdN 332) 323 = .ok (.iadd, 1) := by decide +kernel
theorem d332_324 : decode (cdN 332) 324 = .ok (.iaload, 1) := by decide +kernel
theorem d332_325 : decode (cdN 332) 325 = .ok (.aload_n 0, 1) := by decide +kernel
theorem d332_326 : decode (cdN 332) 326 = .ok (.iload 4, 2) := by decide +kernel
theorem d332_328 : decode (cdN 332) 328 = .ok (.iconst 3, 1) := by decide +kernel
theorem d332_329 : decode (cdN 332) 329 = .ok (.iadd, 1) := by decide +kernel
theorem d332_330 : decode (cdN 332) 330 = .ok (.iaload, 1) := by decide +kernel
theorem d332_331 : decode (cdN 332) 331 = .ok (.aload_n 0, 1) := by decide +kernel
theorem d332_332 : decode (cdN 332) 332 = .ok (.iload 4, 2) := by decide +kernel
theorem d332_334 : decode (cdN 332) 334 = .ok (.iconst 4, 1) := by decide +kernel
theorem d332_335 : decode (cdN 332) 335 = .ok (.iadd, 1) := by decide +kernel
theorem d332_336 : decode (cdN 332) 336 = .ok (.iaload, 1) := by decide +kernel
theorem d332_337 : decode (cdN 332) 337 = .ok (.aload_n 0, 1) := by decide +kernel
theorem d332_338 : decode (cdN 332) 338 = .ok (.iload 4, 2) := by decide +kernel
theorem d332_340 : decode (cdN 332) 340 = .ok (.iconst 5, 1) := by decide +kernel
theorem d332_341 : decode (cdN 332) 341 = .ok (.iadd, 1) := by decide +kernel
theorem d332_342 : decode (cdN 332) 342 = .ok (.iaload, 1) := by decide +kernel
theorem d332_343 : decode (cdN 332) 343 = .ok (.aload_n 3, 1) := by decide +kernel
theorem d332_344 : decode (cdN 332) 344 = .ok (.invokestatic 140, 3) := by decide +kernel
theorem c332_140 : ctN (owN 332) 140 = some (12, 294, [714, 715, 91]) := by decide +kernel
theorem d332_347 : decode (cdN 332) 347 = .ok (.istore 5, 2) := by decide +kernel
theorem d332_349 : decode (cdN 332) 349 = .ok (.aload_n 2, 1) := by decide +kernel
theorem d332_350 : decode (cdN 332) 350 = .ok (.aload_n 0, 1) := by decide +kernel
theorem d332_351 : decode (cdN 332) 351 = .ok (.iload 4, 2) := by decide +kernel
theorem d332_353 : decode (cdN 332) 353 = .ok (.iconst 1, 1) := by decide +kernel
theorem d332_354 : decode (cdN 332) 354 = .ok (.iadd, 1) := by decide +kernel
theorem d332_355 : decode (cdN 332) 355 = .ok (.iaload, 1) := by decide +kernel
theorem d332_356 : decode (cdN 332) 356 = .ok (.aload_n 0, 1) := by decide +kernel
theorem d332_357 : decode (cdN 332) 357 = .ok (.iload 4, 2) := by decide +kernel
theorem d332_359 : decode (cdN 332) 359 = .ok (.iconst 2, 1) := by decide +kernel
theorem d332_360 : decode (cdN 332) 360 = .ok (.iadd, 1) := by decide +kernel
theorem d332_361 : decode (cdN 332) 361 = .ok (.iaload, 1) := by decide +kernel
theorem d332_362 : decode (cdN 332) 362 = .ok (.aload_n 0, 1) := by decide +kernel
theorem d332_363 : decode (cdN 332) 363 = .ok (.iload 4, 2) := by decide +kernel
theorem d332_365 : decode (cdN 332) 365 = .ok (.iconst 3, 1) := by decide +kernel
theorem d332_366 : decode (cdN 332) 366 = .ok (.iadd, 1) := by decide +kernel
theorem d332_367 : decode (cdN 332) 367 = .ok (.iaload, 1) := by decide +kernel
theorem d332_368 : decode (cdN 332) 368 = .ok (.aload_n 0, 1) := by decide +kernel
theorem d332_369 : decode (cdN 332) 369 = .ok (.iload 4, 2) := by decide +kernel
theorem d332_371 : decode (cdN 332) 371 = .ok (.iconst 4, 1) := by decide +kernel
theorem d332_372 : decode (cdN 332) 372 = .ok (.iadd, 1) := by decide +kernel
theorem d332_373 : decode (cdN 332) 373 = .ok (.iaload, 1) := by decide +kernel
theorem d332_374 : decode (cdN 332) 374 = .ok (.aload_n 0, 1) := by decide +kernel
theorem d332_375 : decode (cdN 332) 375 = .ok (.iload 4, 2) := by decide +kernel
theorem d332_377 : decode (cdN 332) 377 = .ok (.iconst 5, 1) := by decide +kernel
theorem d332_378 : decode (cdN 332) 378 = .ok (.iadd, 1) := by decide +kernel
theorem d332_379 : decode (cdN 332) 379 = .ok (.iaload, 1) := by decide +kernel
theorem d332_380 : decode (cdN 332) 380 = .ok (.invokevirtual 145, 3) := by decide +kernel
theorem c332_145 : ctN (owN 332) 145 = some (0, 200, [1548, 1549, 1550, 104]) := by decide +kernel
theorem d332_383 : decode (cdN 332) 383 = .ok (.istore 6, 2) := by decide +kernel
theorem d332_385 : decode (cdN 332) 385 = .ok (.aload_n 2, 1) := by decide +kernel
theorem d332_386 : decode (cdN 332) 386 = .ok (.invokevirtual 146, 3) := by decide +kernel
theorem c332_146 : ctN (owN 332) 146 = some (0, 147, [1544, 1545, 1546, 104]) := by decide +kernel
theorem d332_389 : decode (cdN 332) 389 = .ok (.iload 5, 2) := by decide +kernel
theorem d332_391 : decode (cdN 332) 391 = .ok (.if_icmp .eq 5, 3) := by decide +kernel
theorem d332_394 : decode (cdN 332) 394 = .ok (.iconst 0, 1) := by decide +kernel
theorem d332_395 : decode (cdN 332) 395 = .ok (.ireturn, 1) := by decide +kernel
theorem d332_396 : decode (cdN 332) 396 = .ok (.iload 5, 2) := by decide +kernel
theorem d332_398 : decode (cdN 332) 398 = .ok (.ifCond .ne 15, 3) := by decide +kernel
theorem d332_401 : decode (cdN 332) 401 = .ok (.aload_n 3, 1) := by decide +kernel
theorem d332_402 : decode (cdN 332) 402 = .ok (.iconst 0, 1) := by decide +kernel
theorem d332_403 : decode (cdN 332) 403 = .ok (.laload, 1) := by decide +kernel
theorem d332_404 : decode (cdN 332) 404 = .ok (.iload 6, 2) := by decide +kernel
theorem d332_406 : decode (cdN 332) 406 = .ok (.i2l, 1) := by decide +kernel
theorem d332_407 : decode (cdN 332) 407 = .ok (.lcmp, 1) := by decide +kernel
theorem d332_408 : decode (cdN 332) 408 = .ok (.ifCond .eq 5, 3) := by decide +kernel
theorem d332_411 : decode (cdN 332) 411 = .ok (.iconst 0, 1) := by decide +kernel
theorem d332_412 : decode (cdN 332) 412 = .ok (.ireturn, 1) := by decide +kernel
theorem d332_413 : decode (cdN 332) 413 = .ok (.goto 2619, 3) := by decide +kernel
theorem d332_416 : decode (cdN 332) 416 = .ok (.aload_n 1, 1) := by decide +kernel
theorem d332_417 : decode (cdN 332) 417 = .ok (.aload_n 0, 1) := by decide +kernel
theorem d332_418 : decode (cdN 332) 418 = .ok (.iload 4, 2) := by decide +kernel
theorem d332_420 : decode (cdN 332) 420 = .ok (.iconst 1, 1) := by decide +kernel
theorem d332_421 : decode (cdN 332) 421 = .ok (.iadd, 1) := by decide +kernel
theorem d332_422 : decode (cdN 332) 422 = .ok (.iaload, 1) := by decide +kernel
theorem d332_423 : decode (cdN 332) 423 = .ok (.aload_n 3, 1) := by decide +kernel
theorem d332_424 : decode (cdN 332) 424 = .ok (.invokestatic 149, 3) := by decide +kernel
theorem c332_149 : ctN (owN 332) 149 = some (12, 295, [795, 796, 91]) := by decide +kernel
theorem d332_427 : decode (cdN 332) 427 = .ok (.istore 5, 2) := by decide +kernel
theorem d332_429 : decode (cdN 332) 429 = .ok (.aload_n 2, 1) := by decide +kernel
theorem d332_430 : decode (cdN 332) 430 = .ok (.aload_n 0, 1) := by decide +kernel
theorem d332_431 : decode (cdN 332) 431 = .ok (.iload 4, 2) := by decide +kernel
theorem d332_433 : decode (cdN 332) 433 = .ok (.iconst 1, 1) := by decide +kernel
theorem d332_434 : decode (cdN 332) 434 = .ok (.iadd, 1) := by decide +kernel
theorem d332_435 : decode (cdN 332) 435 = .ok (.iaload, 1) := by decide +kernel
theorem d332_436 : decode (cdN 332) 436 = .ok (.invokevirtual 152, 3) := by decide +kernel
theorem c332_152 : ctN (owN 332) 152 = some (0, 201, [1556, 1557, 1558, 104]) := by decide +kernel
theorem d332_439 : decode (cdN 332) 439 = .ok (.istore 6, 2) := by decide +kernel
theorem d332_441 : decode (cdN 332) 441 = .ok (.aload_n 2, 1) := by decide +kernel
theorem d332_442 : decode (cdN 332) 442 = .ok (.invokevirtual 146, 3) := by decide +kernel
theorem d332_445 : decode (cdN 332) 445 = .ok (.iload 5, 2) := by decide +kernel
theorem d332_447 : decode (cdN 332) 447 = .ok (.if_icmp .eq 5, 3) := by decide +kernel
theorem d332_450 : decode (cdN 332) 450 = .ok (.iconst 0, 1) := by decide +kernel
theorem d332_451 : decode (cdN 332) 451 = .ok (.ireturn, 1) := by decide +kernel
theorem d332_452 : decode (cdN 332) 452 = .ok (.iload 5, 2) := by decide +kernel
theorem d332_454 : decode (cdN 332) 454 = .ok (.ifCond .ne 15, 3) := by decide +kernel
theorem d332_457 : decode (cdN 332) 457 = .ok (.aload_n 3, 1) := by decide +kernel
theorem d332_458 : decode (cdN 332) 458 = .ok (.iconst 0, 1) := by decide +kernel
theorem d332_459 : decode (cdN 332) 459 = .ok (.laload, 1) := by decide +kernel
theorem d332_460 : decode (cdN 332) 460 = .ok (.iload 6, 2) := by decide +kernel
theorem d332_462 : decode (cdN 332) 462 = .ok (.i2l, 1) := by decide +kernel
theorem d332_463 : decode (cdN 332) 463 = .ok (.lcmp, 1) := by decide +kernel
theorem d332_464 : decode (cdN 332) 464 = .ok (.ifCond .eq 5, 3) := by decide +kernel
theorem d332_467 : decode (cdN 332) 467 = .ok (.iconst 0, 1) := by decide +kernel
theorem d332_468 : decode (cdN 332) 468 = .ok (.ireturn, 1) := by decide +kernel
theorem d332_469 : decode (cdN 332) 469 = .ok (.goto 2563, 3) := by decide +kernel
theorem d332_472 : decode (cdN 332) 472 = .ok (.aload_n 1, 1) := by decide +kernel
theorem d332_473 : decode (cdN 332) 473 = .ok (.aload_n 3, 1) := by decide +kernel
theorem d332_474 : decode (cdN 332) 474 = .ok (.invokestatic 153, 3) := by decide +kernel
theorem c332_153 : ctN (owN 332) 153 = some (12, 296, [819, 820, 91]) := by decide +kernel
theorem d332_477 : decode (cdN 332) 477 = .ok (.istore 5, 2) := by decide +kernel
theorem d332_479 : decode (cdN 332) 479 = .ok (.aload_n 2, 1) := by decide +kernel
theorem d332_480 : decode (cdN 332) 480 = .ok (.invokevirtual 156, 3) := by decide +kernel
theorem c332_156 : ctN (owN 332) 156 = some (0, 215, [1568, 1368, 1369, 104]) := by decide +kernel
theorem d332_483 : decode (cdN 332) 483 = .ok (.istore 6, 2) := by decide +kernel
theorem d332_485 : decode (cdN 332) 485 = .ok (.aload_n 2, 1) := by decide +kernel
theorem d332_486 : decode (cdN 332) 486 = .ok (.invokevirtual 146, 3) := by decide +kernel
theorem d332_489 : decode (cdN 332) 489 = .ok (.iload 5, 2) := by decide +kernel
theorem d332_491 : decode (cdN 332) 491 = .ok (.if_icmp .eq 5, 3) := by decide +kernel
theorem d332_494 : decode (cdN 332) 494 = .ok (.iconst 0, 1) := by decide +kernel
theorem d332_495 : decode (cdN 332) 495 = .ok (.ireturn, 1) := by decide +kernel
theorem d332_496 : decode (cdN 332) 496 = .ok (.iload 5, 2) := by decide +kernel
theorem d332_498 : decode (cdN 332) 498 = .ok (.ifCond .ne 15, 3) := by decide +kernel
theorem d332_501 : decode (cdN 332) 501 = .ok (.aload_n 3, 1) := by decide +kernel
theorem d332_502 : decode (cdN 332) 502 = .ok (.iconst 0, 1) := by decide +kernel
theorem d332_503 : decode (cdN 332) 503 = .ok (.laload, 1) := by decide +kernel
theorem d332_504 : decode (cdN 332) 504 = .ok (.iload 6, 2) := by decide +kernel
theorem d332_506 : decode (cdN 332) 506 = .ok (.i2l, 1) := by decide +kernel
theorem d332_507 : decode (cdN 332) 507 = .ok (.lcmp, 1) := by decide +kernel
theorem d332_508 : decode (cdN 332) 508 = .ok (.ifCond .eq 5, 3) := by decide +kernel
theorem d332_511 : decode (cdN 332) 511 = .ok (.iconst 0, 1) := by decide +kernel
theorem d332_512 : decode (cdN 332) 512 = .ok (.ireturn, 1) := by decide +kernel
theorem d332_513 : decode (cdN 332) 513 = .ok (.goto 2519, 3) := by decide +kernel
theorem d332_516 : decode (cdN 332) 516 = .ok (.aload_n 1, 1) := by decide +kernel
theorem d332_517 : decode (cdN 332) 517 = .ok (.aload_n 3, 1) := by decide +kernel
theorem d332_518 : decode (cdN 332) 518 = .ok (.invokestatic 157, 3) := by decide +kernel
theorem c332_157 : ctN (owN 332) 157 = some (12, 297, [930, 931, 91]) := by decide +kernel
theorem d332_521 : decode (cdN 332) 521 = .ok (.istore 5, 2) := by decide +kernel
theorem d332_523 : decode (cdN 332) 523 = .ok (.aload_n 2, 1) := by decide +kernel
theorem d332_524 : decode (cdN 332) 524 = .ok (.invokevirtual 159, 3) := by decide +kernel
theorem c332_159 : ctN (owN 332) 159 = some (0, 226, [1569, 1570, 1571, 104]) := by decide +kernel
theorem d332_527 : decode (cdN 332) 527 = .ok (.istore 6, 2) := by decide +kernel
theorem d332_529 : decode (cdN 332) 529 = .ok (.aload_n 2, 1) := by decide +kernel
theorem d332_530 : decode (cdN 332) 530 = .ok (.invokevirtual 146, 3) := by decide +kernel
theorem d332_533 : decode (cdN 332) 533 = .ok (.iload 5, 2) := by decide +kernel
theorem d332_535 : decode (cdN 332) 535 = .ok (.if_icmp .eq 5, 3) := by decide +kernel
theorem d332_538 : decode (cdN 332) 538 = .ok (.iconst 0, 1) := by decide +kernel
theorem d332_539 : decode (cdN 332) 539 = .ok (.ireturn, 1) := by decide +kernel
theorem d332_540 : decode (cdN 332) 540 = .ok (.iload 5, 2) := by decide +kernel
theorem d332_542 : decode (cdN 332) 542 = .ok (.ifCond .ne 15, 3) := by decide +kernel
theorem d332_545 : decode (cdN 332) 545 = .ok (.aload_n 3, 1) := by decide +kernel
theorem d332_546 : decode (cdN 332) 546 = .ok (.iconst 0, 1) := by decide +kernel
theorem d332_547 : decode (cdN 332) 547 = .ok (.laload, 1) := by decide +kernel
theorem d332_548 : decode (cdN 332) 548 = .ok (.iload 6, 2) := by decide +kernel
theorem d332_550 : decode (cdN 332) 550 = .ok (.i2l, 1) := by decide +kernel
theorem d332_551 : decode (cdN 332) 551 = .ok (.lcmp, 1) := by decide +kernel
theorem d332_552 : decode (cdN 332) 552 = .ok (.ifCond .eq 5, 3) := by decide +kernel
theorem d332_555 : decode (cdN 332) 555 = .ok (.iconst 0, 1) := by decide +kernel
theorem d332_556 : decode (cdN 332) 556 = .ok (.ireturn, 1) := by decide +kernel
theorem d332_557 : decode (cdN 332) 557 = .ok (.goto 2475, 3) := by decide +kernel
theorem d332_560 : decode (cdN 332) 560 = .ok (.aload_n 1, 1) := by decide +kernel
theorem d332_561 : decode (cdN 332) 561 = .ok (.invokevirtual 160, 3) := by decide +kernel
theorem c332_160 : ctN (owN 332) 160 = some (0, 80, [504, 505, 506, 92]) := by decide +kernel
theorem d332_564 : decode (cdN 332) 564 = .ok (.aload_n 2, 1) := by decide +kernel
theorem d332_565 : decode (cdN 332) 565 = .ok (.invokevirtual 163, 3) := by decide +kernel
theorem c332_163 : ctN (owN 332) 163 = some (0, 211, [1560, 1561, 1562, 104]) := by decide +kernel
theorem d332_568 : decode (cdN 332) 568 = .ok (.if_icmp .eq 2464, 3) := by decide +kernel
theorem d332_571 : decode (cdN 332) 571 = .ok (.iconst 0, 1) := by decide +kernel
theorem d332_572 : decode (cdN 332) 572 = .ok (.ireturn, 1) := by decide +kernel
theorem d332_573 : decode (cdN 332) 573 = .ok (.aload_n 1, 1) := by decide +kernel
theorem d332_574 : decode (cdN 332) 574 = .ok (.invokevirtual 164, 3) := by decide +kernel
theorem c332_164 : ctN (owN 332) 164 = some (0, 81, [508, 509, 510, 92]) := by decide +kernel
theorem d332_577 : decode (cdN 332) 577 = .ok (.aload_n 2, 1) := by decide +kernel
theorem d332_578 : decode (cdN 332) 578 = .ok (.invokevirtual 167, 3) := by decide +kernel
theorem c332_167 : ctN (owN 332) 167 = some (0, 212, [1564, 1565, 1566, 104]) := by decide +kernel
theorem d332_581 : decode (cdN 332) 581 = .ok (.if_icmp .eq 2451, 3) := by decide +kernel
theorem d332_584 : decode (cdN 332) 584 = .ok (.iconst 0, 1) := by decide +kernel
theorem d332_585 : decode (cdN 332) 585 = .ok (.ireturn, 1) := by decide +kernel
theorem d332_586 : decode (cdN 332) 586 = .ok (.aload_n 1, 1) := by decide +kernel
theorem d332_587 : decode (cdN 332) 587 = .ok (.invokevirtual 168, 3) := by decide +kernel
theorem c332_168 : ctN (owN 332) 168 = some (0, 82, [512, 513, 514, 92]) := by decide +kernel
theorem d332_590 : decode (cdN 332) 590 = .ok (.aload_n 2, 1) := by decide +kernel
theorem d332_591 : decode (cdN 332) 591 = .ok (.invokevirtual 171, 3) := by decide +kernel
theorem c332_171 : ctN (owN 332) 171 = some (0, 228, [1748, 1749, 1750, 104]) := by decide +kernel
theorem d332_594 : decode (cdN 332) 594 = .ok (.if_icmp .eq 2438, 3) := by decide +kernel
theorem d332_597 : decode (cdN 332) 597 = .ok (.iconst 0, 1) := by decide +kernel
theorem d332_598 : decode (cdN 332) 598 = .ok (.ireturn, 1) := by decide +kernel
theorem d332_599 : decode (cdN 332) 599 = .ok (.aload_n 1, 1) := by decide +kernel
theorem d332_600 : decode (cdN 332) 600 = .ok (.invokevirtual 172, 3) := by decide +kernel
theorem c332_172 : ctN (owN 332) 172 = some (0, 83, [516, 517, 518, 92]) := by decide +kernel
theorem d332_603 : decode (cdN 332) 603 = .ok (.aload_n 2, 1) := by decide +kernel
theorem d332_604 : decode (cdN 332) 604 = .ok (.invokevirtual 175, 3) := by decide +kernel
theorem c332_175 : ctN (owN 332) 175 = some (0, 229, [1756, 1757, 1758, 104]) := by decide +kernel
theorem d332_607 : decode (cdN 332) 607 = .ok (.if_icmp .eq 2425, 3) := by decide +kernel
theorem d332_610 : decode (cdN 332) 610 = .ok (.iconst 0, 1) := by decide +kernel
theorem d332_611 : decode (cdN 332) 611 = .ok (.ireturn, 1) := by decide +kernel
theorem d332_612 : decode (cdN 332) 612 = .ok (.aload_n 1, 1) := by decide +kernel
theorem d332_613 : decode (cdN 332) 613 = .ok (.invokevirtual 176, 3) := by decide +kernel
theorem c332_176 : ctN (owN 332) 176 = some (0, 84, [520, 521, 522, 92]) := by decide +kernel
theorem d332_616 : decode (cdN 332) 616 = .ok (.aload_n 2, 1) := by decide +kernel
theorem d332_617 : decode (cdN 332) 617 = .ok (.invokevirtual 179, 3) := by decide +kernel
theorem c332_179 : ctN (owN 332) 179 = some (0, 230, [1760, 1761, 1762, 104]) := by decide +kernel
theorem d332_620 : decode (cdN 332) 620 = .ok (.if_icmp .eq 2412, 3) := by decide +kernel
theorem d332_623 : decode (cdN 332) 623 = .ok (.iconst 0, 1) := by decide +kernel
theorem d332_624 : decode (cdN 332) 624 = .ok (.ireturn, 1) := by decide +kernel
theorem d332_625 : decode (cdN 332) 625 = .ok (.aload_n 1, 1) := by decide +kernel
theorem d332_626 : decode (cdN 332) 626 = .ok (.invokevirtual 180, 3) := by decide +kernel
theorem c332_180 : ctN (owN 332) 180 = some (0, 85, [524, 525, 526, 92]) := by decide +kernel
theorem d332_629 : decode (cdN 332) 629 = .ok (.aload_n 2, 1) := by decide +kernel
theorem d332_630 : decode (cdN 332) 630 = .ok (.invokevirtual 183, 3) := by decide +kernel
theorem c332_183 : ctN (owN 332) 183 = some (0, 231, [1764, 1765, 1766, 104]) := by decide +kernel
theorem d332_633 : decode (cdN 332) 633 = .ok (.if_icmp .eq 2399, 3) := by decide +kernel
theorem d332_636 : decode (cdN 332) 636 = .ok (.iconst 0, 1) := by decide +kernel
theorem d332_637 : decode (cdN 332) 637 = .ok (.ireturn, 1) := by decide +kernel
theorem d332_638 : decode (cdN 332) 638 = .ok (.aload_n 1, 1) := by decide +kernel
theorem d332_639 : decode (cdN 332) 639 = .ok (.aload_n 0, 1) := by decide +kernel
theorem d332_640 : decode (cdN 332) 640 = .ok (.iload 4, 2) := by decide +kernel
theorem d332_642 : decode (cdN 332) 642 = .ok (.iconst 1, 1) := by decide +kernel
theorem d332_643 : decode (cdN 332) 643 = .ok (.iadd, 1) := by decide +kernel
theorem d332_644 : decode (cdN 332) 644 = .ok (.iaload, 1) := by decide +kernel
theorem d332_645 : decode (cdN 332) 645 = .ok (.aload_n 3, 1) := by decide +kernel
theorem d332_646 : decode (cdN 332) 646 = .ok (.invokestatic 184, 3) := by decide +kernel
theorem c332_184 : ctN (owN 332) 184 = some (12, 298, [1039, 1040, 91]) := by decide +kernel
theorem d332_649 : decode (cdN 332) 649 = .ok (.istore 5, 2) := by decide +kernel
theorem d332_651 : decode (cdN 332) 651 = .ok (.aload_n 2, 1) := by decide +kernel
theorem d332_652 : decode (cdN 332) 652 = .ok (.aload_n 0, 1) := by decide +kernel
theorem d332_653 : decode (cdN 332) 653 = .ok (.iload 4, 2) := by decide +kernel
theorem d332_655 : decode (cdN 332) 655 = .ok (.iconst 1, 1) := by decide +kernel
theorem d332_656 : decode (cdN 332) 656 = .ok (.iadd, 1) := by decide +kernel
theorem d332_657 : decode (cdN 332) 657 = .ok (.iaload, 1) := by decide +kernel
theorem d332_658 : decode (cdN 332) 658 = .ok (.invokevirtual 186, 3) := by decide +kernel
theorem c332_186 : ctN (owN 332) 186 = some (0, 232, [1768, 1769, 1770, 104]) := by decide +kernel
theorem d332_661 : decode (cdN 332) 661 = .ok (.istore 6, 2) := by decide +kernel
theorem d332_663 : decode (cdN 332) 663 = .ok (.aload_n 2, 1) := by decide +kernel
theorem d332_664 : decode (cdN 332) 664 = .ok (.invokevirtual 146, 3) := by decide +kernel
theorem d332_667 : decode (cdN 332) 667 = .ok (.iload 5, 2) := by decide +kernel
theorem d332_669 : decode (cdN 332) 669 = .ok (.if_icmp .eq 5, 3) := by decide +kernel
theorem d332_672 : decode (cdN 332) 672 = .ok (.iconst 0, 1) := by decide +kernel
theorem d332_673 : decode (cdN 332) 673 = .ok (.ireturn, 1) := by decide +kernel
theorem d332_674 : decode (cdN 332) 674 = .ok (.iload 5, 2) := by decide +kernel
theorem d332_676 : decode (cdN 332) 676 = .ok (.ifCond .ne 22, 3) := by decide +kernel
theorem d332_679 : decode (cdN 332) 679 = .ok (.aload_n 3, 1) := by decide +kernel
theorem d332_680 : decode (cdN 332) 680 = .ok (.iconst 0, 1) := by decide +kernel
theorem d332_681 : decode (cdN 332) 681 = .ok (.laload, 1) := by decide +kernel
theorem d332_682 : decode (cdN 332) 682 = .ok (.iload 6, 2) := by decide +kernel
theorem d332_684 : decode (cdN 332) 684 = .ok (.ifCond .eq 7, 3) := by decide +kernel
theorem d332_687 : decode (cdN 332) 687 = .ok (.lconst 1, 1) := by decide +kernel
theorem d332_688 : decode (cdN 332) 688 = .ok (.goto 4, 3) := by decide +kernel
theorem d332_691 : decode (cdN 332) 691 = .ok (.lconst 0, 1) := by decide +kernel
theorem d332_692 : decode (cdN 332) 692 = .ok (.lcmp, 1) := by decide +kernel
theorem d332_693 : decode (cdN 332) 693 = .ok (.ifCond .eq 5, 3) := by decide +kernel
theorem d332_696 : decode (cdN 332) 696 = .ok (.iconst 0, 1) := by decide +kernel
theorem d332_697 : decode (cdN 332) 697 = .ok (.ireturn, 1) := by decide +kernel
theorem d332_698 : decode (cdN 332) 698 = .ok (.goto 2334, 3) := by decide +kernel
theorem d332_701 : decode (cdN 332) 701 = .ok (.aload_n 1, 1) := by decide +kernel
theorem d332_702 : decode (cdN 332) 702 = .ok (.aload_n 0, 1) := by decide +kernel
theorem d332_703 : decode (cdN 332) 703 = .ok (.iload 4, 2) := by decide +kernel
theorem d332_705 : decode (cdN 332) 705 = .ok (.iconst 1, 1) := by decide +kernel
theorem d332_706 : decode (cdN 332) 706 = .ok (.iadd, 1) := by decide +kernel
theorem d332_707 : decode (cdN 332) 707 = .ok (.iaload, 1) := by decide +kernel
theorem d332_708 : decode (cdN 332) 708 = .ok (.aload_n 3, 1) := by decide +kernel
theorem d332_709 : decode (cdN 332) 709 = .ok (.invokestatic 187, 3) := by decide +kernel
theorem c332_187 : ctN (owN 332) 187 = some (12, 299, [1052, 1053, 91]) := by decide +kernel
theorem d332_712 : decode (cdN 332) 712 = .ok (.istore 5, 2) := by decide +kernel
theorem d332_714 : decode (cdN 332) 714 = .ok (.aload_n 2, 1) := by decide +kernel
theorem d332_715 : decode (cdN 332) 715 = .ok (.aload_n 0, 1) := by decide +kernel
theorem d332_716 : decode (cdN 332) 716 = .ok (.iload 4, 2) := by decide +kernel
theorem d332_718 : decode (cdN 332) 718 = .ok (.iconst 1, 1) := by decide +kernel
theorem d332_719 : decode (cdN 332) 719 = .ok (.iadd, 1) := by decide +kernel
theorem d332_720 : decode (cdN 332) 720 = .ok (.iaload, 1) := by decide +kernel
theorem d332_721 : decode (cdN 332) 721 = .ok (.invokevirtual 189, 3) := by decide +kernel
theorem c332_189 : ctN (owN 332) 189 = some (0, 233, [1776, 1777, 1778, 104]) := by decide +kernel
theorem d332_724 : decode (cdN 332) 724 = .ok (.istore 6, 2) := by decide +kernel
theorem d332_726 : decode (cdN 332) 726 = .ok (.aload_n 2, 1) := by decide +kernel
theorem d332_727 : decode (cdN 332) 727 = .ok (.invokevirtual 146, 3) := by decide +kernel
theorem d332_730 : decode (cdN 332) 730 = .ok (.iload 5, 2) := by decide +kernel
theorem d332_732 : decode (cdN 332) 732 = .ok (.if_icmp .eq 5, 3) := by decide +kernel
theorem d332_735 : decode (cdN 332) 735 = .ok (.iconst 0, 1) := by decide +kernel
theorem d332_736 : decode (cdN 332) 736 = .ok (.ireturn, 1) := by decide +kernel
theorem d332_737 : decode (cdN 332) 737 = .ok (.iload 5, 2) := by decide +kernel
theorem d332_739 : decode (cdN 332) 739 = .ok (.ifCond .ne 15, 3) := by decide +kernel
theorem d332_742 : decode (cdN 332) 742 = .ok (.aload_n 3, 1) := by decide +kernel
theorem d332_743 : decode (cdN 332) 743 = .ok (.iconst 0, 1) := by decide +kernel
theorem d332_744 : decode (cdN 332) 744 = .ok (.laload, 1) := by decide +kernel
theorem d332_745 : decode (cdN 332) 745 = .ok (.iload 6, 2) := by decide +kernel
theorem d332_747 : decode (cdN 332) 747 = .ok (.i2l, 1) := by decide +kernel
theorem d332_748 : decode (cdN 332) 748 = .ok (.lcmp, 1) := by decide +kernel
theorem d332_749 : decode (cdN 332) 749 = .ok (.ifCond .eq 5, 3) := by decide +kernel
theorem d332_752 : decode (cdN 332) 752 = .ok (.iconst 0, 1) := by decide +kernel
theorem d332_753 : decode (cdN 332) 753 = .ok (.ireturn, 1) := by decide +kernel
theorem d332_754 : decode (cdN 332) 754 = .ok (.goto 2278, 3) := by decide +kernel
theorem d332_757 : decode (cdN 332) 757 = .ok (.aload_n 1, 1) := by decide +kernel
theorem d332_758 : decode (cdN 332) 758 = .ok (.aload_n 0, 1) := by decide +kernel
theorem d332_759 : decode (cdN 332) 759 = .ok (.iload 4, 2) := by decide +kernel
theorem d332_761 : decode (cdN 332) 761 = .ok (.iconst 1, 1) := by decide +kernel
theorem d332_762 : decode (cdN 332) 762 = .ok (.iadd, 1) := by decide +kernel
theorem d332_763 : decode (cdN 332) 763 = .ok (.iaload, 1) := by decide +kernel
theorem d332_764 : decode (cdN 332) 764 = .ok (.aload_n 3, 1) := by decide +kernel
theorem d332_765 : decode (cdN 332) 765 = .ok (.invokestatic 190, 3) := by decide +kernel
theorem c332_190 : ctN (owN 332) 190 = some (12, 300, [1059, 1060, 91]) := by decide +kernel
theorem d332_768 : decode (cdN 332) 768 = .ok (.istore 5, 2) := by decide +kernel
theorem d332_770 : decode (cdN 332) 770 = .ok (.aload_n 2, 1) := by decide +kernel
theorem d332_771 : decode (cdN 332) 771 = .ok (.aload_n 0, 1) := by decide +kernel
theorem d332_772 : decode (cdN 332) 772 = .ok (.iload 4, 2) := by decide +kernel
theorem d332_774 : decode (cdN 332) 774 = .ok (.iconst 1, 1) := by decide +kernel
theorem d332_775 : decode (cdN 332) 775 = .ok (.iadd, 1) := by decide +kernel
theorem d332_776 : decode (cdN 332) 776 = .ok (.iaload, 1) := by decide +kernel
theorem d332_777 : decode (cdN 332) 777 = .ok (.invokevirtual 192, 3) := by decide +kernel
theorem c332_192 : ctN (owN 332) 192 = some (0, 234, [1780, 1781, 1782, 104]) := by decide +kernel
theorem d332_780 : decode (cdN 332) 780 = .ok (.istore 6, 2) := by decide +kernel
theorem d332_782 : decode (cdN 332) 782 = .ok (.aload_n 2, 1) := by decide +kernel
theorem d332_783 : decode (cdN 332) 783 = .ok (.invokevirtual 146, 3) := by decide +kernel
theorem d332_786 : decode (cdN 332) 786 = .ok (.iload 5, 2) := by decide +kernel
theorem d332_788 : decode (cdN 332) 788 = .ok (.if_icmp .eq 5, 3) := by decide +kernel
theorem d332_791 : decode (cdN 332) 791 = .ok (.iconst 0, 1) := by decide +kernel
theorem d332_792 : decode (cdN 332) 792 = .ok (.ireturn, 1) := by decide +kernel
theorem d332_793 : decode (cdN 332) 793 = .ok (.iload 5, 2) := by decide +kernel
theorem d332_795 : decode (cdN 332) 795 = .ok (.ifCond .ne 15, 3) := by decide +kernel
theorem d332_798 : decode (cdN 332) 798 = .ok (.aload_n 3, 1) := by decide +kernel
theorem d332_799 : decode (cdN 332) 799 = .ok (.iconst 0, 1) := by decide +kernel
theorem d332_800 : decode (cdN 332) 800 = .ok (.laload, 1) := by decide +kernel
theorem d332_801 : decode (cdN 332) 801 = .ok (.iload 6, 2) := by decide +kernel
theorem d332_803 : decode (cdN 332) 803 = .ok (.i2l, 1) := by decide +kernel
theorem d332_804 : decode (cdN 332) 804 = .ok (.lcmp, 1) := by decide +kernel
theorem d332_805 : decode (cdN 332) 805 = .ok (.ifCond .eq 5, 3) := by decide +kernel
theorem d332_808 : decode (cdN 332) 808 = .ok (.iconst 0, 1) := by decide +kernel
theorem d332_809 : decode (cdN 332) 809 = .ok (.ireturn, 1) := by decide +kernel
theorem d332_810 : decode (cdN 332) 810 = .ok (.goto 2222, 3) := by decide +kernel
theorem d332_813 : decode (cdN 332) 813 = .ok (.aload_n 1, 1) := by decide +kernel
theorem d332_814 : decode (cdN 332) 814 = .ok (.invokevirtual 193, 3) := by decide +kernel
theorem c332_193 : ctN (owN 332) 193 = some (0, 89, [528, 529, 530, 92]) := by decide +kernel
theorem d332_817 : decode (cdN 332) 817 = .ok (.aload_n 2, 1) := by decide +kernel
theorem d332_818 : decode (cdN 332) 818 = .ok (.invokevirtual 196, 3) := by decide +kernel
theorem c332_196 : ctN (owN 332) 196 = some (0, 235, [1785, 1786, 1787, 104]) := by decide +kernel
theorem d332_821 : decode (cdN 332) 821 = .ok (.if_icmp .eq 2211, 3) := by decide +kernel
theorem d332_824 : decode (cdN 332) 824 = .ok (.iconst 0, 1) := by decide +kernel
theorem d332_825 : decode (cdN 332) 825 = .ok (.ireturn, 1) := by decide +kernel
theorem d332_826 : decode (cdN 332) 826 = .ok (.aload_n 1, 1) := by decide +kernel
theorem d332_827 : decode (cdN 332) 827 = .ok (.invokevirtual 197, 3) := by decide +kernel
theorem c332_197 : ctN (owN 332) 197 = some (0, 90, [533, 534, 535, 92]) := by decide +kernel
theorem d332_830 : decode (cdN 332) 830 = .ok (.aload_n 2, 1) := by decide +kernel
theorem d332_831 : decode (cdN 332) 831 = .ok (.invokevirtual 200, 3) := by decide +kernel
theorem c332_200 : ctN (owN 332) 200 = some (0, 236, [1789, 1790, 1791, 104]) := by decide +kernel
theorem d332_834 : decode (cdN 332) 834 = .ok (.if_icmp .eq 2198, 3) := by decide +kernel
theorem d332_837 : decode (cdN 332) 837 = .ok (.iconst 0, 1) := by decide +kernel
theorem d332_838 : decode (cdN 332) 838 = .ok (.ireturn, 1) := by decide +kernel
theorem d332_839 : decode (cdN 332) 839 = .ok (.aload_n 1, 1) := by decide +kernel
theorem d332_840 : decode (cdN 332) 840 = .ok (.aload_n 0, 1) := by decide +kernel
theorem d332_841 : decode (cdN 332) 841 = .ok (.iload 4, 2) := by decide +kernel
theorem d332_843 : decode (cdN 332) 843 = .ok (.iconst 1, 1) := by decide +kernel
theorem d332_844 : decode (cdN 332) 844 = .ok (.iadd, 1) := by decide +kernel
theorem d332_845 : decode (cdN 332) 845 = .ok (.iaload, 1) := by decide +kernel
theorem d332_846 : decode (cdN 332) 846 = .ok (.aload_n 3, 1) := by decide +kernel
theorem d332_847 : decode (cdN 332) 847 = .ok (.invokestatic 201, 3) := by decide +kernel
theorem c332_201 : ctN (owN 332) 201 = some (12, 301, [1067, 1068, 91]) := by decide +kernel
theorem d332_850 : decode (cdN 332) 850 = .ok (.istore 5, 2) := by decide +kernel
theorem d332_852 : decode (cdN 332) 852 = .ok (.aload_n 2, 1) := by decide +kernel
theorem d332_853 : decode (cdN 332) 853 = .ok (.aload_n 0, 1) := by decide +kernel
theorem d332_854 : decode (cdN 332) 854 = .ok (.iload 4, 2) := by decide +kernel
theorem d332_856 : decode (cdN 332) 856 = .ok (.iconst 1, 1) := by decide +kernel
theorem d332_857 : decode (cdN 332) 857 = .ok (.iadd, 1) := by decide +kernel
theorem d332_858 : decode (cdN 332) 858 = .ok (.iaload, 1) := by decide +kernel
theorem d332_859 : decode (cdN 332) 859 = .ok (.invokevirtual 203, 3) := by decide +kernel
theorem c332_203 : ctN (owN 332) 203 = some (0, 237, [1793, 1794, 1795, 104]) := by decide +kernel
theorem d332_862 : decode (cdN 332) 862 = .ok (.istore 6, 2) := by decide +kernel
theorem d332_864 : decode (cdN 332) 864 = .ok (.aload_n 2, 1) := by decide +kernel
theorem d332_865 : decode (cdN 332) 865 = .ok (.invokevirtual 146, 3) := by decide +kernel
theorem d332_868 : decode (cdN 332) 868 = .ok (.iload 5, 2) := by decide +kernel
theorem d332_870 : decode (cdN 332) 870 = .ok (.if_icmp .eq 5, 3) := by decide +kernel
theorem d332_873 : decode (cdN 332) 873 = .ok (.iconst 0, 1) := by decide +kernel
theorem d332_874 : decode (cdN 332) 874 = .ok (.ireturn, 1) := by decide +kernel
theorem d332_875 : decode (cdN 332) 875 = .ok (.iload 5, 2) := by decide +kernel
theorem d332_877 : decode (cdN 332) 877 = .ok (.ifCond .ne 15, 3) := by decide +kernel
theorem d332_880 : decode (cdN 332) 880 = .ok (.aload_n 3, 1) := by decide +kernel
theorem d332_881 : decode (cdN 332) 881 = .ok (.iconst 0, 1) := by decide +kernel
theorem d332_882 : decode (cdN 332) 882 = .ok (.laload, 1) := by decide +kernel
theorem d332_883 : decode (cdN 332) 883 = .ok (.iload 6, 2) := by decide +kernel
theorem d332_885 : decode (cdN 332) 885 = .ok (.i2l, 1) := by decide +kernel
theorem d332_886 : decode (cdN 332) 886 = .ok (.lcmp, 1) := by decide +kernel
theorem d332_887 : decode (cdN 332) 887 = .ok (.ifCond .eq 5, 3) := by decide +kernel
theorem d332_890 : decode (cdN 332) 890 = .ok (.iconst 0, 1) := by decide +kernel
theorem d332_891 : decode (cdN 332) 891 = .ok (.ireturn, 1) := by decide +kernel
theorem d332_892 : decode (cdN 332) 892 = .ok (.goto 2140, 3) := by decide +kernel
theorem d332_895 : decode (cdN 332) 895 = .ok (.aload_n 1, 1) := by decide +kernel
theorem d332_896 : decode (cdN 332) 896 = .ok (.aload_n 0, 1) := by decide +kernel
theorem d332_897 : decode (cdN 332) 897 = .ok (.iload 4, 2) := by decide +kernel
theorem d332_899 : decode (cdN 332) 899 = .ok (.iconst 1, 1) := by decide +kernel
theorem d332_900 : decode (cdN 332) 900 = .ok (.iadd, 1) := by decide +kernel
theorem d332_901 : decode (cdN 332) 901 = .ok (.iaload, 1) := by decide +kernel
theorem d332_902 : decode (cdN 332) 902 = .ok (.aload_n 3, 1) := by decide +kernel
theorem d332_903 : decode (cdN 332) 903 = .ok (.invokestatic 204, 3) := by decide +kernel
theorem c332_204 : ctN (owN 332) 204 = some (12, 302, [1095, 1096, 91]) := by decide +kernel
theorem d332_906 : decode (cdN 332) 906 = .ok (.istore 5, 2) := by decide +kernel
theorem d332_908 : decode (cdN 332) 908 = .ok (.aload_n 2, 1) := by decide +kernel
theorem d332_909 : decode (cdN 332) 909 = .ok (.aload_n 0, 1) := by decide +kernel
theorem d332_910 : decode (cdN 332) 910 = .ok (.iload 4, 2) := by decide +kernel
theorem d332_912 : decode (cdN 332) 912 = .ok (.iconst 1, 1) := by decide +kernel
theorem d332_913 : decode (cdN 332) 913 = .ok (.iadd, 1) := by decide +kernel
theorem d332_914 : decode (cdN 332) 914 = .ok (.iaload, 1) := by decide +kernel
theorem d332_915 : decode (cdN 332) 915 = .ok (.invokevirtual 206, 3) := by decide +kernel
theorem c332_206 : ctN (owN 332) 206 = some (0, 238, [1797, 1798, 1799, 104]) := by decide +kernel
theorem d332_918 : decode (cdN 332) 918 = .ok (.istore 6, 2) := by decide +kernel
theorem d332_920 : decode (cdN 332) 920 = .ok (.aload_n 2, 1) := by decide +kernel
theorem d332_921 : decode (cdN 332) 921 = .ok (.invokevirtual 146, 3) := by decide +kernel
theorem d332_924 : decode (cdN 332) 924 = .ok (.iload 5, 2) := by decide +kernel
theorem d332_926 : decode (cdN 332) 926 = .ok (.if_icmp .eq 5, 3) := by decide +kernel
theorem d332_929 : decode (cdN 332) 929 = .ok (.iconst 0, 1) := by decide +kernel
theorem d332_930 : decode (cdN 332) 930 = .ok (.ireturn, 1) := by decide +kernel
theorem d332_931 : decode (cdN 332) 931 = .ok (.iload 5, 2) := by decide +kernel
theorem d332_933 : decode (cdN 332) 933 = .ok (.ifCond .ne 15, 3) := by decide +kernel
theorem d332_936 : decode (cdN 332) 936 = .ok (.aload_n 3, 1) := by decide +kernel
theorem d332_937 : decode (cdN 332) 937 = .ok (.iconst 0, 1) := by decide +kernel
theorem d332_938 : decode (cdN 332) 938 = .ok (.laload, 1) := by decide +kernel
theorem d332_939 : decode (cdN 332) 939 = .ok (.iload 6, 2) := by decide +kernel
theorem d332_941 : decode (cdN 332) 941 = .ok (.i2l, 1) := by decide +kernel
theorem d332_942 : decode (cdN 332) 942 = .ok (.lcmp, 1) := by decide +kernel
theorem d332_943 : decode (cdN 332) 943 = .ok (.ifCond .eq 5, 3) := by decide +kernel
theorem d332_946 : decode (cdN 332) 946 = .ok (.iconst 0, 1) := by decide +kernel
theorem d332_947 : decode (cdN 332) 947 = .ok (.ireturn, 1) := by decide +kernel
theorem d332_948 : decode (cdN 332) 948 = .ok (.goto 2084, 3) := by decide +kernel
theorem d332_951 : decode (cdN 332) 951 = .ok (.aload_n 1, 1) := by decide +kernel
theorem d332_952 : decode (cdN 332) 952 = .ok (.aload_n 0, 1) := by decide +kernel
theorem d332_953 : decode (cdN 332) 953 = .ok (.iload 4, 2) := by decide +kernel
theorem d332_955 : decode (cdN 332) 955 = .ok (.iconst 1, 1) := by decide +kernel
theorem d332_956 : decode (cdN 332) 956 = .ok (.iadd, 1) := by decide +kernel
theorem d332_957 : decode (cdN 332) 957 = .ok (.iaload, 1) := by decide +kernel
theorem d332_958 : decode (cdN 332) 958 = .ok (.aload_n 3, 1) := by decide +kernel
theorem d332_959 : decode (cdN 332) 959 = .ok (.invokestatic 207, 3) := by decide +kernel
theorem c332_207 : ctN (owN 332) 207 = some (12, 303, [1103, 1104, 91]) := by decide +kernel
theorem d332_962 : decode (cdN 332) 962 = .ok (.istore 5, 2) := by decide +kernel
theorem d332_964 : decode (cdN 332) 964 = .ok (.aload_n 2, 1) := by decide +kernel
theorem d332_965 : decode (cdN 332) 965 = .ok (.aload_n 0, 1) := by decide +kernel
theorem d332_966 : decode (cdN 332) 966 = .ok (.iload 4, 2) := by decide +kernel
theorem d332_968 : decode (cdN 332) 968 = .ok (.iconst 1, 1) := by decide +kernel
theorem d332_969 : decode (cdN 332) 969 = .ok (.iadd, 1) := by decide +kernel
theorem d332_970 : decode (cdN 332) 970 = .ok (.iaload, 1) := by decide +kernel
theorem d332_971 : decode (cdN 332) 971 = .ok (.invokevirtual 209, 3) := by decide +kernel
theorem c332_209 : ctN (owN 332) 209 = some (0, 239, [1801, 1802, 1803, 104]) := by decide +kernel
theorem d332_974 : decode (cdN 332) 974 = .ok (.istore 6, 2) := by decide +kernel
theorem d332_976 : decode (cdN 332) 976 = .ok (.aload_n 2, 1) := by decide +kernel
theorem d332_977 : decode (cdN 332) 977 = .ok (.invokevirtual 146, 3) := by decide +kernel
theorem d332_980 : decode (cdN 332) 980 = .ok (.iload 5, 2) := by decide +kernel
theorem d332_982 : decode (cdN 332) 982 = .ok (.if_icmp .eq 5, 3) := by decide +kernel
theorem d332_985 : decode (cdN 332) 985 = .ok (.iconst 0, 1) := by decide +kernel
theorem d332_986 : decode (cdN 332) 986 = .ok (.ireturn, 1) := by decide +kernel
theorem d332_987 : decode (cdN 332) 987 = .ok (.iload 5, 2) := by decide +kernel
theorem d332_989 : decode (cdN 332) 989 = .ok (.ifCond .ne 15, 3) := by decide +kernel
theorem d332_992 : decode (cdN 332) 992 = .ok (.aload_n 3, 1) := by decide +kernel
theorem d332_993 : decode (cdN 332) 993 = .ok (.iconst 0, 1) := by decide +kernel
theorem d332_994 : decode (cdN 332) 994 = .ok (.laload, 1) := by decide +kernel
theorem d332_995 : decode (cdN 332) 995 = .ok (.iload 6, 2) := by decide +kernel
theorem d332_997 : decode (cdN 332) 997 = .ok (.i2l, 1) := by decide +kernel
theorem d332_998 : decode (cdN 332) 998 = .ok (.lcmp, 1) := by decide +kernel
theorem d332_999 : decode (cdN 332) 999 = .ok (.ifCond .eq 5, 3) := by decide +kernel
theorem d332_1002 : decode (cdN 332) 1002 = .ok (.iconst 0, 1) := by decide +kernel
theorem d332_1003 : decode (cdN 332) 1003 = .ok (.ireturn, 1) := by decide +kernel
theorem d332_1004 : decode (cdN 332) 1004 = .ok (.goto 2028, 3) := by decide +kernel
theorem d332_1007 : decode (cdN 332) 1007 = .ok (.aload_n 1, 1) := by decide +kernel
theorem d332_1008 : decode (cdN 332) 1008 = .ok (.invokevirtual 210, 3) := by decide +kernel
theorem c332_210 : ctN (owN 332) 210 = some (0, 94, [537, 538, 539, 92]) := by decide +kernel
theorem d332_1011 : decode (cdN 332) 1011 = .ok (.aload_n 2, 1) := by decide +kernel
theorem d332_1012 : decode (cdN 332) 1012 = .ok (.invokevirtual 213, 3) := by decide +kernel
theorem c332_213 : ctN (owN 332) 213 = some (0, 240, [1805, 1806, 1807, 104]) := by decide +kernel
theorem d332_1015 : decode (cdN 332) 1015 = .ok (.if_icmp .eq 2017, 3) := by decide +kernel
theorem d332_1018 : decode (cdN 332) 1018 = .ok (.iconst 0, 1) := by decide +kernel
theorem d332_1019 : decode (cdN 332) 1019 = .ok (.ireturn, 1) := by decide +kernel
theorem d332_1020 : decode (cdN 332) 1020 = .ok (.aload_n 1, 1) := by decide +kernel
theorem d332_1021 : decode (cdN 332) 1021 = .ok (.aload_n 0, 1) := by decide +kernel
theorem d332_1022 : decode (cdN 332) 1022 = .ok (.iload 4, 2) := by decide +kernel
theorem d332_1024 : decode (cdN 332) 1024 = .ok (.iconst 1, 1) := by decide +kernel
theorem d332_1025 : decode (cdN 332) 1025 = .ok (.iadd, 1) := by decide +kernel
theorem d332_1026 : decode (cdN 332) 1026 = .ok (.iaload, 1) := by decide +kernel
theorem d332_1027 : decode (cdN 332) 1027 = .ok (.aload_n 3, 1) := by decide +kernel
theorem d332_1028 : decode (cdN 332) 1028 = .ok (.invokestatic 214, 3) := by decide +kernel
theorem c332_214 : ctN (owN 332) 214 = some (12, 304, [1110, 1111, 91]) := by decide +kernel
theorem d332_1031 : decode (cdN 332) 1031 = .ok (.istore 5, 2) := by decide +kernel
theorem d332_1033 : decode (cdN 332) 1033 = .ok (.aload_n 2, 1) := by decide +kernel
theorem d332_1034 : decode (cdN 332) 1034 = .ok (.aload_n 0, 1) := by decide +kernel
theorem d332_1035 : decode (cdN 332) 1035 = .ok (.iload 4, 2) := by decide +kernel
theorem d332_1037 : decode (cdN 332) 1037 = .ok (.iconst 1, 1) := by decide +kernel
theorem d332_1038 : decode (cdN 332) 1038 = .ok (.iadd, 1) := by decide +kernel
theorem d332_1039 : decode (cdN 332) 1039 = .ok (.iaload, 1) := by decide +kernel
theorem d332_1040 : decode (cdN 332) 1040 = .ok (.invokevirtual 216, 3) := by decide +kernel
theorem c332_216 : ctN (owN 332) 216 = some (0, 241, [1809, 1810, 1811, 104]) := by decide +kernel
theorem d332_1043 : decode (cdN 332) 1043 = .ok (.istore 6, 2) := by decide +kernel
theorem d332_1045 : decode (cdN 332) 1045 = .ok (.aload_n 2, 1) := by decide +kernel
theorem d332_1046 : decode (cdN 332) 1046 = .ok (.invokevirtual 146, 3) := by decide +kernel
theorem d332_1049 : decode (cdN 332) 1049 = .ok (.iload 5, 2) := by decide +kernel
theorem d332_1051 : decode (cdN 332) 1051 = .ok (.if_icmp .eq 5, 3) := by decide +kernel
theorem d332_1054 : decode (cdN 332) 1054 = .ok (.iconst 0, 1) := by decide +kernel
theorem d332_1055 : decode (cdN 332) 1055 = .ok (.ireturn, 1) := by decide +kernel
theorem d332_1056 : decode (cdN 332) 1056 = .ok (.iload 5, 2) := by decide +kernel
theorem d332_1058 : decode (cdN 332) 1058 = .ok (.ifCond .ne 15, 3) := by decide +kernel
theorem d332_1061 : decode (cdN 332) 1061 = .ok (.aload_n 3, 1) := by decide +kernel
theorem d332_1062 : decode (cdN 332) 1062 = .ok (.iconst 0, 1) := by decide +kernel
theorem d332_1063 : decode (cdN 332) 1063 = .ok (.laload, 1) := by decide +kernel
theorem d332_1064 : decode (cdN 332) 1064 = .ok (.iload 6, 2) := by decide +kernel
theorem d332_1066 : decode (cdN 332) 1066 = .ok (.i2l, 1) := by decide +kernel
theorem d332_1067 : decode (cdN 332) 1067 = .ok (.lcmp, 1) := by decide +kernel
theorem d332_1068 : decode (cdN 332) 1068 = .ok (.ifCond .eq 5, 3) := by decide +kernel
theorem d332_1071 : decode (cdN 332) 1071 = .ok (.iconst 0, 1) := by decide +kernel
theorem d332_1072 : decode (cdN 332) 1072 = .ok (.ireturn, 1) := by decide +kernel
theorem d332_1073 : decode (cdN 332) 1073 = .ok (.goto 1959, 3) := by decide +kernel
theorem d332_1076 : decode (cdN 332) 1076 = .ok (.aload_n 1, 1) := by decide +kernel
theorem d332_1077 : decode (cdN 332) 1077 = .ok (.aload_n 0, 1) := by decide +kernel
theorem d332_1078 : decode (cdN 332) 1078 = .ok (.iload 4, 2) := by decide +kernel
theorem d332_1080 : decode (cdN 332) 1080 = .ok (.iconst 1, 1) := by decide +kernel
theorem d332_1081 : decode (cdN 332) 1081 = .ok (.iadd, 1) := by decide +kernel
theorem d332_1082 : decode (cdN 332) 1082 = .ok (.iaload, 1) := by decide +kernel
theorem d332_1083 : decode (cdN 332) 1083 = .ok (.aload_n 0, 1) := by decide +kernel
theorem d332_1084 : decode (cdN 332) 1084 = .ok (.iload 4, 2) := by decide +kernel
theorem d332_1086 : decode (cdN 332) 1086 = .ok (.iconst 2, 1) := by decide +kernel
theorem d332_1087 : decode (cdN 332) 1087 = .ok (.iadd, 1) := by decide +kernel
theorem d332_1088 : decode (cdN 332) 1088 = .ok (.iaload, 1) := by decide +kernel
theorem d332_1089 : decode (cdN 332) 1089 = .ok (.aload_n 3, 1) := by decide +kernel
theorem d332_1090 : decode (cdN 332) 1090 = .ok (.invokestatic 217, 3) := by decide +kernel
theorem c332_217 : ctN (owN 332) 217 = some (12, 305, [1122, 1123, 91]) := by decide +kernel
theorem d332_1093 : decode (cdN 332) 1093 = .ok (.istore 5, 2) := by decide +kernel
theorem d332_1095 : decode (cdN 332) 1095 = .ok (.aload_n 2, 1) := by decide +kernel
theorem d332_1096 : decode (cdN 332) 1096 = .ok (.aload_n 0, 1) := by decide +kernel
theorem d332_1097 : decode (cdN 332) 1097 = .ok (.iload 4, 2) := by decide +kernel
theorem d332_1099 : decode (cdN 332) 1099 = .ok (.iconst 1, 1) := by decide +kernel
theorem d332_1100 : decode (cdN 332) 1100 = .ok (.iadd, 1) := by decide +kernel
theorem d332_1101 : decode (cdN 332) 1101 = .ok (.iaload, 1) := by decide +kernel
theorem d332_1102 : decode (cdN 332) 1102 = .ok (.aload_n 0, 1) := by decide +kernel
theorem d332_1103 : decode (cdN 332) 1103 = .ok (.iload 4, 2) := by decide +kernel
theorem d332_1105 : decode (cdN 332) 1105 = .ok (.iconst 2, 1) := by decide +kernel
theorem d332_1106 : decode (cdN 332) 1106 = .ok (.iadd, 1) := by decide +kernel
theorem d332_1107 : decode (cdN 332) 1107 = .ok (.iaload, 1) := by decide +kernel
theorem d332_1108 : decode (cdN 332) 1108 = .ok (.invokevirtual 220, 3) := by decide +kernel
theorem c332_220 : ctN (owN 332) 220 = some (0, 242, [1817, 1818, 1819, 104]) := by decide +kernel
theorem d332_1111 : decode (cdN 332) 1111 = .ok (.istore 6, 2) := by decide +kernel
theorem d332_1113 : decode (cdN 332) 1113 = .ok (.aload_n 2, 1) := by decide +kernel
theorem d332_1114 : decode (cdN 332) 1114 = .ok (.invokevirtual 146, 3) := by decide +kernel
theorem d332_1117 : decode (cdN 332) 1117 = .ok (.iload 5, 2) := by decide +kernel
theorem d332_1119 : decode (cdN 332) 1119 = .ok (.if_icmp .eq 5, 3) := by decide +kernel
theorem d332_1122 : decode (cdN 332) 1122 = .ok (.iconst 0, 1) := by decide +kernel
theorem d332_1123 : decode (cdN 332) 1123 = .ok (.ireturn, 1) := by decide +kernel
theorem d332_1124 : decode (cdN 332) 1124 = .ok (.iload 5, 2) := by decide +kernel
theorem d332_1126 : decode (cdN 332) 1126 = .ok (.ifCond .ne 15, 3) := by decide +kernel
theorem d332_1129 : decode (cdN 332) 1129 = .ok (.aload_n 3, 1) := by decide +kernel
theorem d332_1130 : decode (cdN 332) 1130 = .ok (.iconst 0, 1) := by decide +kernel
theorem d332_1131 : decode (cdN 332) 1131 = .ok (.laload, 1) := by decide +kernel
theorem d332_1132 : decode (cdN 332) 1132 = .ok (.iload 6, 2) := by decide +kernel
theorem d332_1134 : decode (cdN 332) 1134 = .ok (.i2l, 1) := by decide +kernel
theorem d332_1135 : decode (cdN 332) 1135 = .ok (.lcmp, 1) := by decide +kernel
theorem d332_1136 : decode (cdN 332) 1136 = .ok (.ifCond .eq 5, 3) := by decide +kernel
theorem d332_1139 : decode (cdN 332) 1139 = .ok (.iconst 0, 1) := by decide +kernel
theorem d332_1140 : decode (cdN 332) 1140 = .ok (.ireturn, 1) := by decide +kernel
theorem d332_1141 : decode (cdN 332) 1141 = .ok (.goto 1891, 3) := by decide +kernel
theorem d332_1144 : decode (cdN 332) 1144 = .ok (.aload_n 1, 1) := by decide +kernel
theorem d332_1145 : decode (cdN 332) 1145 = .ok (.aload_n 0, 1) := by decide +kernel
theorem d332_1146 : decode (cdN 332) 1146 = .ok (.iload 4, 2) := by decide +kernel
theorem d332_1148 : decode (cdN 332) 1148 = .ok (.iconst 1, 1) := by decide +kernel
theorem d332_1149 : decode (cdN 332) 1149 = .ok (.iadd, 1) := by decide +kernel
theorem d332_1150 : decode (cdN 332) 1150 = .ok (.iaload, 1) := by decide +kernel
theorem d332_1151 : decode (cdN 332) 1151 = .ok (.aload_n 0, 1) := by decide +kernel
theorem d332_1152 : decode (cdN 332) 1152 = .ok (.iload 4, 2) := by decide +kernel
theorem d332_1154 : decode (cdN 332) 1154 = .ok (.iconst 2, 1) := by decide +kernel
theorem d332_1155 : decode (cdN 332) 1155 = .ok (.iadd, 1) := by decide +kernel
theorem d332_1156 : decode (cdN 332) 1156 = .ok (.iaload, 1) := by decide +kernel
theorem d332_1157 : decode (cdN 332) 1157 = .ok (.aload_n 3, 1) := by decide +kernel
theorem d332_1158 : decode (cdN 332) 1158 = .ok (.invokestatic 221, 3) := by decide +kernel
theorem c332_221 : ctN (owN 332) 221 = some (12, 306, [1129, 1130, 91]) := by decide +kernel
theorem d332_1161 : decode (cdN 332) 1161 = .ok (.istore 5, 2) := by decide +kernel
theorem d332_1163 : decode (cdN 332) 1163 = .ok (.aload_n 2, 1) := by decide +kernel
theorem d332_1164 : decode (cdN 332) 1164 = .ok (.aload_n 0, 1) := by decide +kernel
theorem d332_1165 : decode (cdN 332) 1165 = .ok (.iload 4, 2) := by decide +kernel
theorem d332_1167 : decode (cdN 332) 1167 = .ok (.iconst 1, 1) := by decide +kernel
theorem d332_1168 : decode (cdN 332) 1168 = .ok (.iadd, 1) := by decide +kernel
theorem d332_1169 : decode (cdN 332) 1169 = .ok (.iaload, 1) := by decide +kernel
theorem d332_1170 : decode (cdN 332) 1170 = .ok (.aload_n 0, 1) := by decide +kernel
theorem d332_1171 : decode (cdN 332) 1171 = .ok (.iload 4, 2) := by decide +kernel
theorem d332_1173 : decode (cdN 332) 1173 = .ok (.iconst 2, 1) := by decide +kernel
theorem d332_1174 : decode (cdN 332) 1174 = .ok (.iadd, 1) := by decide +kernel
theorem d332_1175 : decode (cdN 332) 1175 = .ok (.iaload, 1) := by decide +kernel
theorem d332_1176 : decode (cdN 332) 1176 = .ok (.invokevirtual 223, 3) := by decide +kernel
theorem c332_223 : ctN (owN 332) 223 = some (0, 244, [1821, 1822, 1823, 104]) := by decide +kernel
theorem d332_1179 : decode (cdN 332) 1179 = .ok (.istore 6, 2) := by decide +kernel
theorem d332_1181 : decode (cdN 332) 1181 = .ok (.aload_n 2, 1) := by decide +kernel
theorem d332_1182 : decode (cdN 332) 1182 = .ok (.invokevirtual 146, 3) := by decide +kernel
theorem d332_1185 : decode (cdN 332) 1185 = .ok (.iload 5, 2) := by decide +kernel
theorem d332_1187 : decode (cdN 332) 1187 = .ok (.if_icmp .eq 5, 3) := by decide +kernel
theorem d332_1190 : decode (cdN 332) 1190 = .ok (.iconst 0, 1) := by decide +kernel
theorem d332_1191 : decode (cdN 332) 1191 = .ok (.ireturn, 1) := by decide +kernel
theorem d332_1192 : decode (cdN 332) 1192 = .ok (.iload 5, 2) := by decide +kernel
theorem d332_1194 : decode (cdN 332) 1194 = .ok (.ifCond .ne 15, 3) := by decide +kernel
theorem d332_1197 : decode (cdN 332) 1197 = .ok (.aload_n 3, 1) := by decide +kernel
theorem d332_1198 : decode (cdN 332) 1198 = .ok (.iconst 0, 1) := by decide +kernel
theorem d332_1199 : decode (cdN 332) 1199 = .ok (.laload, 1) := by decide +kernel
theorem d332_1200 : decode (cdN 332) 1200 = .ok (.iload 6, 2) := by decide +kernel
theorem d332_1202 : decode (cdN 332) 1202 = .ok (.i2l, 1) := by decide +kernel
theorem d332_1203 : decode (cdN 332) 1203 = .ok (.lcmp, 1) := by decide +kernel
theorem d332_1204 : decode (cdN 332) 1204 = .ok (.ifCond .eq 5, 3) := by decide +kernel
theorem d332_1207 : decode (cdN 332) 1207 = .ok (.iconst 0, 1) := by decide +kernel
theorem d332_1208 : decode (cdN 332) 1208 = .ok (.ireturn, 1) := by decide +kernel
theorem d332_1209 : decode (cdN 332) 1209 = .ok (.goto 1823, 3) := by decide +kernel
theorem d332_1212 : decode (cdN 332) 1212 = .ok (.aload_n 1, 1) := by decide +kernel
theorem d332_1213 : decode (cdN 332) 1213 = .ok (.aload_n 0, 1) := by decide +kernel
theorem d332_1214 : decode (cdN 332) 1214 = .ok (.iload 4, 2) := by decide +kernel
theorem d332_1216 : decode (cdN 332) 1216 = .ok (.iconst 1, 1) := by decide +kernel
theorem d332_1217 : decode (cdN 332) 1217 = .ok (.iadd, 1) := by decide +kernel
theorem d332_1218 : decode (cdN 332) 1218 = .ok (.iaload, 1) := by decide +kernel
theorem d332_1219 : decode (cdN 332) 1219 = .ok (.aload_n 3, 1) := by decide +kernel
theorem d332_1220 : decode (cdN 332) 1220 = .ok (.invokestatic 224, 3) := by decide +kernel
theorem c332_224 : ctN (owN 332) 224 = some (12, 307, [1137, 1138, 91]) := by decide +kernel
theorem d332_1223 : decode (cdN 332) 1223 = .ok (.istore 5, 2) := by decide +kernel
theorem d332_1225 : decode (cdN 332) 1225 = .ok (.aload_n 2, 1) := by decide +kernel
theorem d332_1226 : decode (cdN 332) 1226 = .ok (.aload_n 0, 1) := by decide +kernel
theorem d332_1227 : decode (cdN 332) 1227 = .ok (.iload 4, 2) := by decide +kernel
theorem d332_1229 : decode (cdN 332) 1229 = .ok (.iconst 1, 1) := by decide +kernel
theorem d332_1230 : decode (cdN 332) 1230 = .ok (.iadd, 1) := by decide +kernel
theorem d332_1231 : decode (cdN 332) 1231 = .ok (.iaload, 1) := by decide +kernel
theorem d332_1232 : decode (cdN 332) 1232 = .ok (.invokevirtual 226, 3) := by decide +kernel
theorem c332_226 : ctN (owN 332) 226 = some (0, 245, [1829, 1830, 1831, 104]) := by decide +kernel
theorem d332_1235 : decode (cdN 332) 1235 = .ok (.istore 6, 2) := by decide +kernel
theorem d332_1237 : decode (cdN 332) 1237 = .ok (.aload_n 2, 1) := by decide +kernel
theorem d332_1238 : decode (cdN 332) 1238 = .ok (.invokevirtual 146, 3) := by decide +kernel
theorem d332_1241 : decode (cdN 332) 1241 = .ok (.iload 5, 2) := by decide +kernel
theorem d332_1243 : decode (cdN 332) 1243 = .ok (.if_icmp .eq 5, 3) := by decide +kernel
theorem d332_1246 : decode (cdN 332) 1246 = .ok (.iconst 0, 1) := by decide +kernel
theorem d332_1247 : decode (cdN 332) 1247 = .ok (.ireturn, 1) := by decide +kernel
theorem d332_1248 : decode (cdN 332) 1248 = .ok (.iload 5, 2) := by decide +kernel
theorem d332_1250 : decode (cdN 332) 1250 = .ok (.ifCond .ne 15, 3) := by decide +kernel
theorem d332_1253 : decode (cdN 332) 1253 = .ok (.aload_n 3, 1) := by decide +kernel
theorem d332_1254 : decode (cdN 332) 1254 = .ok (.iconst 0, 1) := by decide +kernel
theorem d332_1255 : decode (cdN 332) 1255 = .ok (.laload, 1) := by decide +kernel
theorem d332_1256 : decode (cdN 332) 1256 = .ok (.iload 6, 2) := by decide +kernel
theorem d332_1258 : decode (cdN 332) 1258 = .ok (.i2l, 1) := by decide +kernel
theorem d332_1259 : decode (cdN 332) 1259 = .ok (.lcmp, 1) := by decide +kernel
theorem d332_1260 : decode (cdN 332) 1260 = .ok (.ifCond .eq 5, 3) := by decide +kernel
theorem d332_1263 : decode (cdN 332) 1263 = .ok (.iconst 0, 1) := by decide +kernel
theorem d332_1264 : decode (cdN 332) 1264 = .ok (.ireturn, 1) := by decide +kernel
theorem d332_1265 : decode (cdN 332) 1265 = .ok (.goto 1767, 3) := by decide +kernel
theorem d332_1268 : decode (cdN 332) 1268 = .ok (.aload_n 1, 1) := by decide +kernel
theorem d332_1269 : decode (cdN 332) 1269 = .ok (.aload_n 0, 1) := by decide +kernel
theorem d332_1270 : decode (cdN 332) 1270 = .ok (.iload 4, 2) := by decide +kernel
theorem d332_1272 : decode (cdN 332) 1272 = .ok (.iconst 1, 1) := by decide +kernel
theorem d332_1273 : decode (cdN 332) 1273 = .ok (.iadd, 1) := by decide +kernel
theorem d332_1274 : decode (cdN 332) 1274 = .ok (.iaload, 1) := by decide +kernel
theorem d332_1275 : decode (cdN 332) 1275 = .ok (.aload_n 3, 1) := by decide +kernel
theorem d332_1276 : decode (cdN 332) 1276 = .ok (.invokestatic 227, 3) := by decide +kernel
theorem c332_227 : ctN (owN 332) 227 = some (12, 308, [1144, 1145, 91]) := by decide +kernel
theorem d332_1279 : decode (cdN 332) 1279 = .ok (.istore 5, 2) := by decide +kernel
theorem d332_1281 : decode (cdN 332) 1281 = .ok (.aload_n 2, 1) := by decide +kernel
theorem d332_1282 : decode (cdN 332) 1282 = .ok (.aload_n 0, 1) := by decide +kernel
theorem d332_1283 : decode (cdN 332) 1283 = .ok (.iload 4, 2) := by decide +kernel
theorem d332_1285 : decode (cdN 332) 1285 = .ok (.iconst 1, 1) := by decide +kernel
theorem d332_1286 : decode (cdN 332) 1286 = .ok (.iadd, 1) := by decide +kernel
theorem d332_1287 : decode (cdN 332) 1287 = .ok (.iaload, 1) := by decide +kernel
theorem d332_1288 : decode (cdN 332) 1288 = .ok (.invokevirtual 229, 3) := by decide +kernel
theorem c332_229 : ctN (owN 332) 229 = some (0, 246, [1833, 1834, 1835, 104]) := by decide +kernel
theorem d332_1291 : decode (cdN 332) 1291 = .ok (.istore 6, 2) := by decide +kernel
theorem d332_1293 : decode (cdN 332) 1293 = .ok (.aload_n 2, 1) := by decide +kernel
theorem d332_1294 : decode (cdN 332) 1294 = .ok (.invokevirtual 146, 3) := by decide +kernel
theorem d332_1297 : decode (cdN 332) 1297 = .ok (.iload 5, 2) := by decide +kernel
theorem d332_1299 : decode (cdN 332) 1299 = .ok (.if_icmp .eq 5, 3) := by decide +kernel
theorem d332_1302 : decode (cdN 332) 1302 = .ok (.iconst 0, 1) := by decide +kernel
theorem d332_1303 : decode (cdN 332) 1303 = .ok (.ireturn, 1) := by decide +kernel
theorem d332_1304 : decode (cdN 332) 1304 = .ok (.iload 5, 2) := by decide +kernel
theorem d332_1306 : decode (cdN 332) 1306 = .ok (.ifCond .ne 15, 3) := by decide +kernel
theorem d332_1309 : decode (cdN 332) 1309 = .ok (.aload_n 3, 1) := by decide +kernel
theorem d332_1310 : decode (cdN 332) 1310 = .ok (.iconst 0, 1) := by decide +kernel
theorem d332_1311 : decode (cdN 332) 1311 = .ok (.laload, 1) := by decide +kernel
theorem d332_1312 : decode (cdN 332) 1312 = .ok (.iload 6, 2) := by decide +kernel
theorem d332_1314 : decode (cdN 332) 1314 = .ok (.i2l, 1) := by decide +kernel
theorem d332_1315 : decode (cdN 332) 1315 = .ok (.lcmp, 1) := by decide +kernel
theorem d332_1316 : decode (cdN 332) 1316 = .ok (.ifCond .eq 5, 3) := by decide +kernel
theorem d332_1319 : decode (cdN 332) 1319 = .ok (.iconst 0, 1) := by decide +kernel
theorem d332_1320 : decode (cdN 332) 1320 = .ok (.ireturn, 1) := by decide +kernel
theorem d332_1321 : decode (cdN 332) 1321 = .ok (.goto 1711, 3) := by decide +kernel
theorem d332_1324 : decode (cdN 332) 1324 = .ok (.aload_n 1, 1) := by decide +kernel
theorem d332_1325 : decode (cdN 332) 1325 = .ok (.aload_n 0, 1) := by decide +kernel
theorem d332_1326 : decode (cdN 332) 1326 = .ok (.iload 4, 2) := by decide +kernel
theorem d332_1328 : decode (cdN 332) 1328 = .ok (.iconst 1, 1) := by decide +kernel
theorem d332_1329 : decode (cdN 332) 1329 = .ok (.iadd, 1) := by decide +kernel
theorem d332_1330 : decode (cdN 332) 1330 = .ok (.iaload, 1) := by decide +kernel
theorem d332_1331 : decode (cdN 332) 1331 = .ok (.aload_n 3, 1) := by decide +kernel
theorem d332_1332 : decode (cdN 332) 1332 = .ok (.invokestatic 230, 3) := by decide +kernel
theorem c332_230 : ctN (owN 332) 230 = some (12, 309, [1151, 1152, 91]) := by decide +kernel
theorem d332_1335 : decode (cdN 332) 1335 = .ok (.istore 5, 2) := by decide +kernel
theorem d332_1337 : decode (cdN 332) 1337 = .ok (.aload_n 2, 1) := by decide +kernel
theorem d332_1338 : decode (cdN 332) 1338 = .ok (.aload_n 0, 1) := by decide +kernel
theorem d332_1339 : decode (cdN 332) 1339 = .ok (.iload 4, 2) := by decide +kernel
theorem d332_1341 : decode (cdN 332) 1341 = .ok (.iconst 1, 1) := by decide +kernel
theorem d332_1342 : decode (cdN 332) 1342 = .ok (.iadd, 1) := by decide +kernel
theorem d332_1343 : decode (cdN 332) 1343 = .ok (.iaload, 1) := by decide +kernel
theorem d332_1344 : decode (cdN 332) 1344 = .ok (.invokevirtual 232, 3) := by decide +kernel
theorem c332_232 : ctN (owN 332) 232 = some (0, 247, [1837, 1838, 1839, 104]) := by decide +kernel
theorem d332_1347 : decode (cdN 332) 1347 = .ok (.istore 6, 2) := by decide +kernel
theorem d332_1349 : decode (cdN 332) 1349 = .ok (.aload_n 2, 1) := by decide +kernel
theorem d332_1350 : decode (cdN 332) 1350 = .ok (.invokevirtual 146, 3) := by decide +kernel
theorem d332_1353 : decode (cdN 332) 1353 = .ok (.iload 5, 2) := by decide +kernel
theorem d332_1355 : decode (cdN 332) 1355 = .ok (.if_icmp .eq 5, 3) := by decide +kernel
theorem d332_1358 : decode (cdN 332) 1358 = .ok (.iconst 0, 1) := by decide +kernel
theorem d332_1359 : decode (cdN 332) 1359 = .ok (.ireturn, 1) := by decide +kernel
theorem d332_1360 : decode (cdN 332) 1360 = .ok (.iload 5, 2) := by decide +kernel
theorem d332_1362 : decode (cdN 332) 1362 = .ok (.ifCond .ne 22, 3) := by decide +kernel
theorem d332_1365 : decode (cdN 332) 1365 = .ok (.aload_n 3, 1) := by decide +kernel
theorem d332_1366 : decode (cdN 332) 1366 = .ok (.iconst 0, 1) := by decide +kernel
theorem d332_1367 : decode (cdN 332) 1367 = .ok (.laload, 1) := by decide +kernel
theorem d332_1368 : decode (cdN 332) 1368 = .ok (.iload 6, 2) := by decide +kernel
theorem d332_1370 : decode (cdN 332) 1370 = .ok (.ifCond .eq 7, 3) := by decide +kernel
theorem d332_1373 : decode (cdN 332) 1373 = .ok (.lconst 1, 1) := by decide +kernel
theorem d332_1374 : decode (cdN 332) 1374 = .ok (.goto 4, 3) := by decide +kernel
theorem d332_1377 : decode (cdN 332) 1377 = .ok (.lconst 0, 1) := by decide +kernel
theorem d332_1378 : decode (cdN 332) 1378 = .ok (.lcmp, 1) := by decide +kernel
theorem d332_1379 : decode (cdN 332) 1379 = .ok (.ifCond .eq 5, 3) := by decide +kernel
theorem d332_1382 : decode (cdN 332) 1382 = .ok (.iconst 0, 1) := by decide +kernel
theorem d332_1383 : decode (cdN 332) 1383 = .ok (.ireturn, 1) := by decide +kernel
theorem d332_1384 : decode (cdN 332) 1384 = .ok (.goto 1648, 3) := by decide +kernel
theorem d332_1387 : decode (cdN 332) 1387 = .ok (.aload_n 1, 1) := by decide +kernel
theorem d332_1388 : decode (cdN 332) 1388 = .ok (.aload_n 0, 1) := by decide +kernel
theorem d332_1389 : decode (cdN 332) 1389 = .ok (.iload 4, 2) := by decide +kernel
theorem d332_1391 : decode (cdN 332) 1391 = .ok (.iconst 1, 1) := by decide +kernel
theorem d332_1392 : decode (cdN 332) 1392 = .ok (.iadd, 1) := by decide +kernel
theorem d332_1393 : decode (cdN 332) 1393 = .ok (.iaload, 1) := by decide +kernel
theorem d332_1394 : decode (cdN 332) 1394 = .ok (.aload_n 0, 1) := by decide +kernel
theorem d332_1395 : decode (cdN 332) 1395 = .ok (.iload 4, 2) := by decide +kernel
theorem d332_1397 : decode (cdN 332) 1397 = .ok (.iconst 2, 1) := by decide +kernel
theorem d332_1398 : decode (cdN 332) 1398 = .ok (.iadd, 1) := by decide +kernel
theorem d332_1399 : decode (cdN 332) 1399 = .ok (.iaload, 1) := by decide +kernel
theorem d332_1400 : decode (cdN 332) 1400 = .ok (.aload_n 3, 1) := by decide +kernel
theorem d332_1401 : decode (cdN 332) 1401 = .ok (.invokestatic 233, 3) := by decide +kernel
theorem c332_233 : ctN (owN 332) 233 = some (12, 310, [1158, 1159, 91]) := by decide +kernel
theorem d332_1404 : decode (cdN 332) 1404 = .ok (.istore 5, 2) := by decide +kernel
theorem d332_1406 : decode (cdN 332) 1406 = .ok (.aload_n 2, 1) := by decide +kernel
theorem d332_1407 : decode (cdN 332) 1407 = .ok (.aload_n 0, 1) := by decide +kernel
theorem d332_1408 : decode (cdN 332) 1408 = .ok (.iload 4, 2) := by decide +kernel
theorem d332_1410 : decode (cdN 332) 1410 = .ok (.iconst 1, 1) := by decide +kernel
theorem d332_1411 : decode (cdN 332) 1411 = .ok (.iadd, 1) := by decide +kernel
theorem d332_1412 : decode (cdN 332) 1412 = .ok (.iaload, 1) := by decide +kernel
theorem d332_1413 : decode (cdN 332) 1413 = .ok (.aload_n 0, 1) := by decide +kernel
theorem d332_1414 : decode (cdN 332) 1414 = .ok (.iload 4, 2) := by decide +kernel
theorem d332_1416 : decode (cdN 332) 1416 = .ok (.iconst 2, 1) := by decide +kernel
theorem d332_1417 : decode (cdN 332) 1417 = .ok (.iadd, 1) := by decide +kernel
theorem d332_1418 : decode (cdN 332) 1418 = .ok (.iaload, 1) := by decide +kernel
theorem d332_1419 : decode (cdN 332) 1419 = .ok (.invokevirtual 235, 3) := by decide +kernel
theorem c332_235 : ctN (owN 332) 235 = some (0, 248, [1841, 1842, 1843, 104]) := by decide +kernel
theorem d332_1422 : decode (cdN 332) 1422 = .ok (.istore 6, 2) := by decide +kernel
theorem d332_1424 : decode (cdN 332) 1424 = .ok (.aload_n 2, 1) := by decide +kernel
theorem d332_1425 : decode (cdN 332) 1425 = .ok (.invokevirtual 146, 3) := by decide +kernel
theorem d332_1428 : decode (cdN 332) 1428 = .ok (.iload 5, 2) := by decide +kernel
theorem d332_1430 : decode (cdN 332) 1430 = .ok (.if_icmp .eq 5, 3) := by decide +kernel
theorem d332_1433 : decode (cdN 332) 1433 = .ok (.iconst 0, 1) := by decide +kernel
theorem d332_1434 : decode (cdN 332) 1434 = .ok (.ireturn, 1) := by decide +kernel
theorem d332_1435 : decode (cdN 332) 1435 = .ok (.iload 5, 2) := by decide +kernel
theorem d332_1437 : decode (cdN 332) 1437 = .ok (.ifCond .ne 15, 3) := by decide +kernel
theorem d332_1440 : decode (cdN 332) 1440 = .ok (.aload_n 3, 1) := by decide +kernel
theorem d332_1441 : decode (cdN 332) 1441 = .ok (.iconst 0, 1) := by decide +kernel
theorem d332_1442 : decode (cdN 332) 1442 = .ok (.laload, 1) := by decide +kernel
theorem d332_1443 : decode (cdN 332) 1443 = .ok (.iload 6, 2) := by decide +kernel
theorem d332_1445 : decode (cdN 332) 1445 = .ok (.i2l, 1) := by decide +kernel
theorem d332_1446 : decode (cdN 332) 1446 = .ok (.lcmp, 1) := by decide +kernel
theorem d332_1447 : decode (cdN 332) 1447 = .ok (.ifCond .eq 5, 3) := by decide +kernel
theorem d332_1450 : decode (cdN 332) 1450 = .ok (.iconst 0, 1) := by decide +kernel
theorem d332_1451 : decode (cdN 332) 1451 = .ok (.ireturn, 1) := by decide +kernel
theorem d332_1452 : decode (cdN 332) 1452 = .ok (.goto 1580, 3) := by decide +kernel
theorem d332_1455 : decode (cdN 332) 1455 = .ok (.aload_n 1, 1) := by decide +kernel
theorem d332_1456 : decode (cdN 332) 1456 = .ok (.aload_n 0, 1) := by decide +kernel
theorem d332_1457 : decode (cdN 332) 1457 = .ok (.iload 4, 2) := by decide +kernel
theorem d332_1459 : decode (cdN 332) 1459 = .ok (.iconst 1, 1) := by decide +kernel
theorem d332_1460 : decode (cdN 332) 1460 = .ok (.iadd, 1) := by decide +kernel
theorem d332_1461 : decode (cdN 332) 1461 = .ok (.iaload, 1) := by decide +kernel
theorem d332_1462 : decode (cdN 332) 1462 = .ok (.aload_n 3, 1) := by decide +kernel
theorem d332_1463 : decode (cdN 332) 1463 = .ok (.invokestatic 236, 3) := by decide +kernel
theorem c332_236 : ctN (owN 332) 236 = some (12, 311, [1165, 1166, 91]) := by decide +kernel
theorem d332_1466 : decode (cdN 332) 1466 = .ok (.istore 5, 2) := by decide +kernel
theorem d332_1468 : decode (cdN 332) 1468 = .ok (.aload_n 2, 1) := by decide +kernel
theorem d332_1469 : decode (cdN 332) 1469 = .ok (.aload_n 0, 1) := by decide +kernel
theorem d332_1470 : decode (cdN 332) 1470 = .ok (.iload 4, 2) := by decide +kernel
theorem d332_1472 : decode (cdN 332) 1472 = .ok (.iconst 1, 1) := by decide +kernel
theorem d332_1473 : decode (cdN 332) 1473 = .ok (.iadd, 1) := by decide +kernel
theorem d332_1474 : decode (cdN 332) 1474 = .ok (.iaload, 1) := by decide +kernel
theorem d332_1475 : decode (cdN 332) 1475 = .ok (.invokevirtual 238, 3) := by decide +kernel
theorem c332_238 : ctN (owN 332) 238 = some (0, 249, [1845, 1846, 1847, 104]) := by decide +kernel
theorem d332_1478 : decode (cdN 332) 1478 = .ok (.istore 6, 2) := by decide +kernel
theorem d332_1480 : decode (cdN 332) 1480 = .ok (.aload_n 2, 1) := by decide +kernel
theorem d332_1481 : decode (cdN 332) 1481 = .ok (.invokevirtual 146, 3) := by decide +kernel
theorem d332_1484 : decode (cdN 332) 1484 = .ok (.iload 5, 2) := by decide +kernel
theorem d332_1486 : decode (cdN 332) 1486 = .ok (.if_icmp .eq 5, 3) := by decide +kernel
theorem d332_1489 : decode (cdN 332) 1489 = .ok (.iconst 0, 1) := by decide +kernel
theorem d332_1490 : decode (cdN 332) 1490 = .ok (.ireturn, 1) := by decide +kernel
theorem d332_1491 : decode (cdN 332) 1491 = .ok (.iload 5, 2) := by decide +kernel
theorem d332_1493 : decode (cdN 332) 1493 = .ok (.ifCond .ne 22, 3) := by decide +kernel
theorem d332_1496 : decode (cdN 332) 1496 = .ok (.aload_n 3, 1) := by decide +kernel
theorem d332_1497 : decode (cdN 332) 1497 = .ok (.iconst 0, 1) := by decide +kernel
theorem d332_1498 : decode (cdN 332) 1498 = .ok (.laload, 1) := by decide +kernel
theorem d332_1499 : decode (cdN 332) 1499 = .ok (.iload 6, 2) := by decide +kernel
theorem d332_1501 : decode (cdN 332) 1501 = .ok (.ifCond .eq 7, 3) := by decide +kernel
theorem d332_1504 : decode (cdN 332) 1504 = .ok (.lconst 1, 1) := by decide +kernel
theorem d332_1505 : decode (cdN 332) 1505 = .ok (.goto 4, 3) := by decide +kernel
theorem d332_1508 : decode (cdN 332) 1508 = .ok (.lconst 0, 1) := by decide +kernel
theorem d332_1509 : decode (cdN 332) 1509 = .ok (.lcmp, 1) := by decide +kernel
theorem d332_1510 : decode (cdN 332) 1510 = .ok (.ifCond .eq 5, 3) := by decide +kernel
theorem d332_1513 : decode (cdN 332) 1513 = .ok (.iconst 0, 1) := by decide +kernel
theorem d332_1514 : decode (cdN 332) 1514 = .ok (.ireturn, 1) := by decide +kernel
theorem d332_1515 : decode (cdN 332) 1515 = .ok (.goto 1517, 3) := by decide +kernel
theorem d332_1518 : decode (cdN 332) 1518 = .ok (.aload_n 1, 1) := by decide +kernel
theorem d332_1519 : decode (cdN 332) 1519 = .ok (.aload_n 0, 1) := by decide +kernel
theorem d332_1520 : decode (cdN 332) 1520 = .ok (.iload 4, 2) := by decide +kernel
theorem d332_1522 : decode (cdN 332) 1522 = .ok (.iconst 1, 1) := by decide +kernel
theorem d332_1523 : decode (cdN 332) 1523 = .ok (.iadd, 1) := by decide +kernel
theorem d332_1524 : decode (cdN 332) 1524 = .ok (.iaload, 1) := by decide +kernel
theorem d332_1525 : decode (cdN 332) 1525 = .ok (.aload_n 3, 1) := by decide +kernel
theorem d332_1526 : decode (cdN 332) 1526 = .ok (.invokestatic 239, 3) := by decide +kernel
theorem c332_239 : ctN (owN 332) 239 = some (12, 312, [1176, 1177, 91]) := by decide +kernel
theorem d332_1529 : decode (cdN 332) 1529 = .ok (.istore 5, 2) := by decide +kernel
theorem d332_1531 : decode (cdN 332) 1531 = .ok (.aload_n 2, 1) := by decide +kernel
theorem d332_1532 : decode (cdN 332) 1532 = .ok (.aload_n 0, 1) := by decide +kernel
theorem d332_1533 : decode (cdN 332) 1533 = .ok (.iload 4, 2) := by decide +kernel
theorem d332_1535 : decode (cdN 332) 1535 = .ok (.iconst 1, 1) := by decide +kernel
theorem d332_1536 : decode (cdN 332) 1536 = .ok (.iadd, 1) := by decide +kernel
theorem d332_1537 : decode (cdN 332) 1537 = .ok (.iaload, 1) := by decide +kernel
theorem d332_1538 : decode (cdN 332) 1538 = .ok (.invokevirtual 241, 3) := by decide +kernel
theorem c332_241 : ctN (owN 332) 241 = some (0, 250, [1849, 1850, 1851, 104]) := by decide +kernel
theorem d332_1541 : decode (cdN 332) 1541 = .ok (.istore 6, 2) := by decide +kernel
theorem d332_1543 : decode (cdN 332) 1543 = .ok (.aload_n 2, 1) := by decide +kernel
theorem d332_1544 : decode (cdN 332) 1544 = .ok (.invokevirtual 146, 3) := by decide +kernel
theorem d332_1547 : decode (cdN 332) 1547 = .ok (.iload 5, 2) := by decide +kernel
theorem d332_1549 : decode (cdN 332) 1549 = .ok (.if_icmp .eq 5, 3) := by decide +kernel
theorem d332_1552 : decode (cdN 332) 1552 = .ok (.iconst 0, 1) := by decide +kernel
theorem d332_1553 : decode (cdN 332) 1553 = .ok (.ireturn, 1) := by decide +kernel
theorem d332_1554 : decode (cdN 332) 1554 = .ok (.iload 5, 2) := by decide +kernel
theorem d332_1556 : decode (cdN 332) 1556 = .ok (.ifCond .ne 15, 3) := by decide +kernel
theorem d332_1559 : decode (cdN 332) 1559 = .ok (.aload_n 3, 1) := by decide +kernel
theorem d332_1560 : decode (cdN 332) 1560 = .ok (.iconst 0, 1) := by decide +kernel
theorem d332_1561 : decode (cdN 332) 1561 = .ok (.laload, 1) := by decide +kernel
theorem d332_1562 : decode (cdN 332) 1562 = .ok (.iload 6, 2) := by decide +kernel
theorem d332_1564 : decode (cdN 332) 1564 = .ok (.i2l, 1) := by decide +kernel
theorem d332_1565 : decode (cdN 332) 1565 = .ok (.lcmp, 1) := by decide +kernel
theorem d332_1566 : decode (cdN 332) 1566 = .ok (.ifCond .eq 5, 3) := by decide +kernel
theorem d332_1569 : decode (cdN 332) 1569 = .ok (.iconst 0, 1) := by decide +kernel
theorem d332_1570 : decode (cdN 332) 1570 = .ok (.ireturn, 1) := by decide +kernel
theorem d332_1571 : decode (cdN 332) 1571 = .ok (.goto 1461, 3) := by decide +kernel
theorem d332_1574 : decode (cdN 332) 1574 = .ok (.aload_n 1, 1) := by decide +kernel
theorem d332_1575 : decode (cdN 332) 1575 = .ok (.invokevirtual 242, 3) := by decide +kernel
theorem c332_242 : ctN (owN 332) 242 = some (0, 104, [541, 542, 543, 92]) := by decide +kernel
theorem d332_1578 : decode (cdN 332) 1578 = .ok (.aload_n 2, 1) := by decide +kernel
theorem d332_1579 : decode (cdN 332) 1579 = .ok (.invokevirtual 245, 3) := by decide +kernel
theorem c332_245 : ctN (owN 332) 245 = some (0, 251, [1854, 1855, 1856, 104]) := by decide +kernel
theorem d332_1582 : decode (cdN 332) 1582 = .ok (.if_icmp .eq 1450, 3) := by decide +kernel
theorem d332_1585 : decode (cdN 332) 1585 = .ok (.iconst 0, 1) := by decide +kernel
theorem d332_1586 : decode (cdN 332) 1586 = .ok (.ireturn, 1) := by decide +kernel
theorem d332_1587 : decode (cdN 332) 1587 = .ok (.aload_n 1, 1) := by decide +kernel
theorem d332_1588 : decode (cdN 332) 1588 = .ok (.aload_n 0, 1) := by decide +kernel
theorem d332_1589 : decode (cdN 332) 1589 = .ok (.iload 4, 2) := by decide +kernel
theorem d332_1591 : decode (cdN 332) 1591 = .ok (.iconst 1, 1) := by decide +kernel
theorem d332_1592 : decode (cdN 332) 1592 = .ok (.iadd, 1) := by decide +kernel
theorem d332_1593 : decode (cdN 332) 1593 = .ok (.iaload, 1) := by decide +kernel
theorem d332_1594 : decode (cdN 332) 1594 = .ok (.aload_n 0, 1) := by decide +kernel
theorem d332_1595 : decode (cdN 332) 1595 = .ok (.iload 4, 2) := by decide +kernel
theorem d332_1597 : decode (cdN 332) 1597 = .ok (.iconst 2, 1) := by decide +kernel
theorem d332_1598 : decode (cdN 332) 1598 = .ok (.iadd, 1) := by decide +kernel
theorem d332_1599 : decode (cdN 332) 1599 = .ok (.iaload, 1) := by decide +kernel
theorem d332_1600 : decode (cdN 332) 1600 = .ok (.aload_n 0, 1) := by decide +kernel
theorem d332_1601 : decode (cdN 332) 1601 = .ok (.iload 4, 2) := by decide +kernel
theorem d332_1603 : decode (cdN 332) 1603 = .ok (.iconst 3, 1) := by decide +kernel
theorem d332_1604 : decode (cdN 332) 1604 = .ok (.iadd, 1) := by decide +kernel
theorem d332_1605 : decode (cdN 332) 1605 = .ok (.iaload, 1) := by decide +kernel
theorem d332_1606 : decode (cdN 332) 1606 = .ok (.aload_n 3, 1) := by decide +kernel
theorem d332_1607 : decode (cdN 332) 1607 = .ok (.invokestatic 246, 3) := by decide +kernel
theorem c332_246 : ctN (owN 332) 246 = some (12, 313, [1184, 1185, 91]) := by decide +kernel
theorem d332_1610 : decode (cdN 332) 1610 = .ok (.istore 5, 2) := by decide +kernel
theorem d332_1612 : decode (cdN 332) 1612 = .ok (.aload_n 2, 1) := by decide +kernel
theorem d332_1613 : decode (cdN 332) 1613 = .ok (.aload_n 0, 1) := by decide +kernel
theorem d332_1614 : decode (cdN 332) 1614 = .ok (.iload 4, 2) := by decide +kernel
theorem d332_1616 : decode (cdN 332) 1616 = .ok (.iconst 1, 1) := by decide +kernel
theorem d332_1617 : decode (cdN 332) 1617 = .ok (.iadd, 1) := by decide +kernel
theorem d332_1618 : decode (cdN 332) 1618 = .ok (.iaload, 1) := by decide +kernel
theorem d332_1619 : decode (cdN 332) 1619 = .ok (.aload_n 0, 1) := by decide +kernel
theorem d332_1620 : decode (cdN 332) 1620 = .ok (.iload 4, 2) := by decide +kernel
theorem d332_1622 : decode (cdN 332) 1622 = .ok (.iconst 2, 1) := by decide +kernel
theorem d332_1623 : decode (cdN 332) 1623 = .ok (.iadd, 1) := by decide +kernel
theorem d332_1624 : decode (cdN 332) 1624 = .ok (.iaload, 1) := by decide +kernel
theorem d332_1625 : decode (cdN 332) 1625 = .ok (.aload_n 0, 1) := by decide +kernel
theorem d332_1626 : decode (cdN 332) 1626 = .ok (.iload 4, 2) := by decide +kernel
theorem d332_1628 : decode (cdN 332) 1628 = .ok (.iconst 3, 1) := by decide +kernel
theorem d332_1629 : decode (cdN 332) 1629 = .ok (.iadd, 1) := by decide +kernel
theorem d332_1630 : decode (cdN 332) 1630 = .ok (.iaload, 1) := by decide +kernel
theorem d332_1631 : decode (cdN 332) 1631 = .ok (.invokevirtual 249, 3) := by decide +kernel
theorem c332_249 : ctN (owN 332) 249 = some (0, 253, [1858, 1859, 1860, 104]) := by decide +kernel
theorem d332_1634 : decode (cdN 332) 1634 = .ok (.istore 6, 2) := by decide +kernel
theorem d332_1636 : decode (cdN 332) 1636 = .ok (.aload_n 2, 1) := by decide +kernel
theorem d332_1637 : decode (cdN 332) 1637 = .ok (.invokevirtual 146, 3) := by decide +kernel
theorem d332_1640 : decode (cdN 332) 1640 = .ok (.iload 5, 2) := by decide +kernel
theorem d332_1642 : decode (cdN 332) 1642 = .ok (.if_icmp .eq 5, 3) := by decide +kernel
theorem d332_1645 : decode (cdN 332) 1645 = .ok (.iconst 0, 1) := by decide +kernel
theorem d332_1646 : decode (cdN 332) 1646 = .ok (.ireturn, 1) := by decide +kernel
theorem d332_1647 : decode (cdN 332) 1647 = .ok (.iload 5, 2) := by decide +kernel
theorem d332_1649 : decode (cdN 332) 1649 = .ok (.ifCond .ne 15, 3) := by decide +kernel
theorem d332_1652 : decode (cdN 332) 1652 = .ok (.aload_n 3, 1) := by decide +kernel
theorem d332_1653 : decode (cdN 332) 1653 = .ok (.iconst 0, 1) := by decide +kernel
theorem d332_1654 : decode (cdN 332) 1654 = .ok (.laload, 1) := by decide +kernel
theorem d332_1655 : decode (cdN 332) 1655 = .ok (.iload 6, 2) := by decide +kernel
theorem d332_1657 : decode (cdN 332) 1657 = .ok (.i2l, 1) := by decide +kernel
theorem d332_1658 : decode (cdN 332) 1658 = .ok (.lcmp, 1) := by decide +kernel
theorem d332_1659 : decode (cdN 332) 1659 = .ok (.ifCond .eq 5, 3) := by decide +kernel
theorem d332_1662 : decode (cdN 332) 1662 = .ok (.iconst 0, 1) := by decide +kernel
theorem d332_1663 : decode (cdN 332) 1663 = .ok (.ireturn, 1) := by decide +kernel
theorem d332_1664 : decode (cdN 332) 1664 = .ok (.goto 1368, 3) := by decide +kernel
theorem d332_1667 : decode (cdN 332) 1667 = .ok (.aload_n 1, 1) := by decide +kernel
theorem d332_1668 : decode (cdN 332) 1668 = .ok (.aload_n 0, 1) := by decide +kernel
theorem d332_1669 : decode (cdN 332) 1669 = .ok (.iload 4, 2) := by decide +kernel
theorem d332_1671 : decode (cdN 332) 1671 = .ok (.iconst 1, 1) := by decide +kernel
theorem d332_1672 : decode (cdN 332) 1672 = .ok (.iadd, 1) := by decide +kernel
theorem d332_1673 : decode (cdN 332) 1673 = .ok (.iaload, 1) := by decide +kernel
theorem d332_1674 : decode (cdN 332) 1674 = .ok (.aload_n 0, 1) := by decide +kernel
theorem d332_1675 : decode (cdN 332) 1675 = .ok (.iload 4, 2) := by decide +kernel
theorem d332_1677 : decode (cdN 332) 1677 = .ok (.iconst 2, 1) := by decide +kernel
theorem d332_1678 : decode (cdN 332) 1678 = .ok (.iadd, 1) := by decide +kernel
theorem d332_1679 : decode (cdN 332) 1679 = .ok (.iaload, 1) := by decide +kernel
theorem d332_1680 : decode (cdN 332) 1680 = .ok (.aload_n 3, 1) := by decide +kernel
theorem d332_1681 : decode (cdN 332) 1681 = .ok (.invokestatic 250, 3) := by decide +kernel
theorem c332_250 : ctN (owN 332) 250 = some (12, 314, [1193, 1194, 91]) := by decide +kernel
theorem d332_1684 : decode (cdN 332) 1684 = .ok (.istore 5, 2) := by decide +kernel
theorem d332_1686 : decode (cdN 332) 1686 = .ok (.aload_n 2, 1) := by decide +kernel
theorem d332_1687 : decode (cdN 332) 1687 = .ok (.aload_n 0, 1) := by decide +kernel
theorem d332_1688 : decode (cdN 332) 1688 = .ok (.iload 4, 2) := by decide +kernel
theorem d332_1690 : decode (cdN 332) 1690 = .ok (.iconst 1, 1) := by decide +kernel
theorem d332_1691 : decode (cdN 332) 1691 = .ok (.iadd, 1) := by decide +kernel
theorem d332_1692 : decode (cdN 332) 1692 = .ok (.iaload, 1) := by decide +kernel
theorem d332_1693 : decode (cdN 332) 1693 = .ok (.aload_n 0, 1) := by decide +kernel
theorem d332_1694 : decode (cdN 332) 1694 = .ok (.iload 4, 2) := by decide +kernel
theorem d332_1696 : decode (cdN 332) 1696 = .ok (.iconst 2, 1) := by decide +kernel
theorem d332_1697 : decode (cdN 332) 1697 = .ok (.iadd, 1) := by decide +kernel
theorem d332_1698 : decode (cdN 332) 1698 = .ok (.iaload, 1) := by decide +kernel
theorem d332_1699 : decode (cdN 332) 1699 = .ok (.invokevirtual 252, 3) := by decide +kernel
theorem c332_252 : ctN (owN 332) 252 = some (0, 254, [1870, 1871, 1872, 104]) := by decide +kernel
theorem d332_1702 : decode (cdN 332) 1702 = .ok (.istore 6, 2) := by decide +kernel
theorem d332_1704 : decode (cdN 332) 1704 = .ok (.aload_n 2, 1) := by decide +kernel
theorem d332_1705 : decode (cdN 332) 1705 = .ok (.invokevirtual 146, 3) := by decide +kernel
theorem d332_1708 : decode (cdN 332) 1708 = .ok (.iload 5, 2) := by decide +kernel
theorem d332_1710 : decode (cdN 332) 1710 = .ok (.if_icmp .eq 5, 3) := by decide +kernel
theorem d332_1713 : decode (cdN 332) 1713 = .ok (.iconst 0, 1) := by decide +kernel
theorem d332_1714 : decode (cdN 332) 1714 = .ok (.ireturn, 1) := by decide +kernel
theorem d332_1715 : decode (cdN 332) 1715 = .ok (.iload 5, 2) := by decide +kernel
theorem d332_1717 : decode (cdN 332) 1717 = .ok (.ifCond .ne 15, 3) := by decide +kernel
theorem d332_1720 : decode (cdN 332) 1720 = .ok (.aload_n 3, 1) := by decide +kernel
theorem d332_1721 : decode (cdN 332) 1721 = .ok (.iconst 0, 1) := by decide +kernel
theorem d332_1722 : decode (cdN 332) 1722 = .ok (.laload, 1) := by decide +kernel
theorem d332_1723 : decode (cdN 332) 1723 = .ok (.iload 6, 2) := by decide +kernel
theorem d332_1725 : decode (cdN 332) 1725 = .ok (.i2l, 1) := by decide +kernel
theorem d332_1726 : decode (cdN 332) 1726 = .ok (.lcmp, 1) := by decide +kernel
theorem d332_1727 : decode (cdN 332) 1727 = .ok (.ifCond .eq 5, 3) := by decide +kernel
theorem d332_1730 : decode (cdN 332) 1730 = .ok (.iconst 0, 1) := by decide +kernel
theorem d332_1731 : decode (cdN 332) 1731 = .ok (.ireturn, 1) := by decide +kernel
theorem d332_1732 : decode (cdN 332) 1732 = .ok (.goto 1300, 3) := by decide +kernel
theorem d332_1735 : decode (cdN 332) 1735 = .ok (.aload_n 1, 1) := by decide +kernel
theorem d332_1736 : decode (cdN 332) 1736 = .ok (.aload_n 0, 1) := by decide +kernel
theorem d332_1737 : decode (cdN 332) 1737 = .ok (.iload 4, 2) := by decide +kernel
theorem d332_1739 : decode (cdN 332) 1739 = .ok (.iconst 1, 1) := by decide +kernel
theorem d332_1740 : decode (cdN 332) 1740 = .ok (.iadd, 1) := by decide +kernel
theorem d332_1741 : decode (cdN 332) 1741 = .ok (.iaload, 1) := by decide +kernel
theorem d332_1742 : decode (cdN 332) 1742 = .ok (.aload_n 0, 1) := by decide +kernel
theorem d332_1743 : decode (cdN 332) 1743 = .ok (.iload 4, 2) := by decide +kernel
theorem d332_1745 : decode (cdN 332) 1745 = .ok (.iconst 2, 1) := by decide +kernel
theorem d332_1746 : decode (cdN 332) 1746 = .ok (.iadd, 1) := by decide +kernel
theorem d332_1747 : decode (cdN 332) 1747 = .ok (.iaload, 1) := by decide +kernel
theorem d332_1748 : decode (cdN 332) 1748 = .ok (.aload_n 3, 1) := by decide +kernel
theorem d332_1749 : decode (cdN 332) 1749 = .ok (.invokestatic 253, 3) := by decide +kernel
theorem c332_253 : ctN (owN 332) 253 = some (12, 315, [1200, 1201, 91]) := by decide +kernel
theorem d332_1752 : decode (cdN 332) 1752 = .ok (.istore 5, 2) := by decide +kernel
theorem d332_1754 : decode (cdN 332) 1754 = .ok (.aload_n 2, 1) := by decide +kernel
theorem d332_1755 : decode (cdN 332) 1755 = .ok (.aload_n 0, 1) := by decide +kernel
theorem d332_1756 : decode (cdN 332) 1756 = .ok (.iload 4, 2) := by decide +kernel
theorem d332_1758 : decode (cdN 332) 1758 = .ok (.iconst 1, 1) := by decide +kernel
theorem d332_1759 : decode (cdN 332) 1759 = .ok (.iadd, 1) := by decide +kernel
theorem d332_1760 : decode (cdN 332) 1760 = .ok (.iaload, 1) := by decide +kernel
theorem d332_1761 : decode (cdN 332) 1761 = .ok (.aload_n 0, 1) := by decide +kernel
theorem d332_1762 : decode (cdN 332) 1762 = .ok (.iload 4, 2) := by decide +kernel
theorem d332_1764 : decode (cdN 332) 1764 = .ok (.iconst 2, 1) := by decide +kernel
theorem d332_1765 : decode (cdN 332) 1765 = .ok (.iadd, 1) := by decide +kernel
theorem d332_1766 : decode (cdN 332) 1766 = .ok (.iaload, 1) := by decide +kernel
theorem d332_1767 : decode (cdN 332) 1767 = .ok (.invokevirtual 255, 3) := by decide +kernel
theorem c332_255 : ctN (owN 332) 255 = some (0, 255, [1874, 1875, 1876, 104]) := by decide +kernel
theorem d332_1770 : decode (cdN 332) 1770 = .ok (.istore 6, 2) := by decide +kernel
theorem d332_1772 : decode (cdN 332) 1772 = .ok (.aload_n 2, 1) := by decide +kernel
theorem d332_1773 : decode (cdN 332) 1773 = .ok (.invokevirtual 146, 3) := by decide +kernel
theorem d332_1776 : decode (cdN 332) 1776 = .ok (.iload 5, 2) := by decide +kernel
theorem d332_1778 : decode (cdN 332) 1778 = .ok (.if_icmp .eq 5, 3) := by decide +kernel
theorem d332_1781 : decode (cdN 332) 1781 = .ok (.iconst 0, 1) := by decide +kernel
theorem d332_1782 : decode (cdN 332) 1782 = .ok (.ireturn, 1) := by decide +kernel
theorem d332_1783 : decode (cdN 332) 1783 = .ok (.iload 5, 2) := by decide +kernel
theorem d332_1785 : decode (cdN 332) 1785 = .ok (.ifCond .ne 15, 3) := by decide +kernel
theorem d332_1788 : decode (cdN 332) 1788 = .ok (.aload_n 3, 1) := by decide +kernel
theorem d332_1789 : decode (cdN 332) 1789 = .ok (.iconst 0, 1) := by decide +kernel
theorem d332_1790 : decode (cdN 332) 1790 = .ok (.laload, 1) := by decide +kernel
theorem d332_1791 : decode (cdN 332) 1791 = .ok (.iload 6, 2) := by decide +kernel
theorem d332_1793 : decode (cdN 332) 1793 = .ok (.i2l, 1) := by decide +kernel
theorem d332_1794 : decode (cdN 332) 1794 = .ok (.lcmp, 1) := by decide +kernel
theorem d332_1795 : decode (cdN 332) 1795 = .ok (.ifCond .eq 5, 3) := by decide +kernel
theorem d332_1798 : decode (cdN 332) 1798 = .ok (.iconst 0, 1) := by decide +kernel
theorem d332_1799 : decode (cdN 332) 1799 = .ok (.ireturn, 1) := by decide +kernel
theorem d332_1800 : decode (cdN 332) 1800 = .ok (.goto 1232, 3) := by decide +kernel
theorem d332_1803 : decode (cdN 332) 1803 = .ok (.aload_n 1, 1) := by decide +kernel
theorem d332_1804 : decode (cdN 332) 1804 = .ok (.aload_n 0, 1) := by decide +kernel
theorem d332_1805 : decode (cdN 332) 1805 = .ok (.iload 4, 2) := by decide +kernel
theorem d332_1807 : decode (cdN 332) 1807 = .ok (.iconst 1, 1) := by decide +kernel
theorem d332_1808 : decode (cdN 332) 1808 = .ok (.iadd, 1) := by decide +kernel
theorem d332_1809 : decode (cdN 332) 1809 = .ok (.iaload, 1) := by decide +kernel
theorem d332_1810 : decode (cdN 332) 1810 = .ok (.aload_n 0, 1) := by decide +kernel
theorem d332_1811 : decode (cdN 332) 1811 = .ok (.iload 4, 2) := by decide +kernel
theorem d332_1813 : decode (cdN 332) 1813 = .ok (.iconst 2, 1) := by decide +kernel
theorem d332_1814 : decode (cdN 332) 1814 = .ok (.iadd, 1) := by decide +kernel
theorem d332_1815 : decode (cdN 332) 1815 = .ok (.iaload, 1) := by decide +kernel
theorem d332_1816 : decode (cdN 332) 1816 = .ok (.aload_n 3, 1) := by decide +kernel
theorem d332_1817 : decode (cdN 332) 1817 = .ok (.invokestatic 256, 3) := by decide +kernel
theorem c332_256 : ctN (owN 332) 256 = some (12, 316, [1207, 1208, 91]) := by decide +kernel
theorem d332_1820 : decode (cdN 332) 1820 = .ok (.istore 5, 2) := by decide +kernel
theorem d332_1822 : decode (cdN 332) 1822 = .ok (.aload_n 2, 1) := by decide +kernel
theorem d332_1823 : decode (cdN 332) 1823 = .ok (.aload_n 0, 1) := by decide +kernel
theorem d332_1824 : decode (cdN 332) 1824 = .ok (.iload 4, 2) := by decide +kernel
theorem d332_1826 : decode (cdN 332) 1826 = .ok (.iconst 1, 1) := by decide +kernel
theorem d332_1827 : decode (cdN 332) 1827 = .ok (.iadd, 1) := by decide +kernel
theorem d332_1828 : decode (cdN 332) 1828 = .ok (.iaload, 1) := by decide +kernel
theorem d332_1829 : decode (cdN 332) 1829 = .ok (.aload_n 0, 1) := by decide +kernel
theorem d332_1830 : decode (cdN 332) 1830 = .ok (.iload 4, 2) := by decide +kernel
theorem d332_1832 : decode (cdN 332) 1832 = .ok (.iconst 2, 1) := by decide +kernel
theorem d332_1833 : decode (cdN 332) 1833 = .ok (.iadd, 1) := by decide +kernel
theorem d332_1834 : decode (cdN 332) 1834 = .ok (.iaload, 1) := by decide +kernel
theorem d332_1835 : decode (cdN 332) 1835 = .ok (.invokevirtual 258, 3) := by decide +kernel
theorem c332_258 : ctN (owN 332) 258 = some (0, 256, [1879, 1880, 1881, 104]) := by decide +kernel
theorem d332_1838 : decode (cdN 332) 1838 = .ok (.istore 6, 2) := by decide +kernel
theorem d332_1840 : decode (cdN 332) 1840 = .ok (.aload_n 2, 1) := by decide +kernel
theorem d332_1841 : decode (cdN 332) 1841 = .ok (.invokevirtual 146, 3) := by decide +kernel
theorem d332_1844 : decode (cdN 332) 1844 = .ok (.iload 5, 2) := by decide +kernel
theorem d332_1846 : decode (cdN 332) 1846 = .ok (.if_icmp .eq 5, 3) := by decide +kernel
theorem d332_1849 : decode (cdN 332) 1849 = .ok (.iconst 0, 1) := by decide +kernel
theorem d332_1850 : decode (cdN 332) 1850 = .ok (.ireturn, 1) := by decide +kernel
theorem d332_1851 : decode (cdN 332) 1851 = .ok (.iload 5, 2) := by decide +kernel
theorem d332_1853 : decode (cdN 332) 1853 = .ok (.ifCond .ne 15, 3) := by decide +kernel
theorem d332_1856 : decode (cdN 332) 1856 = .ok (.aload_n 3, 1) := by decide +kernel
theorem d332_1857 : decode (cdN 332) 1857 = .ok (.iconst 0, 1) := by decide +kernel
theorem d332_1858 : decode (cdN 332) 1858 = .ok (.laload, 1) := by decide +kernel
theorem d332_1859 : decode (cdN 332) 1859 = .ok (.iload 6, 2) := by decide +kernel
theorem d332_1861 : decode (cdN 332) 1861 = .ok (.i2l, 1) := by decide +kernel
theorem d332_1862 : decode (cdN 332) 1862 = .ok (.lcmp, 1) := by decide +kernel
theorem d332_1863 : decode (cdN 332) 1863 = .ok (.ifCond .eq 5, 3) := by decide +kernel
theorem d332_1866 : decode (cdN 332) 1866 = .ok (.iconst 0, 1) := by decide +kernel
theorem d332_1867 : decode (cdN 332) 1867 = .ok (.ireturn, 1) := by decide +kernel
theorem d332_1868 : decode (cdN 332) 1868 = .ok (.goto 1164, 3) := by decide +kernel
theorem d332_1871 : decode (cdN 332) 1871 = .ok (.aload_n 1, 1) := by decide +kernel
theorem d332_1872 : decode (cdN 332) 1872 = .ok (.aload_n 0, 1) := by decide +kernel
theorem d332_1873 : decode (cdN 332) 1873 = .ok (.iload 4, 2) := by decide +kernel
theorem d332_1875 : decode (cdN 332) 1875 = .ok (.iconst 1, 1) := by decide +kernel
theorem d332_1876 : decode (cdN 332) 1876 = .ok (.iadd, 1) := by decide +kernel
theorem d332_1877 : decode (cdN 332) 1877 = .ok (.iaload, 1) := by decide +kernel
theorem d332_1878 : decode (cdN 332) 1878 = .ok (.aload_n 0, 1) := by decide +kernel
theorem d332_1879 : decode (cdN 332) 1879 = .ok (.iload 4, 2) := by decide +kernel
theorem d332_1881 : decode (cdN 332) 1881 = .ok (.iconst 2, 1) := by decide +kernel
theorem d332_1882 : decode (cdN 332) 1882 = .ok (.iadd, 1) := by decide +kernel
theorem d332_1883 : decode (cdN 332) 1883 = .ok (.iaload, 1) := by decide +kernel
theorem d332_1884 : decode (cdN 332) 1884 = .ok (.aload_n 3, 1) := by decide +kernel
theorem d332_1885 : decode (cdN 332) 1885 = .ok (.invokestatic 259, 3) := by decide +kernel
theorem c332_259 : ctN (owN 332) 259 = some (12, 317, [1214, 1215, 91]) := by decide +kernel
theorem d332_1888 : decode (cdN 332) 1888 = .ok (.istore 5, 2) := by decide +kernel
theorem d332_1890 : decode (cdN 332) 1890 = .ok (.aload_n 2, 1) := by decide +kernel
theorem d332_1891 : decode (cdN 332) 1891 = .ok (.aload_n 0, 1) := by decide +kernel
theorem d332_1892 : decode (cdN 332) 1892 = .ok (.iload 4, 2) := by decide +kernel
theorem d332_1894 : decode (cdN 332) 1894 = .ok (.iconst 1, 1) := by decide +kernel
theorem d332_1895 : decode (cdN 332) 1895 = .ok (.iadd, 1) := by decide +kernel
theorem d332_1896 : decode (cdN 332) 1896 = .ok (.iaload, 1) := by decide +kernel
theorem d332_1897 : decode (cdN 332) 1897 = .ok (.aload_n 0, 1) := by decide +kernel
theorem d332_1898 : decode (cdN 332) 1898 = .ok (.iload 4, 2) := by decide +kernel
theorem d332_1900 : decode (cdN 332) 1900 = .ok (.iconst 2, 1) := by decide +kernel
theorem d332_1901 : decode (cdN 332) 1901 = .ok (.iadd, 1) := by decide +kernel
theorem d332_1902 : decode (cdN 332) 1902 = .ok (.iaload, 1) := by decide +kernel
theorem d332_1903 : decode (cdN 332) 1903 = .ok (.invokevirtual 261, 3) := by decide +kernel
theorem c332_261 : ctN (owN 332) 261 = some (0, 257, [1883, 1884, 1885, 104]) := by decide +kernel
theorem d332_1906 : decode (cdN 332) 1906 = .ok (.istore 6, 2) := by decide +kernel
theorem d332_1908 : decode (cdN 332) 1908 = .ok (.aload_n 2, 1) := by decide +kernel
theorem d332_1909 : decode (cdN 332) 1909 = .ok (.invokevirtual 146, 3) := by decide +kernel
theorem d332_1912 : decode (cdN 332) 1912 = .ok (.iload 5, 2) := by decide +kernel
theorem d332_1914 : decode (cdN 332) 1914 = .ok (.if_icmp .eq 5, 3) := by decide +kernel
theorem d332_1917 : decode (cdN 332) 1917 = .ok (.iconst 0, 1) := by decide +kernel
theorem d332_1918 : decode (cdN 332) 1918 = .ok (.ireturn, 1) := by decide +kernel
theorem d332_1919 : decode (cdN 332) 1919 = .ok (.iload 5, 2) := by decide +kernel
theorem d332_1921 : decode (cdN 332) 1921 = .ok (.ifCond .ne 15, 3) := by decide +kernel
theorem d332_1924 : decode (cdN 332) 1924 = .ok (.aload_n 3, 1) := by decide +kernel
theorem d332_1925 : decode (cdN 332) 1925 = .ok (.iconst 0, 1) := by decide +kernel
theorem d332_1926 : decode (cdN 332) 1926 = .ok (.laload, 1) := by decide +kernel
theorem d332_1927 : decode (cdN 332) 1927 = .ok (.iload 6, 2) := by decide +kernel
theorem d332_1929 : decode (cdN 332) 1929 = .ok (.i2l, 1) := by decide +kernel
theorem d332_1930 : decode (cdN 332) 1930 = .ok (.lcmp, 1) := by decide +kernel
theorem d332_1931 : decode (cdN 332) 1931 = .ok (.ifCond .eq 5, 3) := by decide +kernel
theorem d332_1934 : decode (cdN 332) 1934 = .ok (.iconst 0, 1) := by decide +kernel
theorem d332_1935 : decode (cdN 332) 1935 = .ok (.ireturn, 1) := by decide +kernel
theorem d332_1936 : decode (cdN 332) 1936 = .ok (.goto 1096, 3) := by decide +kernel
theorem d332_1939 : decode (cdN 332) 1939 = .ok (.aload_n 1, 1) := by decide +kernel
theorem d332_1940 : decode (cdN 332) 1940 = .ok (.aload_n 0, 1) := by decide +kernel
theorem d332_1941 : decode (cdN 332) 1941 = .ok (.iload 4, 2) := by decide +kernel
theorem d332_1943 : decode (cdN 332) 1943 = .ok (.iconst 1, 1) := by decide +kernel
theorem d332_1944 : decode (cdN 332) 1944 = .ok (.iadd, 1) := by decide +kernel
theorem d332_1945 : decode (cdN 332) 1945 = .ok (.iaload, 1) := by decide +kernel
theorem d332_1946 : decode (cdN 332) 1946 = .ok (.aload_n 0, 1) := by decide +kernel
theorem d332_1947 : decode (cdN 332) 1947 = .ok (.iload 4, 2) := by decide +kernel
theorem d332_1949 : decode (cdN 332) 1949 = .ok (.iconst 2, 1) := by decide +kernel
theorem d332_1950 : decode (cdN 332) 1950 = .ok (.iadd, 1) := by decide +kernel
theorem d332_1951 : decode (cdN 332) 1951 = .ok (.iaload, 1) := by decide +kernel
theorem d332_1952 : decode (cdN 332) 1952 = .ok (.aload_n 0, 1) := by decide +kernel
theorem d332_1953 : decode (cdN 332) 1953 = .ok (.iload 4, 2) := by decide +kernel
theorem d332_1955 : decode (cdN 332) 1955 = .ok (.iconst 3, 1) := by decide +kernel
theorem d332_1956 : decode (cdN 332) 1956 = .ok (.iadd, 1) := by decide +kernel
theorem d332_1957 : decode (cdN 332) 1957 = .ok (.iaload, 1) := by decide +kernel
theorem d332_1958 : decode (cdN 332) 1958 = .ok (.aload_n 3, 1) := by decide +kernel
theorem d332_1959 : decode (cdN 332) 1959 = .ok (.invokestatic 262, 3) := by decide +kernel
theorem c332_262 : ctN (owN 332) 262 = some (12, 318, [1222, 1223, 91]) := by decide +kernel
theorem d332_1962 : decode (cdN 332) 1962 = .ok (.istore 5, 2) := by decide +kernel
theorem d332_1964 : decode (cdN 332) 1964 = .ok (.aload_n 2, 1) := by decide +kernel
theorem d332_1965 : decode (cdN 332) 1965 = .ok (.aload_n 0, 1) := by decide +kernel
theorem d332_1966 : decode (cdN 332) 1966 = .ok (.iload 4, 2) := by decide +kernel
theorem d332_1968 : decode (cdN 332) 1968 = .ok (.iconst 1, 1) := by decide +kernel
theorem d332_1969 : decode (cdN 332) 1969 = .ok (.iadd, 1) := by decide +kernel
theorem d332_1970 : decode (cdN 332) 1970 = .ok (.iaload, 1) := by decide +kernel
theorem d332_1971 : decode (cdN 332) 1971 = .ok (.aload_n 0, 1) := by decide +kernel
theorem d332_1972 : decode (cdN 332) 1972 = .ok (.iload 4, 2) := by decide +kernel
theorem d332_1974 : decode (cdN 332) 1974 = .ok (.iconst 2, 1) := by decide +kernel
theorem d332_1975 : decode (cdN 332) 1975 = .ok (.iadd, 1) := by decide +kernel
theorem d332_1976 : decode (cdN 332) 1976 = .ok (.iaload, 1) := by decide +kernel
theorem d332_1977 : decode (cdN 332) 1977 = .ok (.aload_n 0, 1) := by decide +kernel
theorem d332_1978 : decode (cdN 332) 1978 = .ok (.iload 4, 2) := by decide +kernel
theorem d332_1980 : decode (cdN 332) 1980 = .ok (.iconst 3, 1) := by decide +kernel
theorem d332_1981 : decode (cdN 332) 1981 = .ok (.iadd, 1) := by decide +kernel
theorem d332_1982 : decode (cdN 332) 1982 = .ok (.iaload, 1) := by decide +kernel
theorem d332_1983 : decode (cdN 332) 1983 = .ok (.invokevirtual 264, 3) := by decide +kernel
theorem c332_264 : ctN (owN 332) 264 = some (0, 261, [1891, 1892, 1893, 104]) := by decide +kernel
theorem d332_1986 : decode (cdN 332) 1986 = .ok (.istore 6, 2) := by decide +kernel
theorem d332_1988 : decode (cdN 332) 1988 = .ok (.aload_n 2, 1) := by decide +kernel
theorem d332_1989 : decode (cdN 332) 1989 = .ok (.invokevirtual 146, 3) := by decide +kernel
theorem d332_1992 : decode (cdN 332) 1992 = .ok (.iload 5, 2) := by decide +kernel
theorem d332_1994 : decode (cdN 332) 1994 = .ok (.if_icmp .eq 5, 3) := by decide +kernel
theorem d332_1997 : decode (cdN 332) 1997 = .ok (.iconst 0, 1) := by decide +kernel
theorem d332_1998 : decode (cdN 332) 1998 = .ok (.ireturn, 1) := by decide +kernel
theorem d332_1999 : decode (cdN 332) 1999 = .ok (.iload 5, 2) := by decide +kernel
theorem d332_2001 : decode (cdN 332) 2001 = .ok (.ifCond .ne 22, 3) := by decide +kernel
theorem d332_2004 : decode (cdN 332) 2004 = .ok (.aload_n 3, 1) := by decide +kernel
theorem d332_2005 : decode (cdN 332) 2005 = .ok (.iconst 0, 1) := by decide +kernel
theorem d332_2006 : decode (cdN 332) 2006 = .ok (.laload, 1) := by decide +kernel
theorem d332_2007 : decode (cdN 332) 2007 = .ok (.iload 6, 2) := by decide +kernel
theorem d332_2009 : decode (cdN 332) 2009 = .ok (.ifCond .eq 7, 3) := by decide +kernel
theorem d332_2012 : decode (cdN 332) 2012 = .ok (.lconst 1, 1) := by decide +kernel
theorem d332_2013 : decode (cdN 332) 2013 = .ok (.goto 4, 3) := by decide +kernel
theorem d332_2016 : decode (cdN 332) 2016 = .ok (.lconst 0, 1) := by decide +kernel
theorem d332_2017 : decode (cdN 332) 2017 = .ok (.lcmp, 1) := by decide +kernel
theorem d332_2018 : decode (cdN 332) 2018 = .ok (.ifCond .eq 5, 3) := by decide +kernel
theorem d332_2021 : decode (cdN 332) 2021 = .ok (.iconst 0, 1) := by decide +kernel
theorem d332_2022 : decode (cdN 332) 2022 = .ok (.ireturn, 1) := by decide +kernel
theorem d332_2023 : decode (cdN 332) 2023 = .ok (.goto 1009, 3) := by decide +kernel
theorem d332_2026 : decode (cdN 332) 2026 = .ok (.aload_n 1, 1) := by decide +kernel
theorem d332_2027 : decode (cdN 332) 2027 = .ok (.aload_n 0, 1) := by decide +kernel
theorem d332_2028 : decode (cdN 332) 2028 = .ok (.iload 4, 2) := by decide +kernel
theorem d332_2030 : decode (cdN 332) 2030 = .ok (.iconst 1, 1) := by decide +kernel
theorem d332_2031 : decode (cdN 332) 2031 = .ok (.iadd, 1) := by decide +kernel
theorem d332_2032 : decode (cdN 332) 2032 = .ok (.iaload, 1) := by decide +kernel
theorem d332_2033 : decode (cdN 332) 2033 = .ok (.aload_n 3, 1) := by decide +kernel
theorem d332_2034 : decode (cdN 332) 2034 = .ok (.invokestatic 265, 3) := by decide +kernel
theorem c332_265 : ctN (owN 332) 265 = some (12, 319, [1240, 1241, 91]) := by decide +kernel
theorem d332_2037 : decode (cdN 332) 2037 = .ok (.istore 5, 2) := by decide +kernel
theorem d332_2039 : decode (cdN 332) 2039 = .ok (.aload_n 2, 1) := by decide +kernel
theorem d332_2040 : decode (cdN 332) 2040 = .ok (.aload_n 0, 1) := by decide +kernel
theorem d332_2041 : decode (cdN 332) 2041 = .ok (.iload 4, 2) := by decide +kernel
theorem d332_2043 : decode (cdN 332) 2043 = .ok (.iconst 1, 1) := by decide +kernel
theorem d332_2044 : decode (cdN 332) 2044 = .ok (.iadd, 1) := by decide +kernel
theorem d332_2045 : decode (cdN 332) 2045 = .ok (.iaload, 1) := by decide +kernel
theorem d332_2046 : decode (cdN 332) 2046 = .ok (.invokevirtual 267, 3) := by decide +kernel
theorem c332_267 : ctN (owN 332) 267 = some (0, 262, [1906, 1907, 1908, 104]) := by decide +kernel
theorem d332_2049 : decode (cdN 332) 2049 = .ok (.istore 6, 2) := by decide +kernel
theorem d332_2051 : decode (cdN 332) 2051 = .ok (.aload_n 2, 1) := by decide +kernel
theorem d332_2052 : decode (cdN 332) 2052 = .ok (.invokevirtual 146, 3) := by decide +kernel
theorem d332_2055 : decode (cdN 332) 2055 = .ok (.iload 5, 2) := by decide +kernel
theorem d332_2057 : decode (cdN 332) 2057 = .ok (.if_icmp .eq 5, 3) := by decide +kernel
theorem d332_2060 : decode (cdN 332) 2060 = .ok (.iconst 0, 1) := by decide +kernel
theorem d332_2061 : decode (cdN 332) 2061 = .ok (.ireturn, 1) := by decide +kernel
theorem d332_2062 : decode (cdN 332) 2062 = .ok (.iload 5, 2) := by decide +kernel
theorem d332_2064 : decode (cdN 332) 2064 = .ok (.ifCond .ne 15, 3) := by decide +kernel
theorem d332_2067 : decode (cdN 332) 2067 = .ok (.aload_n 3, 1) := by decide +kernel
theorem d332_2068 : decode (cdN 332) 2068 = .ok (.iconst 0, 1) := by decide +kernel
theorem d332_2069 : decode (cdN 332) 2069 = .ok (.laload, 1) := by decide +kernel
theorem d332_2070 : decode (cdN 332) 2070 = .ok (.iload 6, 2) := by decide +kernel
theorem d332_2072 : decode (cdN 332) 2072 = .ok (.i2l, 1) := by decide +kernel
theorem d332_2073 : decode (cdN 332) 2073 = .ok (.lcmp, 1) := by decide +kernel
theorem d332_2074 : decode (cdN 332) 2074 = .ok (.ifCond .eq 5, 3) := by decide +kernel
theorem d332_2077 : decode (cdN 332) 2077 = .ok (.iconst 0, 1) := by decide +kernel
theorem d332_2078 : decode (cdN 332) 2078 = .ok (.ireturn, 1) := by decide +kernel
theorem d332_2079 : decode (cdN 332) 2079 = .ok (.goto 953, 3) := by decide +kernel
theorem d332_2082 : decode (cdN 332) 2082 = .ok (.aload_n 1, 1) := by decide +kernel
theorem d332_2083 : decode (cdN 332) 2083 = .ok (.aload_n 0, 1) := by decide +kernel
theorem d332_2084 : decode (cdN 332) 2084 = .ok (.iload 4, 2) := by decide +kernel
theorem d332_2086 : decode (cdN 332) 2086 = .ok (.iconst 1, 1) := by decide +kernel
theorem d332_2087 : decode (cdN 332) 2087 = .ok (.iadd, 1) := by decide +kernel
theorem d332_2088 : decode (cdN 332) 2088 = .ok (.iaload, 1) := by decide +kernel
theorem d332_2089 : decode (cdN 332) 2089 = .ok (.aload_n 3, 1) := by decide +kernel
theorem d332_2090 : decode (cdN 332) 2090 = .ok (.invokestatic 268, 3) := by decide +kernel
theorem c332_268 : ctN (owN 332) 268 = some (12, 320, [1247, 1248, 91]) := by decide +kernel
theorem d332_2093 : decode (cdN 332) 2093 = .ok (.istore 5, 2) := by decide +kernel
theorem d332_2095 : decode (cdN 332) 2095 = .ok (.aload_n 2, 1) := by decide +kernel
theorem d332_2096 : decode (cdN 332) 2096 = .ok (.aload_n 0, 1) := by decide +kernel
theorem d332_2097 : decode (cdN 332) 2097 = .ok (.iload 4, 2) := by decide +kernel
theorem d332_2099 : decode (cdN 332) 2099 = .ok (.iconst 1, 1) := by decide +kernel
theorem d332_2100 : decode (cdN 332) 2100 = .ok (.iadd, 1) := by decide +kernel
theorem d332_2101 : decode (cdN 332) 2101 = .ok (.iaload, 1) := by decide +kernel
theorem d332_2102 : decode (cdN 332) 2102 = .ok (.invokevirtual 270, 3) := by decide +kernel
theorem c332_270 : ctN (owN 332) 270 = some (0, 263, [1910, 1911, 1912, 104]) := by decide +kernel
theorem d332_2105 : decode (cdN 332) 2105 = .ok (.istore 6, 2) := by decide +kernel
theorem d332_2107 : decode (cdN 332) 2107 = .ok (.aload_n 2, 1) := by decide +kernel
theorem d332_2108 : decode (cdN 332) 2108 = .ok (.invokevirtual 146, 3) := by decide +kernel
theorem d332_2111 : decode (cdN 332) 2111 = .ok (.iload 5, 2) := by decide +kernel
theorem d332_2113 : decode (cdN 332) 2113 = .ok (.if_icmp .eq 5, 3) := by decide +kernel
theorem d332_2116 : decode (cdN 332) 2116 = .ok (.iconst 0, 1) := by decide +kernel
theorem d332_2117 : decode (cdN 332) 2117 = .ok (.ireturn, 1) := by decide +kernel
theorem d332_2118 : decode (cdN 332) 2118 = .ok (.iload 5, 2) := by decide +kernel
theorem d332_2120 : decode (cdN 332) 2120 = .ok (.ifCond .ne 15, 3) := by decide +kernel
theorem d332_2123 : decode (cdN 332) 2123 = .ok (.aload_n 3, 1) := by decide +kernel
theorem d332_2124 : decode (cdN 332) 2124 = .ok (.iconst 0, 1) := by decide +kernel
theorem d332_2125 : decode (cdN 332) 2125 = .ok (.laload, 1) := by decide +kernel
theorem d332_2126 : decode (cdN 332) 2126 = .ok (.iload 6, 2) := by decide +kernel
theorem d332_2128 : decode (cdN 332) 2128 = .ok (.i2l, 1) := by decide +kernel
theorem d332_2129 : decode (cdN 332) 2129 = .ok (.lcmp, 1) := by decide +kernel
theorem d332_2130 : decode (cdN 332) 2130 = .ok (.ifCond .eq 5, 3) := by decide +kernel
theorem d332_2133 : decode (cdN 332) 2133 = .ok (.iconst 0, 1) := by decide +kernel
theorem d332_2134 : decode (cdN 332) 2134 = .ok (.ireturn, 1) := by decide +kernel
theorem d332_2135 : decode (cdN 332) 2135 = .ok (.goto 897, 3) := by decide +kernel
theorem d332_2138 : decode (cdN 332) 2138 = .ok (.aload_n 1, 1) := by decide +kernel
theorem d332_2139 : decode (cdN 332) 2139 = .ok (.invokevirtual 271, 3) := by decide +kernel
theorem c332_271 : ctN (owN 332) 271 = some (0, 113, [548, 549, 550, 92]) := by decide +kernel
theorem d332_2142 : decode (cdN 332) 2142 = .ok (.aload_n 2, 1) := by decide +kernel
theorem d332_2143 : decode (cdN 332) 2143 = .ok (.invokevirtual 274, 3) := by decide +kernel
theorem c332_274 : ctN (owN 332) 274 = some (0, 264, [1922, 1923, 1924, 104]) := by decide +kernel
theorem d332_2146 : decode (cdN 332) 2146 = .ok (.if_icmp .eq 886, 3) := by decide +kernel
theorem d332_2149 : decode (cdN 332) 2149 = .ok (.iconst 0, 1) := by decide +kernel
theorem d332_2150 : decode (cdN 332) 2150 = .ok (.ireturn, 1) := by decide +kernel
theorem d332_2151 : decode (cdN 332) 2151 = .ok (.aload_n 1, 1) := by decide +kernel
theorem d332_2152 : decode (cdN 332) 2152 = .ok (.invokevirtual 275, 3) := by decide +kernel
theorem c332_275 : ctN (owN 332) 275 = some (0, 114, [556, 557, 558, 92]) := by decide +kernel
theorem d332_2155 : decode (cdN 332) 2155 = .ok (.aload_n 2, 1) := by decide +kernel
theorem d332_2156 : decode (cdN 332) 2156 = .ok (.invokevirtual 278, 3) := by decide +kernel
theorem c332_278 : ctN (owN 332) 278 = some (0, 265, [1926, 1927, 1928, 104]) := by decide +kernel
theorem d332_2159 : decode (cdN 332) 2159 = .ok (.if_icmp .eq 873, 3) := by decide +kernel
theorem d332_2162 : decode (cdN 332) 2162 = .ok (.iconst 0, 1) := by decide +kernel
theorem d332_2163 : decode (cdN 332) 2163 = .ok (.ireturn, 1) := by decide +kernel
theorem d332_2164 : decode (cdN 332) 2164 = .ok (.aload_n 1, 1) := by decide +kernel
theorem d332_2165 : decode (cdN 332) 2165 = .ok (.invokevirtual 279, 3) := by decide +kernel
theorem c332_279 : ctN (owN 332) 279 = some (0, 115, [560, 561, 562, 92]) := by decide +kernel
theorem d332_2168 : decode (cdN 332) 2168 = .ok (.aload_n 2, 1) := by decide +kernel
theorem d332_2169 : decode (cdN 332) 2169 = .ok (.invokevirtual 282, 3) := by decide +kernel
theorem c332_282 : ctN (owN 332) 282 = some (0, 266, [1930, 1931, 1932, 104]) := by decide +kernel
theorem d332_2172 : decode (cdN 332) 2172 = .ok (.if_icmp .eq 860, 3) := by decide +kernel
theorem d332_2175 : decode (cdN 332) 2175 = .ok (.iconst 0, 1) := by decide +kernel
theorem d332_2176 : decode (cdN 332) 2176 = .ok (.ireturn, 1) := by decide +kernel
theorem d332_2177 : decode (cdN 332) 2177 = .ok (.aload_n 1, 1) := by decide +kernel
theorem d332_2178 : decode (cdN 332) 2178 = .ok (.invokevirtual 283, 3) := by decide +kernel
theorem c332_283 : ctN (owN 332) 283 = some (0, 116, [643, 644, 645, 92]) := by decide +kernel
theorem d332_2181 : decode (cdN 332) 2181 = .ok (.aload_n 2, 1) := by decide +kernel
theorem d332_2182 : decode (cdN 332) 2182 = .ok (.invokevirtual 286, 3) := by decide +kernel
theorem c332_286 : ctN (owN 332) 286 = some (0, 267, [1934, 1935, 1936, 104]) := by decide +kernel
theorem d332_2185 : decode (cdN 332) 2185 = .ok (.if_icmp .eq 847, 3) := by decide +kernel
theorem d332_2188 : decode (cdN 332) 2188 = .ok (.iconst 0, 1) := by decide +kernel
theorem d332_2189 : decode (cdN 332) 2189 = .ok (.ireturn, 1) := by decide +kernel
theorem d332_2190 : decode (cdN 332) 2190 = .ok (.aload_n 1, 1) := by decide +kernel
theorem d332_2191 : decode (cdN 332) 2191 = .ok (.invokevirtual 287, 3) := by decide +kernel
theorem c332_287 : ctN (owN 332) 287 = some (0, 117, [647, 648, 649, 92]) := by decide +kernel
theorem d332_2194 : decode (cdN 332) 2194 = .ok (.aload_n 2, 1) := by decide +kernel
theorem d332_2195 : decode (cdN 332) 2195 = .ok (.invokevirtual 290, 3) := by decide +kernel
theorem c332_290 : ctN (owN 332) 290 = some (0, 268, [1938, 1939, 1940, 104]) := by decide +kernel
theorem d332_2198 : decode (cdN 332) 2198 = .ok (.if_icmp .eq 834, 3) := by decide +kernel
theorem d332_2201 : decode (cdN 332) 2201 = .ok (.iconst 0, 1) := by decide +kernel
theorem d332_2202 : decode (cdN 332) 2202 = .ok (.ireturn, 1) := by decide +kernel
theorem d332_2203 : decode (cdN 332) 2203 = .ok (.aload_n 1, 1) := by decide +kernel
theorem d332_2204 : decode (cdN 332) 2204 = .ok (.invokevirtual 291, 3) := by decide +kernel
theorem c332_291 : ctN (owN 332) 291 = some (0, 118, [651, 652, 653, 92]) := by decide +kernel
theorem d332_2207 : decode (cdN 332) 2207 = .ok (.aload_n 2, 1) := by decide +kernel
theorem d332_2208 : decode (cdN 332) 2208 = .ok (.invokevirtual 294, 3) := by decide +kernel
theorem c332_294 : ctN (owN 332) 294 = some (0, 269, [1942, 1943, 1944, 104]) := by decide +kernel
theorem d332_2211 : decode (cdN 332) 2211 = .ok (.if_icmp .eq 821, 3) := by decide +kernel
theorem d332_2214 : decode (cdN 332) 2214 = .ok (.iconst 0, 1) := by decide +kernel
theorem d332_2215 : decode (cdN 332) 2215 = .ok (.ireturn, 1) := by decide +kernel
theorem d332_2216 : decode (cdN 332) 2216 = .ok (.aload_n 1, 1) := by decide +kernel
theorem d332_2217 : decode (cdN 332) 2217 = .ok (.invokevirtual 295, 3) := by decide +kernel
theorem c332_295 : ctN (owN 332) 295 = some (0, 119, [655, 656, 657, 92]) := by decide +kernel
theorem d332_2220 : decode (cdN 332) 2220 = .ok (.aload_n 2, 1) := by decide +kernel
theorem d332_2221 : decode (cdN 332) 2221 = .ok (.invokevirtual 298, 3) := by decide +kernel
theorem c332_298 : ctN (owN 332) 298 = some (0, 270, [1946, 1947, 1948, 104]) := by decide +kernel
theorem d332_2224 : decode (cdN 332) 2224 = .ok (.if_icmp .eq 808, 3) := by decide +kernel
theorem d332_2227 : decode (cdN 332) 2227 = .ok (.iconst 0, 1) := by decide +kernel
theorem d332_2228 : decode (cdN 332) 2228 = .ok (.ireturn, 1) := by decide +kernel
theorem d332_2229 : decode (cdN 332) 2229 = .ok (.aload_n 1, 1) := by decide +kernel
theorem d332_2230 : decode (cdN 332) 2230 = .ok (.invokevirtual 299, 3) := by decide +kernel
theorem c332_299 : ctN (owN 332) 299 = some (0, 120, [659, 660, 661, 92]) := by decide +kernel
theorem d332_2233 : decode (cdN 332) 2233 = .ok (.aload_n 2, 1) := by decide +kernel
theorem d332_2234 : decode (cdN 332) 2234 = .ok (.invokevirtual 302, 3) := by decide +kernel
theorem c332_302 : ctN (owN 332) 302 = some (0, 271, [1950, 1951, 1952, 104]) := by decide +kernel
theorem d332_2237 : decode (cdN 332) 2237 = .ok (.if_icmp .eq 795, 3) := by decide +kernel
theorem d332_2240 : decode (cdN 332) 2240 = .ok (.iconst 0, 1) := by decide +kernel
theorem d332_2241 : decode (cdN 332) 2241 = .ok (.ireturn, 1) := by decide +kernel
theorem d332_2242 : decode (cdN 332) 2242 = .ok (.aload_n 1, 1) := by decide +kernel
theorem d332_2243 : decode (cdN 332) 2243 = .ok (.invokevirtual 303, 3) := by decide +kernel
theorem c332_303 : ctN (owN 332) 303 = some (0, 121, [663, 664, 665, 92]) := by decide +kernel
theorem d332_2246 : decode (cdN 332) 2246 = .ok (.aload_n 2, 1) := by decide +kernel
theorem d332_2247 : decode (cdN 332) 2247 = .ok (.invokevirtual 306, 3) := by decide +kernel
theorem c332_306 : ctN (owN 332) 306 = some (0, 272, [1954, 1955, 1956, 104]) := by decide +kernel
theorem d332_2250 : decode (cdN 332) 2250 = .ok (.if_icmp .eq 782, 3) := by decide +kernel
theorem d332_2253 : decode (cdN 332) 2253 = .ok (.iconst 0, 1) := by decide +kernel
theorem d332_2254 : decode (cdN 332) 2254 = .ok (.ireturn, 1) := by decide +kernel
theorem d332_2255 : decode (cdN 332) 2255 = .ok (.aload_n 1, 1) := by decide +kernel
theorem d332_2256 : decode (cdN 332) 2256 = .ok (.invokevirtual 307, 3) := by decide +kernel
theorem c332_307 : ctN (owN 332) 307 = some (0, 122, [667, 668, 669, 92]) := by decide +kernel
theorem d332_2259 : decode (cdN 332) 2259 = .ok (.aload_n 2, 1) := by decide +kernel
theorem d332_2260 : decode (cdN 332) 2260 = .ok (.invokevirtual 310, 3) := by decide +kernel
theorem c332_310 : ctN (owN 332) 310 = some (0, 273, [1958, 1959, 1960, 104]) := by decide +kernel
theorem d332_2263 : decode (cdN 332) 2263 = .ok (.if_icmp .eq 769, 3) := by decide +kernel
theorem d332_2266 : decode (cdN 332) 2266 = .ok (.iconst 0, 1) := by decide +kernel
theorem d332_2267 : decode (cdN 332) 2267 = .ok (.ireturn, 1) := by decide +kernel
theorem d332_2268 : decode (cdN 332) 2268 = .ok (.aload_n 1, 1) := by decide +kernel
theorem d332_2269 : decode (cdN 332) 2269 = .ok (.invokevirtual 311, 3) := by decide +kernel
theorem c332_311 : ctN (owN 332) 311 = some (0, 123, [671, 672, 673, 92]) := by decide +kernel
theorem d332_2272 : decode (cdN 332) 2272 = .ok (.aload_n 2, 1) := by decide +kernel
theorem d332_2273 : decode (cdN 332) 2273 = .ok (.invokevirtual 314, 3) := by decide +kernel
theorem c332_314 : ctN (owN 332) 314 = some (0, 274, [1962, 1963, 1964, 104]) := by decide +kernel
theorem d332_2276 : decode (cdN 332) 2276 = .ok (.if_icmp .eq 756, 3) := by decide +kernel
theorem d332_2279 : decode (cdN 332) 2279 = .ok (.iconst 0, 1) := by decide +kernel
theorem d332_2280 : decode (cdN 332) 2280 = .ok (.ireturn, 1) := by decide +kernel
theorem d332_2281 : decode (cdN 332) 2281 = .ok (.aload_n 1, 1) := by decide +kernel
theorem d332_2282 : decode (cdN 332) 2282 = .ok (.invokevirtual 315, 3) := by decide +kernel
theorem c332_315 : ctN (owN 332) 315 = some (0, 124, [686, 687, 688, 92]) := by decide +kernel
theorem d332_2285 : decode (cdN 332) 2285 = .ok (.aload_n 2, 1) := by decide +kernel
theorem d332_2286 : decode (cdN 332) 2286 = .ok (.invokevirtual 318, 3) := by decide +kernel
theorem c332_318 : ctN (owN 332) 318 = some (0, 275, [1967, 1968, 1969, 104]) := by decide +kernel
theorem d332_2289 : decode (cdN 332) 2289 = .ok (.if_icmp .eq 743, 3) := by decide +kernel
theorem d332_2292 : decode (cdN 332) 2292 = .ok (.iconst 0, 1) := by decide +kernel
theorem d332_2293 : decode (cdN 332) 2293 = .ok (.ireturn, 1) := by decide +kernel
theorem d332_2294 : decode (cdN 332) 2294 = .ok (.aload_n 1, 1) := by decide +kernel
theorem d332_2295 : decode (cdN 332) 2295 = .ok (.invokevirtual 319, 3) := by decide +kernel
theorem c332_319 : ctN (owN 332) 319 = some (0, 125, [690, 691, 692, 92]) := by decide +kernel
theorem d332_2298 : decode (cdN 332) 2298 = .ok (.f2d, 1) := by decide +kernel
theorem d332_2299 : decode (cdN 332) 2299 = .ok (.dstore 5, 2) := by decide +kernel
theorem d332_2301 : decode (cdN 332) 2301 = .ok (.aload_n 2, 1) := by decide +kernel
theorem d332_2302 : decode (cdN 332) 2302 = .ok (.invokevirtual 323, 3) := by decide +kernel
theorem c332_323 : ctN (owN 332) 323 = some (0, 276, [1971, 1972, 1973, 104]) := by decide +kernel
theorem d332_2305 : decode (cdN 332) 2305 = .ok (.f2d, 1) := by decide +kernel
theorem d332_2306 : decode (cdN 332) 2306 = .ok (.dstore 7, 2) := by decide +kernel
theorem d332_2308 : decode (cdN 332) 2308 = .ok (.dload 5, 2) := by decide +kernel
theorem d332_2310 : decode (cdN 332) 2310 = .ok (.dload 7, 2) := by decide +kernel
theorem d332_2312 : decode (cdN 332) 2312 = .ok (.dcmp .l, 1) := by decide +kernel
theorem d332_2313 : decode (cdN 332) 2313 = .ok (.ifCond .eq 21, 3) := by decide +kernel
theorem d332_2316 : decode (cdN 332) 2316 = .ok (.dload 5, 2) := by decide +kernel
theorem d332_2318 : decode (cdN 332) 2318 = .ok (.dload 5, 2) := by decide +kernel
theorem d332_2320 : decode (cdN 332) 2320 = .ok (.dcmp .l, 1) := by decide +kernel
theorem d332_2321 : decode (cdN 332) 2321 = .ok (.ifCond .eq 11, 3) := by decide +kernel
theorem d332_2324 : decode (cdN 332) 2324 = .ok (.dload 7, 2) := by decide +kernel
theorem d332_2326 : decode (cdN 332) 2326 = .ok (.dload 7, 2) := by decide +kernel
theorem d332_2328 : decode (cdN 332) 2328 = .ok (.dcmp .l, 1) := by decide +kernel
theorem d332_2329 : decode (cdN 332) 2329 = .ok (.ifCond .ne 5, 3) := by decide +kernel
theorem d332_2332 : decode (cdN 332) 2332 = .ok (.iconst 0, 1) := by decide +kernel
theorem d332_2333 : decode (cdN 332) 2333 = .ok (.ireturn, 1) := by decide +kernel
theorem d332_2334 : decode (cdN 332) 2334 = .ok (.goto 698, 3) := by decide +kernel
theorem d332_2337 : decode (cdN 332) 2337 = .ok (.aload_n 1, 1) := by decide +kernel
theorem d332_2338 : decode (cdN 332) 2338 = .ok (.invokevirtual 324, 3) := by decide +kernel
theorem c332_324 : ctN (owN 332) 324 = some (0, 126, [694, 695, 696, 92]) := by decide +kernel
theorem d332_2341 : decode (cdN 332) 2341 = .ok (.dstore 5, 2) := by decide +kernel
theorem d332_2343 : decode (cdN 332) 2343 = .ok (.aload_n 2, 1) := by decide +kernel
theorem d332_2344 : decode (cdN 332) 2344 = .ok (.invokevirtual 328, 3) := by decide +kernel
theorem c332_328 : ctN (owN 332) 328 = some (0, 277, [1975, 1976, 1977, 104]) := by decide +kernel
theorem d332_2347 : decode (cdN 332) 2347 = .ok (.dstore 7, 2) := by decide +kernel
theorem d332_2349 : decode (cdN 332) 2349 = .ok (.dload 5, 2) := by decide +kernel
theorem d332_2351 : decode (cdN 332) 2351 = .ok (.dload 7, 2) := by decide +kernel
theorem d332_2353 : decode (cdN 332) 2353 = .ok (.dcmp .l, 1) := by decide +kernel
theorem d332_2354 : decode (cdN 332) 2354 = .ok (.ifCond .eq 21, 3) := by decide +kernel
theorem d332_2357 : decode (cdN 332) 2357 = .ok (.dload 5, 2) := by decide +kernel
theorem d332_2359 : decode (cdN 332) 2359 = .ok (.dload 5, 2) := by decide +kernel
theorem d332_2361 : decode (cdN 332) 2361 = .ok (.dcmp .l, 1) := by decide +kernel
theorem d332_2362 : decode (cdN 332) 2362 = .ok (.ifCond .eq 11, 3) := by decide +kernel
theorem d332_2365 : decode (cdN 332) 2365 = .ok (.dload 7, 2) := by decide +kernel
theorem d332_2367 : decode (cdN 332) 2367 = .ok (.dload 7, 2) := by decide +kernel
theorem d332_2369 : decode (cdN 332) 2369 = .ok (.dcmp .l, 1) := by decide +kernel
theorem d332_2370 : decode (cdN 332) 2370 = .ok (.ifCond .ne 5, 3) := by decide +kernel
theorem d332_2373 : decode (cdN 332) 2373 = .ok (.iconst 0, 1) := by decide +kernel
theorem d332_2374 : decode (cdN 332) 2374 = .ok (.ireturn, 1) := by decide +kernel
theorem d332_2375 : decode (cdN 332) 2375 = .ok (.goto 657, 3) := by decide +kernel
theorem d332_2378 : decode (cdN 332) 2378 = .ok (.aload_n 1, 1) := by decide +kernel
theorem d332_2379 : decode (cdN 332) 2379 = .ok (.aload_n 3, 1) := by decide +kernel
theorem d332_2380 : decode (cdN 332) 2380 = .ok (.invokestatic 329, 3) := by decide +kernel
theorem c332_329 : ctN (owN 332) 329 = some (12, 321, [1254, 1255, 91]) := by decide +kernel
theorem d332_2383 : decode (cdN 332) 2383 = .ok (.istore 5, 2) := by decide +kernel
theorem d332_2385 : decode (cdN 332) 2385 = .ok (.aload_n 2, 1) := by decide +kernel
theorem d332_2386 : decode (cdN 332) 2386 = .ok (.invokevirtual 331, 3) := by decide +kernel
theorem c332_331 : ctN (owN 332) 331 = some (0, 280, [1979, 1980, 1981, 104]) := by decide +kernel
theorem d332_2389 : decode (cdN 332) 2389 = .ok (.istore 6, 2) := by decide +kernel
theorem d332_2391 : decode (cdN 332) 2391 = .ok (.aload_n 2, 1) := by decide +kernel
theorem d332_2392 : decode (cdN 332) 2392 = .ok (.invokevirtual 146, 3) := by decide +kernel
theorem d332_2395 : decode (cdN 332) 2395 = .ok (.iload 5, 2) := by decide +kernel
theorem d332_2397 : decode (cdN 332) 2397 = .ok (.if_icmp .eq 5, 3) := by decide +kernel
theorem d332_2400 : decode (cdN 332) 2400 = .ok (.iconst 0, 1) := by decide +kernel
theorem d332_2401 : decode (cdN 332) 2401 = .ok (.ireturn, 1) := by decide +kernel
theorem d332_2402 : decode (cdN 332) 2402 = .ok (.iload 5, 2) := by decide +kernel
theorem d332_2404 : decode (cdN 332) 2404 = .ok (.ifCond .ne 15, 3) := by decide +kernel
theorem d332_2407 : decode (cdN 332) 2407 = .ok (.aload_n 3, 1) := by decide +kernel
theorem d332_2408 : decode (cdN 332) 2408 = .ok (.iconst 0, 1) := by decide +kernel
theorem d332_2409 : decode (cdN 332) 2409 = .ok (.laload, 1) := by decide +kernel
theorem d332_2410 : decode (cdN 332) 2410 = .ok (.iload 6, 2) := by decide +kernel
theorem d332_2412 : decode (cdN 332) 2412 = .ok (.i2l, 1) := by decide +kernel
theorem d332_2413 : decode (cdN 332) 2413 = .ok (.lcmp, 1) := by decide +kernel
theorem d332_2414 : decode (cdN 332) 2414 = .ok (.ifCond .eq 5, 3) := by decide +kernel
theorem d332_2417 : decode (cdN 332) 2417 = .ok (.iconst 0, 1) := by decide +kernel
theorem d332_2418 : decode (cdN 332) 2418 = .ok (.ireturn, 1) := by decide +kernel
theorem d332_2419 : decode (cdN 332) 2419 = .ok (.goto 613, 3) := by decide +kernel
theorem d332_2422 : decode (cdN 332) 2422 = .ok (.aload_n 1, 1) := by decide +kernel
theorem d332_2423 : decode (cdN 332) 2423 = .ok (.aload_n 0, 1) := by decide +kernel
theorem d332_2424 : decode (cdN 332) 2424 = .ok (.iload 4, 2) := by decide +kernel
theorem d332_2426 : decode (cdN 332) 2426 = .ok (.iconst 1, 1) := by decide +kernel
theorem d332_2427 : decode (cdN 332) 2427 = .ok (.iadd, 1) := by decide +kernel
theorem d332_2428 : decode (cdN 332) 2428 = .ok (.iaload, 1) := by decide +kernel
theorem d332_2429 : decode (cdN 332) 2429 = .ok (.aload_n 3, 1) := by decide +kernel
theorem d332_2430 : decode (cdN 332) 2430 = .ok (.invokestatic 332, 3) := by decide +kernel
theorem c332_332 : ctN (owN 332) 332 = some (12, 322, [1264, 1265, 91]) := by decide +kernel
theorem d332_2433 : decode (cdN 332) 2433 = .ok (.istore 5, 2) := by decide +kernel
theorem d332_2435 : decode (cdN 332) 2435 = .ok (.aload_n 2, 1) := by decide +kernel
theorem d332_2436 : decode (cdN 332) 2436 = .ok (.aload_n 0, 1) := by decide +kernel
theorem d332_2437 : decode (cdN 332) 2437 = .ok (.iload 4, 2) := by decide +kernel
theorem d332_2439 : decode (cdN 332) 2439 = .ok (.iconst 1, 1) := by decide +kernel
theorem d332_2440 : decode (cdN 332) 2440 = .ok (.iadd, 1) := by decide +kernel
theorem d332_2441 : decode (cdN 332) 2441 = .ok (.iaload, 1) := by decide +kernel
theorem d332_2442 : decode (cdN 332) 2442 = .ok (.invokevirtual 334, 3) := by decide +kernel
theorem c332_334 : ctN (owN 332) 334 = some (0, 281, [1992, 1993, 1994, 104]) := by decide +kernel
theorem d332_2445 : decode (cdN 332) 2445 = .ok (.istore 6, 2) := by decide +kernel
theorem d332_2447 : decode (cdN 332) 2447 = .ok (.aload_n 2, 1) := by decide +kernel
theorem d332_2448 : decode (cdN 332) 2448 = .ok (.invokevirtual 146, 3) := by decide +kernel
theorem d332_2451 : decode (cdN 332) 2451 = .ok (.iload 5, 2) := by decide +kernel
theorem d332_2453 : decode (cdN 332) 2453 = .ok (.if_icmp .eq 5, 3) := by decide +kernel
theorem d332_2456 : decode (cdN 332) 2456 = .ok (.iconst 0, 1) := by decide +kernel
theorem d332_2457 : decode (cdN 332) 2457 = .ok (.ireturn, 1) := by decide +kernel
theorem d332_2458 : decode (cdN 332) 2458 = .ok (.iload 5, 2) := by decide +kernel
theorem d332_2460 : decode (cdN 332) 2460 = .ok (.ifCond .ne 15, 3) := by decide +kernel
theorem d332_2463 : decode (cdN 332) 2463 = .ok (.aload_n 3, 1) := by decide +kernel
theorem d332_2464 : decode (cdN 332) 2464 = .ok (.iconst 0, 1) := by decide +kernel
theorem d332_2465 : decode (cdN 332) 2465 = .ok (.laload, 1) := by decide +kernel
theorem d332_2466 : decode (cdN 332) 2466 = .ok (.iload 6, 2) := by decide +kernel
theorem d332_2468 : decode (cdN 332) 2468 = .ok (.i2l, 1) := by decide +kernel
theorem d332_2469 : decode (cdN 332) 2469 = .ok (.lcmp, 1) := by decide +kernel
theorem d332_2470 : decode (cdN 332) 2470 = .ok (.ifCond .eq 5, 3) := by decide +kernel
theorem d332_2473 : decode (cdN 332) 2473 = .ok (.iconst 0, 1) := by decide +kernel
theorem d332_2474 : decode (cdN 332) 2474 = .ok (.ireturn, 1) := by decide +kernel
theorem d332_2475 : decode (cdN 332) 2475 = .ok (.goto 557, 3) := by decide +kernel
theorem d332_2478 : decode (cdN 332) 2478 = .ok (.aload_n 1, 1) := by decide +kernel
theorem d332_2479 : decode (cdN 332) 2479 = .ok (.aload_n 0, 1) := by decide +kernel
theorem d332_2480 : decode (cdN 332) 2480 = .ok (.iload 4, 2) := by decide +kernel
theorem d332_2482 : decode (cdN 332) 2482 = .ok (.iconst 1, 1) := by decide +kernel
theorem d332_2483 : decode (cdN 332) 2483 = .ok (.iadd, 1) := by decide +kernel
theorem d332_2484 : decode (cdN 332) 2484 = .ok (.iaload, 1) := by decide +kernel
theorem d332_2485 : decode (cdN 332) 2485 = .ok (.aload_n 3, 1) := by decide +kernel
theorem d332_2486 : decode (cdN 332) 2486 = .ok (.invokestatic 335, 3) := by decide +kernel
theorem c332_335 : ctN (owN 332) 335 = some (12, 323, [1274, 1275, 91]) := by decide +kernel
theorem d332_2489 : decode (cdN 332) 2489 = .ok (.istore 5, 2) := by decide +kernel
theorem d332_2491 : decode (cdN 332) 2491 = .ok (.aload_n 2, 1) := by decide +kernel
theorem d332_2492 : decode (cdN 332) 2492 = .ok (.aload_n 0, 1) := by decide +kernel
theorem d332_2493 : decode (cdN 332) 2493 = .ok (.iload 4, 2) := by decide +kernel
theorem d332_2495 : decode (cdN 332) 2495 = .ok (.iconst 1, 1) := by decide +kernel
theorem d332_2496 : decode (cdN 332) 2496 = .ok (.iadd, 1) := by decide +kernel
theorem d332_2497 : decode (cdN 332) 2497 = .ok (.iaload, 1) := by decide +kernel
theorem d332_2498 : decode (cdN 332) 2498 = .ok (.invokevirtual 337, 3) := by decide +kernel
theorem c332_337 : ctN (owN 332) 337 = some (0, 282, [1997, 1998, 1999, 104]) := by decide +kernel
theorem d332_2501 : decode (cdN 332) 2501 = .ok (.istore 6, 2) := by decide +kernel
theorem d332_2503 : decode (cdN 332) 2503 = .ok (.aload_n 2, 1) := by decide +kernel
theorem d332_2504 : decode (cdN 332) 2504 = .ok (.invokevirtual 146, 3) := by decide +kernel
theorem d332_2507 : decode (cdN 332) 2507 = .ok (.iload 5, 2) := by decide +kernel
theorem d332_2509 : decode (cdN 332) 2509 = .ok (.if_icmp .eq 5, 3) := by decide +kernel
theorem d332_2512 : decode (cdN 332) 2512 = .ok (.iconst 0, 1) := by decide +kernel
theorem d332_2513 : decode (cdN 332) 2513 = .ok (.ireturn, 1) := by decide +kernel
theorem d332_2514 : decode (cdN 332) 2514 = .ok (.iload 5, 2) := by decide +kernel
theorem d332_2516 : decode (cdN 332) 2516 = .ok (.ifCond .ne 15, 3) := by decide +kernel
theorem d332_2519 : decode (cdN 332) 2519 = .ok (.aload_n 3, 1) := by decide +kernel
theorem d332_2520 : decode (cdN 332) 2520 = .ok (.iconst 0, 1) := by decide +kernel
theorem d332_2521 : decode (cdN 332) 2521 = .ok (.laload, 1) := by decide +kernel
theorem d332_2522 : decode (cdN 332) 2522 = .ok (.iload 6, 2) := by decide +kernel
theorem d332_2524 : decode (cdN 332) 2524 = .ok (.i2l, 1) := by decide +kernel
theorem d332_2525 : decode (cdN 332) 2525 = .ok (.lcmp, 1) := by decide +kernel
theorem d332_2526 : decode (cdN 332) 2526 = .ok (.ifCond .eq 5, 3) := by decide +kernel
theorem d332_2529 : decode (cdN 332) 2529 = .ok (.iconst 0, 1) := by decide +kernel
theorem d332_2530 : decode (cdN 332) 2530 = .ok (.ireturn, 1) := by decide +kernel
theorem d332_2531 : decode (cdN 332) 2531 = .ok (.goto 501, 3) := by decide +kernel
theorem d332_2534 : decode (cdN 332) 2534 = .ok (.aload_n 1, 1) := by decide +kernel
theorem d332_2535 : decode (cdN 332) 2535 = .ok (.aload_n 0, 1) := by decide +kernel
theorem d332_2536 : decode (cdN 332) 2536 = .ok (.iload 4, 2) := by decide +kernel
theorem d332_2538 : decode (cdN 332) 2538 = .ok (.iconst 1, 1) := by decide +kernel
theorem d332_2539 : decode (cdN 332) 2539 = .ok (.iadd, 1) := by decide +kernel
theorem d332_2540 : decode (cdN 332) 2540 = .ok (.iaload, 1) := by decide +kernel
theorem d332_2541 : decode (cdN 332) 2541 = .ok (.aload_n 3, 1) := by decide +kernel
theorem d332_2542 : decode (cdN 332) 2542 = .ok (.invokestatic 338, 3) := by decide +kernel
theorem c332_338 : ctN (owN 332) 338 = some (12, 324, [1284, 1285, 91]) := by decide +kernel
theorem d332_2545 : decode (cdN 332) 2545 = .ok (.istore 5, 2) := by decide +kernel
theorem d332_2547 : decode (cdN 332) 2547 = .ok (.aload_n 2, 1) := by decide +kernel
theorem d332_2548 : decode (cdN 332) 2548 = .ok (.aload_n 0, 1) := by decide +kernel
theorem d332_2549 : decode (cdN 332) 2549 = .ok (.iload 4, 2) := by decide +kernel
theorem d332_2551 : decode (cdN 332) 2551 = .ok (.iconst 1, 1) := by decide +kernel
theorem d332_2552 : decode (cdN 332) 2552 = .ok (.iadd, 1) := by decide +kernel
theorem d332_2553 : decode (cdN 332) 2553 = .ok (.iaload, 1) := by decide +kernel
theorem d332_2554 : decode (cdN 332) 2554 = .ok (.invokevirtual 340, 3) := by decide +kernel
theorem c332_340 : ctN (owN 332) 340 = some (0, 283, [2001, 2002, 2003, 104]) := by decide +kernel
theorem d332_2557 : decode (cdN 332) 2557 = .ok (.istore 6, 2) := by decide +kernel
theorem d332_2559 : decode (cdN 332) 2559 = .ok (.aload_n 2, 1) := by decide +kernel
theorem d332_2560 : decode (cdN 332) 2560 = .ok (.invokevirtual 146, 3) := by decide +kernel
theorem d332_2563 : decode (cdN 332) 2563 = .ok (.iload 5, 2) := by decide +kernel
theorem d332_2565 : decode (cdN 332) 2565 = .ok (.if_icmp .eq 5, 3) := by decide +kernel
theorem d332_2568 : decode (cdN 332) 2568 = .ok (.iconst 0, 1) := by decide +kernel
theorem d332_2569 : decode (cdN 332) 2569 = .ok (.ireturn, 1) := by decide +kernel
theorem d332_2570 : decode (cdN 332) 2570 = .ok (.iload 5, 2) := by decide +kernel
theorem d332_2572 : decode (cdN 332) 2572 = .ok (.ifCond .ne 15, 3) := by decide +kernel
theorem d332_2575 : decode (cdN 332) 2575 = .ok (.aload_n 3, 1) := by decide +kernel
theorem d332_2576 : decode (cdN 332) 2576 = .ok (.iconst 0, 1) := by decide +kernel
theorem d332_2577 : decode (cdN 332) 2577 = .ok (.laload, 1) := by decide +kernel
theorem d332_2578 : decode (cdN 332) 2578 = .ok (.iload 6, 2) := by decide +kernel
theorem d332_2580 : decode (cdN 332) 2580 = .ok (.i2l, 1) := by decide +kernel
theorem d332_2581 : decode (cdN 332) 2581 = .ok (.lcmp, 1) := by decide +kernel
theorem d332_2582 : decode (cdN 332) 2582 = .ok (.ifCond .eq 5, 3) := by decide +kernel
theorem d332_2585 : decode (cdN 332) 2585 = .ok (.iconst 0, 1) := by decide +kernel
theorem d332_2586 : decode (cdN 332) 2586 = .ok (.ireturn, 1) := by decide +kernel
theorem d332_2587 : decode (cdN 332) 2587 = .ok (.goto 445, 3) := by decide +kernel
theorem d332_2590 : decode (cdN 332) 2590 = .ok (.aload_n 1, 1) := by decide +kernel
theorem d332_2591 : decode (cdN 332) 2591 = .ok (.aload_n 0, 1) := by decide +kernel
theorem d332_2592 : decode (cdN 332) 2592 = .ok (.iload 4, 2) := by decide +kernel
theorem d332_2594 : decode (cdN 332) 2594 = .ok (.iconst 1, 1) := by decide +kernel
theorem d332_2595 : decode (cdN 332) 2595 = .ok (.iadd, 1) := by decide +kernel
theorem d332_2596 : decode (cdN 332) 2596 = .ok (.iaload, 1) := by decide +kernel
theorem d332_2597 : decode (cdN 332) 2597 = .ok (.aload_n 3, 1) := by decide +kernel
theorem d332_2598 : decode (cdN 332) 2598 = .ok (.invokestatic 341, 3) := by decide +kernel
theorem c332_341 : ctN (owN 332) 341 = some (12, 325, [1294, 1295, 91]) := by decide +kernel
theorem d332_2601 : decode (cdN 332) 2601 = .ok (.istore 5, 2) := by decide +kernel
theorem d332_2603 : decode (cdN 332) 2603 = .ok (.aload_n 2, 1) := by decide +kernel
theorem d332_2604 : decode (cdN 332) 2604 = .ok (.aload_n 0, 1) := by decide +kernel
theorem d332_2605 : decode (cdN 332) 2605 = .ok (.iload 4, 2) := by decide +kernel
theorem d332_2607 : decode (cdN 332) 2607 = .ok (.iconst 1, 1) := by decide +kernel
theorem d332_2608 : decode (cdN 332) 2608 = .ok (.iadd, 1) := by decide +kernel
theorem d332_2609 : decode (cdN 332) 2609 = .ok (.iaload, 1) := by decide +kernel
theorem d332_2610 : decode (cdN 332) 2610 = .ok (.invokevirtual 343, 3) := by decide +kernel
theorem c332_343 : ctN (owN 332) 343 = some (0, 284, [2005, 2006, 2007, 104]) := by decide +kernel
theorem d332_2613 : decode (cdN 332) 2613 = .ok (.istore 6, 2) := by decide +kernel
theorem d332_2615 : decode (cdN 332) 2615 = .ok (.aload_n 2, 1) := by decide +kernel
theorem d332_2616 : decode (cdN 332) 2616 = .ok (.invokevirtual 146, 3) := by decide +kernel
theorem d332_2619 : decode (cdN 332) 2619 = .ok (.iload 5, 2) := by decide +kernel
theorem d332_2621 : decode (cdN 332) 2621 = .ok (.if_icmp .eq 5, 3) := by decide +kernel
theorem d332_2624 : decode (cdN 332) 2624 = .ok (.iconst 0, 1) := by decide +kernel
theorem d332_2625 : decode (cdN 332) 2625 = .ok (.ireturn, 1) := by decide +kernel
theorem d332_2626 : decode (cdN 332) 2626 = .ok (.iload 5, 2) := by decide +kernel
theorem d332_2628 : decode (cdN 332) 2628 = .ok (.ifCond .ne 15, 3) := by decide +kernel
theorem d332_2631 : decode (cdN 332) 2631 = .ok (.aload_n 3, 1) := by decide +kernel
theorem d332_2632 : decode (cdN 332) 2632 = .ok (.iconst 0, 1) := by decide +kernel
theorem d332_2633 : decode (cdN 332) 2633 = .ok (.laload, 1) := by decide +kernel
theorem d332_2634 : decode (cdN 332) 2634 = .ok (.iload 6, 2) := by decide +kernel
theorem d332_2636 : decode (cdN 332) 2636 = .ok (.i2l, 1) := by decide +kernel
theorem d332_2637 : decode (cdN 332) 2637 = .ok (.lcmp, 1) := by decide +kernel
theorem d332_2638 : decode (cdN 332) 2638 = .ok (.ifCond .eq 5, 3) := by decide +kernel
theorem d332_2641 : decode (cdN 332) 2641 = .ok (.iconst 0, 1) := by decide +kernel
theorem d332_2642 : decode (cdN 332) 2642 = .ok (.ireturn, 1) := by decide +kernel
theorem d332_2643 : decode (cdN 332) 2643 = .ok (.goto 389, 3) := by decide +kernel
theorem d332_2646 : decode (cdN 332) 2646 = .ok (.aload_n 1, 1) := by decide +kernel
theorem d332_2647 : decode (cdN 332) 2647 = .ok (.aload_n 0, 1) := by decide +kernel
theorem d332_2648 : decode (cdN 332) 2648 = .ok (.iload 4, 2) := by decide +kernel
theorem d332_2650 : decode (cdN 332) 2650 = .ok (.iconst 1, 1) := by decide +kernel
theorem d332_2651 : decode (cdN 332) 2651 = .ok (.iadd, 1) := by decide +kernel
theorem d332_2652 : decode (cdN 332) 2652 = .ok (.iaload, 1) := by decide +kernel
theorem d332_2653 : decode (cdN 332) 2653 = .ok (.aload_n 3, 1) := by decide +kernel
theorem d332_2654 : decode (cdN 332) 2654 = .ok (.invokestatic 344, 3) := by decide +kernel
theorem c332_344 : ctN (owN 332) 344 = some (12, 326, [1305, 1306, 91]) := by decide +kernel
theorem d332_2657 : decode (cdN 332) 2657 = .ok (.istore 5, 2) := by decide +kernel
theorem d332_2659 : decode (cdN 332) 2659 = .ok (.aload_n 2, 1) := by decide +kernel
theorem d332_2660 : decode (cdN 332) 2660 = .ok (.aload_n 0, 1) := by decide +kernel
theorem d332_2661 : decode (cdN 332) 2661 = .ok (.iload 4, 2) := by decide +kernel
theorem d332_2663 : decode (cdN 332) 2663 = .ok (.iconst 1, 1) := by decide +kernel
theorem d332_2664 : decode (cdN 332) 2664 = .ok (.iadd, 1) := by decide +kernel
theorem d332_2665 : decode (cdN 332) 2665 = .ok (.iaload, 1) := by decide +kernel
theorem d332_2666 : decode (cdN 332) 2666 = .ok (.invokevirtual 346, 3) := by decide +kernel
theorem c332_346 : ctN (owN 332) 346 = some (0, 285, [2011, 2012, 2013, 104]) := by decide +kernel
theorem d332_2669 : decode (cdN 332) 2669 = .ok (.istore 6, 2) := by decide +kernel
theorem d332_2671 : decode (cdN 332) 2671 = .ok (.aload_n 2, 1) := by decide +kernel
theorem d332_2672 : decode (cdN 332) 2672 = .ok (.invokevirtual 146, 3) := by decide +kernel
theorem d332_2675 : decode (cdN 332) 2675 = .ok (.iload 5, 2) := by decide +kernel
theorem d332_2677 : decode (cdN 332) 2677 = .ok (.if_icmp .eq 5, 3) := by decide +kernel
theorem d332_2680 : decode (cdN 332) 2680 = .ok (.iconst 0, 1) := by decide +kernel
theorem d332_2681 : decode (cdN 332) 2681 = .ok (.ireturn, 1) := by decide +kernel
theorem d332_2682 : decode (cdN 332) 2682 = .ok (.iload 5, 2) := by decide +kernel
theorem d332_2684 : decode (cdN 332) 2684 = .ok (.ifCond .ne 15, 3) := by decide +kernel
theorem d332_2687 : decode (cdN 332) 2687 = .ok (.aload_n 3, 1) := by decide +kernel
theorem d332_2688 : decode (cdN 332) 2688 = .ok (.iconst 0, 1) := by decide +kernel
theorem d332_2689 : decode (cdN 332) 2689 = .ok (.laload, 1) := by decide +kernel
theorem d332_2690 : decode (cdN 332) 2690 = .ok (.iload 6, 2) := by decide +kernel
theorem d332_2692 : decode (cdN 332) 2692 = .ok (.i2l, 1) := by decide +kernel
theorem d332_2693 : decode (cdN 332) 2693 = .ok (.lcmp, 1) := by decide +kernel
theorem d332_2694 : decode (cdN 332) 2694 = .ok (.ifCond .eq 5, 3) := by decide +kernel
theorem d332_2697 : decode (cdN 332) 2697 = .ok (.iconst 0, 1) := by decide +kernel
theorem d332_2698 : decode (cdN 332) 2698 = .ok (.ireturn, 1) := by decide +kernel
theorem d332_2699 : decode (cdN 332) 2699 = .ok (.goto 333, 3) := by decide +kernel
theorem d332_2702 : decode (cdN 332) 2702 = .ok (.aload_n 1, 1) := by decide +kernel
theorem d332_2703 : decode (cdN 332) 2703 = .ok (.aload_n 0, 1) := by decide +kernel
theorem d332_2704 : decode (cdN 332) 2704 = .ok (.iload 4, 2) := by decide +kernel
theorem d332_2706 : decode (cdN 332) 2706 = .ok (.iconst 1, 1) := by decide +kernel
theorem d332_2707 : decode (cdN 332) 2707 = .ok (.iadd, 1) := by decide +kernel
theorem d332_2708 : decode (cdN 332) 2708 = .ok (.iaload, 1) := by decide +kernel
theorem d332_2709 : decode (cdN 332) 2709 = .ok (.aload_n 0, 1) := by decide +kernel
theorem d332_2710 : decode (cdN 332) 2710 = .ok (.iload 4, 2) := by decide +kernel
theorem d332_2712 : decode (cdN 332) 2712 = .ok (.iconst 2, 1) := by decide +kernel
theorem d332_2713 : decode (cdN 332) 2713 = .ok (.iadd, 1) := by decide +kernel
theorem d332_2714 : decode (cdN 332) 2714 = .ok (.iaload, 1) := by decide +kernel
theorem d332_2715 : decode (cdN 332) 2715 = .ok (.aload_n 0, 1) := by decide +kernel
theorem d332_2716 : decode (cdN 332) 2716 = .ok (.iload 4, 2) := by decide +kernel
theorem d332_2718 : decode (cdN 332) 2718 = .ok (.iconst 3, 1) := by decide +kernel
theorem d332_2719 : decode (cdN 332) 2719 = .ok (.iadd, 1) := by decide +kernel
theorem d332_2720 : decode (cdN 332) 2720 = .ok (.iaload, 1) := by decide +kernel
theorem d332_2721 : decode (cdN 332) 2721 = .ok (.aload_n 3, 1) := by decide +kernel
theorem d332_2722 : decode (cdN 332) 2722 = .ok (.invokestatic 347, 3) := by decide +kernel
theorem c332_347 : ctN (owN 332) 347 = some (12, 327, [1313, 1314, 91]) := by decide +kernel
theorem d332_2725 : decode (cdN 332) 2725 = .ok (.istore 5, 2) := by decide +kernel
theorem d332_2727 : decode (cdN 332) 2727 = .ok (.aload_n 2, 1) := by decide +kernel
theorem d332_2728 : decode (cdN 332) 2728 = .ok (.aload_n 0, 1) := by decide +kernel
theorem d332_2729 : decode (cdN 332) 2729 = .ok (.iload 4, 2) := by decide +kernel
theorem d332_2731 : decode (cdN 332) 2731 = .ok (.iconst 1, 1) := by decide +kernel
theorem d332_2732 : decode (cdN 332) 2732 = .ok (.iadd, 1) := by decide +kernel
theorem d332_2733 : decode (cdN 332) 2733 = .ok (.iaload, 1) := by decide +kernel
theorem d332_2734 : decode (cdN 332) 2734 = .ok (.aload_n 0, 1) := by decide +kernel
theorem d332_2735 : decode (cdN 332) 2735 = .ok (.iload 4, 2) := by decide +kernel
theorem d332_2737 : decode (cdN 332) 2737 = .ok (.iconst 2, 1) := by decide +kernel
theorem d332_2738 : decode (cdN 332) 2738 = .ok (.iadd, 1) := by decide +kernel
theorem d332_2739 : decode (cdN 332) 2739 = .ok (.iaload, 1) := by decide +kernel
theorem d332_2740 : decode (cdN 332) 2740 = .ok (.aload_n 0, 1) := by decide +kernel
theorem d332_2741 : decode (cdN 332) 2741 = .ok (.iload 4, 2) := by decide +kernel
theorem d332_2743 : decode (cdN 332) 2743 = .ok (.iconst 3, 1) := by decide +kernel
theorem d332_2744 : decode (cdN 332) 2744 = .ok (.iadd, 1) := by decide +kernel
theorem d332_2745 : decode (cdN 332) 2745 = .ok (.iaload, 1) := by decide +kernel
theorem d332_2746 : decode (cdN 332) 2746 = .ok (.invokevirtual 349, 3) := by decide +kernel
theorem c332_349 : ctN (owN 332) 349 = some (0, 286, [2016, 2017, 2018, 104]) := by decide +kernel
theorem d332_2749 : decode (cdN 332) 2749 = .ok (.istore 6, 2) := by decide +kernel
theorem d332_2751 : decode (cdN 332) 2751 = .ok (.aload_n 2, 1) := by decide +kernel
theorem d332_2752 : decode (cdN 332) 2752 = .ok (.invokevirtual 146, 3) := by decide +kernel
theorem d332_2755 : decode (cdN 332) 2755 = .ok (.iload 5, 2) := by decide +kernel
theorem d332_2757 : decode (cdN 332) 2757 = .ok (.if_icmp .eq 5, 3) := by decide +kernel
theorem d332_2760 : decode (cdN 332) 2760 = .ok (.iconst 0, 1) := by decide +kernel
theorem d332_2761 : decode (cdN 332) 2761 = .ok (.ireturn, 1) := by decide +kernel
theorem d332_2762 : decode (cdN 332) 2762 = .ok (.iload 5, 2) := by decide +kernel
theorem d332_2764 : decode (cdN 332) 2764 = .ok (.ifCond .ne 15, 3) := by decide +kernel
theorem d332_2767 : decode (cdN 332) 2767 = .ok (.aload_n 3, 1) := by decide +kernel
theorem d332_2768 : decode (cdN 332) 2768 = .ok (.iconst 0, 1) := by decide +kernel
theorem d332_2769 : decode (cdN 332) 2769 = .ok (.laload, 1) := by decide +kernel
theorem d332_2770 : decode (cdN 332) 2770 = .ok (.iload 6, 2) := by decide +kernel
theorem d332_2772 : decode (cdN 332) 2772 = .ok (.i2l, 1) := by decide +kernel
theorem d332_2773 : decode (cdN 332) 2773 = .ok (.lcmp, 1) := by decide +kernel
theorem d332_2774 : decode (cdN 332) 2774 = .ok (.ifCond .eq 5, 3) := by decide +kernel
theorem d332_2777 : decode (cdN 332) 2777 = .ok (.iconst 0, 1) := by decide +kernel
theorem d332_2778 : decode (cdN 332) 2778 = .ok (.ireturn, 1) := by decide +kernel
theorem d332_2779 : decode (cdN 332) 2779 = .ok (.goto 253, 3) := by decide +kernel
theorem d332_2782 : decode (cdN 332) 2782 = .ok (.aload_n 1, 1) := by decide +kernel
theorem d332_2783 : decode (cdN 332) 2783 = .ok (.aload_n 0, 1) := by decide +kernel
theorem d332_2784 : decode (cdN 332) 2784 = .ok (.iload 4, 2) := by decide +kernel
theorem d332_2786 : decode (cdN 332) 2786 = .ok (.iconst 1, 1) := by decide +kernel
theorem d332_2787 : decode (cdN 332) 2787 = .ok (.iadd, 1) := by decide +kernel
theorem d332_2788 : decode (cdN 332) 2788 = .ok (.iaload, 1) := by decide +kernel
theorem d332_2789 : decode (cdN 332) 2789 = .ok (.aload_n 3, 1) := by decide +kernel
theorem d332_2790 : decode (cdN 332) 2790 = .ok (.invokestatic 350, 3) := by decide +kernel
theorem c332_350 : ctN (owN 332) 350 = some (12, 328, [1322, 1323, 91]) := by decide +kernel
theorem d332_2793 : decode (cdN 332) 2793 = .ok (.istore 5, 2) := by decide +kernel
theorem d332_2795 : decode (cdN 332) 2795 = .ok (.aload_n 2, 1) := by decide +kernel
theorem d332_2796 : decode (cdN 332) 2796 = .ok (.aload_n 0, 1) := by decide +kernel
theorem d332_2797 : decode (cdN 332) 2797 = .ok (.iload 4, 2) := by decide +kernel
theorem d332_2799 : decode (cdN 332) 2799 = .ok (.iconst 1, 1) := by decide +kernel
theorem d332_2800 : decode (cdN 332) 2800 = .ok (.iadd, 1) := by decide +kernel
theorem d332_2801 : decode (cdN 332) 2801 = .ok (.iaload, 1) := by decide +kernel
theorem d332_2802 : decode (cdN 332) 2802 = .ok (.invokevirtual 352, 3) := by decide +kernel
theorem c332_352 : ctN (owN 332) 352 = some (0, 287, [2021, 2022, 2023, 104]) := by decide +kernel
theorem d332_2805 : decode (cdN 332) 2805 = .ok (.istore 6, 2) := by decide +kernel
theorem d332_2807 : decode (cdN 332) 2807 = .ok (.aload_n 2, 1) := by decide +kernel
theorem d332_2808 : decode (cdN 332) 2808 = .ok (.invokevirtual 146, 3) := by decide +kernel
theorem d332_2811 : decode (cdN 332) 2811 = .ok (.iload 5, 2) := by decide +kernel
theorem d332_2813 : decode (cdN 332) 2813 = .ok (.if_icmp .eq 5, 3) := by decide +kernel
theorem d332_2816 : decode (cdN 332) 2816 = .ok (.iconst 0, 1) := by decide +kernel
theorem d332_2817 : decode (cdN 332) 2817 = .ok (.ireturn, 1) := by decide +kernel
theorem d332_2818 : decode (cdN 332) 2818 = .ok (.iload 5, 2) := by decide +kernel
theorem d332_2820 : decode (cdN 332) 2820 = .ok (.ifCond .ne 15, 3) := by decide +kernel
theorem d332_2823 : decode (cdN 332) 2823 = .ok (.aload_n 3, 1) := by decide +kernel
theorem d332_2824 : decode (cdN 332) 2824 = .ok (.iconst 0, 1) := by decide +kernel
theorem d332_2825 : decode (cdN 332) 2825 = .ok (.laload, 1) := by decide +kernel
theorem d332_2826 : decode (cdN 332) 2826 = .ok (.iload 6, 2) := by decide +kernel
theorem d332_2828 : decode (cdN 332) 2828 = .ok (.i2l, 1) := by decide +kernel
theorem d332_2829 : decode (cdN 332) 2829 = .ok (.lcmp, 1) := by decide +kernel
theorem d332_2830 : decode (cdN 332) 2830 = .ok (.ifCond .eq 5, 3) := by decide +kernel
theorem d332_2833 : decode (cdN 332) 2833 = .ok (.iconst 0, 1) := by decide +kernel
theorem d332_2834 : decode (cdN 332) 2834 = .ok (.ireturn, 1) := by decide +kernel
theorem d332_2835 : decode (cdN 332) 2835 = .ok (.goto 197, 3) := by decide +kernel
theorem d332_2838 : decode (cdN 332) 2838 = .ok (.aload_n 1, 1) := by decide +kernel
theorem d332_2839 : decode (cdN 332) 2839 = .ok (.aload_n 3, 1) := by decide +kernel
theorem d332_2840 : decode (cdN 332) 2840 = .ok (.invokestatic 353, 3) := by decide +kernel
theorem c332_353 : ctN (owN 332) 353 = some (12, 329, [1331, 1332, 91]) := by decide +kernel
theorem d332_2843 : decode (cdN 332) 2843 = .ok (.istore 5, 2) := by decide +kernel
theorem d332_2845 : decode (cdN 332) 2845 = .ok (.aload_n 2, 1) := by decide +kernel
theorem d332_2846 : decode (cdN 332) 2846 = .ok (.invokevirtual 355, 3) := by decide +kernel
theorem c332_355 : ctN (owN 332) 355 = some (0, 288, [2025, 2026, 2027, 104]) := by decide +kernel
theorem d332_2849 : decode (cdN 332) 2849 = .ok (.istore 6, 2) := by decide +kernel
theorem d332_2851 : decode (cdN 332) 2851 = .ok (.aload_n 2, 1) := by decide +kernel
theorem d332_2852 : decode (cdN 332) 2852 = .ok (.invokevirtual 146, 3) := by decide +kernel
theorem d332_2855 : decode (cdN 332) 2855 = .ok (.iload 5, 2) := by decide +kernel
theorem d332_2857 : decode (cdN 332) 2857 = .ok (.if_icmp .eq 5, 3) := by decide +kernel
theorem d332_2860 : decode (cdN 332) 2860 = .ok (.iconst 0, 1) := by decide +kernel
theorem d332_2861 : decode (cdN 332) 2861 = .ok (.ireturn, 1) := by decide +kernel
theorem d332_2862 : decode (cdN 332) 2862 = .ok (.iload 5, 2) := by decide +kernel
theorem d332_2864 : decode (cdN 332) 2864 = .ok (.ifCond .ne 15, 3) := by decide +kernel
theorem d332_2867 : decode (cdN 332) 2867 = .ok (.aload_n 3, 1) := by decide +kernel
theorem d332_2868 : decode (cdN 332) 2868 = .ok (.iconst 0, 1) := by decide +kernel
theorem d332_2869 : decode (cdN 332) 2869 = .ok (.laload, 1) := by decide +kernel
theorem d332_2870 : decode (cdN 332) 2870 = .ok (.iload 6, 2) := by decide +kernel
theorem d332_2872 : decode (cdN 332) 2872 = .ok (.i2l, 1) := by decide +kernel
theorem d332_2873 : decode (cdN 332) 2873 = .ok (.lcmp, 1) := by decide +kernel
theorem d332_2874 : decode (cdN 332) 2874 = .ok (.ifCond .eq 5, 3) := by decide +kernel
theorem d332_2877 : decode (cdN 332) 2877 = .ok (.iconst 0, 1) := by decide +kernel
theorem d332_2878 : decode (cdN 332) 2878 = .ok (.ireturn, 1) := by decide +kernel
theorem d332_2879 : decode (cdN 332) 2879 = .ok (.goto 153, 3) := by decide +kernel
theorem d332_2882 : decode (cdN 332) 2882 = .ok (.aload_n 1, 1) := by decide +kernel
theorem d332_2883 : decode (cdN 332) 2883 = .ok (.invokevirtual 356, 3) := by decide +kernel
theorem c332_356 : ctN (owN 332) 356 = some (0, 136, [702, 703, 704, 92]) := by decide +kernel
theorem d332_2886 : decode (cdN 332) 2886 = .ok (.aload_n 2, 1) := by decide +kernel
theorem d332_2887 : decode (cdN 332) 2887 = .ok (.invokevirtual 359, 3) := by decide +kernel
theorem c332_359 : ctN (owN 332) 359 = some (0, 289, [2029, 2030, 2031, 104]) := by decide +kernel
theorem d332_2890 : decode (cdN 332) 2890 = .ok (.if_icmp .eq 142, 3) := by decide +kernel
theorem d332_2893 : decode (cdN 332) 2893 = .ok (.iconst 0, 1) := by decide +kernel
theorem d332_2894 : decode (cdN 332) 2894 = .ok (.ireturn, 1) := by decide +kernel
theorem d332_2895 : decode (cdN 332) 2895 = .ok (.aload_n 1, 1) := by decide +kernel
theorem d332_2896 : decode (cdN 332) 2896 = .ok (.aload_n 3, 1) := by decide +kernel
theorem d332_2897 : decode (cdN 332) 2897 = .ok (.invokestatic 360, 3) := by decide +kernel
theorem c332_360 : ctN (owN 332) 360 = some (12, 330, [1343, 1344, 91]) := by decide +kernel
theorem d332_2900 : decode (cdN 332) 2900 = .ok (.istore 5, 2) := by decide +kernel
theorem d332_2902 : decode (cdN 332) 2902 = .ok (.aload_n 2, 1) := by decide +kernel
theorem d332_2903 : decode (cdN 332) 2903 = .ok (.invokevirtual 362, 3) := by decide +kernel
theorem c332_362 : ctN (owN 332) 362 = some (0, 290, [2033, 2034, 2035, 104]) := by decide +kernel
theorem d332_2906 : decode (cdN 332) 2906 = .ok (.istore 6, 2) := by decide +kernel
theorem d332_2908 : decode (cdN 332) 2908 = .ok (.aload_n 2, 1) := by decide +kernel
theorem d332_2909 : decode (cdN 332) 2909 = .ok (.invokevirtual 146, 3) := by decide +kernel
theorem d332_2912 : decode (cdN 332) 2912 = .ok (.iload 5, 2) := by decide +kernel
theorem d332_2914 : decode (cdN 332) 2914 = .ok (.if_icmp .eq 5, 3) := by decide +kernel
theorem d332_2917 : decode (cdN 332) 2917 = .ok (.iconst 0, 1) := by decide +kernel
theorem d332_2918 : decode (cdN 332) 2918 = .ok (.ireturn, 1) := by decide +kernel
theorem d332_2919 : decode (cdN 332) 2919 = .ok (.iload 5, 2) := by decide +kernel
theorem d332_2921 : decode (cdN 332) 2921 = .ok (.ifCond .ne 15, 3) := by decide +kernel
theorem d332_2924 : decode (cdN 332) 2924 = .ok (.aload_n 3, 1) := by decide +kernel
theorem d332_2925 : decode (cdN 332) 2925 = .ok (.iconst 0, 1) := by decide +kernel
theorem d332_2926 : decode (cdN 332) 2926 = .ok (.laload, 1) := by decide +kernel
theorem d332_2927 : decode (cdN 332) 2927 = .ok (.iload 6, 2) := by decide +kernel
theorem d332_2929 : decode (cdN 332) 2929 = .ok (.i2l, 1) := by decide +kernel
theorem d332_2930 : decode (cdN 332) 2930 = .ok (.lcmp, 1) := by decide +kernel
theorem d332_2931 : decode (cdN 332) 2931 = .ok (.ifCond .eq 5, 3) := by decide +kernel
theorem d332_2934 : decode (cdN 332) 2934 = .ok (.iconst 0, 1) := by decide +kernel
theorem d332_2935 : decode (cdN 332) 2935 = .ok (.ireturn, 1) := by decide +kernel
theorem d332_2936 : decode (cdN 332) 2936 = .ok (.goto 96, 3) := by decide +kernel
theorem d332_2939 : decode (cdN 332) 2939 = .ok (.aload_n 1, 1) := by decide +kernel
theorem d332_2940 : decode (cdN 332) 2940 = .ok (.aload_n 0, 1) := by decide +kernel
theorem d332_2941 : decode (cdN 332) 2941 = .ok (.iload 4, 2) := by decide +kernel
theorem d332_2943 : decode (cdN 332) 2943 = .ok (.iconst 1, 1) := by decide +kernel
theorem d332_2944 : decode (cdN 332) 2944 = .ok (.iadd, 1) := by decide +kernel
theorem d332_2945 : decode (cdN 332) 2945 = .ok (.iaload, 1) := by decide +kernel
theorem d332_2946 : decode (cdN 332) 2946 = .ok (.aload_n 0, 1) := by decide +kernel
theorem d332_2947 : decode (cdN 332) 2947 = .ok (.iload 4, 2) := by decide +kernel
theorem d332_2949 : decode (cdN 332) 2949 = .ok (.iconst 2, 1) := by decide +kernel
theorem d332_2950 : decode (cdN 332) 2950 = .ok (.iadd, 1) := by decide +kernel
theorem d332_2951 : decode (cdN 332) 2951 = .ok (.iaload, 1) := by decide +kernel
theorem d332_2952 : decode (cdN 332) 2952 = .ok (.aload_n 3, 1) := by decide +kernel
theorem d332_2953 : decode (cdN 332) 2953 = .ok (.invokestatic 363, 3) := by decide +kernel
theorem c332_363 : ctN (owN 332) 363 = some (12, 331, [1351, 1352, 91]) := by decide +kernel
theorem d332_2956 : decode (cdN 332) 2956 = .ok (.istore 5, 2) := by decide +kernel
theorem d332_2958 : decode (cdN 332) 2958 = .ok (.aload_n 2, 1) := by decide +kernel
theorem d332_2959 : decode (cdN 332) 2959 = .ok (.aload_n 0, 1) := by decide +kernel
theorem d332_2960 : decode (cdN 332) 2960 = .ok (.iload 4, 2) := by decide +kernel
theorem d332_2962 : decode (cdN 332) 2962 = .ok (.iconst 1, 1) := by decide +kernel
theorem d332_2963 : decode (cdN 332) 2963 = .ok (.iadd, 1) := by decide +kernel
theorem d332_2964 : decode (cdN 332) 2964 = .ok (.iaload, 1) := by decide +kernel
theorem d332_2965 : decode (cdN 332) 2965 = .ok (.aload_n 0, 1) := by decide +kernel
theorem d332_2966 : decode (cdN 332) 2966 = .ok (.iload 4, 2) := by decide +kernel
theorem d332_2968 : decode (cdN 332) 2968 = .ok (.iconst 2, 1) := by decide +kernel
theorem d332_2969 : decode (cdN 332) 2969 = .ok (.iadd, 1) := by decide +kernel
theorem d332_2970 : decode (cdN 332) 2970 = .ok (.iaload, 1) := by decide +kernel
theorem d332_2971 : decode (cdN 332) 2971 = .ok (.invokevirtual 365, 3) := by decide +kernel
theorem c332_365 : ctN (owN 332) 365 = some (0, 292, [2037, 2038, 2039, 104]) := by decide +kernel
theorem d332_2974 : decode (cdN 332) 2974 = .ok (.istore 6, 2) := by decide +kernel
theorem d332_2976 : decode (cdN 332) 2976 = .ok (.aload_n 2, 1) := by decide +kernel
theorem d332_2977 : decode (cdN 332) 2977 = .ok (.invokevirtual 146, 3) := by decide +kernel
theorem d332_2980 : decode (cdN 332) 2980 = .ok (.iload 5, 2) := by decide +kernel
theorem d332_2982 : decode (cdN 332) 2982 = .ok (.if_icmp .eq 5, 3) := by decide +kernel
theorem d332_2985 : decode (cdN 332) 2985 = .ok (.iconst 0, 1) := by decide +kernel
theorem d332_2986 : decode (cdN 332) 2986 = .ok (.ireturn, 1) := by decide +kernel
theorem d332_2987 : decode (cdN 332) 2987 = .ok (.iload 5, 2) := by decide +kernel
theorem d332_2989 : decode (cdN 332) 2989 = .ok (.ifCond .ne 15, 3) := by decide +kernel
theorem d332_2992 : decode (cdN 332) 2992 = .ok (.aload_n 3, 1) := by decide +kernel
theorem d332_2993 : decode (cdN 332) 2993 = .ok (.iconst 0, 1) := by decide +kernel
theorem d332_2994 : decode (cdN 332) 2994 = .ok (.laload, 1) := by decide +kernel
theorem d332_2995 : decode (cdN 332) 2995 = .ok (.iload 6, 2) := by decide +kernel
theorem d332_2997 : decode (cdN 332) 2997 = .ok (.i2l, 1) := by decide +kernel
theorem d332_2998 : decode (cdN 332) 2998 = .ok (.lcmp, 1) := by decide +kernel
theorem d332_2999 : decode (cdN 332) 2999 = .ok (.ifCond .eq 5, 3) := by decide +kernel
theorem d332_3002 : decode (cdN 332) 3002 = .ok (.iconst 0, 1) := by decide +kernel
theorem d332_3003 : decode (cdN 332) 3003 = .ok (.ireturn, 1) := by decide +kernel
theorem d332_3004 : decode (cdN 332) 3004 = .ok (.goto 28, 3) := by decide +kernel
theorem d332_3007 : decode (cdN 332) 3007 = .ok (.aload_n 1, 1) := by decide +kernel
theorem d332_3008 : decode (cdN 332) 3008 = .ok (.aload_n 0, 1) := by decide +kernel
theorem d332_3009 : decode (cdN 332) 3009 = .ok (.iload 4, 2) := by decide +kernel
theorem d332_3011 : decode (cdN 332) 3011 = .ok (.iconst 1, 1) := by decide +kernel
theorem d332_3012 : decode (cdN 332) 3012 = .ok (.iadd, 1) := by decide +kernel
theorem d332_3013 : decode (cdN 332) 3013 = .ok (.iaload, 1) := by decide +kernel
theorem d332_3014 : decode (cdN 332) 3014 = .ok (.invokevirtual 366, 3) := by decide +kernel
theorem c332_366 : ctN (owN 332) 366 = some (0, 139, [706, 707, 708, 92]) := by decide +kernel
theorem d332_3017 : decode (cdN 332) 3017 = .ok (.aload_n 2, 1) := by decide +kernel
theorem d332_3018 : decode (cdN 332) 3018 = .ok (.aload_n 0, 1) := by decide +kernel
theorem d332_3019 : decode (cdN 332) 3019 = .ok (.iload 4, 2) := by decide +kernel
theorem d332_3021 : decode (cdN 332) 3021 = .ok (.iconst 1, 1) := by decide +kernel
theorem d332_3022 : decode (cdN 332) 3022 = .ok (.iadd, 1) := by decide +kernel
theorem d332_3023 : decode (cdN 332) 3023 = .ok (.iaload, 1) := by decide +kernel
theorem d332_3024 : decode (cdN 332) 3024 = .ok (.invokevirtual 369, 3) := by decide +kernel
theorem c332_369 : ctN (owN 332) 369 = some (0, 293, [2045, 2046, 2047, 104]) := by decide +kernel
theorem d332_3027 : decode (cdN 332) 3027 = .ok (.if_icmp .eq 5, 3) := by decide +kernel
theorem d332_3030 : decode (cdN 332) 3030 = .ok (.iconst 0, 1) := by decide +kernel
theorem d332_3031 : decode (cdN 332) 3031 = .ok (.ireturn, 1) := by decide +kernel
theorem d332_3032 : decode (cdN 332) 3032 = .ok (.iinc 4 6, 3) := by decide +kernel
theorem d332_3035 : decode (cdN 332) 3035 = .ok (.goto (-3012), 3) := by decide +kernel
theorem d332_3038 : decode (cdN 332) 3038 = .ok (.iconst 1, 1) := by decide +kernel
theorem d332_3039 : decode (cdN 332) 3039 = .ok (.ireturn, 1) := by decide +kernel
