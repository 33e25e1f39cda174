/-! decoded instructions of the law -/
theorem e_W_law_0 : decode code 0 = .ok (.new 8, 3) := by decide +kernel
theorem e_W_law_3 : decode code 3 = .ok (.dup, 1) := by decide +kernel
theorem e_W_law_4 : decode code 4 = .ok (.invokespecial 107, 3) := by decide +kernel
theorem e_W_law_7 : decode code 7 = .ok (.astore_n 1, 1) := by decide +kernel
theorem e_W_law_8 : decode code 8 = .ok (.new 108, 3) := by decide +kernel
theorem e_W_law_11 : decode code 11 = .ok (.dup, 1) := by decide +kernel
theorem e_W_law_12 : decode code 12 = .ok (.invokespecial 110, 3) := by decide +kernel
theorem e_W_law_15 : decode code 15 = .ok (.astore_n 2, 1) := by decide +kernel
theorem e_W_law_16 : decode code 16 = .ok (.iconst 1, 1) := by decide +kernel
theorem e_W_law_17 : decode code 17 = .ok (.newarray .long, 2) := by decide +kernel
theorem e_W_law_19 : decode code 19 = .ok (.astore_n 3, 1) := by decide +kernel
theorem e_W_law_20 : decode code 20 = .ok (.iconst 0, 1) := by decide +kernel
theorem e_W_law_21 : decode code 21 = .ok (.istore 4, 2) := by decide +kernel
theorem e_W_law_23 : decode code 23 = .ok (.iload 4, 2) := by decide +kernel
theorem e_W_law_25 : decode code 25 = .ok (.aload_n 0, 1) := by decide +kernel
theorem e_W_law_26 : decode code 26 = .ok (.arraylength, 1) := by decide +kernel
theorem e_W_law_27 : decode code 27 = .ok (.bipush 6, 2) := by decide +kernel
theorem e_W_law_29 : decode code 29 = .ok (.isub, 1) := by decide +kernel
theorem e_W_law_30 : decode code 30 = .ok (.if_icmp .gt 2513, 3) := by decide +kernel
theorem e_W_law_33 : decode code 33 = .ok (.aload_n 0, 1) := by decide +kernel
theorem e_W_law_34 : decode code 34 = .ok (.iload 4, 2) := by decide +kernel
theorem e_W_law_36 : decode code 36 = .ok (.iaload, 1) := by decide +kernel
theorem e_W_law_37 : decode code 37 = .ok (.bipush 63, 2) := by decide +kernel
theorem e_W_law_39 : decode code 39 = .ok (.iand, 1) := by decide +kernel
theorem e_W_law_40 : decode code 40 = .ok (.tableswitch 2497 0 59 #[256, 329, 385, 398, 411, 424, 437, 541, 609, 665, 721, 765, 821, 877, 918, 962, 1018, 1074, 1087, 1100, 1113, 1126, 1139, 1152, 1208, 1264, 1320, 1376, 1432, 1488, 1544, 1600, 1656, 1719, 1787, 1800, 1856, 1912, 1968, 2024, 2080, 2136, 2149, 2162, 2175, 2188, 2201, 2214, 2227, 2240, 2253, 2266, 2280, 2336, 2349, 2362, 2375, 2416, 2459, 2472], 256) := by decide +kernel
theorem e_W_law_296 : decode code 296 = .ok (.aload_n 1, 1) := by decide +kernel
theorem e_W_law_297 : decode code 297 = .ok (.aload_n 0, 1) := by decide +kernel
theorem e_W_law_298 : decode code 298 = .ok (.iload 4, 2) := by decide +kernel
theorem e_W_law_300 : decode code 300 = .ok (.iconst 1, 1) := by decide +kernel
theorem e_W_law_301 : decode code 301 = .ok (.iadd, 1) := by decide +kernel
theorem e_W_law_302 : decode code 302 = .ok (.iaload, 1) := by decide +kernel
theorem e_W_law_303 : decode code 303 = .ok (.aload_n 0, 1) := by decide +kernel
theorem e_W_law_304 : decode code 304 = .ok (.iload 4, 2) := by decide +kernel
theorem e_W_law_306 : decode code 306 = .ok (.iconst 2, 1) := by decide +kernel
theorem e_W_law_307 : decode code 307 = .ok (.iadd, 1) := by decide +kernel
theorem e_W_law_308 : decode code 308 = .ok (.iaload, 1) := by decide +kernel
theorem e_W_law_309 : decode code 309 = .ok (.aload_n 0, 1) := by decide +kernel
theorem e_W_law_310 : decode code 310 = .ok (.iload 4, 2) := by decide +kernel
theorem e_W_law_312 : decode code 312 = .ok (.iconst 3, 1) := by decide +kernel
theorem e_W_law_313 : decode code 313 = .ok (.iadd, 1) := by decide +kernel
theorem e_W_law_314 : decode code 314 = .ok (.iaload, 1) := by decide +kernel
theorem e_W_law_315 : decode code 315 = .ok (.aload_n 0, 1) := by decide +kernel
theorem e_W_law_316 : decode code 316 = .ok (.iload 4, 2) := by decide +kernel
theorem e_W_law_318 : decode code 318 = .ok (.iconst 4, 1) := by decide +kernel
theorem e_W_law_319 : decode code 319 = .ok (.iadd, 1) := by decide +kernel
theorem e_W_law_320 : decode code 320 = .ok (.iaload, 1) := by decide +kernel
theorem e_W_law_321 : decode code 321 = .ok (.aload_n 0, 1) := by decide +kernel
theorem e_W_law_322 : decode code 322 = .ok (.iload 4, 2) := by decide +kernel
theorem e_W_law_324 : decode code 324 = .ok (.iconst 5, 1) := by decide +kernel
theorem e_W_law_325 : decode code 325 = .ok (.iadd, 1) := by decide +kernel
theorem e_W_law_326 : decode code 326 = .ok (.iaload, 1) := by decide +kernel
theorem e_W_law_327 : decode code 327 = .ok (.invokevirtual 111, 3) := by decide +kernel
theorem e_W_law_330 : decode code 330 = .ok (.aload_n 2, 1) := by decide +kernel
theorem e_W_law_331 : decode code 331 = .ok (.aload_n 0, 1) := by decide +kernel
theorem e_W_law_332 : decode code 332 = .ok (.iload 4, 2) := by decide +kernel
theorem e_W_law_334 : decode code 334 = .ok (.iconst 1, 1) := by decide +kernel
theorem e_W_law_335 : decode code 335 = .ok (.iadd, 1) := by decide +kernel
theorem e_W_law_336 : decode code 336 = .ok (.iaload, 1) := by decide +kernel
theorem e_W_law_337 : decode code 337 = .ok (.aload_n 0, 1) := by decide +kernel
theorem e_W_law_338 : decode code 338 = .ok (.iload 4, 2) := by decide +kernel
theorem e_W_law_340 : decode code 340 = .ok (.iconst 2, 1) := by decide +kernel
theorem e_W_law_341 : decode code 341 = .ok (.iadd, 1) := by decide +kernel
theorem e_W_law_342 : decode code 342 = .ok (.iaload, 1) := by decide +kernel
theorem e_W_law_343 : decode code 343 = .ok (.aload_n 0, 1) := by decide +kernel
theorem e_W_law_344 : decode code 344 = .ok (.iload 4, 2) := by decide +kernel
theorem e_W_law_346 : decode code 346 = .ok (.iconst 3, 1) := by decide +kernel
theorem e_W_law_347 : decode code 347 = .ok (.iadd, 1) := by decide +kernel
theorem e_W_law_348 : decode code 348 = .ok (.iaload, 1) := by decide +kernel
theorem e_W_law_349 : decode code 349 = .ok (.aload_n 0, 1) := by decide +kernel
theorem e_W_law_350 : decode code 350 = .ok (.iload 4, 2) := by decide +kernel
theorem e_W_law_352 : decode code 352 = .ok (.iconst 4, 1) := by decide +kernel
theorem e_W_law_353 : decode code 353 = .ok (.iadd, 1) := by decide +kernel
theorem e_W_law_354 : decode code 354 = .ok (.iaload, 1) := by decide +kernel
theorem e_W_law_355 : decode code 355 = .ok (.aload_n 0, 1) := by decide +kernel
theorem e_W_law_356 : decode code 356 = .ok (.iload 4, 2) := by decide +kernel
theorem e_W_law_358 : decode code 358 = .ok (.iconst 5, 1) := by decide +kernel
theorem e_W_law_359 : decode code 359 = .ok (.iadd, 1) := by decide +kernel
theorem e_W_law_360 : decode code 360 = .ok (.iaload, 1) := by decide +kernel
theorem e_W_law_361 : decode code 361 = .ok (.invokevirtual 114, 3) := by decide +kernel
theorem e_W_law_364 : decode code 364 = .ok (.if_icmp .eq 2173, 3) := by decide +kernel
theorem e_W_law_367 : decode code 367 = .ok (.iconst 0, 1) := by decide +kernel
theorem e_W_law_368 : decode code 368 = .ok (.ireturn, 1) := by decide +kernel
theorem e_W_law_369 : decode code 369 = .ok (.aload_n 1, 1) := by decide +kernel
theorem e_W_law_370 : decode code 370 = .ok (.aload_n 0, 1) := by decide +kernel
theorem e_W_law_371 : decode code 371 = .ok (.iload 4, 2) := by decide +kernel
theorem e_W_law_373 : decode code 373 = .ok (.iconst 1, 1) := by decide +kernel
theorem e_W_law_374 : decode code 374 = .ok (.iadd, 1) := by decide +kernel
theorem e_W_law_375 : decode code 375 = .ok (.iaload, 1) := by decide +kernel
theorem e_W_law_376 : decode code 376 = .ok (.aload_n 3, 1) := by decide +kernel
theorem e_W_law_377 : decode code 377 = .ok (.invokestatic 115, 3) := by decide +kernel
theorem e_W_law_380 : decode code 380 = .ok (.istore 5, 2) := by decide +kernel
theorem e_W_law_382 : decode code 382 = .ok (.aload_n 2, 1) := by decide +kernel
theorem e_W_law_383 : decode code 383 = .ok (.aload_n 0, 1) := by decide +kernel
theorem e_W_law_384 : decode code 384 = .ok (.iload 4, 2) := by decide +kernel
theorem e_W_law_386 : decode code 386 = .ok (.iconst 1, 1) := by decide +kernel
theorem e_W_law_387 : decode code 387 = .ok (.iadd, 1) := by decide +kernel
theorem e_W_law_388 : decode code 388 = .ok (.iaload, 1) := by decide +kernel
theorem e_W_law_389 : decode code 389 = .ok (.invokevirtual 120, 3) := by decide +kernel
theorem e_W_law_392 : decode code 392 = .ok (.istore 6, 2) := by decide +kernel
theorem e_W_law_394 : decode code 394 = .ok (.aload_n 2, 1) := by decide +kernel
theorem e_W_law_395 : decode code 395 = .ok (.invokevirtual 121, 3) := by decide +kernel
theorem e_W_law_398 : decode code 398 = .ok (.iload 5, 2) := by decide +kernel
theorem e_W_law_400 : decode code 400 = .ok (.if_icmp .eq 5, 3) := by decide +kernel
theorem e_W_law_403 : decode code 403 = .ok (.iconst 0, 1) := by decide +kernel
theorem e_W_law_404 : decode code 404 = .ok (.ireturn, 1) := by decide +kernel
theorem e_W_law_405 : decode code 405 = .ok (.iload 5, 2) := by decide +kernel
theorem e_W_law_407 : decode code 407 = .ok (.ifCond .ne 15, 3) := by decide +kernel
theorem e_W_law_410 : decode code 410 = .ok (.aload_n 3, 1) := by decide +kernel
theorem e_W_law_411 : decode code 411 = .ok (.iconst 0, 1) := by decide +kernel
theorem e_W_law_412 : decode code 412 = .ok (.laload, 1) := by decide +kernel
theorem e_W_law_413 : decode code 413 = .ok (.iload 6, 2) := by decide +kernel
theorem e_W_law_415 : decode code 415 = .ok (.i2l, 1) := by decide +kernel
theorem e_W_law_416 : decode code 416 = .ok (.lcmp, 1) := by decide +kernel
theorem e_W_law_417 : decode code 417 = .ok (.ifCond .eq 5, 3) := by decide +kernel
theorem e_W_law_420 : decode code 420 = .ok (.iconst 0, 1) := by decide +kernel
theorem e_W_law_421 : decode code 421 = .ok (.ireturn, 1) := by decide +kernel
theorem e_W_law_422 : decode code 422 = .ok (.goto 2115, 3) := by decide +kernel
theorem e_W_law_425 : decode code 425 = .ok (.aload_n 1, 1) := by decide +kernel
theorem e_W_law_426 : decode code 426 = .ok (.invokevirtual 124, 3) := by decide +kernel
theorem e_W_law_429 : decode code 429 = .ok (.aload_n 2, 1) := by decide +kernel
theorem e_W_law_430 : decode code 430 = .ok (.invokevirtual 127, 3) := by decide +kernel
theorem e_W_law_433 : decode code 433 = .ok (.if_icmp .eq 2104, 3) := by decide +kernel
theorem e_W_law_436 : decode code 436 = .ok (.iconst 0, 1) := by decide +kernel
theorem e_W_law_437 : decode code 437 = .ok (.ireturn, 1) := by decide +kernel
theorem e_W_law_438 : decode code 438 = .ok (.aload_n 1, 1) := by decide +kernel
theorem e_W_law_439 : decode code 439 = .ok (.invokevirtual 128, 3) := by decide +kernel
theorem e_W_law_442 : decode code 442 = .ok (.aload_n 2, 1) := by decide +kernel
theorem e_W_law_443 : decode code 443 = .ok (.invokevirtual 131, 3) := by decide +kernel
theorem e_W_law_446 : decode code 446 = .ok (.if_icmp .eq 2091, 3) := by decide +kernel
theorem e_W_law_449 : decode code 449 = .ok (.iconst 0, 1) := by decide +kernel
theorem e_W_law_450 : decode code 450 = .ok (.ireturn, 1) := by decide +kernel
theorem e_W_law_451 : decode code 451 = .ok (.aload_n 1, 1) := by decide +kernel
theorem e_W_law_452 : decode code 452 = .ok (.invokevirtual 132, 3) := by decide +kernel
theorem e_W_law_455 : decode code 455 = .ok (.aload_n 2, 1) := by decide +kernel
theorem e_W_law_456 : decode code 456 = .ok (.invokevirtual 135, 3) := by decide +kernel
theorem e_W_law_459 : decode code 459 = .ok (.if_icmp .eq 2078, 3) := by decide +kernel
theorem e_W_law_462 : decode code 462 = .ok (.iconst 0, 1) := by decide +kernel
theorem e_W_law_463 : decode code 463 = .ok (.ireturn, 1) := by decide +kernel
theorem e_W_law_464 : decode code 464 = .ok (.aload_n 1, 1) := by decide +kernel
theorem e_W_law_465 : decode code 465 = .ok (.invokevirtual 136, 3) := by decide +kernel
theorem e_W_law_468 : decode code 468 = .ok (.aload_n 2, 1) := by decide +kernel
theorem e_W_law_469 : decode code 469 = .ok (.invokevirtual 139, 3) := by decide +kernel
theorem e_W_law_472 : decode code 472 = .ok (.if_icmp .eq 2065, 3) := by decide +kernel
theorem e_W_law_475 : decode code 475 = .ok (.iconst 0, 1) := by decide +kernel
theorem e_W_law_476 : decode code 476 = .ok (.ireturn, 1) := by decide +kernel
theorem e_W_law_477 : decode code 477 = .ok (.aload_n 1, 1) := by decide +kernel
theorem e_W_law_478 : decode code 478 = .ok (.aload_n 0, 1) := by decide +kernel
theorem e_W_law_479 : decode code 479 = .ok (.iload 4, 2) := by decide +kernel
theorem e_W_law_481 : decode code 481 = .ok (.iconst 1, 1) := by decide +kernel
theorem e_W_law_482 : decode code 482 = .ok (.iadd, 1) := by decide +kernel
theorem e_W_law_483 : decode code 483 = .ok (.iaload, 1) := by decide +kernel
theorem e_W_law_484 : decode code 484 = .ok (.aload_n 0, 1) := by decide +kernel
theorem e_W_law_485 : decode code 485 = .ok (.iload 4, 2) := by decide +kernel
theorem e_W_law_487 : decode code 487 = .ok (.iconst 2, 1) := by decide +kernel
theorem e_W_law_488 : decode code 488 = .ok (.iadd, 1) := by decide +kernel
theorem e_W_law_489 : decode code 489 = .ok (.iaload, 1) := by decide +kernel
theorem e_W_law_490 : decode code 490 = .ok (.aload_n 0, 1) := by decide +kernel
theorem e_W_law_491 : decode code 491 = .ok (.iload 4, 2) := by decide +kernel
theorem e_W_law_493 : decode code 493 = .ok (.iconst 3, 1) := by decide +kernel
theorem e_W_law_494 : decode code 494 = .ok (.iadd, 1) := by decide +kernel
theorem e_W_law_495 : decode code 495 = .ok (.iaload, 1) := by decide +kernel
theorem e_W_law_496 : decode code 496 = .ok (.aload_n 0, 1) := by decide +kernel
theorem e_W_law_497 : decode code 497 = .ok (.iload 4, 2) := by decide +kernel
theorem e_W_law_499 : decode code 499 = .ok (.iconst 4, 1) := by decide +kernel
theorem e_W_law_500 : decode code 500 = .ok (.iadd, 1) := by decide +kernel
theorem e_W_law_501 : decode code 501 = .ok (.iaload, 1) := by decide +kernel
theorem e_W_law_502 : decode code 502 = .ok (.aload_n 0, 1) := by decide +kernel
theorem e_W_law_503 : decode code 503 = .ok (.iload 4, 2) := by decide +kernel
theorem e_W_law_505 : decode code 505 = .ok (.iconst 5, 1) := by decide +kernel
theorem e_W_law_506 : decode code 506 = .ok (.iadd, 1) := by decide +kernel
theorem e_W_law_507 : decode code 507 = .ok (.iaload, 1) := by decide +kernel
theorem e_W_law_508 : decode code 508 = .ok (.aload_n 3, 1) := by decide +kernel
theorem e_W_law_509 : decode code 509 = .ok (.invokestatic 140, 3) := by decide +kernel
theorem e_W_law_512 : decode code 512 = .ok (.istore 5, 2) := by decide +kernel
theorem e_W_law_514 : decode code 514 = .ok (.aload_n 2, 1) := by decide +kernel
theorem e_W_law_515 : decode code 515 = .ok (.aload_n 0, 1) := by decide +kernel
theorem e_W_law_516 : decode code 516 = .ok (.iload 4, 2) := by decide +kernel
theorem e_W_law_518 : decode code 518 = .ok (.iconst 1, 1) := by decide +kernel
theorem e_W_law_519 : decode code 519 = .ok (.iadd, 1) := by decide +kernel
theorem e_W_law_520 : decode code 520 = .ok (.iaload, 1) := by decide +kernel
theorem e_W_law_521 : decode code 521 = .ok (.aload_n 0, 1) := by decide +kernel
theorem e_W_law_522 : decode code 522 = .ok (.iload 4, 2) := by decide +kernel
theorem e_W_law_524 : decode code 524 = .ok (.iconst 2, 1) := by decide +kernel
theorem e_W_law_525 : decode code 525 = .ok (.iadd, 1) := by decide +kernel
theorem e_W_law_526 : decode code 526 = .ok (.iaload, 1) := by decide +kernel
theorem e_W_law_527 : decode code 527 = .ok (.aload_n 0, 1) := by decide +kernel
theorem e_W_law_528 : decode code 528 = .ok (.iload 4, 2) := by decide +kernel
theorem e_W_law_530 : decode code 530 = .ok (.iconst 3, 1) := by decide +kernel
theorem e_W_law_531 : decode code 531 = .ok (.iadd, 1) := by decide +kernel
theorem e_W_law_532 : decode code 532 = .ok (.iaload, 1) := by decide +kernel
theorem e_W_law_533 : decode code 533 = .ok (.aload_n 0, 1) := by decide +kernel
theorem e_W_law_534 : decode code 534 = .ok (.iload 4, 2) := by decide +kernel
theorem e_W_law_536 : decode code 536 = .ok (.iconst 4, 1) := by decide +kernel
theorem e_W_law_537 : decode code 537 = .ok (.iadd, 1) := by decide +kernel
theorem e_W_law_538 : decode code 538 = .ok (.iaload, 1) := by decide +kernel
theorem e_W_law_539 : decode code 539 = .ok (.aload_n 0, 1) := by decide +kernel
theorem e_W_law_540 : decode code 540 = .ok (.iload 4, 2) := by decide +kernel
theorem e_W_law_542 : decode code 542 = .ok (.iconst 5, 1) := by decide +kernel
theorem e_W_law_543 : decode code 543 = .ok (.iadd, 1) := by decide +kernel
theorem e_W_law_544 : decode code 544 = .ok (.iaload, 1) := by decide +kernel
theorem e_W_law_545 : decode code 545 = .ok (.invokevirtual 143, 3) := by decide +kernel
theorem e_W_law_548 : decode code 548 = .ok (.istore 6, 2) := by decide +kernel
theorem e_W_law_550 : decode code 550 = .ok (.aload_n 2, 1) := by decide +kernel
theorem e_W_law_551 : decode code 551 = .ok (.invokevirtual 121, 3) := by decide +kernel
theorem e_W_law_554 : decode code 554 = .ok (.iload 5, 2) := by decide +kernel
theorem e_W_law_556 : decode code 556 = .ok (.if_icmp .eq 5, 3) := by decide +kernel
theorem e_W_law_559 : decode code 559 = .ok (.iconst 0, 1) := by decide +kernel
theorem e_W_law_560 : decode code 560 = .ok (.ireturn, 1) := by decide +kernel
theorem e_W_law_561 : decode code 561 = .ok (.iload 5, 2) := by decide +kernel
theorem e_W_law_563 : decode code 563 = .ok (.ifCond .ne 15, 3) := by decide +kernel
theorem e_W_law_566 : decode code 566 = .ok (.aload_n 3, 1) := by decide +kernel
theorem e_W_law_567 : decode code 567 = .ok (.iconst 0, 1) := by decide +kernel
theorem e_W_law_568 : decode code 568 = .ok (.laload, 1) := by decide +kernel
theorem e_W_law_569 : decode code 569 = .ok (.iload 6, 2) := by decide +kernel
theorem e_W_law_571 : decode code 571 = .ok (.i2l, 1) := by decide +kernel
theorem e_W_law_572 : decode code 572 = .ok (.lcmp, 1) := by decide +kernel
theorem e_W_law_573 : decode code 573 = .ok (.ifCond .eq 5, 3) := by decide +kernel
theorem e_W_law_576 : decode code 576 = .ok (.iconst 0, 1) := by decide +kernel
theorem e_W_law_577 : decode code 577 = .ok (.ireturn, 1) := by decide +kernel
theorem e_W_law_578 : decode code 578 = .ok (.goto 1959, 3) := by decide +kernel
theorem e_W_law_581 : decode code 581 = .ok (.aload_n 1, 1) := by decide +kernel
theorem e_W_law_582 : decode code 582 = .ok (.aload_n 0, 1) := by decide +kernel
theorem e_W_law_583 : decode code 583 = .ok (.iload 4, 2) := by decide +kernel
theorem e_W_law_585 : decode code 585 = .ok (.iconst 1, 1) := by decide +kernel
theorem e_W_law_586 : decode code 586 = .ok (.iadd, 1) := by decide +kernel
theorem e_W_law_587 : decode code 587 = .ok (.iaload, 1) := by decide +kernel
theorem e_W_law_588 : decode code 588 = .ok (.aload_n 0, 1) := by decide +kernel
theorem e_W_law_589 : decode code 589 = .ok (.iload 4, 2) := by decide +kernel
theorem e_W_law_591 : decode code 591 = .ok (.iconst 2, 1) := by decide +kernel
theorem e_W_law_592 : decode code 592 = .ok (.iadd, 1) := by decide +kernel
theorem e_W_law_593 : decode code 593 = .ok (.iaload, 1) := by decide +kernel
theorem e_W_law_594 : decode code 594 = .ok (.aload_n 3, 1) := by decide +kernel
theorem e_W_law_595 : decode code 595 = .ok (.invokestatic 144, 3) := by decide +kernel
theorem e_W_law_598 : decode code 598 = .ok (.istore 5, 2) := by decide +kernel
theorem e_W_law_600 : decode code 600 = .ok (.aload_n 2, 1) := by decide +kernel
theorem e_W_law_601 : decode code 601 = .ok (.aload_n 0, 1) := by decide +kernel
theorem e_W_law_602 : decode code 602 = .ok (.iload 4, 2) := by decide +kernel
theorem e_W_law_604 : decode code 604 = .ok (.iconst 1, 1) := by decide +kernel
theorem e_W_law_605 : decode code 605 = .ok (.iadd, 1) := by decide +kernel
theorem e_W_law_606 : decode code 606 = .ok (.iaload, 1) := by decide +kernel
theorem e_W_law_607 : decode code 607 = .ok (.aload_n 0, 1) := by decide +kernel
theorem e_W_law_608 : decode code 608 = .ok (.iload 4, 2) := by decide +kernel
theorem e_W_law_610 : decode code 610 = .ok (.iconst 2, 1) := by decide +kernel
theorem e_W_law_611 : decode code 611 = .ok (.iadd, 1) := by decide +kernel
theorem e_W_law_612 : decode code 612 = .ok (.iaload, 1) := by decide +kernel
theorem e_W_law_613 : decode code 613 = .ok (.invokevirtual 147, 3) := by decide +kernel
theorem e_W_law_616 : decode code 616 = .ok (.istore 6, 2) := by decide +kernel
theorem e_W_law_618 : decode code 618 = .ok (.aload_n 2, 1) := by decide +kernel
theorem e_W_law_619 : decode code 619 = .ok (.invokevirtual 121, 3) := by decide +kernel
theorem e_W_law_622 : decode code 622 = .ok (.iload 5, 2) := by decide +kernel
theorem e_W_law_624 : decode code 624 = .ok (.if_icmp .eq 5, 3) := by decide +kernel
theorem e_W_law_627 : decode code 627 = .ok (.iconst 0, 1) := by decide +kernel
theorem e_W_law_628 : decode code 628 = .ok (.ireturn, 1) := by decide +kernel
theorem e_W_law_629 : decode code 629 = .ok (.iload 5, 2) := by decide +kernel
theorem e_W_law_631 : decode code 631 = .ok (.ifCond .ne 15, 3) := by decide +kernel
theorem e_W_law_634 : decode code 634 = .ok (.aload_n 3, 1) := by decide +kernel
theorem e_W_law_635 : decode code 635 = .ok (.iconst 0, 1) := by decide +kernel
theorem e_W_law_636 : decode code 636 = .ok (.laload, 1) := by decide +kernel
theorem e_W_law_637 : decode code 637 = .ok (.iload 6, 2) := by decide +kernel
theorem e_W_law_639 : decode code 639 = .ok (.i2l, 1) := by decide +kernel
theorem e_W_law_640 : decode code 640 = .ok (.lcmp, 1) := by decide +kernel
theorem e_W_law_641 : decode code 641 = .ok (.ifCond .eq 5, 3) := by decide +kernel
theorem e_W_law_644 : decode code 644 = .ok (.iconst 0, 1) := by decide +kernel
theorem e_W_law_645 : decode code 645 = .ok (.ireturn, 1) := by decide +kernel
theorem e_W_law_646 : decode code 646 = .ok (.goto 1891, 3) := by decide +kernel
theorem e_W_law_649 : decode code 649 = .ok (.aload_n 1, 1) := by decide +kernel
theorem e_W_law_650 : decode code 650 = .ok (.aload_n 0, 1) := by decide +kernel
theorem e_W_law_651 : decode code 651 = .ok (.iload 4, 2) := by decide +kernel
theorem e_W_law_653 : decode code 653 = .ok (.iconst 1, 1) := by decide +kernel
theorem e_W_law_654 : decode code 654 = .ok (.iadd, 1) := by decide +kernel
theorem e_W_law_655 : decode code 655 = .ok (.iaload, 1) := by decide +kernel
theorem e_W_law_656 : decode code 656 = .ok (.aload_n 3, 1) := by decide +kernel
theorem e_W_law_657 : decode code 657 = .ok (.invokestatic 148, 3) := by decide +kernel
theorem e_W_law_660 : decode code 660 = .ok (.istore 5, 2) := by decide +kernel
theorem e_W_law_662 : decode code 662 = .ok (.aload_n 2, 1) := by decide +kernel
theorem e_W_law_663 : decode code 663 = .ok (.aload_n 0, 1) := by decide +kernel
theorem e_W_law_664 : decode code 664 = .ok (.iload 4, 2) := by decide +kernel
theorem e_W_law_666 : decode code 666 = .ok (.iconst 1, 1) := by decide +kernel
theorem e_W_law_667 : decode code 667 = .ok (.iadd, 1) := by decide +kernel
theorem e_W_law_668 : decode code 668 = .ok (.iaload, 1) := by decide +kernel
theorem e_W_law_669 : decode code 669 = .ok (.invokevirtual 150, 3) := by decide +kernel
theorem e_W_law_672 : decode code 672 = .ok (.istore 6, 2) := by decide +kernel
theorem e_W_law_674 : decode code 674 = .ok (.aload_n 2, 1) := by decide +kernel
theorem e_W_law_675 : decode code 675 = .ok (.invokevirtual 121, 3) := by decide +kernel
theorem e_W_law_678 : decode code 678 = .ok (.iload 5, 2) := by decide +kernel
theorem e_W_law_680 : decode code 680 = .ok (.if_icmp .eq 5, 3) := by decide +kernel
theorem e_W_law_683 : decode code 683 = .ok (.iconst 0, 1) := by decide +kernel
theorem e_W_law_684 : decode code 684 = .ok (.ireturn, 1) := by decide +kernel
theorem e_W_law_685 : decode code 685 = .ok (.iload 5, 2) := by decide +kernel
theorem e_W_law_687 : decode code 687 = .ok (.ifCond .ne 15, 3) := by decide +kernel
theorem e_W_law_690 : decode code 690 = .ok (.aload_n 3, 1) := by decide +kernel
theorem e_W_law_691 : decode code 691 = .ok (.iconst 0, 1) := by decide +kernel
theorem e_W_law_692 : decode code 692 = .ok (.laload, 1) := by decide +kernel
theorem e_W_law_693 : decode code 693 = .ok (.iload 6, 2) := by decide +kernel
theorem e_W_law_695 : decode code 695 = .ok (.i2l, 1) := by decide +kernel
theorem e_W_law_696 : decode code 696 = .ok (.lcmp, 1) := by decide +kernel
theorem e_W_law_697 : decode code 697 = .ok (.ifCond .eq 5, 3) := by decide +kernel
theorem e_W_law_700 : decode code 700 = .ok (.iconst 0, 1) := by decide +kernel
theorem e_W_law_701 : decode code 701 = .ok (.ireturn, 1) := by decide +kernel
theorem e_W_law_702 : decode code 702 = .ok (.goto 1835, 3) := by decide +kernel
theorem e_W_law_705 : decode code 705 = .ok (.aload_n 1, 1) := by decide +kernel
theorem e_W_law_706 : decode code 706 = .ok (.aload_n 0, 1) := by decide +kernel
theorem e_W_law_707 : decode code 707 = .ok (.iload 4, 2) := by decide +kernel
theorem e_W_law_709 : decode code 709 = .ok (.iconst 1, 1) := by decide +kernel
theorem e_W_law_710 : decode code 710 = .ok (.iadd, 1) := by decide +kernel
theorem e_W_law_711 : decode code 711 = .ok (.iaload, 1) := by decide +kernel
theorem e_W_law_712 : decode code 712 = .ok (.aload_n 3, 1) := by decide +kernel
theorem e_W_law_713 : decode code 713 = .ok (.invokestatic 151, 3) := by decide +kernel
theorem e_W_law_716 : decode code 716 = .ok (.istore 5, 2) := by decide +kernel
theorem e_W_law_718 : decode code 718 = .ok (.aload_n 2, 1) := by decide +kernel
theorem e_W_law_719 : decode code 719 = .ok (.aload_n 0, 1) := by decide +kernel
theorem e_W_law_720 : decode code 720 = .ok (.iload 4, 2) := by decide +kernel
theorem e_W_law_722 : decode code 722 = .ok (.iconst 1, 1) := by decide +kernel
theorem e_W_law_723 : decode code 723 = .ok (.iadd, 1) := by decide +kernel
theorem e_W_law_724 : decode code 724 = .ok (.iaload, 1) := by decide +kernel
theorem e_W_law_725 : decode code 725 = .ok (.invokevirtual 153, 3) := by decide +kernel
theorem e_W_law_728 : decode code 728 = .ok (.istore 6, 2) := by decide +kernel
theorem e_W_law_730 : decode code 730 = .ok (.aload_n 2, 1) := by decide +kernel
theorem e_W_law_731 : decode code 731 = .ok (.invokevirtual 121, 3) := by decide +kernel
theorem e_W_law_734 : decode code 734 = .ok (.iload 5, 2) := by decide +kernel
theorem e_W_law_736 : decode code 736 = .ok (.if_icmp .eq 5, 3) := by decide +kernel
theorem e_W_law_739 : decode code 739 = .ok (.iconst 0, 1) := by decide +kernel
theorem e_W_law_740 : decode code 740 = .ok (.ireturn, 1) := by decide +kernel
theorem e_W_law_741 : decode code 741 = .ok (.iload 5, 2) := by decide +kernel
theorem e_W_law_743 : decode code 743 = .ok (.ifCond .ne 15, 3) := by decide +kernel
theorem e_W_law_746 : decode code 746 = .ok (.aload_n 3, 1) := by decide +kernel
theorem e_W_law_747 : decode code 747 = .ok (.iconst 0, 1) := by decide +kernel
theorem e_W_law_748 : decode code 748 = .ok (.laload, 1) := by decide +kernel
theorem e_W_law_749 : decode code 749 = .ok (.iload 6, 2) := by decide +kernel
theorem e_W_law_751 : decode code 751 = .ok (.i2l, 1) := by decide +kernel
theorem e_W_law_752 : decode code 752 = .ok (.lcmp, 1) := by decide +kernel
theorem e_W_law_753 : decode code 753 = .ok (.ifCond .eq 5, 3) := by decide +kernel
theorem e_W_law_756 : decode code 756 = .ok (.iconst 0, 1) := by decide +kernel
theorem e_W_law_757 : decode code 757 = .ok (.ireturn, 1) := by decide +kernel
theorem e_W_law_758 : decode code 758 = .ok (.goto 1779, 3) := by decide +kernel
theorem e_W_law_761 : decode code 761 = .ok (.aload_n 1, 1) := by decide +kernel
theorem e_W_law_762 : decode code 762 = .ok (.aload_n 3, 1) := by decide +kernel
theorem e_W_law_763 : decode code 763 = .ok (.invokestatic 154, 3) := by decide +kernel
theorem e_W_law_766 : decode code 766 = .ok (.istore 5, 2) := by decide +kernel
theorem e_W_law_768 : decode code 768 = .ok (.aload_n 2, 1) := by decide +kernel
theorem e_W_law_769 : decode code 769 = .ok (.invokevirtual 157, 3) := by decide +kernel
theorem e_W_law_772 : decode code 772 = .ok (.istore 6, 2) := by decide +kernel
theorem e_W_law_774 : decode code 774 = .ok (.aload_n 2, 1) := by decide +kernel
theorem e_W_law_775 : decode code 775 = .ok (.invokevirtual 121, 3) := by decide +kernel
theorem e_W_law_778 : decode code 778 = .ok (.iload 5, 2) := by decide +kernel
theorem e_W_law_780 : decode code 780 = .ok (.if_icmp .eq 5, 3) := by decide +kernel
theorem e_W_law_783 : decode code 783 = .ok (.iconst 0, 1) := by decide +kernel
theorem e_W_law_784 : decode code 784 = .ok (.ireturn, 1) := by decide +kernel
theorem e_W_law_785 : decode code 785 = .ok (.iload 5, 2) := by decide +kernel
theorem e_W_law_787 : decode code 787 = .ok (.ifCond .ne 15, 3) := by decide +kernel
theorem e_W_law_790 : decode code 790 = .ok (.aload_n 3, 1) := by decide +kernel
theorem e_W_law_791 : decode code 791 = .ok (.iconst 0, 1) := by decide +kernel
theorem e_W_law_792 : decode code 792 = .ok (.laload, 1) := by decide +kernel
theorem e_W_law_793 : decode code 793 = .ok (.iload 6, 2) := by decide +kernel
theorem e_W_law_795 : decode code 795 = .ok (.i2l, 1) := by decide +kernel
theorem e_W_law_796 : decode code 796 = .ok (.lcmp, 1) := by decide +kernel
theorem e_W_law_797 : decode code 797 = .ok (.ifCond .eq 5, 3) := by decide +kernel
theorem e_W_law_800 : decode code 800 = .ok (.iconst 0, 1) := by decide +kernel
theorem e_W_law_801 : decode code 801 = .ok (.ireturn, 1) := by decide +kernel
theorem e_W_law_802 : decode code 802 = .ok (.goto 1735, 3) := by decide +kernel
theorem e_W_law_805 : decode code 805 = .ok (.aload_n 1, 1) := by decide +kernel
theorem e_W_law_806 : decode code 806 = .ok (.aload_n 0, 1) := by decide +kernel
theorem e_W_law_807 : decode code 807 = .ok (.iload 4, 2) := by decide +kernel
theorem e_W_law_809 : decode code 809 = .ok (.iconst 1, 1) := by decide +kernel
theorem e_W_law_810 : decode code 810 = .ok (.iadd, 1) := by decide +kernel
theorem e_W_law_811 : decode code 811 = .ok (.iaload, 1) := by decide +kernel
theorem e_W_law_812 : decode code 812 = .ok (.aload_n 3, 1) := by decide +kernel
theorem e_W_law_813 : decode code 813 = .ok (.invokestatic 158, 3) := by decide +kernel
theorem e_W_law_816 : decode code 816 = .ok (.istore 5, 2) := by decide +kernel
theorem e_W_law_818 : decode code 818 = .ok (.aload_n 2, 1) := by decide +kernel
theorem e_W_law_819 : decode code 819 = .ok (.aload_n 0, 1) := by decide +kernel
theorem e_W_law_820 : decode code 820 = .ok (.iload 4, 2) := by decide +kernel
theorem e_W_law_822 : decode code 822 = .ok (.iconst 1, 1) := by decide +kernel
theorem e_W_law_823 : decode code 823 = .ok (.iadd, 1) := by decide +kernel
theorem e_W_law_824 : decode code 824 = .ok (.iaload, 1) := by decide +kernel
theorem e_W_law_825 : decode code 825 = .ok (.invokevirtual 160, 3) := by decide +kernel
theorem e_W_law_828 : decode code 828 = .ok (.istore 6, 2) := by decide +kernel
theorem e_W_law_830 : decode code 830 = .ok (.aload_n 2, 1) := by decide +kernel
theorem e_W_law_831 : decode code 831 = .ok (.invokevirtual 121, 3) := by decide +kernel
theorem e_W_law_834 : decode code 834 = .ok (.iload 5, 2) := by decide +kernel
theorem e_W_law_836 : decode code 836 = .ok (.if_icmp .eq 5, 3) := by decide +kernel
theorem e_W_law_839 : decode code 839 = .ok (.iconst 0, 1) := by decide +kernel
theorem e_W_law_840 : decode code 840 = .ok (.ireturn, 1) := by decide +kernel
theorem e_W_law_841 : decode code 841 = .ok (.iload 5, 2) := by decide +kernel
theorem e_W_law_843 : decode code 843 = .ok (.ifCond .ne 15, 3) := by decide +kernel
theorem e_W_law_846 : decode code 846 = .ok (.aload_n 3, 1) := by decide +kernel
theorem e_W_law_847 : decode code 847 = .ok (.iconst 0, 1) := by decide +kernel
theorem e_W_law_848 : decode code 848 = .ok (.laload, 1) := by decide +kernel
theorem e_W_law_849 : decode code 849 = .ok (.iload 6, 2) := by decide +kernel
theorem e_W_law_851 : decode code 851 = .ok (.i2l, 1) := by decide +kernel
theorem e_W_law_852 : decode code 852 = .ok (.lcmp, 1) := by decide +kernel
theorem e_W_law_853 : decode code 853 = .ok (.ifCond .eq 5, 3) := by decide +kernel
theorem e_W_law_856 : decode code 856 = .ok (.iconst 0, 1) := by decide +kernel
theorem e_W_law_857 : decode code 857 = .ok (.ireturn, 1) := by decide +kernel
theorem e_W_law_858 : decode code 858 = .ok (.goto 1679, 3) := by decide +kernel
theorem e_W_law_861 : decode code 861 = .ok (.aload_n 1, 1) := by decide +kernel
theorem e_W_law_862 : decode code 862 = .ok (.aload_n 0, 1) := by decide +kernel
theorem e_W_law_863 : decode code 863 = .ok (.iload 4, 2) := by decide +kernel
theorem e_W_law_865 : decode code 865 = .ok (.iconst 1, 1) := by decide +kernel
theorem e_W_law_866 : decode code 866 = .ok (.iadd, 1) := by decide +kernel
theorem e_W_law_867 : decode code 867 = .ok (.iaload, 1) := by decide +kernel
theorem e_W_law_868 : decode code 868 = .ok (.aload_n 3, 1) := by decide +kernel
theorem e_W_law_869 : decode code 869 = .ok (.invokestatic 161, 3) := by decide +kernel
theorem e_W_law_872 : decode code 872 = .ok (.istore 5, 2) := by decide +kernel
theorem e_W_law_874 : decode code 874 = .ok (.aload_n 2, 1) := by decide +kernel
theorem e_W_law_875 : decode code 875 = .ok (.aload_n 0, 1) := by decide +kernel
theorem e_W_law_876 : decode code 876 = .ok (.iload 4, 2) := by decide +kernel
theorem e_W_law_878 : decode code 878 = .ok (.iconst 1, 1) := by decide +kernel
theorem e_W_law_879 : decode code 879 = .ok (.iadd, 1) := by decide +kernel
theorem e_W_law_880 : decode code 880 = .ok (.iaload, 1) := by decide +kernel
theorem e_W_law_881 : decode code 881 = .ok (.invokevirtual 163, 3) := by decide +kernel
theorem e_W_law_884 : decode code 884 = .ok (.istore 6, 2) := by decide +kernel
theorem e_W_law_886 : decode code 886 = .ok (.aload_n 2, 1) := by decide +kernel
theorem e_W_law_887 : decode code 887 = .ok (.invokevirtual 121, 3) := by decide +kernel
theorem e_W_law_890 : decode code 890 = .ok (.iload 5, 2) := by decide +kernel
theorem e_W_law_892 : decode code 892 = .ok (.if_icmp .eq 5, 3) := by decide +kernel
theorem e_W_law_895 : decode code 895 = .ok (.iconst 0, 1) := by decide +kernel
theorem e_W_law_896 : decode code 896 = .ok (.ireturn, 1) := by decide +kernel
theorem e_W_law_897 : decode code 897 = .ok (.iload 5, 2) := by decide +kernel
theorem e_W_law_899 : decode code 899 = .ok (.ifCond .ne 15, 3) := by decide +kernel
theorem e_W_law_902 : decode code 902 = .ok (.aload_n 3, 1) := by decide +kernel
theorem e_W_law_903 : decode code 903 = .ok (.iconst 0, 1) := by decide +kernel
theorem e_W_law_904 : decode code 904 = .ok (.laload, 1) := by decide +kernel
theorem e_W_law_905 : decode code 905 = .ok (.iload 6, 2) := by decide +kernel
theorem e_W_law_907 : decode code 907 = .ok (.i2l, 1) := by decide +kernel
theorem e_W_law_908 : decode code 908 = .ok (.lcmp, 1) := by decide +kernel
theorem e_W_law_909 : decode code 909 = .ok (.ifCond .eq 5, 3) := by decide +kernel
theorem e_W_law_912 : decode code 912 = .ok (.iconst 0, 1) := by decide +kernel
theorem e_W_law_913 : decode code 913 = .ok (.ireturn, 1) := by decide +kernel
theorem e_W_law_914 : decode code 914 = .ok (.goto 1623, 3) := by decide +kernel
theorem e_W_law_917 : decode code 917 = .ok (.aload_n 1, 1) := by decide +kernel
theorem e_W_law_918 : decode code 918 = .ok (.aload_n 0, 1) := by decide +kernel
theorem e_W_law_919 : decode code 919 = .ok (.iload 4, 2) := by decide +kernel
theorem e_W_law_921 : decode code 921 = .ok (.iconst 1, 1) := by decide +kernel
theorem e_W_law_922 : decode code 922 = .ok (.iadd, 1) := by decide +kernel
theorem e_W_law_923 : decode code 923 = .ok (.iaload, 1) := by decide +kernel
theorem e_W_law_924 : decode code 924 = .ok (.ifCond .eq 7, 3) := by decide +kernel
theorem e_W_law_927 : decode code 927 = .ok (.iconst 1, 1) := by decide +kernel
theorem e_W_law_928 : decode code 928 = .ok (.goto 4, 3) := by decide +kernel
theorem e_W_law_931 : decode code 931 = .ok (.iconst 0, 1) := by decide +kernel
theorem e_W_law_932 : decode code 932 = .ok (.invokevirtual 164, 3) := by decide +kernel
theorem e_W_law_935 : decode code 935 = .ok (.aload_n 2, 1) := by decide +kernel
theorem e_W_law_936 : decode code 936 = .ok (.aload_n 0, 1) := by decide +kernel
theorem e_W_law_937 : decode code 937 = .ok (.iload 4, 2) := by decide +kernel
theorem e_W_law_939 : decode code 939 = .ok (.iconst 1, 1) := by decide +kernel
theorem e_W_law_940 : decode code 940 = .ok (.iadd, 1) := by decide +kernel
theorem e_W_law_941 : decode code 941 = .ok (.iaload, 1) := by decide +kernel
theorem e_W_law_942 : decode code 942 = .ok (.ifCond .eq 7, 3) := by decide +kernel
theorem e_W_law_945 : decode code 945 = .ok (.iconst 1, 1) := by decide +kernel
theorem e_W_law_946 : decode code 946 = .ok (.goto 4, 3) := by decide +kernel
theorem e_W_law_949 : decode code 949 = .ok (.iconst 0, 1) := by decide +kernel
theorem e_W_law_950 : decode code 950 = .ok (.invokevirtual 168, 3) := by decide +kernel
theorem e_W_law_953 : decode code 953 = .ok (.if_icmp .eq 1584, 3) := by decide +kernel
theorem e_W_law_956 : decode code 956 = .ok (.iconst 0, 1) := by decide +kernel
theorem e_W_law_957 : decode code 957 = .ok (.ireturn, 1) := by decide +kernel
theorem e_W_law_958 : decode code 958 = .ok (.aload_n 1, 1) := by decide +kernel
theorem e_W_law_959 : decode code 959 = .ok (.aload_n 3, 1) := by decide +kernel
theorem e_W_law_960 : decode code 960 = .ok (.invokestatic 169, 3) := by decide +kernel
theorem e_W_law_963 : decode code 963 = .ok (.istore 5, 2) := by decide +kernel
theorem e_W_law_965 : decode code 965 = .ok (.aload_n 2, 1) := by decide +kernel
theorem e_W_law_966 : decode code 966 = .ok (.invokevirtual 171, 3) := by decide +kernel
theorem e_W_law_969 : decode code 969 = .ok (.istore 6, 2) := by decide +kernel
theorem e_W_law_971 : decode code 971 = .ok (.aload_n 2, 1) := by decide +kernel
theorem e_W_law_972 : decode code 972 = .ok (.invokevirtual 121, 3) := by decide +kernel
theorem e_W_law_975 : decode code 975 = .ok (.iload 5, 2) := by decide +kernel
theorem e_W_law_977 : decode code 977 = .ok (.if_icmp .eq 5, 3) := by decide +kernel
theorem e_W_law_980 : decode code 980 = .ok (.iconst 0, 1) := by decide +kernel
theorem e_W_law_981 : decode code 981 = .ok (.ireturn, 1) := by decide +kernel
theorem e_W_law_982 : decode code 982 = .ok (.iload 5, 2) := by decide +kernel
theorem e_W_law_984 : decode code 984 = .ok (.ifCond .ne 15, 3) := by decide +kernel
theorem e_W_law_987 : decode code 987 = .ok (.aload_n 3, 1) := by decide +kernel
theorem e_W_law_988 : decode code 988 = .ok (.iconst 0, 1) := by decide +kernel
theorem e_W_law_989 : decode code 989 = .ok (.laload, 1) := by decide +kernel
theorem e_W_law_990 : decode code 990 = .ok (.iload 6, 2) := by decide +kernel
theorem e_W_law_992 : decode code 992 = .ok (.i2l, 1) := by decide +kernel
theorem e_W_law_993 : decode code 993 = .ok (.lcmp, 1) := by decide +kernel
theorem e_W_law_994 : decode code 994 = .ok (.ifCond .eq 5, 3) := by decide +kernel
theorem e_W_law_997 : decode code 997 = .ok (.iconst 0, 1) := by decide +kernel
theorem e_W_law_998 : decode code 998 = .ok (.ireturn, 1) := by decide +kernel
theorem e_W_law_999 : decode code 999 = .ok (.goto 1538, 3) := by decide +kernel
theorem e_W_law_1002 : decode code 1002 = .ok (.aload_n 1, 1) := by decide +kernel
theorem e_W_law_1003 : decode code 1003 = .ok (.aload_n 0, 1) := by decide +kernel
theorem e_W_law_1004 : decode code 1004 = .ok (.iload 4, 2) := by decide +kernel
theorem e_W_law_1006 : decode code 1006 = .ok (.iconst 1, 1) := by decide +kernel
theorem e_W_law_1007 : decode code 1007 = .ok (.iadd, 1) := by decide +kernel
theorem e_W_law_1008 : decode code 1008 = .ok (.iaload, 1) := by decide +kernel
theorem e_W_law_1009 : decode code 1009 = .ok (.aload_n 3, 1) := by decide +kernel
theorem e_W_law_1010 : decode code 1010 = .ok (.invokestatic 172, 3) := by decide +kernel
theorem e_W_law_1013 : decode code 1013 = .ok (.istore 5, 2) := by decide +kernel
theorem e_W_law_1015 : decode code 1015 = .ok (.aload_n 2, 1) := by decide +kernel
theorem e_W_law_1016 : decode code 1016 = .ok (.aload_n 0, 1) := by decide +kernel
theorem e_W_law_1017 : decode code 1017 = .ok (.iload 4, 2) := by decide +kernel
theorem e_W_law_1019 : decode code 1019 = .ok (.iconst 1, 1) := by decide +kernel
theorem e_W_law_1020 : decode code 1020 = .ok (.iadd, 1) := by decide +kernel
theorem e_W_law_1021 : decode code 1021 = .ok (.iaload, 1) := by decide +kernel
theorem e_W_law_1022 : decode code 1022 = .ok (.invokevirtual 174, 3) := by decide +kernel
theorem e_W_law_1025 : decode code 1025 = .ok (.istore 6, 2) := by decide +kernel
theorem e_W_law_1027 : decode code 1027 = .ok (.aload_n 2, 1) := by decide +kernel
theorem e_W_law_1028 : decode code 1028 = .ok (.invokevirtual 121, 3) := by decide +kernel
theorem e_W_law_1031 : decode code 1031 = .ok (.iload 5, 2) := by decide +kernel
theorem e_W_law_1033 : decode code 1033 = .ok (.if_icmp .eq 5, 3) := by decide +kernel
theorem e_W_law_1036 : decode code 1036 = .ok (.iconst 0, 1) := by decide +kernel
theorem e_W_law_1037 : decode code 1037 = .ok (.ireturn, 1) := by decide +kernel
theorem e_W_law_1038 : decode code 1038 = .ok (.iload 5, 2) := by decide +kernel
theorem e_W_law_1040 : decode code 1040 = .ok (.ifCond .ne 15, 3) := by decide +kernel
theorem e_W_law_1043 : decode code 1043 = .ok (.aload_n 3, 1) := by decide +kernel
theorem e_W_law_1044 : decode code 1044 = .ok (.iconst 0, 1) := by decide +kernel
theorem e_W_law_1045 : decode code 1045 = .ok (.laload, 1) := by decide +kernel
theorem e_W_law_1046 : decode code 1046 = .ok (.iload 6, 2) := by decide +kernel
theorem e_W_law_1048 : decode code 1048 = .ok (.i2l, 1) := by decide +kernel
theorem e_W_law_1049 : decode code 1049 = .ok (.lcmp, 1) := by decide +kernel
theorem e_W_law_1050 : decode code 1050 = .ok (.ifCond .eq 5, 3) := by decide +kernel
theorem e_W_law_1053 : decode code 1053 = .ok (.iconst 0, 1) := by decide +kernel
theorem e_W_law_1054 : decode code 1054 = .ok (.ireturn, 1) := by decide +kernel
theorem e_W_law_1055 : decode code 1055 = .ok (.goto 1482, 3) := by decide +kernel
theorem e_W_law_1058 : decode code 1058 = .ok (.aload_n 1, 1) := by decide +kernel
theorem e_W_law_1059 : decode code 1059 = .ok (.aload_n 0, 1) := by decide +kernel
theorem e_W_law_1060 : decode code 1060 = .ok (.iload 4, 2) := by decide +kernel
theorem e_W_law_1062 : decode code 1062 = .ok (.iconst 1, 1) := by decide +kernel
theorem e_W_law_1063 : decode code 1063 = .ok (.iadd, 1) := by decide +kernel
theorem e_W_law_1064 : decode code 1064 = .ok (.iaload, 1) := by decide +kernel
theorem e_W_law_1065 : decode code 1065 = .ok (.aload_n 3, 1) := by decide +kernel
theorem e_W_law_1066 : decode code 1066 = .ok (.invokestatic 175, 3) := by decide +kernel
theorem e_W_law_1069 : decode code 1069 = .ok (.istore 5, 2) := by decide +kernel
theorem e_W_law_1071 : decode code 1071 = .ok (.aload_n 2, 1) := by decide +kernel
theorem e_W_law_1072 : decode code 1072 = .ok (.aload_n 0, 1) := by decide +kernel
theorem e_W_law_1073 : decode code 1073 = .ok (.iload 4, 2) := by decide +kernel
theorem e_W_law_1075 : decode code 1075 = .ok (.iconst 1, 1) := by decide +kernel
theorem e_W_law_1076 : decode code 1076 = .ok (.iadd, 1) := by decide +kernel
theorem e_W_law_1077 : decode code 1077 = .ok (.iaload, 1) := by decide +kernel
theorem e_W_law_1078 : decode code 1078 = .ok (.invokevirtual 177, 3) := by decide +kernel
theorem e_W_law_1081 : decode code 1081 = .ok (.istore 6, 2) := by decide +kernel
theorem e_W_law_1083 : decode code 1083 = .ok (.aload_n 2, 1) := by decide +kernel
theorem e_W_law_1084 : decode code 1084 = .ok (.invokevirtual 121, 3) := by decide +kernel
theorem e_W_law_1087 : decode code 1087 = .ok (.iload 5, 2) := by decide +kernel
theorem e_W_law_1089 : decode code 1089 = .ok (.if_icmp .eq 5, 3) := by decide +kernel
theorem e_W_law_1092 : decode code 1092 = .ok (.iconst 0, 1) := by decide +kernel
theorem e_W_law_1093 : decode code 1093 = .ok (.ireturn, 1) := by decide +kernel
theorem e_W_law_1094 : decode code 1094 = .ok (.iload 5, 2) := by decide +kernel
theorem e_W_law_1096 : decode code 1096 = .ok (.ifCond .ne 15, 3) := by decide +kernel
theorem e_W_law_1099 : decode code 1099 = .ok (.aload_n 3, 1) := by decide +kernel
theorem e_W_law_1100 : decode code 1100 = .ok (.iconst 0, 1) := by decide +kernel
theorem e_W_law_1101 : decode code 1101 = .ok (.laload, 1) := by decide +kernel
theorem e_W_law_1102 : decode code 1102 = .ok (.iload 6, 2) := by decide +kernel
theorem e_W_law_1104 : decode code 1104 = .ok (.i2l, 1) := by decide +kernel
theorem e_W_law_1105 : decode code 1105 = .ok (.lcmp, 1) := by decide +kernel
theorem e_W_law_1106 : decode code 1106 = .ok (.ifCond .eq 5, 3) := by decide +kernel
theorem e_W_law_1109 : decode code 1109 = .ok (.iconst 0, 1) := by decide +kernel
theorem e_W_law_1110 : decode code 1110 = .ok (.ireturn, 1) := by decide +kernel
theorem e_W_law_1111 : decode code 1111 = .ok (.goto 1426, 3) := by decide +kernel
theorem e_W_law_1114 : decode code 1114 = .ok (.aload_n 1, 1) := by decide +kernel
theorem e_W_law_1115 : decode code 1115 = .ok (.invokevirtual 178, 3) := by decide +kernel
theorem e_W_law_1118 : decode code 1118 = .ok (.aload_n 2, 1) := by decide +kernel
theorem e_W_law_1119 : decode code 1119 = .ok (.invokevirtual 181, 3) := by decide +kernel
theorem e_W_law_1122 : decode code 1122 = .ok (.if_icmp .eq 1415, 3) := by decide +kernel
theorem e_W_law_1125 : decode code 1125 = .ok (.iconst 0, 1) := by decide +kernel
theorem e_W_law_1126 : decode code 1126 = .ok (.ireturn, 1) := by decide +kernel
theorem e_W_law_1127 : decode code 1127 = .ok (.aload_n 1, 1) := by decide +kernel
theorem e_W_law_1128 : decode code 1128 = .ok (.invokevirtual 182, 3) := by decide +kernel
theorem e_W_law_1131 : decode code 1131 = .ok (.aload_n 2, 1) := by decide +kernel
theorem e_W_law_1132 : decode code 1132 = .ok (.invokevirtual 185, 3) := by decide +kernel
theorem e_W_law_1135 : decode code 1135 = .ok (.if_icmp .eq 1402, 3) := by decide +kernel
theorem e_W_law_1138 : decode code 1138 = .ok (.iconst 0, 1) := by decide +kernel
theorem e_W_law_1139 : decode code 1139 = .ok (.ireturn, 1) := by decide +kernel
theorem e_W_law_1140 : decode code 1140 = .ok (.aload_n 1, 1) := by decide +kernel
theorem e_W_law_1141 : decode code 1141 = .ok (.invokevirtual 186, 3) := by decide +kernel
theorem e_W_law_1144 : decode code 1144 = .ok (.aload_n 2, 1) := by decide +kernel
theorem e_W_law_1145 : decode code 1145 = .ok (.invokevirtual 189, 3) := by decide +kernel
theorem e_W_law_1148 : decode code 1148 = .ok (.if_icmp .eq 1389, 3) := by decide +kernel
theorem e_W_law_1151 : decode code 1151 = .ok (.iconst 0, 1) := by decide +kernel
theorem e_W_law_1152 : decode code 1152 = .ok (.ireturn, 1) := by decide +kernel
theorem e_W_law_1153 : decode code 1153 = .ok (.aload_n 1, 1) := by decide +kernel
theorem e_W_law_1154 : decode code 1154 = .ok (.invokevirtual 190, 3) := by decide +kernel
theorem e_W_law_1157 : decode code 1157 = .ok (.aload_n 2, 1) := by decide +kernel
theorem e_W_law_1158 : decode code 1158 = .ok (.invokevirtual 193, 3) := by decide +kernel
theorem e_W_law_1161 : decode code 1161 = .ok (.if_icmp .eq 1376, 3) := by decide +kernel
theorem e_W_law_1164 : decode code 1164 = .ok (.iconst 0, 1) := by decide +kernel
theorem e_W_law_1165 : decode code 1165 = .ok (.ireturn, 1) := by decide +kernel
theorem e_W_law_1166 : decode code 1166 = .ok (.aload_n 1, 1) := by decide +kernel
theorem e_W_law_1167 : decode code 1167 = .ok (.invokevirtual 194, 3) := by decide +kernel
theorem e_W_law_1170 : decode code 1170 = .ok (.aload_n 2, 1) := by decide +kernel
theorem e_W_law_1171 : decode code 1171 = .ok (.invokevirtual 197, 3) := by decide +kernel
theorem e_W_law_1174 : decode code 1174 = .ok (.if_icmp .eq 1363, 3) := by decide +kernel
theorem e_W_law_1177 : decode code 1177 = .ok (.iconst 0, 1) := by decide +kernel
theorem e_W_law_1178 : decode code 1178 = .ok (.ireturn, 1) := by decide +kernel
theorem e_W_law_1179 : decode code 1179 = .ok (.aload_n 1, 1) := by decide +kernel
theorem e_W_law_1180 : decode code 1180 = .ok (.invokevirtual 198, 3) := by decide +kernel
theorem e_W_law_1183 : decode code 1183 = .ok (.aload_n 2, 1) := by decide +kernel
theorem e_W_law_1184 : decode code 1184 = .ok (.invokevirtual 202, 3) := by decide +kernel
theorem e_W_law_1187 : decode code 1187 = .ok (.if_icmp .eq 1350, 3) := by decide +kernel
theorem e_W_law_1190 : decode code 1190 = .ok (.iconst 0, 1) := by decide +kernel
theorem e_W_law_1191 : decode code 1191 = .ok (.ireturn, 1) := by decide +kernel
theorem e_W_law_1192 : decode code 1192 = .ok (.aload_n 1, 1) := by decide +kernel
theorem e_W_law_1193 : decode code 1193 = .ok (.aload_n 0, 1) := by decide +kernel
theorem e_W_law_1194 : decode code 1194 = .ok (.iload 4, 2) := by decide +kernel
theorem e_W_law_1196 : decode code 1196 = .ok (.iconst 1, 1) := by decide +kernel
theorem e_W_law_1197 : decode code 1197 = .ok (.iadd, 1) := by decide +kernel
theorem e_W_law_1198 : decode code 1198 = .ok (.iaload, 1) := by decide +kernel
theorem e_W_law_1199 : decode code 1199 = .ok (.aload_n 3, 1) := by decide +kernel
theorem e_W_law_1200 : decode code 1200 = .ok (.invokestatic 203, 3) := by decide +kernel
theorem e_W_law_1203 : decode code 1203 = .ok (.istore 5, 2) := by decide +kernel
theorem e_W_law_1205 : decode code 1205 = .ok (.aload_n 2, 1) := by decide +kernel
theorem e_W_law_1206 : decode code 1206 = .ok (.aload_n 0, 1) := by decide +kernel
theorem e_W_law_1207 : decode code 1207 = .ok (.iload 4, 2) := by decide +kernel
theorem e_W_law_1209 : decode code 1209 = .ok (.iconst 1, 1) := by decide +kernel
theorem e_W_law_1210 : decode code 1210 = .ok (.iadd, 1) := by decide +kernel
theorem e_W_law_1211 : decode code 1211 = .ok (.iaload, 1) := by decide +kernel
theorem e_W_law_1212 : decode code 1212 = .ok (.invokevirtual 205, 3) := by decide +kernel
theorem e_W_law_1215 : decode code 1215 = .ok (.istore 6, 2) := by decide +kernel
theorem e_W_law_1217 : decode code 1217 = .ok (.aload_n 2, 1) := by decide +kernel
theorem e_W_law_1218 : decode code 1218 = .ok (.invokevirtual 121, 3) := by decide +kernel
theorem e_W_law_1221 : decode code 1221 = .ok (.iload 5, 2) := by decide +kernel
theorem e_W_law_1223 : decode code 1223 = .ok (.if_icmp .eq 5, 3) := by decide +kernel
theorem e_W_law_1226 : decode code 1226 = .ok (.iconst 0, 1) := by decide +kernel
theorem e_W_law_1227 : decode code 1227 = .ok (.ireturn, 1) := by decide +kernel
theorem e_W_law_1228 : decode code 1228 = .ok (.iload 5, 2) := by decide +kernel
theorem e_W_law_1230 : decode code 1230 = .ok (.ifCond .ne 15, 3) := by decide +kernel
theorem e_W_law_1233 : decode code 1233 = .ok (.aload_n 3, 1) := by decide +kernel
theorem e_W_law_1234 : decode code 1234 = .ok (.iconst 0, 1) := by decide +kernel
theorem e_W_law_1235 : decode code 1235 = .ok (.laload, 1) := by decide +kernel
theorem e_W_law_1236 : decode code 1236 = .ok (.iload 6, 2) := by decide +kernel
theorem e_W_law_1238 : decode code 1238 = .ok (.i2l, 1) := by decide +kernel
theorem e_W_law_1239 : decode code 1239 = .ok (.lcmp, 1) := by decide +kernel
theorem e_W_law_1240 : decode code 1240 = .ok (.ifCond .eq 5, 3) := by decide +kernel
theorem e_W_law_1243 : decode code 1243 = .ok (.iconst 0, 1) := by decide +kernel
theorem e_W_law_1244 : decode code 1244 = .ok (.ireturn, 1) := by decide +kernel
theorem e_W_law_1245 : decode code 1245 = .ok (.goto 1292, 3) := by decide +kernel
theorem e_W_law_1248 : decode code 1248 = .ok (.aload_n 1, 1) := by decide +kernel
theorem e_W_law_1249 : decode code 1249 = .ok (.aload_n 0, 1) := by decide +kernel
theorem e_W_law_1250 : decode code 1250 = .ok (.iload 4, 2) := by decide +kernel
theorem e_W_law_1252 : decode code 1252 = .ok (.iconst 1, 1) := by decide +kernel
theorem e_W_law_1253 : decode code 1253 = .ok (.iadd, 1) := by decide +kernel
theorem e_W_law_1254 : decode code 1254 = .ok (.iaload, 1) := by decide +kernel
theorem e_W_law_1255 : decode code 1255 = .ok (.aload_n 3, 1) := by decide +kernel
theorem e_W_law_1256 : decode code 1256 = .ok (.invokestatic 206, 3) := by decide +kernel
theorem e_W_law_1259 : decode code 1259 = .ok (.istore 5, 2) := by decide +kernel
theorem e_W_law_1261 : decode code 1261 = .ok (.aload_n 2, 1) := by decide +kernel
theorem e_W_law_1262 : decode code 1262 = .ok (.aload_n 0, 1) := by decide +kernel
theorem e_W_law_1263 : decode code 1263 = .ok (.iload 4, 2) := by decide +kernel
theorem e_W_law_1265 : decode code 1265 = .ok (.iconst 1, 1) := by decide +kernel
theorem e_W_law_1266 : decode code 1266 = .ok (.iadd, 1) := by decide +kernel
theorem e_W_law_1267 : decode code 1267 = .ok (.iaload, 1) := by decide +kernel
theorem e_W_law_1268 : decode code 1268 = .ok (.invokevirtual 208, 3) := by decide +kernel
theorem e_W_law_1271 : decode code 1271 = .ok (.istore 6, 2) := by decide +kernel
theorem e_W_law_1273 : decode code 1273 = .ok (.aload_n 2, 1) := by decide +kernel
theorem e_W_law_1274 : decode code 1274 = .ok (.invokevirtual 121, 3) := by decide +kernel
theorem e_W_law_1277 : decode code 1277 = .ok (.iload 5, 2) := by decide +kernel
theorem e_W_law_1279 : decode code 1279 = .ok (.if_icmp .eq 5, 3) := by decide +kernel
theorem e_W_law_1282 : decode code 1282 = .ok (.iconst 0, 1) := by decide +kernel
theorem e_W_law_1283 : decode code 1283 = .ok (.ireturn, 1) := by decide +kernel
theorem e_W_law_1284 : decode code 1284 = .ok (.iload 5, 2) := by decide +kernel
theorem e_W_law_1286 : decode code 1286 = .ok (.ifCond .ne 15, 3) := by decide +kernel
theorem e_W_law_1289 : decode code 1289 = .ok (.aload_n 3, 1) := by decide +kernel
theorem e_W_law_1290 : decode code 1290 = .ok (.iconst 0, 1) := by decide +kernel
theorem e_W_law_1291 : decode code 1291 = .ok (.laload, 1) := by decide +kernel
theorem e_W_law_1292 : decode code 1292 = .ok (.iload 6, 2) := by decide +kernel
theorem e_W_law_1294 : decode code 1294 = .ok (.i2l, 1) := by decide +kernel
theorem e_W_law_1295 : decode code 1295 = .ok (.lcmp, 1) := by decide +kernel
theorem e_W_law_1296 : decode code 1296 = .ok (.ifCond .eq 5, 3) := by decide +kernel
theorem e_W_law_1299 : decode code 1299 = .ok (.iconst 0, 1) := by decide +kernel
theorem e_W_law_1300 : decode code 1300 = .ok (.ireturn, 1) := by decide +kernel
theorem e_W_law_1301 : decode code 1301 = .ok (.goto 1236, 3) := by decide +kernel
theorem e_W_law_1304 : decode code 1304 = .ok (.aload_n 1, 1) := by decide +kernel
theorem e_W_law_1305 : decode code 1305 = .ok (.aload_n 0, 1) := by decide +kernel
theorem e_W_law_1306 : decode code 1306 = .ok (.iload 4, 2) := by decide +kernel
theorem e_W_law_1308 : decode code 1308 = .ok (.iconst 1, 1) := by decide +kernel
theorem e_W_law_1309 : decode code 1309 = .ok (.iadd, 1) := by decide +kernel
theorem e_W_law_1310 : decode code 1310 = .ok (.iaload, 1) := by decide +kernel
theorem e_W_law_1311 : decode code 1311 = .ok (.aload_n 3, 1) := by decide +kernel
theorem e_W_law_1312 : decode code 1312 = .ok (.invokestatic 209, 3) := by decide +kernel
theorem e_W_law_1315 : decode code 1315 = .ok (.istore 5, 2) := by decide +kernel
theorem e_W_law_1317 : decode code 1317 = .ok (.aload_n 2, 1) := by decide +kernel
theorem e_W_law_1318 : decode code 1318 = .ok (.aload_n 0, 1) := by decide +kernel
theorem e_W_law_1319 : decode code 1319 = .ok (.iload 4, 2) := by decide +kernel
theorem e_W_law_1321 : decode code 1321 = .ok (.iconst 1, 1) := by decide +kernel
theorem e_W_law_1322 : decode code 1322 = .ok (.iadd, 1) := by decide +kernel
theorem e_W_law_1323 : decode code 1323 = .ok (.iaload, 1) := by decide +kernel
theorem e_W_law_1324 : decode code 1324 = .ok (.invokevirtual 211, 3) := by decide +kernel
theorem e_W_law_1327 : decode code 1327 = .ok (.istore 6, 2) := by decide +kernel
theorem e_W_law_1329 : decode code 1329 = .ok (.aload_n 2, 1) := by decide +kernel
theorem e_W_law_1330 : decode code 1330 = .ok (.invokevirtual 121, 3) := by decide +kernel
theorem e_W_law_1333 : decode code 1333 = .ok (.iload 5, 2) := by decide +kernel
theorem e_W_law_1335 : decode code 1335 = .ok (.if_icmp .eq 5, 3) := by decide +kernel
theorem e_W_law_1338 : decode code 1338 = .ok (.iconst 0, 1) := by decide +kernel
theorem e_W_law_1339 : decode code 1339 = .ok (.ireturn, 1) := by decide +kernel
theorem e_W_law_1340 : decode code 1340 = .ok (.iload 5, 2) := by decide +kernel
theorem e_W_law_1342 : decode code 1342 = .ok (.ifCond .ne 15, 3) := by decide +kernel
theorem e_W_law_1345 : decode code 1345 = .ok (.aload_n 3, 1) := by decide +kernel
theorem e_W_law_1346 : decode code 1346 = .ok (.iconst 0, 1) := by decide +kernel
theorem e_W_law_1347 : decode code 1347 = .ok (.laload, 1) := by decide +kernel
theorem e_W_law_1348 : decode code 1348 = .ok (.iload 6, 2) := by decide +kernel
theorem e_W_law_1350 : decode code 1350 = .ok (.i2l, 1) := by decide +kernel
theorem e_W_law_1351 : decode code 1351 = .ok (.lcmp, 1) := by decide +kernel
theorem e_W_law_1352 : decode code 1352 = .ok (.ifCond .eq 5, 3) := by decide +kernel
theorem e_W_law_1355 : decode code 1355 = .ok (.iconst 0, 1) := by decide +kernel
theorem e_W_law_1356 : decode code 1356 = .ok (.ireturn, 1) := by decide +kernel
theorem e_W_law_1357 : decode code 1357 = .ok (.goto 1180, 3) := by decide +kernel
theorem e_W_law_1360 : decode code 1360 = .ok (.aload_n 1, 1) := by decide +kernel
theorem e_W_law_1361 : decode code 1361 = .ok (.aload_n 0, 1) := by decide +kernel
theorem e_W_law_1362 : decode code 1362 = .ok (.iload 4, 2) := by decide +kernel
theorem e_W_law_1364 : decode code 1364 = .ok (.iconst 1, 1) := by decide +kernel
theorem e_W_law_1365 : decode code 1365 = .ok (.iadd, 1) := by decide +kernel
theorem e_W_law_1366 : decode code 1366 = .ok (.iaload, 1) := by decide +kernel
theorem e_W_law_1367 : decode code 1367 = .ok (.aload_n 3, 1) := by decide +kernel
theorem e_W_law_1368 : decode code 1368 = .ok (.invokestatic 212, 3) := by decide +kernel
theorem e_W_law_1371 : decode code 1371 = .ok (.istore 5, 2) := by decide +kernel
theorem e_W_law_1373 : decode code 1373 = .ok (.aload_n 2, 1) := by decide +kernel
theorem e_W_law_1374 : decode code 1374 = .ok (.aload_n 0, 1) := by decide +kernel
theorem e_W_law_1375 : decode code 1375 = .ok (.iload 4, 2) := by decide +kernel
theorem e_W_law_1377 : decode code 1377 = .ok (.iconst 1, 1) := by decide +kernel
theorem e_W_law_1378 : decode code 1378 = .ok (.iadd, 1) := by decide +kernel
theorem e_W_law_1379 : decode code 1379 = .ok (.iaload, 1) := by decide +kernel
theorem e_W_law_1380 : decode code 1380 = .ok (.invokevirtual 214, 3) := by decide +kernel
theorem e_W_law_1383 : decode code 1383 = .ok (.istore 6, 2) := by decide +kernel
theorem e_W_law_1385 : decode code 1385 = .ok (.aload_n 2, 1) := by decide +kernel
theorem e_W_law_1386 : decode code 1386 = .ok (.invokevirtual 121, 3) := by decide +kernel
theorem e_W_law_1389 : decode code 1389 = .ok (.iload 5, 2) := by decide +kernel
theorem e_W_law_1391 : decode code 1391 = .ok (.if_icmp .eq 5, 3) := by decide +kernel
theorem e_W_law_1394 : decode code 1394 = .ok (.iconst 0, 1) := by decide +kernel
theorem e_W_law_1395 : decode code 1395 = .ok (.ireturn, 1) := by decide +kernel
theorem e_W_law_1396 : decode code 1396 = .ok (.iload 5, 2) := by decide +kernel
theorem e_W_law_1398 : decode code 1398 = .ok (.ifCond .ne 15, 3) := by decide +kernel
theorem e_W_law_1401 : decode code 1401 = .ok (.aload_n 3, 1) := by decide +kernel
theorem e_W_law_1402 : decode code 1402 = .ok (.iconst 0, 1) := by decide +kernel
theorem e_W_law_1403 : decode code 1403 = .ok (.laload, 1) := by decide +kernel
theorem e_W_law_1404 : decode code 1404 = .ok (.iload 6, 2) := by decide +kernel
theorem e_W_law_1406 : decode code 1406 = .ok (.i2l, 1) := by decide +kernel
theorem e_W_law_1407 : decode code 1407 = .ok (.lcmp, 1) := by decide +kernel
theorem e_W_law_1408 : decode code 1408 = .ok (.ifCond .eq 5, 3) := by decide +kernel
theorem e_W_law_1411 : decode code 1411 = .ok (.iconst 0, 1) := by decide +kernel
theorem e_W_law_1412 : decode code 1412 = .ok (.ireturn, 1) := by decide +kernel
theorem e_W_law_1413 : decode code 1413 = .ok (.goto 1124, 3) := by decide +kernel
theorem e_W_law_1416 : decode code 1416 = .ok (.aload_n 1, 1) := by decide +kernel
theorem e_W_law_1417 : decode code 1417 = .ok (.aload_n 0, 1) := by decide +kernel
theorem e_W_law_1418 : decode code 1418 = .ok (.iload 4, 2) := by decide +kernel
theorem e_W_law_1420 : decode code 1420 = .ok (.iconst 1, 1) := by decide +kernel
theorem e_W_law_1421 : decode code 1421 = .ok (.iadd, 1) := by decide +kernel
theorem e_W_law_1422 : decode code 1422 = .ok (.iaload, 1) := by decide +kernel
theorem e_W_law_1423 : decode code 1423 = .ok (.aload_n 3, 1) := by decide +kernel
theorem e_W_law_1424 : decode code 1424 = .ok (.invokestatic 215, 3) := by decide +kernel
theorem e_W_law_1427 : decode code 1427 = .ok (.istore 5, 2) := by decide +kernel
theorem e_W_law_1429 : decode code 1429 = .ok (.aload_n 2, 1) := by decide +kernel
theorem e_W_law_1430 : decode code 1430 = .ok (.aload_n 0, 1) := by decide +kernel
theorem e_W_law_1431 : decode code 1431 = .ok (.iload 4, 2) := by decide +kernel
theorem e_W_law_1433 : decode code 1433 = .ok (.iconst 1, 1) := by decide +kernel
theorem e_W_law_1434 : decode code 1434 = .ok (.iadd, 1) := by decide +kernel
theorem e_W_law_1435 : decode code 1435 = .ok (.iaload, 1) := by decide +kernel
theorem e_W_law_1436 : decode code 1436 = .ok (.invokevirtual 217, 3) := by decide +kernel
theorem e_W_law_1439 : decode code 1439 = .ok (.istore 6, 2) := by decide +kernel
theorem e_W_law_1441 : decode code 1441 = .ok (.aload_n 2, 1) := by decide +kernel
theorem e_W_law_1442 : decode code 1442 = .ok (.invokevirtual 121, 3) := by decide +kernel
theorem e_W_law_1445 : decode code 1445 = .ok (.iload 5, 2) := by decide +kernel
theorem e_W_law_1447 : decode code 1447 = .ok (.if_icmp .eq 5, 3) := by decide +kernel
theorem e_W_law_1450 : decode code 1450 = .ok (.iconst 0, 1) := by decide +kernel
theorem e_W_law_1451 : decode code 1451 = .ok (.ireturn, 1) := by decide +kernel
theorem e_W_law_1452 : decode code 1452 = .ok (.iload 5, 2) := by decide +kernel
theorem e_W_law_1454 : decode code 1454 = .ok (.ifCond .ne 15, 3) := by decide +kernel
theorem e_W_law_1457 : decode code 1457 = .ok (.aload_n 3, 1) := by decide +kernel
theorem e_W_law_1458 : decode code 1458 = .ok (.iconst 0, 1) := by decide +kernel
theorem e_W_law_1459 : decode code 1459 = .ok (.laload, 1) := by decide +kernel
theorem e_W_law_1460 : decode code 1460 = .ok (.iload 6, 2) := by decide +kernel
theorem e_W_law_1462 : decode code 1462 = .ok (.i2l, 1) := by decide +kernel
theorem e_W_law_1463 : decode code 1463 = .ok (.lcmp, 1) := by decide +kernel
theorem e_W_law_1464 : decode code 1464 = .ok (.ifCond .eq 5, 3) := by decide +kernel
theorem e_W_law_1467 : decode code 1467 = .ok (.iconst 0, 1) := by decide +kernel
theorem e_W_law_1468 : decode code 1468 = .ok (.ireturn, 1) := by decide +kernel
theorem e_W_law_1469 : decode code 1469 = .ok (.goto 1068, 3) := by decide +kernel
theorem e_W_law_1472 : decode code 1472 = .ok (.aload_n 1, 1) := by decide +kernel
theorem e_W_law_1473 : decode code 1473 = .ok (.aload_n 0, 1) := by decide +kernel
theorem e_W_law_1474 : decode code 1474 = .ok (.iload 4, 2) := by decide +kernel
theorem e_W_law_1476 : decode code 1476 = .ok (.iconst 1, 1) := by decide +kernel
theorem e_W_law_1477 : decode code 1477 = .ok (.iadd, 1) := by decide +kernel
theorem e_W_law_1478 : decode code 1478 = .ok (.iaload, 1) := by decide +kernel
theorem e_W_law_1479 : decode code 1479 = .ok (.aload_n 3, 1) := by decide +kernel
theorem e_W_law_1480 : decode code 1480 = .ok (.invokestatic 218, 3) := by decide +kernel
theorem e_W_law_1483 : decode code 1483 = .ok (.istore 5, 2) := by decide +kernel
theorem e_W_law_1485 : decode code 1485 = .ok (.aload_n 2, 1) := by decide +kernel
theorem e_W_law_1486 : decode code 1486 = .ok (.aload_n 0, 1) := by decide +kernel
theorem e_W_law_1487 : decode code 1487 = .ok (.iload 4, 2) := by decide +kernel
theorem e_W_law_1489 : decode code 1489 = .ok (.iconst 1, 1) := by decide +kernel
theorem e_W_law_1490 : decode code 1490 = .ok (.iadd, 1) := by decide +kernel
theorem e_W_law_1491 : decode code 1491 = .ok (.iaload, 1) := by decide +kernel
theorem e_W_law_1492 : decode code 1492 = .ok (.invokevirtual 220, 3) := by decide +kernel
theorem e_W_law_1495 : decode code 1495 = .ok (.istore 6, 2) := by decide +kernel
theorem e_W_law_1497 : decode code 1497 = .ok (.aload_n 2, 1) := by decide +kernel
theorem e_W_law_1498 : decode code 1498 = .ok (.invokevirtual 121, 3) := by decide +kernel
theorem e_W_law_1501 : decode code 1501 = .ok (.iload 5, 2) := by decide +kernel
theorem e_W_law_1503 : decode code 1503 = .ok (.if_icmp .eq 5, 3) := by decide +kernel
theorem e_W_law_1506 : decode code 1506 = .ok (.iconst 0, 1) := by decide +kernel
theorem e_W_law_1507 : decode code 1507 = .ok (.ireturn, 1) := by decide +kernel
theorem e_W_law_1508 : decode code 1508 = .ok (.iload 5, 2) := by decide +kernel
theorem e_W_law_1510 : decode code 1510 = .ok (.ifCond .ne 15, 3) := by decide +kernel
theorem e_W_law_1513 : decode code 1513 = .ok (.aload_n 3, 1) := by decide +kernel
theorem e_W_law_1514 : decode code 1514 = .ok (.iconst 0, 1) := by decide +kernel
theorem e_W_law_1515 : decode code 1515 = .ok (.laload, 1) := by decide +kernel
theorem e_W_law_1516 : decode code 1516 = .ok (.iload 6, 2) := by decide +kernel
theorem e_W_law_1518 : decode code 1518 = .ok (.i2l, 1) := by decide +kernel
theorem e_W_law_1519 : decode code 1519 = .ok (.lcmp, 1) := by decide +kernel
theorem e_W_law_1520 : decode code 1520 = .ok (.ifCond .eq 5, 3) := by decide +kernel
theorem e_W_law_1523 : decode code 1523 = .ok (.iconst 0, 1) := by decide +kernel
theorem e_W_law_1524 : decode code 1524 = .ok (.ireturn, 1) := by decide +kernel
theorem e_W_law_1525 : decode code 1525 = .ok (.goto 1012, 3) := by decide +kernel
theorem e_W_law_1528 : decode code 1528 = .ok (.aload_n 1, 1) := by decide +kernel
theorem e_W_law_1529 : decode code 1529 = .ok (.aload_n 0, 1) := by decide +kernel
theorem e_W_law_1530 : decode code 1530 = .ok (.iload 4, 2) := by decide +kernel
theorem e_W_law_1532 : decode code 1532 = .ok (.iconst 1, 1) := by decide +kernel
theorem e_W_law_1533 : decode code 1533 = .ok (.iadd, 1) := by decide +kernel
theorem e_W_law_1534 : decode code 1534 = .ok (.iaload, 1) := by decide +kernel
theorem e_W_law_1535 : decode code 1535 = .ok (.aload_n 3, 1) := by decide +kernel
theorem e_W_law_1536 : decode code 1536 = .ok (.invokestatic 221, 3) := by decide +kernel
theorem e_W_law_1539 : decode code 1539 = .ok (.istore 5, 2) := by decide +kernel
theorem e_W_law_1541 : decode code 1541 = .ok (.aload_n 2, 1) := by decide +kernel
theorem e_W_law_1542 : decode code 1542 = .ok (.aload_n 0, 1) := by decide +kernel
theorem e_W_law_1543 : decode code 1543 = .ok (.iload 4, 2) := by decide +kernel
theorem e_W_law_1545 : decode code 1545 = .ok (.iconst 1, 1) := by decide +kernel
theorem e_W_law_1546 : decode code 1546 = .ok (.iadd, 1) := by decide +kernel
theorem e_W_law_1547 : decode code 1547 = .ok (.iaload, 1) := by decide +kernel
theorem e_W_law_1548 : decode code 1548 = .ok (.invokevirtual 223, 3) := by decide +kernel
theorem e_W_law_1551 : decode code 1551 = .ok (.istore 6, 2) := by decide +kernel
theorem e_W_law_1553 : decode code 1553 = .ok (.aload_n 2, 1) := by decide +kernel
theorem e_W_law_1554 : decode code 1554 = .ok (.invokevirtual 121, 3) := by decide +kernel
theorem e_W_law_1557 : decode code 1557 = .ok (.iload 5, 2) := by decide +kernel
theorem e_W_law_1559 : decode code 1559 = .ok (.if_icmp .eq 5, 3) := by decide +kernel
theorem e_W_law_1562 : decode code 1562 = .ok (.iconst 0, 1) := by decide +kernel
theorem e_W_law_1563 : decode code 1563 = .ok (.ireturn, 1) := by decide +kernel
theorem e_W_law_1564 : decode code 1564 = .ok (.iload 5, 2) := by decide +kernel
theorem e_W_law_1566 : decode code 1566 = .ok (.ifCond .ne 15, 3) := by decide +kernel
theorem e_W_law_1569 : decode code 1569 = .ok (.aload_n 3, 1) := by decide +kernel
theorem e_W_law_1570 : decode code 1570 = .ok (.iconst 0, 1) := by decide +kernel
theorem e_W_law_1571 : decode code 1571 = .ok (.laload, 1) := by decide +kernel
theorem e_W_law_1572 : decode code 1572 = .ok (.iload 6, 2) := by decide +kernel
theorem e_W_law_1574 : decode code 1574 = .ok (.i2l, 1) := by decide +kernel
theorem e_W_law_1575 : decode code 1575 = .ok (.lcmp, 1) := by decide +kernel
theorem e_W_law_1576 : decode code 1576 = .ok (.ifCond .eq 5, 3) := by decide +kernel
theorem e_W_law_1579 : decode code 1579 = .ok (.iconst 0, 1) := by decide +kernel
theorem e_W_law_1580 : decode code 1580 = .ok (.ireturn, 1) := by decide +kernel
theorem e_W_law_1581 : decode code 1581 = .ok (.goto 956, 3) := by decide +kernel
theorem e_W_law_1584 : decode code 1584 = .ok (.aload_n 1, 1) := by decide +kernel
theorem e_W_law_1585 : decode code 1585 = .ok (.aload_n 0, 1) := by decide +kernel
theorem e_W_law_1586 : decode code 1586 = .ok (.iload 4, 2) := by decide +kernel
theorem e_W_law_1588 : decode code 1588 = .ok (.iconst 1, 1) := by decide +kernel
theorem e_W_law_1589 : decode code 1589 = .ok (.iadd, 1) := by decide +kernel
theorem e_W_law_1590 : decode code 1590 = .ok (.iaload, 1) := by decide +kernel
theorem e_W_law_1591 : decode code 1591 = .ok (.aload_n 3, 1) := by decide +kernel
theorem e_W_law_1592 : decode code 1592 = .ok (.invokestatic 224, 3) := by decide +kernel
theorem e_W_law_1595 : decode code 1595 = .ok (.istore 5, 2) := by decide +kernel
theorem e_W_law_1597 : decode code 1597 = .ok (.aload_n 2, 1) := by decide +kernel
theorem e_W_law_1598 : decode code 1598 = .ok (.aload_n 0, 1) := by decide +kernel
theorem e_W_law_1599 : decode code 1599 = .ok (.iload 4, 2) := by decide +kernel
theorem e_W_law_1601 : decode code 1601 = .ok (.iconst 1, 1) := by decide +kernel
theorem e_W_law_1602 : decode code 1602 = .ok (.iadd, 1) := by decide +kernel
theorem e_W_law_1603 : decode code 1603 = .ok (.iaload, 1) := by decide +kernel
theorem e_W_law_1604 : decode code 1604 = .ok (.invokevirtual 226, 3) := by decide +kernel
theorem e_W_law_1607 : decode code 1607 = .ok (.istore 6, 2) := by decide +kernel
theorem e_W_law_1609 : decode code 1609 = .ok (.aload_n 2, 1) := by decide +kernel
theorem e_W_law_1610 : decode code 1610 = .ok (.invokevirtual 121, 3) := by decide +kernel
theorem e_W_law_1613 : decode code 1613 = .ok (.iload 5, 2) := by decide +kernel
theorem e_W_law_1615 : decode code 1615 = .ok (.if_icmp .eq 5, 3) := by decide +kernel
theorem e_W_law_1618 : decode code 1618 = .ok (.iconst 0, 1) := by decide +kernel
theorem e_W_law_1619 : decode code 1619 = .ok (.ireturn, 1) := by decide +kernel
theorem e_W_law_1620 : decode code 1620 = .ok (.iload 5, 2) := by decide +kernel
theorem e_W_law_1622 : decode code 1622 = .ok (.ifCond .ne 15, 3) := by decide +kernel
theorem e_W_law_1625 : decode code 1625 = .ok (.aload_n 3, 1) := by decide +kernel
theorem e_W_law_1626 : decode code 1626 = .ok (.iconst 0, 1) := by decide +kernel
theorem e_W_law_1627 : decode code 1627 = .ok (.laload, 1) := by decide +kernel
theorem e_W_law_1628 : decode code 1628 = .ok (.iload 6, 2) := by decide +kernel
theorem e_W_law_1630 : decode code 1630 = .ok (.i2l, 1) := by decide +kernel
theorem e_W_law_1631 : decode code 1631 = .ok (.lcmp, 1) := by decide +kernel
theorem e_W_law_1632 : decode code 1632 = .ok (.ifCond .eq 5, 3) := by decide +kernel
theorem e_W_law_1635 : decode code 1635 = .ok (.iconst 0, 1) := by decide +kernel
theorem e_W_law_1636 : decode code 1636 = .ok (.ireturn, 1) := by decide +kernel
theorem e_W_law_1637 : decode code 1637 = .ok (.goto 900, 3) := by decide +kernel
theorem e_W_law_1640 : decode code 1640 = .ok (.aload_n 1, 1) := by decide +kernel
theorem e_W_law_1641 : decode code 1641 = .ok (.aload_n 0, 1) := by decide +kernel
theorem e_W_law_1642 : decode code 1642 = .ok (.iload 4, 2) := by decide +kernel
theorem e_W_law_1644 : decode code 1644 = .ok (.iconst 1, 1) := by decide +kernel
theorem e_W_law_1645 : decode code 1645 = .ok (.iadd, 1) := by decide +kernel
theorem e_W_law_1646 : decode code 1646 = .ok (.iaload, 1) := by decide +kernel
theorem e_W_law_1647 : decode code 1647 = .ok (.aload_n 3, 1) := by decide +kernel
theorem e_W_law_1648 : decode code 1648 = .ok (.invokestatic 227, 3) := by decide +kernel
theorem e_W_law_1651 : decode code 1651 = .ok (.istore 5, 2) := by decide +kernel
theorem e_W_law_1653 : decode code 1653 = .ok (.aload_n 2, 1) := by decide +kernel
theorem e_W_law_1654 : decode code 1654 = .ok (.aload_n 0, 1) := by decide +kernel
theorem e_W_law_1655 : decode code 1655 = .ok (.iload 4, 2) := by decide +kernel
theorem e_W_law_1657 : decode code 1657 = .ok (.iconst 1, 1) := by decide +kernel
theorem e_W_law_1658 : decode code 1658 = .ok (.iadd, 1) := by decide +kernel
theorem e_W_law_1659 : decode code 1659 = .ok (.iaload, 1) := by decide +kernel
theorem e_W_law_1660 : decode code 1660 = .ok (.invokevirtual 229, 3) := by decide +kernel
theorem e_W_law_1663 : decode code 1663 = .ok (.istore 6, 2) := by decide +kernel
theorem e_W_law_1665 : decode code 1665 = .ok (.aload_n 2, 1) := by decide +kernel
theorem e_W_law_1666 : decode code 1666 = .ok (.invokevirtual 121, 3) := by decide +kernel
theorem e_W_law_1669 : decode code 1669 = .ok (.iload 5, 2) := by decide +kernel
theorem e_W_law_1671 : decode code 1671 = .ok (.if_icmp .eq 5, 3) := by decide +kernel
theorem e_W_law_1674 : decode code 1674 = .ok (.iconst 0, 1) := by decide +kernel
theorem e_W_law_1675 : decode code 1675 = .ok (.ireturn, 1) := by decide +kernel
theorem e_W_law_1676 : decode code 1676 = .ok (.iload 5, 2) := by decide +kernel
theorem e_W_law_1678 : decode code 1678 = .ok (.ifCond .ne 15, 3) := by decide +kernel
theorem e_W_law_1681 : decode code 1681 = .ok (.aload_n 3, 1) := by decide +kernel
theorem e_W_law_1682 : decode code 1682 = .ok (.iconst 0, 1) := by decide +kernel
theorem e_W_law_1683 : decode code 1683 = .ok (.laload, 1) := by decide +kernel
theorem e_W_law_1684 : decode code 1684 = .ok (.iload 6, 2) := by decide +kernel
theorem e_W_law_1686 : decode code 1686 = .ok (.i2l, 1) := by decide +kernel
theorem e_W_law_1687 : decode code 1687 = .ok (.lcmp, 1) := by decide +kernel
theorem e_W_law_1688 : decode code 1688 = .ok (.ifCond .eq 5, 3) := by decide +kernel
theorem e_W_law_1691 : decode code 1691 = .ok (.iconst 0, 1) := by decide +kernel
theorem e_W_law_1692 : decode code 1692 = .ok (.ireturn, 1) := by decide +kernel
theorem e_W_law_1693 : decode code 1693 = .ok (.goto 844, 3) := by decide +kernel
theorem e_W_law_1696 : decode code 1696 = .ok (.aload_n 1, 1) := by decide +kernel
theorem e_W_law_1697 : decode code 1697 = .ok (.aload_n 0, 1) := by decide +kernel
theorem e_W_law_1698 : decode code 1698 = .ok (.iload 4, 2) := by decide +kernel
theorem e_W_law_1700 : decode code 1700 = .ok (.iconst 1, 1) := by decide +kernel
theorem e_W_law_1701 : decode code 1701 = .ok (.iadd, 1) := by decide +kernel
theorem e_W_law_1702 : decode code 1702 = .ok (.iaload, 1) := by decide +kernel
theorem e_W_law_1703 : decode code 1703 = .ok (.aload_n 3, 1) := by decide +kernel
theorem e_W_law_1704 : decode code 1704 = .ok (.invokestatic 230, 3) := by decide +kernel
theorem e_W_law_1707 : decode code 1707 = .ok (.istore 5, 2) := by decide +kernel
theorem e_W_law_1709 : decode code 1709 = .ok (.aload_n 2, 1) := by decide +kernel
theorem e_W_law_1710 : decode code 1710 = .ok (.aload_n 0, 1) := by decide +kernel
theorem e_W_law_1711 : decode code 1711 = .ok (.iload 4, 2) := by decide +kernel
theorem e_W_law_1713 : decode code 1713 = .ok (.iconst 1, 1) := by decide +kernel
theorem e_W_law_1714 : decode code 1714 = .ok (.iadd, 1) := by decide +kernel
theorem e_W_law_1715 : decode code 1715 = .ok (.iaload, 1) := by decide +kernel
theorem e_W_law_1716 : decode code 1716 = .ok (.invokevirtual 232, 3) := by decide +kernel
theorem e_W_law_1719 : decode code 1719 = .ok (.istore 6, 2) := by decide +kernel
theorem e_W_law_1721 : decode code 1721 = .ok (.aload_n 2, 1) := by decide +kernel
theorem e_W_law_1722 : decode code 1722 = .ok (.invokevirtual 121, 3) := by decide +kernel
theorem e_W_law_1725 : decode code 1725 = .ok (.iload 5, 2) := by decide +kernel
theorem e_W_law_1727 : decode code 1727 = .ok (.if_icmp .eq 5, 3) := by decide +kernel
theorem e_W_law_1730 : decode code 1730 = .ok (.iconst 0, 1) := by decide +kernel
theorem e_W_law_1731 : decode code 1731 = .ok (.ireturn, 1) := by decide +kernel
theorem e_W_law_1732 : decode code 1732 = .ok (.iload 5, 2) := by decide +kernel
theorem e_W_law_1734 : decode code 1734 = .ok (.ifCond .ne 22, 3) := by decide +kernel
theorem e_W_law_1737 : decode code 1737 = .ok (.aload_n 3, 1) := by decide +kernel
theorem e_W_law_1738 : decode code 1738 = .ok (.iconst 0, 1) := by decide +kernel
theorem e_W_law_1739 : decode code 1739 = .ok (.laload, 1) := by decide +kernel
theorem e_W_law_1740 : decode code 1740 = .ok (.iload 6, 2) := by decide +kernel
theorem e_W_law_1742 : decode code 1742 = .ok (.ifCond .eq 7, 3) := by decide +kernel
theorem e_W_law_1745 : decode code 1745 = .ok (.lconst 1, 1) := by decide +kernel
theorem e_W_law_1746 : decode code 1746 = .ok (.goto 4, 3) := by decide +kernel
theorem e_W_law_1749 : decode code 1749 = .ok (.lconst 0, 1) := by decide +kernel
theorem e_W_law_1750 : decode code 1750 = .ok (.lcmp, 1) := by decide +kernel
theorem e_W_law_1751 : decode code 1751 = .ok (.ifCond .eq 5, 3) := by decide +kernel
theorem e_W_law_1754 : decode code 1754 = .ok (.iconst 0, 1) := by decide +kernel
theorem e_W_law_1755 : decode code 1755 = .ok (.ireturn, 1) := by decide +kernel
theorem e_W_law_1756 : decode code 1756 = .ok (.goto 781, 3) := by decide +kernel
theorem e_W_law_1759 : decode code 1759 = .ok (.aload_n 1, 1) := by decide +kernel
theorem e_W_law_1760 : decode code 1760 = .ok (.aload_n 0, 1) := by decide +kernel
theorem e_W_law_1761 : decode code 1761 = .ok (.iload 4, 2) := by decide +kernel
theorem e_W_law_1763 : decode code 1763 = .ok (.iconst 1, 1) := by decide +kernel
theorem e_W_law_1764 : decode code 1764 = .ok (.iadd, 1) := by decide +kernel
theorem e_W_law_1765 : decode code 1765 = .ok (.iaload, 1) := by decide +kernel
theorem e_W_law_1766 : decode code 1766 = .ok (.aload_n 0, 1) := by decide +kernel
theorem e_W_law_1767 : decode code 1767 = .ok (.iload 4, 2) := by decide +kernel
theorem e_W_law_1769 : decode code 1769 = .ok (.iconst 2, 1) := by decide +kernel
theorem e_W_law_1770 : decode code 1770 = .ok (.iadd, 1) := by decide +kernel
theorem e_W_law_1771 : decode code 1771 = .ok (.iaload, 1) := by decide +kernel
theorem e_W_law_1772 : decode code 1772 = .ok (.aload_n 3, 1) := by decide +kernel
theorem e_W_law_1773 : decode code 1773 = .ok (.invokestatic 233, 3) := by decide +kernel
theorem e_W_law_1776 : decode code 1776 = .ok (.istore 5, 2) := by decide +kernel
theorem e_W_law_1778 : decode code 1778 = .ok (.aload_n 2, 1) := by decide +kernel
theorem e_W_law_1779 : decode code 1779 = .ok (.aload_n 0, 1) := by decide +kernel
theorem e_W_law_1780 : decode code 1780 = .ok (.iload 4, 2) := by decide +kernel
theorem e_W_law_1782 : decode code 1782 = .ok (.iconst 1, 1) := by decide +kernel
theorem e_W_law_1783 : decode code 1783 = .ok (.iadd, 1) := by decide +kernel
theorem e_W_law_1784 : decode code 1784 = .ok (.iaload, 1) := by decide +kernel
theorem e_W_law_1785 : decode code 1785 = .ok (.aload_n 0, 1) := by decide +kernel
theorem e_W_law_1786 : decode code 1786 = .ok (.iload 4, 2) := by decide +kernel
theorem e_W_law_1788 : decode code 1788 = .ok (.iconst 2, 1) := by decide +kernel
theorem e_W_law_1789 : decode code 1789 = .ok (.iadd, 1) := by decide +kernel
theorem e_W_law_1790 : decode code 1790 = .ok (.iaload, 1) := by decide +kernel
theorem e_W_law_1791 : decode code 1791 = .ok (.invokevirtual 235, 3) := by decide +kernel
theorem e_W_law_1794 : decode code 1794 = .ok (.istore 6, 2) := by decide +kernel
theorem e_W_law_1796 : decode code 1796 = .ok (.aload_n 2, 1) := by decide +kernel
theorem e_W_law_1797 : decode code 1797 = .ok (.invokevirtual 121, 3) := by decide +kernel
theorem e_W_law_1800 : decode code 1800 = .ok (.iload 5, 2) := by decide +kernel
theorem e_W_law_1802 : decode code 1802 = .ok (.if_icmp .eq 5, 3) := by decide +kernel
theorem e_W_law_1805 : decode code 1805 = .ok (.iconst 0, 1) := by decide +kernel
theorem e_W_law_1806 : decode code 1806 = .ok (.ireturn, 1) := by decide +kernel
theorem e_W_law_1807 : decode code 1807 = .ok (.iload 5, 2) := by decide +kernel
theorem e_W_law_1809 : decode code 1809 = .ok (.ifCond .ne 15, 3) := by decide +kernel
theorem e_W_law_1812 : decode code 1812 = .ok (.aload_n 3, 1) := by decide +kernel
theorem e_W_law_1813 : decode code 1813 = .ok (.iconst 0, 1) := by decide +kernel
theorem e_W_law_1814 : decode code 1814 = .ok (.laload, 1) := by decide +kernel
theorem e_W_law_1815 : decode code 1815 = .ok (.iload 6, 2) := by decide +kernel
theorem e_W_law_1817 : decode code 1817 = .ok (.i2l, 1) := by decide +kernel
theorem e_W_law_1818 : decode code 1818 = .ok (.lcmp, 1) := by decide +kernel
theorem e_W_law_1819 : decode code 1819 = .ok (.ifCond .eq 5, 3) := by decide +kernel
theorem e_W_law_1822 : decode code 1822 = .ok (.iconst 0, 1) := by decide +kernel
theorem e_W_law_1823 : decode code 1823 = .ok (.ireturn, 1) := by decide +kernel
theorem e_W_law_1824 : decode code 1824 = .ok (.goto 713, 3) := by decide +kernel
theorem e_W_law_1827 : decode code 1827 = .ok (.aload_n 1, 1) := by decide +kernel
theorem e_W_law_1828 : decode code 1828 = .ok (.invokevirtual 236, 3) := by decide +kernel
theorem e_W_law_1831 : decode code 1831 = .ok (.aload_n 2, 1) := by decide +kernel
theorem e_W_law_1832 : decode code 1832 = .ok (.invokevirtual 239, 3) := by decide +kernel
theorem e_W_law_1835 : decode code 1835 = .ok (.if_icmp .eq 702, 3) := by decide +kernel
theorem e_W_law_1838 : decode code 1838 = .ok (.iconst 0, 1) := by decide +kernel
theorem e_W_law_1839 : decode code 1839 = .ok (.ireturn, 1) := by decide +kernel
theorem e_W_law_1840 : decode code 1840 = .ok (.aload_n 1, 1) := by decide +kernel
theorem e_W_law_1841 : decode code 1841 = .ok (.aload_n 0, 1) := by decide +kernel
theorem e_W_law_1842 : decode code 1842 = .ok (.iload 4, 2) := by decide +kernel
theorem e_W_law_1844 : decode code 1844 = .ok (.iconst 1, 1) := by decide +kernel
theorem e_W_law_1845 : decode code 1845 = .ok (.iadd, 1) := by decide +kernel
theorem e_W_law_1846 : decode code 1846 = .ok (.iaload, 1) := by decide +kernel
theorem e_W_law_1847 : decode code 1847 = .ok (.aload_n 3, 1) := by decide +kernel
theorem e_W_law_1848 : decode code 1848 = .ok (.invokestatic 240, 3) := by decide +kernel
theorem e_W_law_1851 : decode code 1851 = .ok (.istore 5, 2) := by decide +kernel
theorem e_W_law_1853 : decode code 1853 = .ok (.aload_n 2, 1) := by decide +kernel
theorem e_W_law_1854 : decode code 1854 = .ok (.aload_n 0, 1) := by decide +kernel
theorem e_W_law_1855 : decode code 1855 = .ok (.iload 4, 2) := by decide +kernel
theorem e_W_law_1857 : decode code 1857 = .ok (.iconst 1, 1) := by decide +kernel
theorem e_W_law_1858 : decode code 1858 = .ok (.iadd, 1) := by decide +kernel
theorem e_W_law_1859 : decode code 1859 = .ok (.iaload, 1) := by decide +kernel
theorem e_W_law_1860 : decode code 1860 = .ok (.invokevirtual 242, 3) := by decide +kernel
theorem e_W_law_1863 : decode code 1863 = .ok (.istore 6, 2) := by decide +kernel
theorem e_W_law_1865 : decode code 1865 = .ok (.aload_n 2, 1) := by decide +kernel
theorem e_W_law_1866 : decode code 1866 = .ok (.invokevirtual 121, 3) := by decide +kernel
theorem e_W_law_1869 : decode code 1869 = .ok (.iload 5, 2) := by decide +kernel
theorem e_W_law_1871 : decode code 1871 = .ok (.if_icmp .eq 5, 3) := by decide +kernel
theorem e_W_law_1874 : decode code 1874 = .ok (.iconst 0, 1) := by decide +kernel
theorem e_W_law_1875 : decode code 1875 = .ok (.ireturn, 1) := by decide +kernel
theorem e_W_law_1876 : decode code 1876 = .ok (.iload 5, 2) := by decide +kernel
theorem e_W_law_1878 : decode code 1878 = .ok (.ifCond .ne 15, 3) := by decide +kernel
theorem e_W_law_1881 : decode code 1881 = .ok (.aload_n 3, 1) := by decide +kernel
theorem e_W_law_1882 : decode code 1882 = .ok (.iconst 0, 1) := by decide +kernel
theorem e_W_law_1883 : decode code 1883 = .ok (.laload, 1) := by decide +kernel
theorem e_W_law_1884 : decode code 1884 = .ok (.iload 6, 2) := by decide +kernel
theorem e_W_law_1886 : decode code 1886 = .ok (.i2l, 1) := by decide +kernel
theorem e_W_law_1887 : decode code 1887 = .ok (.lcmp, 1) := by decide +kernel
theorem e_W_law_1888 : decode code 1888 = .ok (.ifCond .eq 5, 3) := by decide +kernel
theorem e_W_law_1891 : decode code 1891 = .ok (.iconst 0, 1) := by decide +kernel
theorem e_W_law_1892 : decode code 1892 = .ok (.ireturn, 1) := by decide +kernel
theorem e_W_law_1893 : decode code 1893 = .ok (.goto 644, 3) := by decide +kernel
theorem e_W_law_1896 : decode code 1896 = .ok (.aload_n 1, 1) := by decide +kernel
theorem e_W_law_1897 : decode code 1897 = .ok (.aload_n 0, 1) := by decide +kernel
theorem e_W_law_1898 : decode code 1898 = .ok (.iload 4, 2) := by decide +kernel
theorem e_W_law_1900 : decode code 1900 = .ok (.iconst 1, 1) := by decide +kernel
theorem e_W_law_1901 : decode code 1901 = .ok (.iadd, 1) := by decide +kernel
theorem e_W_law_1902 : decode code 1902 = .ok (.iaload, 1) := by decide +kernel
theorem e_W_law_1903 : decode code 1903 = .ok (.aload_n 3, 1) := by decide +kernel
theorem e_W_law_1904 : decode code 1904 = .ok (.invokestatic 243, 3) := by decide +kernel
theorem e_W_law_1907 : decode code 1907 = .ok (.istore 5, 2) := by decide +kernel
theorem e_W_law_1909 : decode code 1909 = .ok (.aload_n 2, 1) := by decide +kernel
theorem e_W_law_1910 : decode code 1910 = .ok (.aload_n 0, 1) := by decide +kernel
theorem e_W_law_1911 : decode code 1911 = .ok (.iload 4, 2) := by decide +kernel
theorem e_W_law_1913 : decode code 1913 = .ok (.iconst 1, 1) := by decide +kernel
theorem e_W_law_1914 : decode code 1914 = .ok (.iadd, 1) := by decide +kernel
theorem e_W_law_1915 : decode code 1915 = .ok (.iaload, 1) := by decide +kernel
theorem e_W_law_1916 : decode code 1916 = .ok (.invokevirtual 245, 3) := by decide +kernel
theorem e_W_law_1919 : decode code 1919 = .ok (.istore 6, 2) := by decide +kernel
theorem e_W_law_1921 : decode code 1921 = .ok (.aload_n 2, 1) := by decide +kernel
theorem e_W_law_1922 : decode code 1922 = .ok (.invokevirtual 121, 3) := by decide +kernel
theorem e_W_law_1925 : decode code 1925 = .ok (.iload 5, 2) := by decide +kernel
theorem e_W_law_1927 : decode code 1927 = .ok (.if_icmp .eq 5, 3) := by decide +kernel
theorem e_W_law_1930 : decode code 1930 = .ok (.iconst 0, 1) := by decide +kernel
theorem e_W_law_1931 : decode code 1931 = .ok (.ireturn, 1) := by decide +kernel
theorem e_W_law_1932 : decode code 1932 = .ok (.iload 5, 2) := by decide +kernel
theorem e_W_law_1934 : decode code 1934 = .ok (.ifCond .ne 15, 3) := by decide +kernel
theorem e_W_law_1937 : decode code 1937 = .ok (.aload_n 3, 1) := by decide +kernel
theorem e_W_law_1938 : decode code 1938 = .ok (.iconst 0, 1) := by decide +kernel
theorem e_W_law_1939 : decode code 1939 = .ok (.laload, 1) := by decide +kernel
theorem e_W_law_1940 : decode code 1940 = .ok (.iload 6, 2) := by decide +kernel
theorem e_W_law_1942 : decode code 1942 = .ok (.i2l, 1) := by decide +kernel
theorem e_W_law_1943 : decode code 1943 = .ok (.lcmp, 1) := by decide +kernel
theorem e_W_law_1944 : decode code 1944 = .ok (.ifCond .eq 5, 3) := by decide +kernel
theorem e_W_law_1947 : decode code 1947 = .ok (.iconst 0, 1) := by decide +kernel
theorem e_W_law_1948 : decode code 1948 = .ok (.ireturn, 1) := by decide +kernel
theorem e_W_law_1949 : decode code 1949 = .ok (.goto 588, 3) := by decide +kernel
theorem e_W_law_1952 : decode code 1952 = .ok (.aload_n 1, 1) := by decide +kernel
theorem e_W_law_1953 : decode code 1953 = .ok (.aload_n 0, 1) := by decide +kernel
theorem e_W_law_1954 : decode code 1954 = .ok (.iload 4, 2) := by decide +kernel
theorem e_W_law_1956 : decode code 1956 = .ok (.iconst 1, 1) := by decide +kernel
theorem e_W_law_1957 : decode code 1957 = .ok (.iadd, 1) := by decide +kernel
theorem e_W_law_1958 : decode code 1958 = .ok (.iaload, 1) := by decide +kernel
theorem e_W_law_1959 : decode code 1959 = .ok (.aload_n 3, 1) := by decide +kernel
theorem e_W_law_1960 : decode code 1960 = .ok (.invokestatic 246, 3) := by decide +kernel
theorem e_W_law_1963 : decode code 1963 = .ok (.istore 5, 2) := by decide +kernel
theorem e_W_law_1965 : decode code 1965 = .ok (.aload_n 2, 1) := by decide +kernel
theorem e_W_law_1966 : decode code 1966 = .ok (.aload_n 0, 1) := by decide +kernel
theorem e_W_law_1967 : decode code 1967 = .ok (.iload 4, 2) := by decide +kernel
theorem e_W_law_1969 : decode code 1969 = .ok (.iconst 1, 1) := by decide +kernel
theorem e_W_law_1970 : decode code 1970 = .ok (.iadd, 1) := by decide +kernel
theorem e_W_law_1971 : decode code 1971 = .ok (.iaload, 1) := by decide +kernel
theorem e_W_law_1972 : decode code 1972 = .ok (.invokevirtual 248, 3) := by decide +kernel
theorem e_W_law_1975 : decode code 1975 = .ok (.istore 6, 2) := by decide +kernel
theorem e_W_law_1977 : decode code 1977 = .ok (.aload_n 2, 1) := by decide +kernel
theorem e_W_law_1978 : decode code 1978 = .ok (.invokevirtual 121, 3) := by decide +kernel
theorem e_W_law_1981 : decode code 1981 = .ok (.iload 5, 2) := by decide +kernel
theorem e_W_law_1983 : decode code 1983 = .ok (.if_icmp .eq 5, 3) := by decide +kernel
theorem e_W_law_1986 : decode code 1986 = .ok (.iconst 0, 1) := by decide +kernel
theorem e_W_law_1987 : decode code 1987 = .ok (.ireturn, 1) := by decide +kernel
theorem e_W_law_1988 : decode code 1988 = .ok (.iload 5, 2) := by decide +kernel
theorem e_W_law_1990 : decode code 1990 = .ok (.ifCond .ne 15, 3) := by decide +kernel
theorem e_W_law_1993 : decode code 1993 = .ok (.aload_n 3, 1) := by decide +kernel
theorem e_W_law_1994 : decode code 1994 = .ok (.iconst 0, 1) := by decide +kernel
theorem e_W_law_1995 : decode code 1995 = .ok (.laload, 1) := by decide +kernel
theorem e_W_law_1996 : decode code 1996 = .ok (.iload 6, 2) := by decide +kernel
theorem e_W_law_1998 : decode code 1998 = .ok (.i2l, 1) := by decide +kernel
theorem e_W_law_1999 : decode code 1999 = .ok (.lcmp, 1) := by decide +kernel
theorem e_W_law_2000 : decode code 2000 = .ok (.ifCond .eq 5, 3) := by decide +kernel
theorem e_W_law_2003 : decode code 2003 = .ok (.iconst 0, 1) := by decide +kernel
theorem e_W_law_2004 : decode code 2004 = .ok (.ireturn, 1) := by decide +kernel
theorem e_W_law_2005 : decode code 2005 = .ok (.goto 532, 3) := by decide +kernel
theorem e_W_law_2008 : decode code 2008 = .ok (.aload_n 1, 1) := by decide +kernel
theorem e_W_law_2009 : decode code 2009 = .ok (.aload_n 0, 1) := by decide +kernel
theorem e_W_law_2010 : decode code 2010 = .ok (.iload 4, 2) := by decide +kernel
theorem e_W_law_2012 : decode code 2012 = .ok (.iconst 1, 1) := by decide +kernel
theorem e_W_law_2013 : decode code 2013 = .ok (.iadd, 1) := by decide +kernel
theorem e_W_law_2014 : decode code 2014 = .ok (.iaload, 1) := by decide +kernel
theorem e_W_law_2015 : decode code 2015 = .ok (.aload_n 3, 1) := by decide +kernel
theorem e_W_law_2016 : decode code 2016 = .ok (.invokestatic 249, 3) := by decide +kernel
theorem e_W_law_2019 : decode code 2019 = .ok (.istore 5, 2) := by decide +kernel
theorem e_W_law_2021 : decode code 2021 = .ok (.aload_n 2, 1) := by decide +kernel
theorem e_W_law_2022 : decode code 2022 = .ok (.aload_n 0, 1) := by decide +kernel
theorem e_W_law_2023 : decode code 2023 = .ok (.iload 4, 2) := by decide +kernel
theorem e_W_law_2025 : decode code 2025 = .ok (.iconst 1, 1) := by decide +kernel
theorem e_W_law_2026 : decode code 2026 = .ok (.iadd, 1) := by decide +kernel
theorem e_W_law_2027 : decode code 2027 = .ok (.iaload, 1) := by decide +kernel
theorem e_W_law_2028 : decode code 2028 = .ok (.invokevirtual 251, 3) := by decide +kernel
theorem e_W_law_2031 : decode code 2031 = .ok (.istore 6, 2) := by decide +kernel
theorem e_W_law_2033 : decode code 2033 = .ok (.aload_n 2, 1) := by decide +kernel
theorem e_W_law_2034 : decode code 2034 = .ok (.invokevirtual 121, 3) := by decide +kernel
theorem e_W_law_2037 : decode code 2037 = .ok (.iload 5, 2) := by decide +kernel
theorem e_W_law_2039 : decode code 2039 = .ok (.if_icmp .eq 5, 3) := by decide +kernel
theorem e_W_law_2042 : decode code 2042 = .ok (.iconst 0, 1) := by decide +kernel
theorem e_W_law_2043 : decode code 2043 = .ok (.ireturn, 1) := by decide +kernel
theorem e_W_law_2044 : decode code 2044 = .ok (.iload 5, 2) := by decide +kernel
theorem e_W_law_2046 : decode code 2046 = .ok (.ifCond .ne 15, 3) := by decide +kernel
theorem e_W_law_2049 : decode code 2049 = .ok (.aload_n 3, 1) := by decide +kernel
theorem e_W_law_2050 : decode code 2050 = .ok (.iconst 0, 1) := by decide +kernel
theorem e_W_law_2051 : decode code 2051 = .ok (.laload, 1) := by decide +kernel
theorem e_W_law_2052 : decode code 2052 = .ok (.iload 6, 2) := by decide +kernel
theorem e_W_law_2054 : decode code 2054 = .ok (.i2l, 1) := by decide +kernel
theorem e_W_law_2055 : decode code 2055 = .ok (.lcmp, 1) := by decide +kernel
theorem e_W_law_2056 : decode code 2056 = .ok (.ifCond .eq 5, 3) := by decide +kernel
theorem e_W_law_2059 : decode code 2059 = .ok (.iconst 0, 1) := by decide +kernel
theorem e_W_law_2060 : decode code 2060 = .ok (.ireturn, 1) := by decide +kernel
theorem e_W_law_2061 : decode code 2061 = .ok (.goto 476, 3) := by decide +kernel
theorem e_W_law_2064 : decode code 2064 = .ok (.aload_n 1, 1) := by decide +kernel
theorem e_W_law_2065 : decode code 2065 = .ok (.aload_n 0, 1) := by decide +kernel
theorem e_W_law_2066 : decode code 2066 = .ok (.iload 4, 2) := by decide +kernel
theorem e_W_law_2068 : decode code 2068 = .ok (.iconst 1, 1) := by decide +kernel
theorem e_W_law_2069 : decode code 2069 = .ok (.iadd, 1) := by decide +kernel
theorem e_W_law_2070 : decode code 2070 = .ok (.iaload, 1) := by decide +kernel
theorem e_W_law_2071 : decode code 2071 = .ok (.aload_n 3, 1) := by decide +kernel
theorem e_W_law_2072 : decode code 2072 = .ok (.invokestatic 252, 3) := by decide +kernel
theorem e_W_law_2075 : decode code 2075 = .ok (.istore 5, 2) := by decide +kernel
theorem e_W_law_2077 : decode code 2077 = .ok (.aload_n 2, 1) := by decide +kernel
theorem e_W_law_2078 : decode code 2078 = .ok (.aload_n 0, 1) := by decide +kernel
theorem e_W_law_2079 : decode code 2079 = .ok (.iload 4, 2) := by decide +kernel
theorem e_W_law_2081 : decode code 2081 = .ok (.iconst 1, 1) := by decide +kernel
theorem e_W_law_2082 : decode code 2082 = .ok (.iadd, 1) := by decide +kernel
theorem e_W_law_2083 : decode code 2083 = .ok (.iaload, 1) := by decide +kernel
theorem e_W_law_2084 : decode code 2084 = .ok (.invokevirtual 254, 3) := by decide +kernel
theorem e_W_law_2087 : decode code 2087 = .ok (.istore 6, 2) := by decide +kernel
theorem e_W_law_2089 : decode code 2089 = .ok (.aload_n 2, 1) := by decide +kernel
theorem e_W_law_2090 : decode code 2090 = .ok (.invokevirtual 121, 3) := by decide +kernel
theorem e_W_law_2093 : decode code 2093 = .ok (.iload 5, 2) := by decide +kernel
theorem e_W_law_2095 : decode code 2095 = .ok (.if_icmp .eq 5, 3) := by decide +kernel
theorem e_W_law_2098 : decode code 2098 = .ok (.iconst 0, 1) := by decide +kernel
theorem e_W_law_2099 : decode code 2099 = .ok (.ireturn, 1) := by decide +kernel
theorem e_W_law_2100 : decode code 2100 = .ok (.iload 5, 2) := by decide +kernel
theorem e_W_law_2102 : decode code 2102 = .ok (.ifCond .ne 15, 3) := by decide +kernel
theorem e_W_law_2105 : decode code 2105 = .ok (.aload_n 3, 1) := by decide +kernel
theorem e_W_law_2106 : decode code 2106 = .ok (.iconst 0, 1) := by decide +kernel
theorem e_W_law_2107 : decode code 2107 = .ok (.laload, 1) := by decide +kernel
theorem e_W_law_2108 : decode code 2108 = .ok (.iload 6, 2) := by decide +kernel
theorem e_W_law_2110 : decode code 2110 = .ok (.i2l, 1) := by decide +kernel
theorem e_W_law_2111 : decode code 2111 = .ok (.lcmp, 1) := by decide +kernel
theorem e_W_law_2112 : decode code 2112 = .ok (.ifCond .eq 5, 3) := by decide +kernel
theorem e_W_law_2115 : decode code 2115 = .ok (.iconst 0, 1) := by decide +kernel
theorem e_W_law_2116 : decode code 2116 = .ok (.ireturn, 1) := by decide +kernel
theorem e_W_law_2117 : decode code 2117 = .ok (.goto 420, 3) := by decide +kernel
theorem e_W_law_2120 : decode code 2120 = .ok (.aload_n 1, 1) := by decide +kernel
theorem e_W_law_2121 : decode code 2121 = .ok (.aload_n 0, 1) := by decide +kernel
theorem e_W_law_2122 : decode code 2122 = .ok (.iload 4, 2) := by decide +kernel
theorem e_W_law_2124 : decode code 2124 = .ok (.iconst 1, 1) := by decide +kernel
theorem e_W_law_2125 : decode code 2125 = .ok (.iadd, 1) := by decide +kernel
theorem e_W_law_2126 : decode code 2126 = .ok (.iaload, 1) := by decide +kernel
theorem e_W_law_2127 : decode code 2127 = .ok (.aload_n 3, 1) := by decide +kernel
theorem e_W_law_2128 : decode code 2128 = .ok (.invokestatic 255, 3) := by decide +kernel
theorem e_W_law_2131 : decode code 2131 = .ok (.istore 5, 2) := by decide +kernel
theorem e_W_law_2133 : decode code 2133 = .ok (.aload_n 2, 1) := by decide +kernel
theorem e_W_law_2134 : decode code 2134 = .ok (.aload_n 0, 1) := by decide +kernel
theorem e_W_law_2135 : decode code 2135 = .ok (.iload 4, 2) := by decide +kernel
theorem e_W_law_2137 : decode code 2137 = .ok (.iconst 1, 1) := by decide +kernel
theorem e_W_law_2138 : decode code 2138 = .ok (.iadd, 1) := by decide +kernel
theorem e_W_law_2139 : decode code 2139 = .ok (.iaload, 1) := by decide +kernel
theorem e_W_law_2140 : decode code 2140 = .ok (.invokevirtual 257, 3) := by decide +kernel
theorem e_W_law_2143 : decode code 2143 = .ok (.istore 6, 2) := by decide +kernel
theorem e_W_law_2145 : decode code 2145 = .ok (.aload_n 2, 1) := by decide +kernel
theorem e_W_law_2146 : decode code 2146 = .ok (.invokevirtual 121, 3) := by decide +kernel
theorem e_W_law_2149 : decode code 2149 = .ok (.iload 5, 2) := by decide +kernel
theorem e_W_law_2151 : decode code 2151 = .ok (.if_icmp .eq 5, 3) := by decide +kernel
theorem e_W_law_2154 : decode code 2154 = .ok (.iconst 0, 1) := by decide +kernel
theorem e_W_law_2155 : decode code 2155 = .ok (.ireturn, 1) := by decide +kernel
theorem e_W_law_2156 : decode code 2156 = .ok (.iload 5, 2) := by decide +kernel
theorem e_W_law_2158 : decode code 2158 = .ok (.ifCond .ne 15, 3) := by decide +kernel
theorem e_W_law_2161 : decode code 2161 = .ok (.aload_n 3, 1) := by decide +kernel
theorem e_W_law_2162 : decode code 2162 = .ok (.iconst 0, 1) := by decide +kernel
theorem e_W_law_2163 : decode code 2163 = .ok (.laload, 1) := by decide +kernel
theorem e_W_law_2164 : decode code 2164 = .ok (.iload 6, 2) := by decide +kernel
theorem e_W_law_2166 : decode code 2166 = .ok (.i2l, 1) := by decide +kernel
theorem e_W_law_2167 : decode code 2167 = .ok (.lcmp, 1) := by decide +kernel
theorem e_W_law_2168 : decode code 2168 = .ok (.ifCond .eq 5, 3) := by decide +kernel
theorem e_W_law_2171 : decode code 2171 = .ok (.iconst 0, 1) := by decide +kernel
theorem e_W_law_2172 : decode code 2172 = .ok (.ireturn, 1) := by decide +kernel
theorem e_W_law_2173 : decode code 2173 = .ok (.goto 364, 3) := by decide +kernel
theorem e_W_law_2176 : decode code 2176 = .ok (.aload_n 1, 1) := by decide +kernel
theorem e_W_law_2177 : decode code 2177 = .ok (.invokevirtual 258, 3) := by decide +kernel
theorem e_W_law_2180 : decode code 2180 = .ok (.aload_n 2, 1) := by decide +kernel
theorem e_W_law_2181 : decode code 2181 = .ok (.invokevirtual 261, 3) := by decide +kernel
theorem e_W_law_2184 : decode code 2184 = .ok (.if_icmp .eq 353, 3) := by decide +kernel
theorem e_W_law_2187 : decode code 2187 = .ok (.iconst 0, 1) := by decide +kernel
theorem e_W_law_2188 : decode code 2188 = .ok (.ireturn, 1) := by decide +kernel
theorem e_W_law_2189 : decode code 2189 = .ok (.aload_n 1, 1) := by decide +kernel
theorem e_W_law_2190 : decode code 2190 = .ok (.invokevirtual 262, 3) := by decide +kernel
theorem e_W_law_2193 : decode code 2193 = .ok (.aload_n 2, 1) := by decide +kernel
theorem e_W_law_2194 : decode code 2194 = .ok (.invokevirtual 265, 3) := by decide +kernel
theorem e_W_law_2197 : decode code 2197 = .ok (.if_icmp .eq 340, 3) := by decide +kernel
theorem e_W_law_2200 : decode code 2200 = .ok (.iconst 0, 1) := by decide +kernel
theorem e_W_law_2201 : decode code 2201 = .ok (.ireturn, 1) := by decide +kernel
theorem e_W_law_2202 : decode code 2202 = .ok (.aload_n 1, 1) := by decide +kernel
theorem e_W_law_2203 : decode code 2203 = .ok (.invokevirtual 266, 3) := by decide +kernel
theorem e_W_law_2206 : decode code 2206 = .ok (.aload_n 2, 1) := by decide +kernel
theorem e_W_law_2207 : decode code 2207 = .ok (.invokevirtual 269, 3) := by decide +kernel
theorem e_W_law_2210 : decode code 2210 = .ok (.if_icmp .eq 327, 3) := by decide +kernel
theorem e_W_law_2213 : decode code 2213 = .ok (.iconst 0, 1) := by decide +kernel
theorem e_W_law_2214 : decode code 2214 = .ok (.ireturn, 1) := by decide +kernel
theorem e_W_law_2215 : decode code 2215 = .ok (.aload_n 1, 1) := by decide +kernel
theorem e_W_law_2216 : decode code 2216 = .ok (.invokevirtual 270, 3) := by decide +kernel
theorem e_W_law_2219 : decode code 2219 = .ok (.aload_n 2, 1) := by decide +kernel
theorem e_W_law_2220 : decode code 2220 = .ok (.invokevirtual 273, 3) := by decide +kernel
theorem e_W_law_2223 : decode code 2223 = .ok (.if_icmp .eq 314, 3) := by decide +kernel
theorem e_W_law_2226 : decode code 2226 = .ok (.iconst 0, 1) := by decide +kernel
theorem e_W_law_2227 : decode code 2227 = .ok (.ireturn, 1) := by decide +kernel
theorem e_W_law_2228 : decode code 2228 = .ok (.aload_n 1, 1) := by decide +kernel
theorem e_W_law_2229 : decode code 2229 = .ok (.invokevirtual 274, 3) := by decide +kernel
theorem e_W_law_2232 : decode code 2232 = .ok (.aload_n 2, 1) := by decide +kernel
theorem e_W_law_2233 : decode code 2233 = .ok (.invokevirtual 277, 3) := by decide +kernel
theorem e_W_law_2236 : decode code 2236 = .ok (.if_icmp .eq 301, 3) := by decide +kernel
theorem e_W_law_2239 : decode code 2239 = .ok (.iconst 0, 1) := by decide +kernel
theorem e_W_law_2240 : decode code 2240 = .ok (.ireturn, 1) := by decide +kernel
theorem e_W_law_2241 : decode code 2241 = .ok (.aload_n 1, 1) := by decide +kernel
theorem e_W_law_2242 : decode code 2242 = .ok (.invokevirtual 278, 3) := by decide +kernel
theorem e_W_law_2245 : decode code 2245 = .ok (.aload_n 2, 1) := by decide +kernel
theorem e_W_law_2246 : decode code 2246 = .ok (.invokevirtual 281, 3) := by decide +kernel
theorem e_W_law_2249 : decode code 2249 = .ok (.if_icmp .eq 288, 3) := by decide +kernel
theorem e_W_law_2252 : decode code 2252 = .ok (.iconst 0, 1) := by decide +kernel
theorem e_W_law_2253 : decode code 2253 = .ok (.ireturn, 1) := by decide +kernel
theorem e_W_law_2254 : decode code 2254 = .ok (.aload_n 1, 1) := by decide +kernel
theorem e_W_law_2255 : decode code 2255 = .ok (.invokevirtual 282, 3) := by decide +kernel
theorem e_W_law_2258 : decode code 2258 = .ok (.aload_n 2, 1) := by decide +kernel
theorem e_W_law_2259 : decode code 2259 = .ok (.invokevirtual 285, 3) := by decide +kernel
theorem e_W_law_2262 : decode code 2262 = .ok (.if_icmp .eq 275, 3) := by decide +kernel
theorem e_W_law_2265 : decode code 2265 = .ok (.iconst 0, 1) := by decide +kernel
theorem e_W_law_2266 : decode code 2266 = .ok (.ireturn, 1) := by decide +kernel
theorem e_W_law_2267 : decode code 2267 = .ok (.aload_n 1, 1) := by decide +kernel
theorem e_W_law_2268 : decode code 2268 = .ok (.invokevirtual 286, 3) := by decide +kernel
theorem e_W_law_2271 : decode code 2271 = .ok (.aload_n 2, 1) := by decide +kernel
theorem e_W_law_2272 : decode code 2272 = .ok (.invokevirtual 289, 3) := by decide +kernel
theorem e_W_law_2275 : decode code 2275 = .ok (.if_icmp .eq 262, 3) := by decide +kernel
theorem e_W_law_2278 : decode code 2278 = .ok (.iconst 0, 1) := by decide +kernel
theorem e_W_law_2279 : decode code 2279 = .ok (.ireturn, 1) := by decide +kernel
theorem e_W_law_2280 : decode code 2280 = .ok (.aload_n 1, 1) := by decide +kernel
theorem e_W_law_2281 : decode code 2281 = .ok (.invokevirtual 290, 3) := by decide +kernel
theorem e_W_law_2284 : decode code 2284 = .ok (.aload_n 2, 1) := by decide +kernel
theorem e_W_law_2285 : decode code 2285 = .ok (.invokevirtual 293, 3) := by decide +kernel
theorem e_W_law_2288 : decode code 2288 = .ok (.if_icmp .eq 249, 3) := by decide +kernel
theorem e_W_law_2291 : decode code 2291 = .ok (.iconst 0, 1) := by decide +kernel
theorem e_W_law_2292 : decode code 2292 = .ok (.ireturn, 1) := by decide +kernel
theorem e_W_law_2293 : decode code 2293 = .ok (.aload_n 1, 1) := by decide +kernel
theorem e_W_law_2294 : decode code 2294 = .ok (.invokevirtual 294, 3) := by decide +kernel
theorem e_W_law_2297 : decode code 2297 = .ok (.aload_n 2, 1) := by decide +kernel
theorem e_W_law_2298 : decode code 2298 = .ok (.invokevirtual 297, 3) := by decide +kernel
theorem e_W_law_2301 : decode code 2301 = .ok (.if_icmp .eq 236, 3) := by decide +kernel
theorem e_W_law_2304 : decode code 2304 = .ok (.iconst 0, 1) := by decide +kernel
theorem e_W_law_2305 : decode code 2305 = .ok (.ireturn, 1) := by decide +kernel
theorem e_W_law_2306 : decode code 2306 = .ok (.aload_n 1, 1) := by decide +kernel
theorem e_W_law_2307 : decode code 2307 = .ok (.invokevirtual 298, 3) := by decide +kernel
theorem e_W_law_2310 : decode code 2310 = .ok (.aload_n 2, 1) := by decide +kernel
theorem e_W_law_2311 : decode code 2311 = .ok (.invokevirtual 302, 3) := by decide +kernel
theorem e_W_law_2314 : decode code 2314 = .ok (.lcmp, 1) := by decide +kernel
theorem e_W_law_2315 : decode code 2315 = .ok (.ifCond .eq 222, 3) := by decide +kernel
theorem e_W_law_2318 : decode code 2318 = .ok (.iconst 0, 1) := by decide +kernel
theorem e_W_law_2319 : decode code 2319 = .ok (.ireturn, 1) := by decide +kernel
theorem e_W_law_2320 : decode code 2320 = .ok (.aload_n 1, 1) := by decide +kernel
theorem e_W_law_2321 : decode code 2321 = .ok (.aload_n 0, 1) := by decide +kernel
theorem e_W_law_2322 : decode code 2322 = .ok (.iload 4, 2) := by decide +kernel
theorem e_W_law_2324 : decode code 2324 = .ok (.iconst 1, 1) := by decide +kernel
theorem e_W_law_2325 : decode code 2325 = .ok (.iadd, 1) := by decide +kernel
theorem e_W_law_2326 : decode code 2326 = .ok (.iaload, 1) := by decide +kernel
theorem e_W_law_2327 : decode code 2327 = .ok (.aload_n 3, 1) := by decide +kernel
theorem e_W_law_2328 : decode code 2328 = .ok (.invokestatic 303, 3) := by decide +kernel
theorem e_W_law_2331 : decode code 2331 = .ok (.istore 5, 2) := by decide +kernel
theorem e_W_law_2333 : decode code 2333 = .ok (.aload_n 2, 1) := by decide +kernel
theorem e_W_law_2334 : decode code 2334 = .ok (.aload_n 0, 1) := by decide +kernel
theorem e_W_law_2335 : decode code 2335 = .ok (.iload 4, 2) := by decide +kernel
theorem e_W_law_2337 : decode code 2337 = .ok (.iconst 1, 1) := by decide +kernel
theorem e_W_law_2338 : decode code 2338 = .ok (.iadd, 1) := by decide +kernel
theorem e_W_law_2339 : decode code 2339 = .ok (.iaload, 1) := by decide +kernel
theorem e_W_law_2340 : decode code 2340 = .ok (.invokevirtual 305, 3) := by decide +kernel
theorem e_W_law_2343 : decode code 2343 = .ok (.istore 6, 2) := by decide +kernel
theorem e_W_law_2345 : decode code 2345 = .ok (.aload_n 2, 1) := by decide +kernel
theorem e_W_law_2346 : decode code 2346 = .ok (.invokevirtual 121, 3) := by decide +kernel
theorem e_W_law_2349 : decode code 2349 = .ok (.iload 5, 2) := by decide +kernel
theorem e_W_law_2351 : decode code 2351 = .ok (.if_icmp .eq 5, 3) := by decide +kernel
theorem e_W_law_2354 : decode code 2354 = .ok (.iconst 0, 1) := by decide +kernel
theorem e_W_law_2355 : decode code 2355 = .ok (.ireturn, 1) := by decide +kernel
theorem e_W_law_2356 : decode code 2356 = .ok (.iload 5, 2) := by decide +kernel
theorem e_W_law_2358 : decode code 2358 = .ok (.ifCond .ne 15, 3) := by decide +kernel
theorem e_W_law_2361 : decode code 2361 = .ok (.aload_n 3, 1) := by decide +kernel
theorem e_W_law_2362 : decode code 2362 = .ok (.iconst 0, 1) := by decide +kernel
theorem e_W_law_2363 : decode code 2363 = .ok (.laload, 1) := by decide +kernel
theorem e_W_law_2364 : decode code 2364 = .ok (.iload 6, 2) := by decide +kernel
theorem e_W_law_2366 : decode code 2366 = .ok (.i2l, 1) := by decide +kernel
theorem e_W_law_2367 : decode code 2367 = .ok (.lcmp, 1) := by decide +kernel
theorem e_W_law_2368 : decode code 2368 = .ok (.ifCond .eq 5, 3) := by decide +kernel
theorem e_W_law_2371 : decode code 2371 = .ok (.iconst 0, 1) := by decide +kernel
theorem e_W_law_2372 : decode code 2372 = .ok (.ireturn, 1) := by decide +kernel
theorem e_W_law_2373 : decode code 2373 = .ok (.goto 164, 3) := by decide +kernel
theorem e_W_law_2376 : decode code 2376 = .ok (.aload_n 1, 1) := by decide +kernel
theorem e_W_law_2377 : decode code 2377 = .ok (.invokevirtual 306, 3) := by decide +kernel
theorem e_W_law_2380 : decode code 2380 = .ok (.aload_n 2, 1) := by decide +kernel
theorem e_W_law_2381 : decode code 2381 = .ok (.invokevirtual 309, 3) := by decide +kernel
theorem e_W_law_2384 : decode code 2384 = .ok (.if_icmp .eq 153, 3) := by decide +kernel
theorem e_W_law_2387 : decode code 2387 = .ok (.iconst 0, 1) := by decide +kernel
theorem e_W_law_2388 : decode code 2388 = .ok (.ireturn, 1) := by decide +kernel
theorem e_W_law_2389 : decode code 2389 = .ok (.aload_n 1, 1) := by decide +kernel
theorem e_W_law_2390 : decode code 2390 = .ok (.invokevirtual 310, 3) := by decide +kernel
theorem e_W_law_2393 : decode code 2393 = .ok (.aload_n 2, 1) := by decide +kernel
theorem e_W_law_2394 : decode code 2394 = .ok (.invokevirtual 313, 3) := by decide +kernel
theorem e_W_law_2397 : decode code 2397 = .ok (.if_icmp .eq 140, 3) := by decide +kernel
theorem e_W_law_2400 : decode code 2400 = .ok (.iconst 0, 1) := by decide +kernel
theorem e_W_law_2401 : decode code 2401 = .ok (.ireturn, 1) := by decide +kernel
theorem e_W_law_2402 : decode code 2402 = .ok (.aload_n 1, 1) := by decide +kernel
theorem e_W_law_2403 : decode code 2403 = .ok (.invokevirtual 314, 3) := by decide +kernel
theorem e_W_law_2406 : decode code 2406 = .ok (.aload_n 2, 1) := by decide +kernel
theorem e_W_law_2407 : decode code 2407 = .ok (.invokevirtual 317, 3) := by decide +kernel
theorem e_W_law_2410 : decode code 2410 = .ok (.if_icmp .eq 127, 3) := by decide +kernel
theorem e_W_law_2413 : decode code 2413 = .ok (.iconst 0, 1) := by decide +kernel
theorem e_W_law_2414 : decode code 2414 = .ok (.ireturn, 1) := by decide +kernel
theorem e_W_law_2415 : decode code 2415 = .ok (.aload_n 1, 1) := by decide +kernel
theorem e_W_law_2416 : decode code 2416 = .ok (.invokevirtual 318, 3) := by decide +kernel
theorem e_W_law_2419 : decode code 2419 = .ok (.dstore 5, 2) := by decide +kernel
theorem e_W_law_2421 : decode code 2421 = .ok (.aload_n 2, 1) := by decide +kernel
theorem e_W_law_2422 : decode code 2422 = .ok (.invokevirtual 322, 3) := by decide +kernel
theorem e_W_law_2425 : decode code 2425 = .ok (.dstore 7, 2) := by decide +kernel
theorem e_W_law_2427 : decode code 2427 = .ok (.dload 5, 2) := by decide +kernel
theorem e_W_law_2429 : decode code 2429 = .ok (.dload 7, 2) := by decide +kernel
theorem e_W_law_2431 : decode code 2431 = .ok (.dcmp .l, 1) := by decide +kernel
theorem e_W_law_2432 : decode code 2432 = .ok (.ifCond .eq 21, 3) := by decide +kernel
theorem e_W_law_2435 : decode code 2435 = .ok (.dload 5, 2) := by decide +kernel
theorem e_W_law_2437 : decode code 2437 = .ok (.dload 5, 2) := by decide +kernel
theorem e_W_law_2439 : decode code 2439 = .ok (.dcmp .l, 1) := by decide +kernel
theorem e_W_law_2440 : decode code 2440 = .ok (.ifCond .eq 11, 3) := by decide +kernel
theorem e_W_law_2443 : decode code 2443 = .ok (.dload 7, 2) := by decide +kernel
theorem e_W_law_2445 : decode code 2445 = .ok (.dload 7, 2) := by decide +kernel
theorem e_W_law_2447 : decode code 2447 = .ok (.dcmp .l, 1) := by decide +kernel
theorem e_W_law_2448 : decode code 2448 = .ok (.ifCond .ne 5, 3) := by decide +kernel
theorem e_W_law_2451 : decode code 2451 = .ok (.iconst 0, 1) := by decide +kernel
theorem e_W_law_2452 : decode code 2452 = .ok (.ireturn, 1) := by decide +kernel
theorem e_W_law_2453 : decode code 2453 = .ok (.goto 84, 3) := by decide +kernel
theorem e_W_law_2456 : decode code 2456 = .ok (.aload_n 1, 1) := by decide +kernel
theorem e_W_law_2457 : decode code 2457 = .ok (.invokevirtual 323, 3) := by decide +kernel
theorem e_W_law_2460 : decode code 2460 = .ok (.f2d, 1) := by decide +kernel
theorem e_W_law_2461 : decode code 2461 = .ok (.dstore 5, 2) := by decide +kernel
theorem e_W_law_2463 : decode code 2463 = .ok (.aload_n 2, 1) := by decide +kernel
theorem e_W_law_2464 : decode code 2464 = .ok (.invokevirtual 327, 3) := by decide +kernel
theorem e_W_law_2467 : decode code 2467 = .ok (.f2d, 1) := by decide +kernel
theorem e_W_law_2468 : decode code 2468 = .ok (.dstore 7, 2) := by decide +kernel
theorem e_W_law_2470 : decode code 2470 = .ok (.dload 5, 2) := by decide +kernel
theorem e_W_law_2472 : decode code 2472 = .ok (.dload 7, 2) := by decide +kernel
theorem e_W_law_2474 : decode code 2474 = .ok (.dcmp .l, 1) := by decide +kernel
theorem e_W_law_2475 : decode code 2475 = .ok (.ifCond .eq 21, 3) := by decide +kernel
theorem e_W_law_2478 : decode code 2478 = .ok (.dload 5, 2) := by decide +kernel
theorem e_W_law_2480 : decode code 2480 = .ok (.dload 5, 2) := by decide +kernel
theorem e_W_law_2482 : decode code 2482 = .ok (.dcmp .l, 1) := by decide +kernel
theorem e_W_law_2483 : decode code 2483 = .ok (.ifCond .eq 11, 3) := by decide +kernel
theorem e_W_law_2486 : decode code 2486 = .ok (.dload 7, 2) := by decide +kernel
theorem e_W_law_2488 : decode code 2488 = .ok (.dload 7, 2) := by decide +kernel
theorem e_W_law_2490 : decode code 2490 = .ok (.dcmp .l, 1) := by decide +kernel
theorem e_W_law_2491 : decode code 2491 = .ok (.ifCond .ne 5, 3) := by decide +kernel
theorem e_W_law_2494 : decode code 2494 = .ok (.iconst 0, 1) := by decide +kernel
theorem e_W_law_2495 : decode code 2495 = .ok (.ireturn, 1) := by decide +kernel
theorem e_W_law_2496 : decode code 2496 = .ok (.goto 41, 3) := by decide +kernel
theorem e_W_law_2499 : decode code 2499 = .ok (.aload_n 1, 1) := by decide +kernel
theorem e_W_law_2500 : decode code 2500 = .ok (.invokevirtual 328, 3) := by decide +kernel
theorem e_W_law_2503 : decode code 2503 = .ok (.aload_n 2, 1) := by decide +kernel
theorem e_W_law_2504 : decode code 2504 = .ok (.invokevirtual 331, 3) := by decide +kernel
theorem e_W_law_2507 : decode code 2507 = .ok (.if_icmp .eq 30, 3) := by decide +kernel
theorem e_W_law_2510 : decode code 2510 = .ok (.iconst 0, 1) := by decide +kernel
theorem e_W_law_2511 : decode code 2511 = .ok (.ireturn, 1) := by decide +kernel
theorem e_W_law_2512 : decode code 2512 = .ok (.aload_n 1, 1) := by decide +kernel
theorem e_W_law_2513 : decode code 2513 = .ok (.aload_n 0, 1) := by decide +kernel
theorem e_W_law_2514 : decode code 2514 = .ok (.iload 4, 2) := by decide +kernel
theorem e_W_law_2516 : decode code 2516 = .ok (.iconst 1, 1) := by decide +kernel
theorem e_W_law_2517 : decode code 2517 = .ok (.iadd, 1) := by decide +kernel
theorem e_W_law_2518 : decode code 2518 = .ok (.iaload, 1) := by decide +kernel
theorem e_W_law_2519 : decode code 2519 = .ok (.invokevirtual 332, 3) := by decide +kernel
theorem e_W_law_2522 : decode code 2522 = .ok (.aload_n 2, 1) := by decide +kernel
theorem e_W_law_2523 : decode code 2523 = .ok (.aload_n 0, 1) := by decide +kernel
theorem e_W_law_2524 : decode code 2524 = .ok (.iload 4, 2) := by decide +kernel
theorem e_W_law_2526 : decode code 2526 = .ok (.iconst 1, 1) := by decide +kernel
theorem e_W_law_2527 : decode code 2527 = .ok (.iadd, 1) := by decide +kernel
theorem e_W_law_2528 : decode code 2528 = .ok (.iaload, 1) := by decide +kernel
theorem e_W_law_2529 : decode code 2529 = .ok (.invokevirtual 335, 3) := by decide +kernel
theorem e_W_law_2532 : decode code 2532 = .ok (.if_icmp .eq 5, 3) := by decide +kernel
theorem e_W_law_2535 : decode code 2535 = .ok (.iconst 0, 1) := by decide +kernel
theorem e_W_law_2536 : decode code 2536 = .ok (.ireturn, 1) := by decide +kernel
theorem e_W_law_2537 : decode code 2537 = .ok (.iinc 4 6, 3) := by decide +kernel
theorem e_W_law_2540 : decode code 2540 = .ok (.goto (-2517), 3) := by decide +kernel
theorem e_W_law_2543 : decode code 2543 = .ok (.iconst 1, 1) := by decide +kernel
theorem e_W_law_2544 : decode code 2544 = .ok (.ireturn, 1) := by decide +kernel
