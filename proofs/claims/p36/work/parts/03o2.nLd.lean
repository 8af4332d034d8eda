/-! the law's methods: their instructions, 2 -/
theorem dL_refusesAny_320 : decode cL_refusesAny 320 = .ok (.goto 4, 3) := by decide +kernel
theorem dL_refusesAny_323 : decode cL_refusesAny 323 = .ok (.iload_n 2, 1) := by decide +kernel
theorem dL_refusesAny_324 : decode cL_refusesAny 324 = .ok (.invokevirtual 44, 3) := by decide +kernel
theorem dL_refusesAny_327 : decode cL_refusesAny 327 = .ok (.ldc 33, 2) := by decide +kernel
theorem dL_refusesAny_329 : decode cL_refusesAny 329 = .ok (.if_icmp .ne 130, 3) := by decide +kernel
theorem dL_refusesAny_332 : decode cL_refusesAny 332 = .ok (.aload_n 0, 1) := by decide +kernel
theorem dL_refusesAny_333 : decode cL_refusesAny 333 = .ok (.iload_n 3, 1) := by decide +kernel
theorem dL_refusesAny_334 : decode cL_refusesAny 334 = .ok (.iconst 0, 1) := by decide +kernel
theorem dL_refusesAny_335 : decode cL_refusesAny 335 = .ok (.invokevirtual 19, 3) := by decide +kernel
theorem dL_refusesAny_338 : decode cL_refusesAny 338 = .ok (.ldc 33, 2) := by decide +kernel
theorem dL_refusesAny_340 : decode cL_refusesAny 340 = .ok (.if_icmp .ne 119, 3) := by decide +kernel
theorem dL_refusesAny_343 : decode cL_refusesAny 343 = .ok (.aload_n 0, 1) := by decide +kernel
theorem dL_refusesAny_344 : decode cL_refusesAny 344 = .ok (.iconst 0, 1) := by decide +kernel
theorem dL_refusesAny_345 : decode cL_refusesAny 345 = .ok (.iload_n 3, 1) := by decide +kernel
theorem dL_refusesAny_346 : decode cL_refusesAny 346 = .ok (.invokevirtual 19, 3) := by decide +kernel
theorem dL_refusesAny_349 : decode cL_refusesAny 349 = .ok (.ldc 33, 2) := by decide +kernel
theorem dL_refusesAny_351 : decode cL_refusesAny 351 = .ok (.if_icmp .ne 108, 3) := by decide +kernel
theorem dL_refusesAny_354 : decode cL_refusesAny 354 = .ok (.aload_n 0, 1) := by decide +kernel
theorem dL_refusesAny_355 : decode cL_refusesAny 355 = .ok (.iload_n 1, 1) := by decide +kernel
theorem dL_refusesAny_356 : decode cL_refusesAny 356 = .ok (.iconst 2, 1) := by decide +kernel
theorem dL_refusesAny_357 : decode cL_refusesAny 357 = .ok (.irem, 1) := by decide +kernel
theorem dL_refusesAny_358 : decode cL_refusesAny 358 = .ok (.ifCond .ne 7, 3) := by decide +kernel
theorem dL_refusesAny_361 : decode cL_refusesAny 361 = .ok (.iconst (-1), 1) := by decide +kernel
theorem dL_refusesAny_362 : decode cL_refusesAny 362 = .ok (.goto 5, 3) := by decide +kernel
theorem dL_refusesAny_365 : decode cL_refusesAny 365 = .ok (.bipush 9, 2) := by decide +kernel
theorem dL_refusesAny_367 : decode cL_refusesAny 367 = .ok (.invokevirtual 11, 3) := by decide +kernel
theorem dL_refusesAny_370 : decode cL_refusesAny 370 = .ok (.ldc 28, 2) := by decide +kernel
theorem dL_refusesAny_372 : decode cL_refusesAny 372 = .ok (.if_icmp .ne 87, 3) := by decide +kernel
theorem dL_refusesAny_375 : decode cL_refusesAny 375 = .ok (.aload_n 0, 1) := by decide +kernel
theorem dL_refusesAny_376 : decode cL_refusesAny 376 = .ok (.iload_n 3, 1) := by decide +kernel
theorem dL_refusesAny_377 : decode cL_refusesAny 377 = .ok (.iload_n 1, 1) := by decide +kernel
theorem dL_refusesAny_378 : decode cL_refusesAny 378 = .ok (.iconst 3, 1) := by decide +kernel
theorem dL_refusesAny_379 : decode cL_refusesAny 379 = .ok (.irem, 1) := by decide +kernel
theorem dL_refusesAny_380 : decode cL_refusesAny 380 = .ok (.ifCond .ne 7, 3) := by decide +kernel
theorem dL_refusesAny_383 : decode cL_refusesAny 383 = .ok (.iconst 1, 1) := by decide +kernel
theorem dL_refusesAny_384 : decode cL_refusesAny 384 = .ok (.goto 4, 3) := by decide +kernel
theorem dL_refusesAny_387 : decode cL_refusesAny 387 = .ok (.iconst 0, 1) := by decide +kernel
theorem dL_refusesAny_388 : decode cL_refusesAny 388 = .ok (.invokevirtual 48, 3) := by decide +kernel
theorem dL_refusesAny_391 : decode cL_refusesAny 391 = .ok (.ldc 33, 2) := by decide +kernel
theorem dL_refusesAny_393 : decode cL_refusesAny 393 = .ok (.if_icmp .ne 66, 3) := by decide +kernel
theorem dL_refusesAny_396 : decode cL_refusesAny 396 = .ok (.aload_n 0, 1) := by decide +kernel
theorem dL_refusesAny_397 : decode cL_refusesAny 397 = .ok (.iconst (-1), 1) := by decide +kernel
theorem dL_refusesAny_398 : decode cL_refusesAny 398 = .ok (.iload_n 1, 1) := by decide +kernel
theorem dL_refusesAny_399 : decode cL_refusesAny 399 = .ok (.bipush 99, 2) := by decide +kernel
theorem dL_refusesAny_401 : decode cL_refusesAny 401 = .ok (.irem, 1) := by decide +kernel
theorem dL_refusesAny_402 : decode cL_refusesAny 402 = .ok (.isub, 1) := by decide +kernel
theorem dL_refusesAny_403 : decode cL_refusesAny 403 = .ok (.invokevirtual 52, 3) := by decide +kernel
theorem dL_refusesAny_406 : decode cL_refusesAny 406 = .ok (.ldc 28, 2) := by decide +kernel
theorem dL_refusesAny_408 : decode cL_refusesAny 408 = .ok (.if_icmp .ne 51, 3) := by decide +kernel
theorem dL_refusesAny_411 : decode cL_refusesAny 411 = .ok (.aload_n 0, 1) := by decide +kernel
theorem dL_refusesAny_412 : decode cL_refusesAny 412 = .ok (.iload_n 3, 1) := by decide +kernel
theorem dL_refusesAny_413 : decode cL_refusesAny 413 = .ok (.iconst 0, 1) := by decide +kernel
theorem dL_refusesAny_414 : decode cL_refusesAny 414 = .ok (.invokevirtual 55, 3) := by decide +kernel
theorem dL_refusesAny_417 : decode cL_refusesAny 417 = .ok (.ldc 33, 2) := by decide +kernel
theorem dL_refusesAny_419 : decode cL_refusesAny 419 = .ok (.if_icmp .ne 40, 3) := by decide +kernel
theorem dL_refusesAny_422 : decode cL_refusesAny 422 = .ok (.aload_n 0, 1) := by decide +kernel
theorem dL_refusesAny_423 : decode cL_refusesAny 423 = .ok (.iconst 0, 1) := by decide +kernel
theorem dL_refusesAny_424 : decode cL_refusesAny 424 = .ok (.iload_n 3, 1) := by decide +kernel
theorem dL_refusesAny_425 : decode cL_refusesAny 425 = .ok (.invokevirtual 55, 3) := by decide +kernel
theorem dL_refusesAny_428 : decode cL_refusesAny 428 = .ok (.ldc 33, 2) := by decide +kernel
theorem dL_refusesAny_430 : decode cL_refusesAny 430 = .ok (.if_icmp .ne 29, 3) := by decide +kernel
theorem dL_refusesAny_433 : decode cL_refusesAny 433 = .ok (.aload_n 0, 1) := by decide +kernel
theorem dL_refusesAny_434 : decode cL_refusesAny 434 = .ok (.iconst (-1), 1) := by decide +kernel
theorem dL_refusesAny_435 : decode cL_refusesAny 435 = .ok (.invokevirtual 58, 3) := by decide +kernel
theorem dL_refusesAny_438 : decode cL_refusesAny 438 = .ok (.ldc 28, 2) := by decide +kernel
theorem dL_refusesAny_440 : decode cL_refusesAny 440 = .ok (.if_icmp .ne 19, 3) := by decide +kernel
theorem dL_refusesAny_443 : decode cL_refusesAny 443 = .ok (.aload_n 0, 1) := by decide +kernel
theorem dL_refusesAny_444 : decode cL_refusesAny 444 = .ok (.iload_n 2, 1) := by decide +kernel
theorem dL_refusesAny_445 : decode cL_refusesAny 445 = .ok (.iconst 1, 1) := by decide +kernel
theorem dL_refusesAny_446 : decode cL_refusesAny 446 = .ok (.iadd, 1) := by decide +kernel
theorem dL_refusesAny_447 : decode cL_refusesAny 447 = .ok (.invokevirtual 58, 3) := by decide +kernel
theorem dL_refusesAny_450 : decode cL_refusesAny 450 = .ok (.ldc 28, 2) := by decide +kernel
theorem dL_refusesAny_452 : decode cL_refusesAny 452 = .ok (.if_icmp .ne 7, 3) := by decide +kernel
theorem dL_refusesAny_455 : decode cL_refusesAny 455 = .ok (.iconst 1, 1) := by decide +kernel
theorem dL_refusesAny_456 : decode cL_refusesAny 456 = .ok (.goto 4, 3) := by decide +kernel
theorem dL_refusesAny_459 : decode cL_refusesAny 459 = .ok (.iconst 0, 1) := by decide +kernel
theorem dL_refusesAny_460 : decode cL_refusesAny 460 = .ok (.istore 5, 2) := by decide +kernel
theorem dL_refusesAny_462 : decode cL_refusesAny 462 = .ok (.iload 5, 2) := by decide +kernel
theorem dL_refusesAny_464 : decode cL_refusesAny 464 = .ok (.ifCond .eq 115, 3) := by decide +kernel
theorem dL_refusesAny_467 : decode cL_refusesAny 467 = .ok (.aload_n 0, 1) := by decide +kernel
theorem dL_refusesAny_468 : decode cL_refusesAny 468 = .ok (.iload_n 3, 1) := by decide +kernel
theorem dL_refusesAny_469 : decode cL_refusesAny 469 = .ok (.iconst 0, 1) := by decide +kernel
theorem dL_refusesAny_470 : decode cL_refusesAny 470 = .ok (.invokevirtual 61, 3) := by decide +kernel
theorem dL_refusesAny_473 : decode cL_refusesAny 473 = .ok (.ldc2_w 65, 3) := by decide +kernel
theorem dL_refusesAny_476 : decode cL_refusesAny 476 = .ok (.lcmp, 1) := by decide +kernel
theorem dL_refusesAny_477 : decode cL_refusesAny 477 = .ok (.ifCond .ne 102, 3) := by decide +kernel
theorem dL_refusesAny_480 : decode cL_refusesAny 480 = .ok (.aload_n 0, 1) := by decide +kernel
theorem dL_refusesAny_481 : decode cL_refusesAny 481 = .ok (.iconst 0, 1) := by decide +kernel
theorem dL_refusesAny_482 : decode cL_refusesAny 482 = .ok (.iload_n 3, 1) := by decide +kernel
theorem dL_refusesAny_483 : decode cL_refusesAny 483 = .ok (.invokevirtual 61, 3) := by decide +kernel
theorem dL_refusesAny_486 : decode cL_refusesAny 486 = .ok (.ldc2_w 65, 3) := by decide +kernel
theorem dL_refusesAny_489 : decode cL_refusesAny 489 = .ok (.lcmp, 1) := by decide +kernel
theorem dL_refusesAny_490 : decode cL_refusesAny 490 = .ok (.ifCond .ne 89, 3) := by decide +kernel
theorem dL_refusesAny_493 : decode cL_refusesAny 493 = .ok (.aload_n 0, 1) := by decide +kernel
theorem dL_refusesAny_494 : decode cL_refusesAny 494 = .ok (.iconst 1, 1) := by decide +kernel
theorem dL_refusesAny_495 : decode cL_refusesAny 495 = .ok (.iload_n 2, 1) := by decide +kernel
theorem dL_refusesAny_496 : decode cL_refusesAny 496 = .ok (.ishl, 1) := by decide +kernel
theorem dL_refusesAny_497 : decode cL_refusesAny 497 = .ok (.iconst 1, 1) := by decide +kernel
theorem dL_refusesAny_498 : decode cL_refusesAny 498 = .ok (.invokevirtual 67, 3) := by decide +kernel
theorem dL_refusesAny_501 : decode cL_refusesAny 501 = .ok (.ldc2_w 65, 3) := by decide +kernel
theorem dL_refusesAny_504 : decode cL_refusesAny 504 = .ok (.lcmp, 1) := by decide +kernel
theorem dL_refusesAny_505 : decode cL_refusesAny 505 = .ok (.ifCond .ne 74, 3) := by decide +kernel
theorem dL_refusesAny_508 : decode cL_refusesAny 508 = .ok (.aload_n 0, 1) := by decide +kernel
theorem dL_refusesAny_509 : decode cL_refusesAny 509 = .ok (.iconst 1, 1) := by decide +kernel
theorem dL_refusesAny_510 : decode cL_refusesAny 510 = .ok (.iconst 1, 1) := by decide +kernel
theorem dL_refusesAny_511 : decode cL_refusesAny 511 = .ok (.iload_n 2, 1) := by decide +kernel
theorem dL_refusesAny_512 : decode cL_refusesAny 512 = .ok (.ishl, 1) := by decide +kernel
theorem dL_refusesAny_513 : decode cL_refusesAny 513 = .ok (.invokevirtual 67, 3) := by decide +kernel
theorem dL_refusesAny_516 : decode cL_refusesAny 516 = .ok (.ldc2_w 65, 3) := by decide +kernel
theorem dL_refusesAny_519 : decode cL_refusesAny 519 = .ok (.lcmp, 1) := by decide +kernel
theorem dL_refusesAny_520 : decode cL_refusesAny 520 = .ok (.ifCond .ne 59, 3) := by decide +kernel
theorem dL_refusesAny_523 : decode cL_refusesAny 523 = .ok (.aload_n 0, 1) := by decide +kernel
theorem dL_refusesAny_524 : decode cL_refusesAny 524 = .ok (.iconst (-1), 1) := by decide +kernel
theorem dL_refusesAny_525 : decode cL_refusesAny 525 = .ok (.iconst (-1), 1) := by decide +kernel
theorem dL_refusesAny_526 : decode cL_refusesAny 526 = .ok (.invokevirtual 67, 3) := by decide +kernel
theorem dL_refusesAny_529 : decode cL_refusesAny 529 = .ok (.ldc2_w 65, 3) := by decide +kernel
theorem dL_refusesAny_532 : decode cL_refusesAny 532 = .ok (.lcmp, 1) := by decide +kernel
theorem dL_refusesAny_533 : decode cL_refusesAny 533 = .ok (.ifCond .ne 46, 3) := by decide +kernel
theorem dL_refusesAny_536 : decode cL_refusesAny 536 = .ok (.aload_n 0, 1) := by decide +kernel
theorem dL_refusesAny_537 : decode cL_refusesAny 537 = .ok (.iconst 1, 1) := by decide +kernel
