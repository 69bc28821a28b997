theorem dL_captures_321 : decode cL_captures 321 = .ok (.invokestatic 90, 3) := by decide +kernel
theorem dL_captures_324 : decode cL_captures 324 = .ok (.ifCond .eq 77, 3) := by decide +kernel
theorem dL_captures_327 : decode cL_captures 327 = .ok (.aload_n 0, 1) := by decide +kernel
theorem dL_captures_328 : decode cL_captures 328 = .ok (.bipush 6, 2) := by decide +kernel
theorem dL_captures_330 : decode cL_captures 330 = .ok (.bipush 15, 2) := by decide +kernel
theorem dL_captures_332 : decode cL_captures 332 = .ok (.iconst 0, 1) := by decide +kernel
theorem dL_captures_333 : decode cL_captures 333 = .ok (.iconst 1, 1) := by decide +kernel
theorem dL_captures_334 : decode cL_captures 334 = .ok (.invokestatic 86, 3) := by decide +kernel
theorem dL_captures_337 : decode cL_captures 337 = .ok (.ifCond .eq 64, 3) := by decide +kernel
theorem dL_captures_340 : decode cL_captures 340 = .ok (.aload_n 0, 1) := by decide +kernel
theorem dL_captures_341 : decode cL_captures 341 = .ok (.iconst 4, 1) := by decide +kernel
theorem dL_captures_342 : decode cL_captures 342 = .ok (.iconst 1, 1) := by decide +kernel
theorem dL_captures_343 : decode cL_captures 343 = .ok (.iconst 0, 1) := by decide +kernel
theorem dL_captures_344 : decode cL_captures 344 = .ok (.iconst 5, 1) := by decide +kernel
theorem dL_captures_345 : decode cL_captures 345 = .ok (.invokestatic 86, 3) := by decide +kernel
theorem dL_captures_348 : decode cL_captures 348 = .ok (.ifCond .eq 53, 3) := by decide +kernel
theorem dL_captures_351 : decode cL_captures 351 = .ok (.aload_n 0, 1) := by decide +kernel
theorem dL_captures_352 : decode cL_captures 352 = .ok (.iconst 3, 1) := by decide +kernel
theorem dL_captures_353 : decode cL_captures 353 = .ok (.iconst 0, 1) := by decide +kernel
theorem dL_captures_354 : decode cL_captures 354 = .ok (.invokevirtual 24, 3) := by decide +kernel
theorem dL_captures_357 : decode cL_captures 357 = .ok (.bipush 59, 2) := by decide +kernel
theorem dL_captures_359 : decode cL_captures 359 = .ok (.if_icmp .ne 42, 3) := by decide +kernel
theorem dL_captures_362 : decode cL_captures 362 = .ok (.aload_n 0, 1) := by decide +kernel
theorem dL_captures_363 : decode cL_captures 363 = .ok (.invokevirtual 62, 3) := by decide +kernel
theorem dL_captures_366 : decode cL_captures 366 = .ok (.ifCond .ne 35, 3) := by decide +kernel
theorem dL_captures_369 : decode cL_captures 369 = .ok (.aload_n 0, 1) := by decide +kernel
theorem dL_captures_370 : decode cL_captures 370 = .ok (.iconst 1, 1) := by decide +kernel
theorem dL_captures_371 : decode cL_captures 371 = .ok (.bipush 15, 2) := by decide +kernel
theorem dL_captures_373 : decode cL_captures 373 = .ok (.iconst 0, 1) := by decide +kernel
theorem dL_captures_374 : decode cL_captures 374 = .ok (.iconst 1, 1) := by decide +kernel
theorem dL_captures_375 : decode cL_captures 375 = .ok (.invokestatic 86, 3) := by decide +kernel
theorem dL_captures_378 : decode cL_captures 378 = .ok (.ifCond .eq 23, 3) := by decide +kernel
theorem dL_captures_381 : decode cL_captures 381 = .ok (.aload_n 0, 1) := by decide +kernel
theorem dL_captures_382 : decode cL_captures 382 = .ok (.iconst 5, 1) := by decide +kernel
theorem dL_captures_383 : decode cL_captures 383 = .ok (.iconst 1, 1) := by decide +kernel
theorem dL_captures_384 : decode cL_captures 384 = .ok (.iconst 0, 1) := by decide +kernel
theorem dL_captures_385 : decode cL_captures 385 = .ok (.bipush 6, 2) := by decide +kernel
theorem dL_captures_387 : decode cL_captures 387 = .ok (.invokestatic 86, 3) := by decide +kernel
theorem dL_captures_390 : decode cL_captures 390 = .ok (.ifCond .eq 11, 3) := by decide +kernel
theorem dL_captures_393 : decode cL_captures 393 = .ok (.aload_n 0, 1) := by decide +kernel
theorem dL_captures_394 : decode cL_captures 394 = .ok (.invokevirtual 62, 3) := by decide +kernel
theorem dL_captures_397 : decode cL_captures 397 = .ok (.iconst 1, 1) := by decide +kernel
theorem dL_captures_398 : decode cL_captures 398 = .ok (.if_icmp .eq 5, 3) := by decide +kernel
theorem dL_captures_401 : decode cL_captures 401 = .ok (.iconst 0, 1) := by decide +kernel
theorem dL_captures_402 : decode cL_captures 402 = .ok (.ireturn, 1) := by decide +kernel
theorem dL_captures_403 : decode cL_captures 403 = .ok (.aload_n 0, 1) := by decide +kernel
theorem dL_captures_404 : decode cL_captures 404 = .ok (.iconst 0, 1) := by decide +kernel
theorem dL_captures_405 : decode cL_captures 405 = .ok (.bipush 15, 2) := by decide +kernel
theorem dL_captures_407 : decode cL_captures 407 = .ok (.iconst 2, 1) := by decide +kernel
theorem dL_captures_408 : decode cL_captures 408 = .ok (.bipush 32, 2) := by decide +kernel
theorem dL_captures_410 : decode cL_captures 410 = .ok (.invokestatic 86, 3) := by decide +kernel
theorem dL_captures_413 : decode cL_captures 413 = .ok (.ifCond .eq 197, 3) := by decide +kernel
theorem dL_captures_416 : decode cL_captures 416 = .ok (.aload_n 0, 1) := by decide +kernel
theorem dL_captures_417 : decode cL_captures 417 = .ok (.iconst 2, 1) := by decide +kernel
theorem dL_captures_418 : decode cL_captures 418 = .ok (.iconst 4, 1) := by decide +kernel
theorem dL_captures_419 : decode cL_captures 419 = .ok (.iconst 2, 1) := by decide +kernel
theorem dL_captures_420 : decode cL_captures 420 = .ok (.bipush 34, 2) := by decide +kernel
theorem dL_captures_422 : decode cL_captures 422 = .ok (.invokestatic 86, 3) := by decide +kernel
theorem dL_captures_425 : decode cL_captures 425 = .ok (.ifCond .eq 185, 3) := by decide +kernel
theorem dL_captures_428 : decode cL_captures 428 = .ok (.aload_n 0, 1) := by decide +kernel
theorem dL_captures_429 : decode cL_captures 429 = .ok (.iconst 1, 1) := by decide +kernel
theorem dL_captures_430 : decode cL_captures 430 = .ok (.iconst 2, 1) := by decide +kernel
theorem dL_captures_431 : decode cL_captures 431 = .ok (.invokevirtual 24, 3) := by decide +kernel
theorem dL_captures_434 : decode cL_captures 434 = .ok (.bipush 54, 2) := by decide +kernel
theorem dL_captures_436 : decode cL_captures 436 = .ok (.if_icmp .ne 174, 3) := by decide +kernel
theorem dL_captures_439 : decode cL_captures 439 = .ok (.aload_n 0, 1) := by decide +kernel
theorem dL_captures_440 : decode cL_captures 440 = .ok (.iconst 2, 1) := by decide +kernel
theorem dL_captures_441 : decode cL_captures 441 = .ok (.invokestatic 90, 3) := by decide +kernel
theorem dL_captures_444 : decode cL_captures 444 = .ok (.ifCond .eq 166, 3) := by decide +kernel
theorem dL_captures_447 : decode cL_captures 447 = .ok (.aload_n 0, 1) := by decide +kernel
theorem dL_captures_448 : decode cL_captures 448 = .ok (.iconst 2, 1) := by decide +kernel
theorem dL_captures_449 : decode cL_captures 449 = .ok (.iconst 1, 1) := by decide +kernel
theorem dL_captures_450 : decode cL_captures 450 = .ok (.iconst 0, 1) := by decide +kernel
theorem dL_captures_451 : decode cL_captures 451 = .ok (.bipush 7, 2) := by decide +kernel
theorem dL_captures_453 : decode cL_captures 453 = .ok (.invokestatic 86, 3) := by decide +kernel
theorem dL_captures_456 : decode cL_captures 456 = .ok (.ifCond .eq 154, 3) := by decide +kernel
theorem dL_captures_459 : decode cL_captures 459 = .ok (.aload_n 0, 1) := by decide +kernel
theorem dL_captures_460 : decode cL_captures 460 = .ok (.iconst 2, 1) := by decide +kernel
theorem dL_captures_461 : decode cL_captures 461 = .ok (.iconst 1, 1) := by decide +kernel
theorem dL_captures_462 : decode cL_captures 462 = .ok (.iconst 0, 1) := by decide +kernel
theorem dL_captures_463 : decode cL_captures 463 = .ok (.bipush 8, 2) := by decide +kernel
theorem dL_captures_465 : decode cL_captures 465 = .ok (.invokestatic 86, 3) := by decide +kernel
theorem dL_captures_468 : decode cL_captures 468 = .ok (.ifCond .eq 142, 3) := by decide +kernel
theorem dL_captures_471 : decode cL_captures 471 = .ok (.aload_n 0, 1) := by decide +kernel
theorem dL_captures_472 : decode cL_captures 472 = .ok (.iconst 0, 1) := by decide +kernel
theorem dL_captures_473 : decode cL_captures 473 = .ok (.iconst 0, 1) := by decide +kernel
theorem dL_captures_474 : decode cL_captures 474 = .ok (.invokevirtual 24, 3) := by decide +kernel
theorem dL_captures_477 : decode cL_captures 477 = .ok (.bipush 11, 2) := by decide +kernel
theorem dL_captures_479 : decode cL_captures 479 = .ok (.if_icmp .ne 131, 3) := by decide +kernel
theorem dL_captures_482 : decode cL_captures 482 = .ok (.aload_n 0, 1) := by decide +kernel
theorem dL_captures_483 : decode cL_captures 483 = .ok (.bipush 11, 2) := by decide +kernel
theorem dL_captures_485 : decode cL_captures 485 = .ok (.invokevirtual 30, 3) := by decide +kernel
theorem dL_captures_488 : decode cL_captures 488 = .ok (.ifCond .eq 122, 3) := by decide +kernel
theorem dL_captures_491 : decode cL_captures 491 = .ok (.aload_n 0, 1) := by decide +kernel
theorem dL_captures_492 : decode cL_captures 492 = .ok (.iconst 2, 1) := by decide +kernel
theorem dL_captures_493 : decode cL_captures 493 = .ok (.iconst 4, 1) := by decide +kernel
theorem dL_captures_494 : decode cL_captures 494 = .ok (.iconst 2, 1) := by decide +kernel
theorem dL_captures_495 : decode cL_captures 495 = .ok (.bipush 36, 2) := by decide +kernel
theorem dL_captures_497 : decode cL_captures 497 = .ok (.invokestatic 86, 3) := by decide +kernel
theorem dL_captures_500 : decode cL_captures 500 = .ok (.ifCond .eq 110, 3) := by decide +kernel
theorem dL_captures_503 : decode cL_captures 503 = .ok (.aload_n 0, 1) := by decide +kernel
theorem dL_captures_504 : decode cL_captures 504 = .ok (.invokevirtual 62, 3) := by decide +kernel
theorem dL_captures_507 : decode cL_captures 507 = .ok (.iconst 2, 1) := by decide +kernel
theorem dL_captures_508 : decode cL_captures 508 = .ok (.if_icmp .ne 102, 3) := by decide +kernel
theorem dL_captures_511 : decode cL_captures 511 = .ok (.aload_n 0, 1) := by decide +kernel
theorem dL_captures_512 : decode cL_captures 512 = .ok (.iconst 1, 1) := by decide +kernel
theorem dL_captures_513 : decode cL_captures 513 = .ok (.bipush 15, 2) := by decide +kernel
theorem dL_captures_515 : decode cL_captures 515 = .ok (.iconst 0, 1) := by decide +kernel
theorem dL_captures_516 : decode cL_captures 516 = .ok (.iconst 1, 1) := by decide +kernel
theorem dL_captures_517 : decode cL_captures 517 = .ok (.invokestatic 86, 3) := by decide +kernel
theorem dL_captures_520 : decode cL_captures 520 = .ok (.ifCond .eq 90, 3) := by decide +kernel
theorem dL_captures_523 : decode cL_captures 523 = .ok (.aload_n 0, 1) := by decide +kernel
theorem dL_captures_524 : decode cL_captures 524 = .ok (.iconst 2, 1) := by decide +kernel
theorem dL_captures_525 : decode cL_captures 525 = .ok (.iconst 0, 1) := by decide +kernel
theorem dL_captures_526 : decode cL_captures 526 = .ok (.invokevirtual 24, 3) := by decide +kernel
theorem dL_captures_529 : decode cL_captures 529 = .ok (.bipush 38, 2) := by decide +kernel
theorem dL_captures_531 : decode cL_captures 531 = .ok (.if_icmp .ne 79, 3) := by decide +kernel
theorem dL_captures_534 : decode cL_captures 534 = .ok (.aload_n 0, 1) := by decide +kernel
theorem dL_captures_535 : decode cL_captures 535 = .ok (.iconst 1, 1) := by decide +kernel
theorem dL_captures_536 : decode cL_captures 536 = .ok (.bipush 15, 2) := by decide +kernel
theorem dL_captures_538 : decode cL_captures 538 = .ok (.iconst 0, 1) := by decide +kernel
theorem dL_captures_539 : decode cL_captures 539 = .ok (.bipush 11, 2) := by decide +kernel
theorem dL_captures_541 : decode cL_captures 541 = .ok (.invokestatic 86, 3) := by decide +kernel
theorem dL_captures_544 : decode cL_captures 544 = .ok (.ifCond .eq 66, 3) := by decide +kernel
theorem dL_captures_547 : decode cL_captures 547 = .ok (.aload_n 0, 1) := by decide +kernel
theorem dL_captures_548 : decode cL_captures 548 = .ok (.iconst 4, 1) := by decide +kernel
theorem dL_captures_549 : decode cL_captures 549 = .ok (.iconst 1, 1) := by decide +kernel
theorem dL_captures_550 : decode cL_captures 550 = .ok (.iconst 0, 1) := by decide +kernel
theorem dL_captures_551 : decode cL_captures 551 = .ok (.bipush 15, 2) := by decide +kernel
theorem dL_captures_553 : decode cL_captures 553 = .ok (.invokestatic 86, 3) := by decide +kernel
theorem dL_captures_556 : decode cL_captures 556 = .ok (.ifCond .eq 54, 3) := by decide +kernel
theorem dL_captures_559 : decode cL_captures 559 = .ok (.aload_n 0, 1) := by decide +kernel
theorem dL_captures_560 : decode cL_captures 560 = .ok (.iconst 2, 1) := by decide +kernel
theorem dL_captures_561 : decode cL_captures 561 = .ok (.iconst 0, 1) := by decide +kernel
theorem dL_captures_562 : decode cL_captures 562 = .ok (.invokevirtual 24, 3) := by decide +kernel
theorem dL_captures_565 : decode cL_captures 565 = .ok (.bipush 52, 2) := by decide +kernel
theorem dL_captures_567 : decode cL_captures 567 = .ok (.if_icmp .ne 43, 3) := by decide +kernel
theorem dL_captures_570 : decode cL_captures 570 = .ok (.aload_n 0, 1) := by decide +kernel
theorem dL_captures_571 : decode cL_captures 571 = .ok (.iconst 1, 1) := by decide +kernel
theorem dL_captures_572 : decode cL_captures 572 = .ok (.iconst 2, 1) := by decide +kernel
theorem dL_captures_573 : decode cL_captures 573 = .ok (.iconst 2, 1) := by decide +kernel
theorem dL_captures_574 : decode cL_captures 574 = .ok (.invokevirtual 46, 3) := by decide +kernel
theorem dL_captures_577 : decode cL_captures 577 = .ok (.bipush 15, 2) := by decide +kernel
theorem dL_captures_579 : decode cL_captures 579 = .ok (.if_icmp .ne 31, 3) := by decide +kernel
theorem dL_captures_582 : decode cL_captures 582 = .ok (.aload_n 0, 1) := by decide +kernel
theorem dL_captures_583 : decode cL_captures 583 = .ok (.iconst 1, 1) := by decide +kernel
theorem dL_captures_584 : decode cL_captures 584 = .ok (.iconst 2, 1) := by decide +kernel
theorem dL_captures_585 : decode cL_captures 585 = .ok (.iconst 0, 1) := by decide +kernel
theorem dL_captures_586 : decode cL_captures 586 = .ok (.invokevirtual 46, 3) := by decide +kernel
theorem dL_captures_589 : decode cL_captures 589 = .ok (.ifCond .ne 21, 3) := by decide +kernel
theorem dL_captures_592 : decode cL_captures 592 = .ok (.aload_n 0, 1) := by decide +kernel
theorem dL_captures_593 : decode cL_captures 593 = .ok (.iconst 2, 1) := by decide +kernel
theorem dL_captures_594 : decode cL_captures 594 = .ok (.iconst 0, 1) := by decide +kernel
theorem dL_captures_595 : decode cL_captures 595 = .ok (.iconst 1, 1) := by decide +kernel
theorem dL_captures_596 : decode cL_captures 596 = .ok (.invokevirtual 46, 3) := by decide +kernel
theorem dL_captures_599 : decode cL_captures 599 = .ok (.ifCond .ne 11, 3) := by decide +kernel
theorem dL_captures_602 : decode cL_captures 602 = .ok (.aload_n 0, 1) := by decide +kernel
theorem dL_captures_603 : decode cL_captures 603 = .ok (.invokevirtual 62, 3) := by decide +kernel
theorem dL_captures_606 : decode cL_captures 606 = .ok (.iconst 3, 1) := by decide +kernel
theorem dL_captures_607 : decode cL_captures 607 = .ok (.if_icmp .eq 5, 3) := by decide +kernel
