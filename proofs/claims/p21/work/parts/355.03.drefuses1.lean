theorem dL_refuses_308 : decode cL_refuses 308 = .ok (.if_icmp .ne 125, 3) := by decide +kernel
theorem dL_refuses_311 : decode cL_refuses 311 = .ok (.aload_n 0, 1) := by decide +kernel
theorem dL_refuses_312 : decode cL_refuses 312 = .ok (.bipush 10, 2) := by decide +kernel
theorem dL_refuses_314 : decode cL_refuses 314 = .ok (.iload 6, 2) := by decide +kernel
theorem dL_refuses_316 : decode cL_refuses 316 = .ok (.iconst 0, 1) := by decide +kernel
theorem dL_refuses_317 : decode cL_refuses 317 = .ok (.iconst 0, 1) := by decide +kernel
theorem dL_refuses_318 : decode cL_refuses 318 = .ok (.invokestatic 66, 3) := by decide +kernel
theorem dL_refuses_321 : decode cL_refuses 321 = .ok (.sipush (-902), 3) := by decide +kernel
theorem dL_refuses_324 : decode cL_refuses 324 = .ok (.if_icmp .ne 109, 3) := by decide +kernel
theorem dL_refuses_327 : decode cL_refuses 327 = .ok (.aload_n 0, 1) := by decide +kernel
theorem dL_refuses_328 : decode cL_refuses 328 = .ok (.bipush 11, 2) := by decide +kernel
theorem dL_refuses_330 : decode cL_refuses 330 = .ok (.iload 6, 2) := by decide +kernel
theorem dL_refuses_332 : decode cL_refuses 332 = .ok (.iconst 0, 1) := by decide +kernel
theorem dL_refuses_333 : decode cL_refuses 333 = .ok (.iconst 1, 1) := by decide +kernel
theorem dL_refuses_334 : decode cL_refuses 334 = .ok (.invokestatic 66, 3) := by decide +kernel
theorem dL_refuses_337 : decode cL_refuses 337 = .ok (.sipush (-901), 3) := by decide +kernel
theorem dL_refuses_340 : decode cL_refuses 340 = .ok (.if_icmp .ne 93, 3) := by decide +kernel
theorem dL_refuses_343 : decode cL_refuses 343 = .ok (.aload_n 0, 1) := by decide +kernel
theorem dL_refuses_344 : decode cL_refuses 344 = .ok (.bipush 11, 2) := by decide +kernel
theorem dL_refuses_346 : decode cL_refuses 346 = .ok (.iconst 0, 1) := by decide +kernel
theorem dL_refuses_347 : decode cL_refuses 347 = .ok (.iload 6, 2) := by decide +kernel
theorem dL_refuses_349 : decode cL_refuses 349 = .ok (.iconst 0, 1) := by decide +kernel
theorem dL_refuses_350 : decode cL_refuses 350 = .ok (.invokestatic 66, 3) := by decide +kernel
theorem dL_refuses_353 : decode cL_refuses 353 = .ok (.sipush (-901), 3) := by decide +kernel
theorem dL_refuses_356 : decode cL_refuses 356 = .ok (.if_icmp .ne 77, 3) := by decide +kernel
theorem dL_refuses_359 : decode cL_refuses 359 = .ok (.aload_n 0, 1) := by decide +kernel
theorem dL_refuses_360 : decode cL_refuses 360 = .ok (.bipush 11, 2) := by decide +kernel
theorem dL_refuses_362 : decode cL_refuses 362 = .ok (.iconst 0, 1) := by decide +kernel
theorem dL_refuses_363 : decode cL_refuses 363 = .ok (.iconst 0, 1) := by decide +kernel
theorem dL_refuses_364 : decode cL_refuses 364 = .ok (.iload 6, 2) := by decide +kernel
theorem dL_refuses_366 : decode cL_refuses 366 = .ok (.invokestatic 66, 3) := by decide +kernel
theorem dL_refuses_369 : decode cL_refuses 369 = .ok (.sipush (-902), 3) := by decide +kernel
theorem dL_refuses_372 : decode cL_refuses 372 = .ok (.if_icmp .ne 61, 3) := by decide +kernel
theorem dL_refuses_375 : decode cL_refuses 375 = .ok (.aload_n 0, 1) := by decide +kernel
theorem dL_refuses_376 : decode cL_refuses 376 = .ok (.bipush 11, 2) := by decide +kernel
theorem dL_refuses_378 : decode cL_refuses 378 = .ok (.iload 4, 2) := by decide +kernel
theorem dL_refuses_380 : decode cL_refuses 380 = .ok (.iconst 0, 1) := by decide +kernel
theorem dL_refuses_381 : decode cL_refuses 381 = .ok (.iload 4, 2) := by decide +kernel
theorem dL_refuses_383 : decode cL_refuses 383 = .ok (.iconst 2, 1) := by decide +kernel
theorem dL_refuses_384 : decode cL_refuses 384 = .ok (.iadd, 1) := by decide +kernel
theorem dL_refuses_385 : decode cL_refuses 385 = .ok (.iconst 4, 1) := by decide +kernel
theorem dL_refuses_386 : decode cL_refuses 386 = .ok (.irem, 1) := by decide +kernel
theorem dL_refuses_387 : decode cL_refuses 387 = .ok (.invokestatic 66, 3) := by decide +kernel
theorem dL_refuses_390 : decode cL_refuses 390 = .ok (.sipush (-902), 3) := by decide +kernel
theorem dL_refuses_393 : decode cL_refuses 393 = .ok (.if_icmp .ne 40, 3) := by decide +kernel
theorem dL_refuses_396 : decode cL_refuses 396 = .ok (.aload_n 0, 1) := by decide +kernel
theorem dL_refuses_397 : decode cL_refuses 397 = .ok (.bipush 11, 2) := by decide +kernel
theorem dL_refuses_399 : decode cL_refuses 399 = .ok (.iload 4, 2) := by decide +kernel
theorem dL_refuses_401 : decode cL_refuses 401 = .ok (.iconst 0, 1) := by decide +kernel
theorem dL_refuses_402 : decode cL_refuses 402 = .ok (.iload 4, 2) := by decide +kernel
theorem dL_refuses_404 : decode cL_refuses 404 = .ok (.invokestatic 66, 3) := by decide +kernel
theorem dL_refuses_407 : decode cL_refuses 407 = .ok (.sipush (-902), 3) := by decide +kernel
theorem dL_refuses_410 : decode cL_refuses 410 = .ok (.if_icmp .ne 23, 3) := by decide +kernel
theorem dL_refuses_413 : decode cL_refuses 413 = .ok (.aload_n 0, 1) := by decide +kernel
theorem dL_refuses_414 : decode cL_refuses 414 = .ok (.bipush 12, 2) := by decide +kernel
theorem dL_refuses_416 : decode cL_refuses 416 = .ok (.iload 7, 2) := by decide +kernel
theorem dL_refuses_418 : decode cL_refuses 418 = .ok (.iconst 0, 1) := by decide +kernel
theorem dL_refuses_419 : decode cL_refuses 419 = .ok (.iconst 0, 1) := by decide +kernel
theorem dL_refuses_420 : decode cL_refuses 420 = .ok (.invokestatic 66, 3) := by decide +kernel
theorem dL_refuses_423 : decode cL_refuses 423 = .ok (.sipush (-902), 3) := by decide +kernel
theorem dL_refuses_426 : decode cL_refuses 426 = .ok (.if_icmp .ne 7, 3) := by decide +kernel
theorem dL_refuses_429 : decode cL_refuses 429 = .ok (.iconst 1, 1) := by decide +kernel
theorem dL_refuses_430 : decode cL_refuses 430 = .ok (.goto 4, 3) := by decide +kernel
theorem dL_refuses_433 : decode cL_refuses 433 = .ok (.iconst 0, 1) := by decide +kernel
theorem dL_refuses_434 : decode cL_refuses 434 = .ok (.istore 8, 2) := by decide +kernel
theorem dL_refuses_436 : decode cL_refuses 436 = .ok (.iload 8, 2) := by decide +kernel
theorem dL_refuses_438 : decode cL_refuses 438 = .ok (.ifCond .ne 5, 3) := by decide +kernel
theorem dL_refuses_441 : decode cL_refuses 441 = .ok (.iconst 0, 1) := by decide +kernel
theorem dL_refuses_442 : decode cL_refuses 442 = .ok (.ireturn, 1) := by decide +kernel
theorem dL_refuses_443 : decode cL_refuses 443 = .ok (.iinc 4 1, 3) := by decide +kernel
theorem dL_refuses_446 : decode cL_refuses 446 = .ok (.goto (-430), 3) := by decide +kernel
theorem dL_refuses_449 : decode cL_refuses 449 = .ok (.iload_n 1, 1) := by decide +kernel
theorem dL_refuses_450 : decode cL_refuses 450 = .ok (.iconst 1, 1) := by decide +kernel
theorem dL_refuses_451 : decode cL_refuses 451 = .ok (.if_icmp .eq 31, 3) := by decide +kernel
theorem dL_refuses_454 : decode cL_refuses 454 = .ok (.aload_n 0, 1) := by decide +kernel
theorem dL_refuses_455 : decode cL_refuses 455 = .ok (.iconst 1, 1) := by decide +kernel
theorem dL_refuses_456 : decode cL_refuses 456 = .ok (.iconst 0, 1) := by decide +kernel
theorem dL_refuses_457 : decode cL_refuses 457 = .ok (.iconst 0, 1) := by decide +kernel
theorem dL_refuses_458 : decode cL_refuses 458 = .ok (.iconst 0, 1) := by decide +kernel
theorem dL_refuses_459 : decode cL_refuses 459 = .ok (.invokestatic 66, 3) := by decide +kernel
theorem dL_refuses_462 : decode cL_refuses 462 = .ok (.sipush (-903), 3) := by decide +kernel
theorem dL_refuses_465 : decode cL_refuses 465 = .ok (.if_icmp .ne 69, 3) := by decide +kernel
theorem dL_refuses_468 : decode cL_refuses 468 = .ok (.aload_n 0, 1) := by decide +kernel
theorem dL_refuses_469 : decode cL_refuses 469 = .ok (.iconst 2, 1) := by decide +kernel
theorem dL_refuses_470 : decode cL_refuses 470 = .ok (.iconst 0, 1) := by decide +kernel
theorem dL_refuses_471 : decode cL_refuses 471 = .ok (.iconst 0, 1) := by decide +kernel
theorem dL_refuses_472 : decode cL_refuses 472 = .ok (.iconst 0, 1) := by decide +kernel
theorem dL_refuses_473 : decode cL_refuses 473 = .ok (.invokestatic 66, 3) := by decide +kernel
theorem dL_refuses_476 : decode cL_refuses 476 = .ok (.sipush (-903), 3) := by decide +kernel
theorem dL_refuses_479 : decode cL_refuses 479 = .ok (.if_icmp .ne 55, 3) := by decide +kernel
theorem dL_refuses_482 : decode cL_refuses 482 = .ok (.iload_n 1, 1) := by decide +kernel
theorem dL_refuses_483 : decode cL_refuses 483 = .ok (.ifCond .eq 47, 3) := by decide +kernel
theorem dL_refuses_486 : decode cL_refuses 486 = .ok (.aload_n 0, 1) := by decide +kernel
theorem dL_refuses_487 : decode cL_refuses 487 = .ok (.iconst 0, 1) := by decide +kernel
theorem dL_refuses_488 : decode cL_refuses 488 = .ok (.iconst 3, 1) := by decide +kernel
theorem dL_refuses_489 : decode cL_refuses 489 = .ok (.iconst 0, 1) := by decide +kernel
theorem dL_refuses_490 : decode cL_refuses 490 = .ok (.iconst 0, 1) := by decide +kernel
theorem dL_refuses_491 : decode cL_refuses 491 = .ok (.invokestatic 66, 3) := by decide +kernel
theorem dL_refuses_494 : decode cL_refuses 494 = .ok (.sipush (-903), 3) := by decide +kernel
theorem dL_refuses_497 : decode cL_refuses 497 = .ok (.if_icmp .ne 37, 3) := by decide +kernel
theorem dL_refuses_500 : decode cL_refuses 500 = .ok (.aload_n 0, 1) := by decide +kernel
theorem dL_refuses_501 : decode cL_refuses 501 = .ok (.bipush 10, 2) := by decide +kernel
theorem dL_refuses_503 : decode cL_refuses 503 = .ok (.iconst 0, 1) := by decide +kernel
theorem dL_refuses_504 : decode cL_refuses 504 = .ok (.iconst 0, 1) := by decide +kernel
theorem dL_refuses_505 : decode cL_refuses 505 = .ok (.iconst 0, 1) := by decide +kernel
theorem dL_refuses_506 : decode cL_refuses 506 = .ok (.invokestatic 66, 3) := by decide +kernel
theorem dL_refuses_509 : decode cL_refuses 509 = .ok (.sipush (-903), 3) := by decide +kernel
theorem dL_refuses_512 : decode cL_refuses 512 = .ok (.if_icmp .ne 22, 3) := by decide +kernel
theorem dL_refuses_515 : decode cL_refuses 515 = .ok (.aload_n 0, 1) := by decide +kernel
theorem dL_refuses_516 : decode cL_refuses 516 = .ok (.bipush 12, 2) := by decide +kernel
theorem dL_refuses_518 : decode cL_refuses 518 = .ok (.iconst 3, 1) := by decide +kernel
theorem dL_refuses_519 : decode cL_refuses 519 = .ok (.iconst 0, 1) := by decide +kernel
theorem dL_refuses_520 : decode cL_refuses 520 = .ok (.iconst 0, 1) := by decide +kernel
theorem dL_refuses_521 : decode cL_refuses 521 = .ok (.invokestatic 66, 3) := by decide +kernel
theorem dL_refuses_524 : decode cL_refuses 524 = .ok (.sipush (-903), 3) := by decide +kernel
theorem dL_refuses_527 : decode cL_refuses 527 = .ok (.if_icmp .ne 7, 3) := by decide +kernel
theorem dL_refuses_530 : decode cL_refuses 530 = .ok (.iconst 1, 1) := by decide +kernel
theorem dL_refuses_531 : decode cL_refuses 531 = .ok (.goto 4, 3) := by decide +kernel
theorem dL_refuses_534 : decode cL_refuses 534 = .ok (.iconst 0, 1) := by decide +kernel
theorem dL_refuses_535 : decode cL_refuses 535 = .ok (.istore 4, 2) := by decide +kernel
theorem dL_refuses_537 : decode cL_refuses 537 = .ok (.iload 4, 2) := by decide +kernel
theorem dL_refuses_539 : decode cL_refuses 539 = .ok (.ifCond .eq 23, 3) := by decide +kernel
theorem dL_refuses_542 : decode cL_refuses 542 = .ok (.aload_n 0, 1) := by decide +kernel
theorem dL_refuses_543 : decode cL_refuses 543 = .ok (.invokevirtual 59, 3) := by decide +kernel
theorem dL_refuses_546 : decode cL_refuses 546 = .ok (.iload_n 1, 1) := by decide +kernel
theorem dL_refuses_547 : decode cL_refuses 547 = .ok (.if_icmp .ne 15, 3) := by decide +kernel
theorem dL_refuses_550 : decode cL_refuses 550 = .ok (.aload_n 0, 1) := by decide +kernel
theorem dL_refuses_551 : decode cL_refuses 551 = .ok (.invokevirtual 62, 3) := by decide +kernel
theorem dL_refuses_554 : decode cL_refuses 554 = .ok (.iload_n 2, 1) := by decide +kernel
theorem dL_refuses_555 : decode cL_refuses 555 = .ok (.if_icmp .ne 7, 3) := by decide +kernel
theorem dL_refuses_558 : decode cL_refuses 558 = .ok (.iconst 1, 1) := by decide +kernel
theorem dL_refuses_559 : decode cL_refuses 559 = .ok (.goto 4, 3) := by decide +kernel
theorem dL_refuses_562 : decode cL_refuses 562 = .ok (.iconst 0, 1) := by decide +kernel
theorem dL_refuses_563 : decode cL_refuses 563 = .ok (.ireturn, 1) := by decide +kernel
