theorem dL_castles_297 : decode cL_castles 297 = .ok (.invokevirtual 62, 3) := by decide +kernel
theorem dL_castles_300 : decode cL_castles 300 = .ok (.iconst 3, 1) := by decide +kernel
theorem dL_castles_301 : decode cL_castles 301 = .ok (.if_icmp .ne 40, 3) := by decide +kernel
theorem dL_castles_304 : decode cL_castles 304 = .ok (.aload_n 0, 1) := by decide +kernel
theorem dL_castles_305 : decode cL_castles 305 = .ok (.iconst 5, 1) := by decide +kernel
theorem dL_castles_306 : decode cL_castles 306 = .ok (.invokevirtual 7, 3) := by decide +kernel
theorem dL_castles_309 : decode cL_castles 309 = .ok (.iconst 5, 1) := by decide +kernel
theorem dL_castles_310 : decode cL_castles 310 = .ok (.if_icmp .ne 31, 3) := by decide +kernel
theorem dL_castles_313 : decode cL_castles 313 = .ok (.aload_n 0, 1) := by decide +kernel
theorem dL_castles_314 : decode cL_castles 314 = .ok (.invokevirtual 16, 3) := by decide +kernel
theorem dL_castles_317 : decode cL_castles 317 = .ok (.iconst 2, 1) := by decide +kernel
theorem dL_castles_318 : decode cL_castles 318 = .ok (.if_icmp .ne 23, 3) := by decide +kernel
theorem dL_castles_321 : decode cL_castles 321 = .ok (.aload_n 0, 1) := by decide +kernel
theorem dL_castles_322 : decode cL_castles 322 = .ok (.iconst 1, 1) := by decide +kernel
theorem dL_castles_323 : decode cL_castles 323 = .ok (.invokevirtual 13, 3) := by decide +kernel
theorem dL_castles_326 : decode cL_castles 326 = .ok (.bipush 16, 2) := by decide +kernel
theorem dL_castles_328 : decode cL_castles 328 = .ok (.if_icmp .ne 13, 3) := by decide +kernel
theorem dL_castles_331 : decode cL_castles 331 = .ok (.aload_n 0, 1) := by decide +kernel
theorem dL_castles_332 : decode cL_castles 332 = .ok (.iconst 3, 1) := by decide +kernel
theorem dL_castles_333 : decode cL_castles 333 = .ok (.iconst 1, 1) := by decide +kernel
theorem dL_castles_334 : decode cL_castles 334 = .ok (.invokevirtual 24, 3) := by decide +kernel
theorem dL_castles_337 : decode cL_castles 337 = .ok (.iconst 2, 1) := by decide +kernel
theorem dL_castles_338 : decode cL_castles 338 = .ok (.if_icmp .eq 5, 3) := by decide +kernel
theorem dL_castles_341 : decode cL_castles 341 = .ok (.iconst 0, 1) := by decide +kernel
theorem dL_castles_342 : decode cL_castles 342 = .ok (.ireturn, 1) := by decide +kernel
theorem dL_castles_343 : decode cL_castles 343 = .ok (.aload_n 0, 1) := by decide +kernel
theorem dL_castles_344 : decode cL_castles 344 = .ok (.iconst 3, 1) := by decide +kernel
theorem dL_castles_345 : decode cL_castles 345 = .ok (.bipush 7, 2) := by decide +kernel
theorem dL_castles_347 : decode cL_castles 347 = .ok (.iconst 1, 1) := by decide +kernel
theorem dL_castles_348 : decode cL_castles 348 = .ok (.iconst 4, 1) := by decide +kernel
theorem dL_castles_349 : decode cL_castles 349 = .ok (.invokestatic 86, 3) := by decide +kernel
theorem dL_castles_352 : decode cL_castles 352 = .ok (.ifCond .eq 29, 3) := by decide +kernel
theorem dL_castles_355 : decode cL_castles 355 = .ok (.aload_n 0, 1) := by decide +kernel
theorem dL_castles_356 : decode cL_castles 356 = .ok (.iconst 4, 1) := by decide +kernel
theorem dL_castles_357 : decode cL_castles 357 = .ok (.iconst 0, 1) := by decide +kernel
theorem dL_castles_358 : decode cL_castles 358 = .ok (.invokevirtual 27, 3) := by decide +kernel
theorem dL_castles_361 : decode cL_castles 361 = .ok (.iconst 1, 1) := by decide +kernel
theorem dL_castles_362 : decode cL_castles 362 = .ok (.if_icmp .ne 19, 3) := by decide +kernel
theorem dL_castles_365 : decode cL_castles 365 = .ok (.aload_n 0, 1) := by decide +kernel
theorem dL_castles_366 : decode cL_castles 366 = .ok (.iconst 1, 1) := by decide +kernel
theorem dL_castles_367 : decode cL_castles 367 = .ok (.invokestatic 90, 3) := by decide +kernel
theorem dL_castles_370 : decode cL_castles 370 = .ok (.ifCond .eq 11, 3) := by decide +kernel
theorem dL_castles_373 : decode cL_castles 373 = .ok (.aload_n 0, 1) := by decide +kernel
theorem dL_castles_374 : decode cL_castles 374 = .ok (.iconst 2, 1) := by decide +kernel
theorem dL_castles_375 : decode cL_castles 375 = .ok (.invokestatic 90, 3) := by decide +kernel
theorem dL_castles_378 : decode cL_castles 378 = .ok (.ifCond .ne 5, 3) := by decide +kernel
theorem dL_castles_381 : decode cL_castles 381 = .ok (.iconst 0, 1) := by decide +kernel
theorem dL_castles_382 : decode cL_castles 382 = .ok (.ireturn, 1) := by decide +kernel
theorem dL_castles_383 : decode cL_castles 383 = .ok (.aload_n 0, 1) := by decide +kernel
theorem dL_castles_384 : decode cL_castles 384 = .ok (.iconst 0, 1) := by decide +kernel
theorem dL_castles_385 : decode cL_castles 385 = .ok (.iconst 2, 1) := by decide +kernel
theorem dL_castles_386 : decode cL_castles 386 = .ok (.iconst 3, 1) := by decide +kernel
theorem dL_castles_387 : decode cL_castles 387 = .ok (.invokevirtual 46, 3) := by decide +kernel
theorem dL_castles_390 : decode cL_castles 390 = .ok (.ifCond .ne 54, 3) := by decide +kernel
theorem dL_castles_393 : decode cL_castles 393 = .ok (.aload_n 0, 1) := by decide +kernel
theorem dL_castles_394 : decode cL_castles 394 = .ok (.iconst 0, 1) := by decide +kernel
theorem dL_castles_395 : decode cL_castles 395 = .ok (.iconst 1, 1) := by decide +kernel
theorem dL_castles_396 : decode cL_castles 396 = .ok (.iconst 3, 1) := by decide +kernel
theorem dL_castles_397 : decode cL_castles 397 = .ok (.invokevirtual 46, 3) := by decide +kernel
theorem dL_castles_400 : decode cL_castles 400 = .ok (.bipush 21, 2) := by decide +kernel
theorem dL_castles_402 : decode cL_castles 402 = .ok (.if_icmp .ne 42, 3) := by decide +kernel
theorem dL_castles_405 : decode cL_castles 405 = .ok (.aload_n 0, 1) := by decide +kernel
theorem dL_castles_406 : decode cL_castles 406 = .ok (.iconst 2, 1) := by decide +kernel
theorem dL_castles_407 : decode cL_castles 407 = .ok (.invokevirtual 7, 3) := by decide +kernel
theorem dL_castles_410 : decode cL_castles 410 = .ok (.iconst 2, 1) := by decide +kernel
theorem dL_castles_411 : decode cL_castles 411 = .ok (.if_icmp .ne 33, 3) := by decide +kernel
theorem dL_castles_414 : decode cL_castles 414 = .ok (.aload_n 0, 1) := by decide +kernel
theorem dL_castles_415 : decode cL_castles 415 = .ok (.invokevirtual 16, 3) := by decide +kernel
theorem dL_castles_418 : decode cL_castles 418 = .ok (.bipush 8, 2) := by decide +kernel
theorem dL_castles_420 : decode cL_castles 420 = .ok (.if_icmp .ne 24, 3) := by decide +kernel
theorem dL_castles_423 : decode cL_castles 423 = .ok (.aload_n 0, 1) := by decide +kernel
theorem dL_castles_424 : decode cL_castles 424 = .ok (.iconst 3, 1) := by decide +kernel
theorem dL_castles_425 : decode cL_castles 425 = .ok (.invokevirtual 13, 3) := by decide +kernel
theorem dL_castles_428 : decode cL_castles 428 = .ok (.bipush 19, 2) := by decide +kernel
theorem dL_castles_430 : decode cL_castles 430 = .ok (.if_icmp .ne 14, 3) := by decide +kernel
theorem dL_castles_433 : decode cL_castles 433 = .ok (.aload_n 0, 1) := by decide +kernel
theorem dL_castles_434 : decode cL_castles 434 = .ok (.invokevirtual 62, 3) := by decide +kernel
theorem dL_castles_437 : decode cL_castles 437 = .ok (.ifCond .ne 7, 3) := by decide +kernel
theorem dL_castles_440 : decode cL_castles 440 = .ok (.iconst 1, 1) := by decide +kernel
theorem dL_castles_441 : decode cL_castles 441 = .ok (.goto 4, 3) := by decide +kernel
theorem dL_castles_444 : decode cL_castles 444 = .ok (.iconst 0, 1) := by decide +kernel
theorem dL_castles_445 : decode cL_castles 445 = .ok (.ireturn, 1) := by decide +kernel
