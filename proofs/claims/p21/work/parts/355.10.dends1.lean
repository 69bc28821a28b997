theorem dL_ends_276 : decode cL_ends 276 = .ok (.iconst 2, 1) := by decide +kernel
theorem dL_ends_277 : decode cL_ends 277 = .ok (.if_icmp .ge 24, 3) := by decide +kernel
theorem dL_ends_280 : decode cL_ends 280 = .ok (.aload_n 0, 1) := by decide +kernel
theorem dL_ends_281 : decode cL_ends 281 = .ok (.iload_n 3, 1) := by decide +kernel
theorem dL_ends_282 : decode cL_ends 282 = .ok (.iload 7, 2) := by decide +kernel
theorem dL_ends_284 : decode cL_ends 284 = .ok (.iadd, 1) := by decide +kernel
theorem dL_ends_285 : decode cL_ends 285 = .ok (.iconst 4, 1) := by decide +kernel
theorem dL_ends_286 : decode cL_ends 286 = .ok (.irem, 1) := by decide +kernel
theorem dL_ends_287 : decode cL_ends 287 = .ok (.invokestatic 90, 3) := by decide +kernel
theorem dL_ends_290 : decode cL_ends 290 = .ok (.ifCond .ne 5, 3) := by decide +kernel
theorem dL_ends_293 : decode cL_ends 293 = .ok (.iconst 0, 1) := by decide +kernel
theorem dL_ends_294 : decode cL_ends 294 = .ok (.ireturn, 1) := by decide +kernel
theorem dL_ends_295 : decode cL_ends 295 = .ok (.iinc 7 1, 3) := by decide +kernel
theorem dL_ends_298 : decode cL_ends 298 = .ok (.goto (-34), 3) := by decide +kernel
theorem dL_ends_301 : decode cL_ends 301 = .ok (.iinc 1 1, 3) := by decide +kernel
theorem dL_ends_304 : decode cL_ends 304 = .ok (.goto (-294), 3) := by decide +kernel
theorem dL_ends_307 : decode cL_ends 307 = .ok (.aload_n 0, 1) := by decide +kernel
theorem dL_ends_308 : decode cL_ends 308 = .ok (.invokevirtual 59, 3) := by decide +kernel
theorem dL_ends_311 : decode cL_ends 311 = .ok (.iconst 2, 1) := by decide +kernel
theorem dL_ends_312 : decode cL_ends 312 = .ok (.if_icmp .ne 77, 3) := by decide +kernel
theorem dL_ends_315 : decode cL_ends 315 = .ok (.aload_n 0, 1) := by decide +kernel
theorem dL_ends_316 : decode cL_ends 316 = .ok (.invokevirtual 79, 3) := by decide +kernel
theorem dL_ends_319 : decode cL_ends 319 = .ok (.ifCond .ne 70, 3) := by decide +kernel
theorem dL_ends_322 : decode cL_ends 322 = .ok (.aload_n 0, 1) := by decide +kernel
theorem dL_ends_323 : decode cL_ends 323 = .ok (.invokevirtual 62, 3) := by decide +kernel
theorem dL_ends_326 : decode cL_ends 326 = .ok (.iconst 2, 1) := by decide +kernel
theorem dL_ends_327 : decode cL_ends 327 = .ok (.if_icmp .ne 62, 3) := by decide +kernel
theorem dL_ends_330 : decode cL_ends 330 = .ok (.aload_n 0, 1) := by decide +kernel
theorem dL_ends_331 : decode cL_ends 331 = .ok (.iconst 0, 1) := by decide +kernel
theorem dL_ends_332 : decode cL_ends 332 = .ok (.invokevirtual 40, 3) := by decide +kernel
theorem dL_ends_335 : decode cL_ends 335 = .ok (.ifCond .ne 54, 3) := by decide +kernel
theorem dL_ends_338 : decode cL_ends 338 = .ok (.aload_n 0, 1) := by decide +kernel
theorem dL_ends_339 : decode cL_ends 339 = .ok (.iconst 1, 1) := by decide +kernel
theorem dL_ends_340 : decode cL_ends 340 = .ok (.invokevirtual 40, 3) := by decide +kernel
theorem dL_ends_343 : decode cL_ends 343 = .ok (.sipush 576, 3) := by decide +kernel
theorem dL_ends_346 : decode cL_ends 346 = .ok (.if_icmp .ne 43, 3) := by decide +kernel
theorem dL_ends_349 : decode cL_ends 349 = .ok (.aload_n 0, 1) := by decide +kernel
theorem dL_ends_350 : decode cL_ends 350 = .ok (.iconst 0, 1) := by decide +kernel
theorem dL_ends_351 : decode cL_ends 351 = .ok (.invokevirtual 34, 3) := by decide +kernel
theorem dL_ends_354 : decode cL_ends 354 = .ok (.iconst 4, 1) := by decide +kernel
theorem dL_ends_355 : decode cL_ends 355 = .ok (.if_icmp .ne 34, 3) := by decide +kernel
theorem dL_ends_358 : decode cL_ends 358 = .ok (.aload_n 0, 1) := by decide +kernel
theorem dL_ends_359 : decode cL_ends 359 = .ok (.iconst 2, 1) := by decide +kernel
theorem dL_ends_360 : decode cL_ends 360 = .ok (.iconst 3, 1) := by decide +kernel
theorem dL_ends_361 : decode cL_ends 361 = .ok (.invokevirtual 24, 3) := by decide +kernel
theorem dL_ends_364 : decode cL_ends 364 = .ok (.iconst (-1), 1) := by decide +kernel
theorem dL_ends_365 : decode cL_ends 365 = .ok (.if_icmp .ne 24, 3) := by decide +kernel
theorem dL_ends_368 : decode cL_ends 368 = .ok (.aload_n 0, 1) := by decide +kernel
theorem dL_ends_369 : decode cL_ends 369 = .ok (.iconst 1, 1) := by decide +kernel
theorem dL_ends_370 : decode cL_ends 370 = .ok (.iconst 0, 1) := by decide +kernel
theorem dL_ends_371 : decode cL_ends 371 = .ok (.iconst 0, 1) := by decide +kernel
theorem dL_ends_372 : decode cL_ends 372 = .ok (.invokevirtual 46, 3) := by decide +kernel
theorem dL_ends_375 : decode cL_ends 375 = .ok (.ifCond .ne 14, 3) := by decide +kernel
theorem dL_ends_378 : decode cL_ends 378 = .ok (.aload_n 0, 1) := by decide +kernel
theorem dL_ends_379 : decode cL_ends 379 = .ok (.invokestatic 82, 3) := by decide +kernel
theorem dL_ends_382 : decode cL_ends 382 = .ok (.ifCond .eq 7, 3) := by decide +kernel
theorem dL_ends_385 : decode cL_ends 385 = .ok (.iconst 1, 1) := by decide +kernel
theorem dL_ends_386 : decode cL_ends 386 = .ok (.goto 4, 3) := by decide +kernel
theorem dL_ends_389 : decode cL_ends 389 = .ok (.iconst 0, 1) := by decide +kernel
theorem dL_ends_390 : decode cL_ends 390 = .ok (.ireturn, 1) := by decide +kernel
