/-! LAW: instructions (4) -/
theorem dL_isRight_319 : decode cL_isRight 319 = .ok (.if_icmp .ne 57, 3) := by decide +kernel
theorem dL_isRight_322 : decode cL_isRight 322 = .ok (.iload 8, 2) := by decide +kernel
theorem dL_isRight_324 : decode cL_isRight 324 = .ok (.ifCond .lt 54, 3) := by decide +kernel
theorem dL_isRight_327 : decode cL_isRight 327 = .ok (.aload_n 0, 1) := by decide +kernel
theorem dL_isRight_328 : decode cL_isRight 328 = .ok (.iload 8, 2) := by decide +kernel
theorem dL_isRight_330 : decode cL_isRight 330 = .ok (.invokevirtual 66, 3) := by decide +kernel
theorem dL_isRight_333 : decode cL_isRight 333 = .ok (.iload_n 3, 1) := by decide +kernel
theorem dL_isRight_334 : decode cL_isRight 334 = .ok (.ishr, 1) := by decide +kernel
theorem dL_isRight_335 : decode cL_isRight 335 = .ok (.iconst 1, 1) := by decide +kernel
theorem dL_isRight_336 : decode cL_isRight 336 = .ok (.iand, 1) := by decide +kernel
theorem dL_isRight_337 : decode cL_isRight 337 = .ok (.iconst 1, 1) := by decide +kernel
theorem dL_isRight_338 : decode cL_isRight 338 = .ok (.if_icmp .ne 38, 3) := by decide +kernel
theorem dL_isRight_341 : decode cL_isRight 341 = .ok (.aload_n 0, 1) := by decide +kernel
theorem dL_isRight_342 : decode cL_isRight 342 = .ok (.iload 8, 2) := by decide +kernel
theorem dL_isRight_344 : decode cL_isRight 344 = .ok (.invokevirtual 66, 3) := by decide +kernel
theorem dL_isRight_347 : decode cL_isRight 347 = .ok (.iload 7, 2) := by decide +kernel
theorem dL_isRight_349 : decode cL_isRight 349 = .ok (.ishr, 1) := by decide +kernel
theorem dL_isRight_350 : decode cL_isRight 350 = .ok (.iconst 1, 1) := by decide +kernel
theorem dL_isRight_351 : decode cL_isRight 351 = .ok (.iand, 1) := by decide +kernel
theorem dL_isRight_352 : decode cL_isRight 352 = .ok (.iconst 1, 1) := by decide +kernel
theorem dL_isRight_353 : decode cL_isRight 353 = .ok (.if_icmp .ne 23, 3) := by decide +kernel
theorem dL_isRight_356 : decode cL_isRight 356 = .ok (.aload_n 0, 1) := by decide +kernel
theorem dL_isRight_357 : decode cL_isRight 357 = .ok (.iload 7, 2) := by decide +kernel
theorem dL_isRight_359 : decode cL_isRight 359 = .ok (.iload 8, 2) := by decide +kernel
theorem dL_isRight_361 : decode cL_isRight 361 = .ok (.iconst 0, 1) := by decide +kernel
theorem dL_isRight_362 : decode cL_isRight 362 = .ok (.invokevirtual 63, 3) := by decide +kernel
theorem dL_isRight_365 : decode cL_isRight 365 = .ok (.aload_n 0, 1) := by decide +kernel
theorem dL_isRight_366 : decode cL_isRight 366 = .ok (.iload_n 3, 1) := by decide +kernel
theorem dL_isRight_367 : decode cL_isRight 367 = .ok (.iload 8, 2) := by decide +kernel
theorem dL_isRight_369 : decode cL_isRight 369 = .ok (.iconst 0, 1) := by decide +kernel
theorem dL_isRight_370 : decode cL_isRight 370 = .ok (.invokevirtual 63, 3) := by decide +kernel
theorem dL_isRight_373 : decode cL_isRight 373 = .ok (.if_icmp .eq 5, 3) := by decide +kernel
theorem dL_isRight_376 : decode cL_isRight 376 = .ok (.iconst 0, 1) := by decide +kernel
theorem dL_isRight_377 : decode cL_isRight 377 = .ok (.ireturn, 1) := by decide +kernel
theorem dL_isRight_378 : decode cL_isRight 378 = .ok (.iinc 7 1, 3) := by decide +kernel
theorem dL_isRight_381 : decode cL_isRight 381 = .ok (.goto (-99), 3) := by decide +kernel
theorem dL_isRight_384 : decode cL_isRight 384 = .ok (.iinc 3 1, 3) := by decide +kernel
theorem dL_isRight_387 : decode cL_isRight 387 = .ok (.goto (-381), 3) := by decide +kernel
theorem dL_isRight_390 : decode cL_isRight 390 = .ok (.iconst 1, 1) := by decide +kernel
theorem dL_isRight_391 : decode cL_isRight 391 = .ok (.istore_n 3, 1) := by decide +kernel
theorem dL_isRight_392 : decode cL_isRight 392 = .ok (.iload_n 3, 1) := by decide +kernel
theorem dL_isRight_393 : decode cL_isRight 393 = .ok (.aload_n 0, 1) := by decide +kernel
theorem dL_isRight_394 : decode cL_isRight 394 = .ok (.iconst 2, 1) := by decide +kernel
theorem dL_isRight_395 : decode cL_isRight 395 = .ok (.invokevirtual 12, 3) := by decide +kernel
theorem dL_isRight_398 : decode cL_isRight 398 = .ok (.if_icmp .ge 26, 3) := by decide +kernel
theorem dL_isRight_401 : decode cL_isRight 401 = .ok (.aload_n 0, 1) := by decide +kernel
theorem dL_isRight_402 : decode cL_isRight 402 = .ok (.iload_n 3, 1) := by decide +kernel
theorem dL_isRight_403 : decode cL_isRight 403 = .ok (.invokevirtual 25, 3) := by decide +kernel
theorem dL_isRight_406 : decode cL_isRight 406 = .ok (.aload_n 0, 1) := by decide +kernel
theorem dL_isRight_407 : decode cL_isRight 407 = .ok (.iload_n 3, 1) := by decide +kernel
theorem dL_isRight_408 : decode cL_isRight 408 = .ok (.iconst 1, 1) := by decide +kernel
theorem dL_isRight_409 : decode cL_isRight 409 = .ok (.isub, 1) := by decide +kernel
theorem dL_isRight_410 : decode cL_isRight 410 = .ok (.invokevirtual 25, 3) := by decide +kernel
theorem dL_isRight_413 : decode cL_isRight 413 = .ok (.if_icmp .gt 5, 3) := by decide +kernel
theorem dL_isRight_416 : decode cL_isRight 416 = .ok (.iconst 0, 1) := by decide +kernel
theorem dL_isRight_417 : decode cL_isRight 417 = .ok (.ireturn, 1) := by decide +kernel
theorem dL_isRight_418 : decode cL_isRight 418 = .ok (.iinc 3 1, 3) := by decide +kernel
theorem dL_isRight_421 : decode cL_isRight 421 = .ok (.goto (-29), 3) := by decide +kernel
theorem dL_isRight_424 : decode cL_isRight 424 = .ok (.iload_n 1, 1) := by decide +kernel
theorem dL_isRight_425 : decode cL_isRight 425 = .ok (.aload_n 0, 1) := by decide +kernel
theorem dL_isRight_426 : decode cL_isRight 426 = .ok (.iconst 1, 1) := by decide +kernel
theorem dL_isRight_427 : decode cL_isRight 427 = .ok (.invokevirtual 12, 3) := by decide +kernel
theorem dL_isRight_430 : decode cL_isRight 430 = .ok (.if_icmp .ne 30, 3) := by decide +kernel
theorem dL_isRight_433 : decode cL_isRight 433 = .ok (.iload_n 2, 1) := by decide +kernel
theorem dL_isRight_434 : decode cL_isRight 434 = .ok (.aload_n 0, 1) := by decide +kernel
theorem dL_isRight_435 : decode cL_isRight 435 = .ok (.iconst 4, 1) := by decide +kernel
theorem dL_isRight_436 : decode cL_isRight 436 = .ok (.invokevirtual 12, 3) := by decide +kernel
theorem dL_isRight_439 : decode cL_isRight 439 = .ok (.if_icmp .ne 21, 3) := by decide +kernel
theorem dL_isRight_442 : decode cL_isRight 442 = .ok (.aload_n 0, 1) := by decide +kernel
theorem dL_isRight_443 : decode cL_isRight 443 = .ok (.aload_n 0, 1) := by decide +kernel
theorem dL_isRight_444 : decode cL_isRight 444 = .ok (.iconst 2, 1) := by decide +kernel
theorem dL_isRight_445 : decode cL_isRight 445 = .ok (.invokevirtual 12, 3) := by decide +kernel
theorem dL_isRight_448 : decode cL_isRight 448 = .ok (.invokevirtual 25, 3) := by decide +kernel
theorem dL_isRight_451 : decode cL_isRight 451 = .ok (.bipush (-19), 2) := by decide +kernel
theorem dL_isRight_453 : decode cL_isRight 453 = .ok (.if_icmp .ne 7, 3) := by decide +kernel
theorem dL_isRight_456 : decode cL_isRight 456 = .ok (.iconst 1, 1) := by decide +kernel
theorem dL_isRight_457 : decode cL_isRight 457 = .ok (.goto 4, 3) := by decide +kernel
theorem dL_isRight_460 : decode cL_isRight 460 = .ok (.iconst 0, 1) := by decide +kernel
theorem dL_isRight_461 : decode cL_isRight 461 = .ok (.ireturn, 1) := by decide +kernel
