theorem d_Law_law_356 : decode code 356 = .ok (.iconst 1, 1) := by decide +kernel
theorem d_Law_law_357 : decode code 357 = .ok (.iadd, 1) := by decide +kernel
theorem d_Law_law_358 : decode code 358 = .ok (.iaload, 1) := by decide +kernel
theorem d_Law_law_359 : decode code 359 = .ok (.invokevirtual 67, 3) := by decide +kernel
theorem d_Law_law_362 : decode code 362 = .ok (.aload_n 2, 1) := by decide +kernel
theorem d_Law_law_363 : decode code 363 = .ok (.aload_n 0, 1) := by decide +kernel
theorem d_Law_law_364 : decode code 364 = .ok (.iload 4, 2) := by decide +kernel
theorem d_Law_law_366 : decode code 366 = .ok (.iconst 1, 1) := by decide +kernel
theorem d_Law_law_367 : decode code 367 = .ok (.iadd, 1) := by decide +kernel
theorem d_Law_law_368 : decode code 368 = .ok (.iaload, 1) := by decide +kernel
theorem d_Law_law_369 : decode code 369 = .ok (.invokevirtual 70, 3) := by decide +kernel
theorem d_Law_law_372 : decode code 372 = .ok (.if_icmp .eq 425, 3) := by decide +kernel
theorem d_Law_law_375 : decode code 375 = .ok (.iconst 0, 1) := by decide +kernel
theorem d_Law_law_377 : decode code 377 = .ok (.aload_n 1, 1) := by decide +kernel
theorem d_Law_law_378 : decode code 378 = .ok (.aload_n 0, 1) := by decide +kernel
theorem d_Law_law_379 : decode code 379 = .ok (.iload 4, 2) := by decide +kernel
theorem d_Law_law_381 : decode code 381 = .ok (.iconst 1, 1) := by decide +kernel
theorem d_Law_law_382 : decode code 382 = .ok (.iadd, 1) := by decide +kernel
theorem d_Law_law_383 : decode code 383 = .ok (.iaload, 1) := by decide +kernel
theorem d_Law_law_384 : decode code 384 = .ok (.aload_n 0, 1) := by decide +kernel
theorem d_Law_law_385 : decode code 385 = .ok (.iload 4, 2) := by decide +kernel
theorem d_Law_law_387 : decode code 387 = .ok (.iconst 2, 1) := by decide +kernel
theorem d_Law_law_388 : decode code 388 = .ok (.iadd, 1) := by decide +kernel
theorem d_Law_law_389 : decode code 389 = .ok (.iaload, 1) := by decide +kernel
theorem d_Law_law_390 : decode code 390 = .ok (.aload_n 0, 1) := by decide +kernel
theorem d_Law_law_391 : decode code 391 = .ok (.iload 4, 2) := by decide +kernel
theorem d_Law_law_393 : decode code 393 = .ok (.iconst 3, 1) := by decide +kernel
theorem d_Law_law_394 : decode code 394 = .ok (.iadd, 1) := by decide +kernel
theorem d_Law_law_395 : decode code 395 = .ok (.iaload, 1) := by decide +kernel
theorem d_Law_law_396 : decode code 396 = .ok (.aload_n 3, 1) := by decide +kernel
theorem d_Law_law_397 : decode code 397 = .ok (.invokestatic 71, 3) := by decide +kernel
theorem d_Law_law_400 : decode code 400 = .ok (.istore 5, 2) := by decide +kernel
theorem d_Law_law_402 : decode code 402 = .ok (.aload_n 2, 1) := by decide +kernel
theorem d_Law_law_403 : decode code 403 = .ok (.aload_n 0, 1) := by decide +kernel
theorem d_Law_law_404 : decode code 404 = .ok (.iload 4, 2) := by decide +kernel
theorem d_Law_law_406 : decode code 406 = .ok (.iconst 1, 1) := by decide +kernel
theorem d_Law_law_407 : decode code 407 = .ok (.iadd, 1) := by decide +kernel
theorem d_Law_law_408 : decode code 408 = .ok (.iaload, 1) := by decide +kernel
theorem d_Law_law_409 : decode code 409 = .ok (.aload_n 0, 1) := by decide +kernel
theorem d_Law_law_410 : decode code 410 = .ok (.iload 4, 2) := by decide +kernel
theorem d_Law_law_412 : decode code 412 = .ok (.iconst 2, 1) := by decide +kernel
theorem d_Law_law_413 : decode code 413 = .ok (.iadd, 1) := by decide +kernel
theorem d_Law_law_414 : decode code 414 = .ok (.iaload, 1) := by decide +kernel
theorem d_Law_law_415 : decode code 415 = .ok (.aload_n 0, 1) := by decide +kernel
theorem d_Law_law_416 : decode code 416 = .ok (.iload 4, 2) := by decide +kernel
theorem d_Law_law_418 : decode code 418 = .ok (.iconst 3, 1) := by decide +kernel
theorem d_Law_law_419 : decode code 419 = .ok (.iadd, 1) := by decide +kernel
theorem d_Law_law_420 : decode code 420 = .ok (.iaload, 1) := by decide +kernel
theorem d_Law_law_421 : decode code 421 = .ok (.invokevirtual 74, 3) := by decide +kernel
theorem d_Law_law_424 : decode code 424 = .ok (.istore 6, 2) := by decide +kernel
theorem d_Law_law_426 : decode code 426 = .ok (.aload_n 2, 1) := by decide +kernel
theorem d_Law_law_427 : decode code 427 = .ok (.invokevirtual 75, 3) := by decide +kernel
theorem d_Law_law_430 : decode code 430 = .ok (.iload 5, 2) := by decide +kernel
theorem d_Law_law_432 : decode code 432 = .ok (.if_icmp .eq 5, 3) := by decide +kernel
theorem d_Law_law_435 : decode code 435 = .ok (.iconst 0, 1) := by decide +kernel
theorem d_Law_law_437 : decode code 437 = .ok (.iload 5, 2) := by decide +kernel
theorem d_Law_law_439 : decode code 439 = .ok (.ifCond .ne 15, 3) := by decide +kernel
theorem d_Law_law_442 : decode code 442 = .ok (.aload_n 3, 1) := by decide +kernel
theorem d_Law_law_443 : decode code 443 = .ok (.iconst 0, 1) := by decide +kernel
theorem d_Law_law_444 : decode code 444 = .ok (.laload, 1) := by decide +kernel
theorem d_Law_law_445 : decode code 445 = .ok (.iload 6, 2) := by decide +kernel
theorem d_Law_law_447 : decode code 447 = .ok (.i2l, 1) := by decide +kernel
theorem d_Law_law_448 : decode code 448 = .ok (.lcmp, 1) := by decide +kernel
theorem d_Law_law_449 : decode code 449 = .ok (.ifCond .eq 5, 3) := by decide +kernel
theorem d_Law_law_452 : decode code 452 = .ok (.iconst 0, 1) := by decide +kernel
theorem d_Law_law_454 : decode code 454 = .ok (.goto 343, 3) := by decide +kernel
theorem d_Law_law_457 : decode code 457 = .ok (.aload_n 1, 1) := by decide +kernel
theorem d_Law_law_458 : decode code 458 = .ok (.aload_n 0, 1) := by decide +kernel
theorem d_Law_law_459 : decode code 459 = .ok (.iload 4, 2) := by decide +kernel
theorem d_Law_law_461 : decode code 461 = .ok (.iconst 1, 1) := by decide +kernel
theorem d_Law_law_462 : decode code 462 = .ok (.iadd, 1) := by decide +kernel
theorem d_Law_law_463 : decode code 463 = .ok (.iaload, 1) := by decide +kernel
theorem d_Law_law_464 : decode code 464 = .ok (.aload_n 0, 1) := by decide +kernel
theorem d_Law_law_465 : decode code 465 = .ok (.iload 4, 2) := by decide +kernel
theorem d_Law_law_467 : decode code 467 = .ok (.iconst 2, 1) := by decide +kernel
theorem d_Law_law_468 : decode code 468 = .ok (.iadd, 1) := by decide +kernel
theorem d_Law_law_469 : decode code 469 = .ok (.iaload, 1) := by decide +kernel
theorem d_Law_law_470 : decode code 470 = .ok (.aload_n 0, 1) := by decide +kernel
theorem d_Law_law_471 : decode code 471 = .ok (.iload 4, 2) := by decide +kernel
theorem d_Law_law_473 : decode code 473 = .ok (.iconst 3, 1) := by decide +kernel
theorem d_Law_law_474 : decode code 474 = .ok (.iadd, 1) := by decide +kernel
theorem d_Law_law_475 : decode code 475 = .ok (.iaload, 1) := by decide +kernel
theorem d_Law_law_476 : decode code 476 = .ok (.aload_n 3, 1) := by decide +kernel
theorem d_Law_law_477 : decode code 477 = .ok (.invokestatic 78, 3) := by decide +kernel
theorem d_Law_law_480 : decode code 480 = .ok (.istore 5, 2) := by decide +kernel
theorem d_Law_law_482 : decode code 482 = .ok (.aload_n 2, 1) := by decide +kernel
theorem d_Law_law_483 : decode code 483 = .ok (.aload_n 0, 1) := by decide +kernel
