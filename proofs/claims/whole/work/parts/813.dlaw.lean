theorem d_W_law_372 : decode b_W_law 372 = .ok (.iconst 4, 1) := by decide +kernel
theorem d_W_law_373 : decode b_W_law 373 = .ok (.iadd, 1) := by decide +kernel
theorem d_W_law_374 : decode b_W_law 374 = .ok (.iaload, 1) := by decide +kernel
theorem d_W_law_375 : decode b_W_law 375 = .ok (.i2l, 1) := by decide +kernel
theorem d_W_law_376 : decode b_W_law 376 = .ok (.bipush 32, 2) := by decide +kernel
theorem d_W_law_378 : decode b_W_law 378 = .ok (.lshl, 1) := by decide +kernel
theorem d_W_law_379 : decode b_W_law 379 = .ok (.aload_n 0, 1) := by decide +kernel
theorem d_W_law_380 : decode b_W_law 380 = .ok (.iload 4, 2) := by decide +kernel
theorem d_W_law_382 : decode b_W_law 382 = .ok (.iconst 5, 1) := by decide +kernel
theorem d_W_law_383 : decode b_W_law 383 = .ok (.iadd, 1) := by decide +kernel
theorem d_W_law_384 : decode b_W_law 384 = .ok (.iaload, 1) := by decide +kernel
theorem d_W_law_385 : decode b_W_law 385 = .ok (.i2l, 1) := by decide +kernel
theorem d_W_law_386 : decode b_W_law 386 = .ok (.ldc2_w 33, 3) := by decide +kernel
theorem d_W_law_389 : decode b_W_law 389 = .ok (.land, 1) := by decide +kernel
theorem d_W_law_390 : decode b_W_law 390 = .ok (.lor, 1) := by decide +kernel
theorem d_W_law_391 : decode b_W_law 391 = .ok (.invokevirtual 44, 3) := by decide +kernel
theorem d_W_law_394 : decode b_W_law 394 = .ok (.if_icmp .eq 628, 3) := by decide +kernel
theorem d_W_law_397 : decode b_W_law 397 = .ok (.iconst 0, 1) := by decide +kernel
theorem d_W_law_398 : decode b_W_law 398 = .ok (.ireturn, 1) := by decide +kernel
theorem d_W_law_399 : decode b_W_law 399 = .ok (.aload_n 1, 1) := by decide +kernel
theorem d_W_law_400 : decode b_W_law 400 = .ok (.aload_n 0, 1) := by decide +kernel
theorem d_W_law_401 : decode b_W_law 401 = .ok (.iload 4, 2) := by decide +kernel
theorem d_W_law_403 : decode b_W_law 403 = .ok (.iconst 1, 1) := by decide +kernel
theorem d_W_law_404 : decode b_W_law 404 = .ok (.iadd, 1) := by decide +kernel
theorem d_W_law_405 : decode b_W_law 405 = .ok (.iaload, 1) := by decide +kernel
theorem d_W_law_406 : decode b_W_law 406 = .ok (.aload_n 0, 1) := by decide +kernel
theorem d_W_law_407 : decode b_W_law 407 = .ok (.iload 4, 2) := by decide +kernel
theorem d_W_law_409 : decode b_W_law 409 = .ok (.iconst 2, 1) := by decide +kernel
theorem d_W_law_410 : decode b_W_law 410 = .ok (.iadd, 1) := by decide +kernel
theorem d_W_law_411 : decode b_W_law 411 = .ok (.iaload, 1) := by decide +kernel
theorem d_W_law_412 : decode b_W_law 412 = .ok (.i2l, 1) := by decide +kernel
theorem d_W_law_413 : decode b_W_law 413 = .ok (.bipush 32, 2) := by decide +kernel
theorem d_W_law_415 : decode b_W_law 415 = .ok (.lshl, 1) := by decide +kernel
theorem d_W_law_416 : decode b_W_law 416 = .ok (.aload_n 0, 1) := by decide +kernel
theorem d_W_law_417 : decode b_W_law 417 = .ok (.iload 4, 2) := by decide +kernel
theorem d_W_law_419 : decode b_W_law 419 = .ok (.iconst 3, 1) := by decide +kernel
theorem d_W_law_420 : decode b_W_law 420 = .ok (.iadd, 1) := by decide +kernel
theorem d_W_law_421 : decode b_W_law 421 = .ok (.iaload, 1) := by decide +kernel
theorem d_W_law_422 : decode b_W_law 422 = .ok (.i2l, 1) := by decide +kernel
theorem d_W_law_423 : decode b_W_law 423 = .ok (.ldc2_w 33, 3) := by decide +kernel
theorem d_W_law_426 : decode b_W_law 426 = .ok (.land, 1) := by decide +kernel
theorem d_W_law_427 : decode b_W_law 427 = .ok (.lor, 1) := by decide +kernel
theorem d_W_law_428 : decode b_W_law 428 = .ok (.invokevirtual 45, 3) := by decide +kernel
theorem d_W_law_431 : decode b_W_law 431 = .ok (.aload_n 2, 1) := by decide +kernel
theorem d_W_law_432 : decode b_W_law 432 = .ok (.aload_n 0, 1) := by decide +kernel
theorem d_W_law_433 : decode b_W_law 433 = .ok (.iload 4, 2) := by decide +kernel
theorem d_W_law_435 : decode b_W_law 435 = .ok (.iconst 1, 1) := by decide +kernel
theorem d_W_law_436 : decode b_W_law 436 = .ok (.iadd, 1) := by decide +kernel
theorem d_W_law_437 : decode b_W_law 437 = .ok (.iaload, 1) := by decide +kernel
theorem d_W_law_438 : decode b_W_law 438 = .ok (.aload_n 0, 1) := by decide +kernel
theorem d_W_law_439 : decode b_W_law 439 = .ok (.iload 4, 2) := by decide +kernel
theorem d_W_law_441 : decode b_W_law 441 = .ok (.iconst 2, 1) := by decide +kernel
theorem d_W_law_442 : decode b_W_law 442 = .ok (.iadd, 1) := by decide +kernel
theorem d_W_law_443 : decode b_W_law 443 = .ok (.iaload, 1) := by decide +kernel
theorem d_W_law_444 : decode b_W_law 444 = .ok (.i2l, 1) := by decide +kernel
theorem d_W_law_445 : decode b_W_law 445 = .ok (.bipush 32, 2) := by decide +kernel
theorem d_W_law_447 : decode b_W_law 447 = .ok (.lshl, 1) := by decide +kernel
theorem d_W_law_448 : decode b_W_law 448 = .ok (.aload_n 0, 1) := by decide +kernel
theorem d_W_law_449 : decode b_W_law 449 = .ok (.iload 4, 2) := by decide +kernel
theorem d_W_law_451 : decode b_W_law 451 = .ok (.iconst 3, 1) := by decide +kernel
theorem d_W_law_452 : decode b_W_law 452 = .ok (.iadd, 1) := by decide +kernel
theorem d_W_law_453 : decode b_W_law 453 = .ok (.iaload, 1) := by decide +kernel
theorem d_W_law_454 : decode b_W_law 454 = .ok (.i2l, 1) := by decide +kernel
theorem d_W_law_455 : decode b_W_law 455 = .ok (.ldc2_w 33, 3) := by decide +kernel
theorem d_W_law_458 : decode b_W_law 458 = .ok (.land, 1) := by decide +kernel
theorem d_W_law_459 : decode b_W_law 459 = .ok (.lor, 1) := by decide +kernel
theorem d_W_law_460 : decode b_W_law 460 = .ok (.invokevirtual 49, 3) := by decide +kernel
theorem d_W_law_463 : decode b_W_law 463 = .ok (.lcmp, 1) := by decide +kernel
theorem d_W_law_464 : decode b_W_law 464 = .ok (.ifCond .eq 558, 3) := by decide +kernel
theorem d_W_law_467 : decode b_W_law 467 = .ok (.iconst 0, 1) := by decide +kernel
