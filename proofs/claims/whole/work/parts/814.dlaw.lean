theorem d_W_law_468 : decode b_W_law 468 = .ok (.ireturn, 1) := by decide +kernel
theorem d_W_law_469 : decode b_W_law 469 = .ok (.aload_n 1, 1) := by decide +kernel
theorem d_W_law_470 : decode b_W_law 470 = .ok (.aload_n 0, 1) := by decide +kernel
theorem d_W_law_471 : decode b_W_law 471 = .ok (.iload 4, 2) := by decide +kernel
theorem d_W_law_473 : decode b_W_law 473 = .ok (.iconst 1, 1) := by decide +kernel
theorem d_W_law_474 : decode b_W_law 474 = .ok (.iadd, 1) := by decide +kernel
theorem d_W_law_475 : decode b_W_law 475 = .ok (.iaload, 1) := by decide +kernel
theorem d_W_law_476 : decode b_W_law 476 = .ok (.aload_n 0, 1) := by decide +kernel
theorem d_W_law_477 : decode b_W_law 477 = .ok (.iload 4, 2) := by decide +kernel
theorem d_W_law_479 : decode b_W_law 479 = .ok (.iconst 2, 1) := by decide +kernel
theorem d_W_law_480 : decode b_W_law 480 = .ok (.iadd, 1) := by decide +kernel
theorem d_W_law_481 : decode b_W_law 481 = .ok (.iaload, 1) := by decide +kernel
theorem d_W_law_482 : decode b_W_law 482 = .ok (.i2l, 1) := by decide +kernel
theorem d_W_law_483 : decode b_W_law 483 = .ok (.bipush 32, 2) := by decide +kernel
theorem d_W_law_485 : decode b_W_law 485 = .ok (.lshl, 1) := by decide +kernel
theorem d_W_law_486 : decode b_W_law 486 = .ok (.aload_n 0, 1) := by decide +kernel
theorem d_W_law_487 : decode b_W_law 487 = .ok (.iload 4, 2) := by decide +kernel
theorem d_W_law_489 : decode b_W_law 489 = .ok (.iconst 3, 1) := by decide +kernel
theorem d_W_law_490 : decode b_W_law 490 = .ok (.iadd, 1) := by decide +kernel
theorem d_W_law_491 : decode b_W_law 491 = .ok (.iaload, 1) := by decide +kernel
theorem d_W_law_492 : decode b_W_law 492 = .ok (.i2l, 1) := by decide +kernel
theorem d_W_law_493 : decode b_W_law 493 = .ok (.ldc2_w 33, 3) := by decide +kernel
theorem d_W_law_496 : decode b_W_law 496 = .ok (.land, 1) := by decide +kernel
theorem d_W_law_497 : decode b_W_law 497 = .ok (.lor, 1) := by decide +kernel
theorem d_W_law_498 : decode b_W_law 498 = .ok (.invokevirtual 50, 3) := by decide +kernel
theorem d_W_law_501 : decode b_W_law 501 = .ok (.aload_n 2, 1) := by decide +kernel
theorem d_W_law_502 : decode b_W_law 502 = .ok (.aload_n 0, 1) := by decide +kernel
theorem d_W_law_503 : decode b_W_law 503 = .ok (.iload 4, 2) := by decide +kernel
theorem d_W_law_505 : decode b_W_law 505 = .ok (.iconst 1, 1) := by decide +kernel
theorem d_W_law_506 : decode b_W_law 506 = .ok (.iadd, 1) := by decide +kernel
theorem d_W_law_507 : decode b_W_law 507 = .ok (.iaload, 1) := by decide +kernel
theorem d_W_law_508 : decode b_W_law 508 = .ok (.aload_n 0, 1) := by decide +kernel
theorem d_W_law_509 : decode b_W_law 509 = .ok (.iload 4, 2) := by decide +kernel
theorem d_W_law_511 : decode b_W_law 511 = .ok (.iconst 2, 1) := by decide +kernel
theorem d_W_law_512 : decode b_W_law 512 = .ok (.iadd, 1) := by decide +kernel
theorem d_W_law_513 : decode b_W_law 513 = .ok (.iaload, 1) := by decide +kernel
theorem d_W_law_514 : decode b_W_law 514 = .ok (.i2l, 1) := by decide +kernel
theorem d_W_law_515 : decode b_W_law 515 = .ok (.bipush 32, 2) := by decide +kernel
theorem d_W_law_517 : decode b_W_law 517 = .ok (.lshl, 1) := by decide +kernel
theorem d_W_law_518 : decode b_W_law 518 = .ok (.aload_n 0, 1) := by decide +kernel
theorem d_W_law_519 : decode b_W_law 519 = .ok (.iload 4, 2) := by decide +kernel
theorem d_W_law_521 : decode b_W_law 521 = .ok (.iconst 3, 1) := by decide +kernel
theorem d_W_law_522 : decode b_W_law 522 = .ok (.iadd, 1) := by decide +kernel
theorem d_W_law_523 : decode b_W_law 523 = .ok (.iaload, 1) := by decide +kernel
theorem d_W_law_524 : decode b_W_law 524 = .ok (.i2l, 1) := by decide +kernel
theorem d_W_law_525 : decode b_W_law 525 = .ok (.ldc2_w 33, 3) := by decide +kernel
theorem d_W_law_528 : decode b_W_law 528 = .ok (.land, 1) := by decide +kernel
theorem d_W_law_529 : decode b_W_law 529 = .ok (.lor, 1) := by decide +kernel
theorem d_W_law_530 : decode b_W_law 530 = .ok (.invokevirtual 54, 3) := by decide +kernel
theorem d_W_law_533 : decode b_W_law 533 = .ok (.if_icmp .eq 489, 3) := by decide +kernel
theorem d_W_law_536 : decode b_W_law 536 = .ok (.iconst 0, 1) := by decide +kernel
theorem d_W_law_537 : decode b_W_law 537 = .ok (.ireturn, 1) := by decide +kernel
theorem d_W_law_538 : decode b_W_law 538 = .ok (.aload_n 1, 1) := by decide +kernel
theorem d_W_law_539 : decode b_W_law 539 = .ok (.aload_n 0, 1) := by decide +kernel
theorem d_W_law_540 : decode b_W_law 540 = .ok (.iload 4, 2) := by decide +kernel
theorem d_W_law_542 : decode b_W_law 542 = .ok (.iconst 1, 1) := by decide +kernel
theorem d_W_law_543 : decode b_W_law 543 = .ok (.iadd, 1) := by decide +kernel
theorem d_W_law_544 : decode b_W_law 544 = .ok (.iaload, 1) := by decide +kernel
theorem d_W_law_545 : decode b_W_law 545 = .ok (.aload_n 0, 1) := by decide +kernel
theorem d_W_law_546 : decode b_W_law 546 = .ok (.iload 4, 2) := by decide +kernel
theorem d_W_law_548 : decode b_W_law 548 = .ok (.iconst 2, 1) := by decide +kernel
theorem d_W_law_549 : decode b_W_law 549 = .ok (.iadd, 1) := by decide +kernel
theorem d_W_law_550 : decode b_W_law 550 = .ok (.iaload, 1) := by decide +kernel
theorem d_W_law_551 : decode b_W_law 551 = .ok (.aload_n 0, 1) := by decide +kernel
theorem d_W_law_552 : decode b_W_law 552 = .ok (.iload 4, 2) := by decide +kernel
theorem d_W_law_554 : decode b_W_law 554 = .ok (.iconst 3, 1) := by decide +kernel
theorem d_W_law_555 : decode b_W_law 555 = .ok (.iadd, 1) := by decide +kernel
theorem d_W_law_556 : decode b_W_law 556 = .ok (.iaload, 1) := by decide +kernel
theorem d_W_law_557 : decode b_W_law 557 = .ok (.i2l, 1) := by decide +kernel
theorem d_W_law_558 : decode b_W_law 558 = .ok (.bipush 32, 2) := by decide +kernel
