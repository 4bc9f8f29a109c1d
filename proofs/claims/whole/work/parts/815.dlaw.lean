theorem d_W_law_560 : decode b_W_law 560 = .ok (.lshl, 1) := by decide +kernel
theorem d_W_law_561 : decode b_W_law 561 = .ok (.aload_n 0, 1) := by decide +kernel
theorem d_W_law_562 : decode b_W_law 562 = .ok (.iload 4, 2) := by decide +kernel
theorem d_W_law_564 : decode b_W_law 564 = .ok (.iconst 4, 1) := by decide +kernel
theorem d_W_law_565 : decode b_W_law 565 = .ok (.iadd, 1) := by decide +kernel
theorem d_W_law_566 : decode b_W_law 566 = .ok (.iaload, 1) := by decide +kernel
theorem d_W_law_567 : decode b_W_law 567 = .ok (.i2l, 1) := by decide +kernel
theorem d_W_law_568 : decode b_W_law 568 = .ok (.ldc2_w 33, 3) := by decide +kernel
theorem d_W_law_571 : decode b_W_law 571 = .ok (.land, 1) := by decide +kernel
theorem d_W_law_572 : decode b_W_law 572 = .ok (.lor, 1) := by decide +kernel
theorem d_W_law_573 : decode b_W_law 573 = .ok (.invokevirtual 55, 3) := by decide +kernel
theorem d_W_law_576 : decode b_W_law 576 = .ok (.aload_n 2, 1) := by decide +kernel
theorem d_W_law_577 : decode b_W_law 577 = .ok (.aload_n 0, 1) := by decide +kernel
theorem d_W_law_578 : decode b_W_law 578 = .ok (.iload 4, 2) := by decide +kernel
theorem d_W_law_580 : decode b_W_law 580 = .ok (.iconst 1, 1) := by decide +kernel
theorem d_W_law_581 : decode b_W_law 581 = .ok (.iadd, 1) := by decide +kernel
theorem d_W_law_582 : decode b_W_law 582 = .ok (.iaload, 1) := by decide +kernel
theorem d_W_law_583 : decode b_W_law 583 = .ok (.aload_n 0, 1) := by decide +kernel
theorem d_W_law_584 : decode b_W_law 584 = .ok (.iload 4, 2) := by decide +kernel
theorem d_W_law_586 : decode b_W_law 586 = .ok (.iconst 2, 1) := by decide +kernel
theorem d_W_law_587 : decode b_W_law 587 = .ok (.iadd, 1) := by decide +kernel
theorem d_W_law_588 : decode b_W_law 588 = .ok (.iaload, 1) := by decide +kernel
theorem d_W_law_589 : decode b_W_law 589 = .ok (.aload_n 0, 1) := by decide +kernel
theorem d_W_law_590 : decode b_W_law 590 = .ok (.iload 4, 2) := by decide +kernel
theorem d_W_law_592 : decode b_W_law 592 = .ok (.iconst 3, 1) := by decide +kernel
theorem d_W_law_593 : decode b_W_law 593 = .ok (.iadd, 1) := by decide +kernel
theorem d_W_law_594 : decode b_W_law 594 = .ok (.iaload, 1) := by decide +kernel
theorem d_W_law_595 : decode b_W_law 595 = .ok (.i2l, 1) := by decide +kernel
theorem d_W_law_596 : decode b_W_law 596 = .ok (.bipush 32, 2) := by decide +kernel
theorem d_W_law_598 : decode b_W_law 598 = .ok (.lshl, 1) := by decide +kernel
theorem d_W_law_599 : decode b_W_law 599 = .ok (.aload_n 0, 1) := by decide +kernel
theorem d_W_law_600 : decode b_W_law 600 = .ok (.iload 4, 2) := by decide +kernel
theorem d_W_law_602 : decode b_W_law 602 = .ok (.iconst 4, 1) := by decide +kernel
theorem d_W_law_603 : decode b_W_law 603 = .ok (.iadd, 1) := by decide +kernel
theorem d_W_law_604 : decode b_W_law 604 = .ok (.iaload, 1) := by decide +kernel
theorem d_W_law_605 : decode b_W_law 605 = .ok (.i2l, 1) := by decide +kernel
theorem d_W_law_606 : decode b_W_law 606 = .ok (.ldc2_w 33, 3) := by decide +kernel
theorem d_W_law_609 : decode b_W_law 609 = .ok (.land, 1) := by decide +kernel
theorem d_W_law_610 : decode b_W_law 610 = .ok (.lor, 1) := by decide +kernel
theorem d_W_law_611 : decode b_W_law 611 = .ok (.invokevirtual 59, 3) := by decide +kernel
theorem d_W_law_614 : decode b_W_law 614 = .ok (.if_icmp .eq 408, 3) := by decide +kernel
theorem d_W_law_617 : decode b_W_law 617 = .ok (.iconst 0, 1) := by decide +kernel
theorem d_W_law_618 : decode b_W_law 618 = .ok (.ireturn, 1) := by decide +kernel
theorem d_W_law_619 : decode b_W_law 619 = .ok (.aload_n 1, 1) := by decide +kernel
theorem d_W_law_620 : decode b_W_law 620 = .ok (.aload_n 0, 1) := by decide +kernel
theorem d_W_law_621 : decode b_W_law 621 = .ok (.iload 4, 2) := by decide +kernel
theorem d_W_law_623 : decode b_W_law 623 = .ok (.iconst 1, 1) := by decide +kernel
theorem d_W_law_624 : decode b_W_law 624 = .ok (.iadd, 1) := by decide +kernel
theorem d_W_law_625 : decode b_W_law 625 = .ok (.iaload, 1) := by decide +kernel
theorem d_W_law_626 : decode b_W_law 626 = .ok (.aload_n 0, 1) := by decide +kernel
theorem d_W_law_627 : decode b_W_law 627 = .ok (.iload 4, 2) := by decide +kernel
theorem d_W_law_629 : decode b_W_law 629 = .ok (.iconst 2, 1) := by decide +kernel
theorem d_W_law_630 : decode b_W_law 630 = .ok (.iadd, 1) := by decide +kernel
theorem d_W_law_631 : decode b_W_law 631 = .ok (.iaload, 1) := by decide +kernel
theorem d_W_law_632 : decode b_W_law 632 = .ok (.i2l, 1) := by decide +kernel
theorem d_W_law_633 : decode b_W_law 633 = .ok (.bipush 32, 2) := by decide +kernel
theorem d_W_law_635 : decode b_W_law 635 = .ok (.lshl, 1) := by decide +kernel
theorem d_W_law_636 : decode b_W_law 636 = .ok (.aload_n 0, 1) := by decide +kernel
theorem d_W_law_637 : decode b_W_law 637 = .ok (.iload 4, 2) := by decide +kernel
theorem d_W_law_639 : decode b_W_law 639 = .ok (.iconst 3, 1) := by decide +kernel
theorem d_W_law_640 : decode b_W_law 640 = .ok (.iadd, 1) := by decide +kernel
theorem d_W_law_641 : decode b_W_law 641 = .ok (.iaload, 1) := by decide +kernel
theorem d_W_law_642 : decode b_W_law 642 = .ok (.i2l, 1) := by decide +kernel
theorem d_W_law_643 : decode b_W_law 643 = .ok (.ldc2_w 33, 3) := by decide +kernel
theorem d_W_law_646 : decode b_W_law 646 = .ok (.land, 1) := by decide +kernel
theorem d_W_law_647 : decode b_W_law 647 = .ok (.lor, 1) := by decide +kernel
theorem d_W_law_648 : decode b_W_law 648 = .ok (.invokevirtual 60, 3) := by decide +kernel
theorem d_W_law_651 : decode b_W_law 651 = .ok (.aload_n 2, 1) := by decide +kernel
theorem d_W_law_652 : decode b_W_law 652 = .ok (.aload_n 0, 1) := by decide +kernel
theorem d_W_law_653 : decode b_W_law 653 = .ok (.iload 4, 2) := by decide +kernel
