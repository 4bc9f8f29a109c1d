theorem d_W_law_655 : decode b_W_law 655 = .ok (.iconst 1, 1) := by decide +kernel
theorem d_W_law_656 : decode b_W_law 656 = .ok (.iadd, 1) := by decide +kernel
theorem d_W_law_657 : decode b_W_law 657 = .ok (.iaload, 1) := by decide +kernel
theorem d_W_law_658 : decode b_W_law 658 = .ok (.aload_n 0, 1) := by decide +kernel
theorem d_W_law_659 : decode b_W_law 659 = .ok (.iload 4, 2) := by decide +kernel
theorem d_W_law_661 : decode b_W_law 661 = .ok (.iconst 2, 1) := by decide +kernel
theorem d_W_law_662 : decode b_W_law 662 = .ok (.iadd, 1) := by decide +kernel
theorem d_W_law_663 : decode b_W_law 663 = .ok (.iaload, 1) := by decide +kernel
theorem d_W_law_664 : decode b_W_law 664 = .ok (.i2l, 1) := by decide +kernel
theorem d_W_law_665 : decode b_W_law 665 = .ok (.bipush 32, 2) := by decide +kernel
theorem d_W_law_667 : decode b_W_law 667 = .ok (.lshl, 1) := by decide +kernel
theorem d_W_law_668 : decode b_W_law 668 = .ok (.aload_n 0, 1) := by decide +kernel
theorem d_W_law_669 : decode b_W_law 669 = .ok (.iload 4, 2) := by decide +kernel
theorem d_W_law_671 : decode b_W_law 671 = .ok (.iconst 3, 1) := by decide +kernel
theorem d_W_law_672 : decode b_W_law 672 = .ok (.iadd, 1) := by decide +kernel
theorem d_W_law_673 : decode b_W_law 673 = .ok (.iaload, 1) := by decide +kernel
theorem d_W_law_674 : decode b_W_law 674 = .ok (.i2l, 1) := by decide +kernel
theorem d_W_law_675 : decode b_W_law 675 = .ok (.ldc2_w 33, 3) := by decide +kernel
theorem d_W_law_678 : decode b_W_law 678 = .ok (.land, 1) := by decide +kernel
theorem d_W_law_679 : decode b_W_law 679 = .ok (.lor, 1) := by decide +kernel
theorem d_W_law_680 : decode b_W_law 680 = .ok (.invokevirtual 63, 3) := by decide +kernel
theorem d_W_law_683 : decode b_W_law 683 = .ok (.lcmp, 1) := by decide +kernel
theorem d_W_law_684 : decode b_W_law 684 = .ok (.ifCond .eq 338, 3) := by decide +kernel
theorem d_W_law_687 : decode b_W_law 687 = .ok (.iconst 0, 1) := by decide +kernel
theorem d_W_law_688 : decode b_W_law 688 = .ok (.ireturn, 1) := by decide +kernel
theorem d_W_law_689 : decode b_W_law 689 = .ok (.aload_n 1, 1) := by decide +kernel
theorem d_W_law_690 : decode b_W_law 690 = .ok (.aload_n 0, 1) := by decide +kernel
theorem d_W_law_691 : decode b_W_law 691 = .ok (.iload 4, 2) := by decide +kernel
theorem d_W_law_693 : decode b_W_law 693 = .ok (.iconst 1, 1) := by decide +kernel
theorem d_W_law_694 : decode b_W_law 694 = .ok (.iadd, 1) := by decide +kernel
theorem d_W_law_695 : decode b_W_law 695 = .ok (.iaload, 1) := by decide +kernel
theorem d_W_law_696 : decode b_W_law 696 = .ok (.aload_n 0, 1) := by decide +kernel
theorem d_W_law_697 : decode b_W_law 697 = .ok (.iload 4, 2) := by decide +kernel
theorem d_W_law_699 : decode b_W_law 699 = .ok (.iconst 2, 1) := by decide +kernel
theorem d_W_law_700 : decode b_W_law 700 = .ok (.iadd, 1) := by decide +kernel
theorem d_W_law_701 : decode b_W_law 701 = .ok (.iaload, 1) := by decide +kernel
theorem d_W_law_702 : decode b_W_law 702 = .ok (.invokevirtual 64, 3) := by decide +kernel
theorem d_W_law_705 : decode b_W_law 705 = .ok (.aload_n 2, 1) := by decide +kernel
theorem d_W_law_706 : decode b_W_law 706 = .ok (.aload_n 0, 1) := by decide +kernel
theorem d_W_law_707 : decode b_W_law 707 = .ok (.iload 4, 2) := by decide +kernel
theorem d_W_law_709 : decode b_W_law 709 = .ok (.iconst 1, 1) := by decide +kernel
theorem d_W_law_710 : decode b_W_law 710 = .ok (.iadd, 1) := by decide +kernel
theorem d_W_law_711 : decode b_W_law 711 = .ok (.iaload, 1) := by decide +kernel
theorem d_W_law_712 : decode b_W_law 712 = .ok (.aload_n 0, 1) := by decide +kernel
theorem d_W_law_713 : decode b_W_law 713 = .ok (.iload 4, 2) := by decide +kernel
theorem d_W_law_715 : decode b_W_law 715 = .ok (.iconst 2, 1) := by decide +kernel
theorem d_W_law_716 : decode b_W_law 716 = .ok (.iadd, 1) := by decide +kernel
theorem d_W_law_717 : decode b_W_law 717 = .ok (.iaload, 1) := by decide +kernel
theorem d_W_law_718 : decode b_W_law 718 = .ok (.invokevirtual 68, 3) := by decide +kernel
theorem d_W_law_721 : decode b_W_law 721 = .ok (.if_icmp .eq 301, 3) := by decide +kernel
theorem d_W_law_724 : decode b_W_law 724 = .ok (.iconst 0, 1) := by decide +kernel
theorem d_W_law_725 : decode b_W_law 725 = .ok (.ireturn, 1) := by decide +kernel
theorem d_W_law_726 : decode b_W_law 726 = .ok (.aload_n 1, 1) := by decide +kernel
theorem d_W_law_727 : decode b_W_law 727 = .ok (.aload_n 0, 1) := by decide +kernel
theorem d_W_law_728 : decode b_W_law 728 = .ok (.iload 4, 2) := by decide +kernel
theorem d_W_law_730 : decode b_W_law 730 = .ok (.iconst 1, 1) := by decide +kernel
theorem d_W_law_731 : decode b_W_law 731 = .ok (.iadd, 1) := by decide +kernel
theorem d_W_law_732 : decode b_W_law 732 = .ok (.iaload, 1) := by decide +kernel
theorem d_W_law_733 : decode b_W_law 733 = .ok (.aload_n 0, 1) := by decide +kernel
theorem d_W_law_734 : decode b_W_law 734 = .ok (.iload 4, 2) := by decide +kernel
theorem d_W_law_736 : decode b_W_law 736 = .ok (.iconst 2, 1) := by decide +kernel
theorem d_W_law_737 : decode b_W_law 737 = .ok (.iadd, 1) := by decide +kernel
theorem d_W_law_738 : decode b_W_law 738 = .ok (.iaload, 1) := by decide +kernel
theorem d_W_law_739 : decode b_W_law 739 = .ok (.invokevirtual 69, 3) := by decide +kernel
theorem d_W_law_742 : decode b_W_law 742 = .ok (.aload_n 2, 1) := by decide +kernel
theorem d_W_law_743 : decode b_W_law 743 = .ok (.aload_n 0, 1) := by decide +kernel
theorem d_W_law_744 : decode b_W_law 744 = .ok (.iload 4, 2) := by decide +kernel
theorem d_W_law_746 : decode b_W_law 746 = .ok (.iconst 1, 1) := by decide +kernel
theorem d_W_law_747 : decode b_W_law 747 = .ok (.iadd, 1) := by decide +kernel
theorem d_W_law_748 : decode b_W_law 748 = .ok (.iaload, 1) := by decide +kernel
