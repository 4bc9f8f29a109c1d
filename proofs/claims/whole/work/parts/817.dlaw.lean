theorem d_W_law_749 : decode b_W_law 749 = .ok (.aload_n 0, 1) := by decide +kernel
theorem d_W_law_750 : decode b_W_law 750 = .ok (.iload 4, 2) := by decide +kernel
theorem d_W_law_752 : decode b_W_law 752 = .ok (.iconst 2, 1) := by decide +kernel
theorem d_W_law_753 : decode b_W_law 753 = .ok (.iadd, 1) := by decide +kernel
theorem d_W_law_754 : decode b_W_law 754 = .ok (.iaload, 1) := by decide +kernel
theorem d_W_law_755 : decode b_W_law 755 = .ok (.invokevirtual 73, 3) := by decide +kernel
theorem d_W_law_758 : decode b_W_law 758 = .ok (.lcmp, 1) := by decide +kernel
theorem d_W_law_759 : decode b_W_law 759 = .ok (.ifCond .eq 263, 3) := by decide +kernel
theorem d_W_law_762 : decode b_W_law 762 = .ok (.iconst 0, 1) := by decide +kernel
theorem d_W_law_763 : decode b_W_law 763 = .ok (.ireturn, 1) := by decide +kernel
theorem d_W_law_764 : decode b_W_law 764 = .ok (.aload_n 1, 1) := by decide +kernel
theorem d_W_law_765 : decode b_W_law 765 = .ok (.aload_n 0, 1) := by decide +kernel
theorem d_W_law_766 : decode b_W_law 766 = .ok (.iload 4, 2) := by decide +kernel
theorem d_W_law_768 : decode b_W_law 768 = .ok (.iconst 1, 1) := by decide +kernel
theorem d_W_law_769 : decode b_W_law 769 = .ok (.iadd, 1) := by decide +kernel
theorem d_W_law_770 : decode b_W_law 770 = .ok (.iaload, 1) := by decide +kernel
theorem d_W_law_771 : decode b_W_law 771 = .ok (.aload_n 0, 1) := by decide +kernel
theorem d_W_law_772 : decode b_W_law 772 = .ok (.iload 4, 2) := by decide +kernel
theorem d_W_law_774 : decode b_W_law 774 = .ok (.iconst 2, 1) := by decide +kernel
theorem d_W_law_775 : decode b_W_law 775 = .ok (.iadd, 1) := by decide +kernel
theorem d_W_law_776 : decode b_W_law 776 = .ok (.iaload, 1) := by decide +kernel
theorem d_W_law_777 : decode b_W_law 777 = .ok (.i2l, 1) := by decide +kernel
theorem d_W_law_778 : decode b_W_law 778 = .ok (.bipush 32, 2) := by decide +kernel
theorem d_W_law_780 : decode b_W_law 780 = .ok (.lshl, 1) := by decide +kernel
theorem d_W_law_781 : decode b_W_law 781 = .ok (.aload_n 0, 1) := by decide +kernel
theorem d_W_law_782 : decode b_W_law 782 = .ok (.iload 4, 2) := by decide +kernel
theorem d_W_law_784 : decode b_W_law 784 = .ok (.iconst 3, 1) := by decide +kernel
theorem d_W_law_785 : decode b_W_law 785 = .ok (.iadd, 1) := by decide +kernel
theorem d_W_law_786 : decode b_W_law 786 = .ok (.iaload, 1) := by decide +kernel
theorem d_W_law_787 : decode b_W_law 787 = .ok (.i2l, 1) := by decide +kernel
theorem d_W_law_788 : decode b_W_law 788 = .ok (.ldc2_w 33, 3) := by decide +kernel
theorem d_W_law_791 : decode b_W_law 791 = .ok (.land, 1) := by decide +kernel
theorem d_W_law_792 : decode b_W_law 792 = .ok (.lor, 1) := by decide +kernel
theorem d_W_law_793 : decode b_W_law 793 = .ok (.invokevirtual 74, 3) := by decide +kernel
theorem d_W_law_796 : decode b_W_law 796 = .ok (.aload_n 2, 1) := by decide +kernel
theorem d_W_law_797 : decode b_W_law 797 = .ok (.aload_n 0, 1) := by decide +kernel
theorem d_W_law_798 : decode b_W_law 798 = .ok (.iload 4, 2) := by decide +kernel
theorem d_W_law_800 : decode b_W_law 800 = .ok (.iconst 1, 1) := by decide +kernel
theorem d_W_law_801 : decode b_W_law 801 = .ok (.iadd, 1) := by decide +kernel
theorem d_W_law_802 : decode b_W_law 802 = .ok (.iaload, 1) := by decide +kernel
theorem d_W_law_803 : decode b_W_law 803 = .ok (.aload_n 0, 1) := by decide +kernel
theorem d_W_law_804 : decode b_W_law 804 = .ok (.iload 4, 2) := by decide +kernel
theorem d_W_law_806 : decode b_W_law 806 = .ok (.iconst 2, 1) := by decide +kernel
theorem d_W_law_807 : decode b_W_law 807 = .ok (.iadd, 1) := by decide +kernel
theorem d_W_law_808 : decode b_W_law 808 = .ok (.iaload, 1) := by decide +kernel
theorem d_W_law_809 : decode b_W_law 809 = .ok (.i2l, 1) := by decide +kernel
theorem d_W_law_810 : decode b_W_law 810 = .ok (.bipush 32, 2) := by decide +kernel
theorem d_W_law_812 : decode b_W_law 812 = .ok (.lshl, 1) := by decide +kernel
theorem d_W_law_813 : decode b_W_law 813 = .ok (.aload_n 0, 1) := by decide +kernel
theorem d_W_law_814 : decode b_W_law 814 = .ok (.iload 4, 2) := by decide +kernel
theorem d_W_law_816 : decode b_W_law 816 = .ok (.iconst 3, 1) := by decide +kernel
theorem d_W_law_817 : decode b_W_law 817 = .ok (.iadd, 1) := by decide +kernel
theorem d_W_law_818 : decode b_W_law 818 = .ok (.iaload, 1) := by decide +kernel
theorem d_W_law_819 : decode b_W_law 819 = .ok (.i2l, 1) := by decide +kernel
theorem d_W_law_820 : decode b_W_law 820 = .ok (.ldc2_w 33, 3) := by decide +kernel
theorem d_W_law_823 : decode b_W_law 823 = .ok (.land, 1) := by decide +kernel
theorem d_W_law_824 : decode b_W_law 824 = .ok (.lor, 1) := by decide +kernel
theorem d_W_law_825 : decode b_W_law 825 = .ok (.invokevirtual 77, 3) := by decide +kernel
theorem d_W_law_828 : decode b_W_law 828 = .ok (.lcmp, 1) := by decide +kernel
theorem d_W_law_829 : decode b_W_law 829 = .ok (.ifCond .eq 193, 3) := by decide +kernel
theorem d_W_law_832 : decode b_W_law 832 = .ok (.iconst 0, 1) := by decide +kernel
theorem d_W_law_833 : decode b_W_law 833 = .ok (.ireturn, 1) := by decide +kernel
theorem d_W_law_834 : decode b_W_law 834 = .ok (.aload_n 1, 1) := by decide +kernel
theorem d_W_law_835 : decode b_W_law 835 = .ok (.aload_n 0, 1) := by decide +kernel
theorem d_W_law_836 : decode b_W_law 836 = .ok (.iload 4, 2) := by decide +kernel
theorem d_W_law_838 : decode b_W_law 838 = .ok (.iconst 1, 1) := by decide +kernel
theorem d_W_law_839 : decode b_W_law 839 = .ok (.iadd, 1) := by decide +kernel
theorem d_W_law_840 : decode b_W_law 840 = .ok (.iaload, 1) := by decide +kernel
theorem d_W_law_841 : decode b_W_law 841 = .ok (.aload_n 0, 1) := by decide +kernel
theorem d_W_law_842 : decode b_W_law 842 = .ok (.iload 4, 2) := by decide +kernel
