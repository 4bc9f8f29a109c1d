theorem d_W_law_844 : decode b_W_law 844 = .ok (.iconst 2, 1) := by decide +kernel
theorem d_W_law_845 : decode b_W_law 845 = .ok (.iadd, 1) := by decide +kernel
theorem d_W_law_846 : decode b_W_law 846 = .ok (.iaload, 1) := by decide +kernel
theorem d_W_law_847 : decode b_W_law 847 = .ok (.aload_n 0, 1) := by decide +kernel
theorem d_W_law_848 : decode b_W_law 848 = .ok (.iload 4, 2) := by decide +kernel
theorem d_W_law_850 : decode b_W_law 850 = .ok (.iconst 3, 1) := by decide +kernel
theorem d_W_law_851 : decode b_W_law 851 = .ok (.iadd, 1) := by decide +kernel
theorem d_W_law_852 : decode b_W_law 852 = .ok (.iaload, 1) := by decide +kernel
theorem d_W_law_853 : decode b_W_law 853 = .ok (.invokevirtual 78, 3) := by decide +kernel
theorem d_W_law_856 : decode b_W_law 856 = .ok (.aload_n 2, 1) := by decide +kernel
theorem d_W_law_857 : decode b_W_law 857 = .ok (.aload_n 0, 1) := by decide +kernel
theorem d_W_law_858 : decode b_W_law 858 = .ok (.iload 4, 2) := by decide +kernel
theorem d_W_law_860 : decode b_W_law 860 = .ok (.iconst 1, 1) := by decide +kernel
theorem d_W_law_861 : decode b_W_law 861 = .ok (.iadd, 1) := by decide +kernel
theorem d_W_law_862 : decode b_W_law 862 = .ok (.iaload, 1) := by decide +kernel
theorem d_W_law_863 : decode b_W_law 863 = .ok (.aload_n 0, 1) := by decide +kernel
theorem d_W_law_864 : decode b_W_law 864 = .ok (.iload 4, 2) := by decide +kernel
theorem d_W_law_866 : decode b_W_law 866 = .ok (.iconst 2, 1) := by decide +kernel
theorem d_W_law_867 : decode b_W_law 867 = .ok (.iadd, 1) := by decide +kernel
theorem d_W_law_868 : decode b_W_law 868 = .ok (.iaload, 1) := by decide +kernel
theorem d_W_law_869 : decode b_W_law 869 = .ok (.aload_n 0, 1) := by decide +kernel
theorem d_W_law_870 : decode b_W_law 870 = .ok (.iload 4, 2) := by decide +kernel
theorem d_W_law_872 : decode b_W_law 872 = .ok (.iconst 3, 1) := by decide +kernel
theorem d_W_law_873 : decode b_W_law 873 = .ok (.iadd, 1) := by decide +kernel
theorem d_W_law_874 : decode b_W_law 874 = .ok (.iaload, 1) := by decide +kernel
theorem d_W_law_875 : decode b_W_law 875 = .ok (.invokevirtual 82, 3) := by decide +kernel
theorem d_W_law_878 : decode b_W_law 878 = .ok (.lcmp, 1) := by decide +kernel
theorem d_W_law_879 : decode b_W_law 879 = .ok (.ifCond .eq 143, 3) := by decide +kernel
theorem d_W_law_882 : decode b_W_law 882 = .ok (.iconst 0, 1) := by decide +kernel
theorem d_W_law_883 : decode b_W_law 883 = .ok (.ireturn, 1) := by decide +kernel
theorem d_W_law_884 : decode b_W_law 884 = .ok (.aload_n 1, 1) := by decide +kernel
theorem d_W_law_885 : decode b_W_law 885 = .ok (.aload_n 0, 1) := by decide +kernel
theorem d_W_law_886 : decode b_W_law 886 = .ok (.iload 4, 2) := by decide +kernel
theorem d_W_law_888 : decode b_W_law 888 = .ok (.iconst 1, 1) := by decide +kernel
theorem d_W_law_889 : decode b_W_law 889 = .ok (.iadd, 1) := by decide +kernel
theorem d_W_law_890 : decode b_W_law 890 = .ok (.iaload, 1) := by decide +kernel
theorem d_W_law_891 : decode b_W_law 891 = .ok (.invokevirtual 83, 3) := by decide +kernel
theorem d_W_law_894 : decode b_W_law 894 = .ok (.aload_n 2, 1) := by decide +kernel
theorem d_W_law_895 : decode b_W_law 895 = .ok (.aload_n 0, 1) := by decide +kernel
theorem d_W_law_896 : decode b_W_law 896 = .ok (.iload 4, 2) := by decide +kernel
theorem d_W_law_898 : decode b_W_law 898 = .ok (.iconst 1, 1) := by decide +kernel
theorem d_W_law_899 : decode b_W_law 899 = .ok (.iadd, 1) := by decide +kernel
theorem d_W_law_900 : decode b_W_law 900 = .ok (.iaload, 1) := by decide +kernel
theorem d_W_law_901 : decode b_W_law 901 = .ok (.invokevirtual 87, 3) := by decide +kernel
theorem d_W_law_904 : decode b_W_law 904 = .ok (.if_icmp .eq 118, 3) := by decide +kernel
theorem d_W_law_907 : decode b_W_law 907 = .ok (.iconst 0, 1) := by decide +kernel
theorem d_W_law_908 : decode b_W_law 908 = .ok (.ireturn, 1) := by decide +kernel
theorem d_W_law_909 : decode b_W_law 909 = .ok (.aload_n 1, 1) := by decide +kernel
theorem d_W_law_910 : decode b_W_law 910 = .ok (.aload_n 0, 1) := by decide +kernel
theorem d_W_law_911 : decode b_W_law 911 = .ok (.iload 4, 2) := by decide +kernel
theorem d_W_law_913 : decode b_W_law 913 = .ok (.iconst 1, 1) := by decide +kernel
theorem d_W_law_914 : decode b_W_law 914 = .ok (.iadd, 1) := by decide +kernel
theorem d_W_law_915 : decode b_W_law 915 = .ok (.iaload, 1) := by decide +kernel
theorem d_W_law_916 : decode b_W_law 916 = .ok (.invokevirtual 88, 3) := by decide +kernel
theorem d_W_law_919 : decode b_W_law 919 = .ok (.aload_n 2, 1) := by decide +kernel
theorem d_W_law_920 : decode b_W_law 920 = .ok (.aload_n 0, 1) := by decide +kernel
theorem d_W_law_921 : decode b_W_law 921 = .ok (.iload 4, 2) := by decide +kernel
theorem d_W_law_923 : decode b_W_law 923 = .ok (.iconst 1, 1) := by decide +kernel
theorem d_W_law_924 : decode b_W_law 924 = .ok (.iadd, 1) := by decide +kernel
theorem d_W_law_925 : decode b_W_law 925 = .ok (.iaload, 1) := by decide +kernel
theorem d_W_law_926 : decode b_W_law 926 = .ok (.invokevirtual 92, 3) := by decide +kernel
theorem d_W_law_929 : decode b_W_law 929 = .ok (.if_icmp .eq 93, 3) := by decide +kernel
theorem d_W_law_932 : decode b_W_law 932 = .ok (.iconst 0, 1) := by decide +kernel
theorem d_W_law_933 : decode b_W_law 933 = .ok (.ireturn, 1) := by decide +kernel
theorem d_W_law_934 : decode b_W_law 934 = .ok (.aload_n 1, 1) := by decide +kernel
theorem d_W_law_935 : decode b_W_law 935 = .ok (.aload_n 0, 1) := by decide +kernel
theorem d_W_law_936 : decode b_W_law 936 = .ok (.iload 4, 2) := by decide +kernel
theorem d_W_law_938 : decode b_W_law 938 = .ok (.iconst 1, 1) := by decide +kernel
theorem d_W_law_939 : decode b_W_law 939 = .ok (.iadd, 1) := by decide +kernel
theorem d_W_law_940 : decode b_W_law 940 = .ok (.iaload, 1) := by decide +kernel
