theorem d_W_law_941 : decode b_W_law 941 = .ok (.aload_n 0, 1) := by decide +kernel
theorem d_W_law_942 : decode b_W_law 942 = .ok (.iload 4, 2) := by decide +kernel
theorem d_W_law_944 : decode b_W_law 944 = .ok (.iconst 2, 1) := by decide +kernel
theorem d_W_law_945 : decode b_W_law 945 = .ok (.iadd, 1) := by decide +kernel
theorem d_W_law_946 : decode b_W_law 946 = .ok (.iaload, 1) := by decide +kernel
theorem d_W_law_947 : decode b_W_law 947 = .ok (.invokevirtual 93, 3) := by decide +kernel
theorem d_W_law_950 : decode b_W_law 950 = .ok (.aload_n 2, 1) := by decide +kernel
theorem d_W_law_951 : decode b_W_law 951 = .ok (.aload_n 0, 1) := by decide +kernel
theorem d_W_law_952 : decode b_W_law 952 = .ok (.iload 4, 2) := by decide +kernel
theorem d_W_law_954 : decode b_W_law 954 = .ok (.iconst 1, 1) := by decide +kernel
theorem d_W_law_955 : decode b_W_law 955 = .ok (.iadd, 1) := by decide +kernel
theorem d_W_law_956 : decode b_W_law 956 = .ok (.iaload, 1) := by decide +kernel
theorem d_W_law_957 : decode b_W_law 957 = .ok (.aload_n 0, 1) := by decide +kernel
theorem d_W_law_958 : decode b_W_law 958 = .ok (.iload 4, 2) := by decide +kernel
theorem d_W_law_960 : decode b_W_law 960 = .ok (.iconst 2, 1) := by decide +kernel
theorem d_W_law_961 : decode b_W_law 961 = .ok (.iadd, 1) := by decide +kernel
theorem d_W_law_962 : decode b_W_law 962 = .ok (.iaload, 1) := by decide +kernel
theorem d_W_law_963 : decode b_W_law 963 = .ok (.invokevirtual 96, 3) := by decide +kernel
theorem d_W_law_966 : decode b_W_law 966 = .ok (.lcmp, 1) := by decide +kernel
theorem d_W_law_967 : decode b_W_law 967 = .ok (.ifCond .eq 55, 3) := by decide +kernel
theorem d_W_law_970 : decode b_W_law 970 = .ok (.iconst 0, 1) := by decide +kernel
theorem d_W_law_971 : decode b_W_law 971 = .ok (.ireturn, 1) := by decide +kernel
theorem d_W_law_972 : decode b_W_law 972 = .ok (.aload_n 1, 1) := by decide +kernel
theorem d_W_law_973 : decode b_W_law 973 = .ok (.aload_n 0, 1) := by decide +kernel
theorem d_W_law_974 : decode b_W_law 974 = .ok (.iload 4, 2) := by decide +kernel
theorem d_W_law_976 : decode b_W_law 976 = .ok (.iconst 1, 1) := by decide +kernel
theorem d_W_law_977 : decode b_W_law 977 = .ok (.iadd, 1) := by decide +kernel
theorem d_W_law_978 : decode b_W_law 978 = .ok (.iaload, 1) := by decide +kernel
theorem d_W_law_979 : decode b_W_law 979 = .ok (.aload_n 0, 1) := by decide +kernel
theorem d_W_law_980 : decode b_W_law 980 = .ok (.iload 4, 2) := by decide +kernel
theorem d_W_law_982 : decode b_W_law 982 = .ok (.iconst 2, 1) := by decide +kernel
theorem d_W_law_983 : decode b_W_law 983 = .ok (.iadd, 1) := by decide +kernel
theorem d_W_law_984 : decode b_W_law 984 = .ok (.iaload, 1) := by decide +kernel
theorem d_W_law_985 : decode b_W_law 985 = .ok (.aload_n 0, 1) := by decide +kernel
theorem d_W_law_986 : decode b_W_law 986 = .ok (.iload 4, 2) := by decide +kernel
theorem d_W_law_988 : decode b_W_law 988 = .ok (.iconst 3, 1) := by decide +kernel
theorem d_W_law_989 : decode b_W_law 989 = .ok (.iadd, 1) := by decide +kernel
theorem d_W_law_990 : decode b_W_law 990 = .ok (.iaload, 1) := by decide +kernel
theorem d_W_law_991 : decode b_W_law 991 = .ok (.invokevirtual 97, 3) := by decide +kernel
theorem d_W_law_994 : decode b_W_law 994 = .ok (.aload_n 2, 1) := by decide +kernel
theorem d_W_law_995 : decode b_W_law 995 = .ok (.aload_n 0, 1) := by decide +kernel
theorem d_W_law_996 : decode b_W_law 996 = .ok (.iload 4, 2) := by decide +kernel
theorem d_W_law_998 : decode b_W_law 998 = .ok (.iconst 1, 1) := by decide +kernel
theorem d_W_law_999 : decode b_W_law 999 = .ok (.iadd, 1) := by decide +kernel
theorem d_W_law_1000 : decode b_W_law 1000 = .ok (.iaload, 1) := by decide +kernel
theorem d_W_law_1001 : decode b_W_law 1001 = .ok (.aload_n 0, 1) := by decide +kernel
theorem d_W_law_1002 : decode b_W_law 1002 = .ok (.iload 4, 2) := by decide +kernel
theorem d_W_law_1004 : decode b_W_law 1004 = .ok (.iconst 2, 1) := by decide +kernel
theorem d_W_law_1005 : decode b_W_law 1005 = .ok (.iadd, 1) := by decide +kernel
theorem d_W_law_1006 : decode b_W_law 1006 = .ok (.iaload, 1) := by decide +kernel
theorem d_W_law_1007 : decode b_W_law 1007 = .ok (.aload_n 0, 1) := by decide +kernel
theorem d_W_law_1008 : decode b_W_law 1008 = .ok (.iload 4, 2) := by decide +kernel
theorem d_W_law_1010 : decode b_W_law 1010 = .ok (.iconst 3, 1) := by decide +kernel
theorem d_W_law_1011 : decode b_W_law 1011 = .ok (.iadd, 1) := by decide +kernel
theorem d_W_law_1012 : decode b_W_law 1012 = .ok (.iaload, 1) := by decide +kernel
theorem d_W_law_1013 : decode b_W_law 1013 = .ok (.invokevirtual 100, 3) := by decide +kernel
theorem d_W_law_1016 : decode b_W_law 1016 = .ok (.lcmp, 1) := by decide +kernel
theorem d_W_law_1017 : decode b_W_law 1017 = .ok (.ifCond .eq 5, 3) := by decide +kernel
theorem d_W_law_1020 : decode b_W_law 1020 = .ok (.iconst 0, 1) := by decide +kernel
theorem d_W_law_1021 : decode b_W_law 1021 = .ok (.ireturn, 1) := by decide +kernel
theorem d_W_law_1022 : decode b_W_law 1022 = .ok (.iinc 4 6, 3) := by decide +kernel
theorem d_W_law_1025 : decode b_W_law 1025 = .ok (.goto (-1002), 3) := by decide +kernel
theorem d_W_law_1028 : decode b_W_law 1028 = .ok (.iconst 1, 1) := by decide +kernel
theorem d_W_law_1029 : decode b_W_law 1029 = .ok (.ireturn, 1) := by decide +kernel
