theorem d_M_init_0 : decode b_M_init 0 = .ok (.aload_n 0, 1) := by decide +kernel
theorem d_M_init_1 : decode b_M_init 1 = .ok (.invokespecial 1, 3) := by decide +kernel
theorem d_M_init_4 : decode b_M_init 4 = .ok (.aload_n 0, 1) := by decide +kernel
theorem d_M_init_5 : decode b_M_init 5 = .ok (.bipush 10, 2) := by decide +kernel
theorem d_M_init_7 : decode b_M_init 7 = .ok (.newarray .int, 2) := by decide +kernel
theorem d_M_init_9 : decode b_M_init 9 = .ok (.putfield 7, 3) := by decide +kernel
theorem d_M_init_12 : decode b_M_init 12 = .ok (.aload_n 0, 1) := by decide +kernel
theorem d_M_init_13 : decode b_M_init 13 = .ok (.bipush 10, 2) := by decide +kernel
theorem d_M_init_15 : decode b_M_init 15 = .ok (.newarray .int, 2) := by decide +kernel
theorem d_M_init_17 : decode b_M_init 17 = .ok (.putfield 13, 3) := by decide +kernel
theorem d_M_init_20 : decode b_M_init 20 = .ok (.aload_n 0, 1) := by decide +kernel
theorem d_M_init_21 : decode b_M_init 21 = .ok (.bipush 10, 2) := by decide +kernel
theorem d_M_init_23 : decode b_M_init 23 = .ok (.newarray .int, 2) := by decide +kernel
theorem d_M_init_25 : decode b_M_init 25 = .ok (.putfield 16, 3) := by decide +kernel
theorem d_M_init_28 : decode b_M_init 28 = .ok (.aload_n 0, 1) := by decide +kernel
theorem d_M_init_29 : decode b_M_init 29 = .ok (.bipush 10, 2) := by decide +kernel
theorem d_M_init_31 : decode b_M_init 31 = .ok (.newarray .int, 2) := by decide +kernel
theorem d_M_init_33 : decode b_M_init 33 = .ok (.putfield 19, 3) := by decide +kernel
theorem d_M_init_36 : decode b_M_init 36 = .ok (.aload_n 0, 1) := by decide +kernel
theorem d_M_init_37 : decode b_M_init 37 = .ok (.bipush 10, 2) := by decide +kernel
theorem d_M_init_39 : decode b_M_init 39 = .ok (.newarray .int, 2) := by decide +kernel
theorem d_M_init_41 : decode b_M_init 41 = .ok (.putfield 22, 3) := by decide +kernel
theorem d_M_init_44 : decode b_M_init 44 = .ok (.aload_n 0, 1) := by decide +kernel
theorem d_M_init_45 : decode b_M_init 45 = .ok (.bipush 100, 2) := by decide +kernel
theorem d_M_init_47 : decode b_M_init 47 = .ok (.newarray .long, 2) := by decide +kernel
theorem d_M_init_49 : decode b_M_init 49 = .ok (.putfield 25, 3) := by decide +kernel
theorem d_M_init_52 : decode b_M_init 52 = .ok (.aload_n 0, 1) := by decide +kernel
theorem d_M_init_53 : decode b_M_init 53 = .ok (.bipush 121, 2) := by decide +kernel
theorem d_M_init_55 : decode b_M_init 55 = .ok (.newarray .int, 2) := by decide +kernel
theorem d_M_init_57 : decode b_M_init 57 = .ok (.putfield 29, 3) := by decide +kernel
theorem d_M_init_60 : decode b_M_init 60 = .ok (.aload_n 0, 1) := by decide +kernel
theorem d_M_init_61 : decode b_M_init 61 = .ok (.bipush 121, 2) := by decide +kernel
theorem d_M_init_63 : decode b_M_init 63 = .ok (.newarray .int, 2) := by decide +kernel
theorem d_M_init_65 : decode b_M_init 65 = .ok (.putfield 32, 3) := by decide +kernel
theorem d_M_init_68 : decode b_M_init 68 = .ok (.aload_n 0, 1) := by decide +kernel
theorem d_M_init_69 : decode b_M_init 69 = .ok (.bipush 121, 2) := by decide +kernel
theorem d_M_init_71 : decode b_M_init 71 = .ok (.newarray .int, 2) := by decide +kernel
theorem d_M_init_73 : decode b_M_init 73 = .ok (.putfield 35, 3) := by decide +kernel
theorem d_M_init_76 : decode b_M_init 76 = .ok (.aload_n 0, 1) := by decide +kernel
theorem d_M_init_77 : decode b_M_init 77 = .ok (.bipush 121, 2) := by decide +kernel
theorem d_M_init_79 : decode b_M_init 79 = .ok (.newarray .int, 2) := by decide +kernel
theorem d_M_init_81 : decode b_M_init 81 = .ok (.putfield 38, 3) := by decide +kernel
theorem d_M_init_84 : decode b_M_init 84 = .ok (.aload_n 0, 1) := by decide +kernel
theorem d_M_init_85 : decode b_M_init 85 = .ok (.bipush 121, 2) := by decide +kernel
theorem d_M_init_87 : decode b_M_init 87 = .ok (.newarray .int, 2) := by decide +kernel
theorem d_M_init_89 : decode b_M_init 89 = .ok (.putfield 41, 3) := by decide +kernel
theorem d_M_init_92 : decode b_M_init 92 = .ok (.aload_n 0, 1) := by decide +kernel
theorem d_M_init_93 : decode b_M_init 93 = .ok (.bipush 121, 2) := by decide +kernel
theorem d_M_init_95 : decode b_M_init 95 = .ok (.newarray .long, 2) := by decide +kernel
theorem d_M_init_97 : decode b_M_init 97 = .ok (.putfield 44, 3) := by decide +kernel
theorem d_M_init_100 : decode b_M_init 100 = .ok (.aload_n 0, 1) := by decide +kernel
theorem d_M_init_101 : decode b_M_init 101 = .ok (.sipush 201, 3) := by decide +kernel
theorem d_M_init_104 : decode b_M_init 104 = .ok (.newarray .int, 2) := by decide +kernel
theorem d_M_init_106 : decode b_M_init 106 = .ok (.putfield 47, 3) := by decide +kernel
theorem d_M_init_109 : decode b_M_init 109 = .ok (.aload_n 0, 1) := by decide +kernel
theorem d_M_init_110 : decode b_M_init 110 = .ok (.sipush 201, 3) := by decide +kernel
theorem d_M_init_113 : decode b_M_init 113 = .ok (.newarray .int, 2) := by decide +kernel
theorem d_M_init_115 : decode b_M_init 115 = .ok (.putfield 50, 3) := by decide +kernel
theorem d_M_init_118 : decode b_M_init 118 = .ok (.aload_n 0, 1) := by decide +kernel
theorem d_M_init_119 : decode b_M_init 119 = .ok (.sipush 201, 3) := by decide +kernel
theorem d_M_init_122 : decode b_M_init 122 = .ok (.newarray .int, 2) := by decide +kernel
theorem d_M_init_124 : decode b_M_init 124 = .ok (.putfield 53, 3) := by decide +kernel
theorem d_M_init_127 : decode b_M_init 127 = .ok (.aload_n 0, 1) := by decide +kernel
theorem d_M_init_128 : decode b_M_init 128 = .ok (.sipush 201, 3) := by decide +kernel
theorem d_M_init_131 : decode b_M_init 131 = .ok (.newarray .int, 2) := by decide +kernel
theorem d_M_init_133 : decode b_M_init 133 = .ok (.putfield 56, 3) := by decide +kernel
theorem d_M_init_136 : decode b_M_init 136 = .ok (.aload_n 0, 1) := by decide +kernel
theorem d_M_init_137 : decode b_M_init 137 = .ok (.sipush 201, 3) := by decide +kernel
theorem d_M_init_140 : decode b_M_init 140 = .ok (.newarray .int, 2) := by decide +kernel
theorem d_M_init_142 : decode b_M_init 142 = .ok (.putfield 59, 3) := by decide +kernel
theorem d_M_init_145 : decode b_M_init 145 = .ok (.aload_n 0, 1) := by decide +kernel
theorem d_M_init_146 : decode b_M_init 146 = .ok (.sipush 201, 3) := by decide +kernel
theorem d_M_init_149 : decode b_M_init 149 = .ok (.newarray .long, 2) := by decide +kernel
theorem d_M_init_151 : decode b_M_init 151 = .ok (.putfield 62, 3) := by decide +kernel
theorem d_M_init_154 : decode b_M_init 154 = .ok (.aload_n 0, 1) := by decide +kernel
theorem d_M_init_155 : decode b_M_init 155 = .ok (.sipush 201, 3) := by decide +kernel
theorem d_M_init_158 : decode b_M_init 158 = .ok (.newarray .boolean, 2) := by decide +kernel
theorem d_M_init_160 : decode b_M_init 160 = .ok (.putfield 65, 3) := by decide +kernel
theorem d_M_init_163 : decode b_M_init 163 = .ok (.aload_n 0, 1) := by decide +kernel
theorem d_M_init_164 : decode b_M_init 164 = .ok (.bipush 30, 2) := by decide +kernel
theorem d_M_init_166 : decode b_M_init 166 = .ok (.newarray .long, 2) := by decide +kernel
theorem d_M_init_168 : decode b_M_init 168 = .ok (.putfield 69, 3) := by decide +kernel
theorem d_M_init_171 : decode b_M_init 171 = .ok (.aload_n 0, 1) := by decide +kernel
theorem d_M_init_172 : decode b_M_init 172 = .ok (.sipush 1000, 3) := by decide +kernel
theorem d_M_init_175 : decode b_M_init 175 = .ok (.putfield 72, 3) := by decide +kernel
theorem d_M_init_178 : decode b_M_init 178 = .ok (.return_, 1) := by decide +kernel
theorem d_M_thrown_0 : decode b_M_thrown 0 = .ok (.aload_n 0, 1) := by decide +kernel
theorem d_M_thrown_1 : decode b_M_thrown 1 = .ok (.getfield 76, 3) := by decide +kernel
theorem d_M_thrown_4 : decode b_M_thrown 4 = .ok (.ireturn, 1) := by decide +kernel
theorem d_M_in_0 : decode b_M_in 0 = .ok (.lload_n 0, 1) := by decide +kernel
theorem d_M_in_1 : decode b_M_in 1 = .ok (.lload_n 2, 1) := by decide +kernel
theorem d_M_in_2 : decode b_M_in 2 = .ok (.lcmp, 1) := by decide +kernel
theorem d_M_in_3 : decode b_M_in 3 = .ok (.ifCond .lt 14, 3) := by decide +kernel
theorem d_M_in_6 : decode b_M_in 6 = .ok (.lload_n 0, 1) := by decide +kernel
theorem d_M_in_7 : decode b_M_in 7 = .ok (.lload 4, 2) := by decide +kernel
theorem d_M_in_9 : decode b_M_in 9 = .ok (.lcmp, 1) := by decide +kernel
theorem d_M_in_10 : decode b_M_in 10 = .ok (.ifCond .gt 7, 3) := by decide +kernel
theorem d_M_in_13 : decode b_M_in 13 = .ok (.iconst 1, 1) := by decide +kernel
theorem d_M_in_14 : decode b_M_in 14 = .ok (.goto 4, 3) := by decide +kernel
theorem d_M_in_17 : decode b_M_in 17 = .ok (.iconst 0, 1) := by decide +kernel
theorem d_M_in_18 : decode b_M_in 18 = .ok (.ireturn, 1) := by decide +kernel
theorem d_M_isDay_0 : decode b_M_isDay 0 = .ok (.lload_n 0, 1) := by decide +kernel
theorem d_M_isDay_1 : decode b_M_isDay 1 = .ok (.lconst 0, 1) := by decide +kernel
theorem d_M_isDay_2 : decode b_M_isDay 2 = .ok (.ldc2_w 79, 3) := by decide +kernel
theorem d_M_isDay_5 : decode b_M_isDay 5 = .ok (.invokestatic 81, 3) := by decide +kernel
theorem d_M_isDay_8 : decode b_M_isDay 8 = .ok (.ireturn, 1) := by decide +kernel
theorem d_M_rule_0 : decode b_M_rule 0 = .ok (.aload_n 0, 1) := by decide +kernel
theorem d_M_rule_1 : decode b_M_rule 1 = .ok (.iconst 0, 1) := by decide +kernel
theorem d_M_rule_2 : decode b_M_rule 2 = .ok (.putfield 76, 3) := by decide +kernel
theorem d_M_rule_5 : decode b_M_rule 5 = .ok (.iload_n 1, 1) := by decide +kernel
theorem d_M_rule_6 : decode b_M_rule 6 = .ok (.i2l, 1) := by decide +kernel
theorem d_M_rule_7 : decode b_M_rule 7 = .ok (.lconst 0, 1) := by decide +kernel
theorem d_M_rule_8 : decode b_M_rule 8 = .ok (.ldc2_w 85, 3) := by decide +kernel
theorem d_M_rule_11 : decode b_M_rule 11 = .ok (.invokestatic 81, 3) := by decide +kernel
theorem d_M_rule_14 : decode b_M_rule 14 = .ok (.ifCond .eq 36, 3) := by decide +kernel
theorem d_M_rule_17 : decode b_M_rule 17 = .ok (.iload_n 2, 1) := by decide +kernel
theorem d_M_rule_18 : decode b_M_rule 18 = .ok (.i2l, 1) := by decide +kernel
theorem d_M_rule_19 : decode b_M_rule 19 = .ok (.lconst 0, 1) := by decide +kernel
theorem d_M_rule_20 : decode b_M_rule 20 = .ok (.ldc2_w 87, 3) := by decide +kernel
theorem d_M_rule_23 : decode b_M_rule 23 = .ok (.invokestatic 81, 3) := by decide +kernel
theorem d_M_rule_26 : decode b_M_rule 26 = .ok (.ifCond .eq 24, 3) := by decide +kernel
theorem d_M_rule_29 : decode b_M_rule 29 = .ok (.iload_n 3, 1) := by decide +kernel
theorem d_M_rule_30 : decode b_M_rule 30 = .ok (.i2l, 1) := by decide +kernel
theorem d_M_rule_31 : decode b_M_rule 31 = .ok (.lconst 0, 1) := by decide +kernel
theorem d_M_rule_32 : decode b_M_rule 32 = .ok (.ldc2_w 89, 3) := by decide +kernel
theorem d_M_rule_35 : decode b_M_rule 35 = .ok (.invokestatic 81, 3) := by decide +kernel
theorem d_M_rule_38 : decode b_M_rule 38 = .ok (.ifCond .eq 12, 3) := by decide +kernel
theorem d_M_rule_41 : decode b_M_rule 41 = .ok (.aload_n 0, 1) := by decide +kernel
theorem d_M_rule_42 : decode b_M_rule 42 = .ok (.getfield 91, 3) := by decide +kernel
theorem d_M_rule_45 : decode b_M_rule 45 = .ok (.bipush 10, 2) := by decide +kernel
theorem d_M_rule_47 : decode b_M_rule 47 = .ok (.if_icmp .ne 5, 3) := by decide +kernel
theorem d_M_rule_50 : decode b_M_rule 50 = .ok (.iconst (-1), 1) := by decide +kernel
theorem d_M_rule_51 : decode b_M_rule 51 = .ok (.ireturn, 1) := by decide +kernel
theorem d_M_rule_52 : decode b_M_rule 52 = .ok (.aload_n 0, 1) := by decide +kernel
theorem d_M_rule_53 : decode b_M_rule 53 = .ok (.getfield 7, 3) := by decide +kernel
theorem d_M_rule_56 : decode b_M_rule 56 = .ok (.aload_n 0, 1) := by decide +kernel
theorem d_M_rule_57 : decode b_M_rule 57 = .ok (.getfield 91, 3) := by decide +kernel
theorem d_M_rule_60 : decode b_M_rule 60 = .ok (.iload_n 1, 1) := by decide +kernel
theorem d_M_rule_61 : decode b_M_rule 61 = .ok (.iastore, 1) := by decide +kernel
theorem d_M_rule_62 : decode b_M_rule 62 = .ok (.aload_n 0, 1) := by decide +kernel
theorem d_M_rule_63 : decode b_M_rule 63 = .ok (.getfield 13, 3) := by decide +kernel
theorem d_M_rule_66 : decode b_M_rule 66 = .ok (.aload_n 0, 1) := by decide +kernel
theorem d_M_rule_67 : decode b_M_rule 67 = .ok (.getfield 91, 3) := by decide +kernel
theorem d_M_rule_70 : decode b_M_rule 70 = .ok (.iload_n 2, 1) := by decide +kernel
theorem d_M_rule_71 : decode b_M_rule 71 = .ok (.iastore, 1) := by decide +kernel
theorem d_M_rule_72 : decode b_M_rule 72 = .ok (.aload_n 0, 1) := by decide +kernel
theorem d_M_rule_73 : decode b_M_rule 73 = .ok (.getfield 16, 3) := by decide +kernel
theorem d_M_rule_76 : decode b_M_rule 76 = .ok (.aload_n 0, 1) := by decide +kernel
theorem d_M_rule_77 : decode b_M_rule 77 = .ok (.getfield 91, 3) := by decide +kernel
theorem d_M_rule_80 : decode b_M_rule 80 = .ok (.iload_n 3, 1) := by decide +kernel
theorem d_M_rule_81 : decode b_M_rule 81 = .ok (.iastore, 1) := by decide +kernel
theorem d_M_rule_82 : decode b_M_rule 82 = .ok (.aload_n 0, 1) := by decide +kernel
theorem d_M_rule_83 : decode b_M_rule 83 = .ok (.getfield 19, 3) := by decide +kernel
theorem d_M_rule_86 : decode b_M_rule 86 = .ok (.aload_n 0, 1) := by decide +kernel
theorem d_M_rule_87 : decode b_M_rule 87 = .ok (.getfield 91, 3) := by decide +kernel
theorem d_M_rule_90 : decode b_M_rule 90 = .ok (.iconst 0, 1) := by decide +kernel
theorem d_M_rule_91 : decode b_M_rule 91 = .ok (.iastore, 1) := by decide +kernel
theorem d_M_rule_92 : decode b_M_rule 92 = .ok (.aload_n 0, 1) := by decide +kernel
theorem d_M_rule_93 : decode b_M_rule 93 = .ok (.getfield 22, 3) := by decide +kernel
theorem d_M_rule_96 : decode b_M_rule 96 = .ok (.aload_n 0, 1) := by decide +kernel
theorem d_M_rule_97 : decode b_M_rule 97 = .ok (.getfield 91, 3) := by decide +kernel
theorem d_M_rule_100 : decode b_M_rule 100 = .ok (.iconst 1, 1) := by decide +kernel
theorem d_M_rule_101 : decode b_M_rule 101 = .ok (.iastore, 1) := by decide +kernel
theorem d_M_rule_102 : decode b_M_rule 102 = .ok (.aload_n 0, 1) := by decide +kernel
theorem d_M_rule_103 : decode b_M_rule 103 = .ok (.dup, 1) := by decide +kernel
theorem d_M_rule_104 : decode b_M_rule 104 = .ok (.getfield 91, 3) := by decide +kernel
theorem d_M_rule_107 : decode b_M_rule 107 = .ok (.iconst 1, 1) := by decide +kernel
theorem d_M_rule_108 : decode b_M_rule 108 = .ok (.iadd, 1) := by decide +kernel
theorem d_M_rule_109 : decode b_M_rule 109 = .ok (.putfield 91, 3) := by decide +kernel
theorem d_M_rule_112 : decode b_M_rule 112 = .ok (.aload_n 0, 1) := by decide +kernel
theorem d_M_rule_113 : decode b_M_rule 113 = .ok (.getfield 91, 3) := by decide +kernel
theorem d_M_rule_116 : decode b_M_rule 116 = .ok (.iconst 1, 1) := by decide +kernel
theorem d_M_rule_117 : decode b_M_rule 117 = .ok (.isub, 1) := by decide +kernel
theorem d_M_rule_118 : decode b_M_rule 118 = .ok (.ireturn, 1) := by decide +kernel
theorem d_M_interest_0 : decode b_M_interest 0 = .ok (.iload_n 1, 1) := by decide +kernel
theorem d_M_interest_1 : decode b_M_interest 1 = .ok (.i2l, 1) := by decide +kernel
theorem d_M_interest_2 : decode b_M_interest 2 = .ok (.lconst 0, 1) := by decide +kernel
theorem d_M_interest_3 : decode b_M_interest 3 = .ok (.aload_n 0, 1) := by decide +kernel
theorem d_M_interest_4 : decode b_M_interest 4 = .ok (.getfield 91, 3) := by decide +kernel
theorem d_M_interest_7 : decode b_M_interest 7 = .ok (.iconst 1, 1) := by decide +kernel
theorem d_M_interest_8 : decode b_M_interest 8 = .ok (.isub, 1) := by decide +kernel
theorem d_M_interest_9 : decode b_M_interest 9 = .ok (.i2l, 1) := by decide +kernel
theorem d_M_interest_10 : decode b_M_interest 10 = .ok (.invokestatic 81, 3) := by decide +kernel
theorem d_M_interest_13 : decode b_M_interest 13 = .ok (.ifCond .eq 31, 3) := by decide +kernel
theorem d_M_interest_16 : decode b_M_interest 16 = .ok (.iload_n 2, 1) := by decide +kernel
theorem d_M_interest_17 : decode b_M_interest 17 = .ok (.i2l, 1) := by decide +kernel
theorem d_M_interest_18 : decode b_M_interest 18 = .ok (.lconst 0, 1) := by decide +kernel
theorem d_M_interest_19 : decode b_M_interest 19 = .ok (.ldc2_w 94, 3) := by decide +kernel
theorem d_M_interest_22 : decode b_M_interest 22 = .ok (.invokestatic 81, 3) := by decide +kernel
theorem d_M_interest_25 : decode b_M_interest 25 = .ok (.ifCond .eq 19, 3) := by decide +kernel
theorem d_M_interest_28 : decode b_M_interest 28 = .ok (.iload_n 3, 1) := by decide +kernel
theorem d_M_interest_29 : decode b_M_interest 29 = .ok (.i2l, 1) := by decide +kernel
theorem d_M_interest_30 : decode b_M_interest 30 = .ok (.lconst 0, 1) := by decide +kernel
theorem d_M_interest_31 : decode b_M_interest 31 = .ok (.ldc2_w 79, 3) := by decide +kernel
theorem d_M_interest_34 : decode b_M_interest 34 = .ok (.invokestatic 81, 3) := by decide +kernel
theorem d_M_interest_37 : decode b_M_interest 37 = .ok (.ifCond .eq 7, 3) := by decide +kernel
theorem d_M_interest_40 : decode b_M_interest 40 = .ok (.iconst 1, 1) := by decide +kernel
theorem d_M_interest_41 : decode b_M_interest 41 = .ok (.goto 4, 3) := by decide +kernel
theorem d_M_interest_44 : decode b_M_interest 44 = .ok (.iconst 0, 1) := by decide +kernel
theorem d_M_interest_45 : decode b_M_interest 45 = .ok (.istore 4, 2) := by decide +kernel
theorem d_M_interest_47 : decode b_M_interest 47 = .ok (.aload_n 0, 1) := by decide +kernel
theorem d_M_interest_48 : decode b_M_interest 48 = .ok (.iload 4, 2) := by decide +kernel
theorem d_M_interest_50 : decode b_M_interest 50 = .ok (.ifCond .eq 11, 3) := by decide +kernel
theorem d_M_interest_53 : decode b_M_interest 53 = .ok (.iload_n 3, 1) := by decide +kernel
theorem d_M_interest_54 : decode b_M_interest 54 = .ok (.ifCond .ne 7, 3) := by decide +kernel
theorem d_M_interest_57 : decode b_M_interest 57 = .ok (.iconst 1, 1) := by decide +kernel
theorem d_M_interest_58 : decode b_M_interest 58 = .ok (.goto 4, 3) := by decide +kernel
theorem d_M_interest_61 : decode b_M_interest 61 = .ok (.iconst 0, 1) := by decide +kernel
theorem d_M_interest_62 : decode b_M_interest 62 = .ok (.putfield 76, 3) := by decide +kernel
theorem d_M_interest_65 : decode b_M_interest 65 = .ok (.iload 4, 2) := by decide +kernel
theorem d_M_interest_67 : decode b_M_interest 67 = .ok (.ifCond .eq 7, 3) := by decide +kernel
theorem d_M_interest_70 : decode b_M_interest 70 = .ok (.iload_n 3, 1) := by decide +kernel
theorem d_M_interest_71 : decode b_M_interest 71 = .ok (.ifCond .ne 14, 3) := by decide +kernel
theorem d_M_interest_74 : decode b_M_interest 74 = .ok (.iload 4, 2) := by decide +kernel
theorem d_M_interest_76 : decode b_M_interest 76 = .ok (.ifCond .eq 7, 3) := by decide +kernel
theorem d_M_interest_79 : decode b_M_interest 79 = .ok (.iconst 0, 1) := by decide +kernel
theorem d_M_interest_80 : decode b_M_interest 80 = .ok (.goto 4, 3) := by decide +kernel
theorem d_M_interest_83 : decode b_M_interest 83 = .ok (.iconst (-1), 1) := by decide +kernel
theorem d_M_interest_84 : decode b_M_interest 84 = .ok (.ireturn, 1) := by decide +kernel
theorem d_M_interest_85 : decode b_M_interest 85 = .ok (.aload_n 0, 1) := by decide +kernel
theorem d_M_interest_86 : decode b_M_interest 86 = .ok (.getfield 19, 3) := by decide +kernel
theorem d_M_interest_89 : decode b_M_interest 89 = .ok (.iload_n 1, 1) := by decide +kernel
theorem d_M_interest_90 : decode b_M_interest 90 = .ok (.iload_n 2, 1) := by decide +kernel
theorem d_M_interest_91 : decode b_M_interest 91 = .ok (.iastore, 1) := by decide +kernel
theorem d_M_interest_92 : decode b_M_interest 92 = .ok (.aload_n 0, 1) := by decide +kernel
theorem d_M_interest_93 : decode b_M_interest 93 = .ok (.getfield 22, 3) := by decide +kernel
theorem d_M_interest_96 : decode b_M_interest 96 = .ok (.iload_n 1, 1) := by decide +kernel
theorem d_M_interest_97 : decode b_M_interest 97 = .ok (.iload_n 3, 1) := by decide +kernel
theorem d_M_interest_98 : decode b_M_interest 98 = .ok (.iastore, 1) := by decide +kernel
theorem d_M_interest_99 : decode b_M_interest 99 = .ok (.ldc 96, 2) := by decide +kernel
theorem d_M_interest_101 : decode b_M_interest 101 = .ok (.iload_n 2, 1) := by decide +kernel
theorem d_M_interest_102 : decode b_M_interest 102 = .ok (.imul, 1) := by decide +kernel
theorem d_M_interest_103 : decode b_M_interest 103 = .ok (.iload_n 3, 1) := by decide +kernel
theorem d_M_interest_104 : decode b_M_interest 104 = .ok (.idiv, 1) := by decide +kernel
theorem d_M_interest_105 : decode b_M_interest 105 = .ok (.ireturn, 1) := by decide +kernel
theorem d_M_isClosed_0 : decode b_M_isClosed 0 = .ok (.iconst 0, 1) := by decide +kernel
theorem d_M_isClosed_1 : decode b_M_isClosed 1 = .ok (.istore_n 3, 1) := by decide +kernel
theorem d_M_isClosed_2 : decode b_M_isClosed 2 = .ok (.iconst 0, 1) := by decide +kernel
theorem d_M_isClosed_3 : decode b_M_isClosed 3 = .ok (.istore 4, 2) := by decide +kernel
theorem d_M_isClosed_5 : decode b_M_isClosed 5 = .ok (.iload 4, 2) := by decide +kernel
theorem d_M_isClosed_7 : decode b_M_isClosed 7 = .ok (.aload_n 0, 1) := by decide +kernel
theorem d_M_isClosed_8 : decode b_M_isClosed 8 = .ok (.getfield 97, 3) := by decide +kernel
theorem d_M_isClosed_11 : decode b_M_isClosed 11 = .ok (.if_icmp .ge 31, 3) := by decide +kernel
theorem d_M_isClosed_14 : decode b_M_isClosed 14 = .ok (.iload_n 3, 1) := by decide +kernel
theorem d_M_isClosed_15 : decode b_M_isClosed 15 = .ok (.ifCond .ne 15, 3) := by decide +kernel
theorem d_M_isClosed_18 : decode b_M_isClosed 18 = .ok (.aload_n 0, 1) := by decide +kernel
theorem d_M_isClosed_19 : decode b_M_isClosed 19 = .ok (.getfield 25, 3) := by decide +kernel
theorem d_M_isClosed_22 : decode b_M_isClosed 22 = .ok (.iload 4, 2) := by decide +kernel
theorem d_M_isClosed_24 : decode b_M_isClosed 24 = .ok (.laload, 1) := by decide +kernel
theorem d_M_isClosed_25 : decode b_M_isClosed 25 = .ok (.lload_n 1, 1) := by decide +kernel
theorem d_M_isClosed_26 : decode b_M_isClosed 26 = .ok (.lcmp, 1) := by decide +kernel
theorem d_M_isClosed_27 : decode b_M_isClosed 27 = .ok (.ifCond .ne 7, 3) := by decide +kernel
theorem d_M_isClosed_30 : decode b_M_isClosed 30 = .ok (.iconst 1, 1) := by decide +kernel
theorem d_M_isClosed_31 : decode b_M_isClosed 31 = .ok (.goto 4, 3) := by decide +kernel
theorem d_M_isClosed_34 : decode b_M_isClosed 34 = .ok (.iconst 0, 1) := by decide +kernel
theorem d_M_isClosed_35 : decode b_M_isClosed 35 = .ok (.istore_n 3, 1) := by decide +kernel
theorem d_M_isClosed_36 : decode b_M_isClosed 36 = .ok (.iinc 4 1, 3) := by decide +kernel
theorem d_M_isClosed_39 : decode b_M_isClosed 39 = .ok (.goto (-34), 3) := by decide +kernel
theorem d_M_isClosed_42 : decode b_M_isClosed 42 = .ok (.iload_n 3, 1) := by decide +kernel
theorem d_M_isClosed_43 : decode b_M_isClosed 43 = .ok (.ireturn, 1) := by decide +kernel
theorem d_M_closed_0 : decode b_M_closed 0 = .ok (.aload_n 0, 1) := by decide +kernel
theorem d_M_closed_1 : decode b_M_closed 1 = .ok (.iconst 0, 1) := by decide +kernel
theorem d_M_closed_2 : decode b_M_closed 2 = .ok (.putfield 76, 3) := by decide +kernel
theorem d_M_closed_5 : decode b_M_closed 5 = .ok (.lload_n 1, 1) := by decide +kernel
theorem d_M_closed_6 : decode b_M_closed 6 = .ok (.invokestatic 100, 3) := by decide +kernel
theorem d_M_closed_9 : decode b_M_closed 9 = .ok (.ifCond .eq 20, 3) := by decide +kernel
theorem d_M_closed_12 : decode b_M_closed 12 = .ok (.aload_n 0, 1) := by decide +kernel
theorem d_M_closed_13 : decode b_M_closed 13 = .ok (.lload_n 1, 1) := by decide +kernel
theorem d_M_closed_14 : decode b_M_closed 14 = .ok (.invokevirtual 104, 3) := by decide +kernel
theorem d_M_closed_17 : decode b_M_closed 17 = .ok (.ifCond .ne 12, 3) := by decide +kernel
theorem d_M_closed_20 : decode b_M_closed 20 = .ok (.aload_n 0, 1) := by decide +kernel
theorem d_M_closed_21 : decode b_M_closed 21 = .ok (.getfield 97, 3) := by decide +kernel
theorem d_M_closed_24 : decode b_M_closed 24 = .ok (.bipush 100, 2) := by decide +kernel
theorem d_M_closed_26 : decode b_M_closed 26 = .ok (.if_icmp .ne 5, 3) := by decide +kernel
theorem d_M_closed_29 : decode b_M_closed 29 = .ok (.iconst 0, 1) := by decide +kernel
theorem d_M_closed_30 : decode b_M_closed 30 = .ok (.ireturn, 1) := by decide +kernel
theorem d_M_closed_31 : decode b_M_closed 31 = .ok (.aload_n 0, 1) := by decide +kernel
theorem d_M_closed_32 : decode b_M_closed 32 = .ok (.getfield 25, 3) := by decide +kernel
theorem d_M_closed_35 : decode b_M_closed 35 = .ok (.aload_n 0, 1) := by decide +kernel
theorem d_M_closed_36 : decode b_M_closed 36 = .ok (.getfield 97, 3) := by decide +kernel
theorem d_M_closed_39 : decode b_M_closed 39 = .ok (.lload_n 1, 1) := by decide +kernel
theorem d_M_closed_40 : decode b_M_closed 40 = .ok (.lastore, 1) := by decide +kernel
theorem d_M_closed_41 : decode b_M_closed 41 = .ok (.aload_n 0, 1) := by decide +kernel
theorem d_M_closed_42 : decode b_M_closed 42 = .ok (.dup, 1) := by decide +kernel
theorem d_M_closed_43 : decode b_M_closed 43 = .ok (.getfield 97, 3) := by decide +kernel
theorem d_M_closed_46 : decode b_M_closed 46 = .ok (.iconst 1, 1) := by decide +kernel
theorem d_M_closed_47 : decode b_M_closed 47 = .ok (.iadd, 1) := by decide +kernel
theorem d_M_closed_48 : decode b_M_closed 48 = .ok (.putfield 97, 3) := by decide +kernel
theorem d_M_closed_51 : decode b_M_closed 51 = .ok (.aload_n 0, 1) := by decide +kernel
theorem d_M_closed_52 : decode b_M_closed 52 = .ok (.getfield 97, 3) := by decide +kernel
theorem d_M_closed_55 : decode b_M_closed 55 = .ok (.ireturn, 1) := by decide +kernel
theorem d_M_loanOfItem_0 : decode b_M_loanOfItem 0 = .ok (.iconst 0, 1) := by decide +kernel
theorem d_M_loanOfItem_1 : decode b_M_loanOfItem 1 = .ok (.istore_n 2, 1) := by decide +kernel
theorem d_M_loanOfItem_2 : decode b_M_loanOfItem 2 = .ok (.iconst 1, 1) := by decide +kernel
theorem d_M_loanOfItem_3 : decode b_M_loanOfItem 3 = .ok (.istore_n 3, 1) := by decide +kernel
theorem d_M_loanOfItem_4 : decode b_M_loanOfItem 4 = .ok (.iload_n 3, 1) := by decide +kernel
theorem d_M_loanOfItem_5 : decode b_M_loanOfItem 5 = .ok (.aload_n 0, 1) := by decide +kernel
theorem d_M_loanOfItem_6 : decode b_M_loanOfItem 6 = .ok (.getfield 107, 3) := by decide +kernel
theorem d_M_loanOfItem_9 : decode b_M_loanOfItem 9 = .ok (.if_icmp .gt 35, 3) := by decide +kernel
theorem d_M_loanOfItem_12 : decode b_M_loanOfItem 12 = .ok (.aload_n 0, 1) := by decide +kernel
theorem d_M_loanOfItem_13 : decode b_M_loanOfItem 13 = .ok (.getfield 29, 3) := by decide +kernel
theorem d_M_loanOfItem_16 : decode b_M_loanOfItem 16 = .ok (.iload_n 3, 1) := by decide +kernel
theorem d_M_loanOfItem_17 : decode b_M_loanOfItem 17 = .ok (.iaload, 1) := by decide +kernel
theorem d_M_loanOfItem_18 : decode b_M_loanOfItem 18 = .ok (.iload_n 1, 1) := by decide +kernel
theorem d_M_loanOfItem_19 : decode b_M_loanOfItem 19 = .ok (.if_icmp .ne 17, 3) := by decide +kernel
theorem d_M_loanOfItem_22 : decode b_M_loanOfItem 22 = .ok (.aload_n 0, 1) := by decide +kernel
theorem d_M_loanOfItem_23 : decode b_M_loanOfItem 23 = .ok (.getfield 38, 3) := by decide +kernel
theorem d_M_loanOfItem_26 : decode b_M_loanOfItem 26 = .ok (.iload_n 3, 1) := by decide +kernel
theorem d_M_loanOfItem_27 : decode b_M_loanOfItem 27 = .ok (.iaload, 1) := by decide +kernel
theorem d_M_loanOfItem_28 : decode b_M_loanOfItem 28 = .ok (.iconst 2, 1) := by decide +kernel
theorem d_M_loanOfItem_29 : decode b_M_loanOfItem 29 = .ok (.if_icmp .eq 7, 3) := by decide +kernel
theorem d_M_loanOfItem_32 : decode b_M_loanOfItem 32 = .ok (.iload_n 3, 1) := by decide +kernel
theorem d_M_loanOfItem_33 : decode b_M_loanOfItem 33 = .ok (.goto 4, 3) := by decide +kernel
theorem d_M_loanOfItem_36 : decode b_M_loanOfItem 36 = .ok (.iload_n 2, 1) := by decide +kernel
theorem d_M_loanOfItem_37 : decode b_M_loanOfItem 37 = .ok (.istore_n 2, 1) := by decide +kernel
theorem d_M_loanOfItem_38 : decode b_M_loanOfItem 38 = .ok (.iinc 3 1, 3) := by decide +kernel
theorem d_M_loanOfItem_41 : decode b_M_loanOfItem 41 = .ok (.goto (-37), 3) := by decide +kernel
theorem d_M_loanOfItem_44 : decode b_M_loanOfItem 44 = .ok (.iload_n 2, 1) := by decide +kernel
theorem d_M_loanOfItem_45 : decode b_M_loanOfItem 45 = .ok (.ireturn, 1) := by decide +kernel
theorem d_M_loan_0 : decode b_M_loan 0 = .ok (.aload_n 0, 1) := by decide +kernel
theorem d_M_loan_1 : decode b_M_loan 1 = .ok (.iconst 0, 1) := by decide +kernel
theorem d_M_loan_2 : decode b_M_loan 2 = .ok (.putfield 76, 3) := by decide +kernel
theorem d_M_loan_5 : decode b_M_loan 5 = .ok (.iload_n 1, 1) := by decide +kernel
theorem d_M_loan_6 : decode b_M_loan 6 = .ok (.i2l, 1) := by decide +kernel
theorem d_M_loan_7 : decode b_M_loan 7 = .ok (.lconst 0, 1) := by decide +kernel
theorem d_M_loan_8 : decode b_M_loan 8 = .ok (.ldc2_w 110, 3) := by decide +kernel
theorem d_M_loan_11 : decode b_M_loan 11 = .ok (.invokestatic 81, 3) := by decide +kernel
theorem d_M_loan_14 : decode b_M_loan 14 = .ok (.ifCond .eq 56, 3) := by decide +kernel
theorem d_M_loan_17 : decode b_M_loan 17 = .ok (.iload_n 2, 1) := by decide +kernel
theorem d_M_loan_18 : decode b_M_loan 18 = .ok (.i2l, 1) := by decide +kernel
theorem d_M_loan_19 : decode b_M_loan 19 = .ok (.lconst 0, 1) := by decide +kernel
theorem d_M_loan_20 : decode b_M_loan 20 = .ok (.ldc2_w 112, 3) := by decide +kernel
theorem d_M_loan_23 : decode b_M_loan 23 = .ok (.invokestatic 81, 3) := by decide +kernel
theorem d_M_loan_26 : decode b_M_loan 26 = .ok (.ifCond .eq 44, 3) := by decide +kernel
theorem d_M_loan_29 : decode b_M_loan 29 = .ok (.iload_n 3, 1) := by decide +kernel
theorem d_M_loan_30 : decode b_M_loan 30 = .ok (.i2l, 1) := by decide +kernel
theorem d_M_loan_31 : decode b_M_loan 31 = .ok (.lconst 0, 1) := by decide +kernel
theorem d_M_loan_32 : decode b_M_loan 32 = .ok (.aload_n 0, 1) := by decide +kernel
theorem d_M_loan_33 : decode b_M_loan 33 = .ok (.getfield 91, 3) := by decide +kernel
theorem d_M_loan_36 : decode b_M_loan 36 = .ok (.iconst 1, 1) := by decide +kernel
theorem d_M_loan_37 : decode b_M_loan 37 = .ok (.isub, 1) := by decide +kernel
theorem d_M_loan_38 : decode b_M_loan 38 = .ok (.i2l, 1) := by decide +kernel
theorem d_M_loan_39 : decode b_M_loan 39 = .ok (.invokestatic 81, 3) := by decide +kernel
theorem d_M_loan_42 : decode b_M_loan 42 = .ok (.ifCond .eq 28, 3) := by decide +kernel
theorem d_M_loan_45 : decode b_M_loan 45 = .ok (.lload 4, 2) := by decide +kernel
theorem d_M_loan_47 : decode b_M_loan 47 = .ok (.invokestatic 100, 3) := by decide +kernel
theorem d_M_loan_50 : decode b_M_loan 50 = .ok (.ifCond .eq 20, 3) := by decide +kernel
theorem d_M_loan_53 : decode b_M_loan 53 = .ok (.aload_n 0, 1) := by decide +kernel
theorem d_M_loan_54 : decode b_M_loan 54 = .ok (.getfield 107, 3) := by decide +kernel
theorem d_M_loan_57 : decode b_M_loan 57 = .ok (.bipush 120, 2) := by decide +kernel
theorem d_M_loan_59 : decode b_M_loan 59 = .ok (.if_icmp .eq 11, 3) := by decide +kernel
theorem d_M_loan_62 : decode b_M_loan 62 = .ok (.aload_n 0, 1) := by decide +kernel
theorem d_M_loan_63 : decode b_M_loan 63 = .ok (.iload_n 1, 1) := by decide +kernel
theorem d_M_loan_64 : decode b_M_loan 64 = .ok (.invokevirtual 114, 3) := by decide +kernel
theorem d_M_loan_67 : decode b_M_loan 67 = .ok (.ifCond .le 5, 3) := by decide +kernel
theorem d_M_loan_70 : decode b_M_loan 70 = .ok (.iconst 0, 1) := by decide +kernel
theorem d_M_loan_71 : decode b_M_loan 71 = .ok (.ireturn, 1) := by decide +kernel
theorem d_M_loan_72 : decode b_M_loan 72 = .ok (.aload_n 0, 1) := by decide +kernel
theorem d_M_loan_73 : decode b_M_loan 73 = .ok (.dup, 1) := by decide +kernel
theorem d_M_loan_74 : decode b_M_loan 74 = .ok (.getfield 107, 3) := by decide +kernel
theorem d_M_loan_77 : decode b_M_loan 77 = .ok (.iconst 1, 1) := by decide +kernel
theorem d_M_loan_78 : decode b_M_loan 78 = .ok (.iadd, 1) := by decide +kernel
theorem d_M_loan_79 : decode b_M_loan 79 = .ok (.putfield 107, 3) := by decide +kernel
theorem d_M_loan_82 : decode b_M_loan 82 = .ok (.aload_n 0, 1) := by decide +kernel
theorem d_M_loan_83 : decode b_M_loan 83 = .ok (.getfield 29, 3) := by decide +kernel
theorem d_M_loan_86 : decode b_M_loan 86 = .ok (.aload_n 0, 1) := by decide +kernel
theorem d_M_loan_87 : decode b_M_loan 87 = .ok (.getfield 107, 3) := by decide +kernel
theorem d_M_loan_90 : decode b_M_loan 90 = .ok (.iload_n 1, 1) := by decide +kernel
theorem d_M_loan_91 : decode b_M_loan 91 = .ok (.iastore, 1) := by decide +kernel
theorem d_M_loan_92 : decode b_M_loan 92 = .ok (.aload_n 0, 1) := by decide +kernel
theorem d_M_loan_93 : decode b_M_loan 93 = .ok (.getfield 32, 3) := by decide +kernel
theorem d_M_loan_96 : decode b_M_loan 96 = .ok (.aload_n 0, 1) := by decide +kernel
theorem d_M_loan_97 : decode b_M_loan 97 = .ok (.getfield 107, 3) := by decide +kernel
theorem d_M_loan_100 : decode b_M_loan 100 = .ok (.iload_n 2, 1) := by decide +kernel
theorem d_M_loan_101 : decode b_M_loan 101 = .ok (.iastore, 1) := by decide +kernel
theorem d_M_loan_102 : decode b_M_loan 102 = .ok (.aload_n 0, 1) := by decide +kernel
theorem d_M_loan_103 : decode b_M_loan 103 = .ok (.getfield 35, 3) := by decide +kernel
theorem d_M_loan_106 : decode b_M_loan 106 = .ok (.aload_n 0, 1) := by decide +kernel
theorem d_M_loan_107 : decode b_M_loan 107 = .ok (.getfield 107, 3) := by decide +kernel
theorem d_M_loan_110 : decode b_M_loan 110 = .ok (.iload_n 3, 1) := by decide +kernel
theorem d_M_loan_111 : decode b_M_loan 111 = .ok (.iastore, 1) := by decide +kernel
theorem d_M_loan_112 : decode b_M_loan 112 = .ok (.aload_n 0, 1) := by decide +kernel
theorem d_M_loan_113 : decode b_M_loan 113 = .ok (.getfield 44, 3) := by decide +kernel
theorem d_M_loan_116 : decode b_M_loan 116 = .ok (.aload_n 0, 1) := by decide +kernel
theorem d_M_loan_117 : decode b_M_loan 117 = .ok (.getfield 107, 3) := by decide +kernel
theorem d_M_loan_120 : decode b_M_loan 120 = .ok (.lload 4, 2) := by decide +kernel
theorem d_M_loan_122 : decode b_M_loan 122 = .ok (.lastore, 1) := by decide +kernel
theorem d_M_loan_123 : decode b_M_loan 123 = .ok (.aload_n 0, 1) := by decide +kernel
theorem d_M_loan_124 : decode b_M_loan 124 = .ok (.getfield 38, 3) := by decide +kernel
theorem d_M_loan_127 : decode b_M_loan 127 = .ok (.aload_n 0, 1) := by decide +kernel
theorem d_M_loan_128 : decode b_M_loan 128 = .ok (.getfield 107, 3) := by decide +kernel
theorem d_M_loan_131 : decode b_M_loan 131 = .ok (.iconst 1, 1) := by decide +kernel
theorem d_M_loan_132 : decode b_M_loan 132 = .ok (.iastore, 1) := by decide +kernel
theorem d_M_loan_133 : decode b_M_loan 133 = .ok (.aload_n 0, 1) := by decide +kernel
theorem d_M_loan_134 : decode b_M_loan 134 = .ok (.getfield 107, 3) := by decide +kernel
theorem d_M_loan_137 : decode b_M_loan 137 = .ok (.ireturn, 1) := by decide +kernel
theorem d_M_isLent_0 : decode b_M_isLent 0 = .ok (.iload_n 1, 1) := by decide +kernel
theorem d_M_isLent_1 : decode b_M_isLent 1 = .ok (.i2l, 1) := by decide +kernel
theorem d_M_isLent_2 : decode b_M_isLent 2 = .ok (.lconst 1, 1) := by decide +kernel
theorem d_M_isLent_3 : decode b_M_isLent 3 = .ok (.aload_n 0, 1) := by decide +kernel
theorem d_M_isLent_4 : decode b_M_isLent 4 = .ok (.getfield 107, 3) := by decide +kernel
theorem d_M_isLent_7 : decode b_M_isLent 7 = .ok (.i2l, 1) := by decide +kernel
theorem d_M_isLent_8 : decode b_M_isLent 8 = .ok (.invokestatic 81, 3) := by decide +kernel
theorem d_M_isLent_11 : decode b_M_isLent 11 = .ok (.ifCond .eq 17, 3) := by decide +kernel
theorem d_M_isLent_14 : decode b_M_isLent 14 = .ok (.aload_n 0, 1) := by decide +kernel
theorem d_M_isLent_15 : decode b_M_isLent 15 = .ok (.getfield 38, 3) := by decide +kernel
theorem d_M_isLent_18 : decode b_M_isLent 18 = .ok (.iload_n 1, 1) := by decide +kernel
theorem d_M_isLent_19 : decode b_M_isLent 19 = .ok (.iaload, 1) := by decide +kernel
theorem d_M_isLent_20 : decode b_M_isLent 20 = .ok (.iconst 1, 1) := by decide +kernel
theorem d_M_isLent_21 : decode b_M_isLent 21 = .ok (.if_icmp .ne 7, 3) := by decide +kernel
theorem d_M_isLent_24 : decode b_M_isLent 24 = .ok (.iconst 1, 1) := by decide +kernel
theorem d_M_isLent_25 : decode b_M_isLent 25 = .ok (.goto 4, 3) := by decide +kernel
theorem d_M_isLent_28 : decode b_M_isLent 28 = .ok (.iconst 0, 1) := by decide +kernel
theorem d_M_isLent_29 : decode b_M_isLent 29 = .ok (.ireturn, 1) := by decide +kernel
theorem d_M_late_0 : decode b_M_late 0 = .ok (.lload_n 2, 1) := by decide +kernel
theorem d_M_late_1 : decode b_M_late 1 = .ok (.aload_n 0, 1) := by decide +kernel
theorem d_M_late_2 : decode b_M_late 2 = .ok (.getfield 44, 3) := by decide +kernel
theorem d_M_late_5 : decode b_M_late 5 = .ok (.iload_n 1, 1) := by decide +kernel
theorem d_M_late_6 : decode b_M_late 6 = .ok (.laload, 1) := by decide +kernel
theorem d_M_late_7 : decode b_M_late 7 = .ok (.lsub, 1) := by decide +kernel
theorem d_M_late_8 : decode b_M_late 8 = .ok (.lstore 4, 2) := by decide +kernel
theorem d_M_late_10 : decode b_M_late 10 = .ok (.iconst 0, 1) := by decide +kernel
theorem d_M_late_11 : decode b_M_late 11 = .ok (.istore 6, 2) := by decide +kernel
theorem d_M_late_13 : decode b_M_late 13 = .ok (.iload 6, 2) := by decide +kernel
theorem d_M_late_15 : decode b_M_late 15 = .ok (.aload_n 0, 1) := by decide +kernel
theorem d_M_late_16 : decode b_M_late 16 = .ok (.getfield 97, 3) := by decide +kernel
theorem d_M_late_19 : decode b_M_late 19 = .ok (.if_icmp .ge 48, 3) := by decide +kernel
theorem d_M_late_22 : decode b_M_late 22 = .ok (.lload 4, 2) := by decide +kernel
theorem d_M_late_24 : decode b_M_late 24 = .ok (.aload_n 0, 1) := by decide +kernel
theorem d_M_late_25 : decode b_M_late 25 = .ok (.getfield 25, 3) := by decide +kernel
theorem d_M_late_28 : decode b_M_late 28 = .ok (.iload 6, 2) := by decide +kernel
theorem d_M_late_30 : decode b_M_late 30 = .ok (.laload, 1) := by decide +kernel
theorem d_M_late_31 : decode b_M_late 31 = .ok (.aload_n 0, 1) := by decide +kernel
theorem d_M_late_32 : decode b_M_late 32 = .ok (.getfield 44, 3) := by decide +kernel
theorem d_M_late_35 : decode b_M_late 35 = .ok (.iload_n 1, 1) := by decide +kernel
theorem d_M_late_36 : decode b_M_late 36 = .ok (.laload, 1) := by decide +kernel
theorem d_M_late_37 : decode b_M_late 37 = .ok (.lcmp, 1) := by decide +kernel
theorem d_M_late_38 : decode b_M_late 38 = .ok (.ifCond .le 19, 3) := by decide +kernel
theorem d_M_late_41 : decode b_M_late 41 = .ok (.aload_n 0, 1) := by decide +kernel
theorem d_M_late_42 : decode b_M_late 42 = .ok (.getfield 25, 3) := by decide +kernel
theorem d_M_late_45 : decode b_M_late 45 = .ok (.iload 6, 2) := by decide +kernel
theorem d_M_late_47 : decode b_M_late 47 = .ok (.laload, 1) := by decide +kernel
theorem d_M_late_48 : decode b_M_late 48 = .ok (.lload_n 2, 1) := by decide +kernel
theorem d_M_late_49 : decode b_M_late 49 = .ok (.lcmp, 1) := by decide +kernel
theorem d_M_late_50 : decode b_M_late 50 = .ok (.ifCond .gt 7, 3) := by decide +kernel
theorem d_M_late_53 : decode b_M_late 53 = .ok (.lconst 1, 1) := by decide +kernel
theorem d_M_late_54 : decode b_M_late 54 = .ok (.goto 4, 3) := by decide +kernel
theorem d_M_late_57 : decode b_M_late 57 = .ok (.lconst 0, 1) := by decide +kernel
theorem d_M_late_58 : decode b_M_late 58 = .ok (.lsub, 1) := by decide +kernel
theorem d_M_late_59 : decode b_M_late 59 = .ok (.lstore 4, 2) := by decide +kernel
theorem d_M_late_61 : decode b_M_late 61 = .ok (.iinc 6 1, 3) := by decide +kernel
theorem d_M_late_64 : decode b_M_late 64 = .ok (.goto (-51), 3) := by decide +kernel
theorem d_M_late_67 : decode b_M_late 67 = .ok (.aload_n 0, 1) := by decide +kernel
theorem d_M_late_68 : decode b_M_late 68 = .ok (.getfield 35, 3) := by decide +kernel
theorem d_M_late_71 : decode b_M_late 71 = .ok (.iload_n 1, 1) := by decide +kernel
theorem d_M_late_72 : decode b_M_late 72 = .ok (.iaload, 1) := by decide +kernel
theorem d_M_late_73 : decode b_M_late 73 = .ok (.istore 6, 2) := by decide +kernel
theorem d_M_late_75 : decode b_M_late 75 = .ok (.lload_n 2, 1) := by decide +kernel
theorem d_M_late_76 : decode b_M_late 76 = .ok (.aload_n 0, 1) := by decide +kernel
theorem d_M_late_77 : decode b_M_late 77 = .ok (.getfield 44, 3) := by decide +kernel
theorem d_M_late_80 : decode b_M_late 80 = .ok (.iload_n 1, 1) := by decide +kernel
theorem d_M_late_81 : decode b_M_late 81 = .ok (.laload, 1) := by decide +kernel
theorem d_M_late_82 : decode b_M_late 82 = .ok (.lcmp, 1) := by decide +kernel
theorem d_M_late_83 : decode b_M_late 83 = .ok (.ifCond .le 17, 3) := by decide +kernel
theorem d_M_late_86 : decode b_M_late 86 = .ok (.lload 4, 2) := by decide +kernel
theorem d_M_late_88 : decode b_M_late 88 = .ok (.aload_n 0, 1) := by decide +kernel
theorem d_M_late_89 : decode b_M_late 89 = .ok (.getfield 16, 3) := by decide +kernel
theorem d_M_late_92 : decode b_M_late 92 = .ok (.iload 6, 2) := by decide +kernel
theorem d_M_late_94 : decode b_M_late 94 = .ok (.iaload, 1) := by decide +kernel
theorem d_M_late_95 : decode b_M_late 95 = .ok (.i2l, 1) := by decide +kernel
theorem d_M_late_96 : decode b_M_late 96 = .ok (.lcmp, 1) := by decide +kernel
theorem d_M_late_97 : decode b_M_late 97 = .ok (.ifCond .gt 5, 3) := by decide +kernel
theorem d_M_late_100 : decode b_M_late 100 = .ok (.lconst 0, 1) := by decide +kernel
theorem d_M_late_101 : decode b_M_late 101 = .ok (.lreturn, 1) := by decide +kernel
theorem d_M_late_102 : decode b_M_late 102 = .ok (.lload 4, 2) := by decide +kernel
theorem d_M_late_104 : decode b_M_late 104 = .ok (.aload_n 0, 1) := by decide +kernel
theorem d_M_late_105 : decode b_M_late 105 = .ok (.getfield 7, 3) := by decide +kernel
theorem d_M_late_108 : decode b_M_late 108 = .ok (.iload 6, 2) := by decide +kernel
theorem d_M_late_110 : decode b_M_late 110 = .ok (.iaload, 1) := by decide +kernel
theorem d_M_late_111 : decode b_M_late 111 = .ok (.i2l, 1) := by decide +kernel
theorem d_M_late_112 : decode b_M_late 112 = .ok (.lmul, 1) := by decide +kernel
theorem d_M_late_113 : decode b_M_late 113 = .ok (.lstore 7, 2) := by decide +kernel
theorem d_M_late_115 : decode b_M_late 115 = .ok (.lload 7, 2) := by decide +kernel
theorem d_M_late_117 : decode b_M_late 117 = .ok (.aload_n 0, 1) := by decide +kernel
theorem d_M_late_118 : decode b_M_late 118 = .ok (.getfield 13, 3) := by decide +kernel
theorem d_M_late_121 : decode b_M_late 121 = .ok (.iload 6, 2) := by decide +kernel
theorem d_M_late_123 : decode b_M_late 123 = .ok (.iaload, 1) := by decide +kernel
theorem d_M_late_124 : decode b_M_late 124 = .ok (.i2l, 1) := by decide +kernel
theorem d_M_late_125 : decode b_M_late 125 = .ok (.lcmp, 1) := by decide +kernel
theorem d_M_late_126 : decode b_M_late 126 = .ok (.ifCond .le 14, 3) := by decide +kernel
theorem d_M_late_129 : decode b_M_late 129 = .ok (.aload_n 0, 1) := by decide +kernel
theorem d_M_late_130 : decode b_M_late 130 = .ok (.getfield 13, 3) := by decide +kernel
theorem d_M_late_133 : decode b_M_late 133 = .ok (.iload 6, 2) := by decide +kernel
theorem d_M_late_135 : decode b_M_late 135 = .ok (.iaload, 1) := by decide +kernel
theorem d_M_late_136 : decode b_M_late 136 = .ok (.i2l, 1) := by decide +kernel
theorem d_M_late_137 : decode b_M_late 137 = .ok (.goto 5, 3) := by decide +kernel
theorem d_M_late_140 : decode b_M_late 140 = .ok (.lload 7, 2) := by decide +kernel
theorem d_M_late_142 : decode b_M_late 142 = .ok (.lreturn, 1) := by decide +kernel
theorem d_M_overdue_0 : decode b_M_overdue 0 = .ok (.aload_n 0, 1) := by decide +kernel
theorem d_M_overdue_1 : decode b_M_overdue 1 = .ok (.iconst 0, 1) := by decide +kernel
theorem d_M_overdue_2 : decode b_M_overdue 2 = .ok (.putfield 76, 3) := by decide +kernel
theorem d_M_overdue_5 : decode b_M_overdue 5 = .ok (.aload_n 0, 1) := by decide +kernel
theorem d_M_overdue_6 : decode b_M_overdue 6 = .ok (.iload_n 1, 1) := by decide +kernel
theorem d_M_overdue_7 : decode b_M_overdue 7 = .ok (.invokevirtual 118, 3) := by decide +kernel
theorem d_M_overdue_10 : decode b_M_overdue 10 = .ok (.ifCond .eq 19, 3) := by decide +kernel
theorem d_M_overdue_13 : decode b_M_overdue 13 = .ok (.lload_n 2, 1) := by decide +kernel
theorem d_M_overdue_14 : decode b_M_overdue 14 = .ok (.invokestatic 100, 3) := by decide +kernel
theorem d_M_overdue_17 : decode b_M_overdue 17 = .ok (.ifCond .eq 12, 3) := by decide +kernel
theorem d_M_overdue_20 : decode b_M_overdue 20 = .ok (.aload_n 0, 1) := by decide +kernel
theorem d_M_overdue_21 : decode b_M_overdue 21 = .ok (.iload_n 1, 1) := by decide +kernel
theorem d_M_overdue_22 : decode b_M_overdue 22 = .ok (.lload_n 2, 1) := by decide +kernel
theorem d_M_overdue_23 : decode b_M_overdue 23 = .ok (.invokevirtual 122, 3) := by decide +kernel
theorem d_M_overdue_26 : decode b_M_overdue 26 = .ok (.goto 6, 3) := by decide +kernel
theorem d_M_overdue_29 : decode b_M_overdue 29 = .ok (.ldc2_w 126, 3) := by decide +kernel
theorem d_M_overdue_32 : decode b_M_overdue 32 = .ok (.lreturn, 1) := by decide +kernel
theorem d_M_comes_0 : decode b_M_comes 0 = .ok (.aload_n 0, 1) := by decide +kernel
theorem d_M_comes_1 : decode b_M_comes 1 = .ok (.dup, 1) := by decide +kernel
theorem d_M_comes_2 : decode b_M_comes 2 = .ok (.getfield 128, 3) := by decide +kernel
theorem d_M_comes_5 : decode b_M_comes 5 = .ok (.iconst 1, 1) := by decide +kernel
theorem d_M_comes_6 : decode b_M_comes 6 = .ok (.iadd, 1) := by decide +kernel
theorem d_M_comes_7 : decode b_M_comes 7 = .ok (.putfield 128, 3) := by decide +kernel
theorem d_M_comes_10 : decode b_M_comes 10 = .ok (.aload_n 0, 1) := by decide +kernel
theorem d_M_comes_11 : decode b_M_comes 11 = .ok (.getfield 47, 3) := by decide +kernel
theorem d_M_comes_14 : decode b_M_comes 14 = .ok (.aload_n 0, 1) := by decide +kernel
theorem d_M_comes_15 : decode b_M_comes 15 = .ok (.getfield 128, 3) := by decide +kernel
theorem d_M_comes_18 : decode b_M_comes 18 = .ok (.iload_n 1, 1) := by decide +kernel
theorem d_M_comes_19 : decode b_M_comes 19 = .ok (.iastore, 1) := by decide +kernel
theorem d_M_comes_20 : decode b_M_comes 20 = .ok (.aload_n 0, 1) := by decide +kernel
theorem d_M_comes_21 : decode b_M_comes 21 = .ok (.getfield 50, 3) := by decide +kernel
theorem d_M_comes_24 : decode b_M_comes 24 = .ok (.aload_n 0, 1) := by decide +kernel
theorem d_M_comes_25 : decode b_M_comes 25 = .ok (.getfield 128, 3) := by decide +kernel
theorem d_M_comes_28 : decode b_M_comes 28 = .ok (.iload_n 2, 1) := by decide +kernel
theorem d_M_comes_29 : decode b_M_comes 29 = .ok (.iastore, 1) := by decide +kernel
theorem d_M_comes_30 : decode b_M_comes 30 = .ok (.aload_n 0, 1) := by decide +kernel
theorem d_M_comes_31 : decode b_M_comes 31 = .ok (.getfield 53, 3) := by decide +kernel
theorem d_M_comes_34 : decode b_M_comes 34 = .ok (.aload_n 0, 1) := by decide +kernel
theorem d_M_comes_35 : decode b_M_comes 35 = .ok (.getfield 128, 3) := by decide +kernel
theorem d_M_comes_38 : decode b_M_comes 38 = .ok (.iload_n 2, 1) := by decide +kernel
theorem d_M_comes_39 : decode b_M_comes 39 = .ok (.iastore, 1) := by decide +kernel
theorem d_M_comes_40 : decode b_M_comes 40 = .ok (.aload_n 0, 1) := by decide +kernel
theorem d_M_comes_41 : decode b_M_comes 41 = .ok (.getfield 56, 3) := by decide +kernel
theorem d_M_comes_44 : decode b_M_comes 44 = .ok (.aload_n 0, 1) := by decide +kernel
theorem d_M_comes_45 : decode b_M_comes 45 = .ok (.getfield 128, 3) := by decide +kernel
theorem d_M_comes_48 : decode b_M_comes 48 = .ok (.iconst 0, 1) := by decide +kernel
theorem d_M_comes_49 : decode b_M_comes 49 = .ok (.iastore, 1) := by decide +kernel
theorem d_M_comes_50 : decode b_M_comes 50 = .ok (.aload_n 0, 1) := by decide +kernel
theorem d_M_comes_51 : decode b_M_comes 51 = .ok (.getfield 59, 3) := by decide +kernel
theorem d_M_comes_54 : decode b_M_comes 54 = .ok (.aload_n 0, 1) := by decide +kernel
theorem d_M_comes_55 : decode b_M_comes 55 = .ok (.getfield 128, 3) := by decide +kernel
theorem d_M_comes_58 : decode b_M_comes 58 = .ok (.iload 5, 2) := by decide +kernel
theorem d_M_comes_60 : decode b_M_comes 60 = .ok (.iastore, 1) := by decide +kernel
theorem d_M_comes_61 : decode b_M_comes 61 = .ok (.aload_n 0, 1) := by decide +kernel
theorem d_M_comes_62 : decode b_M_comes 62 = .ok (.getfield 62, 3) := by decide +kernel
theorem d_M_comes_65 : decode b_M_comes 65 = .ok (.aload_n 0, 1) := by decide +kernel
theorem d_M_comes_66 : decode b_M_comes 66 = .ok (.getfield 128, 3) := by decide +kernel
theorem d_M_comes_69 : decode b_M_comes 69 = .ok (.lload_n 3, 1) := by decide +kernel
theorem d_M_comes_70 : decode b_M_comes 70 = .ok (.lastore, 1) := by decide +kernel
theorem d_M_comes_71 : decode b_M_comes 71 = .ok (.aload_n 0, 1) := by decide +kernel
theorem d_M_comes_72 : decode b_M_comes 72 = .ok (.getfield 128, 3) := by decide +kernel
theorem d_M_comes_75 : decode b_M_comes 75 = .ok (.ireturn, 1) := by decide +kernel
theorem d_M_back_0 : decode b_M_back 0 = .ok (.aload_n 0, 1) := by decide +kernel
theorem d_M_back_1 : decode b_M_back 1 = .ok (.iconst 0, 1) := by decide +kernel
theorem d_M_back_2 : decode b_M_back 2 = .ok (.putfield 76, 3) := by decide +kernel
theorem d_M_back_5 : decode b_M_back 5 = .ok (.aload_n 0, 1) := by decide +kernel
theorem d_M_back_6 : decode b_M_back 6 = .ok (.iload_n 1, 1) := by decide +kernel
theorem d_M_back_7 : decode b_M_back 7 = .ok (.invokevirtual 118, 3) := by decide +kernel
theorem d_M_back_10 : decode b_M_back 10 = .ok (.ifCond .eq 31, 3) := by decide +kernel
theorem d_M_back_13 : decode b_M_back 13 = .ok (.lload_n 2, 1) := by decide +kernel
theorem d_M_back_14 : decode b_M_back 14 = .ok (.invokestatic 100, 3) := by decide +kernel
theorem d_M_back_17 : decode b_M_back 17 = .ok (.ifCond .eq 24, 3) := by decide +kernel
theorem d_M_back_20 : decode b_M_back 20 = .ok (.aload_n 0, 1) := by decide +kernel
theorem d_M_back_21 : decode b_M_back 21 = .ok (.iload_n 1, 1) := by decide +kernel
theorem d_M_back_22 : decode b_M_back 22 = .ok (.lload_n 2, 1) := by decide +kernel
theorem d_M_back_23 : decode b_M_back 23 = .ok (.invokevirtual 122, 3) := by decide +kernel
theorem d_M_back_26 : decode b_M_back 26 = .ok (.lconst 0, 1) := by decide +kernel
theorem d_M_back_27 : decode b_M_back 27 = .ok (.lcmp, 1) := by decide +kernel
theorem d_M_back_28 : decode b_M_back 28 = .ok (.ifCond .le 15, 3) := by decide +kernel
theorem d_M_back_31 : decode b_M_back 31 = .ok (.aload_n 0, 1) := by decide +kernel
theorem d_M_back_32 : decode b_M_back 32 = .ok (.getfield 128, 3) := by decide +kernel
theorem d_M_back_35 : decode b_M_back 35 = .ok (.sipush 200, 3) := by decide +kernel
theorem d_M_back_38 : decode b_M_back 38 = .ok (.if_icmp .ne 5, 3) := by decide +kernel
theorem d_M_back_41 : decode b_M_back 41 = .ok (.iconst (-1), 1) := by decide +kernel
theorem d_M_back_42 : decode b_M_back 42 = .ok (.ireturn, 1) := by decide +kernel
theorem d_M_back_43 : decode b_M_back 43 = .ok (.aload_n 0, 1) := by decide +kernel
theorem d_M_back_44 : decode b_M_back 44 = .ok (.getfield 38, 3) := by decide +kernel
theorem d_M_back_47 : decode b_M_back 47 = .ok (.iload_n 1, 1) := by decide +kernel
theorem d_M_back_48 : decode b_M_back 48 = .ok (.iconst 2, 1) := by decide +kernel
theorem d_M_back_49 : decode b_M_back 49 = .ok (.iastore, 1) := by decide +kernel
theorem d_M_back_50 : decode b_M_back 50 = .ok (.aload_n 0, 1) := by decide +kernel
theorem d_M_back_51 : decode b_M_back 51 = .ok (.iload_n 1, 1) := by decide +kernel
theorem d_M_back_52 : decode b_M_back 52 = .ok (.lload_n 2, 1) := by decide +kernel
theorem d_M_back_53 : decode b_M_back 53 = .ok (.invokevirtual 122, 3) := by decide +kernel
theorem d_M_back_56 : decode b_M_back 56 = .ok (.lconst 0, 1) := by decide +kernel
theorem d_M_back_57 : decode b_M_back 57 = .ok (.lcmp, 1) := by decide +kernel
theorem d_M_back_58 : decode b_M_back 58 = .ok (.ifCond .le 20, 3) := by decide +kernel
theorem d_M_back_61 : decode b_M_back 61 = .ok (.aload_n 0, 1) := by decide +kernel
theorem d_M_back_62 : decode b_M_back 62 = .ok (.iload_n 1, 1) := by decide +kernel
theorem d_M_back_63 : decode b_M_back 63 = .ok (.aload_n 0, 1) := by decide +kernel
theorem d_M_back_64 : decode b_M_back 64 = .ok (.iload_n 1, 1) := by decide +kernel
theorem d_M_back_65 : decode b_M_back 65 = .ok (.lload_n 2, 1) := by decide +kernel
theorem d_M_back_66 : decode b_M_back 66 = .ok (.invokevirtual 122, 3) := by decide +kernel
theorem d_M_back_69 : decode b_M_back 69 = .ok (.l2i, 1) := by decide +kernel
theorem d_M_back_70 : decode b_M_back 70 = .ok (.lload_n 2, 1) := by decide +kernel
theorem d_M_back_71 : decode b_M_back 71 = .ok (.iconst 0, 1) := by decide +kernel
theorem d_M_back_72 : decode b_M_back 72 = .ok (.invokevirtual 131, 3) := by decide +kernel
theorem d_M_back_75 : decode b_M_back 75 = .ok (.goto 4, 3) := by decide +kernel
theorem d_M_back_78 : decode b_M_back 78 = .ok (.iconst 0, 1) := by decide +kernel
theorem d_M_back_79 : decode b_M_back 79 = .ok (.ireturn, 1) := by decide +kernel
theorem d_M_lost_0 : decode b_M_lost 0 = .ok (.aload_n 0, 1) := by decide +kernel
theorem d_M_lost_1 : decode b_M_lost 1 = .ok (.iconst 0, 1) := by decide +kernel
theorem d_M_lost_2 : decode b_M_lost 2 = .ok (.putfield 76, 3) := by decide +kernel
theorem d_M_lost_5 : decode b_M_lost 5 = .ok (.aload_n 0, 1) := by decide +kernel
theorem d_M_lost_6 : decode b_M_lost 6 = .ok (.iload_n 1, 1) := by decide +kernel
theorem d_M_lost_7 : decode b_M_lost 7 = .ok (.invokevirtual 118, 3) := by decide +kernel
theorem d_M_lost_10 : decode b_M_lost 10 = .ok (.ifCond .eq 32, 3) := by decide +kernel
theorem d_M_lost_13 : decode b_M_lost 13 = .ok (.lload_n 3, 1) := by decide +kernel
theorem d_M_lost_14 : decode b_M_lost 14 = .ok (.invokestatic 100, 3) := by decide +kernel
theorem d_M_lost_17 : decode b_M_lost 17 = .ok (.ifCond .eq 25, 3) := by decide +kernel
theorem d_M_lost_20 : decode b_M_lost 20 = .ok (.iload_n 2, 1) := by decide +kernel
theorem d_M_lost_21 : decode b_M_lost 21 = .ok (.i2l, 1) := by decide +kernel
theorem d_M_lost_22 : decode b_M_lost 22 = .ok (.lconst 1, 1) := by decide +kernel
theorem d_M_lost_23 : decode b_M_lost 23 = .ok (.ldc2_w 87, 3) := by decide +kernel
theorem d_M_lost_26 : decode b_M_lost 26 = .ok (.invokestatic 81, 3) := by decide +kernel
theorem d_M_lost_29 : decode b_M_lost 29 = .ok (.ifCond .eq 13, 3) := by decide +kernel
theorem d_M_lost_32 : decode b_M_lost 32 = .ok (.aload_n 0, 1) := by decide +kernel
theorem d_M_lost_33 : decode b_M_lost 33 = .ok (.getfield 128, 3) := by decide +kernel
theorem d_M_lost_36 : decode b_M_lost 36 = .ok (.sipush 200, 3) := by decide +kernel
theorem d_M_lost_39 : decode b_M_lost 39 = .ok (.if_icmp .ne 5, 3) := by decide +kernel
theorem d_M_lost_42 : decode b_M_lost 42 = .ok (.iconst (-1), 1) := by decide +kernel
theorem d_M_lost_43 : decode b_M_lost 43 = .ok (.ireturn, 1) := by decide +kernel
theorem d_M_lost_44 : decode b_M_lost 44 = .ok (.aload_n 0, 1) := by decide +kernel
theorem d_M_lost_45 : decode b_M_lost 45 = .ok (.getfield 38, 3) := by decide +kernel
theorem d_M_lost_48 : decode b_M_lost 48 = .ok (.iload_n 1, 1) := by decide +kernel
theorem d_M_lost_49 : decode b_M_lost 49 = .ok (.iconst 3, 1) := by decide +kernel
theorem d_M_lost_50 : decode b_M_lost 50 = .ok (.iastore, 1) := by decide +kernel
theorem d_M_lost_51 : decode b_M_lost 51 = .ok (.aload_n 0, 1) := by decide +kernel
theorem d_M_lost_52 : decode b_M_lost 52 = .ok (.getfield 41, 3) := by decide +kernel
theorem d_M_lost_55 : decode b_M_lost 55 = .ok (.iload_n 1, 1) := by decide +kernel
theorem d_M_lost_56 : decode b_M_lost 56 = .ok (.aload_n 0, 1) := by decide +kernel
theorem d_M_lost_57 : decode b_M_lost 57 = .ok (.iload_n 1, 1) := by decide +kernel
theorem d_M_lost_58 : decode b_M_lost 58 = .ok (.iload_n 2, 1) := by decide +kernel
theorem d_M_lost_59 : decode b_M_lost 59 = .ok (.lload_n 3, 1) := by decide +kernel
theorem d_M_lost_60 : decode b_M_lost 60 = .ok (.iconst 1, 1) := by decide +kernel
theorem d_M_lost_61 : decode b_M_lost 61 = .ok (.invokevirtual 131, 3) := by decide +kernel
theorem d_M_lost_64 : decode b_M_lost 64 = .ok (.iastore, 1) := by decide +kernel
theorem d_M_lost_65 : decode b_M_lost 65 = .ok (.aload_n 0, 1) := by decide +kernel
theorem d_M_lost_66 : decode b_M_lost 66 = .ok (.getfield 41, 3) := by decide +kernel
theorem d_M_lost_69 : decode b_M_lost 69 = .ok (.iload_n 1, 1) := by decide +kernel
theorem d_M_lost_70 : decode b_M_lost 70 = .ok (.iaload, 1) := by decide +kernel
theorem d_M_lost_71 : decode b_M_lost 71 = .ok (.ireturn, 1) := by decide +kernel
theorem d_M_found_0 : decode b_M_found 0 = .ok (.aload_n 0, 1) := by decide +kernel
theorem d_M_found_1 : decode b_M_found 1 = .ok (.iconst 0, 1) := by decide +kernel
theorem d_M_found_2 : decode b_M_found 2 = .ok (.putfield 76, 3) := by decide +kernel
theorem d_M_found_5 : decode b_M_found 5 = .ok (.aload_n 0, 1) := by decide +kernel
theorem d_M_found_6 : decode b_M_found 6 = .ok (.iload_n 1, 1) := by decide +kernel
theorem d_M_found_7 : decode b_M_found 7 = .ok (.invokevirtual 114, 3) := by decide +kernel
theorem d_M_found_10 : decode b_M_found 10 = .ok (.istore 4, 2) := by decide +kernel
theorem d_M_found_12 : decode b_M_found 12 = .ok (.iload 4, 2) := by decide +kernel
theorem d_M_found_14 : decode b_M_found 14 = .ok (.ifCond .eq 43, 3) := by decide +kernel
theorem d_M_found_17 : decode b_M_found 17 = .ok (.aload_n 0, 1) := by decide +kernel
theorem d_M_found_18 : decode b_M_found 18 = .ok (.getfield 38, 3) := by decide +kernel
theorem d_M_found_21 : decode b_M_found 21 = .ok (.iload 4, 2) := by decide +kernel
theorem d_M_found_23 : decode b_M_found 23 = .ok (.iaload, 1) := by decide +kernel
theorem d_M_found_24 : decode b_M_found 24 = .ok (.iconst 3, 1) := by decide +kernel
theorem d_M_found_25 : decode b_M_found 25 = .ok (.if_icmp .ne 32, 3) := by decide +kernel
theorem d_M_found_28 : decode b_M_found 28 = .ok (.lload_n 2, 1) := by decide +kernel
theorem d_M_found_29 : decode b_M_found 29 = .ok (.invokestatic 100, 3) := by decide +kernel
theorem d_M_found_32 : decode b_M_found 32 = .ok (.ifCond .eq 25, 3) := by decide +kernel
theorem d_M_found_35 : decode b_M_found 35 = .ok (.aload_n 0, 1) := by decide +kernel
theorem d_M_found_36 : decode b_M_found 36 = .ok (.iload 4, 2) := by decide +kernel
theorem d_M_found_38 : decode b_M_found 38 = .ok (.lload_n 2, 1) := by decide +kernel
theorem d_M_found_39 : decode b_M_found 39 = .ok (.invokevirtual 122, 3) := by decide +kernel
theorem d_M_found_42 : decode b_M_found 42 = .ok (.lconst 0, 1) := by decide +kernel
theorem d_M_found_43 : decode b_M_found 43 = .ok (.lcmp, 1) := by decide +kernel
theorem d_M_found_44 : decode b_M_found 44 = .ok (.ifCond .le 17, 3) := by decide +kernel
theorem d_M_found_47 : decode b_M_found 47 = .ok (.aload_n 0, 1) := by decide +kernel
theorem d_M_found_48 : decode b_M_found 48 = .ok (.getfield 128, 3) := by decide +kernel
theorem d_M_found_51 : decode b_M_found 51 = .ok (.sipush 200, 3) := by decide +kernel
theorem d_M_found_54 : decode b_M_found 54 = .ok (.if_icmp .ne 7, 3) := by decide +kernel
theorem d_M_found_57 : decode b_M_found 57 = .ok (.ldc2_w 126, 3) := by decide +kernel
theorem d_M_found_60 : decode b_M_found 60 = .ok (.lreturn, 1) := by decide +kernel
theorem d_M_found_61 : decode b_M_found 61 = .ok (.aload_n 0, 1) := by decide +kernel
theorem d_M_found_62 : decode b_M_found 62 = .ok (.getfield 38, 3) := by decide +kernel
theorem d_M_found_65 : decode b_M_found 65 = .ok (.iload 4, 2) := by decide +kernel
theorem d_M_found_67 : decode b_M_found 67 = .ok (.iconst 2, 1) := by decide +kernel
theorem d_M_found_68 : decode b_M_found 68 = .ok (.iastore, 1) := by decide +kernel
theorem d_M_found_69 : decode b_M_found 69 = .ok (.aload_n 0, 1) := by decide +kernel
theorem d_M_found_70 : decode b_M_found 70 = .ok (.getfield 41, 3) := by decide +kernel
theorem d_M_found_73 : decode b_M_found 73 = .ok (.iload 4, 2) := by decide +kernel
theorem d_M_found_75 : decode b_M_found 75 = .ok (.iaload, 1) := by decide +kernel
theorem d_M_found_76 : decode b_M_found 76 = .ok (.istore 5, 2) := by decide +kernel
theorem d_M_found_78 : decode b_M_found 78 = .ok (.aload_n 0, 1) := by decide +kernel
theorem d_M_found_79 : decode b_M_found 79 = .ok (.getfield 53, 3) := by decide +kernel
theorem d_M_found_82 : decode b_M_found 82 = .ok (.iload 5, 2) := by decide +kernel
theorem d_M_found_84 : decode b_M_found 84 = .ok (.iconst 0, 1) := by decide +kernel
theorem d_M_found_85 : decode b_M_found 85 = .ok (.iastore, 1) := by decide +kernel
theorem d_M_found_86 : decode b_M_found 86 = .ok (.aload_n 0, 1) := by decide +kernel
theorem d_M_found_87 : decode b_M_found 87 = .ok (.getfield 69, 3) := by decide +kernel
theorem d_M_found_90 : decode b_M_found 90 = .ok (.aload_n 0, 1) := by decide +kernel
theorem d_M_found_91 : decode b_M_found 91 = .ok (.getfield 32, 3) := by decide +kernel
theorem d_M_found_94 : decode b_M_found 94 = .ok (.iload 4, 2) := by decide +kernel
theorem d_M_found_96 : decode b_M_found 96 = .ok (.iaload, 1) := by decide +kernel
theorem d_M_found_97 : decode b_M_found 97 = .ok (.dup2, 1) := by decide +kernel
theorem d_M_found_98 : decode b_M_found 98 = .ok (.laload, 1) := by decide +kernel
theorem d_M_found_99 : decode b_M_found 99 = .ok (.aload_n 0, 1) := by decide +kernel
theorem d_M_found_100 : decode b_M_found 100 = .ok (.getfield 56, 3) := by decide +kernel
theorem d_M_found_103 : decode b_M_found 103 = .ok (.iload 5, 2) := by decide +kernel
theorem d_M_found_105 : decode b_M_found 105 = .ok (.iaload, 1) := by decide +kernel
theorem d_M_found_106 : decode b_M_found 106 = .ok (.i2l, 1) := by decide +kernel
theorem d_M_found_107 : decode b_M_found 107 = .ok (.ladd, 1) := by decide +kernel
theorem d_M_found_108 : decode b_M_found 108 = .ok (.lastore, 1) := by decide +kernel
theorem d_M_found_109 : decode b_M_found 109 = .ok (.aload_n 0, 1) := by decide +kernel
theorem d_M_found_110 : decode b_M_found 110 = .ok (.iload 4, 2) := by decide +kernel
theorem d_M_found_112 : decode b_M_found 112 = .ok (.lload_n 2, 1) := by decide +kernel
theorem d_M_found_113 : decode b_M_found 113 = .ok (.invokevirtual 122, 3) := by decide +kernel
theorem d_M_found_116 : decode b_M_found 116 = .ok (.lconst 0, 1) := by decide +kernel
theorem d_M_found_117 : decode b_M_found 117 = .ok (.lcmp, 1) := by decide +kernel
theorem d_M_found_118 : decode b_M_found 118 = .ok (.ifCond .le 20, 3) := by decide +kernel
theorem d_M_found_121 : decode b_M_found 121 = .ok (.aload_n 0, 1) := by decide +kernel
theorem d_M_found_122 : decode b_M_found 122 = .ok (.iload 4, 2) := by decide +kernel
theorem d_M_found_124 : decode b_M_found 124 = .ok (.aload_n 0, 1) := by decide +kernel
theorem d_M_found_125 : decode b_M_found 125 = .ok (.iload 4, 2) := by decide +kernel
theorem d_M_found_127 : decode b_M_found 127 = .ok (.lload_n 2, 1) := by decide +kernel
theorem d_M_found_128 : decode b_M_found 128 = .ok (.invokevirtual 122, 3) := by decide +kernel
theorem d_M_found_131 : decode b_M_found 131 = .ok (.l2i, 1) := by decide +kernel
theorem d_M_found_132 : decode b_M_found 132 = .ok (.lload_n 2, 1) := by decide +kernel
theorem d_M_found_133 : decode b_M_found 133 = .ok (.iconst 0, 1) := by decide +kernel
theorem d_M_found_134 : decode b_M_found 134 = .ok (.invokevirtual 131, 3) := by decide +kernel
theorem d_M_found_137 : decode b_M_found 137 = .ok (.pop, 1) := by decide +kernel
theorem d_M_found_138 : decode b_M_found 138 = .ok (.aload_n 0, 1) := by decide +kernel
theorem d_M_found_139 : decode b_M_found 139 = .ok (.getfield 56, 3) := by decide +kernel
theorem d_M_found_142 : decode b_M_found 142 = .ok (.iload 5, 2) := by decide +kernel
theorem d_M_found_144 : decode b_M_found 144 = .ok (.iaload, 1) := by decide +kernel
theorem d_M_found_145 : decode b_M_found 145 = .ok (.i2l, 1) := by decide +kernel
theorem d_M_found_146 : decode b_M_found 146 = .ok (.lreturn, 1) := by decide +kernel
theorem d_M_personOf_0 : decode b_M_personOf 0 = .ok (.aload_n 0, 1) := by decide +kernel
theorem d_M_personOf_1 : decode b_M_personOf 1 = .ok (.getfield 32, 3) := by decide +kernel
theorem d_M_personOf_4 : decode b_M_personOf 4 = .ok (.aload_n 0, 1) := by decide +kernel
theorem d_M_personOf_5 : decode b_M_personOf 5 = .ok (.getfield 47, 3) := by decide +kernel
theorem d_M_personOf_8 : decode b_M_personOf 8 = .ok (.iload_n 1, 1) := by decide +kernel
theorem d_M_personOf_9 : decode b_M_personOf 9 = .ok (.iaload, 1) := by decide +kernel
theorem d_M_personOf_10 : decode b_M_personOf 10 = .ok (.iaload, 1) := by decide +kernel
theorem d_M_personOf_11 : decode b_M_personOf 11 = .ok (.ireturn, 1) := by decide +kernel
theorem d_M_next_0 : decode b_M_next 0 = .ok (.iconst 0, 1) := by decide +kernel
theorem d_M_next_1 : decode b_M_next 1 = .ok (.istore_n 2, 1) := by decide +kernel
theorem d_M_next_2 : decode b_M_next 2 = .ok (.iconst 1, 1) := by decide +kernel
theorem d_M_next_3 : decode b_M_next 3 = .ok (.istore_n 3, 1) := by decide +kernel
theorem d_M_next_4 : decode b_M_next 4 = .ok (.iload_n 3, 1) := by decide +kernel
theorem d_M_next_5 : decode b_M_next 5 = .ok (.aload_n 0, 1) := by decide +kernel
theorem d_M_next_6 : decode b_M_next 6 = .ok (.getfield 128, 3) := by decide +kernel
theorem d_M_next_9 : decode b_M_next 9 = .ok (.if_icmp .gt 65, 3) := by decide +kernel
theorem d_M_next_12 : decode b_M_next 12 = .ok (.aload_n 0, 1) := by decide +kernel
theorem d_M_next_13 : decode b_M_next 13 = .ok (.iload_n 3, 1) := by decide +kernel
theorem d_M_next_14 : decode b_M_next 14 = .ok (.invokevirtual 135, 3) := by decide +kernel
theorem d_M_next_17 : decode b_M_next 17 = .ok (.iload_n 1, 1) := by decide +kernel
theorem d_M_next_18 : decode b_M_next 18 = .ok (.if_icmp .ne 16, 3) := by decide +kernel
theorem d_M_next_21 : decode b_M_next 21 = .ok (.aload_n 0, 1) := by decide +kernel
theorem d_M_next_22 : decode b_M_next 22 = .ok (.getfield 65, 3) := by decide +kernel
theorem d_M_next_25 : decode b_M_next 25 = .ok (.iload_n 3, 1) := by decide +kernel
theorem d_M_next_26 : decode b_M_next 26 = .ok (.baload, 1) := by decide +kernel
theorem d_M_next_27 : decode b_M_next 27 = .ok (.ifCond .ne 7, 3) := by decide +kernel
theorem d_M_next_30 : decode b_M_next 30 = .ok (.iconst 1, 1) := by decide +kernel
theorem d_M_next_31 : decode b_M_next 31 = .ok (.goto 4, 3) := by decide +kernel
theorem d_M_next_34 : decode b_M_next 34 = .ok (.iconst 0, 1) := by decide +kernel
theorem d_M_next_35 : decode b_M_next 35 = .ok (.istore 4, 2) := by decide +kernel
theorem d_M_next_37 : decode b_M_next 37 = .ok (.iload 4, 2) := by decide +kernel
theorem d_M_next_39 : decode b_M_next 39 = .ok (.ifCond .eq 27, 3) := by decide +kernel
theorem d_M_next_42 : decode b_M_next 42 = .ok (.iload_n 2, 1) := by decide +kernel
theorem d_M_next_43 : decode b_M_next 43 = .ok (.ifCond .eq 19, 3) := by decide +kernel
theorem d_M_next_46 : decode b_M_next 46 = .ok (.aload_n 0, 1) := by decide +kernel
theorem d_M_next_47 : decode b_M_next 47 = .ok (.getfield 62, 3) := by decide +kernel
theorem d_M_next_50 : decode b_M_next 50 = .ok (.iload_n 3, 1) := by decide +kernel
theorem d_M_next_51 : decode b_M_next 51 = .ok (.laload, 1) := by decide +kernel
theorem d_M_next_52 : decode b_M_next 52 = .ok (.aload_n 0, 1) := by decide +kernel
theorem d_M_next_53 : decode b_M_next 53 = .ok (.getfield 62, 3) := by decide +kernel
theorem d_M_next_56 : decode b_M_next 56 = .ok (.iload_n 2, 1) := by decide +kernel
theorem d_M_next_57 : decode b_M_next 57 = .ok (.laload, 1) := by decide +kernel
theorem d_M_next_58 : decode b_M_next 58 = .ok (.lcmp, 1) := by decide +kernel
theorem d_M_next_59 : decode b_M_next 59 = .ok (.ifCond .ge 7, 3) := by decide +kernel
theorem d_M_next_62 : decode b_M_next 62 = .ok (.iload_n 3, 1) := by decide +kernel
theorem d_M_next_63 : decode b_M_next 63 = .ok (.goto 4, 3) := by decide +kernel
theorem d_M_next_66 : decode b_M_next 66 = .ok (.iload_n 2, 1) := by decide +kernel
theorem d_M_next_67 : decode b_M_next 67 = .ok (.istore_n 2, 1) := by decide +kernel
theorem d_M_next_68 : decode b_M_next 68 = .ok (.iinc 3 1, 3) := by decide +kernel
theorem d_M_next_71 : decode b_M_next 71 = .ok (.goto (-67), 3) := by decide +kernel
theorem d_M_next_74 : decode b_M_next 74 = .ok (.iload_n 2, 1) := by decide +kernel
theorem d_M_next_75 : decode b_M_next 75 = .ok (.ireturn, 1) := by decide +kernel
theorem d_M_pay_0 : decode b_M_pay 0 = .ok (.aload_n 0, 1) := by decide +kernel
theorem d_M_pay_1 : decode b_M_pay 1 = .ok (.iconst 0, 1) := by decide +kernel
theorem d_M_pay_2 : decode b_M_pay 2 = .ok (.putfield 76, 3) := by decide +kernel
theorem d_M_pay_5 : decode b_M_pay 5 = .ok (.iload_n 1, 1) := by decide +kernel
theorem d_M_pay_6 : decode b_M_pay 6 = .ok (.i2l, 1) := by decide +kernel
theorem d_M_pay_7 : decode b_M_pay 7 = .ok (.lconst 0, 1) := by decide +kernel
theorem d_M_pay_8 : decode b_M_pay 8 = .ok (.ldc2_w 112, 3) := by decide +kernel
theorem d_M_pay_11 : decode b_M_pay 11 = .ok (.invokestatic 81, 3) := by decide +kernel
theorem d_M_pay_14 : decode b_M_pay 14 = .ok (.ifCond .eq 15, 3) := by decide +kernel
theorem d_M_pay_17 : decode b_M_pay 17 = .ok (.iload_n 2, 1) := by decide +kernel
theorem d_M_pay_18 : decode b_M_pay 18 = .ok (.i2l, 1) := by decide +kernel
theorem d_M_pay_19 : decode b_M_pay 19 = .ok (.lconst 1, 1) := by decide +kernel
theorem d_M_pay_20 : decode b_M_pay 20 = .ok (.ldc2_w 87, 3) := by decide +kernel
theorem d_M_pay_23 : decode b_M_pay 23 = .ok (.invokestatic 81, 3) := by decide +kernel
theorem d_M_pay_26 : decode b_M_pay 26 = .ok (.ifCond .ne 5, 3) := by decide +kernel
theorem d_M_pay_29 : decode b_M_pay 29 = .ok (.iconst (-1), 1) := by decide +kernel
theorem d_M_pay_30 : decode b_M_pay 30 = .ok (.ireturn, 1) := by decide +kernel
theorem d_M_pay_31 : decode b_M_pay 31 = .ok (.aload_n 0, 1) := by decide +kernel
theorem d_M_pay_32 : decode b_M_pay 32 = .ok (.getfield 69, 3) := by decide +kernel
theorem d_M_pay_35 : decode b_M_pay 35 = .ok (.iload_n 1, 1) := by decide +kernel
theorem d_M_pay_36 : decode b_M_pay 36 = .ok (.laload, 1) := by decide +kernel
theorem d_M_pay_37 : decode b_M_pay 37 = .ok (.iload_n 2, 1) := by decide +kernel
theorem d_M_pay_38 : decode b_M_pay 38 = .ok (.i2l, 1) := by decide +kernel
theorem d_M_pay_39 : decode b_M_pay 39 = .ok (.ladd, 1) := by decide +kernel
theorem d_M_pay_40 : decode b_M_pay 40 = .ok (.lstore_n 3, 1) := by decide +kernel
theorem d_M_pay_41 : decode b_M_pay 41 = .ok (.iconst 1, 1) := by decide +kernel
theorem d_M_pay_42 : decode b_M_pay 42 = .ok (.istore 5, 2) := by decide +kernel
theorem d_M_pay_44 : decode b_M_pay 44 = .ok (.iload 5, 2) := by decide +kernel
theorem d_M_pay_46 : decode b_M_pay 46 = .ok (.aload_n 0, 1) := by decide +kernel
theorem d_M_pay_47 : decode b_M_pay 47 = .ok (.getfield 128, 3) := by decide +kernel
theorem d_M_pay_50 : decode b_M_pay 50 = .ok (.if_icmp .gt 17, 3) := by decide +kernel
theorem d_M_pay_53 : decode b_M_pay 53 = .ok (.aload_n 0, 1) := by decide +kernel
theorem d_M_pay_54 : decode b_M_pay 54 = .ok (.getfield 65, 3) := by decide +kernel
theorem d_M_pay_57 : decode b_M_pay 57 = .ok (.iload 5, 2) := by decide +kernel
theorem d_M_pay_59 : decode b_M_pay 59 = .ok (.iconst 0, 1) := by decide +kernel
theorem d_M_pay_60 : decode b_M_pay 60 = .ok (.bastore, 1) := by decide +kernel
theorem d_M_pay_61 : decode b_M_pay 61 = .ok (.iinc 5 1, 3) := by decide +kernel
theorem d_M_pay_64 : decode b_M_pay 64 = .ok (.goto (-20), 3) := by decide +kernel
theorem d_M_pay_67 : decode b_M_pay 67 = .ok (.iconst 0, 1) := by decide +kernel
theorem d_M_pay_68 : decode b_M_pay 68 = .ok (.istore 5, 2) := by decide +kernel
theorem d_M_pay_70 : decode b_M_pay 70 = .ok (.aload_n 0, 1) := by decide +kernel
theorem d_M_pay_71 : decode b_M_pay 71 = .ok (.iload_n 1, 1) := by decide +kernel
theorem d_M_pay_72 : decode b_M_pay 72 = .ok (.invokevirtual 138, 3) := by decide +kernel
theorem d_M_pay_75 : decode b_M_pay 75 = .ok (.istore 6, 2) := by decide +kernel
theorem d_M_pay_77 : decode b_M_pay 77 = .ok (.iload 6, 2) := by decide +kernel
theorem d_M_pay_79 : decode b_M_pay 79 = .ok (.ifCond .le 93, 3) := by decide +kernel
theorem d_M_pay_82 : decode b_M_pay 82 = .ok (.aload_n 0, 1) := by decide +kernel
theorem d_M_pay_83 : decode b_M_pay 83 = .ok (.getfield 65, 3) := by decide +kernel
theorem d_M_pay_86 : decode b_M_pay 86 = .ok (.iload 6, 2) := by decide +kernel
theorem d_M_pay_88 : decode b_M_pay 88 = .ok (.iconst 1, 1) := by decide +kernel
theorem d_M_pay_89 : decode b_M_pay 89 = .ok (.bastore, 1) := by decide +kernel
theorem d_M_pay_90 : decode b_M_pay 90 = .ok (.aload_n 0, 1) := by decide +kernel
theorem d_M_pay_91 : decode b_M_pay 91 = .ok (.getfield 53, 3) := by decide +kernel
theorem d_M_pay_94 : decode b_M_pay 94 = .ok (.iload 6, 2) := by decide +kernel
theorem d_M_pay_96 : decode b_M_pay 96 = .ok (.iaload, 1) := by decide +kernel
theorem d_M_pay_97 : decode b_M_pay 97 = .ok (.i2l, 1) := by decide +kernel
theorem d_M_pay_98 : decode b_M_pay 98 = .ok (.lload_n 3, 1) := by decide +kernel
theorem d_M_pay_99 : decode b_M_pay 99 = .ok (.lcmp, 1) := by decide +kernel
theorem d_M_pay_100 : decode b_M_pay 100 = .ok (.ifCond .ge 13, 3) := by decide +kernel
theorem d_M_pay_103 : decode b_M_pay 103 = .ok (.aload_n 0, 1) := by decide +kernel
theorem d_M_pay_104 : decode b_M_pay 104 = .ok (.getfield 53, 3) := by decide +kernel
theorem d_M_pay_107 : decode b_M_pay 107 = .ok (.iload 6, 2) := by decide +kernel
theorem d_M_pay_109 : decode b_M_pay 109 = .ok (.iaload, 1) := by decide +kernel
theorem d_M_pay_110 : decode b_M_pay 110 = .ok (.goto 5, 3) := by decide +kernel
theorem d_M_pay_113 : decode b_M_pay 113 = .ok (.lload_n 3, 1) := by decide +kernel
theorem d_M_pay_114 : decode b_M_pay 114 = .ok (.l2i, 1) := by decide +kernel
theorem d_M_pay_115 : decode b_M_pay 115 = .ok (.istore 7, 2) := by decide +kernel
theorem d_M_pay_117 : decode b_M_pay 117 = .ok (.aload_n 0, 1) := by decide +kernel
theorem d_M_pay_118 : decode b_M_pay 118 = .ok (.getfield 53, 3) := by decide +kernel
theorem d_M_pay_121 : decode b_M_pay 121 = .ok (.iload 6, 2) := by decide +kernel
theorem d_M_pay_123 : decode b_M_pay 123 = .ok (.dup2, 1) := by decide +kernel
theorem d_M_pay_124 : decode b_M_pay 124 = .ok (.iaload, 1) := by decide +kernel
theorem d_M_pay_125 : decode b_M_pay 125 = .ok (.iload 7, 2) := by decide +kernel
theorem d_M_pay_127 : decode b_M_pay 127 = .ok (.isub, 1) := by decide +kernel
theorem d_M_pay_128 : decode b_M_pay 128 = .ok (.iastore, 1) := by decide +kernel
theorem d_M_pay_129 : decode b_M_pay 129 = .ok (.aload_n 0, 1) := by decide +kernel
theorem d_M_pay_130 : decode b_M_pay 130 = .ok (.getfield 56, 3) := by decide +kernel
theorem d_M_pay_133 : decode b_M_pay 133 = .ok (.iload 6, 2) := by decide +kernel
theorem d_M_pay_135 : decode b_M_pay 135 = .ok (.dup2, 1) := by decide +kernel
theorem d_M_pay_136 : decode b_M_pay 136 = .ok (.iaload, 1) := by decide +kernel
theorem d_M_pay_137 : decode b_M_pay 137 = .ok (.iload 7, 2) := by decide +kernel
theorem d_M_pay_139 : decode b_M_pay 139 = .ok (.iadd, 1) := by decide +kernel
theorem d_M_pay_140 : decode b_M_pay 140 = .ok (.iastore, 1) := by decide +kernel
theorem d_M_pay_141 : decode b_M_pay 141 = .ok (.lload_n 3, 1) := by decide +kernel
theorem d_M_pay_142 : decode b_M_pay 142 = .ok (.iload 7, 2) := by decide +kernel
theorem d_M_pay_144 : decode b_M_pay 144 = .ok (.i2l, 1) := by decide +kernel
theorem d_M_pay_145 : decode b_M_pay 145 = .ok (.lsub, 1) := by decide +kernel
theorem d_M_pay_146 : decode b_M_pay 146 = .ok (.lstore_n 3, 1) := by decide +kernel
theorem d_M_pay_147 : decode b_M_pay 147 = .ok (.iload 5, 2) := by decide +kernel
theorem d_M_pay_149 : decode b_M_pay 149 = .ok (.iload 7, 2) := by decide +kernel
theorem d_M_pay_151 : decode b_M_pay 151 = .ok (.ifCond .le 7, 3) := by decide +kernel
theorem d_M_pay_154 : decode b_M_pay 154 = .ok (.iconst 1, 1) := by decide +kernel
theorem d_M_pay_155 : decode b_M_pay 155 = .ok (.goto 4, 3) := by decide +kernel
theorem d_M_pay_158 : decode b_M_pay 158 = .ok (.iconst 0, 1) := by decide +kernel
theorem d_M_pay_159 : decode b_M_pay 159 = .ok (.iadd, 1) := by decide +kernel
theorem d_M_pay_160 : decode b_M_pay 160 = .ok (.istore 5, 2) := by decide +kernel
theorem d_M_pay_162 : decode b_M_pay 162 = .ok (.aload_n 0, 1) := by decide +kernel
theorem d_M_pay_163 : decode b_M_pay 163 = .ok (.iload_n 1, 1) := by decide +kernel
theorem d_M_pay_164 : decode b_M_pay 164 = .ok (.invokevirtual 138, 3) := by decide +kernel
theorem d_M_pay_167 : decode b_M_pay 167 = .ok (.istore 6, 2) := by decide +kernel
theorem d_M_pay_169 : decode b_M_pay 169 = .ok (.goto (-92), 3) := by decide +kernel
theorem d_M_pay_172 : decode b_M_pay 172 = .ok (.aload_n 0, 1) := by decide +kernel
theorem d_M_pay_173 : decode b_M_pay 173 = .ok (.getfield 69, 3) := by decide +kernel
theorem d_M_pay_176 : decode b_M_pay 176 = .ok (.iload_n 1, 1) := by decide +kernel
theorem d_M_pay_177 : decode b_M_pay 177 = .ok (.lload_n 3, 1) := by decide +kernel
theorem d_M_pay_178 : decode b_M_pay 178 = .ok (.lastore, 1) := by decide +kernel
theorem d_M_pay_179 : decode b_M_pay 179 = .ok (.iload 5, 2) := by decide +kernel
theorem d_M_pay_181 : decode b_M_pay 181 = .ok (.ireturn, 1) := by decide +kernel
theorem d_M_isDebt_0 : decode b_M_isDebt 0 = .ok (.iload_n 1, 1) := by decide +kernel
theorem d_M_isDebt_1 : decode b_M_isDebt 1 = .ok (.i2l, 1) := by decide +kernel
theorem d_M_isDebt_2 : decode b_M_isDebt 2 = .ok (.lconst 1, 1) := by decide +kernel
theorem d_M_isDebt_3 : decode b_M_isDebt 3 = .ok (.aload_n 0, 1) := by decide +kernel
theorem d_M_isDebt_4 : decode b_M_isDebt 4 = .ok (.getfield 128, 3) := by decide +kernel
theorem d_M_isDebt_7 : decode b_M_isDebt 7 = .ok (.i2l, 1) := by decide +kernel
theorem d_M_isDebt_8 : decode b_M_isDebt 8 = .ok (.invokestatic 81, 3) := by decide +kernel
theorem d_M_isDebt_11 : decode b_M_isDebt 11 = .ok (.ireturn, 1) := by decide +kernel
theorem d_M_waive_0 : decode b_M_waive 0 = .ok (.aload_n 0, 1) := by decide +kernel
theorem d_M_waive_1 : decode b_M_waive 1 = .ok (.iconst 0, 1) := by decide +kernel
theorem d_M_waive_2 : decode b_M_waive 2 = .ok (.putfield 76, 3) := by decide +kernel
theorem d_M_waive_5 : decode b_M_waive 5 = .ok (.aload_n 0, 1) := by decide +kernel
theorem d_M_waive_6 : decode b_M_waive 6 = .ok (.iload_n 1, 1) := by decide +kernel
theorem d_M_waive_7 : decode b_M_waive 7 = .ok (.invokevirtual 141, 3) := by decide +kernel
theorem d_M_waive_10 : decode b_M_waive 10 = .ok (.ifCond .eq 15, 3) := by decide +kernel
theorem d_M_waive_13 : decode b_M_waive 13 = .ok (.iload_n 2, 1) := by decide +kernel
theorem d_M_waive_14 : decode b_M_waive 14 = .ok (.i2l, 1) := by decide +kernel
theorem d_M_waive_15 : decode b_M_waive 15 = .ok (.lconst 0, 1) := by decide +kernel
theorem d_M_waive_16 : decode b_M_waive 16 = .ok (.ldc2_w 85, 3) := by decide +kernel
theorem d_M_waive_19 : decode b_M_waive 19 = .ok (.invokestatic 81, 3) := by decide +kernel
theorem d_M_waive_22 : decode b_M_waive 22 = .ok (.ifCond .ne 7, 3) := by decide +kernel
theorem d_M_waive_25 : decode b_M_waive 25 = .ok (.ldc2_w 126, 3) := by decide +kernel
theorem d_M_waive_28 : decode b_M_waive 28 = .ok (.lreturn, 1) := by decide +kernel
theorem d_M_waive_29 : decode b_M_waive 29 = .ok (.aload_n 0, 1) := by decide +kernel
theorem d_M_waive_30 : decode b_M_waive 30 = .ok (.getfield 53, 3) := by decide +kernel
theorem d_M_waive_33 : decode b_M_waive 33 = .ok (.iload_n 1, 1) := by decide +kernel
theorem d_M_waive_34 : decode b_M_waive 34 = .ok (.iaload, 1) := by decide +kernel
theorem d_M_waive_35 : decode b_M_waive 35 = .ok (.iload_n 2, 1) := by decide +kernel
theorem d_M_waive_36 : decode b_M_waive 36 = .ok (.if_icmp .le 7, 3) := by decide +kernel
theorem d_M_waive_39 : decode b_M_waive 39 = .ok (.iconst 0, 1) := by decide +kernel
theorem d_M_waive_40 : decode b_M_waive 40 = .ok (.goto 9, 3) := by decide +kernel
theorem d_M_waive_43 : decode b_M_waive 43 = .ok (.aload_n 0, 1) := by decide +kernel
theorem d_M_waive_44 : decode b_M_waive 44 = .ok (.getfield 53, 3) := by decide +kernel
theorem d_M_waive_47 : decode b_M_waive 47 = .ok (.iload_n 1, 1) := by decide +kernel
theorem d_M_waive_48 : decode b_M_waive 48 = .ok (.iaload, 1) := by decide +kernel
theorem d_M_waive_49 : decode b_M_waive 49 = .ok (.istore_n 3, 1) := by decide +kernel
theorem d_M_waive_50 : decode b_M_waive 50 = .ok (.aload_n 0, 1) := by decide +kernel
theorem d_M_waive_51 : decode b_M_waive 51 = .ok (.getfield 53, 3) := by decide +kernel
theorem d_M_waive_54 : decode b_M_waive 54 = .ok (.iload_n 1, 1) := by decide +kernel
theorem d_M_waive_55 : decode b_M_waive 55 = .ok (.dup2, 1) := by decide +kernel
theorem d_M_waive_56 : decode b_M_waive 56 = .ok (.iaload, 1) := by decide +kernel
theorem d_M_waive_57 : decode b_M_waive 57 = .ok (.iload_n 3, 1) := by decide +kernel
theorem d_M_waive_58 : decode b_M_waive 58 = .ok (.isub, 1) := by decide +kernel
theorem d_M_waive_59 : decode b_M_waive 59 = .ok (.iastore, 1) := by decide +kernel
theorem d_M_waive_60 : decode b_M_waive 60 = .ok (.iload_n 3, 1) := by decide +kernel
theorem d_M_waive_61 : decode b_M_waive 61 = .ok (.i2l, 1) := by decide +kernel
theorem d_M_waive_62 : decode b_M_waive 62 = .ok (.lreturn, 1) := by decide +kernel
theorem d_M_interestOf_0 : decode b_M_interestOf 0 = .ok (.lload_n 2, 1) := by decide +kernel
theorem d_M_interestOf_1 : decode b_M_interestOf 1 = .ok (.aload_n 0, 1) := by decide +kernel
theorem d_M_interestOf_2 : decode b_M_interestOf 2 = .ok (.getfield 62, 3) := by decide +kernel
theorem d_M_interestOf_5 : decode b_M_interestOf 5 = .ok (.iload_n 1, 1) := by decide +kernel
theorem d_M_interestOf_6 : decode b_M_interestOf 6 = .ok (.laload, 1) := by decide +kernel
theorem d_M_interestOf_7 : decode b_M_interestOf 7 = .ok (.lcmp, 1) := by decide +kernel
theorem d_M_interestOf_8 : decode b_M_interestOf 8 = .ok (.ifCond .ge 7, 3) := by decide +kernel
theorem d_M_interestOf_11 : decode b_M_interestOf 11 = .ok (.lconst 0, 1) := by decide +kernel
theorem d_M_interestOf_12 : decode b_M_interestOf 12 = .ok (.goto 15, 3) := by decide +kernel
theorem d_M_interestOf_15 : decode b_M_interestOf 15 = .ok (.lload_n 2, 1) := by decide +kernel
theorem d_M_interestOf_16 : decode b_M_interestOf 16 = .ok (.aload_n 0, 1) := by decide +kernel
theorem d_M_interestOf_17 : decode b_M_interestOf 17 = .ok (.getfield 62, 3) := by decide +kernel
theorem d_M_interestOf_20 : decode b_M_interestOf 20 = .ok (.iload_n 1, 1) := by decide +kernel
theorem d_M_interestOf_21 : decode b_M_interestOf 21 = .ok (.laload, 1) := by decide +kernel
theorem d_M_interestOf_22 : decode b_M_interestOf 22 = .ok (.lsub, 1) := by decide +kernel
theorem d_M_interestOf_23 : decode b_M_interestOf 23 = .ok (.ldc2_w 144, 3) := by decide +kernel
theorem d_M_interestOf_26 : decode b_M_interestOf 26 = .ok (.ldiv, 1) := by decide +kernel
theorem d_M_interestOf_27 : decode b_M_interestOf 27 = .ok (.lstore 4, 2) := by decide +kernel
theorem d_M_interestOf_29 : decode b_M_interestOf 29 = .ok (.aload_n 0, 1) := by decide +kernel
theorem d_M_interestOf_30 : decode b_M_interestOf 30 = .ok (.getfield 35, 3) := by decide +kernel
theorem d_M_interestOf_33 : decode b_M_interestOf 33 = .ok (.aload_n 0, 1) := by decide +kernel
theorem d_M_interestOf_34 : decode b_M_interestOf 34 = .ok (.getfield 47, 3) := by decide +kernel
theorem d_M_interestOf_37 : decode b_M_interestOf 37 = .ok (.iload_n 1, 1) := by decide +kernel
theorem d_M_interestOf_38 : decode b_M_interestOf 38 = .ok (.iaload, 1) := by decide +kernel
theorem d_M_interestOf_39 : decode b_M_interestOf 39 = .ok (.iaload, 1) := by decide +kernel
theorem d_M_interestOf_40 : decode b_M_interestOf 40 = .ok (.istore 6, 2) := by decide +kernel
theorem d_M_interestOf_42 : decode b_M_interestOf 42 = .ok (.aload_n 0, 1) := by decide +kernel
theorem d_M_interestOf_43 : decode b_M_interestOf 43 = .ok (.getfield 53, 3) := by decide +kernel
theorem d_M_interestOf_46 : decode b_M_interestOf 46 = .ok (.iload_n 1, 1) := by decide +kernel
theorem d_M_interestOf_47 : decode b_M_interestOf 47 = .ok (.iaload, 1) := by decide +kernel
theorem d_M_interestOf_48 : decode b_M_interestOf 48 = .ok (.i2l, 1) := by decide +kernel
theorem d_M_interestOf_49 : decode b_M_interestOf 49 = .ok (.aload_n 0, 1) := by decide +kernel
theorem d_M_interestOf_50 : decode b_M_interestOf 50 = .ok (.getfield 19, 3) := by decide +kernel
theorem d_M_interestOf_53 : decode b_M_interestOf 53 = .ok (.iload 6, 2) := by decide +kernel
theorem d_M_interestOf_55 : decode b_M_interestOf 55 = .ok (.iaload, 1) := by decide +kernel
theorem d_M_interestOf_56 : decode b_M_interestOf 56 = .ok (.i2l, 1) := by decide +kernel
theorem d_M_interestOf_57 : decode b_M_interestOf 57 = .ok (.lmul, 1) := by decide +kernel
theorem d_M_interestOf_58 : decode b_M_interestOf 58 = .ok (.lload 4, 2) := by decide +kernel
theorem d_M_interestOf_60 : decode b_M_interestOf 60 = .ok (.lmul, 1) := by decide +kernel
theorem d_M_interestOf_61 : decode b_M_interestOf 61 = .ok (.aload_n 0, 1) := by decide +kernel
theorem d_M_interestOf_62 : decode b_M_interestOf 62 = .ok (.getfield 22, 3) := by decide +kernel
theorem d_M_interestOf_65 : decode b_M_interestOf 65 = .ok (.iload 6, 2) := by decide +kernel
theorem d_M_interestOf_67 : decode b_M_interestOf 67 = .ok (.iaload, 1) := by decide +kernel
theorem d_M_interestOf_68 : decode b_M_interestOf 68 = .ok (.i2l, 1) := by decide +kernel
theorem d_M_interestOf_69 : decode b_M_interestOf 69 = .ok (.ldiv, 1) := by decide +kernel
theorem d_M_interestOf_70 : decode b_M_interestOf 70 = .ok (.lreturn, 1) := by decide +kernel
theorem d_M_leftOf_0 : decode b_M_leftOf 0 = .ok (.lconst 0, 1) := by decide +kernel
theorem d_M_leftOf_1 : decode b_M_leftOf 1 = .ok (.lstore_n 2, 1) := by decide +kernel
theorem d_M_leftOf_2 : decode b_M_leftOf 2 = .ok (.iconst 1, 1) := by decide +kernel
theorem d_M_leftOf_3 : decode b_M_leftOf 3 = .ok (.istore 4, 2) := by decide +kernel
theorem d_M_leftOf_5 : decode b_M_leftOf 5 = .ok (.iload 4, 2) := by decide +kernel
theorem d_M_leftOf_7 : decode b_M_leftOf 7 = .ok (.aload_n 0, 1) := by decide +kernel
theorem d_M_leftOf_8 : decode b_M_leftOf 8 = .ok (.getfield 128, 3) := by decide +kernel
theorem d_M_leftOf_11 : decode b_M_leftOf 11 = .ok (.if_icmp .gt 34, 3) := by decide +kernel
theorem d_M_leftOf_14 : decode b_M_leftOf 14 = .ok (.lload_n 2, 1) := by decide +kernel
theorem d_M_leftOf_15 : decode b_M_leftOf 15 = .ok (.aload_n 0, 1) := by decide +kernel
theorem d_M_leftOf_16 : decode b_M_leftOf 16 = .ok (.iload 4, 2) := by decide +kernel
theorem d_M_leftOf_18 : decode b_M_leftOf 18 = .ok (.invokevirtual 135, 3) := by decide +kernel
theorem d_M_leftOf_21 : decode b_M_leftOf 21 = .ok (.iload_n 1, 1) := by decide +kernel
theorem d_M_leftOf_22 : decode b_M_leftOf 22 = .ok (.if_icmp .ne 14, 3) := by decide +kernel
theorem d_M_leftOf_25 : decode b_M_leftOf 25 = .ok (.aload_n 0, 1) := by decide +kernel
theorem d_M_leftOf_26 : decode b_M_leftOf 26 = .ok (.getfield 53, 3) := by decide +kernel
theorem d_M_leftOf_29 : decode b_M_leftOf 29 = .ok (.iload 4, 2) := by decide +kernel
theorem d_M_leftOf_31 : decode b_M_leftOf 31 = .ok (.iaload, 1) := by decide +kernel
theorem d_M_leftOf_32 : decode b_M_leftOf 32 = .ok (.i2l, 1) := by decide +kernel
theorem d_M_leftOf_33 : decode b_M_leftOf 33 = .ok (.goto 4, 3) := by decide +kernel
theorem d_M_leftOf_36 : decode b_M_leftOf 36 = .ok (.lconst 0, 1) := by decide +kernel
theorem d_M_leftOf_37 : decode b_M_leftOf 37 = .ok (.ladd, 1) := by decide +kernel
theorem d_M_leftOf_38 : decode b_M_leftOf 38 = .ok (.lstore_n 2, 1) := by decide +kernel
theorem d_M_leftOf_39 : decode b_M_leftOf 39 = .ok (.iinc 4 1, 3) := by decide +kernel
theorem d_M_leftOf_42 : decode b_M_leftOf 42 = .ok (.goto (-37), 3) := by decide +kernel
theorem d_M_leftOf_45 : decode b_M_leftOf 45 = .ok (.lload_n 2, 1) := by decide +kernel
theorem d_M_leftOf_46 : decode b_M_leftOf 46 = .ok (.lreturn, 1) := by decide +kernel
theorem d_M_owes_0 : decode b_M_owes 0 = .ok (.aload_n 0, 1) := by decide +kernel
theorem d_M_owes_1 : decode b_M_owes 1 = .ok (.iconst 0, 1) := by decide +kernel
theorem d_M_owes_2 : decode b_M_owes 2 = .ok (.putfield 76, 3) := by decide +kernel
theorem d_M_owes_5 : decode b_M_owes 5 = .ok (.iload_n 1, 1) := by decide +kernel
theorem d_M_owes_6 : decode b_M_owes 6 = .ok (.i2l, 1) := by decide +kernel
theorem d_M_owes_7 : decode b_M_owes 7 = .ok (.lconst 0, 1) := by decide +kernel
theorem d_M_owes_8 : decode b_M_owes 8 = .ok (.ldc2_w 112, 3) := by decide +kernel
theorem d_M_owes_11 : decode b_M_owes 11 = .ok (.invokestatic 81, 3) := by decide +kernel
theorem d_M_owes_14 : decode b_M_owes 14 = .ok (.ifCond .ne 7, 3) := by decide +kernel
theorem d_M_owes_17 : decode b_M_owes 17 = .ok (.ldc2_w 146, 3) := by decide +kernel
theorem d_M_owes_20 : decode b_M_owes 20 = .ok (.lreturn, 1) := by decide +kernel
theorem d_M_owes_21 : decode b_M_owes 21 = .ok (.aload_n 0, 1) := by decide +kernel
theorem d_M_owes_22 : decode b_M_owes 22 = .ok (.iload_n 1, 1) := by decide +kernel
theorem d_M_owes_23 : decode b_M_owes 23 = .ok (.invokevirtual 148, 3) := by decide +kernel
theorem d_M_owes_26 : decode b_M_owes 26 = .ok (.aload_n 0, 1) := by decide +kernel
theorem d_M_owes_27 : decode b_M_owes 27 = .ok (.getfield 69, 3) := by decide +kernel
theorem d_M_owes_30 : decode b_M_owes 30 = .ok (.iload_n 1, 1) := by decide +kernel
theorem d_M_owes_31 : decode b_M_owes 31 = .ok (.laload, 1) := by decide +kernel
theorem d_M_owes_32 : decode b_M_owes 32 = .ok (.lsub, 1) := by decide +kernel
theorem d_M_owes_33 : decode b_M_owes 33 = .ok (.lstore 4, 2) := by decide +kernel
theorem d_M_owes_35 : decode b_M_owes 35 = .ok (.iconst 1, 1) := by decide +kernel
theorem d_M_owes_36 : decode b_M_owes 36 = .ok (.istore 6, 2) := by decide +kernel
theorem d_M_owes_38 : decode b_M_owes 38 = .ok (.iload 6, 2) := by decide +kernel
theorem d_M_owes_40 : decode b_M_owes 40 = .ok (.aload_n 0, 1) := by decide +kernel
theorem d_M_owes_41 : decode b_M_owes 41 = .ok (.getfield 128, 3) := by decide +kernel
theorem d_M_owes_44 : decode b_M_owes 44 = .ok (.if_icmp .gt 55, 3) := by decide +kernel
theorem d_M_owes_47 : decode b_M_owes 47 = .ok (.lload_n 2, 1) := by decide +kernel
theorem d_M_owes_48 : decode b_M_owes 48 = .ok (.lconst 0, 1) := by decide +kernel
theorem d_M_owes_49 : decode b_M_owes 49 = .ok (.lcmp, 1) := by decide +kernel
theorem d_M_owes_50 : decode b_M_owes 50 = .ok (.ifCond .lt 49, 3) := by decide +kernel
theorem d_M_owes_53 : decode b_M_owes 53 = .ok (.lload 4, 2) := by decide +kernel
theorem d_M_owes_55 : decode b_M_owes 55 = .ok (.aload_n 0, 1) := by decide +kernel
theorem d_M_owes_56 : decode b_M_owes 56 = .ok (.iload 6, 2) := by decide +kernel
theorem d_M_owes_58 : decode b_M_owes 58 = .ok (.invokevirtual 135, 3) := by decide +kernel
theorem d_M_owes_61 : decode b_M_owes 61 = .ok (.iload_n 1, 1) := by decide +kernel
theorem d_M_owes_62 : decode b_M_owes 62 = .ok (.if_icmp .ne 27, 3) := by decide +kernel
theorem d_M_owes_65 : decode b_M_owes 65 = .ok (.aload_n 0, 1) := by decide +kernel
theorem d_M_owes_66 : decode b_M_owes 66 = .ok (.iload 6, 2) := by decide +kernel
theorem d_M_owes_68 : decode b_M_owes 68 = .ok (.lload_n 2, 1) := by decide +kernel
theorem d_M_owes_69 : decode b_M_owes 69 = .ok (.ldc2_w 79, 3) := by decide +kernel
theorem d_M_owes_72 : decode b_M_owes 72 = .ok (.lcmp, 1) := by decide +kernel
theorem d_M_owes_73 : decode b_M_owes 73 = .ok (.ifCond .le 9, 3) := by decide +kernel
theorem d_M_owes_76 : decode b_M_owes 76 = .ok (.ldc2_w 79, 3) := by decide +kernel
theorem d_M_owes_79 : decode b_M_owes 79 = .ok (.goto 4, 3) := by decide +kernel
theorem d_M_owes_82 : decode b_M_owes 82 = .ok (.lload_n 2, 1) := by decide +kernel
theorem d_M_owes_83 : decode b_M_owes 83 = .ok (.invokevirtual 152, 3) := by decide +kernel
theorem d_M_owes_86 : decode b_M_owes 86 = .ok (.goto 4, 3) := by decide +kernel
theorem d_M_owes_89 : decode b_M_owes 89 = .ok (.lconst 0, 1) := by decide +kernel
theorem d_M_owes_90 : decode b_M_owes 90 = .ok (.ladd, 1) := by decide +kernel
theorem d_M_owes_91 : decode b_M_owes 91 = .ok (.lstore 4, 2) := by decide +kernel
theorem d_M_owes_93 : decode b_M_owes 93 = .ok (.iinc 6 1, 3) := by decide +kernel
theorem d_M_owes_96 : decode b_M_owes 96 = .ok (.goto (-58), 3) := by decide +kernel
theorem d_M_owes_99 : decode b_M_owes 99 = .ok (.lload 4, 2) := by decide +kernel
theorem d_M_owes_101 : decode b_M_owes 101 = .ok (.lreturn, 1) := by decide +kernel
theorem d_M_plan_0 : decode b_M_plan 0 = .ok (.aload_n 0, 1) := by decide +kernel
theorem d_M_plan_1 : decode b_M_plan 1 = .ok (.iconst 0, 1) := by decide +kernel
theorem d_M_plan_2 : decode b_M_plan 2 = .ok (.putfield 76, 3) := by decide +kernel
theorem d_M_plan_5 : decode b_M_plan 5 = .ok (.iload_n 1, 1) := by decide +kernel
theorem d_M_plan_6 : decode b_M_plan 6 = .ok (.i2l, 1) := by decide +kernel
theorem d_M_plan_7 : decode b_M_plan 7 = .ok (.lconst 0, 1) := by decide +kernel
theorem d_M_plan_8 : decode b_M_plan 8 = .ok (.ldc2_w 112, 3) := by decide +kernel
theorem d_M_plan_11 : decode b_M_plan 11 = .ok (.invokestatic 81, 3) := by decide +kernel
theorem d_M_plan_14 : decode b_M_plan 14 = .ok (.ifCond .eq 28, 3) := by decide +kernel
theorem d_M_plan_17 : decode b_M_plan 17 = .ok (.iload_n 2, 1) := by decide +kernel
theorem d_M_plan_18 : decode b_M_plan 18 = .ok (.i2l, 1) := by decide +kernel
theorem d_M_plan_19 : decode b_M_plan 19 = .ok (.lconst 1, 1) := by decide +kernel
theorem d_M_plan_20 : decode b_M_plan 20 = .ok (.ldc2_w 155, 3) := by decide +kernel
theorem d_M_plan_23 : decode b_M_plan 23 = .ok (.invokestatic 81, 3) := by decide +kernel
theorem d_M_plan_26 : decode b_M_plan 26 = .ok (.ifCond .eq 16, 3) := by decide +kernel
theorem d_M_plan_29 : decode b_M_plan 29 = .ok (.iload_n 3, 1) := by decide +kernel
theorem d_M_plan_30 : decode b_M_plan 30 = .ok (.i2l, 1) := by decide +kernel
theorem d_M_plan_31 : decode b_M_plan 31 = .ok (.lconst 0, 1) := by decide +kernel
theorem d_M_plan_32 : decode b_M_plan 32 = .ok (.iload_n 2, 1) := by decide +kernel
theorem d_M_plan_33 : decode b_M_plan 33 = .ok (.iconst 1, 1) := by decide +kernel
theorem d_M_plan_34 : decode b_M_plan 34 = .ok (.isub, 1) := by decide +kernel
theorem d_M_plan_35 : decode b_M_plan 35 = .ok (.i2l, 1) := by decide +kernel
theorem d_M_plan_36 : decode b_M_plan 36 = .ok (.invokestatic 81, 3) := by decide +kernel
theorem d_M_plan_39 : decode b_M_plan 39 = .ok (.ifCond .ne 5, 3) := by decide +kernel
theorem d_M_plan_42 : decode b_M_plan 42 = .ok (.lconst 0, 1) := by decide +kernel
theorem d_M_plan_43 : decode b_M_plan 43 = .ok (.lreturn, 1) := by decide +kernel
theorem d_M_plan_44 : decode b_M_plan 44 = .ok (.aload_n 0, 1) := by decide +kernel
theorem d_M_plan_45 : decode b_M_plan 45 = .ok (.iload_n 1, 1) := by decide +kernel
theorem d_M_plan_46 : decode b_M_plan 46 = .ok (.invokevirtual 148, 3) := by decide +kernel
theorem d_M_plan_49 : decode b_M_plan 49 = .ok (.lstore 4, 2) := by decide +kernel
theorem d_M_plan_51 : decode b_M_plan 51 = .ok (.lload 4, 2) := by decide +kernel
theorem d_M_plan_53 : decode b_M_plan 53 = .ok (.iload_n 2, 1) := by decide +kernel
theorem d_M_plan_54 : decode b_M_plan 54 = .ok (.i2l, 1) := by decide +kernel
theorem d_M_plan_55 : decode b_M_plan 55 = .ok (.ldiv, 1) := by decide +kernel
theorem d_M_plan_56 : decode b_M_plan 56 = .ok (.iload_n 3, 1) := by decide +kernel
theorem d_M_plan_57 : decode b_M_plan 57 = .ok (.i2l, 1) := by decide +kernel
theorem d_M_plan_58 : decode b_M_plan 58 = .ok (.lload 4, 2) := by decide +kernel
theorem d_M_plan_60 : decode b_M_plan 60 = .ok (.iload_n 2, 1) := by decide +kernel
theorem d_M_plan_61 : decode b_M_plan 61 = .ok (.i2l, 1) := by decide +kernel
theorem d_M_plan_62 : decode b_M_plan 62 = .ok (.lrem, 1) := by decide +kernel
theorem d_M_plan_63 : decode b_M_plan 63 = .ok (.lcmp, 1) := by decide +kernel
theorem d_M_plan_64 : decode b_M_plan 64 = .ok (.ifCond .ge 7, 3) := by decide +kernel
theorem d_M_plan_67 : decode b_M_plan 67 = .ok (.lconst 1, 1) := by decide +kernel
theorem d_M_plan_68 : decode b_M_plan 68 = .ok (.goto 4, 3) := by decide +kernel
theorem d_M_plan_71 : decode b_M_plan 71 = .ok (.lconst 0, 1) := by decide +kernel
theorem d_M_plan_72 : decode b_M_plan 72 = .ok (.ladd, 1) := by decide +kernel
theorem d_M_plan_73 : decode b_M_plan 73 = .ok (.lreturn, 1) := by decide +kernel
theorem d_M_threshold_0 : decode b_M_threshold 0 = .ok (.aload_n 0, 1) := by decide +kernel
theorem d_M_threshold_1 : decode b_M_threshold 1 = .ok (.iconst 0, 1) := by decide +kernel
theorem d_M_threshold_2 : decode b_M_threshold 2 = .ok (.putfield 76, 3) := by decide +kernel
theorem d_M_threshold_5 : decode b_M_threshold 5 = .ok (.iload_n 1, 1) := by decide +kernel
theorem d_M_threshold_6 : decode b_M_threshold 6 = .ok (.i2l, 1) := by decide +kernel
theorem d_M_threshold_7 : decode b_M_threshold 7 = .ok (.lconst 1, 1) := by decide +kernel
theorem d_M_threshold_8 : decode b_M_threshold 8 = .ok (.ldc2_w 79, 3) := by decide +kernel
theorem d_M_threshold_11 : decode b_M_threshold 11 = .ok (.invokestatic 81, 3) := by decide +kernel
theorem d_M_threshold_14 : decode b_M_threshold 14 = .ok (.ifCond .ne 5, 3) := by decide +kernel
theorem d_M_threshold_17 : decode b_M_threshold 17 = .ok (.iconst (-1), 1) := by decide +kernel
theorem d_M_threshold_18 : decode b_M_threshold 18 = .ok (.ireturn, 1) := by decide +kernel
theorem d_M_threshold_19 : decode b_M_threshold 19 = .ok (.aload_n 0, 1) := by decide +kernel
theorem d_M_threshold_20 : decode b_M_threshold 20 = .ok (.getfield 72, 3) := by decide +kernel
theorem d_M_threshold_23 : decode b_M_threshold 23 = .ok (.istore_n 2, 1) := by decide +kernel
theorem d_M_threshold_24 : decode b_M_threshold 24 = .ok (.aload_n 0, 1) := by decide +kernel
theorem d_M_threshold_25 : decode b_M_threshold 25 = .ok (.iload_n 1, 1) := by decide +kernel
theorem d_M_threshold_26 : decode b_M_threshold 26 = .ok (.putfield 72, 3) := by decide +kernel
theorem d_M_threshold_29 : decode b_M_threshold 29 = .ok (.iload_n 2, 1) := by decide +kernel
theorem d_M_threshold_30 : decode b_M_threshold 30 = .ok (.ireturn, 1) := by decide +kernel
theorem d_M_blocked_0 : decode b_M_blocked 0 = .ok (.aload_n 0, 1) := by decide +kernel
theorem d_M_blocked_1 : decode b_M_blocked 1 = .ok (.iconst 0, 1) := by decide +kernel
theorem d_M_blocked_2 : decode b_M_blocked 2 = .ok (.putfield 76, 3) := by decide +kernel
theorem d_M_blocked_5 : decode b_M_blocked 5 = .ok (.iload_n 1, 1) := by decide +kernel
theorem d_M_blocked_6 : decode b_M_blocked 6 = .ok (.i2l, 1) := by decide +kernel
theorem d_M_blocked_7 : decode b_M_blocked 7 = .ok (.lconst 0, 1) := by decide +kernel
theorem d_M_blocked_8 : decode b_M_blocked 8 = .ok (.ldc2_w 112, 3) := by decide +kernel
theorem d_M_blocked_11 : decode b_M_blocked 11 = .ok (.invokestatic 81, 3) := by decide +kernel
theorem d_M_blocked_14 : decode b_M_blocked 14 = .ok (.ifCond .eq 28, 3) := by decide +kernel
theorem d_M_blocked_17 : decode b_M_blocked 17 = .ok (.aload_n 0, 1) := by decide +kernel
theorem d_M_blocked_18 : decode b_M_blocked 18 = .ok (.iload_n 1, 1) := by decide +kernel
theorem d_M_blocked_19 : decode b_M_blocked 19 = .ok (.invokevirtual 148, 3) := by decide +kernel
theorem d_M_blocked_22 : decode b_M_blocked 22 = .ok (.aload_n 0, 1) := by decide +kernel
theorem d_M_blocked_23 : decode b_M_blocked 23 = .ok (.getfield 69, 3) := by decide +kernel
theorem d_M_blocked_26 : decode b_M_blocked 26 = .ok (.iload_n 1, 1) := by decide +kernel
theorem d_M_blocked_27 : decode b_M_blocked 27 = .ok (.laload, 1) := by decide +kernel
theorem d_M_blocked_28 : decode b_M_blocked 28 = .ok (.lsub, 1) := by decide +kernel
theorem d_M_blocked_29 : decode b_M_blocked 29 = .ok (.aload_n 0, 1) := by decide +kernel
theorem d_M_blocked_30 : decode b_M_blocked 30 = .ok (.getfield 72, 3) := by decide +kernel
theorem d_M_blocked_33 : decode b_M_blocked 33 = .ok (.i2l, 1) := by decide +kernel
theorem d_M_blocked_34 : decode b_M_blocked 34 = .ok (.lcmp, 1) := by decide +kernel
theorem d_M_blocked_35 : decode b_M_blocked 35 = .ok (.ifCond .lt 7, 3) := by decide +kernel
theorem d_M_blocked_38 : decode b_M_blocked 38 = .ok (.iconst 1, 1) := by decide +kernel
theorem d_M_blocked_39 : decode b_M_blocked 39 = .ok (.goto 4, 3) := by decide +kernel
theorem d_M_blocked_42 : decode b_M_blocked 42 = .ok (.iconst 0, 1) := by decide +kernel
theorem d_M_blocked_43 : decode b_M_blocked 43 = .ok (.ireturn, 1) := by decide +kernel
theorem d_M_debt_0 : decode b_M_debt 0 = .ok (.aload_n 0, 1) := by decide +kernel
theorem d_M_debt_1 : decode b_M_debt 1 = .ok (.iconst 0, 1) := by decide +kernel
theorem d_M_debt_2 : decode b_M_debt 2 = .ok (.putfield 76, 3) := by decide +kernel
theorem d_M_debt_5 : decode b_M_debt 5 = .ok (.aload_n 0, 1) := by decide +kernel
theorem d_M_debt_6 : decode b_M_debt 6 = .ok (.iload_n 1, 1) := by decide +kernel
theorem d_M_debt_7 : decode b_M_debt 7 = .ok (.invokevirtual 141, 3) := by decide +kernel
theorem d_M_debt_10 : decode b_M_debt 10 = .ok (.ifCond .ne 7, 3) := by decide +kernel
theorem d_M_debt_13 : decode b_M_debt 13 = .ok (.ldc2_w 126, 3) := by decide +kernel
theorem d_M_debt_16 : decode b_M_debt 16 = .ok (.lreturn, 1) := by decide +kernel
theorem d_M_debt_17 : decode b_M_debt 17 = .ok (.iload_n 2, 1) := by decide +kernel
theorem d_M_debt_18 : decode b_M_debt 18 = .ok (.tableswitch 92 0 5 #[38, 45, 53, 61, 68, 76], 38) := by decide +kernel
theorem d_M_debt_56 : decode b_M_debt 56 = .ok (.aload_n 0, 1) := by decide +kernel
theorem d_M_debt_57 : decode b_M_debt 57 = .ok (.iload_n 1, 1) := by decide +kernel
theorem d_M_debt_58 : decode b_M_debt 58 = .ok (.invokevirtual 135, 3) := by decide +kernel
theorem d_M_debt_61 : decode b_M_debt 61 = .ok (.i2l, 1) := by decide +kernel
theorem d_M_debt_62 : decode b_M_debt 62 = .ok (.lreturn, 1) := by decide +kernel
theorem d_M_debt_63 : decode b_M_debt 63 = .ok (.aload_n 0, 1) := by decide +kernel
theorem d_M_debt_64 : decode b_M_debt 64 = .ok (.getfield 50, 3) := by decide +kernel
theorem d_M_debt_67 : decode b_M_debt 67 = .ok (.iload_n 1, 1) := by decide +kernel
theorem d_M_debt_68 : decode b_M_debt 68 = .ok (.iaload, 1) := by decide +kernel
theorem d_M_debt_69 : decode b_M_debt 69 = .ok (.i2l, 1) := by decide +kernel
theorem d_M_debt_70 : decode b_M_debt 70 = .ok (.lreturn, 1) := by decide +kernel
theorem d_M_debt_71 : decode b_M_debt 71 = .ok (.aload_n 0, 1) := by decide +kernel
theorem d_M_debt_72 : decode b_M_debt 72 = .ok (.getfield 53, 3) := by decide +kernel
theorem d_M_debt_75 : decode b_M_debt 75 = .ok (.iload_n 1, 1) := by decide +kernel
theorem d_M_debt_76 : decode b_M_debt 76 = .ok (.iaload, 1) := by decide +kernel
theorem d_M_debt_77 : decode b_M_debt 77 = .ok (.i2l, 1) := by decide +kernel
theorem d_M_debt_78 : decode b_M_debt 78 = .ok (.lreturn, 1) := by decide +kernel
theorem d_M_debt_79 : decode b_M_debt 79 = .ok (.aload_n 0, 1) := by decide +kernel
theorem d_M_debt_80 : decode b_M_debt 80 = .ok (.getfield 62, 3) := by decide +kernel
theorem d_M_debt_83 : decode b_M_debt 83 = .ok (.iload_n 1, 1) := by decide +kernel
theorem d_M_debt_84 : decode b_M_debt 84 = .ok (.laload, 1) := by decide +kernel
theorem d_M_debt_85 : decode b_M_debt 85 = .ok (.lreturn, 1) := by decide +kernel
theorem d_M_debt_86 : decode b_M_debt 86 = .ok (.aload_n 0, 1) := by decide +kernel
theorem d_M_debt_87 : decode b_M_debt 87 = .ok (.getfield 59, 3) := by decide +kernel
theorem d_M_debt_90 : decode b_M_debt 90 = .ok (.iload_n 1, 1) := by decide +kernel
theorem d_M_debt_91 : decode b_M_debt 91 = .ok (.iaload, 1) := by decide +kernel
theorem d_M_debt_92 : decode b_M_debt 92 = .ok (.i2l, 1) := by decide +kernel
theorem d_M_debt_93 : decode b_M_debt 93 = .ok (.lreturn, 1) := by decide +kernel
theorem d_M_debt_94 : decode b_M_debt 94 = .ok (.aload_n 0, 1) := by decide +kernel
theorem d_M_debt_95 : decode b_M_debt 95 = .ok (.iload_n 1, 1) := by decide +kernel
theorem d_M_debt_96 : decode b_M_debt 96 = .ok (.aload_n 0, 1) := by decide +kernel
theorem d_M_debt_97 : decode b_M_debt 97 = .ok (.getfield 62, 3) := by decide +kernel
theorem d_M_debt_100 : decode b_M_debt 100 = .ok (.iload_n 1, 1) := by decide +kernel
theorem d_M_debt_101 : decode b_M_debt 101 = .ok (.laload, 1) := by decide +kernel
theorem d_M_debt_102 : decode b_M_debt 102 = .ok (.ldc2_w 144, 3) := by decide +kernel
theorem d_M_debt_105 : decode b_M_debt 105 = .ok (.ladd, 1) := by decide +kernel
theorem d_M_debt_106 : decode b_M_debt 106 = .ok (.invokevirtual 152, 3) := by decide +kernel
theorem d_M_debt_109 : decode b_M_debt 109 = .ok (.lreturn, 1) := by decide +kernel
theorem d_M_debt_110 : decode b_M_debt 110 = .ok (.ldc2_w 126, 3) := by decide +kernel
theorem d_M_debt_113 : decode b_M_debt 113 = .ok (.lreturn, 1) := by decide +kernel
theorem d_M_share_0 : decode b_M_share 0 = .ok (.aload_n 0, 1) := by decide +kernel
theorem d_M_share_1 : decode b_M_share 1 = .ok (.iconst 0, 1) := by decide +kernel
theorem d_M_share_2 : decode b_M_share 2 = .ok (.putfield 76, 3) := by decide +kernel
theorem d_M_share_5 : decode b_M_share 5 = .ok (.aload_n 0, 1) := by decide +kernel
theorem d_M_share_6 : decode b_M_share 6 = .ok (.iload_n 1, 1) := by decide +kernel
theorem d_M_share_7 : decode b_M_share 7 = .ok (.invokevirtual 141, 3) := by decide +kernel
theorem d_M_share_10 : decode b_M_share 10 = .ok (.ifCond .eq 48, 3) := by decide +kernel
theorem d_M_share_13 : decode b_M_share 13 = .ok (.iload_n 2, 1) := by decide +kernel
theorem d_M_share_14 : decode b_M_share 14 = .ok (.i2l, 1) := by decide +kernel
theorem d_M_share_15 : decode b_M_share 15 = .ok (.lconst 1, 1) := by decide +kernel
theorem d_M_share_16 : decode b_M_share 16 = .ok (.ldc2_w 94, 3) := by decide +kernel
theorem d_M_share_19 : decode b_M_share 19 = .ok (.invokestatic 81, 3) := by decide +kernel
theorem d_M_share_22 : decode b_M_share 22 = .ok (.ifCond .eq 36, 3) := by decide +kernel
theorem d_M_share_25 : decode b_M_share 25 = .ok (.iload_n 3, 1) := by decide +kernel
theorem d_M_share_26 : decode b_M_share 26 = .ok (.i2l, 1) := by decide +kernel
theorem d_M_share_27 : decode b_M_share 27 = .ok (.lconst 1, 1) := by decide +kernel
theorem d_M_share_28 : decode b_M_share 28 = .ok (.ldc2_w 94, 3) := by decide +kernel
theorem d_M_share_31 : decode b_M_share 31 = .ok (.invokestatic 81, 3) := by decide +kernel
theorem d_M_share_34 : decode b_M_share 34 = .ok (.ifCond .eq 24, 3) := by decide +kernel
theorem d_M_share_37 : decode b_M_share 37 = .ok (.iload_n 2, 1) := by decide +kernel
theorem d_M_share_38 : decode b_M_share 38 = .ok (.iload_n 3, 1) := by decide +kernel
theorem d_M_share_39 : decode b_M_share 39 = .ok (.if_icmp .gt 19, 3) := by decide +kernel
theorem d_M_share_42 : decode b_M_share 42 = .ok (.aload_n 0, 1) := by decide +kernel
theorem d_M_share_43 : decode b_M_share 43 = .ok (.getfield 50, 3) := by decide +kernel
theorem d_M_share_46 : decode b_M_share 46 = .ok (.iload_n 1, 1) := by decide +kernel
theorem d_M_share_47 : decode b_M_share 47 = .ok (.iaload, 1) := by decide +kernel
theorem d_M_share_48 : decode b_M_share 48 = .ok (.i2l, 1) := by decide +kernel
theorem d_M_share_49 : decode b_M_share 49 = .ok (.iload_n 2, 1) := by decide +kernel
theorem d_M_share_50 : decode b_M_share 50 = .ok (.i2l, 1) := by decide +kernel
theorem d_M_share_51 : decode b_M_share 51 = .ok (.lmul, 1) := by decide +kernel
theorem d_M_share_52 : decode b_M_share 52 = .ok (.iload_n 3, 1) := by decide +kernel
theorem d_M_share_53 : decode b_M_share 53 = .ok (.i2l, 1) := by decide +kernel
theorem d_M_share_54 : decode b_M_share 54 = .ok (.ldiv, 1) := by decide +kernel
theorem d_M_share_55 : decode b_M_share 55 = .ok (.goto 6, 3) := by decide +kernel
theorem d_M_share_58 : decode b_M_share 58 = .ok (.ldc2_w 126, 3) := by decide +kernel
theorem d_M_share_61 : decode b_M_share 61 = .ok (.lreturn, 1) := by decide +kernel
