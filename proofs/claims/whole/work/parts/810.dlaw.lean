theorem d_W_law_0 : decode b_W_law 0 = .ok (.new 8, 3) := by decide +kernel
theorem d_W_law_3 : decode b_W_law 3 = .ok (.dup, 1) := by decide +kernel
theorem d_W_law_4 : decode b_W_law 4 = .ok (.invokespecial 15, 3) := by decide +kernel
theorem d_W_law_7 : decode b_W_law 7 = .ok (.astore_n 1, 1) := by decide +kernel
theorem d_W_law_8 : decode b_W_law 8 = .ok (.new 16, 3) := by decide +kernel
theorem d_W_law_11 : decode b_W_law 11 = .ok (.dup, 1) := by decide +kernel
theorem d_W_law_12 : decode b_W_law 12 = .ok (.invokespecial 18, 3) := by decide +kernel
theorem d_W_law_15 : decode b_W_law 15 = .ok (.astore_n 2, 1) := by decide +kernel
theorem d_W_law_16 : decode b_W_law 16 = .ok (.iconst 1, 1) := by decide +kernel
theorem d_W_law_17 : decode b_W_law 17 = .ok (.newarray .long, 2) := by decide +kernel
theorem d_W_law_19 : decode b_W_law 19 = .ok (.astore_n 3, 1) := by decide +kernel
theorem d_W_law_20 : decode b_W_law 20 = .ok (.iconst 0, 1) := by decide +kernel
theorem d_W_law_21 : decode b_W_law 21 = .ok (.istore 4, 2) := by decide +kernel
theorem d_W_law_23 : decode b_W_law 23 = .ok (.iload 4, 2) := by decide +kernel
theorem d_W_law_25 : decode b_W_law 25 = .ok (.aload_n 0, 1) := by decide +kernel
theorem d_W_law_26 : decode b_W_law 26 = .ok (.arraylength, 1) := by decide +kernel
theorem d_W_law_27 : decode b_W_law 27 = .ok (.bipush 6, 2) := by decide +kernel
theorem d_W_law_29 : decode b_W_law 29 = .ok (.isub, 1) := by decide +kernel
theorem d_W_law_30 : decode b_W_law 30 = .ok (.if_icmp .gt 998, 3) := by decide +kernel
theorem d_W_law_33 : decode b_W_law 33 = .ok (.aload_n 0, 1) := by decide +kernel
theorem d_W_law_34 : decode b_W_law 34 = .ok (.iload 4, 2) := by decide +kernel
theorem d_W_law_36 : decode b_W_law 36 = .ok (.iaload, 1) := by decide +kernel
theorem d_W_law_37 : decode b_W_law 37 = .ok (.bipush 15, 2) := by decide +kernel
theorem d_W_law_39 : decode b_W_law 39 = .ok (.iand, 1) := by decide +kernel
theorem d_W_law_40 : decode b_W_law 40 = .ok (.tableswitch 982 0 15 #[80, 129, 209, 266, 359, 429, 498, 579, 649, 686, 724, 794, 844, 869, 894, 932], 80) := by decide +kernel
theorem d_W_law_120 : decode b_W_law 120 = .ok (.aload_n 1, 1) := by decide +kernel
theorem d_W_law_121 : decode b_W_law 121 = .ok (.aload_n 0, 1) := by decide +kernel
theorem d_W_law_122 : decode b_W_law 122 = .ok (.iload 4, 2) := by decide +kernel
theorem d_W_law_124 : decode b_W_law 124 = .ok (.iconst 1, 1) := by decide +kernel
theorem d_W_law_125 : decode b_W_law 125 = .ok (.iadd, 1) := by decide +kernel
theorem d_W_law_126 : decode b_W_law 126 = .ok (.iaload, 1) := by decide +kernel
theorem d_W_law_127 : decode b_W_law 127 = .ok (.aload_n 0, 1) := by decide +kernel
theorem d_W_law_128 : decode b_W_law 128 = .ok (.iload 4, 2) := by decide +kernel
theorem d_W_law_130 : decode b_W_law 130 = .ok (.iconst 2, 1) := by decide +kernel
theorem d_W_law_131 : decode b_W_law 131 = .ok (.iadd, 1) := by decide +kernel
theorem d_W_law_132 : decode b_W_law 132 = .ok (.iaload, 1) := by decide +kernel
theorem d_W_law_133 : decode b_W_law 133 = .ok (.aload_n 0, 1) := by decide +kernel
theorem d_W_law_134 : decode b_W_law 134 = .ok (.iload 4, 2) := by decide +kernel
theorem d_W_law_136 : decode b_W_law 136 = .ok (.iconst 3, 1) := by decide +kernel
theorem d_W_law_137 : decode b_W_law 137 = .ok (.iadd, 1) := by decide +kernel
theorem d_W_law_138 : decode b_W_law 138 = .ok (.iaload, 1) := by decide +kernel
theorem d_W_law_139 : decode b_W_law 139 = .ok (.invokevirtual 19, 3) := by decide +kernel
theorem d_W_law_142 : decode b_W_law 142 = .ok (.aload_n 2, 1) := by decide +kernel
theorem d_W_law_143 : decode b_W_law 143 = .ok (.aload_n 0, 1) := by decide +kernel
theorem d_W_law_144 : decode b_W_law 144 = .ok (.iload 4, 2) := by decide +kernel
theorem d_W_law_146 : decode b_W_law 146 = .ok (.iconst 1, 1) := by decide +kernel
theorem d_W_law_147 : decode b_W_law 147 = .ok (.iadd, 1) := by decide +kernel
theorem d_W_law_148 : decode b_W_law 148 = .ok (.iaload, 1) := by decide +kernel
theorem d_W_law_149 : decode b_W_law 149 = .ok (.aload_n 0, 1) := by decide +kernel
theorem d_W_law_150 : decode b_W_law 150 = .ok (.iload 4, 2) := by decide +kernel
theorem d_W_law_152 : decode b_W_law 152 = .ok (.iconst 2, 1) := by decide +kernel
theorem d_W_law_153 : decode b_W_law 153 = .ok (.iadd, 1) := by decide +kernel
theorem d_W_law_154 : decode b_W_law 154 = .ok (.iaload, 1) := by decide +kernel
theorem d_W_law_155 : decode b_W_law 155 = .ok (.aload_n 0, 1) := by decide +kernel
theorem d_W_law_156 : decode b_W_law 156 = .ok (.iload 4, 2) := by decide +kernel
theorem d_W_law_158 : decode b_W_law 158 = .ok (.iconst 3, 1) := by decide +kernel
theorem d_W_law_159 : decode b_W_law 159 = .ok (.iadd, 1) := by decide +kernel
theorem d_W_law_160 : decode b_W_law 160 = .ok (.iaload, 1) := by decide +kernel
theorem d_W_law_161 : decode b_W_law 161 = .ok (.invokevirtual 22, 3) := by decide +kernel
theorem d_W_law_164 : decode b_W_law 164 = .ok (.if_icmp .eq 858, 3) := by decide +kernel
theorem d_W_law_167 : decode b_W_law 167 = .ok (.iconst 0, 1) := by decide +kernel
theorem d_W_law_168 : decode b_W_law 168 = .ok (.ireturn, 1) := by decide +kernel
theorem d_W_law_169 : decode b_W_law 169 = .ok (.aload_n 1, 1) := by decide +kernel
theorem d_W_law_170 : decode b_W_law 170 = .ok (.aload_n 0, 1) := by decide +kernel
theorem d_W_law_171 : decode b_W_law 171 = .ok (.iload 4, 2) := by decide +kernel
theorem d_W_law_173 : decode b_W_law 173 = .ok (.iconst 1, 1) := by decide +kernel
theorem d_W_law_174 : decode b_W_law 174 = .ok (.iadd, 1) := by decide +kernel
theorem d_W_law_175 : decode b_W_law 175 = .ok (.iaload, 1) := by decide +kernel
theorem d_W_law_176 : decode b_W_law 176 = .ok (.aload_n 0, 1) := by decide +kernel
theorem d_W_law_177 : decode b_W_law 177 = .ok (.iload 4, 2) := by decide +kernel
