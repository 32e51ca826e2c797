/-! Decode rows. -/
theorem d_L_make_0 : decode b_L_make 0 = .ok (.aload_n 3, 1) := by decide +kernel
theorem d_L_make_1 : decode b_L_make 1 = .ok (.iconst 0, 1) := by decide +kernel
theorem d_L_make_2 : decode b_L_make 2 = .ok (.aload_n 0, 1) := by decide +kernel
theorem d_L_make_3 : decode b_L_make 3 = .ok (.iload_n 1, 1) := by decide +kernel
theorem d_L_make_4 : decode b_L_make 4 = .ok (.iload_n 2, 1) := by decide +kernel
theorem d_L_make_5 : decode b_L_make 5 = .ok (.invokevirtual 7, 3) := by decide +kernel
theorem d_L_make_8 : decode b_L_make 8 = .ok (.i2l, 1) := by decide +kernel
theorem d_L_make_9 : decode b_L_make 9 = .ok (.lastore, 1) := by decide +kernel
theorem d_L_make_10 : decode b_L_make 10 = .ok (.goto 11, 3) := by decide +kernel
theorem d_L_make_13 : decode b_L_make 13 = .ok (.astore 4, 2) := by decide +kernel
theorem d_L_make_15 : decode b_L_make 15 = .ok (.iconst 1, 1) := by decide +kernel
theorem d_L_make_16 : decode b_L_make 16 = .ok (.ireturn, 1) := by decide +kernel
theorem d_L_make_17 : decode b_L_make 17 = .ok (.astore 4, 2) := by decide +kernel
theorem d_L_make_19 : decode b_L_make 19 = .ok (.iconst 2, 1) := by decide +kernel
theorem d_L_make_20 : decode b_L_make 20 = .ok (.ireturn, 1) := by decide +kernel
theorem d_L_make_21 : decode b_L_make 21 = .ok (.iconst 0, 1) := by decide +kernel
theorem d_L_make_22 : decode b_L_make 22 = .ok (.ireturn, 1) := by decide +kernel
theorem d_L_set_0 : decode b_L_set 0 = .ok (.aload 4, 2) := by decide +kernel
theorem d_L_set_2 : decode b_L_set 2 = .ok (.iconst 0, 1) := by decide +kernel
theorem d_L_set_3 : decode b_L_set 3 = .ok (.aload_n 0, 1) := by decide +kernel
theorem d_L_set_4 : decode b_L_set 4 = .ok (.iload_n 1, 1) := by decide +kernel
theorem d_L_set_5 : decode b_L_set 5 = .ok (.iload_n 2, 1) := by decide +kernel
theorem d_L_set_6 : decode b_L_set 6 = .ok (.iload_n 3, 1) := by decide +kernel
theorem d_L_set_7 : decode b_L_set 7 = .ok (.invokevirtual 17, 3) := by decide +kernel
theorem d_L_set_10 : decode b_L_set 10 = .ok (.i2l, 1) := by decide +kernel
theorem d_L_set_11 : decode b_L_set 11 = .ok (.lastore, 1) := by decide +kernel
theorem d_L_set_12 : decode b_L_set 12 = .ok (.goto 7, 3) := by decide +kernel
theorem d_L_set_15 : decode b_L_set 15 = .ok (.astore 5, 2) := by decide +kernel
theorem d_L_set_17 : decode b_L_set 17 = .ok (.iconst 1, 1) := by decide +kernel
theorem d_L_set_18 : decode b_L_set 18 = .ok (.ireturn, 1) := by decide +kernel
theorem d_L_set_19 : decode b_L_set 19 = .ok (.iconst 0, 1) := by decide +kernel
theorem d_L_set_20 : decode b_L_set 20 = .ok (.ireturn, 1) := by decide +kernel
theorem d_L_get_0 : decode b_L_get 0 = .ok (.aload_n 3, 1) := by decide +kernel
theorem d_L_get_1 : decode b_L_get 1 = .ok (.iconst 0, 1) := by decide +kernel
theorem d_L_get_2 : decode b_L_get 2 = .ok (.aload_n 0, 1) := by decide +kernel
theorem d_L_get_3 : decode b_L_get 3 = .ok (.iload_n 1, 1) := by decide +kernel
theorem d_L_get_4 : decode b_L_get 4 = .ok (.iload_n 2, 1) := by decide +kernel
theorem d_L_get_5 : decode b_L_get 5 = .ok (.invokevirtual 23, 3) := by decide +kernel
theorem d_L_get_8 : decode b_L_get 8 = .ok (.i2l, 1) := by decide +kernel
theorem d_L_get_9 : decode b_L_get 9 = .ok (.lastore, 1) := by decide +kernel
theorem d_L_get_10 : decode b_L_get 10 = .ok (.goto 7, 3) := by decide +kernel
theorem d_L_get_13 : decode b_L_get 13 = .ok (.astore 4, 2) := by decide +kernel
theorem d_L_get_15 : decode b_L_get 15 = .ok (.iconst 1, 1) := by decide +kernel
theorem d_L_get_16 : decode b_L_get 16 = .ok (.ireturn, 1) := by decide +kernel
theorem d_L_get_17 : decode b_L_get 17 = .ok (.iconst 0, 1) := by decide +kernel
theorem d_L_get_18 : decode b_L_get 18 = .ok (.ireturn, 1) := by decide +kernel
theorem d_L_root_0 : decode b_L_root 0 = .ok (.aload_n 3, 1) := by decide +kernel
theorem d_L_root_1 : decode b_L_root 1 = .ok (.iconst 0, 1) := by decide +kernel
theorem d_L_root_2 : decode b_L_root 2 = .ok (.aload_n 0, 1) := by decide +kernel
theorem d_L_root_3 : decode b_L_root 3 = .ok (.iload_n 1, 1) := by decide +kernel
theorem d_L_root_4 : decode b_L_root 4 = .ok (.iload_n 2, 1) := by decide +kernel
theorem d_L_root_5 : decode b_L_root 5 = .ok (.invokevirtual 26, 3) := by decide +kernel
theorem d_L_root_8 : decode b_L_root 8 = .ok (.i2l, 1) := by decide +kernel
theorem d_L_root_9 : decode b_L_root 9 = .ok (.lastore, 1) := by decide +kernel
theorem d_L_root_10 : decode b_L_root 10 = .ok (.goto 7, 3) := by decide +kernel
theorem d_L_root_13 : decode b_L_root 13 = .ok (.astore 4, 2) := by decide +kernel
theorem d_L_root_15 : decode b_L_root 15 = .ok (.iconst 1, 1) := by decide +kernel
theorem d_L_root_16 : decode b_L_root 16 = .ok (.ireturn, 1) := by decide +kernel
theorem d_L_root_17 : decode b_L_root 17 = .ok (.iconst 0, 1) := by decide +kernel
theorem d_L_root_18 : decode b_L_root 18 = .ok (.ireturn, 1) := by decide +kernel
theorem d_L_queued_0 : decode b_L_queued 0 = .ok (.aload_n 2, 1) := by decide +kernel
theorem d_L_queued_1 : decode b_L_queued 1 = .ok (.iconst 0, 1) := by decide +kernel
theorem d_L_queued_2 : decode b_L_queued 2 = .ok (.aload_n 0, 1) := by decide +kernel
theorem d_L_queued_3 : decode b_L_queued 3 = .ok (.iload_n 1, 1) := by decide +kernel
theorem d_L_queued_4 : decode b_L_queued 4 = .ok (.invokevirtual 29, 3) := by decide +kernel
theorem d_L_queued_7 : decode b_L_queued 7 = .ok (.i2l, 1) := by decide +kernel
theorem d_L_queued_8 : decode b_L_queued 8 = .ok (.lastore, 1) := by decide +kernel
theorem d_L_queued_9 : decode b_L_queued 9 = .ok (.goto 6, 3) := by decide +kernel
theorem d_L_queued_12 : decode b_L_queued 12 = .ok (.astore_n 3, 1) := by decide +kernel
theorem d_L_queued_13 : decode b_L_queued 13 = .ok (.iconst 1, 1) := by decide +kernel
theorem d_L_queued_14 : decode b_L_queued 14 = .ok (.ireturn, 1) := by decide +kernel
theorem d_L_queued_15 : decode b_L_queued 15 = .ok (.iconst 0, 1) := by decide +kernel
theorem d_L_queued_16 : decode b_L_queued 16 = .ok (.ireturn, 1) := by decide +kernel
theorem d_L_identity_0 : decode b_L_identity 0 = .ok (.aload_n 2, 1) := by decide +kernel
theorem d_L_identity_1 : decode b_L_identity 1 = .ok (.iconst 0, 1) := by decide +kernel
theorem d_L_identity_2 : decode b_L_identity 2 = .ok (.aload_n 0, 1) := by decide +kernel
theorem d_L_identity_3 : decode b_L_identity 3 = .ok (.iload_n 1, 1) := by decide +kernel
theorem d_L_identity_4 : decode b_L_identity 4 = .ok (.invokevirtual 33, 3) := by decide +kernel
theorem d_L_identity_7 : decode b_L_identity 7 = .ok (.i2l, 1) := by decide +kernel
theorem d_L_identity_8 : decode b_L_identity 8 = .ok (.lastore, 1) := by decide +kernel
theorem d_L_identity_9 : decode b_L_identity 9 = .ok (.goto 6, 3) := by decide +kernel
theorem d_L_identity_12 : decode b_L_identity 12 = .ok (.astore_n 3, 1) := by decide +kernel
theorem d_L_identity_13 : decode b_L_identity 13 = .ok (.iconst 1, 1) := by decide +kernel
theorem d_L_identity_14 : decode b_L_identity 14 = .ok (.ireturn, 1) := by decide +kernel
theorem d_L_identity_15 : decode b_L_identity 15 = .ok (.iconst 0, 1) := by decide +kernel
theorem d_L_identity_16 : decode b_L_identity 16 = .ok (.ireturn, 1) := by decide +kernel
theorem d_L_about_0 : decode b_L_about 0 = .ok (.aload_n 3, 1) := by decide +kernel
theorem d_L_about_1 : decode b_L_about 1 = .ok (.iconst 0, 1) := by decide +kernel
theorem d_L_about_2 : decode b_L_about 2 = .ok (.aload_n 0, 1) := by decide +kernel
theorem d_L_about_3 : decode b_L_about 3 = .ok (.iload_n 1, 1) := by decide +kernel
theorem d_L_about_4 : decode b_L_about 4 = .ok (.iload_n 2, 1) := by decide +kernel
theorem d_L_about_5 : decode b_L_about 5 = .ok (.invokevirtual 36, 3) := by decide +kernel
theorem d_L_about_8 : decode b_L_about 8 = .ok (.i2l, 1) := by decide +kernel
theorem d_L_about_9 : decode b_L_about 9 = .ok (.lastore, 1) := by decide +kernel
theorem d_L_about_10 : decode b_L_about 10 = .ok (.goto 11, 3) := by decide +kernel
theorem d_L_about_13 : decode b_L_about 13 = .ok (.astore 4, 2) := by decide +kernel
theorem d_L_about_15 : decode b_L_about 15 = .ok (.iconst 1, 1) := by decide +kernel
theorem d_L_about_16 : decode b_L_about 16 = .ok (.ireturn, 1) := by decide +kernel
theorem d_L_about_17 : decode b_L_about 17 = .ok (.astore 4, 2) := by decide +kernel
theorem d_L_about_19 : decode b_L_about 19 = .ok (.iconst 2, 1) := by decide +kernel
theorem d_L_about_20 : decode b_L_about 20 = .ok (.ireturn, 1) := by decide +kernel
theorem d_L_about_21 : decode b_L_about 21 = .ok (.iconst 0, 1) := by decide +kernel
theorem d_L_about_22 : decode b_L_about 22 = .ok (.ireturn, 1) := by decide +kernel
theorem d_L_count_0 : decode b_L_count 0 = .ok (.aload_n 2, 1) := by decide +kernel
theorem d_L_count_1 : decode b_L_count 1 = .ok (.iconst 0, 1) := by decide +kernel
theorem d_L_count_2 : decode b_L_count 2 = .ok (.aload_n 0, 1) := by decide +kernel
theorem d_L_count_3 : decode b_L_count 3 = .ok (.iload_n 1, 1) := by decide +kernel
theorem d_L_count_4 : decode b_L_count 4 = .ok (.invokevirtual 39, 3) := by decide +kernel
theorem d_L_count_7 : decode b_L_count 7 = .ok (.i2l, 1) := by decide +kernel
theorem d_L_count_8 : decode b_L_count 8 = .ok (.lastore, 1) := by decide +kernel
theorem d_L_count_9 : decode b_L_count 9 = .ok (.goto 6, 3) := by decide +kernel
theorem d_L_count_12 : decode b_L_count 12 = .ok (.astore_n 3, 1) := by decide +kernel
theorem d_L_count_13 : decode b_L_count 13 = .ok (.iconst 1, 1) := by decide +kernel
theorem d_L_count_14 : decode b_L_count 14 = .ok (.ireturn, 1) := by decide +kernel
theorem d_L_count_15 : decode b_L_count 15 = .ok (.iconst 0, 1) := by decide +kernel
theorem d_L_count_16 : decode b_L_count 16 = .ok (.ireturn, 1) := by decide +kernel
theorem d_L_law_0 : decode b_L_law 0 = .ok (.new 8, 3) := by decide +kernel
theorem d_L_law_3 : decode b_L_law 3 = .ok (.dup, 1) := by decide +kernel
theorem d_L_law_4 : decode b_L_law 4 = .ok (.invokespecial 42, 3) := by decide +kernel
theorem d_L_law_7 : decode b_L_law 7 = .ok (.astore_n 1, 1) := by decide +kernel
theorem d_L_law_8 : decode b_L_law 8 = .ok (.new 43, 3) := by decide +kernel
theorem d_L_law_11 : decode b_L_law 11 = .ok (.dup, 1) := by decide +kernel
theorem d_L_law_12 : decode b_L_law 12 = .ok (.invokespecial 45, 3) := by decide +kernel
theorem d_L_law_15 : decode b_L_law 15 = .ok (.astore_n 2, 1) := by decide +kernel
theorem d_L_law_16 : decode b_L_law 16 = .ok (.iconst 1, 1) := by decide +kernel
theorem d_L_law_17 : decode b_L_law 17 = .ok (.newarray .long, 2) := by decide +kernel
theorem d_L_law_19 : decode b_L_law 19 = .ok (.astore_n 3, 1) := by decide +kernel
theorem d_L_law_20 : decode b_L_law 20 = .ok (.iconst 0, 1) := by decide +kernel
theorem d_L_law_21 : decode b_L_law 21 = .ok (.istore 4, 2) := by decide +kernel
theorem d_L_law_23 : decode b_L_law 23 = .ok (.iload 4, 2) := by decide +kernel
theorem d_L_law_25 : decode b_L_law 25 = .ok (.aload_n 0, 1) := by decide +kernel
theorem d_L_law_26 : decode b_L_law 26 = .ok (.arraylength, 1) := by decide +kernel
theorem d_L_law_27 : decode b_L_law 27 = .ok (.iconst 4, 1) := by decide +kernel
theorem d_L_law_28 : decode b_L_law 28 = .ok (.isub, 1) := by decide +kernel
theorem d_L_law_29 : decode b_L_law 29 = .ok (.if_icmp .gt 632, 3) := by decide +kernel
theorem d_L_law_32 : decode b_L_law 32 = .ok (.aload_n 0, 1) := by decide +kernel
theorem d_L_law_33 : decode b_L_law 33 = .ok (.iload 4, 2) := by decide +kernel
theorem d_L_law_35 : decode b_L_law 35 = .ok (.iaload, 1) := by decide +kernel
theorem d_L_law_36 : decode b_L_law 36 = .ok (.bipush 15, 2) := by decide +kernel
theorem d_L_law_38 : decode b_L_law 38 = .ok (.iand, 1) := by decide +kernel
theorem d_L_law_39 : decode b_L_law 39 = .ok (.tableswitch 616 0 10 #[57, 125, 205, 273, 341, 354, 367, 423, 436, 492, 560], 57) := by decide +kernel
theorem d_L_law_96 : decode b_L_law 96 = .ok (.aload_n 1, 1) := by decide +kernel
theorem d_L_law_97 : decode b_L_law 97 = .ok (.aload_n 0, 1) := by decide +kernel
theorem d_L_law_98 : decode b_L_law 98 = .ok (.iload 4, 2) := by decide +kernel
theorem d_L_law_100 : decode b_L_law 100 = .ok (.iconst 1, 1) := by decide +kernel
theorem d_L_law_101 : decode b_L_law 101 = .ok (.iadd, 1) := by decide +kernel
theorem d_L_law_102 : decode b_L_law 102 = .ok (.iaload, 1) := by decide +kernel
theorem d_L_law_103 : decode b_L_law 103 = .ok (.aload_n 0, 1) := by decide +kernel
theorem d_L_law_104 : decode b_L_law 104 = .ok (.iload 4, 2) := by decide +kernel
theorem d_L_law_106 : decode b_L_law 106 = .ok (.iconst 2, 1) := by decide +kernel
theorem d_L_law_107 : decode b_L_law 107 = .ok (.iadd, 1) := by decide +kernel
theorem d_L_law_108 : decode b_L_law 108 = .ok (.iaload, 1) := by decide +kernel
theorem d_L_law_109 : decode b_L_law 109 = .ok (.aload_n 3, 1) := by decide +kernel
theorem d_L_law_110 : decode b_L_law 110 = .ok (.invokestatic 46, 3) := by decide +kernel
theorem d_L_law_113 : decode b_L_law 113 = .ok (.istore 5, 2) := by decide +kernel
theorem d_L_law_115 : decode b_L_law 115 = .ok (.aload_n 2, 1) := by decide +kernel
theorem d_L_law_116 : decode b_L_law 116 = .ok (.aload_n 0, 1) := by decide +kernel
theorem d_L_law_117 : decode b_L_law 117 = .ok (.iload 4, 2) := by decide +kernel
theorem d_L_law_119 : decode b_L_law 119 = .ok (.iconst 1, 1) := by decide +kernel
theorem d_L_law_120 : decode b_L_law 120 = .ok (.iadd, 1) := by decide +kernel
theorem d_L_law_121 : decode b_L_law 121 = .ok (.iaload, 1) := by decide +kernel
theorem d_L_law_122 : decode b_L_law 122 = .ok (.aload_n 0, 1) := by decide +kernel
theorem d_L_law_123 : decode b_L_law 123 = .ok (.iload 4, 2) := by decide +kernel
theorem d_L_law_125 : decode b_L_law 125 = .ok (.iconst 2, 1) := by decide +kernel
theorem d_L_law_126 : decode b_L_law 126 = .ok (.iadd, 1) := by decide +kernel
theorem d_L_law_127 : decode b_L_law 127 = .ok (.iaload, 1) := by decide +kernel
theorem d_L_law_128 : decode b_L_law 128 = .ok (.invokevirtual 51, 3) := by decide +kernel
theorem d_L_law_131 : decode b_L_law 131 = .ok (.istore 6, 2) := by decide +kernel
theorem d_L_law_133 : decode b_L_law 133 = .ok (.aload_n 2, 1) := by decide +kernel
theorem d_L_law_134 : decode b_L_law 134 = .ok (.invokevirtual 52, 3) := by decide +kernel
theorem d_L_law_137 : decode b_L_law 137 = .ok (.iload 5, 2) := by decide +kernel
theorem d_L_law_139 : decode b_L_law 139 = .ok (.if_icmp .eq 5, 3) := by decide +kernel
theorem d_L_law_142 : decode b_L_law 142 = .ok (.iconst 0, 1) := by decide +kernel
theorem d_L_law_143 : decode b_L_law 143 = .ok (.ireturn, 1) := by decide +kernel
theorem d_L_law_144 : decode b_L_law 144 = .ok (.iload 5, 2) := by decide +kernel
theorem d_L_law_146 : decode b_L_law 146 = .ok (.ifCond .ne 15, 3) := by decide +kernel
theorem d_L_law_149 : decode b_L_law 149 = .ok (.aload_n 3, 1) := by decide +kernel
theorem d_L_law_150 : decode b_L_law 150 = .ok (.iconst 0, 1) := by decide +kernel
theorem d_L_law_151 : decode b_L_law 151 = .ok (.laload, 1) := by decide +kernel
theorem d_L_law_152 : decode b_L_law 152 = .ok (.iload 6, 2) := by decide +kernel
theorem d_L_law_154 : decode b_L_law 154 = .ok (.i2l, 1) := by decide +kernel
theorem d_L_law_155 : decode b_L_law 155 = .ok (.lcmp, 1) := by decide +kernel
theorem d_L_law_156 : decode b_L_law 156 = .ok (.ifCond .eq 5, 3) := by decide +kernel
theorem d_L_law_159 : decode b_L_law 159 = .ok (.iconst 0, 1) := by decide +kernel
theorem d_L_law_160 : decode b_L_law 160 = .ok (.ireturn, 1) := by decide +kernel
theorem d_L_law_161 : decode b_L_law 161 = .ok (.goto 494, 3) := by decide +kernel
theorem d_L_law_164 : decode b_L_law 164 = .ok (.aload_n 1, 1) := by decide +kernel
theorem d_L_law_165 : decode b_L_law 165 = .ok (.aload_n 0, 1) := by decide +kernel
theorem d_L_law_166 : decode b_L_law 166 = .ok (.iload 4, 2) := by decide +kernel
theorem d_L_law_168 : decode b_L_law 168 = .ok (.iconst 1, 1) := by decide +kernel
theorem d_L_law_169 : decode b_L_law 169 = .ok (.iadd, 1) := by decide +kernel
theorem d_L_law_170 : decode b_L_law 170 = .ok (.iaload, 1) := by decide +kernel
theorem d_L_law_171 : decode b_L_law 171 = .ok (.aload_n 0, 1) := by decide +kernel
theorem d_L_law_172 : decode b_L_law 172 = .ok (.iload 4, 2) := by decide +kernel
theorem d_L_law_174 : decode b_L_law 174 = .ok (.iconst 2, 1) := by decide +kernel
theorem d_L_law_175 : decode b_L_law 175 = .ok (.iadd, 1) := by decide +kernel
theorem d_L_law_176 : decode b_L_law 176 = .ok (.iaload, 1) := by decide +kernel
theorem d_L_law_177 : decode b_L_law 177 = .ok (.aload_n 0, 1) := by decide +kernel
theorem d_L_law_178 : decode b_L_law 178 = .ok (.iload 4, 2) := by decide +kernel
theorem d_L_law_180 : decode b_L_law 180 = .ok (.iconst 3, 1) := by decide +kernel
theorem d_L_law_181 : decode b_L_law 181 = .ok (.iadd, 1) := by decide +kernel
theorem d_L_law_182 : decode b_L_law 182 = .ok (.iaload, 1) := by decide +kernel
theorem d_L_law_183 : decode b_L_law 183 = .ok (.aload_n 3, 1) := by decide +kernel
theorem d_L_law_184 : decode b_L_law 184 = .ok (.invokestatic 56, 3) := by decide +kernel
theorem d_L_law_187 : decode b_L_law 187 = .ok (.istore 5, 2) := by decide +kernel
theorem d_L_law_189 : decode b_L_law 189 = .ok (.aload_n 2, 1) := by decide +kernel
theorem d_L_law_190 : decode b_L_law 190 = .ok (.aload_n 0, 1) := by decide +kernel
theorem d_L_law_191 : decode b_L_law 191 = .ok (.iload 4, 2) := by decide +kernel
theorem d_L_law_193 : decode b_L_law 193 = .ok (.iconst 1, 1) := by decide +kernel
theorem d_L_law_194 : decode b_L_law 194 = .ok (.iadd, 1) := by decide +kernel
theorem d_L_law_195 : decode b_L_law 195 = .ok (.iaload, 1) := by decide +kernel
theorem d_L_law_196 : decode b_L_law 196 = .ok (.aload_n 0, 1) := by decide +kernel
theorem d_L_law_197 : decode b_L_law 197 = .ok (.iload 4, 2) := by decide +kernel
theorem d_L_law_199 : decode b_L_law 199 = .ok (.iconst 2, 1) := by decide +kernel
theorem d_L_law_200 : decode b_L_law 200 = .ok (.iadd, 1) := by decide +kernel
theorem d_L_law_201 : decode b_L_law 201 = .ok (.iaload, 1) := by decide +kernel
theorem d_L_law_202 : decode b_L_law 202 = .ok (.aload_n 0, 1) := by decide +kernel
theorem d_L_law_203 : decode b_L_law 203 = .ok (.iload 4, 2) := by decide +kernel
theorem d_L_law_205 : decode b_L_law 205 = .ok (.iconst 3, 1) := by decide +kernel
theorem d_L_law_206 : decode b_L_law 206 = .ok (.iadd, 1) := by decide +kernel
theorem d_L_law_207 : decode b_L_law 207 = .ok (.iaload, 1) := by decide +kernel
theorem d_L_law_208 : decode b_L_law 208 = .ok (.invokevirtual 59, 3) := by decide +kernel
theorem d_L_law_211 : decode b_L_law 211 = .ok (.istore 6, 2) := by decide +kernel
theorem d_L_law_213 : decode b_L_law 213 = .ok (.aload_n 2, 1) := by decide +kernel
theorem d_L_law_214 : decode b_L_law 214 = .ok (.invokevirtual 52, 3) := by decide +kernel
theorem d_L_law_217 : decode b_L_law 217 = .ok (.iload 5, 2) := by decide +kernel
theorem d_L_law_219 : decode b_L_law 219 = .ok (.if_icmp .eq 5, 3) := by decide +kernel
theorem d_L_law_222 : decode b_L_law 222 = .ok (.iconst 0, 1) := by decide +kernel
theorem d_L_law_223 : decode b_L_law 223 = .ok (.ireturn, 1) := by decide +kernel
theorem d_L_law_224 : decode b_L_law 224 = .ok (.iload 5, 2) := by decide +kernel
theorem d_L_law_226 : decode b_L_law 226 = .ok (.ifCond .ne 15, 3) := by decide +kernel
theorem d_L_law_229 : decode b_L_law 229 = .ok (.aload_n 3, 1) := by decide +kernel
theorem d_L_law_230 : decode b_L_law 230 = .ok (.iconst 0, 1) := by decide +kernel
theorem d_L_law_231 : decode b_L_law 231 = .ok (.laload, 1) := by decide +kernel
theorem d_L_law_232 : decode b_L_law 232 = .ok (.iload 6, 2) := by decide +kernel
theorem d_L_law_234 : decode b_L_law 234 = .ok (.i2l, 1) := by decide +kernel
theorem d_L_law_235 : decode b_L_law 235 = .ok (.lcmp, 1) := by decide +kernel
theorem d_L_law_236 : decode b_L_law 236 = .ok (.ifCond .eq 5, 3) := by decide +kernel
theorem d_L_law_239 : decode b_L_law 239 = .ok (.iconst 0, 1) := by decide +kernel
theorem d_L_law_240 : decode b_L_law 240 = .ok (.ireturn, 1) := by decide +kernel
theorem d_L_law_241 : decode b_L_law 241 = .ok (.goto 414, 3) := by decide +kernel
theorem d_L_law_244 : decode b_L_law 244 = .ok (.aload_n 1, 1) := by decide +kernel
theorem d_L_law_245 : decode b_L_law 245 = .ok (.aload_n 0, 1) := by decide +kernel
theorem d_L_law_246 : decode b_L_law 246 = .ok (.iload 4, 2) := by decide +kernel
theorem d_L_law_248 : decode b_L_law 248 = .ok (.iconst 1, 1) := by decide +kernel
theorem d_L_law_249 : decode b_L_law 249 = .ok (.iadd, 1) := by decide +kernel
theorem d_L_law_250 : decode b_L_law 250 = .ok (.iaload, 1) := by decide +kernel
theorem d_L_law_251 : decode b_L_law 251 = .ok (.aload_n 0, 1) := by decide +kernel
theorem d_L_law_252 : decode b_L_law 252 = .ok (.iload 4, 2) := by decide +kernel
theorem d_L_law_254 : decode b_L_law 254 = .ok (.iconst 2, 1) := by decide +kernel
theorem d_L_law_255 : decode b_L_law 255 = .ok (.iadd, 1) := by decide +kernel
theorem d_L_law_256 : decode b_L_law 256 = .ok (.iaload, 1) := by decide +kernel
theorem d_L_law_257 : decode b_L_law 257 = .ok (.aload_n 3, 1) := by decide +kernel
theorem d_L_law_258 : decode b_L_law 258 = .ok (.invokestatic 60, 3) := by decide +kernel
theorem d_L_law_261 : decode b_L_law 261 = .ok (.istore 5, 2) := by decide +kernel
theorem d_L_law_263 : decode b_L_law 263 = .ok (.aload_n 2, 1) := by decide +kernel
theorem d_L_law_264 : decode b_L_law 264 = .ok (.aload_n 0, 1) := by decide +kernel
theorem d_L_law_265 : decode b_L_law 265 = .ok (.iload 4, 2) := by decide +kernel
theorem d_L_law_267 : decode b_L_law 267 = .ok (.iconst 1, 1) := by decide +kernel
theorem d_L_law_268 : decode b_L_law 268 = .ok (.iadd, 1) := by decide +kernel
theorem d_L_law_269 : decode b_L_law 269 = .ok (.iaload, 1) := by decide +kernel
theorem d_L_law_270 : decode b_L_law 270 = .ok (.aload_n 0, 1) := by decide +kernel
theorem d_L_law_271 : decode b_L_law 271 = .ok (.iload 4, 2) := by decide +kernel
theorem d_L_law_273 : decode b_L_law 273 = .ok (.iconst 2, 1) := by decide +kernel
theorem d_L_law_274 : decode b_L_law 274 = .ok (.iadd, 1) := by decide +kernel
theorem d_L_law_275 : decode b_L_law 275 = .ok (.iaload, 1) := by decide +kernel
theorem d_L_law_276 : decode b_L_law 276 = .ok (.invokevirtual 62, 3) := by decide +kernel
theorem d_L_law_279 : decode b_L_law 279 = .ok (.istore 6, 2) := by decide +kernel
theorem d_L_law_281 : decode b_L_law 281 = .ok (.aload_n 2, 1) := by decide +kernel
theorem d_L_law_282 : decode b_L_law 282 = .ok (.invokevirtual 52, 3) := by decide +kernel
theorem d_L_law_285 : decode b_L_law 285 = .ok (.iload 5, 2) := by decide +kernel
theorem d_L_law_287 : decode b_L_law 287 = .ok (.if_icmp .eq 5, 3) := by decide +kernel
theorem d_L_law_290 : decode b_L_law 290 = .ok (.iconst 0, 1) := by decide +kernel
theorem d_L_law_291 : decode b_L_law 291 = .ok (.ireturn, 1) := by decide +kernel
theorem d_L_law_292 : decode b_L_law 292 = .ok (.iload 5, 2) := by decide +kernel
theorem d_L_law_294 : decode b_L_law 294 = .ok (.ifCond .ne 15, 3) := by decide +kernel
theorem d_L_law_297 : decode b_L_law 297 = .ok (.aload_n 3, 1) := by decide +kernel
theorem d_L_law_298 : decode b_L_law 298 = .ok (.iconst 0, 1) := by decide +kernel
theorem d_L_law_299 : decode b_L_law 299 = .ok (.laload, 1) := by decide +kernel
theorem d_L_law_300 : decode b_L_law 300 = .ok (.iload 6, 2) := by decide +kernel
theorem d_L_law_302 : decode b_L_law 302 = .ok (.i2l, 1) := by decide +kernel
theorem d_L_law_303 : decode b_L_law 303 = .ok (.lcmp, 1) := by decide +kernel
theorem d_L_law_304 : decode b_L_law 304 = .ok (.ifCond .eq 5, 3) := by decide +kernel
theorem d_L_law_307 : decode b_L_law 307 = .ok (.iconst 0, 1) := by decide +kernel
theorem d_L_law_308 : decode b_L_law 308 = .ok (.ireturn, 1) := by decide +kernel
theorem d_L_law_309 : decode b_L_law 309 = .ok (.goto 346, 3) := by decide +kernel
theorem d_L_law_312 : decode b_L_law 312 = .ok (.aload_n 1, 1) := by decide +kernel
theorem d_L_law_313 : decode b_L_law 313 = .ok (.aload_n 0, 1) := by decide +kernel
theorem d_L_law_314 : decode b_L_law 314 = .ok (.iload 4, 2) := by decide +kernel
theorem d_L_law_316 : decode b_L_law 316 = .ok (.iconst 1, 1) := by decide +kernel
theorem d_L_law_317 : decode b_L_law 317 = .ok (.iadd, 1) := by decide +kernel
theorem d_L_law_318 : decode b_L_law 318 = .ok (.iaload, 1) := by decide +kernel
theorem d_L_law_319 : decode b_L_law 319 = .ok (.aload_n 0, 1) := by decide +kernel
theorem d_L_law_320 : decode b_L_law 320 = .ok (.iload 4, 2) := by decide +kernel
theorem d_L_law_322 : decode b_L_law 322 = .ok (.iconst 2, 1) := by decide +kernel
theorem d_L_law_323 : decode b_L_law 323 = .ok (.iadd, 1) := by decide +kernel
theorem d_L_law_324 : decode b_L_law 324 = .ok (.iaload, 1) := by decide +kernel
theorem d_L_law_325 : decode b_L_law 325 = .ok (.aload_n 3, 1) := by decide +kernel
theorem d_L_law_326 : decode b_L_law 326 = .ok (.invokestatic 63, 3) := by decide +kernel
theorem d_L_law_329 : decode b_L_law 329 = .ok (.istore 5, 2) := by decide +kernel
theorem d_L_law_331 : decode b_L_law 331 = .ok (.aload_n 2, 1) := by decide +kernel
theorem d_L_law_332 : decode b_L_law 332 = .ok (.aload_n 0, 1) := by decide +kernel
theorem d_L_law_333 : decode b_L_law 333 = .ok (.iload 4, 2) := by decide +kernel
theorem d_L_law_335 : decode b_L_law 335 = .ok (.iconst 1, 1) := by decide +kernel
theorem d_L_law_336 : decode b_L_law 336 = .ok (.iadd, 1) := by decide +kernel
theorem d_L_law_337 : decode b_L_law 337 = .ok (.iaload, 1) := by decide +kernel
theorem d_L_law_338 : decode b_L_law 338 = .ok (.aload_n 0, 1) := by decide +kernel
theorem d_L_law_339 : decode b_L_law 339 = .ok (.iload 4, 2) := by decide +kernel
theorem d_L_law_341 : decode b_L_law 341 = .ok (.iconst 2, 1) := by decide +kernel
theorem d_L_law_342 : decode b_L_law 342 = .ok (.iadd, 1) := by decide +kernel
theorem d_L_law_343 : decode b_L_law 343 = .ok (.iaload, 1) := by decide +kernel
theorem d_L_law_344 : decode b_L_law 344 = .ok (.invokevirtual 65, 3) := by decide +kernel
theorem d_L_law_347 : decode b_L_law 347 = .ok (.istore 6, 2) := by decide +kernel
theorem d_L_law_349 : decode b_L_law 349 = .ok (.aload_n 2, 1) := by decide +kernel
theorem d_L_law_350 : decode b_L_law 350 = .ok (.invokevirtual 52, 3) := by decide +kernel
theorem d_L_law_353 : decode b_L_law 353 = .ok (.iload 5, 2) := by decide +kernel
theorem d_L_law_355 : decode b_L_law 355 = .ok (.if_icmp .eq 5, 3) := by decide +kernel
theorem d_L_law_358 : decode b_L_law 358 = .ok (.iconst 0, 1) := by decide +kernel
theorem d_L_law_359 : decode b_L_law 359 = .ok (.ireturn, 1) := by decide +kernel
theorem d_L_law_360 : decode b_L_law 360 = .ok (.iload 5, 2) := by decide +kernel
theorem d_L_law_362 : decode b_L_law 362 = .ok (.ifCond .ne 15, 3) := by decide +kernel
theorem d_L_law_365 : decode b_L_law 365 = .ok (.aload_n 3, 1) := by decide +kernel
theorem d_L_law_366 : decode b_L_law 366 = .ok (.iconst 0, 1) := by decide +kernel
theorem d_L_law_367 : decode b_L_law 367 = .ok (.laload, 1) := by decide +kernel
theorem d_L_law_368 : decode b_L_law 368 = .ok (.iload 6, 2) := by decide +kernel
theorem d_L_law_370 : decode b_L_law 370 = .ok (.i2l, 1) := by decide +kernel
theorem d_L_law_371 : decode b_L_law 371 = .ok (.lcmp, 1) := by decide +kernel
theorem d_L_law_372 : decode b_L_law 372 = .ok (.ifCond .eq 5, 3) := by decide +kernel
theorem d_L_law_375 : decode b_L_law 375 = .ok (.iconst 0, 1) := by decide +kernel
theorem d_L_law_376 : decode b_L_law 376 = .ok (.ireturn, 1) := by decide +kernel
theorem d_L_law_377 : decode b_L_law 377 = .ok (.goto 278, 3) := by decide +kernel
theorem d_L_law_380 : decode b_L_law 380 = .ok (.aload_n 1, 1) := by decide +kernel
theorem d_L_law_381 : decode b_L_law 381 = .ok (.invokevirtual 66, 3) := by decide +kernel
theorem d_L_law_384 : decode b_L_law 384 = .ok (.aload_n 2, 1) := by decide +kernel
theorem d_L_law_385 : decode b_L_law 385 = .ok (.invokevirtual 69, 3) := by decide +kernel
theorem d_L_law_388 : decode b_L_law 388 = .ok (.if_icmp .eq 267, 3) := by decide +kernel
theorem d_L_law_391 : decode b_L_law 391 = .ok (.iconst 0, 1) := by decide +kernel
theorem d_L_law_392 : decode b_L_law 392 = .ok (.ireturn, 1) := by decide +kernel
theorem d_L_law_393 : decode b_L_law 393 = .ok (.aload_n 1, 1) := by decide +kernel
theorem d_L_law_394 : decode b_L_law 394 = .ok (.invokevirtual 70, 3) := by decide +kernel
theorem d_L_law_397 : decode b_L_law 397 = .ok (.aload_n 2, 1) := by decide +kernel
theorem d_L_law_398 : decode b_L_law 398 = .ok (.invokevirtual 73, 3) := by decide +kernel
theorem d_L_law_401 : decode b_L_law 401 = .ok (.if_icmp .eq 254, 3) := by decide +kernel
theorem d_L_law_404 : decode b_L_law 404 = .ok (.iconst 0, 1) := by decide +kernel
theorem d_L_law_405 : decode b_L_law 405 = .ok (.ireturn, 1) := by decide +kernel
theorem d_L_law_406 : decode b_L_law 406 = .ok (.aload_n 1, 1) := by decide +kernel
theorem d_L_law_407 : decode b_L_law 407 = .ok (.aload_n 0, 1) := by decide +kernel
theorem d_L_law_408 : decode b_L_law 408 = .ok (.iload 4, 2) := by decide +kernel
theorem d_L_law_410 : decode b_L_law 410 = .ok (.iconst 1, 1) := by decide +kernel
theorem d_L_law_411 : decode b_L_law 411 = .ok (.iadd, 1) := by decide +kernel
theorem d_L_law_412 : decode b_L_law 412 = .ok (.iaload, 1) := by decide +kernel
theorem d_L_law_413 : decode b_L_law 413 = .ok (.aload_n 3, 1) := by decide +kernel
theorem d_L_law_414 : decode b_L_law 414 = .ok (.invokestatic 74, 3) := by decide +kernel
theorem d_L_law_417 : decode b_L_law 417 = .ok (.istore 5, 2) := by decide +kernel
theorem d_L_law_419 : decode b_L_law 419 = .ok (.aload_n 2, 1) := by decide +kernel
theorem d_L_law_420 : decode b_L_law 420 = .ok (.aload_n 0, 1) := by decide +kernel
theorem d_L_law_421 : decode b_L_law 421 = .ok (.iload 4, 2) := by decide +kernel
theorem d_L_law_423 : decode b_L_law 423 = .ok (.iconst 1, 1) := by decide +kernel
theorem d_L_law_424 : decode b_L_law 424 = .ok (.iadd, 1) := by decide +kernel
theorem d_L_law_425 : decode b_L_law 425 = .ok (.iaload, 1) := by decide +kernel
theorem d_L_law_426 : decode b_L_law 426 = .ok (.invokevirtual 77, 3) := by decide +kernel
theorem d_L_law_429 : decode b_L_law 429 = .ok (.istore 6, 2) := by decide +kernel
theorem d_L_law_431 : decode b_L_law 431 = .ok (.aload_n 2, 1) := by decide +kernel
theorem d_L_law_432 : decode b_L_law 432 = .ok (.invokevirtual 52, 3) := by decide +kernel
theorem d_L_law_435 : decode b_L_law 435 = .ok (.iload 5, 2) := by decide +kernel
theorem d_L_law_437 : decode b_L_law 437 = .ok (.if_icmp .eq 5, 3) := by decide +kernel
theorem d_L_law_440 : decode b_L_law 440 = .ok (.iconst 0, 1) := by decide +kernel
theorem d_L_law_441 : decode b_L_law 441 = .ok (.ireturn, 1) := by decide +kernel
theorem d_L_law_442 : decode b_L_law 442 = .ok (.iload 5, 2) := by decide +kernel
theorem d_L_law_444 : decode b_L_law 444 = .ok (.ifCond .ne 15, 3) := by decide +kernel
theorem d_L_law_447 : decode b_L_law 447 = .ok (.aload_n 3, 1) := by decide +kernel
theorem d_L_law_448 : decode b_L_law 448 = .ok (.iconst 0, 1) := by decide +kernel
theorem d_L_law_449 : decode b_L_law 449 = .ok (.laload, 1) := by decide +kernel
theorem d_L_law_450 : decode b_L_law 450 = .ok (.iload 6, 2) := by decide +kernel
theorem d_L_law_452 : decode b_L_law 452 = .ok (.i2l, 1) := by decide +kernel
theorem d_L_law_453 : decode b_L_law 453 = .ok (.lcmp, 1) := by decide +kernel
theorem d_L_law_454 : decode b_L_law 454 = .ok (.ifCond .eq 5, 3) := by decide +kernel
theorem d_L_law_457 : decode b_L_law 457 = .ok (.iconst 0, 1) := by decide +kernel
theorem d_L_law_458 : decode b_L_law 458 = .ok (.ireturn, 1) := by decide +kernel
theorem d_L_law_459 : decode b_L_law 459 = .ok (.goto 196, 3) := by decide +kernel
theorem d_L_law_462 : decode b_L_law 462 = .ok (.aload_n 1, 1) := by decide +kernel
theorem d_L_law_463 : decode b_L_law 463 = .ok (.invokevirtual 78, 3) := by decide +kernel
theorem d_L_law_466 : decode b_L_law 466 = .ok (.aload_n 2, 1) := by decide +kernel
theorem d_L_law_467 : decode b_L_law 467 = .ok (.invokevirtual 81, 3) := by decide +kernel
theorem d_L_law_470 : decode b_L_law 470 = .ok (.if_icmp .eq 185, 3) := by decide +kernel
theorem d_L_law_473 : decode b_L_law 473 = .ok (.iconst 0, 1) := by decide +kernel
theorem d_L_law_474 : decode b_L_law 474 = .ok (.ireturn, 1) := by decide +kernel
theorem d_L_law_475 : decode b_L_law 475 = .ok (.aload_n 1, 1) := by decide +kernel
theorem d_L_law_476 : decode b_L_law 476 = .ok (.aload_n 0, 1) := by decide +kernel
theorem d_L_law_477 : decode b_L_law 477 = .ok (.iload 4, 2) := by decide +kernel
theorem d_L_law_479 : decode b_L_law 479 = .ok (.iconst 1, 1) := by decide +kernel
theorem d_L_law_480 : decode b_L_law 480 = .ok (.iadd, 1) := by decide +kernel
theorem d_L_law_481 : decode b_L_law 481 = .ok (.iaload, 1) := by decide +kernel
theorem d_L_law_482 : decode b_L_law 482 = .ok (.aload_n 3, 1) := by decide +kernel
theorem d_L_law_483 : decode b_L_law 483 = .ok (.invokestatic 82, 3) := by decide +kernel
theorem d_L_law_486 : decode b_L_law 486 = .ok (.istore 5, 2) := by decide +kernel
theorem d_L_law_488 : decode b_L_law 488 = .ok (.aload_n 2, 1) := by decide +kernel
theorem d_L_law_489 : decode b_L_law 489 = .ok (.aload_n 0, 1) := by decide +kernel
theorem d_L_law_490 : decode b_L_law 490 = .ok (.iload 4, 2) := by decide +kernel
theorem d_L_law_492 : decode b_L_law 492 = .ok (.iconst 1, 1) := by decide +kernel
theorem d_L_law_493 : decode b_L_law 493 = .ok (.iadd, 1) := by decide +kernel
theorem d_L_law_494 : decode b_L_law 494 = .ok (.iaload, 1) := by decide +kernel
theorem d_L_law_495 : decode b_L_law 495 = .ok (.invokevirtual 84, 3) := by decide +kernel
theorem d_L_law_498 : decode b_L_law 498 = .ok (.istore 6, 2) := by decide +kernel
theorem d_L_law_500 : decode b_L_law 500 = .ok (.aload_n 2, 1) := by decide +kernel
theorem d_L_law_501 : decode b_L_law 501 = .ok (.invokevirtual 52, 3) := by decide +kernel
theorem d_L_law_504 : decode b_L_law 504 = .ok (.iload 5, 2) := by decide +kernel
theorem d_L_law_506 : decode b_L_law 506 = .ok (.if_icmp .eq 5, 3) := by decide +kernel
theorem d_L_law_509 : decode b_L_law 509 = .ok (.iconst 0, 1) := by decide +kernel
theorem d_L_law_510 : decode b_L_law 510 = .ok (.ireturn, 1) := by decide +kernel
theorem d_L_law_511 : decode b_L_law 511 = .ok (.iload 5, 2) := by decide +kernel
theorem d_L_law_513 : decode b_L_law 513 = .ok (.ifCond .ne 15, 3) := by decide +kernel
theorem d_L_law_516 : decode b_L_law 516 = .ok (.aload_n 3, 1) := by decide +kernel
theorem d_L_law_517 : decode b_L_law 517 = .ok (.iconst 0, 1) := by decide +kernel
theorem d_L_law_518 : decode b_L_law 518 = .ok (.laload, 1) := by decide +kernel
theorem d_L_law_519 : decode b_L_law 519 = .ok (.iload 6, 2) := by decide +kernel
theorem d_L_law_521 : decode b_L_law 521 = .ok (.i2l, 1) := by decide +kernel
theorem d_L_law_522 : decode b_L_law 522 = .ok (.lcmp, 1) := by decide +kernel
theorem d_L_law_523 : decode b_L_law 523 = .ok (.ifCond .eq 5, 3) := by decide +kernel
theorem d_L_law_526 : decode b_L_law 526 = .ok (.iconst 0, 1) := by decide +kernel
theorem d_L_law_527 : decode b_L_law 527 = .ok (.ireturn, 1) := by decide +kernel
theorem d_L_law_528 : decode b_L_law 528 = .ok (.goto 127, 3) := by decide +kernel
theorem d_L_law_531 : decode b_L_law 531 = .ok (.aload_n 1, 1) := by decide +kernel
theorem d_L_law_532 : decode b_L_law 532 = .ok (.aload_n 0, 1) := by decide +kernel
theorem d_L_law_533 : decode b_L_law 533 = .ok (.iload 4, 2) := by decide +kernel
theorem d_L_law_535 : decode b_L_law 535 = .ok (.iconst 1, 1) := by decide +kernel
theorem d_L_law_536 : decode b_L_law 536 = .ok (.iadd, 1) := by decide +kernel
theorem d_L_law_537 : decode b_L_law 537 = .ok (.iaload, 1) := by decide +kernel
theorem d_L_law_538 : decode b_L_law 538 = .ok (.aload_n 0, 1) := by decide +kernel
theorem d_L_law_539 : decode b_L_law 539 = .ok (.iload 4, 2) := by decide +kernel
theorem d_L_law_541 : decode b_L_law 541 = .ok (.iconst 2, 1) := by decide +kernel
theorem d_L_law_542 : decode b_L_law 542 = .ok (.iadd, 1) := by decide +kernel
theorem d_L_law_543 : decode b_L_law 543 = .ok (.iaload, 1) := by decide +kernel
theorem d_L_law_544 : decode b_L_law 544 = .ok (.aload_n 3, 1) := by decide +kernel
theorem d_L_law_545 : decode b_L_law 545 = .ok (.invokestatic 85, 3) := by decide +kernel
theorem d_L_law_548 : decode b_L_law 548 = .ok (.istore 5, 2) := by decide +kernel
theorem d_L_law_550 : decode b_L_law 550 = .ok (.aload_n 2, 1) := by decide +kernel
theorem d_L_law_551 : decode b_L_law 551 = .ok (.aload_n 0, 1) := by decide +kernel
theorem d_L_law_552 : decode b_L_law 552 = .ok (.iload 4, 2) := by decide +kernel
theorem d_L_law_554 : decode b_L_law 554 = .ok (.iconst 1, 1) := by decide +kernel
theorem d_L_law_555 : decode b_L_law 555 = .ok (.iadd, 1) := by decide +kernel
theorem d_L_law_556 : decode b_L_law 556 = .ok (.iaload, 1) := by decide +kernel
theorem d_L_law_557 : decode b_L_law 557 = .ok (.aload_n 0, 1) := by decide +kernel
theorem d_L_law_558 : decode b_L_law 558 = .ok (.iload 4, 2) := by decide +kernel
theorem d_L_law_560 : decode b_L_law 560 = .ok (.iconst 2, 1) := by decide +kernel
theorem d_L_law_561 : decode b_L_law 561 = .ok (.iadd, 1) := by decide +kernel
theorem d_L_law_562 : decode b_L_law 562 = .ok (.iaload, 1) := by decide +kernel
theorem d_L_law_563 : decode b_L_law 563 = .ok (.invokevirtual 87, 3) := by decide +kernel
theorem d_L_law_566 : decode b_L_law 566 = .ok (.istore 6, 2) := by decide +kernel
theorem d_L_law_568 : decode b_L_law 568 = .ok (.aload_n 2, 1) := by decide +kernel
theorem d_L_law_569 : decode b_L_law 569 = .ok (.invokevirtual 52, 3) := by decide +kernel
theorem d_L_law_572 : decode b_L_law 572 = .ok (.iload 5, 2) := by decide +kernel
theorem d_L_law_574 : decode b_L_law 574 = .ok (.if_icmp .eq 5, 3) := by decide +kernel
theorem d_L_law_577 : decode b_L_law 577 = .ok (.iconst 0, 1) := by decide +kernel
theorem d_L_law_578 : decode b_L_law 578 = .ok (.ireturn, 1) := by decide +kernel
theorem d_L_law_579 : decode b_L_law 579 = .ok (.iload 5, 2) := by decide +kernel
theorem d_L_law_581 : decode b_L_law 581 = .ok (.ifCond .ne 15, 3) := by decide +kernel
theorem d_L_law_584 : decode b_L_law 584 = .ok (.aload_n 3, 1) := by decide +kernel
theorem d_L_law_585 : decode b_L_law 585 = .ok (.iconst 0, 1) := by decide +kernel
theorem d_L_law_586 : decode b_L_law 586 = .ok (.laload, 1) := by decide +kernel
theorem d_L_law_587 : decode b_L_law 587 = .ok (.iload 6, 2) := by decide +kernel
theorem d_L_law_589 : decode b_L_law 589 = .ok (.i2l, 1) := by decide +kernel
theorem d_L_law_590 : decode b_L_law 590 = .ok (.lcmp, 1) := by decide +kernel
theorem d_L_law_591 : decode b_L_law 591 = .ok (.ifCond .eq 5, 3) := by decide +kernel
theorem d_L_law_594 : decode b_L_law 594 = .ok (.iconst 0, 1) := by decide +kernel
theorem d_L_law_595 : decode b_L_law 595 = .ok (.ireturn, 1) := by decide +kernel
theorem d_L_law_596 : decode b_L_law 596 = .ok (.goto 59, 3) := by decide +kernel
theorem d_L_law_599 : decode b_L_law 599 = .ok (.aload_n 1, 1) := by decide +kernel
theorem d_L_law_600 : decode b_L_law 600 = .ok (.aload_n 0, 1) := by decide +kernel
theorem d_L_law_601 : decode b_L_law 601 = .ok (.iload 4, 2) := by decide +kernel
theorem d_L_law_603 : decode b_L_law 603 = .ok (.iconst 1, 1) := by decide +kernel
theorem d_L_law_604 : decode b_L_law 604 = .ok (.iadd, 1) := by decide +kernel
theorem d_L_law_605 : decode b_L_law 605 = .ok (.iaload, 1) := by decide +kernel
theorem d_L_law_606 : decode b_L_law 606 = .ok (.aload_n 3, 1) := by decide +kernel
theorem d_L_law_607 : decode b_L_law 607 = .ok (.invokestatic 88, 3) := by decide +kernel
theorem d_L_law_610 : decode b_L_law 610 = .ok (.istore 5, 2) := by decide +kernel
theorem d_L_law_612 : decode b_L_law 612 = .ok (.aload_n 2, 1) := by decide +kernel
theorem d_L_law_613 : decode b_L_law 613 = .ok (.aload_n 0, 1) := by decide +kernel
theorem d_L_law_614 : decode b_L_law 614 = .ok (.iload 4, 2) := by decide +kernel
theorem d_L_law_616 : decode b_L_law 616 = .ok (.iconst 1, 1) := by decide +kernel
theorem d_L_law_617 : decode b_L_law 617 = .ok (.iadd, 1) := by decide +kernel
theorem d_L_law_618 : decode b_L_law 618 = .ok (.iaload, 1) := by decide +kernel
theorem d_L_law_619 : decode b_L_law 619 = .ok (.invokevirtual 90, 3) := by decide +kernel
theorem d_L_law_622 : decode b_L_law 622 = .ok (.istore 6, 2) := by decide +kernel
theorem d_L_law_624 : decode b_L_law 624 = .ok (.aload_n 2, 1) := by decide +kernel
theorem d_L_law_625 : decode b_L_law 625 = .ok (.invokevirtual 52, 3) := by decide +kernel
theorem d_L_law_628 : decode b_L_law 628 = .ok (.iload 5, 2) := by decide +kernel
theorem d_L_law_630 : decode b_L_law 630 = .ok (.if_icmp .eq 5, 3) := by decide +kernel
theorem d_L_law_633 : decode b_L_law 633 = .ok (.iconst 0, 1) := by decide +kernel
theorem d_L_law_634 : decode b_L_law 634 = .ok (.ireturn, 1) := by decide +kernel
theorem d_L_law_635 : decode b_L_law 635 = .ok (.iload 5, 2) := by decide +kernel
theorem d_L_law_637 : decode b_L_law 637 = .ok (.ifCond .ne 15, 3) := by decide +kernel
theorem d_L_law_640 : decode b_L_law 640 = .ok (.aload_n 3, 1) := by decide +kernel
theorem d_L_law_641 : decode b_L_law 641 = .ok (.iconst 0, 1) := by decide +kernel
theorem d_L_law_642 : decode b_L_law 642 = .ok (.laload, 1) := by decide +kernel
theorem d_L_law_643 : decode b_L_law 643 = .ok (.iload 6, 2) := by decide +kernel
theorem d_L_law_645 : decode b_L_law 645 = .ok (.i2l, 1) := by decide +kernel
theorem d_L_law_646 : decode b_L_law 646 = .ok (.lcmp, 1) := by decide +kernel
theorem d_L_law_647 : decode b_L_law 647 = .ok (.ifCond .eq 5, 3) := by decide +kernel
theorem d_L_law_650 : decode b_L_law 650 = .ok (.iconst 0, 1) := by decide +kernel
theorem d_L_law_651 : decode b_L_law 651 = .ok (.ireturn, 1) := by decide +kernel
theorem d_L_law_652 : decode b_L_law 652 = .ok (.goto 3, 3) := by decide +kernel
theorem d_L_law_655 : decode b_L_law 655 = .ok (.iinc 4 4, 3) := by decide +kernel
theorem d_L_law_658 : decode b_L_law 658 = .ok (.goto (-635), 3) := by decide +kernel
theorem d_L_law_661 : decode b_L_law 661 = .ok (.iconst 1, 1) := by decide +kernel
theorem d_L_law_662 : decode b_L_law 662 = .ok (.ireturn, 1) := by decide +kernel
