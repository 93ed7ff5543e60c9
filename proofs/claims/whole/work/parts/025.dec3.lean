theorem dX8_init_0 : decode cX8_init 0 = .ok (.aload_n 0, 1) := by decide +kernel
theorem dX8_init_1 : decode cX8_init 1 = .ok (.invokespecial 1, 3) := by decide +kernel
theorem dX8_init_4 : decode cX8_init 4 = .ok (.aload_n 0, 1) := by decide +kernel
theorem dX8_init_5 : decode cX8_init 5 = .ok (.iconst 2, 1) := by decide +kernel
theorem dX8_init_6 : decode cX8_init 6 = .ok (.putfield 7, 3) := by decide +kernel
theorem dX8_init_9 : decode cX8_init 9 = .ok (.aload_n 0, 1) := by decide +kernel
theorem dX8_init_10 : decode cX8_init 10 = .ok (.bipush 9, 2) := by decide +kernel
theorem dX8_init_12 : decode cX8_init 12 = .ok (.newarray .int, 2) := by decide +kernel
theorem dX8_init_14 : decode cX8_init 14 = .ok (.dup, 1) := by decide +kernel
theorem dX8_init_15 : decode cX8_init 15 = .ok (.iconst 0, 1) := by decide +kernel
theorem dX8_init_16 : decode cX8_init 16 = .ok (.iconst 1, 1) := by decide +kernel
theorem dX8_init_17 : decode cX8_init 17 = .ok (.iastore, 1) := by decide +kernel
theorem dX8_init_18 : decode cX8_init 18 = .ok (.dup, 1) := by decide +kernel
theorem dX8_init_19 : decode cX8_init 19 = .ok (.iconst 1, 1) := by decide +kernel
theorem dX8_init_20 : decode cX8_init 20 = .ok (.iconst 0, 1) := by decide +kernel
theorem dX8_init_21 : decode cX8_init 21 = .ok (.iastore, 1) := by decide +kernel
theorem dX8_init_22 : decode cX8_init 22 = .ok (.dup, 1) := by decide +kernel
theorem dX8_init_23 : decode cX8_init 23 = .ok (.iconst 2, 1) := by decide +kernel
theorem dX8_init_24 : decode cX8_init 24 = .ok (.iconst 0, 1) := by decide +kernel
theorem dX8_init_25 : decode cX8_init 25 = .ok (.iastore, 1) := by decide +kernel
theorem dX8_init_26 : decode cX8_init 26 = .ok (.dup, 1) := by decide +kernel
theorem dX8_init_27 : decode cX8_init 27 = .ok (.iconst 3, 1) := by decide +kernel
theorem dX8_init_28 : decode cX8_init 28 = .ok (.iconst 0, 1) := by decide +kernel
theorem dX8_init_29 : decode cX8_init 29 = .ok (.iastore, 1) := by decide +kernel
theorem dX8_init_30 : decode cX8_init 30 = .ok (.dup, 1) := by decide +kernel
theorem dX8_init_31 : decode cX8_init 31 = .ok (.iconst 4, 1) := by decide +kernel
theorem dX8_init_32 : decode cX8_init 32 = .ok (.iconst 1, 1) := by decide +kernel
theorem dX8_init_33 : decode cX8_init 33 = .ok (.iastore, 1) := by decide +kernel
theorem dX8_init_34 : decode cX8_init 34 = .ok (.dup, 1) := by decide +kernel
theorem dX8_init_35 : decode cX8_init 35 = .ok (.iconst 5, 1) := by decide +kernel
theorem dX8_init_36 : decode cX8_init 36 = .ok (.iconst 0, 1) := by decide +kernel
theorem dX8_init_37 : decode cX8_init 37 = .ok (.iastore, 1) := by decide +kernel
theorem dX8_init_38 : decode cX8_init 38 = .ok (.dup, 1) := by decide +kernel
theorem dX8_init_39 : decode cX8_init 39 = .ok (.bipush 6, 2) := by decide +kernel
theorem dX8_init_41 : decode cX8_init 41 = .ok (.iconst 0, 1) := by decide +kernel
theorem dX8_init_42 : decode cX8_init 42 = .ok (.iastore, 1) := by decide +kernel
theorem dX8_init_43 : decode cX8_init 43 = .ok (.dup, 1) := by decide +kernel
theorem dX8_init_44 : decode cX8_init 44 = .ok (.bipush 7, 2) := by decide +kernel
theorem dX8_init_46 : decode cX8_init 46 = .ok (.iconst 0, 1) := by decide +kernel
theorem dX8_init_47 : decode cX8_init 47 = .ok (.iastore, 1) := by decide +kernel
theorem dX8_init_48 : decode cX8_init 48 = .ok (.dup, 1) := by decide +kernel
theorem dX8_init_49 : decode cX8_init 49 = .ok (.bipush 8, 2) := by decide +kernel
theorem dX8_init_51 : decode cX8_init 51 = .ok (.iconst 1, 1) := by decide +kernel
theorem dX8_init_52 : decode cX8_init 52 = .ok (.iastore, 1) := by decide +kernel
theorem dX8_init_53 : decode cX8_init 53 = .ok (.putfield 13, 3) := by decide +kernel
theorem dX8_init_56 : decode cX8_init 56 = .ok (.aload_n 0, 1) := by decide +kernel
theorem dX8_init_57 : decode cX8_init 57 = .ok (.iconst 3, 1) := by decide +kernel
theorem dX8_init_58 : decode cX8_init 58 = .ok (.newarray .int, 2) := by decide +kernel
theorem dX8_init_60 : decode cX8_init 60 = .ok (.putfield 17, 3) := by decide +kernel
theorem dX8_init_63 : decode cX8_init 63 = .ok (.aload_n 0, 1) := by decide +kernel
theorem dX8_init_64 : decode cX8_init 64 = .ok (.bipush 36, 2) := by decide +kernel
theorem dX8_init_66 : decode cX8_init 66 = .ok (.newarray .int, 2) := by decide +kernel
theorem dX8_init_68 : decode cX8_init 68 = .ok (.putfield 20, 3) := by decide +kernel
theorem dX8_init_71 : decode cX8_init 71 = .ok (.aload_n 0, 1) := by decide +kernel
theorem dX8_init_72 : decode cX8_init 72 = .ok (.bipush 51, 2) := by decide +kernel
theorem dX8_init_74 : decode cX8_init 74 = .ok (.newarray .int, 2) := by decide +kernel
theorem dX8_init_76 : decode cX8_init 76 = .ok (.putfield 23, 3) := by decide +kernel
theorem dX8_init_79 : decode cX8_init 79 = .ok (.aload_n 0, 1) := by decide +kernel
theorem dX8_init_80 : decode cX8_init 80 = .ok (.bipush 8, 2) := by decide +kernel
theorem dX8_init_82 : decode cX8_init 82 = .ok (.newarray .int, 2) := by decide +kernel
theorem dX8_init_84 : decode cX8_init 84 = .ok (.putfield 26, 3) := by decide +kernel
theorem dX8_init_87 : decode cX8_init 87 = .ok (.aload_n 0, 1) := by decide +kernel
theorem dX8_init_88 : decode cX8_init 88 = .ok (.bipush 36, 2) := by decide +kernel
theorem dX8_init_90 : decode cX8_init 90 = .ok (.newarray .long, 2) := by decide +kernel
theorem dX8_init_92 : decode cX8_init 92 = .ok (.putfield 29, 3) := by decide +kernel
theorem dX8_init_95 : decode cX8_init 95 = .ok (.aload_n 0, 1) := by decide +kernel
theorem dX8_init_96 : decode cX8_init 96 = .ok (.bipush 64, 2) := by decide +kernel
theorem dX8_init_98 : decode cX8_init 98 = .ok (.newarray .long, 2) := by decide +kernel
theorem dX8_init_100 : decode cX8_init 100 = .ok (.putfield 33, 3) := by decide +kernel
theorem dX8_init_103 : decode cX8_init 103 = .ok (.aload_n 0, 1) := by decide +kernel
theorem dX8_init_104 : decode cX8_init 104 = .ok (.iconst 3, 1) := by decide +kernel
theorem dX8_init_105 : decode cX8_init 105 = .ok (.newarray .long, 2) := by decide +kernel
theorem dX8_init_107 : decode cX8_init 107 = .ok (.putfield 36, 3) := by decide +kernel
theorem dX8_init_110 : decode cX8_init 110 = .ok (.aload_n 0, 1) := by decide +kernel
theorem dX8_init_111 : decode cX8_init 111 = .ok (.bipush 6, 2) := by decide +kernel
theorem dX8_init_113 : decode cX8_init 113 = .ok (.newarray .long, 2) := by decide +kernel
theorem dX8_init_115 : decode cX8_init 115 = .ok (.putfield 39, 3) := by decide +kernel
theorem dX8_init_118 : decode cX8_init 118 = .ok (.aload_n 0, 1) := by decide +kernel
theorem dX8_init_119 : decode cX8_init 119 = .ok (.iconst 3, 1) := by decide +kernel
theorem dX8_init_120 : decode cX8_init 120 = .ok (.newarray .long, 2) := by decide +kernel
theorem dX8_init_122 : decode cX8_init 122 = .ok (.putfield 42, 3) := by decide +kernel
theorem dX8_init_125 : decode cX8_init 125 = .ok (.aload_n 0, 1) := by decide +kernel
theorem dX8_init_126 : decode cX8_init 126 = .ok (.bipush 6, 2) := by decide +kernel
theorem dX8_init_128 : decode cX8_init 128 = .ok (.newarray .long, 2) := by decide +kernel
theorem dX8_init_130 : decode cX8_init 130 = .ok (.putfield 45, 3) := by decide +kernel
theorem dX8_init_133 : decode cX8_init 133 = .ok (.aload_n 0, 1) := by decide +kernel
theorem dX8_init_134 : decode cX8_init 134 = .ok (.bipush 6, 2) := by decide +kernel
theorem dX8_init_136 : decode cX8_init 136 = .ok (.newarray .int, 2) := by decide +kernel
theorem dX8_init_138 : decode cX8_init 138 = .ok (.putfield 48, 3) := by decide +kernel
theorem dX8_init_141 : decode cX8_init 141 = .ok (.aload_n 0, 1) := by decide +kernel
theorem dX8_init_142 : decode cX8_init 142 = .ok (.bipush 6, 2) := by decide +kernel
theorem dX8_init_144 : decode cX8_init 144 = .ok (.newarray .long, 2) := by decide +kernel
theorem dX8_init_146 : decode cX8_init 146 = .ok (.putfield 51, 3) := by decide +kernel
theorem dX8_init_149 : decode cX8_init 149 = .ok (.aload_n 0, 1) := by decide +kernel
theorem dX8_init_150 : decode cX8_init 150 = .ok (.bipush 64, 2) := by decide +kernel
theorem dX8_init_152 : decode cX8_init 152 = .ok (.newarray .int, 2) := by decide +kernel
theorem dX8_init_154 : decode cX8_init 154 = .ok (.putfield 54, 3) := by decide +kernel
theorem dX8_init_157 : decode cX8_init 157 = .ok (.aload_n 0, 1) := by decide +kernel
theorem dX8_init_158 : decode cX8_init 158 = .ok (.bipush 12, 2) := by decide +kernel
theorem dX8_init_160 : decode cX8_init 160 = .ok (.newarray .int, 2) := by decide +kernel
theorem dX8_init_162 : decode cX8_init 162 = .ok (.putfield 57, 3) := by decide +kernel
theorem dX8_init_165 : decode cX8_init 165 = .ok (.aload_n 0, 1) := by decide +kernel
theorem dX8_init_166 : decode cX8_init 166 = .ok (.iconst 4, 1) := by decide +kernel
theorem dX8_init_167 : decode cX8_init 167 = .ok (.newarray .int, 2) := by decide +kernel
theorem dX8_init_169 : decode cX8_init 169 = .ok (.dup, 1) := by decide +kernel
theorem dX8_init_170 : decode cX8_init 170 = .ok (.iconst 0, 1) := by decide +kernel
theorem dX8_init_171 : decode cX8_init 171 = .ok (.iconst (-1), 1) := by decide +kernel
theorem dX8_init_172 : decode cX8_init 172 = .ok (.iastore, 1) := by decide +kernel
theorem dX8_init_173 : decode cX8_init 173 = .ok (.dup, 1) := by decide +kernel
theorem dX8_init_174 : decode cX8_init 174 = .ok (.iconst 1, 1) := by decide +kernel
theorem dX8_init_175 : decode cX8_init 175 = .ok (.iconst (-1), 1) := by decide +kernel
theorem dX8_init_176 : decode cX8_init 176 = .ok (.iastore, 1) := by decide +kernel
theorem dX8_init_177 : decode cX8_init 177 = .ok (.dup, 1) := by decide +kernel
theorem dX8_init_178 : decode cX8_init 178 = .ok (.iconst 2, 1) := by decide +kernel
theorem dX8_init_179 : decode cX8_init 179 = .ok (.iconst (-1), 1) := by decide +kernel
theorem dX8_init_180 : decode cX8_init 180 = .ok (.iastore, 1) := by decide +kernel
theorem dX8_init_181 : decode cX8_init 181 = .ok (.dup, 1) := by decide +kernel
theorem dX8_init_182 : decode cX8_init 182 = .ok (.iconst 3, 1) := by decide +kernel
theorem dX8_init_183 : decode cX8_init 183 = .ok (.iconst (-1), 1) := by decide +kernel
theorem dX8_init_184 : decode cX8_init 184 = .ok (.iastore, 1) := by decide +kernel
theorem dX8_init_185 : decode cX8_init 185 = .ok (.putfield 60, 3) := by decide +kernel
theorem dX8_init_188 : decode cX8_init 188 = .ok (.aload_n 0, 1) := by decide +kernel
theorem dX8_init_189 : decode cX8_init 189 = .ok (.iconst 4, 1) := by decide +kernel
theorem dX8_init_190 : decode cX8_init 190 = .ok (.newarray .int, 2) := by decide +kernel
theorem dX8_init_192 : decode cX8_init 192 = .ok (.putfield 63, 3) := by decide +kernel
theorem dX8_init_195 : decode cX8_init 195 = .ok (.aload_n 0, 1) := by decide +kernel
theorem dX8_init_196 : decode cX8_init 196 = .ok (.bipush 48, 2) := by decide +kernel
theorem dX8_init_198 : decode cX8_init 198 = .ok (.newarray .long, 2) := by decide +kernel
theorem dX8_init_200 : decode cX8_init 200 = .ok (.putfield 66, 3) := by decide +kernel
theorem dX8_init_203 : decode cX8_init 203 = .ok (.return_, 1) := by decide +kernel
theorem dX8_in_0 : decode cX8_in 0 = .ok (.lload_n 0, 1) := by decide +kernel
theorem dX8_in_1 : decode cX8_in 1 = .ok (.lload_n 2, 1) := by decide +kernel
theorem dX8_in_2 : decode cX8_in 2 = .ok (.lcmp, 1) := by decide +kernel
theorem dX8_in_3 : decode cX8_in 3 = .ok (.ifCond .lt 14, 3) := by decide +kernel
theorem dX8_in_6 : decode cX8_in 6 = .ok (.lload_n 0, 1) := by decide +kernel
theorem dX8_in_7 : decode cX8_in 7 = .ok (.lload 4, 2) := by decide +kernel
theorem dX8_in_9 : decode cX8_in 9 = .ok (.lcmp, 1) := by decide +kernel
theorem dX8_in_10 : decode cX8_in 10 = .ok (.ifCond .gt 7, 3) := by decide +kernel
theorem dX8_in_13 : decode cX8_in 13 = .ok (.iconst 1, 1) := by decide +kernel
theorem dX8_in_14 : decode cX8_in 14 = .ok (.goto 4, 3) := by decide +kernel
theorem dX8_in_17 : decode cX8_in 17 = .ok (.iconst 0, 1) := by decide +kernel
theorem dX8_in_18 : decode cX8_in 18 = .ok (.ireturn, 1) := by decide +kernel
theorem dX8_has_0 : decode cX8_has 0 = .ok (.iload_n 0, 1) := by decide +kernel
theorem dX8_has_1 : decode cX8_has 1 = .ok (.iload_n 1, 1) := by decide +kernel
theorem dX8_has_2 : decode cX8_has 2 = .ok (.ishr, 1) := by decide +kernel
theorem dX8_has_3 : decode cX8_has 3 = .ok (.iconst 1, 1) := by decide +kernel
theorem dX8_has_4 : decode cX8_has 4 = .ok (.iand, 1) := by decide +kernel
theorem dX8_has_5 : decode cX8_has 5 = .ok (.iconst 1, 1) := by decide +kernel
theorem dX8_has_6 : decode cX8_has 6 = .ok (.if_icmp .ne 7, 3) := by decide +kernel
theorem dX8_has_9 : decode cX8_has 9 = .ok (.iconst 1, 1) := by decide +kernel
theorem dX8_has_10 : decode cX8_has 10 = .ok (.goto 4, 3) := by decide +kernel
theorem dX8_has_13 : decode cX8_has 13 = .ok (.iconst 0, 1) := by decide +kernel
theorem dX8_has_14 : decode cX8_has 14 = .ok (.ireturn, 1) := by decide +kernel
theorem dX8_isPart_0 : decode cX8_isPart 0 = .ok (.iload_n 0, 1) := by decide +kernel
theorem dX8_isPart_1 : decode cX8_isPart 1 = .ok (.ifCond .eq 8, 3) := by decide +kernel
theorem dX8_isPart_4 : decode cX8_isPart 4 = .ok (.iload_n 0, 1) := by decide +kernel
theorem dX8_isPart_5 : decode cX8_isPart 5 = .ok (.iconst 1, 1) := by decide +kernel
theorem dX8_isPart_6 : decode cX8_isPart 6 = .ok (.if_icmp .ne 7, 3) := by decide +kernel
theorem dX8_isPart_9 : decode cX8_isPart 9 = .ok (.iconst 1, 1) := by decide +kernel
theorem dX8_isPart_10 : decode cX8_isPart 10 = .ok (.goto 4, 3) := by decide +kernel
theorem dX8_isPart_13 : decode cX8_isPart 13 = .ok (.iconst 0, 1) := by decide +kernel
theorem dX8_isPart_14 : decode cX8_isPart 14 = .ok (.ireturn, 1) := by decide +kernel
theorem dX8_refused_0 : decode cX8_refused 0 = .ok (.ldc2_w 69, 3) := by decide +kernel
theorem dX8_refused_3 : decode cX8_refused 3 = .ok (.iload_n 0, 1) := by decide +kernel
theorem dX8_refused_4 : decode cX8_refused 4 = .ok (.i2l, 1) := by decide +kernel
theorem dX8_refused_5 : decode cX8_refused 5 = .ok (.ladd, 1) := by decide +kernel
theorem dX8_refused_6 : decode cX8_refused 6 = .ok (.lreturn, 1) := by decide +kernel
theorem dX8_divisor_0 : decode cX8_divisor 0 = .ok (.lload_n 0, 1) := by decide +kernel
theorem dX8_divisor_1 : decode cX8_divisor 1 = .ok (.lconst 0, 1) := by decide +kernel
theorem dX8_divisor_2 : decode cX8_divisor 2 = .ok (.lcmp, 1) := by decide +kernel
theorem dX8_divisor_3 : decode cX8_divisor 3 = .ok (.ifCond .ge 8, 3) := by decide +kernel
theorem dX8_divisor_6 : decode cX8_divisor 6 = .ok (.lload_n 0, 1) := by decide +kernel
theorem dX8_divisor_7 : decode cX8_divisor 7 = .ok (.lneg, 1) := by decide +kernel
theorem dX8_divisor_8 : decode cX8_divisor 8 = .ok (.goto 4, 3) := by decide +kernel
theorem dX8_divisor_11 : decode cX8_divisor 11 = .ok (.lload_n 0, 1) := by decide +kernel
theorem dX8_divisor_12 : decode cX8_divisor 12 = .ok (.lstore 4, 2) := by decide +kernel
theorem dX8_divisor_14 : decode cX8_divisor 14 = .ok (.lload_n 2, 1) := by decide +kernel
theorem dX8_divisor_15 : decode cX8_divisor 15 = .ok (.lstore 6, 2) := by decide +kernel
theorem dX8_divisor_17 : decode cX8_divisor 17 = .ok (.lload 6, 2) := by decide +kernel
theorem dX8_divisor_19 : decode cX8_divisor 19 = .ok (.lconst 0, 1) := by decide +kernel
theorem dX8_divisor_20 : decode cX8_divisor 20 = .ok (.lcmp, 1) := by decide +kernel
theorem dX8_divisor_21 : decode cX8_divisor 21 = .ok (.ifCond .eq 21, 3) := by decide +kernel
theorem dX8_divisor_24 : decode cX8_divisor 24 = .ok (.lload 4, 2) := by decide +kernel
theorem dX8_divisor_26 : decode cX8_divisor 26 = .ok (.lload 6, 2) := by decide +kernel
theorem dX8_divisor_28 : decode cX8_divisor 28 = .ok (.lrem, 1) := by decide +kernel
theorem dX8_divisor_29 : decode cX8_divisor 29 = .ok (.lstore 8, 2) := by decide +kernel
theorem dX8_divisor_31 : decode cX8_divisor 31 = .ok (.lload 6, 2) := by decide +kernel
theorem dX8_divisor_33 : decode cX8_divisor 33 = .ok (.lstore 4, 2) := by decide +kernel
theorem dX8_divisor_35 : decode cX8_divisor 35 = .ok (.lload 8, 2) := by decide +kernel
theorem dX8_divisor_37 : decode cX8_divisor 37 = .ok (.lstore 6, 2) := by decide +kernel
theorem dX8_divisor_39 : decode cX8_divisor 39 = .ok (.goto (-22), 3) := by decide +kernel
theorem dX8_divisor_42 : decode cX8_divisor 42 = .ok (.lload 4, 2) := by decide +kernel
theorem dX8_divisor_44 : decode cX8_divisor 44 = .ok (.lreturn, 1) := by decide +kernel
theorem dX8_lowest_0 : decode cX8_lowest 0 = .ok (.lload_n 0, 1) := by decide +kernel
theorem dX8_lowest_1 : decode cX8_lowest 1 = .ok (.lload_n 2, 1) := by decide +kernel
theorem dX8_lowest_2 : decode cX8_lowest 2 = .ok (.invokestatic 71, 3) := by decide +kernel
theorem dX8_lowest_5 : decode cX8_lowest 5 = .ok (.lstore 5, 2) := by decide +kernel
theorem dX8_lowest_7 : decode cX8_lowest 7 = .ok (.iload 4, 2) := by decide +kernel
theorem dX8_lowest_9 : decode cX8_lowest 9 = .ok (.ifCond .ne 7, 3) := by decide +kernel
theorem dX8_lowest_12 : decode cX8_lowest 12 = .ok (.lload_n 0, 1) := by decide +kernel
theorem dX8_lowest_13 : decode cX8_lowest 13 = .ok (.goto 4, 3) := by decide +kernel
theorem dX8_lowest_16 : decode cX8_lowest 16 = .ok (.lload_n 2, 1) := by decide +kernel
theorem dX8_lowest_17 : decode cX8_lowest 17 = .ok (.lload 5, 2) := by decide +kernel
theorem dX8_lowest_19 : decode cX8_lowest 19 = .ok (.ldiv, 1) := by decide +kernel
theorem dX8_lowest_20 : decode cX8_lowest 20 = .ok (.lreturn, 1) := by decide +kernel
theorem dX8_isLess_0 : decode cX8_isLess 0 = .ok (.lload_n 0, 1) := by decide +kernel
theorem dX8_isLess_1 : decode cX8_isLess 1 = .ok (.lload_n 2, 1) := by decide +kernel
theorem dX8_isLess_2 : decode cX8_isLess 2 = .ok (.invokestatic 75, 3) := by decide +kernel
theorem dX8_isLess_5 : decode cX8_isLess 5 = .ok (.lstore 8, 2) := by decide +kernel
theorem dX8_isLess_7 : decode cX8_isLess 7 = .ok (.lload 4, 2) := by decide +kernel
theorem dX8_isLess_9 : decode cX8_isLess 9 = .ok (.lload 6, 2) := by decide +kernel
theorem dX8_isLess_11 : decode cX8_isLess 11 = .ok (.invokestatic 75, 3) := by decide +kernel
theorem dX8_isLess_14 : decode cX8_isLess 14 = .ok (.lstore 10, 2) := by decide +kernel
theorem dX8_isLess_16 : decode cX8_isLess 16 = .ok (.lload 8, 2) := by decide +kernel
theorem dX8_isLess_18 : decode cX8_isLess 18 = .ok (.lload 10, 2) := by decide +kernel
theorem dX8_isLess_20 : decode cX8_isLess 20 = .ok (.lcmp, 1) := by decide +kernel
theorem dX8_isLess_21 : decode cX8_isLess 21 = .ok (.ifCond .eq 17, 3) := by decide +kernel
theorem dX8_isLess_24 : decode cX8_isLess 24 = .ok (.lload 8, 2) := by decide +kernel
theorem dX8_isLess_26 : decode cX8_isLess 26 = .ok (.lload 10, 2) := by decide +kernel
theorem dX8_isLess_28 : decode cX8_isLess 28 = .ok (.lcmp, 1) := by decide +kernel
theorem dX8_isLess_29 : decode cX8_isLess 29 = .ok (.ifCond .ge 7, 3) := by decide +kernel
theorem dX8_isLess_32 : decode cX8_isLess 32 = .ok (.iconst 1, 1) := by decide +kernel
theorem dX8_isLess_33 : decode cX8_isLess 33 = .ok (.goto 4, 3) := by decide +kernel
theorem dX8_isLess_36 : decode cX8_isLess 36 = .ok (.iconst 0, 1) := by decide +kernel
theorem dX8_isLess_37 : decode cX8_isLess 37 = .ok (.ireturn, 1) := by decide +kernel
theorem dX8_isLess_38 : decode cX8_isLess 38 = .ok (.lload_n 0, 1) := by decide +kernel
theorem dX8_isLess_39 : decode cX8_isLess 39 = .ok (.lload 8, 2) := by decide +kernel
theorem dX8_isLess_41 : decode cX8_isLess 41 = .ok (.lload_n 2, 1) := by decide +kernel
theorem dX8_isLess_42 : decode cX8_isLess 42 = .ok (.lmul, 1) := by decide +kernel
theorem dX8_isLess_43 : decode cX8_isLess 43 = .ok (.lsub, 1) := by decide +kernel
theorem dX8_isLess_44 : decode cX8_isLess 44 = .ok (.lstore 12, 2) := by decide +kernel
theorem dX8_isLess_46 : decode cX8_isLess 46 = .ok (.lload 4, 2) := by decide +kernel
theorem dX8_isLess_48 : decode cX8_isLess 48 = .ok (.lload 10, 2) := by decide +kernel
theorem dX8_isLess_50 : decode cX8_isLess 50 = .ok (.lload 6, 2) := by decide +kernel
theorem dX8_isLess_52 : decode cX8_isLess 52 = .ok (.lmul, 1) := by decide +kernel
theorem dX8_isLess_53 : decode cX8_isLess 53 = .ok (.lsub, 1) := by decide +kernel
theorem dX8_isLess_54 : decode cX8_isLess 54 = .ok (.lstore 14, 2) := by decide +kernel
theorem dX8_isLess_56 : decode cX8_isLess 56 = .ok (.lload 12, 2) := by decide +kernel
theorem dX8_isLess_58 : decode cX8_isLess 58 = .ok (.lconst 0, 1) := by decide +kernel
theorem dX8_isLess_59 : decode cX8_isLess 59 = .ok (.lcmp, 1) := by decide +kernel
theorem dX8_isLess_60 : decode cX8_isLess 60 = .ok (.ifCond .eq 10, 3) := by decide +kernel
theorem dX8_isLess_63 : decode cX8_isLess 63 = .ok (.lload 14, 2) := by decide +kernel
theorem dX8_isLess_65 : decode cX8_isLess 65 = .ok (.lconst 0, 1) := by decide +kernel
theorem dX8_isLess_66 : decode cX8_isLess 66 = .ok (.lcmp, 1) := by decide +kernel
theorem dX8_isLess_67 : decode cX8_isLess 67 = .ok (.ifCond .ne 25, 3) := by decide +kernel
theorem dX8_isLess_70 : decode cX8_isLess 70 = .ok (.lload 12, 2) := by decide +kernel
theorem dX8_isLess_72 : decode cX8_isLess 72 = .ok (.lconst 0, 1) := by decide +kernel
theorem dX8_isLess_73 : decode cX8_isLess 73 = .ok (.lcmp, 1) := by decide +kernel
theorem dX8_isLess_74 : decode cX8_isLess 74 = .ok (.ifCond .ne 14, 3) := by decide +kernel
theorem dX8_isLess_77 : decode cX8_isLess 77 = .ok (.lload 14, 2) := by decide +kernel
theorem dX8_isLess_79 : decode cX8_isLess 79 = .ok (.lconst 0, 1) := by decide +kernel
theorem dX8_isLess_80 : decode cX8_isLess 80 = .ok (.lcmp, 1) := by decide +kernel
theorem dX8_isLess_81 : decode cX8_isLess 81 = .ok (.ifCond .eq 7, 3) := by decide +kernel
theorem dX8_isLess_84 : decode cX8_isLess 84 = .ok (.iconst 1, 1) := by decide +kernel
theorem dX8_isLess_85 : decode cX8_isLess 85 = .ok (.goto 17, 3) := by decide +kernel
theorem dX8_isLess_88 : decode cX8_isLess 88 = .ok (.iconst 0, 1) := by decide +kernel
theorem dX8_isLess_89 : decode cX8_isLess 89 = .ok (.goto 13, 3) := by decide +kernel
theorem dX8_isLess_92 : decode cX8_isLess 92 = .ok (.lload 6, 2) := by decide +kernel
theorem dX8_isLess_94 : decode cX8_isLess 94 = .ok (.lload 14, 2) := by decide +kernel
theorem dX8_isLess_96 : decode cX8_isLess 96 = .ok (.lload_n 2, 1) := by decide +kernel
theorem dX8_isLess_97 : decode cX8_isLess 97 = .ok (.lload 12, 2) := by decide +kernel
theorem dX8_isLess_99 : decode cX8_isLess 99 = .ok (.invokestatic 80, 3) := by decide +kernel
theorem dX8_isLess_102 : decode cX8_isLess 102 = .ok (.ireturn, 1) := by decide +kernel
theorem dX8_isVariable_0 : decode cX8_isVariable 0 = .ok (.iload_n 1, 1) := by decide +kernel
theorem dX8_isVariable_1 : decode cX8_isVariable 1 = .ok (.i2l, 1) := by decide +kernel
theorem dX8_isVariable_2 : decode cX8_isVariable 2 = .ok (.lconst 0, 1) := by decide +kernel
theorem dX8_isVariable_3 : decode cX8_isVariable 3 = .ok (.aload_n 0, 1) := by decide +kernel
theorem dX8_isVariable_4 : decode cX8_isVariable 4 = .ok (.getfield 7, 3) := by decide +kernel
theorem dX8_isVariable_7 : decode cX8_isVariable 7 = .ok (.iconst 1, 1) := by decide +kernel
theorem dX8_isVariable_8 : decode cX8_isVariable 8 = .ok (.isub, 1) := by decide +kernel
theorem dX8_isVariable_9 : decode cX8_isVariable 9 = .ok (.i2l, 1) := by decide +kernel
theorem dX8_isVariable_10 : decode cX8_isVariable 10 = .ok (.invokestatic 84, 3) := by decide +kernel
theorem dX8_isVariable_13 : decode cX8_isVariable 13 = .ok (.ireturn, 1) := by decide +kernel
theorem dX8_isLine_0 : decode cX8_isLine 0 = .ok (.iload_n 1, 1) := by decide +kernel
theorem dX8_isLine_1 : decode cX8_isLine 1 = .ok (.i2l, 1) := by decide +kernel
theorem dX8_isLine_2 : decode cX8_isLine 2 = .ok (.lconst 0, 1) := by decide +kernel
theorem dX8_isLine_3 : decode cX8_isLine 3 = .ok (.aload_n 0, 1) := by decide +kernel
theorem dX8_isLine_4 : decode cX8_isLine 4 = .ok (.getfield 88, 3) := by decide +kernel
theorem dX8_isLine_7 : decode cX8_isLine 7 = .ok (.iconst 1, 1) := by decide +kernel
theorem dX8_isLine_8 : decode cX8_isLine 8 = .ok (.isub, 1) := by decide +kernel
theorem dX8_isLine_9 : decode cX8_isLine 9 = .ok (.i2l, 1) := by decide +kernel
theorem dX8_isLine_10 : decode cX8_isLine 10 = .ok (.invokestatic 84, 3) := by decide +kernel
theorem dX8_isLine_13 : decode cX8_isLine 13 = .ok (.ireturn, 1) := by decide +kernel
theorem dX8_isSet_0 : decode cX8_isSet 0 = .ok (.iload_n 1, 1) := by decide +kernel
theorem dX8_isSet_1 : decode cX8_isSet 1 = .ok (.i2l, 1) := by decide +kernel
theorem dX8_isSet_2 : decode cX8_isSet 2 = .ok (.lconst 0, 1) := by decide +kernel
theorem dX8_isSet_3 : decode cX8_isSet 3 = .ok (.iconst 1, 1) := by decide +kernel
theorem dX8_isSet_4 : decode cX8_isSet 4 = .ok (.aload_n 0, 1) := by decide +kernel
theorem dX8_isSet_5 : decode cX8_isSet 5 = .ok (.getfield 88, 3) := by decide +kernel
theorem dX8_isSet_8 : decode cX8_isSet 8 = .ok (.ishl, 1) := by decide +kernel
theorem dX8_isSet_9 : decode cX8_isSet 9 = .ok (.iconst 1, 1) := by decide +kernel
theorem dX8_isSet_10 : decode cX8_isSet 10 = .ok (.isub, 1) := by decide +kernel
theorem dX8_isSet_11 : decode cX8_isSet 11 = .ok (.i2l, 1) := by decide +kernel
theorem dX8_isSet_12 : decode cX8_isSet 12 = .ok (.invokestatic 84, 3) := by decide +kernel
theorem dX8_isSet_15 : decode cX8_isSet 15 = .ok (.ireturn, 1) := by decide +kernel
theorem dX8_all_0 : decode cX8_all 0 = .ok (.iconst 1, 1) := by decide +kernel
theorem dX8_all_1 : decode cX8_all 1 = .ok (.aload_n 0, 1) := by decide +kernel
theorem dX8_all_2 : decode cX8_all 2 = .ok (.getfield 88, 3) := by decide +kernel
theorem dX8_all_5 : decode cX8_all 5 = .ok (.ishl, 1) := by decide +kernel
theorem dX8_all_6 : decode cX8_all 6 = .ok (.iconst 1, 1) := by decide +kernel
theorem dX8_all_7 : decode cX8_all 7 = .ok (.isub, 1) := by decide +kernel
theorem dX8_all_8 : decode cX8_all 8 = .ok (.ireturn, 1) := by decide +kernel
theorem dX8_size_0 : decode cX8_size 0 = .ok (.iload_n 1, 1) := by decide +kernel
theorem dX8_size_1 : decode cX8_size 1 = .ok (.i2l, 1) := by decide +kernel
theorem dX8_size_2 : decode cX8_size 2 = .ok (.lconst 1, 1) := by decide +kernel
theorem dX8_size_3 : decode cX8_size 3 = .ok (.ldc2_w 91, 3) := by decide +kernel
theorem dX8_size_6 : decode cX8_size 6 = .ok (.invokestatic 84, 3) := by decide +kernel
theorem dX8_size_9 : decode cX8_size 9 = .ok (.ifCond .ne 6, 3) := by decide +kernel
theorem dX8_size_12 : decode cX8_size 12 = .ok (.bipush (-2), 2) := by decide +kernel
theorem dX8_size_14 : decode cX8_size 14 = .ok (.ireturn, 1) := by decide +kernel
theorem dX8_size_15 : decode cX8_size 15 = .ok (.aload_n 0, 1) := by decide +kernel
theorem dX8_size_16 : decode cX8_size 16 = .ok (.getfield 7, 3) := by decide +kernel
theorem dX8_size_19 : decode cX8_size 19 = .ok (.istore_n 2, 1) := by decide +kernel
theorem dX8_size_20 : decode cX8_size 20 = .ok (.aload_n 0, 1) := by decide +kernel
theorem dX8_size_21 : decode cX8_size 21 = .ok (.iload_n 1, 1) := by decide +kernel
theorem dX8_size_22 : decode cX8_size 22 = .ok (.putfield 7, 3) := by decide +kernel
theorem dX8_size_25 : decode cX8_size 25 = .ok (.iconst 0, 1) := by decide +kernel
theorem dX8_size_26 : decode cX8_size 26 = .ok (.istore_n 3, 1) := by decide +kernel
theorem dX8_size_27 : decode cX8_size 27 = .ok (.iload_n 3, 1) := by decide +kernel
theorem dX8_size_28 : decode cX8_size 28 = .ok (.bipush 9, 2) := by decide +kernel
theorem dX8_size_30 : decode cX8_size 30 = .ok (.if_icmp .ge 26, 3) := by decide +kernel
theorem dX8_size_33 : decode cX8_size 33 = .ok (.aload_n 0, 1) := by decide +kernel
theorem dX8_size_34 : decode cX8_size 34 = .ok (.getfield 13, 3) := by decide +kernel
theorem dX8_size_37 : decode cX8_size 37 = .ok (.iload_n 3, 1) := by decide +kernel
theorem dX8_size_38 : decode cX8_size 38 = .ok (.iload_n 3, 1) := by decide +kernel
theorem dX8_size_39 : decode cX8_size 39 = .ok (.iconst 4, 1) := by decide +kernel
theorem dX8_size_40 : decode cX8_size 40 = .ok (.irem, 1) := by decide +kernel
theorem dX8_size_41 : decode cX8_size 41 = .ok (.ifCond .ne 7, 3) := by decide +kernel
theorem dX8_size_44 : decode cX8_size 44 = .ok (.iconst 1, 1) := by decide +kernel
theorem dX8_size_45 : decode cX8_size 45 = .ok (.goto 4, 3) := by decide +kernel
theorem dX8_size_48 : decode cX8_size 48 = .ok (.iconst 0, 1) := by decide +kernel
theorem dX8_size_49 : decode cX8_size 49 = .ok (.iastore, 1) := by decide +kernel
theorem dX8_size_50 : decode cX8_size 50 = .ok (.iinc 3 1, 3) := by decide +kernel
theorem dX8_size_53 : decode cX8_size 53 = .ok (.goto (-26), 3) := by decide +kernel
theorem dX8_size_56 : decode cX8_size 56 = .ok (.iconst 0, 1) := by decide +kernel
theorem dX8_size_57 : decode cX8_size 57 = .ok (.istore_n 3, 1) := by decide +kernel
theorem dX8_size_58 : decode cX8_size 58 = .ok (.iload_n 3, 1) := by decide +kernel
theorem dX8_size_59 : decode cX8_size 59 = .ok (.iconst 3, 1) := by decide +kernel
theorem dX8_size_60 : decode cX8_size 60 = .ok (.if_icmp .ge 16, 3) := by decide +kernel
theorem dX8_size_63 : decode cX8_size 63 = .ok (.aload_n 0, 1) := by decide +kernel
theorem dX8_size_64 : decode cX8_size 64 = .ok (.getfield 17, 3) := by decide +kernel
theorem dX8_size_67 : decode cX8_size 67 = .ok (.iload_n 3, 1) := by decide +kernel
theorem dX8_size_68 : decode cX8_size 68 = .ok (.iconst 0, 1) := by decide +kernel
theorem dX8_size_69 : decode cX8_size 69 = .ok (.iastore, 1) := by decide +kernel
theorem dX8_size_70 : decode cX8_size 70 = .ok (.iinc 3 1, 3) := by decide +kernel
theorem dX8_size_73 : decode cX8_size 73 = .ok (.goto (-15), 3) := by decide +kernel
theorem dX8_size_76 : decode cX8_size 76 = .ok (.aload_n 0, 1) := by decide +kernel
theorem dX8_size_77 : decode cX8_size 77 = .ok (.iconst 0, 1) := by decide +kernel
theorem dX8_size_78 : decode cX8_size 78 = .ok (.putfield 93, 3) := by decide +kernel
theorem dX8_size_81 : decode cX8_size 81 = .ok (.aload_n 0, 1) := by decide +kernel
theorem dX8_size_82 : decode cX8_size 82 = .ok (.iconst 0, 1) := by decide +kernel
theorem dX8_size_83 : decode cX8_size 83 = .ok (.putfield 88, 3) := by decide +kernel
theorem dX8_size_86 : decode cX8_size 86 = .ok (.iload_n 2, 1) := by decide +kernel
theorem dX8_size_87 : decode cX8_size 87 = .ok (.ireturn, 1) := by decide +kernel
theorem dX8_bend_0 : decode cX8_bend 0 = .ok (.aload_n 0, 1) := by decide +kernel
theorem dX8_bend_1 : decode cX8_bend 1 = .ok (.iload_n 1, 1) := by decide +kernel
theorem dX8_bend_2 : decode cX8_bend 2 = .ok (.invokevirtual 96, 3) := by decide +kernel
theorem dX8_bend_5 : decode cX8_bend 5 = .ok (.ifCond .eq 45, 3) := by decide +kernel
theorem dX8_bend_8 : decode cX8_bend 8 = .ok (.aload_n 0, 1) := by decide +kernel
theorem dX8_bend_9 : decode cX8_bend 9 = .ok (.iload_n 2, 1) := by decide +kernel
theorem dX8_bend_10 : decode cX8_bend 10 = .ok (.invokevirtual 96, 3) := by decide +kernel
theorem dX8_bend_13 : decode cX8_bend 13 = .ok (.ifCond .eq 37, 3) := by decide +kernel
theorem dX8_bend_16 : decode cX8_bend 16 = .ok (.iload_n 3, 1) := by decide +kernel
theorem dX8_bend_17 : decode cX8_bend 17 = .ok (.i2l, 1) := by decide +kernel
theorem dX8_bend_18 : decode cX8_bend 18 = .ok (.iload_n 1, 1) := by decide +kernel
theorem dX8_bend_19 : decode cX8_bend 19 = .ok (.iload_n 2, 1) := by decide +kernel
theorem dX8_bend_20 : decode cX8_bend 20 = .ok (.if_icmp .ne 7, 3) := by decide +kernel
theorem dX8_bend_23 : decode cX8_bend 23 = .ok (.lconst 1, 1) := by decide +kernel
theorem dX8_bend_24 : decode cX8_bend 24 = .ok (.goto 6, 3) := by decide +kernel
theorem dX8_bend_27 : decode cX8_bend 27 = .ok (.ldc2_w 100, 3) := by decide +kernel
theorem dX8_bend_30 : decode cX8_bend 30 = .ok (.iload_n 1, 1) := by decide +kernel
theorem dX8_bend_31 : decode cX8_bend 31 = .ok (.iload_n 2, 1) := by decide +kernel
theorem dX8_bend_32 : decode cX8_bend 32 = .ok (.if_icmp .ne 9, 3) := by decide +kernel
theorem dX8_bend_35 : decode cX8_bend 35 = .ok (.ldc2_w 102, 3) := by decide +kernel
theorem dX8_bend_38 : decode cX8_bend 38 = .ok (.goto 6, 3) := by decide +kernel
theorem dX8_bend_41 : decode cX8_bend 41 = .ok (.ldc2_w 104, 3) := by decide +kernel
theorem dX8_bend_44 : decode cX8_bend 44 = .ok (.invokestatic 84, 3) := by decide +kernel
theorem dX8_bend_47 : decode cX8_bend 47 = .ok (.ifCond .ne 6, 3) := by decide +kernel
theorem dX8_bend_50 : decode cX8_bend 50 = .ok (.bipush (-2), 2) := by decide +kernel
theorem dX8_bend_52 : decode cX8_bend 52 = .ok (.ireturn, 1) := by decide +kernel
theorem dX8_bend_53 : decode cX8_bend 53 = .ok (.aload_n 0, 1) := by decide +kernel
theorem dX8_bend_54 : decode cX8_bend 54 = .ok (.getfield 13, 3) := by decide +kernel
theorem dX8_bend_57 : decode cX8_bend 57 = .ok (.iconst 3, 1) := by decide +kernel
theorem dX8_bend_58 : decode cX8_bend 58 = .ok (.iload_n 1, 1) := by decide +kernel
theorem dX8_bend_59 : decode cX8_bend 59 = .ok (.imul, 1) := by decide +kernel
theorem dX8_bend_60 : decode cX8_bend 60 = .ok (.iload_n 2, 1) := by decide +kernel
theorem dX8_bend_61 : decode cX8_bend 61 = .ok (.iadd, 1) := by decide +kernel
theorem dX8_bend_62 : decode cX8_bend 62 = .ok (.iaload, 1) := by decide +kernel
theorem dX8_bend_63 : decode cX8_bend 63 = .ok (.istore 4, 2) := by decide +kernel
theorem dX8_bend_65 : decode cX8_bend 65 = .ok (.aload_n 0, 1) := by decide +kernel
theorem dX8_bend_66 : decode cX8_bend 66 = .ok (.getfield 13, 3) := by decide +kernel
theorem dX8_bend_69 : decode cX8_bend 69 = .ok (.iconst 3, 1) := by decide +kernel
theorem dX8_bend_70 : decode cX8_bend 70 = .ok (.iload_n 1, 1) := by decide +kernel
theorem dX8_bend_71 : decode cX8_bend 71 = .ok (.imul, 1) := by decide +kernel
theorem dX8_bend_72 : decode cX8_bend 72 = .ok (.iload_n 2, 1) := by decide +kernel
theorem dX8_bend_73 : decode cX8_bend 73 = .ok (.iadd, 1) := by decide +kernel
theorem dX8_bend_74 : decode cX8_bend 74 = .ok (.iload_n 3, 1) := by decide +kernel
theorem dX8_bend_75 : decode cX8_bend 75 = .ok (.iastore, 1) := by decide +kernel
theorem dX8_bend_76 : decode cX8_bend 76 = .ok (.aload_n 0, 1) := by decide +kernel
theorem dX8_bend_77 : decode cX8_bend 77 = .ok (.getfield 13, 3) := by decide +kernel
theorem dX8_bend_80 : decode cX8_bend 80 = .ok (.iconst 3, 1) := by decide +kernel
theorem dX8_bend_81 : decode cX8_bend 81 = .ok (.iload_n 2, 1) := by decide +kernel
theorem dX8_bend_82 : decode cX8_bend 82 = .ok (.imul, 1) := by decide +kernel
theorem dX8_bend_83 : decode cX8_bend 83 = .ok (.iload_n 1, 1) := by decide +kernel
theorem dX8_bend_84 : decode cX8_bend 84 = .ok (.iadd, 1) := by decide +kernel
theorem dX8_bend_85 : decode cX8_bend 85 = .ok (.iload_n 3, 1) := by decide +kernel
theorem dX8_bend_86 : decode cX8_bend 86 = .ok (.iastore, 1) := by decide +kernel
theorem dX8_bend_87 : decode cX8_bend 87 = .ok (.iload 4, 2) := by decide +kernel
theorem dX8_bend_89 : decode cX8_bend 89 = .ok (.ireturn, 1) := by decide +kernel
theorem dX8_push_0 : decode cX8_push 0 = .ok (.aload_n 0, 1) := by decide +kernel
theorem dX8_push_1 : decode cX8_push 1 = .ok (.iload_n 1, 1) := by decide +kernel
theorem dX8_push_2 : decode cX8_push 2 = .ok (.invokevirtual 96, 3) := by decide +kernel
theorem dX8_push_5 : decode cX8_push 5 = .ok (.ifCond .eq 17, 3) := by decide +kernel
theorem dX8_push_8 : decode cX8_push 8 = .ok (.iload_n 2, 1) := by decide +kernel
theorem dX8_push_9 : decode cX8_push 9 = .ok (.i2l, 1) := by decide +kernel
theorem dX8_push_10 : decode cX8_push 10 = .ok (.ldc2_w 106, 3) := by decide +kernel
theorem dX8_push_13 : decode cX8_push 13 = .ok (.ldc2_w 108, 3) := by decide +kernel
theorem dX8_push_16 : decode cX8_push 16 = .ok (.invokestatic 84, 3) := by decide +kernel
theorem dX8_push_19 : decode cX8_push 19 = .ok (.ifCond .ne 6, 3) := by decide +kernel
theorem dX8_push_22 : decode cX8_push 22 = .ok (.bipush (-2), 2) := by decide +kernel
theorem dX8_push_24 : decode cX8_push 24 = .ok (.ireturn, 1) := by decide +kernel
theorem dX8_push_25 : decode cX8_push 25 = .ok (.aload_n 0, 1) := by decide +kernel
theorem dX8_push_26 : decode cX8_push 26 = .ok (.getfield 17, 3) := by decide +kernel
theorem dX8_push_29 : decode cX8_push 29 = .ok (.iload_n 1, 1) := by decide +kernel
theorem dX8_push_30 : decode cX8_push 30 = .ok (.iaload, 1) := by decide +kernel
theorem dX8_push_31 : decode cX8_push 31 = .ok (.istore_n 3, 1) := by decide +kernel
theorem dX8_push_32 : decode cX8_push 32 = .ok (.aload_n 0, 1) := by decide +kernel
theorem dX8_push_33 : decode cX8_push 33 = .ok (.getfield 17, 3) := by decide +kernel
theorem dX8_push_36 : decode cX8_push 36 = .ok (.iload_n 1, 1) := by decide +kernel
theorem dX8_push_37 : decode cX8_push 37 = .ok (.iload_n 2, 1) := by decide +kernel
theorem dX8_push_38 : decode cX8_push 38 = .ok (.iastore, 1) := by decide +kernel
theorem dX8_push_39 : decode cX8_push 39 = .ok (.iload_n 3, 1) := by decide +kernel
theorem dX8_push_40 : decode cX8_push 40 = .ok (.ireturn, 1) := by decide +kernel
theorem dX8_tide_0 : decode cX8_tide 0 = .ok (.iload_n 1, 1) := by decide +kernel
theorem dX8_tide_1 : decode cX8_tide 1 = .ok (.i2l, 1) := by decide +kernel
theorem dX8_tide_2 : decode cX8_tide 2 = .ok (.lconst 0, 1) := by decide +kernel
theorem dX8_tide_3 : decode cX8_tide 3 = .ok (.ldc2_w 110, 3) := by decide +kernel
theorem dX8_tide_6 : decode cX8_tide 6 = .ok (.invokestatic 84, 3) := by decide +kernel
theorem dX8_tide_9 : decode cX8_tide 9 = .ok (.ifCond .ne 6, 3) := by decide +kernel
theorem dX8_tide_12 : decode cX8_tide 12 = .ok (.bipush (-2), 2) := by decide +kernel
theorem dX8_tide_14 : decode cX8_tide 14 = .ok (.ireturn, 1) := by decide +kernel
theorem dX8_tide_15 : decode cX8_tide 15 = .ok (.aload_n 0, 1) := by decide +kernel
theorem dX8_tide_16 : decode cX8_tide 16 = .ok (.getfield 93, 3) := by decide +kernel
theorem dX8_tide_19 : decode cX8_tide 19 = .ok (.istore_n 2, 1) := by decide +kernel
theorem dX8_tide_20 : decode cX8_tide 20 = .ok (.aload_n 0, 1) := by decide +kernel
theorem dX8_tide_21 : decode cX8_tide 21 = .ok (.iload_n 1, 1) := by decide +kernel
theorem dX8_tide_22 : decode cX8_tide 22 = .ok (.putfield 93, 3) := by decide +kernel
theorem dX8_tide_25 : decode cX8_tide 25 = .ok (.iload_n 2, 1) := by decide +kernel
theorem dX8_tide_26 : decode cX8_tide 26 = .ok (.ireturn, 1) := by decide +kernel
theorem dX8_line_0 : decode cX8_line 0 = .ok (.iload_n 1, 1) := by decide +kernel
theorem dX8_line_1 : decode cX8_line 1 = .ok (.i2l, 1) := by decide +kernel
theorem dX8_line_2 : decode cX8_line 2 = .ok (.lconst 0, 1) := by decide +kernel
theorem dX8_line_3 : decode cX8_line 3 = .ok (.ldc2_w 112, 3) := by decide +kernel
theorem dX8_line_6 : decode cX8_line 6 = .ok (.invokestatic 84, 3) := by decide +kernel
theorem dX8_line_9 : decode cX8_line 9 = .ok (.ifCond .eq 31, 3) := by decide +kernel
theorem dX8_line_12 : decode cX8_line 12 = .ok (.iload_n 2, 1) := by decide +kernel
theorem dX8_line_13 : decode cX8_line 13 = .ok (.i2l, 1) := by decide +kernel
theorem dX8_line_14 : decode cX8_line 14 = .ok (.ldc2_w 106, 3) := by decide +kernel
theorem dX8_line_17 : decode cX8_line 17 = .ok (.ldc2_w 108, 3) := by decide +kernel
theorem dX8_line_20 : decode cX8_line 20 = .ok (.invokestatic 84, 3) := by decide +kernel
theorem dX8_line_23 : decode cX8_line 23 = .ok (.ifCond .eq 17, 3) := by decide +kernel
theorem dX8_line_26 : decode cX8_line 26 = .ok (.iload_n 3, 1) := by decide +kernel
theorem dX8_line_27 : decode cX8_line 27 = .ok (.i2l, 1) := by decide +kernel
theorem dX8_line_28 : decode cX8_line 28 = .ok (.ldc2_w 100, 3) := by decide +kernel
theorem dX8_line_31 : decode cX8_line 31 = .ok (.ldc2_w 104, 3) := by decide +kernel
theorem dX8_line_34 : decode cX8_line 34 = .ok (.invokestatic 84, 3) := by decide +kernel
theorem dX8_line_37 : decode cX8_line 37 = .ok (.ifCond .ne 6, 3) := by decide +kernel
theorem dX8_line_40 : decode cX8_line 40 = .ok (.bipush (-2), 2) := by decide +kernel
theorem dX8_line_42 : decode cX8_line 42 = .ok (.ireturn, 1) := by decide +kernel
theorem dX8_line_43 : decode cX8_line 43 = .ok (.aload_n 0, 1) := by decide +kernel
theorem dX8_line_44 : decode cX8_line 44 = .ok (.getfield 88, 3) := by decide +kernel
theorem dX8_line_47 : decode cX8_line 47 = .ok (.bipush 6, 2) := by decide +kernel
theorem dX8_line_49 : decode cX8_line 49 = .ok (.if_icmp .ne 6, 3) := by decide +kernel
theorem dX8_line_52 : decode cX8_line 52 = .ok (.bipush (-4), 2) := by decide +kernel
theorem dX8_line_54 : decode cX8_line 54 = .ok (.ireturn, 1) := by decide +kernel
theorem dX8_line_55 : decode cX8_line 55 = .ok (.bipush 6, 2) := by decide +kernel
theorem dX8_line_57 : decode cX8_line 57 = .ok (.aload_n 0, 1) := by decide +kernel
theorem dX8_line_58 : decode cX8_line 58 = .ok (.getfield 88, 3) := by decide +kernel
theorem dX8_line_61 : decode cX8_line 61 = .ok (.imul, 1) := by decide +kernel
theorem dX8_line_62 : decode cX8_line 62 = .ok (.istore 4, 2) := by decide +kernel
theorem dX8_line_64 : decode cX8_line 64 = .ok (.aload_n 0, 1) := by decide +kernel
theorem dX8_line_65 : decode cX8_line 65 = .ok (.getfield 20, 3) := by decide +kernel
theorem dX8_line_68 : decode cX8_line 68 = .ok (.iload 4, 2) := by decide +kernel
theorem dX8_line_70 : decode cX8_line 70 = .ok (.iload_n 1, 1) := by decide +kernel
theorem dX8_line_71 : decode cX8_line 71 = .ok (.iastore, 1) := by decide +kernel
theorem dX8_line_72 : decode cX8_line 72 = .ok (.aload_n 0, 1) := by decide +kernel
theorem dX8_line_73 : decode cX8_line 73 = .ok (.getfield 20, 3) := by decide +kernel
theorem dX8_line_76 : decode cX8_line 76 = .ok (.iload 4, 2) := by decide +kernel
theorem dX8_line_78 : decode cX8_line 78 = .ok (.iconst 1, 1) := by decide +kernel
theorem dX8_line_79 : decode cX8_line 79 = .ok (.iadd, 1) := by decide +kernel
theorem dX8_line_80 : decode cX8_line 80 = .ok (.iload_n 2, 1) := by decide +kernel
theorem dX8_line_81 : decode cX8_line 81 = .ok (.iastore, 1) := by decide +kernel
theorem dX8_line_82 : decode cX8_line 82 = .ok (.aload_n 0, 1) := by decide +kernel
theorem dX8_line_83 : decode cX8_line 83 = .ok (.getfield 20, 3) := by decide +kernel
theorem dX8_line_86 : decode cX8_line 86 = .ok (.iload 4, 2) := by decide +kernel
theorem dX8_line_88 : decode cX8_line 88 = .ok (.iconst 2, 1) := by decide +kernel
theorem dX8_line_89 : decode cX8_line 89 = .ok (.iadd, 1) := by decide +kernel
theorem dX8_line_90 : decode cX8_line 90 = .ok (.iload_n 3, 1) := by decide +kernel
theorem dX8_line_91 : decode cX8_line 91 = .ok (.iastore, 1) := by decide +kernel
theorem dX8_line_92 : decode cX8_line 92 = .ok (.iconst 0, 1) := by decide +kernel
theorem dX8_line_93 : decode cX8_line 93 = .ok (.istore 5, 2) := by decide +kernel
theorem dX8_line_95 : decode cX8_line 95 = .ok (.iload 5, 2) := by decide +kernel
theorem dX8_line_97 : decode cX8_line 97 = .ok (.iconst 3, 1) := by decide +kernel
theorem dX8_line_98 : decode cX8_line 98 = .ok (.if_icmp .ge 22, 3) := by decide +kernel
theorem dX8_line_101 : decode cX8_line 101 = .ok (.aload_n 0, 1) := by decide +kernel
theorem dX8_line_102 : decode cX8_line 102 = .ok (.getfield 20, 3) := by decide +kernel
theorem dX8_line_105 : decode cX8_line 105 = .ok (.iload 4, 2) := by decide +kernel
theorem dX8_line_107 : decode cX8_line 107 = .ok (.iconst 3, 1) := by decide +kernel
theorem dX8_line_108 : decode cX8_line 108 = .ok (.iadd, 1) := by decide +kernel
theorem dX8_line_109 : decode cX8_line 109 = .ok (.iload 5, 2) := by decide +kernel
theorem dX8_line_111 : decode cX8_line 111 = .ok (.iadd, 1) := by decide +kernel
theorem dX8_line_112 : decode cX8_line 112 = .ok (.iconst 0, 1) := by decide +kernel
theorem dX8_line_113 : decode cX8_line 113 = .ok (.iastore, 1) := by decide +kernel
theorem dX8_line_114 : decode cX8_line 114 = .ok (.iinc 5 1, 3) := by decide +kernel
theorem dX8_line_117 : decode cX8_line 117 = .ok (.goto (-22), 3) := by decide +kernel
theorem dX8_line_120 : decode cX8_line 120 = .ok (.aload_n 0, 1) := by decide +kernel
theorem dX8_line_121 : decode cX8_line 121 = .ok (.dup, 1) := by decide +kernel
theorem dX8_line_122 : decode cX8_line 122 = .ok (.getfield 88, 3) := by decide +kernel
theorem dX8_line_125 : decode cX8_line 125 = .ok (.iconst 1, 1) := by decide +kernel
theorem dX8_line_126 : decode cX8_line 126 = .ok (.iadd, 1) := by decide +kernel
theorem dX8_line_127 : decode cX8_line 127 = .ok (.putfield 88, 3) := by decide +kernel
theorem dX8_line_130 : decode cX8_line 130 = .ok (.aload_n 0, 1) := by decide +kernel
theorem dX8_line_131 : decode cX8_line 131 = .ok (.getfield 88, 3) := by decide +kernel
theorem dX8_line_134 : decode cX8_line 134 = .ok (.iconst 1, 1) := by decide +kernel
theorem dX8_line_135 : decode cX8_line 135 = .ok (.isub, 1) := by decide +kernel
theorem dX8_line_136 : decode cX8_line 136 = .ok (.ireturn, 1) := by decide +kernel
theorem dX8_becomes_0 : decode cX8_becomes 0 = .ok (.aload_n 0, 1) := by decide +kernel
theorem dX8_becomes_1 : decode cX8_becomes 1 = .ok (.getfield 20, 3) := by decide +kernel
theorem dX8_becomes_4 : decode cX8_becomes 4 = .ok (.iload_n 1, 1) := by decide +kernel
theorem dX8_becomes_5 : decode cX8_becomes 5 = .ok (.iaload, 1) := by decide +kernel
theorem dX8_becomes_6 : decode cX8_becomes 6 = .ok (.istore_n 3, 1) := by decide +kernel
theorem dX8_becomes_7 : decode cX8_becomes 7 = .ok (.aload_n 0, 1) := by decide +kernel
theorem dX8_becomes_8 : decode cX8_becomes 8 = .ok (.getfield 20, 3) := by decide +kernel
theorem dX8_becomes_11 : decode cX8_becomes 11 = .ok (.iload_n 1, 1) := by decide +kernel
theorem dX8_becomes_12 : decode cX8_becomes 12 = .ok (.iload_n 2, 1) := by decide +kernel
theorem dX8_becomes_13 : decode cX8_becomes 13 = .ok (.iastore, 1) := by decide +kernel
theorem dX8_becomes_14 : decode cX8_becomes 14 = .ok (.iload_n 3, 1) := by decide +kernel
theorem dX8_becomes_15 : decode cX8_becomes 15 = .ok (.ireturn, 1) := by decide +kernel
theorem dX8_slope_0 : decode cX8_slope 0 = .ok (.aload_n 0, 1) := by decide +kernel
theorem dX8_slope_1 : decode cX8_slope 1 = .ok (.iload_n 1, 1) := by decide +kernel
theorem dX8_slope_2 : decode cX8_slope 2 = .ok (.invokevirtual 114, 3) := by decide +kernel
theorem dX8_slope_5 : decode cX8_slope 5 = .ok (.ifCond .eq 45, 3) := by decide +kernel
theorem dX8_slope_8 : decode cX8_slope 8 = .ok (.iload_n 2, 1) := by decide +kernel
theorem dX8_slope_9 : decode cX8_slope 9 = .ok (.i2l, 1) := by decide +kernel
theorem dX8_slope_10 : decode cX8_slope 10 = .ok (.lconst 0, 1) := by decide +kernel
theorem dX8_slope_11 : decode cX8_slope 11 = .ok (.ldc2_w 117, 3) := by decide +kernel
theorem dX8_slope_14 : decode cX8_slope 14 = .ok (.invokestatic 84, 3) := by decide +kernel
theorem dX8_slope_17 : decode cX8_slope 17 = .ok (.ifCond .eq 33, 3) := by decide +kernel
theorem dX8_slope_20 : decode cX8_slope 20 = .ok (.iload_n 3, 1) := by decide +kernel
theorem dX8_slope_21 : decode cX8_slope 21 = .ok (.i2l, 1) := by decide +kernel
theorem dX8_slope_22 : decode cX8_slope 22 = .ok (.ldc2_w 100, 3) := by decide +kernel
theorem dX8_slope_25 : decode cX8_slope 25 = .ok (.ldc2_w 104, 3) := by decide +kernel
theorem dX8_slope_28 : decode cX8_slope 28 = .ok (.invokestatic 84, 3) := by decide +kernel
theorem dX8_slope_31 : decode cX8_slope 31 = .ok (.ifCond .eq 19, 3) := by decide +kernel
theorem dX8_slope_34 : decode cX8_slope 34 = .ok (.aload_n 0, 1) := by decide +kernel
theorem dX8_slope_35 : decode cX8_slope 35 = .ok (.bipush 6, 2) := by decide +kernel
theorem dX8_slope_37 : decode cX8_slope 37 = .ok (.iload_n 1, 1) := by decide +kernel
theorem dX8_slope_38 : decode cX8_slope 38 = .ok (.imul, 1) := by decide +kernel
theorem dX8_slope_39 : decode cX8_slope 39 = .ok (.iconst 3, 1) := by decide +kernel
theorem dX8_slope_40 : decode cX8_slope 40 = .ok (.iadd, 1) := by decide +kernel
theorem dX8_slope_41 : decode cX8_slope 41 = .ok (.iload_n 2, 1) := by decide +kernel
theorem dX8_slope_42 : decode cX8_slope 42 = .ok (.iadd, 1) := by decide +kernel
theorem dX8_slope_43 : decode cX8_slope 43 = .ok (.iload_n 3, 1) := by decide +kernel
theorem dX8_slope_44 : decode cX8_slope 44 = .ok (.invokevirtual 119, 3) := by decide +kernel
theorem dX8_slope_47 : decode cX8_slope 47 = .ok (.goto 5, 3) := by decide +kernel
theorem dX8_slope_50 : decode cX8_slope 50 = .ok (.bipush (-2), 2) := by decide +kernel
theorem dX8_slope_52 : decode cX8_slope 52 = .ok (.ireturn, 1) := by decide +kernel
theorem dX8_change_0 : decode cX8_change 0 = .ok (.iload_n 2, 1) := by decide +kernel
theorem dX8_change_1 : decode cX8_change 1 = .ok (.ifCond .ne 15, 3) := by decide +kernel
theorem dX8_change_4 : decode cX8_change 4 = .ok (.iload_n 3, 1) := by decide +kernel
theorem dX8_change_5 : decode cX8_change 5 = .ok (.i2l, 1) := by decide +kernel
theorem dX8_change_6 : decode cX8_change 6 = .ok (.lconst 0, 1) := by decide +kernel
theorem dX8_change_7 : decode cX8_change 7 = .ok (.ldc2_w 112, 3) := by decide +kernel
theorem dX8_change_10 : decode cX8_change 10 = .ok (.invokestatic 84, 3) := by decide +kernel
theorem dX8_change_13 : decode cX8_change 13 = .ok (.goto 46, 3) := by decide +kernel
theorem dX8_change_16 : decode cX8_change 16 = .ok (.iload_n 2, 1) := by decide +kernel
theorem dX8_change_17 : decode cX8_change 17 = .ok (.iconst 1, 1) := by decide +kernel
theorem dX8_change_18 : decode cX8_change 18 = .ok (.if_icmp .ne 17, 3) := by decide +kernel
theorem dX8_change_21 : decode cX8_change 21 = .ok (.iload_n 3, 1) := by decide +kernel
theorem dX8_change_22 : decode cX8_change 22 = .ok (.i2l, 1) := by decide +kernel
theorem dX8_change_23 : decode cX8_change 23 = .ok (.ldc2_w 106, 3) := by decide +kernel
theorem dX8_change_26 : decode cX8_change 26 = .ok (.ldc2_w 108, 3) := by decide +kernel
theorem dX8_change_29 : decode cX8_change 29 = .ok (.invokestatic 84, 3) := by decide +kernel
theorem dX8_change_32 : decode cX8_change 32 = .ok (.goto 27, 3) := by decide +kernel
theorem dX8_change_35 : decode cX8_change 35 = .ok (.iload_n 2, 1) := by decide +kernel
theorem dX8_change_36 : decode cX8_change 36 = .ok (.iconst 2, 1) := by decide +kernel
theorem dX8_change_37 : decode cX8_change 37 = .ok (.if_icmp .ne 21, 3) := by decide +kernel
theorem dX8_change_40 : decode cX8_change 40 = .ok (.iload_n 3, 1) := by decide +kernel
theorem dX8_change_41 : decode cX8_change 41 = .ok (.i2l, 1) := by decide +kernel
theorem dX8_change_42 : decode cX8_change 42 = .ok (.ldc2_w 100, 3) := by decide +kernel
theorem dX8_change_45 : decode cX8_change 45 = .ok (.ldc2_w 104, 3) := by decide +kernel
theorem dX8_change_48 : decode cX8_change 48 = .ok (.invokestatic 84, 3) := by decide +kernel
theorem dX8_change_51 : decode cX8_change 51 = .ok (.ifCond .eq 7, 3) := by decide +kernel
theorem dX8_change_54 : decode cX8_change 54 = .ok (.iconst 1, 1) := by decide +kernel
theorem dX8_change_55 : decode cX8_change 55 = .ok (.goto 4, 3) := by decide +kernel
theorem dX8_change_58 : decode cX8_change 58 = .ok (.iconst 0, 1) := by decide +kernel
theorem dX8_change_59 : decode cX8_change 59 = .ok (.istore 4, 2) := by decide +kernel
theorem dX8_change_61 : decode cX8_change 61 = .ok (.aload_n 0, 1) := by decide +kernel
theorem dX8_change_62 : decode cX8_change 62 = .ok (.iload_n 1, 1) := by decide +kernel
theorem dX8_change_63 : decode cX8_change 63 = .ok (.invokevirtual 114, 3) := by decide +kernel
theorem dX8_change_66 : decode cX8_change 66 = .ok (.ifCond .eq 22, 3) := by decide +kernel
theorem dX8_change_69 : decode cX8_change 69 = .ok (.iload 4, 2) := by decide +kernel
theorem dX8_change_71 : decode cX8_change 71 = .ok (.ifCond .eq 17, 3) := by decide +kernel
theorem dX8_change_74 : decode cX8_change 74 = .ok (.aload_n 0, 1) := by decide +kernel
theorem dX8_change_75 : decode cX8_change 75 = .ok (.bipush 6, 2) := by decide +kernel
theorem dX8_change_77 : decode cX8_change 77 = .ok (.iload_n 1, 1) := by decide +kernel
theorem dX8_change_78 : decode cX8_change 78 = .ok (.imul, 1) := by decide +kernel
theorem dX8_change_79 : decode cX8_change 79 = .ok (.iload_n 2, 1) := by decide +kernel
theorem dX8_change_80 : decode cX8_change 80 = .ok (.iadd, 1) := by decide +kernel
theorem dX8_change_81 : decode cX8_change 81 = .ok (.iload_n 3, 1) := by decide +kernel
theorem dX8_change_82 : decode cX8_change 82 = .ok (.invokevirtual 119, 3) := by decide +kernel
theorem dX8_change_85 : decode cX8_change 85 = .ok (.goto 5, 3) := by decide +kernel
theorem dX8_change_88 : decode cX8_change 88 = .ok (.bipush (-2), 2) := by decide +kernel
theorem dX8_change_90 : decode cX8_change 90 = .ok (.ireturn, 1) := by decide +kernel
theorem dX8_drop_0 : decode cX8_drop 0 = .ok (.aload_n 0, 1) := by decide +kernel
theorem dX8_drop_1 : decode cX8_drop 1 = .ok (.iload_n 1, 1) := by decide +kernel
theorem dX8_drop_2 : decode cX8_drop 2 = .ok (.invokevirtual 114, 3) := by decide +kernel
theorem dX8_drop_5 : decode cX8_drop 5 = .ok (.ifCond .ne 6, 3) := by decide +kernel
theorem dX8_drop_8 : decode cX8_drop 8 = .ok (.bipush (-2), 2) := by decide +kernel
theorem dX8_drop_10 : decode cX8_drop 10 = .ok (.ireturn, 1) := by decide +kernel
theorem dX8_drop_11 : decode cX8_drop 11 = .ok (.bipush 6, 2) := by decide +kernel
theorem dX8_drop_13 : decode cX8_drop 13 = .ok (.iload_n 1, 1) := by decide +kernel
theorem dX8_drop_14 : decode cX8_drop 14 = .ok (.imul, 1) := by decide +kernel
theorem dX8_drop_15 : decode cX8_drop 15 = .ok (.istore_n 2, 1) := by decide +kernel
theorem dX8_drop_16 : decode cX8_drop 16 = .ok (.iload_n 2, 1) := by decide +kernel
theorem dX8_drop_17 : decode cX8_drop 17 = .ok (.bipush 6, 2) := by decide +kernel
theorem dX8_drop_19 : decode cX8_drop 19 = .ok (.aload_n 0, 1) := by decide +kernel
theorem dX8_drop_20 : decode cX8_drop 20 = .ok (.getfield 88, 3) := by decide +kernel
theorem dX8_drop_23 : decode cX8_drop 23 = .ok (.iconst 1, 1) := by decide +kernel
theorem dX8_drop_24 : decode cX8_drop 24 = .ok (.isub, 1) := by decide +kernel
theorem dX8_drop_25 : decode cX8_drop 25 = .ok (.imul, 1) := by decide +kernel
theorem dX8_drop_26 : decode cX8_drop 26 = .ok (.if_icmp .ge 24, 3) := by decide +kernel
theorem dX8_drop_29 : decode cX8_drop 29 = .ok (.aload_n 0, 1) := by decide +kernel
theorem dX8_drop_30 : decode cX8_drop 30 = .ok (.getfield 20, 3) := by decide +kernel
theorem dX8_drop_33 : decode cX8_drop 33 = .ok (.iload_n 2, 1) := by decide +kernel
theorem dX8_drop_34 : decode cX8_drop 34 = .ok (.aload_n 0, 1) := by decide +kernel
theorem dX8_drop_35 : decode cX8_drop 35 = .ok (.getfield 20, 3) := by decide +kernel
theorem dX8_drop_38 : decode cX8_drop 38 = .ok (.iload_n 2, 1) := by decide +kernel
theorem dX8_drop_39 : decode cX8_drop 39 = .ok (.bipush 6, 2) := by decide +kernel
theorem dX8_drop_41 : decode cX8_drop 41 = .ok (.iadd, 1) := by decide +kernel
theorem dX8_drop_42 : decode cX8_drop 42 = .ok (.iaload, 1) := by decide +kernel
theorem dX8_drop_43 : decode cX8_drop 43 = .ok (.iastore, 1) := by decide +kernel
theorem dX8_drop_44 : decode cX8_drop 44 = .ok (.iinc 2 1, 3) := by decide +kernel
theorem dX8_drop_47 : decode cX8_drop 47 = .ok (.goto (-31), 3) := by decide +kernel
theorem dX8_drop_50 : decode cX8_drop 50 = .ok (.aload_n 0, 1) := by decide +kernel
theorem dX8_drop_51 : decode cX8_drop 51 = .ok (.dup, 1) := by decide +kernel
theorem dX8_drop_52 : decode cX8_drop 52 = .ok (.getfield 88, 3) := by decide +kernel
theorem dX8_drop_55 : decode cX8_drop 55 = .ok (.iconst 1, 1) := by decide +kernel
theorem dX8_drop_56 : decode cX8_drop 56 = .ok (.isub, 1) := by decide +kernel
theorem dX8_drop_57 : decode cX8_drop 57 = .ok (.putfield 88, 3) := by decide +kernel
theorem dX8_drop_60 : decode cX8_drop 60 = .ok (.aload_n 0, 1) := by decide +kernel
theorem dX8_drop_61 : decode cX8_drop 61 = .ok (.getfield 88, 3) := by decide +kernel
theorem dX8_drop_64 : decode cX8_drop 64 = .ok (.ireturn, 1) := by decide +kernel
theorem dX8_row_0 : decode cX8_row 0 = .ok (.aload_n 0, 1) := by decide +kernel
theorem dX8_row_1 : decode cX8_row 1 = .ok (.getfield 20, 3) := by decide +kernel
theorem dX8_row_4 : decode cX8_row 4 = .ok (.bipush 6, 2) := by decide +kernel
theorem dX8_row_6 : decode cX8_row 6 = .ok (.iload_n 1, 1) := by decide +kernel
theorem dX8_row_7 : decode cX8_row 7 = .ok (.imul, 1) := by decide +kernel
theorem dX8_row_8 : decode cX8_row 8 = .ok (.iaload, 1) := by decide +kernel
theorem dX8_row_9 : decode cX8_row 9 = .ok (.istore_n 3, 1) := by decide +kernel
theorem dX8_row_10 : decode cX8_row 10 = .ok (.aload_n 0, 1) := by decide +kernel
theorem dX8_row_11 : decode cX8_row 11 = .ok (.getfield 20, 3) := by decide +kernel
theorem dX8_row_14 : decode cX8_row 14 = .ok (.bipush 6, 2) := by decide +kernel
theorem dX8_row_16 : decode cX8_row 16 = .ok (.iload_n 1, 1) := by decide +kernel
theorem dX8_row_17 : decode cX8_row 17 = .ok (.imul, 1) := by decide +kernel
theorem dX8_row_18 : decode cX8_row 18 = .ok (.iconst 3, 1) := by decide +kernel
theorem dX8_row_19 : decode cX8_row 19 = .ok (.iadd, 1) := by decide +kernel
theorem dX8_row_20 : decode cX8_row 20 = .ok (.iload_n 2, 1) := by decide +kernel
theorem dX8_row_21 : decode cX8_row 21 = .ok (.iadd, 1) := by decide +kernel
theorem dX8_row_22 : decode cX8_row 22 = .ok (.iaload, 1) := by decide +kernel
theorem dX8_row_23 : decode cX8_row 23 = .ok (.istore 4, 2) := by decide +kernel
theorem dX8_row_25 : decode cX8_row 25 = .ok (.iload_n 2, 1) := by decide +kernel
theorem dX8_row_26 : decode cX8_row 26 = .ok (.aload_n 0, 1) := by decide +kernel
theorem dX8_row_27 : decode cX8_row 27 = .ok (.getfield 7, 3) := by decide +kernel
theorem dX8_row_30 : decode cX8_row 30 = .ok (.if_icmp .lt 7, 3) := by decide +kernel
theorem dX8_row_33 : decode cX8_row 33 = .ok (.iconst 0, 1) := by decide +kernel
theorem dX8_row_34 : decode cX8_row 34 = .ok (.goto 33, 3) := by decide +kernel
theorem dX8_row_37 : decode cX8_row 37 = .ok (.iload_n 3, 1) := by decide +kernel
theorem dX8_row_38 : decode cX8_row 38 = .ok (.iconst 1, 1) := by decide +kernel
theorem dX8_row_39 : decode cX8_row 39 = .ok (.if_icmp .eq 8, 3) := by decide +kernel
theorem dX8_row_42 : decode cX8_row 42 = .ok (.iload_n 3, 1) := by decide +kernel
theorem dX8_row_43 : decode cX8_row 43 = .ok (.iconst 4, 1) := by decide +kernel
theorem dX8_row_44 : decode cX8_row 44 = .ok (.if_icmp .ne 9, 3) := by decide +kernel
theorem dX8_row_47 : decode cX8_row 47 = .ok (.iload 4, 2) := by decide +kernel
theorem dX8_row_49 : decode cX8_row 49 = .ok (.ineg, 1) := by decide +kernel
theorem dX8_row_50 : decode cX8_row 50 = .ok (.goto 17, 3) := by decide +kernel
theorem dX8_row_53 : decode cX8_row 53 = .ok (.iload_n 3, 1) := by decide +kernel
theorem dX8_row_54 : decode cX8_row 54 = .ok (.iconst 3, 1) := by decide +kernel
theorem dX8_row_55 : decode cX8_row 55 = .ok (.if_icmp .ne 10, 3) := by decide +kernel
theorem dX8_row_58 : decode cX8_row 58 = .ok (.iconst 2, 1) := by decide +kernel
theorem dX8_row_59 : decode cX8_row 59 = .ok (.iload 4, 2) := by decide +kernel
theorem dX8_row_61 : decode cX8_row 61 = .ok (.imul, 1) := by decide +kernel
theorem dX8_row_62 : decode cX8_row 62 = .ok (.goto 5, 3) := by decide +kernel
theorem dX8_row_65 : decode cX8_row 65 = .ok (.iload 4, 2) := by decide +kernel
theorem dX8_row_67 : decode cX8_row 67 = .ok (.ireturn, 1) := by decide +kernel
theorem dX8_bound_0 : decode cX8_bound 0 = .ok (.aload_n 0, 1) := by decide +kernel
theorem dX8_bound_1 : decode cX8_bound 1 = .ok (.getfield 20, 3) := by decide +kernel
theorem dX8_bound_4 : decode cX8_bound 4 = .ok (.bipush 6, 2) := by decide +kernel
theorem dX8_bound_6 : decode cX8_bound 6 = .ok (.iload_n 1, 1) := by decide +kernel
theorem dX8_bound_7 : decode cX8_bound 7 = .ok (.imul, 1) := by decide +kernel
theorem dX8_bound_8 : decode cX8_bound 8 = .ok (.iaload, 1) := by decide +kernel
theorem dX8_bound_9 : decode cX8_bound 9 = .ok (.istore_n 2, 1) := by decide +kernel
theorem dX8_bound_10 : decode cX8_bound 10 = .ok (.aload_n 0, 1) := by decide +kernel
theorem dX8_bound_11 : decode cX8_bound 11 = .ok (.getfield 20, 3) := by decide +kernel
theorem dX8_bound_14 : decode cX8_bound 14 = .ok (.bipush 6, 2) := by decide +kernel
theorem dX8_bound_16 : decode cX8_bound 16 = .ok (.iload_n 1, 1) := by decide +kernel
theorem dX8_bound_17 : decode cX8_bound 17 = .ok (.imul, 1) := by decide +kernel
theorem dX8_bound_18 : decode cX8_bound 18 = .ok (.iconst 1, 1) := by decide +kernel
theorem dX8_bound_19 : decode cX8_bound 19 = .ok (.iadd, 1) := by decide +kernel
theorem dX8_bound_20 : decode cX8_bound 20 = .ok (.iaload, 1) := by decide +kernel
theorem dX8_bound_21 : decode cX8_bound 21 = .ok (.aload_n 0, 1) := by decide +kernel
theorem dX8_bound_22 : decode cX8_bound 22 = .ok (.getfield 93, 3) := by decide +kernel
theorem dX8_bound_25 : decode cX8_bound 25 = .ok (.aload_n 0, 1) := by decide +kernel
theorem dX8_bound_26 : decode cX8_bound 26 = .ok (.getfield 20, 3) := by decide +kernel
theorem dX8_bound_29 : decode cX8_bound 29 = .ok (.bipush 6, 2) := by decide +kernel
theorem dX8_bound_31 : decode cX8_bound 31 = .ok (.iload_n 1, 1) := by decide +kernel
theorem dX8_bound_32 : decode cX8_bound 32 = .ok (.imul, 1) := by decide +kernel
theorem dX8_bound_33 : decode cX8_bound 33 = .ok (.iconst 2, 1) := by decide +kernel
theorem dX8_bound_34 : decode cX8_bound 34 = .ok (.iadd, 1) := by decide +kernel
theorem dX8_bound_35 : decode cX8_bound 35 = .ok (.iaload, 1) := by decide +kernel
theorem dX8_bound_36 : decode cX8_bound 36 = .ok (.imul, 1) := by decide +kernel
theorem dX8_bound_37 : decode cX8_bound 37 = .ok (.iadd, 1) := by decide +kernel
theorem dX8_bound_38 : decode cX8_bound 38 = .ok (.istore_n 3, 1) := by decide +kernel
theorem dX8_bound_39 : decode cX8_bound 39 = .ok (.iload_n 2, 1) := by decide +kernel
theorem dX8_bound_40 : decode cX8_bound 40 = .ok (.iconst 1, 1) := by decide +kernel
theorem dX8_bound_41 : decode cX8_bound 41 = .ok (.if_icmp .ne 8, 3) := by decide +kernel
theorem dX8_bound_44 : decode cX8_bound 44 = .ok (.iload_n 3, 1) := by decide +kernel
theorem dX8_bound_45 : decode cX8_bound 45 = .ok (.ineg, 1) := by decide +kernel
theorem dX8_bound_46 : decode cX8_bound 46 = .ok (.goto 16, 3) := by decide +kernel
theorem dX8_bound_49 : decode cX8_bound 49 = .ok (.iload_n 2, 1) := by decide +kernel
theorem dX8_bound_50 : decode cX8_bound 50 = .ok (.iconst 4, 1) := by decide +kernel
theorem dX8_bound_51 : decode cX8_bound 51 = .ok (.if_icmp .ne 10, 3) := by decide +kernel
theorem dX8_bound_54 : decode cX8_bound 54 = .ok (.iload_n 3, 1) := by decide +kernel
theorem dX8_bound_55 : decode cX8_bound 55 = .ok (.ineg, 1) := by decide +kernel
theorem dX8_bound_56 : decode cX8_bound 56 = .ok (.iconst 1, 1) := by decide +kernel
theorem dX8_bound_57 : decode cX8_bound 57 = .ok (.isub, 1) := by decide +kernel
theorem dX8_bound_58 : decode cX8_bound 58 = .ok (.goto 4, 3) := by decide +kernel
theorem dX8_bound_61 : decode cX8_bound 61 = .ok (.iload_n 3, 1) := by decide +kernel
theorem dX8_bound_62 : decode cX8_bound 62 = .ok (.ireturn, 1) := by decide +kernel
theorem dX8_rise_0 : decode cX8_rise 0 = .ok (.aload_n 0, 1) := by decide +kernel
theorem dX8_rise_1 : decode cX8_rise 1 = .ok (.getfield 20, 3) := by decide +kernel
theorem dX8_rise_4 : decode cX8_rise 4 = .ok (.bipush 6, 2) := by decide +kernel
theorem dX8_rise_6 : decode cX8_rise 6 = .ok (.iload_n 1, 1) := by decide +kernel
theorem dX8_rise_7 : decode cX8_rise 7 = .ok (.imul, 1) := by decide +kernel
theorem dX8_rise_8 : decode cX8_rise 8 = .ok (.iaload, 1) := by decide +kernel
theorem dX8_rise_9 : decode cX8_rise 9 = .ok (.istore_n 2, 1) := by decide +kernel
theorem dX8_rise_10 : decode cX8_rise 10 = .ok (.iload_n 2, 1) := by decide +kernel
theorem dX8_rise_11 : decode cX8_rise 11 = .ok (.iconst 1, 1) := by decide +kernel
theorem dX8_rise_12 : decode cX8_rise 12 = .ok (.if_icmp .eq 8, 3) := by decide +kernel
theorem dX8_rise_15 : decode cX8_rise 15 = .ok (.iload_n 2, 1) := by decide +kernel
theorem dX8_rise_16 : decode cX8_rise 16 = .ok (.iconst 4, 1) := by decide +kernel
theorem dX8_rise_17 : decode cX8_rise 17 = .ok (.if_icmp .ne 18, 3) := by decide +kernel
theorem dX8_rise_20 : decode cX8_rise 20 = .ok (.aload_n 0, 1) := by decide +kernel
theorem dX8_rise_21 : decode cX8_rise 21 = .ok (.getfield 20, 3) := by decide +kernel
theorem dX8_rise_24 : decode cX8_rise 24 = .ok (.bipush 6, 2) := by decide +kernel
theorem dX8_rise_26 : decode cX8_rise 26 = .ok (.iload_n 1, 1) := by decide +kernel
theorem dX8_rise_27 : decode cX8_rise 27 = .ok (.imul, 1) := by decide +kernel
theorem dX8_rise_28 : decode cX8_rise 28 = .ok (.iconst 2, 1) := by decide +kernel
theorem dX8_rise_29 : decode cX8_rise 29 = .ok (.iadd, 1) := by decide +kernel
theorem dX8_rise_30 : decode cX8_rise 30 = .ok (.iaload, 1) := by decide +kernel
theorem dX8_rise_31 : decode cX8_rise 31 = .ok (.ineg, 1) := by decide +kernel
theorem dX8_rise_32 : decode cX8_rise 32 = .ok (.goto 14, 3) := by decide +kernel
theorem dX8_rise_35 : decode cX8_rise 35 = .ok (.aload_n 0, 1) := by decide +kernel
theorem dX8_rise_36 : decode cX8_rise 36 = .ok (.getfield 20, 3) := by decide +kernel
theorem dX8_rise_39 : decode cX8_rise 39 = .ok (.bipush 6, 2) := by decide +kernel
theorem dX8_rise_41 : decode cX8_rise 41 = .ok (.iload_n 1, 1) := by decide +kernel
theorem dX8_rise_42 : decode cX8_rise 42 = .ok (.imul, 1) := by decide +kernel
theorem dX8_rise_43 : decode cX8_rise 43 = .ok (.iconst 2, 1) := by decide +kernel
theorem dX8_rise_44 : decode cX8_rise 44 = .ok (.iadd, 1) := by decide +kernel
theorem dX8_rise_45 : decode cX8_rise 45 = .ok (.iaload, 1) := by decide +kernel
theorem dX8_rise_46 : decode cX8_rise 46 = .ok (.ireturn, 1) := by decide +kernel
theorem dX8_isOn_0 : decode cX8_isOn 0 = .ok (.aload_n 0, 1) := by decide +kernel
theorem dX8_isOn_1 : decode cX8_isOn 1 = .ok (.getfield 20, 3) := by decide +kernel
theorem dX8_isOn_4 : decode cX8_isOn 4 = .ok (.bipush 6, 2) := by decide +kernel
theorem dX8_isOn_6 : decode cX8_isOn 6 = .ok (.iload_n 1, 1) := by decide +kernel
theorem dX8_isOn_7 : decode cX8_isOn 7 = .ok (.imul, 1) := by decide +kernel
theorem dX8_isOn_8 : decode cX8_isOn 8 = .ok (.iaload, 1) := by decide +kernel
theorem dX8_isOn_9 : decode cX8_isOn 9 = .ok (.iconst 2, 1) := by decide +kernel
theorem dX8_isOn_10 : decode cX8_isOn 10 = .ok (.if_icmp .ne 7, 3) := by decide +kernel
theorem dX8_isOn_13 : decode cX8_isOn 13 = .ok (.iconst 1, 1) := by decide +kernel
theorem dX8_isOn_14 : decode cX8_isOn 14 = .ok (.goto 4, 3) := by decide +kernel
theorem dX8_isOn_17 : decode cX8_isOn 17 = .ok (.iconst 0, 1) := by decide +kernel
theorem dX8_isOn_18 : decode cX8_isOn 18 = .ok (.ireturn, 1) := by decide +kernel
theorem dX8_lineOf_0 : decode cX8_lineOf 0 = .ok (.aload_n 0, 1) := by decide +kernel
theorem dX8_lineOf_1 : decode cX8_lineOf 1 = .ok (.iload_n 1, 1) := by decide +kernel
theorem dX8_lineOf_2 : decode cX8_lineOf 2 = .ok (.invokevirtual 114, 3) := by decide +kernel
theorem dX8_lineOf_5 : decode cX8_lineOf 5 = .ok (.ifCond .eq 15, 3) := by decide +kernel
theorem dX8_lineOf_8 : decode cX8_lineOf 8 = .ok (.iload_n 2, 1) := by decide +kernel
theorem dX8_lineOf_9 : decode cX8_lineOf 9 = .ok (.i2l, 1) := by decide +kernel
theorem dX8_lineOf_10 : decode cX8_lineOf 10 = .ok (.lconst 0, 1) := by decide +kernel
theorem dX8_lineOf_11 : decode cX8_lineOf 11 = .ok (.ldc2_w 123, 3) := by decide +kernel
theorem dX8_lineOf_14 : decode cX8_lineOf 14 = .ok (.invokestatic 84, 3) := by decide +kernel
theorem dX8_lineOf_17 : decode cX8_lineOf 17 = .ok (.ifCond .ne 6, 3) := by decide +kernel
theorem dX8_lineOf_20 : decode cX8_lineOf 20 = .ok (.bipush (-2), 2) := by decide +kernel
theorem dX8_lineOf_22 : decode cX8_lineOf 22 = .ok (.ireturn, 1) := by decide +kernel
theorem dX8_lineOf_23 : decode cX8_lineOf 23 = .ok (.iload_n 2, 1) := by decide +kernel
theorem dX8_lineOf_24 : decode cX8_lineOf 24 = .ok (.iconst 3, 1) := by decide +kernel
theorem dX8_lineOf_25 : decode cX8_lineOf 25 = .ok (.if_icmp .ge 17, 3) := by decide +kernel
theorem dX8_lineOf_28 : decode cX8_lineOf 28 = .ok (.aload_n 0, 1) := by decide +kernel
theorem dX8_lineOf_29 : decode cX8_lineOf 29 = .ok (.getfield 20, 3) := by decide +kernel
theorem dX8_lineOf_32 : decode cX8_lineOf 32 = .ok (.bipush 6, 2) := by decide +kernel
theorem dX8_lineOf_34 : decode cX8_lineOf 34 = .ok (.iload_n 1, 1) := by decide +kernel
theorem dX8_lineOf_35 : decode cX8_lineOf 35 = .ok (.imul, 1) := by decide +kernel
theorem dX8_lineOf_36 : decode cX8_lineOf 36 = .ok (.iload_n 2, 1) := by decide +kernel
theorem dX8_lineOf_37 : decode cX8_lineOf 37 = .ok (.iadd, 1) := by decide +kernel
theorem dX8_lineOf_38 : decode cX8_lineOf 38 = .ok (.iaload, 1) := by decide +kernel
theorem dX8_lineOf_39 : decode cX8_lineOf 39 = .ok (.goto 24, 3) := by decide +kernel
theorem dX8_lineOf_42 : decode cX8_lineOf 42 = .ok (.iload_n 2, 1) := by decide +kernel
theorem dX8_lineOf_43 : decode cX8_lineOf 43 = .ok (.iconst 3, 1) := by decide +kernel
theorem dX8_lineOf_44 : decode cX8_lineOf 44 = .ok (.if_icmp .ne 11, 3) := by decide +kernel
theorem dX8_lineOf_47 : decode cX8_lineOf 47 = .ok (.aload_n 0, 1) := by decide +kernel
theorem dX8_lineOf_48 : decode cX8_lineOf 48 = .ok (.iload_n 1, 1) := by decide +kernel
theorem dX8_lineOf_49 : decode cX8_lineOf 49 = .ok (.invokevirtual 125, 3) := by decide +kernel
theorem dX8_lineOf_52 : decode cX8_lineOf 52 = .ok (.goto 11, 3) := by decide +kernel
theorem dX8_lineOf_55 : decode cX8_lineOf 55 = .ok (.aload_n 0, 1) := by decide +kernel
theorem dX8_lineOf_56 : decode cX8_lineOf 56 = .ok (.iload_n 1, 1) := by decide +kernel
theorem dX8_lineOf_57 : decode cX8_lineOf 57 = .ok (.iload_n 2, 1) := by decide +kernel
theorem dX8_lineOf_58 : decode cX8_lineOf 58 = .ok (.iconst 4, 1) := by decide +kernel
theorem dX8_lineOf_59 : decode cX8_lineOf 59 = .ok (.isub, 1) := by decide +kernel
theorem dX8_lineOf_60 : decode cX8_lineOf 60 = .ok (.invokevirtual 129, 3) := by decide +kernel
theorem dX8_lineOf_63 : decode cX8_lineOf 63 = .ok (.ireturn, 1) := by decide +kernel
theorem dX8_determinant_0 : decode cX8_determinant 0 = .ok (.aload_n 0, 1) := by decide +kernel
theorem dX8_determinant_1 : decode cX8_determinant 1 = .ok (.getfield 33, 3) := by decide +kernel
theorem dX8_determinant_4 : decode cX8_determinant 4 = .ok (.iconst 0, 1) := by decide +kernel
theorem dX8_determinant_5 : decode cX8_determinant 5 = .ok (.lconst 1, 1) := by decide +kernel
theorem dX8_determinant_6 : decode cX8_determinant 6 = .ok (.lastore, 1) := by decide +kernel
theorem dX8_determinant_7 : decode cX8_determinant 7 = .ok (.iconst 1, 1) := by decide +kernel
theorem dX8_determinant_8 : decode cX8_determinant 8 = .ok (.istore_n 1, 1) := by decide +kernel
theorem dX8_determinant_9 : decode cX8_determinant 9 = .ok (.iload_n 1, 1) := by decide +kernel
theorem dX8_determinant_10 : decode cX8_determinant 10 = .ok (.iconst 1, 1) := by decide +kernel
theorem dX8_determinant_11 : decode cX8_determinant 11 = .ok (.aload_n 0, 1) := by decide +kernel
theorem dX8_determinant_12 : decode cX8_determinant 12 = .ok (.getfield 132, 3) := by decide +kernel
theorem dX8_determinant_15 : decode cX8_determinant 15 = .ok (.ishl, 1) := by decide +kernel
theorem dX8_determinant_16 : decode cX8_determinant 16 = .ok (.if_icmp .ge 131, 3) := by decide +kernel
theorem dX8_determinant_19 : decode cX8_determinant 19 = .ok (.iconst (-1), 1) := by decide +kernel
theorem dX8_determinant_20 : decode cX8_determinant 20 = .ok (.istore_n 2, 1) := by decide +kernel
theorem dX8_determinant_21 : decode cX8_determinant 21 = .ok (.iconst 0, 1) := by decide +kernel
theorem dX8_determinant_22 : decode cX8_determinant 22 = .ok (.istore_n 3, 1) := by decide +kernel
theorem dX8_determinant_23 : decode cX8_determinant 23 = .ok (.iload_n 3, 1) := by decide +kernel
theorem dX8_determinant_24 : decode cX8_determinant 24 = .ok (.aload_n 0, 1) := by decide +kernel
theorem dX8_determinant_25 : decode cX8_determinant 25 = .ok (.getfield 132, 3) := by decide +kernel
theorem dX8_determinant_28 : decode cX8_determinant 28 = .ok (.if_icmp .ge 25, 3) := by decide +kernel
theorem dX8_determinant_31 : decode cX8_determinant 31 = .ok (.iload_n 2, 1) := by decide +kernel
theorem dX8_determinant_32 : decode cX8_determinant 32 = .ok (.iload_n 1, 1) := by decide +kernel
theorem dX8_determinant_33 : decode cX8_determinant 33 = .ok (.iload_n 3, 1) := by decide +kernel
theorem dX8_determinant_34 : decode cX8_determinant 34 = .ok (.invokestatic 135, 3) := by decide +kernel
theorem dX8_determinant_37 : decode cX8_determinant 37 = .ok (.ifCond .eq 7, 3) := by decide +kernel
theorem dX8_determinant_40 : decode cX8_determinant 40 = .ok (.iconst 1, 1) := by decide +kernel
theorem dX8_determinant_41 : decode cX8_determinant 41 = .ok (.goto 4, 3) := by decide +kernel
theorem dX8_determinant_44 : decode cX8_determinant 44 = .ok (.iconst 0, 1) := by decide +kernel
theorem dX8_determinant_45 : decode cX8_determinant 45 = .ok (.iadd, 1) := by decide +kernel
theorem dX8_determinant_46 : decode cX8_determinant 46 = .ok (.istore_n 2, 1) := by decide +kernel
theorem dX8_determinant_47 : decode cX8_determinant 47 = .ok (.iinc 3 1, 3) := by decide +kernel
theorem dX8_determinant_50 : decode cX8_determinant 50 = .ok (.goto (-27), 3) := by decide +kernel
theorem dX8_determinant_53 : decode cX8_determinant 53 = .ok (.lconst 0, 1) := by decide +kernel
theorem dX8_determinant_54 : decode cX8_determinant 54 = .ok (.lstore_n 3, 1) := by decide +kernel
theorem dX8_determinant_55 : decode cX8_determinant 55 = .ok (.iload_n 2, 1) := by decide +kernel
theorem dX8_determinant_56 : decode cX8_determinant 56 = .ok (.istore 5, 2) := by decide +kernel
theorem dX8_determinant_58 : decode cX8_determinant 58 = .ok (.iconst 0, 1) := by decide +kernel
theorem dX8_determinant_59 : decode cX8_determinant 59 = .ok (.istore 6, 2) := by decide +kernel
theorem dX8_determinant_61 : decode cX8_determinant 61 = .ok (.iload 6, 2) := by decide +kernel
theorem dX8_determinant_63 : decode cX8_determinant 63 = .ok (.aload_n 0, 1) := by decide +kernel
theorem dX8_determinant_64 : decode cX8_determinant 64 = .ok (.getfield 132, 3) := by decide +kernel
theorem dX8_determinant_67 : decode cX8_determinant 67 = .ok (.if_icmp .ge 67, 3) := by decide +kernel
theorem dX8_determinant_70 : decode cX8_determinant 70 = .ok (.iload_n 1, 1) := by decide +kernel
theorem dX8_determinant_71 : decode cX8_determinant 71 = .ok (.iload 6, 2) := by decide +kernel
theorem dX8_determinant_73 : decode cX8_determinant 73 = .ok (.invokestatic 135, 3) := by decide +kernel
theorem dX8_determinant_76 : decode cX8_determinant 76 = .ok (.ifCond .eq 52, 3) := by decide +kernel
theorem dX8_determinant_79 : decode cX8_determinant 79 = .ok (.aload_n 0, 1) := by decide +kernel
theorem dX8_determinant_80 : decode cX8_determinant 80 = .ok (.getfield 29, 3) := by decide +kernel
theorem dX8_determinant_83 : decode cX8_determinant 83 = .ok (.bipush 6, 2) := by decide +kernel
theorem dX8_determinant_85 : decode cX8_determinant 85 = .ok (.iload_n 2, 1) := by decide +kernel
theorem dX8_determinant_86 : decode cX8_determinant 86 = .ok (.imul, 1) := by decide +kernel
theorem dX8_determinant_87 : decode cX8_determinant 87 = .ok (.iload 6, 2) := by decide +kernel
theorem dX8_determinant_89 : decode cX8_determinant 89 = .ok (.iadd, 1) := by decide +kernel
theorem dX8_determinant_90 : decode cX8_determinant 90 = .ok (.laload, 1) := by decide +kernel
theorem dX8_determinant_91 : decode cX8_determinant 91 = .ok (.aload_n 0, 1) := by decide +kernel
theorem dX8_determinant_92 : decode cX8_determinant 92 = .ok (.getfield 33, 3) := by decide +kernel
theorem dX8_determinant_95 : decode cX8_determinant 95 = .ok (.iload_n 1, 1) := by decide +kernel
theorem dX8_determinant_96 : decode cX8_determinant 96 = .ok (.iconst 1, 1) := by decide +kernel
theorem dX8_determinant_97 : decode cX8_determinant 97 = .ok (.iload 6, 2) := by decide +kernel
theorem dX8_determinant_99 : decode cX8_determinant 99 = .ok (.ishl, 1) := by decide +kernel
theorem dX8_determinant_100 : decode cX8_determinant 100 = .ok (.iconst (-1), 1) := by decide +kernel
theorem dX8_determinant_101 : decode cX8_determinant 101 = .ok (.ixor, 1) := by decide +kernel
theorem dX8_determinant_102 : decode cX8_determinant 102 = .ok (.iand, 1) := by decide +kernel
theorem dX8_determinant_103 : decode cX8_determinant 103 = .ok (.laload, 1) := by decide +kernel
theorem dX8_determinant_104 : decode cX8_determinant 104 = .ok (.lmul, 1) := by decide +kernel
theorem dX8_determinant_105 : decode cX8_determinant 105 = .ok (.lstore 7, 2) := by decide +kernel
theorem dX8_determinant_107 : decode cX8_determinant 107 = .ok (.lload_n 3, 1) := by decide +kernel
theorem dX8_determinant_108 : decode cX8_determinant 108 = .ok (.iload 5, 2) := by decide +kernel
theorem dX8_determinant_110 : decode cX8_determinant 110 = .ok (.iconst 2, 1) := by decide +kernel
theorem dX8_determinant_111 : decode cX8_determinant 111 = .ok (.irem, 1) := by decide +kernel
theorem dX8_determinant_112 : decode cX8_determinant 112 = .ok (.ifCond .ne 8, 3) := by decide +kernel
theorem dX8_determinant_115 : decode cX8_determinant 115 = .ok (.lload 7, 2) := by decide +kernel
theorem dX8_determinant_117 : decode cX8_determinant 117 = .ok (.goto 6, 3) := by decide +kernel
theorem dX8_determinant_120 : decode cX8_determinant 120 = .ok (.lload 7, 2) := by decide +kernel
theorem dX8_determinant_122 : decode cX8_determinant 122 = .ok (.lneg, 1) := by decide +kernel
theorem dX8_determinant_123 : decode cX8_determinant 123 = .ok (.ladd, 1) := by decide +kernel
theorem dX8_determinant_124 : decode cX8_determinant 124 = .ok (.lstore_n 3, 1) := by decide +kernel
theorem dX8_determinant_125 : decode cX8_determinant 125 = .ok (.iinc 5 (-1), 3) := by decide +kernel
theorem dX8_determinant_128 : decode cX8_determinant 128 = .ok (.iinc 6 1, 3) := by decide +kernel
theorem dX8_determinant_131 : decode cX8_determinant 131 = .ok (.goto (-70), 3) := by decide +kernel
theorem dX8_determinant_134 : decode cX8_determinant 134 = .ok (.aload_n 0, 1) := by decide +kernel
theorem dX8_determinant_135 : decode cX8_determinant 135 = .ok (.getfield 33, 3) := by decide +kernel
theorem dX8_determinant_138 : decode cX8_determinant 138 = .ok (.iload_n 1, 1) := by decide +kernel
theorem dX8_determinant_139 : decode cX8_determinant 139 = .ok (.lload_n 3, 1) := by decide +kernel
theorem dX8_determinant_140 : decode cX8_determinant 140 = .ok (.lastore, 1) := by decide +kernel
theorem dX8_determinant_141 : decode cX8_determinant 141 = .ok (.iinc 1 1, 3) := by decide +kernel
theorem dX8_determinant_144 : decode cX8_determinant 144 = .ok (.goto (-135), 3) := by decide +kernel
theorem dX8_determinant_147 : decode cX8_determinant 147 = .ok (.aload_n 0, 1) := by decide +kernel
theorem dX8_determinant_148 : decode cX8_determinant 148 = .ok (.getfield 33, 3) := by decide +kernel
theorem dX8_determinant_151 : decode cX8_determinant 151 = .ok (.iconst 1, 1) := by decide +kernel
theorem dX8_determinant_152 : decode cX8_determinant 152 = .ok (.aload_n 0, 1) := by decide +kernel
theorem dX8_determinant_153 : decode cX8_determinant 153 = .ok (.getfield 132, 3) := by decide +kernel
theorem dX8_determinant_156 : decode cX8_determinant 156 = .ok (.ishl, 1) := by decide +kernel
theorem dX8_determinant_157 : decode cX8_determinant 157 = .ok (.iconst 1, 1) := by decide +kernel
theorem dX8_determinant_158 : decode cX8_determinant 158 = .ok (.isub, 1) := by decide +kernel
theorem dX8_determinant_159 : decode cX8_determinant 159 = .ok (.laload, 1) := by decide +kernel
theorem dX8_determinant_160 : decode cX8_determinant 160 = .ok (.lreturn, 1) := by decide +kernel
theorem dX8_minorOf_0 : decode cX8_minorOf 0 = .ok (.aload_n 0, 1) := by decide +kernel
theorem dX8_minorOf_1 : decode cX8_minorOf 1 = .ok (.iload_n 1, 1) := by decide +kernel
theorem dX8_minorOf_2 : decode cX8_minorOf 2 = .ok (.putfield 132, 3) := by decide +kernel
theorem dX8_minorOf_5 : decode cX8_minorOf 5 = .ok (.iconst 0, 1) := by decide +kernel
theorem dX8_minorOf_6 : decode cX8_minorOf 6 = .ok (.istore_n 2, 1) := by decide +kernel
theorem dX8_minorOf_7 : decode cX8_minorOf 7 = .ok (.iload_n 2, 1) := by decide +kernel
theorem dX8_minorOf_8 : decode cX8_minorOf 8 = .ok (.iload_n 1, 1) := by decide +kernel
theorem dX8_minorOf_9 : decode cX8_minorOf 9 = .ok (.if_icmp .ge 44, 3) := by decide +kernel
theorem dX8_minorOf_12 : decode cX8_minorOf 12 = .ok (.iconst 0, 1) := by decide +kernel
theorem dX8_minorOf_13 : decode cX8_minorOf 13 = .ok (.istore_n 3, 1) := by decide +kernel
theorem dX8_minorOf_14 : decode cX8_minorOf 14 = .ok (.iload_n 3, 1) := by decide +kernel
theorem dX8_minorOf_15 : decode cX8_minorOf 15 = .ok (.iload_n 1, 1) := by decide +kernel
theorem dX8_minorOf_16 : decode cX8_minorOf 16 = .ok (.if_icmp .ge 31, 3) := by decide +kernel
theorem dX8_minorOf_19 : decode cX8_minorOf 19 = .ok (.aload_n 0, 1) := by decide +kernel
theorem dX8_minorOf_20 : decode cX8_minorOf 20 = .ok (.getfield 29, 3) := by decide +kernel
theorem dX8_minorOf_23 : decode cX8_minorOf 23 = .ok (.bipush 6, 2) := by decide +kernel
theorem dX8_minorOf_25 : decode cX8_minorOf 25 = .ok (.iload_n 2, 1) := by decide +kernel
theorem dX8_minorOf_26 : decode cX8_minorOf 26 = .ok (.imul, 1) := by decide +kernel
theorem dX8_minorOf_27 : decode cX8_minorOf 27 = .ok (.iload_n 3, 1) := by decide +kernel
theorem dX8_minorOf_28 : decode cX8_minorOf 28 = .ok (.iadd, 1) := by decide +kernel
theorem dX8_minorOf_29 : decode cX8_minorOf 29 = .ok (.aload_n 0, 1) := by decide +kernel
theorem dX8_minorOf_30 : decode cX8_minorOf 30 = .ok (.getfield 13, 3) := by decide +kernel
theorem dX8_minorOf_33 : decode cX8_minorOf 33 = .ok (.iconst 3, 1) := by decide +kernel
theorem dX8_minorOf_34 : decode cX8_minorOf 34 = .ok (.iload_n 2, 1) := by decide +kernel
theorem dX8_minorOf_35 : decode cX8_minorOf 35 = .ok (.imul, 1) := by decide +kernel
theorem dX8_minorOf_36 : decode cX8_minorOf 36 = .ok (.iload_n 3, 1) := by decide +kernel
theorem dX8_minorOf_37 : decode cX8_minorOf 37 = .ok (.iadd, 1) := by decide +kernel
theorem dX8_minorOf_38 : decode cX8_minorOf 38 = .ok (.iaload, 1) := by decide +kernel
theorem dX8_minorOf_39 : decode cX8_minorOf 39 = .ok (.i2l, 1) := by decide +kernel
theorem dX8_minorOf_40 : decode cX8_minorOf 40 = .ok (.lastore, 1) := by decide +kernel
theorem dX8_minorOf_41 : decode cX8_minorOf 41 = .ok (.iinc 3 1, 3) := by decide +kernel
theorem dX8_minorOf_44 : decode cX8_minorOf 44 = .ok (.goto (-30), 3) := by decide +kernel
theorem dX8_minorOf_47 : decode cX8_minorOf 47 = .ok (.iinc 2 1, 3) := by decide +kernel
theorem dX8_minorOf_50 : decode cX8_minorOf 50 = .ok (.goto (-43), 3) := by decide +kernel
theorem dX8_minorOf_53 : decode cX8_minorOf 53 = .ok (.aload_n 0, 1) := by decide +kernel
theorem dX8_minorOf_54 : decode cX8_minorOf 54 = .ok (.invokevirtual 139, 3) := by decide +kernel
theorem dX8_minorOf_57 : decode cX8_minorOf 57 = .ok (.l2i, 1) := by decide +kernel
theorem dX8_minorOf_58 : decode cX8_minorOf 58 = .ok (.ireturn, 1) := by decide +kernel
theorem dX8_minor_0 : decode cX8_minor 0 = .ok (.iload_n 1, 1) := by decide +kernel
theorem dX8_minor_1 : decode cX8_minor 1 = .ok (.i2l, 1) := by decide +kernel
theorem dX8_minor_2 : decode cX8_minor 2 = .ok (.lconst 1, 1) := by decide +kernel
theorem dX8_minor_3 : decode cX8_minor 3 = .ok (.aload_n 0, 1) := by decide +kernel
theorem dX8_minor_4 : decode cX8_minor 4 = .ok (.getfield 7, 3) := by decide +kernel
theorem dX8_minor_7 : decode cX8_minor 7 = .ok (.i2l, 1) := by decide +kernel
theorem dX8_minor_8 : decode cX8_minor 8 = .ok (.invokestatic 84, 3) := by decide +kernel
theorem dX8_minor_11 : decode cX8_minor 11 = .ok (.ifCond .eq 11, 3) := by decide +kernel
theorem dX8_minor_14 : decode cX8_minor 14 = .ok (.aload_n 0, 1) := by decide +kernel
theorem dX8_minor_15 : decode cX8_minor 15 = .ok (.iload_n 1, 1) := by decide +kernel
theorem dX8_minor_16 : decode cX8_minor 16 = .ok (.invokevirtual 143, 3) := by decide +kernel
theorem dX8_minor_19 : decode cX8_minor 19 = .ok (.goto 5, 3) := by decide +kernel
theorem dX8_minor_22 : decode cX8_minor 22 = .ok (.bipush (-2), 2) := by decide +kernel
theorem dX8_minor_24 : decode cX8_minor 24 = .ok (.ireturn, 1) := by decide +kernel
theorem dX8_proper_0 : decode cX8_proper 0 = .ok (.iconst 1, 1) := by decide +kernel
theorem dX8_proper_1 : decode cX8_proper 1 = .ok (.istore_n 1, 1) := by decide +kernel
theorem dX8_proper_2 : decode cX8_proper 2 = .ok (.iconst 1, 1) := by decide +kernel
theorem dX8_proper_3 : decode cX8_proper 3 = .ok (.istore_n 2, 1) := by decide +kernel
theorem dX8_proper_4 : decode cX8_proper 4 = .ok (.iload_n 2, 1) := by decide +kernel
theorem dX8_proper_5 : decode cX8_proper 5 = .ok (.aload_n 0, 1) := by decide +kernel
theorem dX8_proper_6 : decode cX8_proper 6 = .ok (.getfield 7, 3) := by decide +kernel
theorem dX8_proper_9 : decode cX8_proper 9 = .ok (.if_icmp .gt 25, 3) := by decide +kernel
theorem dX8_proper_12 : decode cX8_proper 12 = .ok (.iload_n 1, 1) := by decide +kernel
theorem dX8_proper_13 : decode cX8_proper 13 = .ok (.aload_n 0, 1) := by decide +kernel
theorem dX8_proper_14 : decode cX8_proper 14 = .ok (.iload_n 2, 1) := by decide +kernel
theorem dX8_proper_15 : decode cX8_proper 15 = .ok (.invokevirtual 143, 3) := by decide +kernel
theorem dX8_proper_18 : decode cX8_proper 18 = .ok (.ifCond .le 7, 3) := by decide +kernel
theorem dX8_proper_21 : decode cX8_proper 21 = .ok (.iconst 1, 1) := by decide +kernel
theorem dX8_proper_22 : decode cX8_proper 22 = .ok (.goto 4, 3) := by decide +kernel
theorem dX8_proper_25 : decode cX8_proper 25 = .ok (.iconst 0, 1) := by decide +kernel
theorem dX8_proper_26 : decode cX8_proper 26 = .ok (.iand, 1) := by decide +kernel
theorem dX8_proper_27 : decode cX8_proper 27 = .ok (.istore_n 1, 1) := by decide +kernel
theorem dX8_proper_28 : decode cX8_proper 28 = .ok (.iinc 2 1, 3) := by decide +kernel
theorem dX8_proper_31 : decode cX8_proper 31 = .ok (.goto (-27), 3) := by decide +kernel
theorem dX8_proper_34 : decode cX8_proper 34 = .ok (.iload_n 1, 1) := by decide +kernel
theorem dX8_proper_35 : decode cX8_proper 35 = .ok (.ireturn, 1) := by decide +kernel
theorem dX8_isProper_0 : decode cX8_isProper 0 = .ok (.aload_n 0, 1) := by decide +kernel
theorem dX8_isProper_1 : decode cX8_isProper 1 = .ok (.invokevirtual 146, 3) := by decide +kernel
theorem dX8_isProper_4 : decode cX8_isProper 4 = .ok (.ifCond .eq 7, 3) := by decide +kernel
theorem dX8_isProper_7 : decode cX8_isProper 7 = .ok (.iconst 1, 1) := by decide +kernel
theorem dX8_isProper_8 : decode cX8_isProper 8 = .ok (.goto 4, 3) := by decide +kernel
theorem dX8_isProper_11 : decode cX8_isProper 11 = .ok (.iconst 0, 1) := by decide +kernel
theorem dX8_isProper_12 : decode cX8_isProper 12 = .ok (.ireturn, 1) := by decide +kernel
theorem dX8_laysCells_0 : decode cX8_laysCells 0 = .ok (.aload_n 0, 1) := by decide +kernel
theorem dX8_laysCells_1 : decode cX8_laysCells 1 = .ok (.aload_n 0, 1) := by decide +kernel
theorem dX8_laysCells_2 : decode cX8_laysCells 2 = .ok (.getfield 7, 3) := by decide +kernel
theorem dX8_laysCells_5 : decode cX8_laysCells 5 = .ok (.iload_n 1, 1) := by decide +kernel
theorem dX8_laysCells_6 : decode cX8_laysCells 6 = .ok (.iadd, 1) := by decide +kernel
theorem dX8_laysCells_7 : decode cX8_laysCells 7 = .ok (.putfield 132, 3) := by decide +kernel
theorem dX8_laysCells_10 : decode cX8_laysCells 10 = .ok (.iconst 0, 1) := by decide +kernel
theorem dX8_laysCells_11 : decode cX8_laysCells 11 = .ok (.istore_n 2, 1) := by decide +kernel
theorem dX8_laysCells_12 : decode cX8_laysCells 12 = .ok (.iload_n 2, 1) := by decide +kernel
theorem dX8_laysCells_13 : decode cX8_laysCells 13 = .ok (.aload_n 0, 1) := by decide +kernel
theorem dX8_laysCells_14 : decode cX8_laysCells 14 = .ok (.getfield 132, 3) := by decide +kernel
theorem dX8_laysCells_17 : decode cX8_laysCells 17 = .ok (.if_icmp .ge 123, 3) := by decide +kernel
theorem dX8_laysCells_20 : decode cX8_laysCells 20 = .ok (.iconst 0, 1) := by decide +kernel
theorem dX8_laysCells_21 : decode cX8_laysCells 21 = .ok (.istore_n 3, 1) := by decide +kernel
theorem dX8_laysCells_22 : decode cX8_laysCells 22 = .ok (.iload_n 3, 1) := by decide +kernel
theorem dX8_laysCells_23 : decode cX8_laysCells 23 = .ok (.aload_n 0, 1) := by decide +kernel
theorem dX8_laysCells_24 : decode cX8_laysCells 24 = .ok (.getfield 132, 3) := by decide +kernel
theorem dX8_laysCells_27 : decode cX8_laysCells 27 = .ok (.if_icmp .ge 107, 3) := by decide +kernel
theorem dX8_laysCells_30 : decode cX8_laysCells 30 = .ok (.aload_n 0, 1) := by decide +kernel
theorem dX8_laysCells_31 : decode cX8_laysCells 31 = .ok (.getfield 29, 3) := by decide +kernel
theorem dX8_laysCells_34 : decode cX8_laysCells 34 = .ok (.bipush 6, 2) := by decide +kernel
theorem dX8_laysCells_36 : decode cX8_laysCells 36 = .ok (.iload_n 2, 1) := by decide +kernel
theorem dX8_laysCells_37 : decode cX8_laysCells 37 = .ok (.imul, 1) := by decide +kernel
theorem dX8_laysCells_38 : decode cX8_laysCells 38 = .ok (.iload_n 3, 1) := by decide +kernel
theorem dX8_laysCells_39 : decode cX8_laysCells 39 = .ok (.iadd, 1) := by decide +kernel
theorem dX8_laysCells_40 : decode cX8_laysCells 40 = .ok (.iload_n 2, 1) := by decide +kernel
theorem dX8_laysCells_41 : decode cX8_laysCells 41 = .ok (.aload_n 0, 1) := by decide +kernel
theorem dX8_laysCells_42 : decode cX8_laysCells 42 = .ok (.getfield 7, 3) := by decide +kernel
theorem dX8_laysCells_45 : decode cX8_laysCells 45 = .ok (.if_icmp .ge 25, 3) := by decide +kernel
theorem dX8_laysCells_48 : decode cX8_laysCells 48 = .ok (.iload_n 3, 1) := by decide +kernel
theorem dX8_laysCells_49 : decode cX8_laysCells 49 = .ok (.aload_n 0, 1) := by decide +kernel
theorem dX8_laysCells_50 : decode cX8_laysCells 50 = .ok (.getfield 7, 3) := by decide +kernel
theorem dX8_laysCells_53 : decode cX8_laysCells 53 = .ok (.if_icmp .ge 17, 3) := by decide +kernel
theorem dX8_laysCells_56 : decode cX8_laysCells 56 = .ok (.aload_n 0, 1) := by decide +kernel
theorem dX8_laysCells_57 : decode cX8_laysCells 57 = .ok (.getfield 13, 3) := by decide +kernel
theorem dX8_laysCells_60 : decode cX8_laysCells 60 = .ok (.iconst 3, 1) := by decide +kernel
theorem dX8_laysCells_61 : decode cX8_laysCells 61 = .ok (.iload_n 2, 1) := by decide +kernel
theorem dX8_laysCells_62 : decode cX8_laysCells 62 = .ok (.imul, 1) := by decide +kernel
theorem dX8_laysCells_63 : decode cX8_laysCells 63 = .ok (.iload_n 3, 1) := by decide +kernel
theorem dX8_laysCells_64 : decode cX8_laysCells 64 = .ok (.iadd, 1) := by decide +kernel
theorem dX8_laysCells_65 : decode cX8_laysCells 65 = .ok (.iaload, 1) := by decide +kernel
theorem dX8_laysCells_66 : decode cX8_laysCells 66 = .ok (.i2l, 1) := by decide +kernel
theorem dX8_laysCells_67 : decode cX8_laysCells 67 = .ok (.goto 60, 3) := by decide +kernel
theorem dX8_laysCells_70 : decode cX8_laysCells 70 = .ok (.iload_n 2, 1) := by decide +kernel
theorem dX8_laysCells_71 : decode cX8_laysCells 71 = .ok (.aload_n 0, 1) := by decide +kernel
theorem dX8_laysCells_72 : decode cX8_laysCells 72 = .ok (.getfield 7, 3) := by decide +kernel
theorem dX8_laysCells_75 : decode cX8_laysCells 75 = .ok (.if_icmp .ge 23, 3) := by decide +kernel
theorem dX8_laysCells_78 : decode cX8_laysCells 78 = .ok (.aload_n 0, 1) := by decide +kernel
theorem dX8_laysCells_79 : decode cX8_laysCells 79 = .ok (.aload_n 0, 1) := by decide +kernel
theorem dX8_laysCells_80 : decode cX8_laysCells 80 = .ok (.getfield 48, 3) := by decide +kernel
theorem dX8_laysCells_83 : decode cX8_laysCells 83 = .ok (.iload_n 3, 1) := by decide +kernel
theorem dX8_laysCells_84 : decode cX8_laysCells 84 = .ok (.aload_n 0, 1) := by decide +kernel
theorem dX8_laysCells_85 : decode cX8_laysCells 85 = .ok (.getfield 7, 3) := by decide +kernel
theorem dX8_laysCells_88 : decode cX8_laysCells 88 = .ok (.isub, 1) := by decide +kernel
theorem dX8_laysCells_89 : decode cX8_laysCells 89 = .ok (.iaload, 1) := by decide +kernel
theorem dX8_laysCells_90 : decode cX8_laysCells 90 = .ok (.iload_n 2, 1) := by decide +kernel
theorem dX8_laysCells_91 : decode cX8_laysCells 91 = .ok (.invokevirtual 129, 3) := by decide +kernel
theorem dX8_laysCells_94 : decode cX8_laysCells 94 = .ok (.i2l, 1) := by decide +kernel
theorem dX8_laysCells_95 : decode cX8_laysCells 95 = .ok (.goto 32, 3) := by decide +kernel
theorem dX8_laysCells_98 : decode cX8_laysCells 98 = .ok (.iload_n 3, 1) := by decide +kernel
theorem dX8_laysCells_99 : decode cX8_laysCells 99 = .ok (.aload_n 0, 1) := by decide +kernel
theorem dX8_laysCells_100 : decode cX8_laysCells 100 = .ok (.getfield 7, 3) := by decide +kernel
theorem dX8_laysCells_103 : decode cX8_laysCells 103 = .ok (.if_icmp .ge 23, 3) := by decide +kernel
theorem dX8_laysCells_106 : decode cX8_laysCells 106 = .ok (.aload_n 0, 1) := by decide +kernel
theorem dX8_laysCells_107 : decode cX8_laysCells 107 = .ok (.aload_n 0, 1) := by decide +kernel
theorem dX8_laysCells_108 : decode cX8_laysCells 108 = .ok (.getfield 48, 3) := by decide +kernel
theorem dX8_laysCells_111 : decode cX8_laysCells 111 = .ok (.iload_n 2, 1) := by decide +kernel
theorem dX8_laysCells_112 : decode cX8_laysCells 112 = .ok (.aload_n 0, 1) := by decide +kernel
theorem dX8_laysCells_113 : decode cX8_laysCells 113 = .ok (.getfield 7, 3) := by decide +kernel
theorem dX8_laysCells_116 : decode cX8_laysCells 116 = .ok (.isub, 1) := by decide +kernel
theorem dX8_laysCells_117 : decode cX8_laysCells 117 = .ok (.iaload, 1) := by decide +kernel
theorem dX8_laysCells_118 : decode cX8_laysCells 118 = .ok (.iload_n 3, 1) := by decide +kernel
theorem dX8_laysCells_119 : decode cX8_laysCells 119 = .ok (.invokevirtual 129, 3) := by decide +kernel
theorem dX8_laysCells_122 : decode cX8_laysCells 122 = .ok (.i2l, 1) := by decide +kernel
theorem dX8_laysCells_123 : decode cX8_laysCells 123 = .ok (.goto 4, 3) := by decide +kernel
theorem dX8_laysCells_126 : decode cX8_laysCells 126 = .ok (.lconst 0, 1) := by decide +kernel
theorem dX8_laysCells_127 : decode cX8_laysCells 127 = .ok (.lastore, 1) := by decide +kernel
theorem dX8_laysCells_128 : decode cX8_laysCells 128 = .ok (.iinc 3 1, 3) := by decide +kernel
theorem dX8_laysCells_131 : decode cX8_laysCells 131 = .ok (.goto (-109), 3) := by decide +kernel
theorem dX8_laysCells_134 : decode cX8_laysCells 134 = .ok (.iinc 2 1, 3) := by decide +kernel
theorem dX8_laysCells_137 : decode cX8_laysCells 137 = .ok (.goto (-125), 3) := by decide +kernel
theorem dX8_laysCells_140 : decode cX8_laysCells 140 = .ok (.return_, 1) := by decide +kernel
theorem dX8_instead_0 : decode cX8_instead 0 = .ok (.iconst 0, 1) := by decide +kernel
theorem dX8_instead_1 : decode cX8_instead 1 = .ok (.istore_n 2, 1) := by decide +kernel
theorem dX8_instead_2 : decode cX8_instead 2 = .ok (.iload_n 2, 1) := by decide +kernel
theorem dX8_instead_3 : decode cX8_instead 3 = .ok (.aload_n 0, 1) := by decide +kernel
theorem dX8_instead_4 : decode cX8_instead 4 = .ok (.getfield 132, 3) := by decide +kernel
theorem dX8_instead_7 : decode cX8_instead 7 = .ok (.if_icmp .ge 45, 3) := by decide +kernel
theorem dX8_instead_10 : decode cX8_instead 10 = .ok (.aload_n 0, 1) := by decide +kernel
theorem dX8_instead_11 : decode cX8_instead 11 = .ok (.getfield 29, 3) := by decide +kernel
theorem dX8_instead_14 : decode cX8_instead 14 = .ok (.bipush 6, 2) := by decide +kernel
theorem dX8_instead_16 : decode cX8_instead 16 = .ok (.iload_n 2, 1) := by decide +kernel
theorem dX8_instead_17 : decode cX8_instead 17 = .ok (.imul, 1) := by decide +kernel
theorem dX8_instead_18 : decode cX8_instead 18 = .ok (.iload_n 1, 1) := by decide +kernel
theorem dX8_instead_19 : decode cX8_instead 19 = .ok (.iadd, 1) := by decide +kernel
theorem dX8_instead_20 : decode cX8_instead 20 = .ok (.laload, 1) := by decide +kernel
theorem dX8_instead_21 : decode cX8_instead 21 = .ok (.lstore_n 3, 1) := by decide +kernel
theorem dX8_instead_22 : decode cX8_instead 22 = .ok (.aload_n 0, 1) := by decide +kernel
theorem dX8_instead_23 : decode cX8_instead 23 = .ok (.getfield 29, 3) := by decide +kernel
theorem dX8_instead_26 : decode cX8_instead 26 = .ok (.bipush 6, 2) := by decide +kernel
theorem dX8_instead_28 : decode cX8_instead 28 = .ok (.iload_n 2, 1) := by decide +kernel
theorem dX8_instead_29 : decode cX8_instead 29 = .ok (.imul, 1) := by decide +kernel
theorem dX8_instead_30 : decode cX8_instead 30 = .ok (.iload_n 1, 1) := by decide +kernel
theorem dX8_instead_31 : decode cX8_instead 31 = .ok (.iadd, 1) := by decide +kernel
theorem dX8_instead_32 : decode cX8_instead 32 = .ok (.aload_n 0, 1) := by decide +kernel
theorem dX8_instead_33 : decode cX8_instead 33 = .ok (.getfield 51, 3) := by decide +kernel
theorem dX8_instead_36 : decode cX8_instead 36 = .ok (.iload_n 2, 1) := by decide +kernel
theorem dX8_instead_37 : decode cX8_instead 37 = .ok (.laload, 1) := by decide +kernel
theorem dX8_instead_38 : decode cX8_instead 38 = .ok (.lastore, 1) := by decide +kernel
theorem dX8_instead_39 : decode cX8_instead 39 = .ok (.aload_n 0, 1) := by decide +kernel
theorem dX8_instead_40 : decode cX8_instead 40 = .ok (.getfield 51, 3) := by decide +kernel
theorem dX8_instead_43 : decode cX8_instead 43 = .ok (.iload_n 2, 1) := by decide +kernel
theorem dX8_instead_44 : decode cX8_instead 44 = .ok (.lload_n 3, 1) := by decide +kernel
theorem dX8_instead_45 : decode cX8_instead 45 = .ok (.lastore, 1) := by decide +kernel
theorem dX8_instead_46 : decode cX8_instead 46 = .ok (.iinc 2 1, 3) := by decide +kernel
theorem dX8_instead_49 : decode cX8_instead 49 = .ok (.goto (-47), 3) := by decide +kernel
theorem dX8_instead_52 : decode cX8_instead 52 = .ok (.aload_n 0, 1) := by decide +kernel
theorem dX8_instead_53 : decode cX8_instead 53 = .ok (.invokevirtual 139, 3) := by decide +kernel
theorem dX8_instead_56 : decode cX8_instead 56 = .ok (.lstore_n 2, 1) := by decide +kernel
theorem dX8_instead_57 : decode cX8_instead 57 = .ok (.iconst 0, 1) := by decide +kernel
theorem dX8_instead_58 : decode cX8_instead 58 = .ok (.istore 4, 2) := by decide +kernel
theorem dX8_instead_60 : decode cX8_instead 60 = .ok (.iload 4, 2) := by decide +kernel
theorem dX8_instead_62 : decode cX8_instead 62 = .ok (.aload_n 0, 1) := by decide +kernel
theorem dX8_instead_63 : decode cX8_instead 63 = .ok (.getfield 132, 3) := by decide +kernel
theorem dX8_instead_66 : decode cX8_instead 66 = .ok (.if_icmp .ge 51, 3) := by decide +kernel
theorem dX8_instead_69 : decode cX8_instead 69 = .ok (.aload_n 0, 1) := by decide +kernel
theorem dX8_instead_70 : decode cX8_instead 70 = .ok (.getfield 29, 3) := by decide +kernel
theorem dX8_instead_73 : decode cX8_instead 73 = .ok (.bipush 6, 2) := by decide +kernel
theorem dX8_instead_75 : decode cX8_instead 75 = .ok (.iload 4, 2) := by decide +kernel
theorem dX8_instead_77 : decode cX8_instead 77 = .ok (.imul, 1) := by decide +kernel
theorem dX8_instead_78 : decode cX8_instead 78 = .ok (.iload_n 1, 1) := by decide +kernel
theorem dX8_instead_79 : decode cX8_instead 79 = .ok (.iadd, 1) := by decide +kernel
theorem dX8_instead_80 : decode cX8_instead 80 = .ok (.laload, 1) := by decide +kernel
theorem dX8_instead_81 : decode cX8_instead 81 = .ok (.lstore 5, 2) := by decide +kernel
theorem dX8_instead_83 : decode cX8_instead 83 = .ok (.aload_n 0, 1) := by decide +kernel
theorem dX8_instead_84 : decode cX8_instead 84 = .ok (.getfield 29, 3) := by decide +kernel
theorem dX8_instead_87 : decode cX8_instead 87 = .ok (.bipush 6, 2) := by decide +kernel
theorem dX8_instead_89 : decode cX8_instead 89 = .ok (.iload 4, 2) := by decide +kernel
theorem dX8_instead_91 : decode cX8_instead 91 = .ok (.imul, 1) := by decide +kernel
theorem dX8_instead_92 : decode cX8_instead 92 = .ok (.iload_n 1, 1) := by decide +kernel
theorem dX8_instead_93 : decode cX8_instead 93 = .ok (.iadd, 1) := by decide +kernel
theorem dX8_instead_94 : decode cX8_instead 94 = .ok (.aload_n 0, 1) := by decide +kernel
theorem dX8_instead_95 : decode cX8_instead 95 = .ok (.getfield 51, 3) := by decide +kernel
theorem dX8_instead_98 : decode cX8_instead 98 = .ok (.iload 4, 2) := by decide +kernel
theorem dX8_instead_100 : decode cX8_instead 100 = .ok (.laload, 1) := by decide +kernel
theorem dX8_instead_101 : decode cX8_instead 101 = .ok (.lastore, 1) := by decide +kernel
theorem dX8_instead_102 : decode cX8_instead 102 = .ok (.aload_n 0, 1) := by decide +kernel
theorem dX8_instead_103 : decode cX8_instead 103 = .ok (.getfield 51, 3) := by decide +kernel
theorem dX8_instead_106 : decode cX8_instead 106 = .ok (.iload 4, 2) := by decide +kernel
theorem dX8_instead_108 : decode cX8_instead 108 = .ok (.lload 5, 2) := by decide +kernel
theorem dX8_instead_110 : decode cX8_instead 110 = .ok (.lastore, 1) := by decide +kernel
theorem dX8_instead_111 : decode cX8_instead 111 = .ok (.iinc 4 1, 3) := by decide +kernel
theorem dX8_instead_114 : decode cX8_instead 114 = .ok (.goto (-54), 3) := by decide +kernel
theorem dX8_instead_117 : decode cX8_instead 117 = .ok (.lload_n 2, 1) := by decide +kernel
theorem dX8_instead_118 : decode cX8_instead 118 = .ok (.lreturn, 1) := by decide +kernel
theorem dX8_laysSome_0 : decode cX8_laysSome 0 = .ok (.iconst 0, 1) := by decide +kernel
theorem dX8_laysSome_1 : decode cX8_laysSome 1 = .ok (.istore_n 2, 1) := by decide +kernel
theorem dX8_laysSome_2 : decode cX8_laysSome 2 = .ok (.iconst 0, 1) := by decide +kernel
theorem dX8_laysSome_3 : decode cX8_laysSome 3 = .ok (.istore_n 3, 1) := by decide +kernel
theorem dX8_laysSome_4 : decode cX8_laysSome 4 = .ok (.iload_n 3, 1) := by decide +kernel
theorem dX8_laysSome_5 : decode cX8_laysSome 5 = .ok (.aload_n 0, 1) := by decide +kernel
theorem dX8_laysSome_6 : decode cX8_laysSome 6 = .ok (.getfield 88, 3) := by decide +kernel
theorem dX8_laysSome_9 : decode cX8_laysSome 9 = .ok (.if_icmp .ge 27, 3) := by decide +kernel
theorem dX8_laysSome_12 : decode cX8_laysSome 12 = .ok (.iload_n 1, 1) := by decide +kernel
theorem dX8_laysSome_13 : decode cX8_laysSome 13 = .ok (.iload_n 3, 1) := by decide +kernel
theorem dX8_laysSome_14 : decode cX8_laysSome 14 = .ok (.invokestatic 135, 3) := by decide +kernel
theorem dX8_laysSome_17 : decode cX8_laysSome 17 = .ok (.ifCond .eq 13, 3) := by decide +kernel
theorem dX8_laysSome_20 : decode cX8_laysSome 20 = .ok (.aload_n 0, 1) := by decide +kernel
theorem dX8_laysSome_21 : decode cX8_laysSome 21 = .ok (.getfield 48, 3) := by decide +kernel
theorem dX8_laysSome_24 : decode cX8_laysSome 24 = .ok (.iload_n 2, 1) := by decide +kernel
theorem dX8_laysSome_25 : decode cX8_laysSome 25 = .ok (.iload_n 3, 1) := by decide +kernel
theorem dX8_laysSome_26 : decode cX8_laysSome 26 = .ok (.iastore, 1) := by decide +kernel
theorem dX8_laysSome_27 : decode cX8_laysSome 27 = .ok (.iinc 2 1, 3) := by decide +kernel
theorem dX8_laysSome_30 : decode cX8_laysSome 30 = .ok (.iinc 3 1, 3) := by decide +kernel
theorem dX8_laysSome_33 : decode cX8_laysSome 33 = .ok (.goto (-29), 3) := by decide +kernel
theorem dX8_laysSome_36 : decode cX8_laysSome 36 = .ok (.iload_n 2, 1) := by decide +kernel
theorem dX8_laysSome_37 : decode cX8_laysSome 37 = .ok (.ireturn, 1) := by decide +kernel
theorem dX8_tells_0 : decode cX8_tells 0 = .ok (.iconst 0, 1) := by decide +kernel
theorem dX8_tells_1 : decode cX8_tells 1 = .ok (.istore 5, 2) := by decide +kernel
theorem dX8_tells_3 : decode cX8_tells 3 = .ok (.iload 5, 2) := by decide +kernel
theorem dX8_tells_5 : decode cX8_tells 5 = .ok (.bipush 6, 2) := by decide +kernel
theorem dX8_tells_7 : decode cX8_tells 7 = .ok (.if_icmp .ge 14, 3) := by decide +kernel
theorem dX8_tells_10 : decode cX8_tells 10 = .ok (.aload_n 2, 1) := by decide +kernel
theorem dX8_tells_11 : decode cX8_tells 11 = .ok (.iload 5, 2) := by decide +kernel
theorem dX8_tells_13 : decode cX8_tells 13 = .ok (.lconst 0, 1) := by decide +kernel
theorem dX8_tells_14 : decode cX8_tells 14 = .ok (.lastore, 1) := by decide +kernel
theorem dX8_tells_15 : decode cX8_tells 15 = .ok (.iinc 5 1, 3) := by decide +kernel
theorem dX8_tells_18 : decode cX8_tells 18 = .ok (.goto (-15), 3) := by decide +kernel
theorem dX8_tells_21 : decode cX8_tells 21 = .ok (.iconst 0, 1) := by decide +kernel
theorem dX8_tells_22 : decode cX8_tells 22 = .ok (.istore 5, 2) := by decide +kernel
theorem dX8_tells_24 : decode cX8_tells 24 = .ok (.iload 5, 2) := by decide +kernel
theorem dX8_tells_26 : decode cX8_tells 26 = .ok (.aload_n 0, 1) := by decide +kernel
theorem dX8_tells_27 : decode cX8_tells 27 = .ok (.getfield 7, 3) := by decide +kernel
theorem dX8_tells_30 : decode cX8_tells 30 = .ok (.iload_n 3, 1) := by decide +kernel
theorem dX8_tells_31 : decode cX8_tells 31 = .ok (.iadd, 1) := by decide +kernel
theorem dX8_tells_32 : decode cX8_tells 32 = .ok (.if_icmp .ge 66, 3) := by decide +kernel
theorem dX8_tells_35 : decode cX8_tells 35 = .ok (.iload 4, 2) := by decide +kernel
theorem dX8_tells_37 : decode cX8_tells 37 = .ok (.ifCond .eq 13, 3) := by decide +kernel
theorem dX8_tells_40 : decode cX8_tells 40 = .ok (.aload_n 0, 1) := by decide +kernel
theorem dX8_tells_41 : decode cX8_tells 41 = .ok (.iload 5, 2) := by decide +kernel
theorem dX8_tells_43 : decode cX8_tells 43 = .ok (.invokevirtual 150, 3) := by decide +kernel
theorem dX8_tells_46 : decode cX8_tells 46 = .ok (.lneg, 1) := by decide +kernel
theorem dX8_tells_47 : decode cX8_tells 47 = .ok (.goto 9, 3) := by decide +kernel
theorem dX8_tells_50 : decode cX8_tells 50 = .ok (.aload_n 0, 1) := by decide +kernel
theorem dX8_tells_51 : decode cX8_tells 51 = .ok (.iload 5, 2) := by decide +kernel
theorem dX8_tells_53 : decode cX8_tells 53 = .ok (.invokevirtual 150, 3) := by decide +kernel
theorem dX8_tells_56 : decode cX8_tells 56 = .ok (.lstore 6, 2) := by decide +kernel
theorem dX8_tells_58 : decode cX8_tells 58 = .ok (.iload 5, 2) := by decide +kernel
theorem dX8_tells_60 : decode cX8_tells 60 = .ok (.aload_n 0, 1) := by decide +kernel
theorem dX8_tells_61 : decode cX8_tells 61 = .ok (.getfield 7, 3) := by decide +kernel
theorem dX8_tells_64 : decode cX8_tells 64 = .ok (.if_icmp .ge 12, 3) := by decide +kernel
theorem dX8_tells_67 : decode cX8_tells 67 = .ok (.aload_n 1, 1) := by decide +kernel
theorem dX8_tells_68 : decode cX8_tells 68 = .ok (.iload 5, 2) := by decide +kernel
theorem dX8_tells_70 : decode cX8_tells 70 = .ok (.lload 6, 2) := by decide +kernel
theorem dX8_tells_72 : decode cX8_tells 72 = .ok (.lastore, 1) := by decide +kernel
theorem dX8_tells_73 : decode cX8_tells 73 = .ok (.goto 19, 3) := by decide +kernel
theorem dX8_tells_76 : decode cX8_tells 76 = .ok (.aload_n 2, 1) := by decide +kernel
theorem dX8_tells_77 : decode cX8_tells 77 = .ok (.aload_n 0, 1) := by decide +kernel
theorem dX8_tells_78 : decode cX8_tells 78 = .ok (.getfield 48, 3) := by decide +kernel
theorem dX8_tells_81 : decode cX8_tells 81 = .ok (.iload 5, 2) := by decide +kernel
theorem dX8_tells_83 : decode cX8_tells 83 = .ok (.aload_n 0, 1) := by decide +kernel
theorem dX8_tells_84 : decode cX8_tells 84 = .ok (.getfield 7, 3) := by decide +kernel
theorem dX8_tells_87 : decode cX8_tells 87 = .ok (.isub, 1) := by decide +kernel
theorem dX8_tells_88 : decode cX8_tells 88 = .ok (.iaload, 1) := by decide +kernel
theorem dX8_tells_89 : decode cX8_tells 89 = .ok (.lload 6, 2) := by decide +kernel
theorem dX8_tells_91 : decode cX8_tells 91 = .ok (.lastore, 1) := by decide +kernel
theorem dX8_tells_92 : decode cX8_tells 92 = .ok (.iinc 5 1, 3) := by decide +kernel
theorem dX8_tells_95 : decode cX8_tells 95 = .ok (.goto (-71), 3) := by decide +kernel
theorem dX8_tells_98 : decode cX8_tells 98 = .ok (.return_, 1) := by decide +kernel
theorem dX8_finds_0 : decode cX8_finds 0 = .ok (.aload_n 0, 1) := by decide +kernel
theorem dX8_finds_1 : decode cX8_finds 1 = .ok (.iload_n 1, 1) := by decide +kernel
theorem dX8_finds_2 : decode cX8_finds 2 = .ok (.invokevirtual 154, 3) := by decide +kernel
theorem dX8_finds_5 : decode cX8_finds 5 = .ok (.istore_n 2, 1) := by decide +kernel
theorem dX8_finds_6 : decode cX8_finds 6 = .ok (.iload_n 2, 1) := by decide +kernel
theorem dX8_finds_7 : decode cX8_finds 7 = .ok (.aload_n 0, 1) := by decide +kernel
theorem dX8_finds_8 : decode cX8_finds 8 = .ok (.getfield 7, 3) := by decide +kernel
theorem dX8_finds_11 : decode cX8_finds 11 = .ok (.if_icmp .le 5, 3) := by decide +kernel
theorem dX8_finds_14 : decode cX8_finds 14 = .ok (.iconst 0, 1) := by decide +kernel
theorem dX8_finds_15 : decode cX8_finds 15 = .ok (.ireturn, 1) := by decide +kernel
theorem dX8_finds_16 : decode cX8_finds 16 = .ok (.aload_n 0, 1) := by decide +kernel
theorem dX8_finds_17 : decode cX8_finds 17 = .ok (.iload_n 2, 1) := by decide +kernel
theorem dX8_finds_18 : decode cX8_finds 18 = .ok (.invokevirtual 157, 3) := by decide +kernel
theorem dX8_finds_21 : decode cX8_finds 21 = .ok (.aload_n 0, 1) := by decide +kernel
theorem dX8_finds_22 : decode cX8_finds 22 = .ok (.invokevirtual 139, 3) := by decide +kernel
theorem dX8_finds_25 : decode cX8_finds 25 = .ok (.lstore_n 3, 1) := by decide +kernel
theorem dX8_finds_26 : decode cX8_finds 26 = .ok (.lload_n 3, 1) := by decide +kernel
theorem dX8_finds_27 : decode cX8_finds 27 = .ok (.lconst 0, 1) := by decide +kernel
theorem dX8_finds_28 : decode cX8_finds 28 = .ok (.lcmp, 1) := by decide +kernel
theorem dX8_finds_29 : decode cX8_finds 29 = .ok (.ifCond .ne 5, 3) := by decide +kernel
theorem dX8_finds_32 : decode cX8_finds 32 = .ok (.iconst 0, 1) := by decide +kernel
theorem dX8_finds_33 : decode cX8_finds 33 = .ok (.ireturn, 1) := by decide +kernel
theorem dX8_finds_34 : decode cX8_finds 34 = .ok (.aload_n 0, 1) := by decide +kernel
theorem dX8_finds_35 : decode cX8_finds 35 = .ok (.lload_n 3, 1) := by decide +kernel
theorem dX8_finds_36 : decode cX8_finds 36 = .ok (.lconst 0, 1) := by decide +kernel
theorem dX8_finds_37 : decode cX8_finds 37 = .ok (.lcmp, 1) := by decide +kernel
theorem dX8_finds_38 : decode cX8_finds 38 = .ok (.ifCond .ge 8, 3) := by decide +kernel
theorem dX8_finds_41 : decode cX8_finds 41 = .ok (.lload_n 3, 1) := by decide +kernel
theorem dX8_finds_42 : decode cX8_finds 42 = .ok (.lneg, 1) := by decide +kernel
theorem dX8_finds_43 : decode cX8_finds 43 = .ok (.goto 4, 3) := by decide +kernel
theorem dX8_finds_46 : decode cX8_finds 46 = .ok (.lload_n 3, 1) := by decide +kernel
theorem dX8_finds_47 : decode cX8_finds 47 = .ok (.putfield 161, 3) := by decide +kernel
theorem dX8_finds_50 : decode cX8_finds 50 = .ok (.iconst 0, 1) := by decide +kernel
theorem dX8_finds_51 : decode cX8_finds 51 = .ok (.istore 5, 2) := by decide +kernel
theorem dX8_finds_53 : decode cX8_finds 53 = .ok (.iload 5, 2) := by decide +kernel
theorem dX8_finds_55 : decode cX8_finds 55 = .ok (.aload_n 0, 1) := by decide +kernel
theorem dX8_finds_56 : decode cX8_finds 56 = .ok (.getfield 132, 3) := by decide +kernel
theorem dX8_finds_59 : decode cX8_finds 59 = .ok (.if_icmp .ge 54, 3) := by decide +kernel
theorem dX8_finds_62 : decode cX8_finds 62 = .ok (.aload_n 0, 1) := by decide +kernel
theorem dX8_finds_63 : decode cX8_finds 63 = .ok (.getfield 51, 3) := by decide +kernel
theorem dX8_finds_66 : decode cX8_finds 66 = .ok (.iload 5, 2) := by decide +kernel
theorem dX8_finds_68 : decode cX8_finds 68 = .ok (.iload 5, 2) := by decide +kernel
theorem dX8_finds_70 : decode cX8_finds 70 = .ok (.aload_n 0, 1) := by decide +kernel
theorem dX8_finds_71 : decode cX8_finds 71 = .ok (.getfield 7, 3) := by decide +kernel
theorem dX8_finds_74 : decode cX8_finds 74 = .ok (.if_icmp .ge 15, 3) := by decide +kernel
theorem dX8_finds_77 : decode cX8_finds 77 = .ok (.aload_n 0, 1) := by decide +kernel
theorem dX8_finds_78 : decode cX8_finds 78 = .ok (.getfield 17, 3) := by decide +kernel
theorem dX8_finds_81 : decode cX8_finds 81 = .ok (.iload 5, 2) := by decide +kernel
theorem dX8_finds_83 : decode cX8_finds 83 = .ok (.iaload, 1) := by decide +kernel
theorem dX8_finds_84 : decode cX8_finds 84 = .ok (.ineg, 1) := by decide +kernel
theorem dX8_finds_85 : decode cX8_finds 85 = .ok (.i2l, 1) := by decide +kernel
theorem dX8_finds_86 : decode cX8_finds 86 = .ok (.goto 20, 3) := by decide +kernel
theorem dX8_finds_89 : decode cX8_finds 89 = .ok (.aload_n 0, 1) := by decide +kernel
theorem dX8_finds_90 : decode cX8_finds 90 = .ok (.aload_n 0, 1) := by decide +kernel
theorem dX8_finds_91 : decode cX8_finds 91 = .ok (.getfield 48, 3) := by decide +kernel
theorem dX8_finds_94 : decode cX8_finds 94 = .ok (.iload 5, 2) := by decide +kernel
theorem dX8_finds_96 : decode cX8_finds 96 = .ok (.aload_n 0, 1) := by decide +kernel
theorem dX8_finds_97 : decode cX8_finds 97 = .ok (.getfield 7, 3) := by decide +kernel
theorem dX8_finds_100 : decode cX8_finds 100 = .ok (.isub, 1) := by decide +kernel
theorem dX8_finds_101 : decode cX8_finds 101 = .ok (.iaload, 1) := by decide +kernel
theorem dX8_finds_102 : decode cX8_finds 102 = .ok (.invokevirtual 125, 3) := by decide +kernel
theorem dX8_finds_105 : decode cX8_finds 105 = .ok (.i2l, 1) := by decide +kernel
theorem dX8_finds_106 : decode cX8_finds 106 = .ok (.lastore, 1) := by decide +kernel
theorem dX8_finds_107 : decode cX8_finds 107 = .ok (.iinc 5 1, 3) := by decide +kernel
theorem dX8_finds_110 : decode cX8_finds 110 = .ok (.goto (-57), 3) := by decide +kernel
theorem dX8_finds_113 : decode cX8_finds 113 = .ok (.aload_n 0, 1) := by decide +kernel
theorem dX8_finds_114 : decode cX8_finds 114 = .ok (.aload_n 0, 1) := by decide +kernel
theorem dX8_finds_115 : decode cX8_finds 115 = .ok (.getfield 36, 3) := by decide +kernel
theorem dX8_finds_118 : decode cX8_finds 118 = .ok (.aload_n 0, 1) := by decide +kernel
theorem dX8_finds_119 : decode cX8_finds 119 = .ok (.getfield 39, 3) := by decide +kernel
theorem dX8_finds_122 : decode cX8_finds 122 = .ok (.iload_n 2, 1) := by decide +kernel
theorem dX8_finds_123 : decode cX8_finds 123 = .ok (.lload_n 3, 1) := by decide +kernel
theorem dX8_finds_124 : decode cX8_finds 124 = .ok (.lconst 0, 1) := by decide +kernel
theorem dX8_finds_125 : decode cX8_finds 125 = .ok (.lcmp, 1) := by decide +kernel
theorem dX8_finds_126 : decode cX8_finds 126 = .ok (.ifCond .ge 7, 3) := by decide +kernel
theorem dX8_finds_129 : decode cX8_finds 129 = .ok (.iconst 1, 1) := by decide +kernel
theorem dX8_finds_130 : decode cX8_finds 130 = .ok (.goto 4, 3) := by decide +kernel
theorem dX8_finds_133 : decode cX8_finds 133 = .ok (.iconst 0, 1) := by decide +kernel
theorem dX8_finds_134 : decode cX8_finds 134 = .ok (.invokevirtual 165, 3) := by decide +kernel
theorem dX8_finds_137 : decode cX8_finds 137 = .ok (.iconst 1, 1) := by decide +kernel
theorem dX8_finds_138 : decode cX8_finds 138 = .ok (.ireturn, 1) := by decide +kernel
theorem dX8_findsRise_0 : decode cX8_findsRise 0 = .ok (.aload_n 0, 1) := by decide +kernel
theorem dX8_findsRise_1 : decode cX8_findsRise 1 = .ok (.iload_n 1, 1) := by decide +kernel
theorem dX8_findsRise_2 : decode cX8_findsRise 2 = .ok (.invokevirtual 154, 3) := by decide +kernel
theorem dX8_findsRise_5 : decode cX8_findsRise 5 = .ok (.istore_n 2, 1) := by decide +kernel
theorem dX8_findsRise_6 : decode cX8_findsRise 6 = .ok (.aload_n 0, 1) := by decide +kernel
theorem dX8_findsRise_7 : decode cX8_findsRise 7 = .ok (.iload_n 2, 1) := by decide +kernel
theorem dX8_findsRise_8 : decode cX8_findsRise 8 = .ok (.invokevirtual 157, 3) := by decide +kernel
theorem dX8_findsRise_11 : decode cX8_findsRise 11 = .ok (.aload_n 0, 1) := by decide +kernel
theorem dX8_findsRise_12 : decode cX8_findsRise 12 = .ok (.invokevirtual 139, 3) := by decide +kernel
theorem dX8_findsRise_15 : decode cX8_findsRise 15 = .ok (.lconst 0, 1) := by decide +kernel
theorem dX8_findsRise_16 : decode cX8_findsRise 16 = .ok (.lcmp, 1) := by decide +kernel
theorem dX8_findsRise_17 : decode cX8_findsRise 17 = .ok (.ifCond .ge 7, 3) := by decide +kernel
theorem dX8_findsRise_20 : decode cX8_findsRise 20 = .ok (.iconst 1, 1) := by decide +kernel
theorem dX8_findsRise_21 : decode cX8_findsRise 21 = .ok (.goto 4, 3) := by decide +kernel
theorem dX8_findsRise_24 : decode cX8_findsRise 24 = .ok (.iconst 0, 1) := by decide +kernel
theorem dX8_findsRise_25 : decode cX8_findsRise 25 = .ok (.istore_n 3, 1) := by decide +kernel
theorem dX8_findsRise_26 : decode cX8_findsRise 26 = .ok (.iconst 0, 1) := by decide +kernel
theorem dX8_findsRise_27 : decode cX8_findsRise 27 = .ok (.istore 4, 2) := by decide +kernel
theorem dX8_findsRise_29 : decode cX8_findsRise 29 = .ok (.iload 4, 2) := by decide +kernel
theorem dX8_findsRise_31 : decode cX8_findsRise 31 = .ok (.aload_n 0, 1) := by decide +kernel
theorem dX8_findsRise_32 : decode cX8_findsRise 32 = .ok (.getfield 132, 3) := by decide +kernel
theorem dX8_findsRise_35 : decode cX8_findsRise 35 = .ok (.if_icmp .ge 46, 3) := by decide +kernel
theorem dX8_findsRise_38 : decode cX8_findsRise 38 = .ok (.aload_n 0, 1) := by decide +kernel
theorem dX8_findsRise_39 : decode cX8_findsRise 39 = .ok (.getfield 51, 3) := by decide +kernel
theorem dX8_findsRise_42 : decode cX8_findsRise 42 = .ok (.iload 4, 2) := by decide +kernel
theorem dX8_findsRise_44 : decode cX8_findsRise 44 = .ok (.iload 4, 2) := by decide +kernel
theorem dX8_findsRise_46 : decode cX8_findsRise 46 = .ok (.aload_n 0, 1) := by decide +kernel
theorem dX8_findsRise_47 : decode cX8_findsRise 47 = .ok (.getfield 7, 3) := by decide +kernel
theorem dX8_findsRise_50 : decode cX8_findsRise 50 = .ok (.if_icmp .ge 7, 3) := by decide +kernel
theorem dX8_findsRise_53 : decode cX8_findsRise 53 = .ok (.lconst 0, 1) := by decide +kernel
theorem dX8_findsRise_54 : decode cX8_findsRise 54 = .ok (.goto 20, 3) := by decide +kernel
theorem dX8_findsRise_57 : decode cX8_findsRise 57 = .ok (.aload_n 0, 1) := by decide +kernel
theorem dX8_findsRise_58 : decode cX8_findsRise 58 = .ok (.aload_n 0, 1) := by decide +kernel
theorem dX8_findsRise_59 : decode cX8_findsRise 59 = .ok (.getfield 48, 3) := by decide +kernel
theorem dX8_findsRise_62 : decode cX8_findsRise 62 = .ok (.iload 4, 2) := by decide +kernel
theorem dX8_findsRise_64 : decode cX8_findsRise 64 = .ok (.aload_n 0, 1) := by decide +kernel
theorem dX8_findsRise_65 : decode cX8_findsRise 65 = .ok (.getfield 7, 3) := by decide +kernel
theorem dX8_findsRise_68 : decode cX8_findsRise 68 = .ok (.isub, 1) := by decide +kernel
theorem dX8_findsRise_69 : decode cX8_findsRise 69 = .ok (.iaload, 1) := by decide +kernel
theorem dX8_findsRise_70 : decode cX8_findsRise 70 = .ok (.invokevirtual 169, 3) := by decide +kernel
theorem dX8_findsRise_73 : decode cX8_findsRise 73 = .ok (.i2l, 1) := by decide +kernel
theorem dX8_findsRise_74 : decode cX8_findsRise 74 = .ok (.lastore, 1) := by decide +kernel
theorem dX8_findsRise_75 : decode cX8_findsRise 75 = .ok (.iinc 4 1, 3) := by decide +kernel
theorem dX8_findsRise_78 : decode cX8_findsRise 78 = .ok (.goto (-49), 3) := by decide +kernel
theorem dX8_findsRise_81 : decode cX8_findsRise 81 = .ok (.aload_n 0, 1) := by decide +kernel
theorem dX8_findsRise_82 : decode cX8_findsRise 82 = .ok (.aload_n 0, 1) := by decide +kernel
theorem dX8_findsRise_83 : decode cX8_findsRise 83 = .ok (.getfield 42, 3) := by decide +kernel
theorem dX8_findsRise_86 : decode cX8_findsRise 86 = .ok (.aload_n 0, 1) := by decide +kernel
theorem dX8_findsRise_87 : decode cX8_findsRise 87 = .ok (.getfield 45, 3) := by decide +kernel
theorem dX8_findsRise_90 : decode cX8_findsRise 90 = .ok (.iload_n 2, 1) := by decide +kernel
theorem dX8_findsRise_91 : decode cX8_findsRise 91 = .ok (.iload_n 3, 1) := by decide +kernel
theorem dX8_findsRise_92 : decode cX8_findsRise 92 = .ok (.invokevirtual 165, 3) := by decide +kernel
theorem dX8_findsRise_95 : decode cX8_findsRise 95 = .ok (.return_, 1) := by decide +kernel
theorem dX8_slackOf_0 : decode cX8_slackOf 0 = .ok (.aload_n 0, 1) := by decide +kernel
theorem dX8_slackOf_1 : decode cX8_slackOf 1 = .ok (.iload_n 1, 1) := by decide +kernel
theorem dX8_slackOf_2 : decode cX8_slackOf 2 = .ok (.invokevirtual 125, 3) := by decide +kernel
theorem dX8_slackOf_5 : decode cX8_slackOf 5 = .ok (.i2l, 1) := by decide +kernel
theorem dX8_slackOf_6 : decode cX8_slackOf 6 = .ok (.aload_n 0, 1) := by decide +kernel
theorem dX8_slackOf_7 : decode cX8_slackOf 7 = .ok (.getfield 161, 3) := by decide +kernel
theorem dX8_slackOf_10 : decode cX8_slackOf 10 = .ok (.lmul, 1) := by decide +kernel
theorem dX8_slackOf_11 : decode cX8_slackOf 11 = .ok (.lstore_n 2, 1) := by decide +kernel
theorem dX8_slackOf_12 : decode cX8_slackOf 12 = .ok (.iconst 0, 1) := by decide +kernel
theorem dX8_slackOf_13 : decode cX8_slackOf 13 = .ok (.istore 4, 2) := by decide +kernel
theorem dX8_slackOf_15 : decode cX8_slackOf 15 = .ok (.iload 4, 2) := by decide +kernel
theorem dX8_slackOf_17 : decode cX8_slackOf 17 = .ok (.aload_n 0, 1) := by decide +kernel
theorem dX8_slackOf_18 : decode cX8_slackOf 18 = .ok (.getfield 7, 3) := by decide +kernel
theorem dX8_slackOf_21 : decode cX8_slackOf 21 = .ok (.if_icmp .ge 28, 3) := by decide +kernel
theorem dX8_slackOf_24 : decode cX8_slackOf 24 = .ok (.lload_n 2, 1) := by decide +kernel
theorem dX8_slackOf_25 : decode cX8_slackOf 25 = .ok (.aload_n 0, 1) := by decide +kernel
theorem dX8_slackOf_26 : decode cX8_slackOf 26 = .ok (.iload_n 1, 1) := by decide +kernel
theorem dX8_slackOf_27 : decode cX8_slackOf 27 = .ok (.iload 4, 2) := by decide +kernel
theorem dX8_slackOf_29 : decode cX8_slackOf 29 = .ok (.invokevirtual 129, 3) := by decide +kernel
theorem dX8_slackOf_32 : decode cX8_slackOf 32 = .ok (.i2l, 1) := by decide +kernel
theorem dX8_slackOf_33 : decode cX8_slackOf 33 = .ok (.aload_n 0, 1) := by decide +kernel
theorem dX8_slackOf_34 : decode cX8_slackOf 34 = .ok (.getfield 36, 3) := by decide +kernel
theorem dX8_slackOf_37 : decode cX8_slackOf 37 = .ok (.iload 4, 2) := by decide +kernel
theorem dX8_slackOf_39 : decode cX8_slackOf 39 = .ok (.laload, 1) := by decide +kernel
theorem dX8_slackOf_40 : decode cX8_slackOf 40 = .ok (.lmul, 1) := by decide +kernel
theorem dX8_slackOf_41 : decode cX8_slackOf 41 = .ok (.lsub, 1) := by decide +kernel
theorem dX8_slackOf_42 : decode cX8_slackOf 42 = .ok (.lstore_n 2, 1) := by decide +kernel
theorem dX8_slackOf_43 : decode cX8_slackOf 43 = .ok (.iinc 4 1, 3) := by decide +kernel
theorem dX8_slackOf_46 : decode cX8_slackOf 46 = .ok (.goto (-31), 3) := by decide +kernel
theorem dX8_slackOf_49 : decode cX8_slackOf 49 = .ok (.lload_n 2, 1) := by decide +kernel
theorem dX8_slackOf_50 : decode cX8_slackOf 50 = .ok (.lreturn, 1) := by decide +kernel
theorem dX8_holds_0 : decode cX8_holds 0 = .ok (.aload_n 0, 1) := by decide +kernel
theorem dX8_holds_1 : decode cX8_holds 1 = .ok (.iload_n 1, 1) := by decide +kernel
theorem dX8_holds_2 : decode cX8_holds 2 = .ok (.invokevirtual 172, 3) := by decide +kernel
theorem dX8_holds_5 : decode cX8_holds 5 = .ok (.lstore_n 2, 1) := by decide +kernel
theorem dX8_holds_6 : decode cX8_holds 6 = .ok (.aload_n 0, 1) := by decide +kernel
theorem dX8_holds_7 : decode cX8_holds 7 = .ok (.iload_n 1, 1) := by decide +kernel
theorem dX8_holds_8 : decode cX8_holds 8 = .ok (.invokevirtual 175, 3) := by decide +kernel
theorem dX8_holds_11 : decode cX8_holds 11 = .ok (.ifCond .eq 17, 3) := by decide +kernel
theorem dX8_holds_14 : decode cX8_holds 14 = .ok (.lload_n 2, 1) := by decide +kernel
theorem dX8_holds_15 : decode cX8_holds 15 = .ok (.lconst 0, 1) := by decide +kernel
theorem dX8_holds_16 : decode cX8_holds 16 = .ok (.lcmp, 1) := by decide +kernel
theorem dX8_holds_17 : decode cX8_holds 17 = .ok (.ifCond .ne 7, 3) := by decide +kernel
theorem dX8_holds_20 : decode cX8_holds 20 = .ok (.iconst 1, 1) := by decide +kernel
theorem dX8_holds_21 : decode cX8_holds 21 = .ok (.goto 18, 3) := by decide +kernel
theorem dX8_holds_24 : decode cX8_holds 24 = .ok (.iconst 0, 1) := by decide +kernel
theorem dX8_holds_25 : decode cX8_holds 25 = .ok (.goto 14, 3) := by decide +kernel
theorem dX8_holds_28 : decode cX8_holds 28 = .ok (.lload_n 2, 1) := by decide +kernel
theorem dX8_holds_29 : decode cX8_holds 29 = .ok (.lconst 0, 1) := by decide +kernel
theorem dX8_holds_30 : decode cX8_holds 30 = .ok (.lcmp, 1) := by decide +kernel
theorem dX8_holds_31 : decode cX8_holds 31 = .ok (.ifCond .lt 7, 3) := by decide +kernel
theorem dX8_holds_34 : decode cX8_holds 34 = .ok (.iconst 1, 1) := by decide +kernel
theorem dX8_holds_35 : decode cX8_holds 35 = .ok (.goto 4, 3) := by decide +kernel
theorem dX8_holds_38 : decode cX8_holds 38 = .ok (.iconst 0, 1) := by decide +kernel
theorem dX8_holds_39 : decode cX8_holds 39 = .ok (.ireturn, 1) := by decide +kernel
theorem dX8_isRight_0 : decode cX8_isRight 0 = .ok (.iconst 1, 1) := by decide +kernel
theorem dX8_isRight_1 : decode cX8_isRight 1 = .ok (.istore_n 2, 1) := by decide +kernel
theorem dX8_isRight_2 : decode cX8_isRight 2 = .ok (.iconst 0, 1) := by decide +kernel
theorem dX8_isRight_3 : decode cX8_isRight 3 = .ok (.istore_n 3, 1) := by decide +kernel
theorem dX8_isRight_4 : decode cX8_isRight 4 = .ok (.iload_n 3, 1) := by decide +kernel
theorem dX8_isRight_5 : decode cX8_isRight 5 = .ok (.aload_n 0, 1) := by decide +kernel
theorem dX8_isRight_6 : decode cX8_isRight 6 = .ok (.getfield 88, 3) := by decide +kernel
theorem dX8_isRight_9 : decode cX8_isRight 9 = .ok (.if_icmp .ge 54, 3) := by decide +kernel
theorem dX8_isRight_12 : decode cX8_isRight 12 = .ok (.iload_n 2, 1) := by decide +kernel
theorem dX8_isRight_13 : decode cX8_isRight 13 = .ok (.ifCond .eq 50, 3) := by decide +kernel
theorem dX8_isRight_16 : decode cX8_isRight 16 = .ok (.iload_n 1, 1) := by decide +kernel
theorem dX8_isRight_17 : decode cX8_isRight 17 = .ok (.iload_n 3, 1) := by decide +kernel
theorem dX8_isRight_18 : decode cX8_isRight 18 = .ok (.invokestatic 135, 3) := by decide +kernel
theorem dX8_isRight_21 : decode cX8_isRight 21 = .ok (.ifCond .eq 11, 3) := by decide +kernel
theorem dX8_isRight_24 : decode cX8_isRight 24 = .ok (.aload_n 0, 1) := by decide +kernel
theorem dX8_isRight_25 : decode cX8_isRight 25 = .ok (.iload_n 3, 1) := by decide +kernel
theorem dX8_isRight_26 : decode cX8_isRight 26 = .ok (.invokevirtual 178, 3) := by decide +kernel
theorem dX8_isRight_29 : decode cX8_isRight 29 = .ok (.ifCond .eq 26, 3) := by decide +kernel
theorem dX8_isRight_32 : decode cX8_isRight 32 = .ok (.aload_n 0, 1) := by decide +kernel
theorem dX8_isRight_33 : decode cX8_isRight 33 = .ok (.iload_n 3, 1) := by decide +kernel
theorem dX8_isRight_34 : decode cX8_isRight 34 = .ok (.invokevirtual 175, 3) := by decide +kernel
theorem dX8_isRight_37 : decode cX8_isRight 37 = .ok (.ifCond .ne 14, 3) := by decide +kernel
theorem dX8_isRight_40 : decode cX8_isRight 40 = .ok (.aload_n 0, 1) := by decide +kernel
theorem dX8_isRight_41 : decode cX8_isRight 41 = .ok (.getfield 39, 3) := by decide +kernel
theorem dX8_isRight_44 : decode cX8_isRight 44 = .ok (.iload_n 3, 1) := by decide +kernel
theorem dX8_isRight_45 : decode cX8_isRight 45 = .ok (.laload, 1) := by decide +kernel
theorem dX8_isRight_46 : decode cX8_isRight 46 = .ok (.lconst 0, 1) := by decide +kernel
theorem dX8_isRight_47 : decode cX8_isRight 47 = .ok (.lcmp, 1) := by decide +kernel
theorem dX8_isRight_48 : decode cX8_isRight 48 = .ok (.ifCond .lt 7, 3) := by decide +kernel
theorem dX8_isRight_51 : decode cX8_isRight 51 = .ok (.iconst 1, 1) := by decide +kernel
theorem dX8_isRight_52 : decode cX8_isRight 52 = .ok (.goto 4, 3) := by decide +kernel
theorem dX8_isRight_55 : decode cX8_isRight 55 = .ok (.iconst 0, 1) := by decide +kernel
theorem dX8_isRight_56 : decode cX8_isRight 56 = .ok (.istore_n 2, 1) := by decide +kernel
theorem dX8_isRight_57 : decode cX8_isRight 57 = .ok (.iinc 3 1, 3) := by decide +kernel
theorem dX8_isRight_60 : decode cX8_isRight 60 = .ok (.goto (-56), 3) := by decide +kernel
theorem dX8_isRight_63 : decode cX8_isRight 63 = .ok (.iload_n 2, 1) := by decide +kernel
theorem dX8_isRight_64 : decode cX8_isRight 64 = .ok (.ireturn, 1) := by decide +kernel
theorem dX8_works_0 : decode cX8_works 0 = .ok (.iconst 0, 1) := by decide +kernel
theorem dX8_works_1 : decode cX8_works 1 = .ok (.istore_n 2, 1) := by decide +kernel
theorem dX8_works_2 : decode cX8_works 2 = .ok (.iload_n 2, 1) := by decide +kernel
theorem dX8_works_3 : decode cX8_works 3 = .ok (.iload_n 1, 1) := by decide +kernel
theorem dX8_works_4 : decode cX8_works 4 = .ok (.if_icmp .gt 35, 3) := by decide +kernel
theorem dX8_works_7 : decode cX8_works 7 = .ok (.iload_n 2, 1) := by decide +kernel
theorem dX8_works_8 : decode cX8_works 8 = .ok (.iload_n 1, 1) := by decide +kernel
theorem dX8_works_9 : decode cX8_works 9 = .ok (.iconst (-1), 1) := by decide +kernel
theorem dX8_works_10 : decode cX8_works 10 = .ok (.ixor, 1) := by decide +kernel
theorem dX8_works_11 : decode cX8_works 11 = .ok (.iand, 1) := by decide +kernel
theorem dX8_works_12 : decode cX8_works 12 = .ok (.ifCond .ne 21, 3) := by decide +kernel
theorem dX8_works_15 : decode cX8_works 15 = .ok (.aload_n 0, 1) := by decide +kernel
theorem dX8_works_16 : decode cX8_works 16 = .ok (.iload_n 2, 1) := by decide +kernel
theorem dX8_works_17 : decode cX8_works 17 = .ok (.invokevirtual 181, 3) := by decide +kernel
theorem dX8_works_20 : decode cX8_works 20 = .ok (.ifCond .eq 13, 3) := by decide +kernel
theorem dX8_works_23 : decode cX8_works 23 = .ok (.aload_n 0, 1) := by decide +kernel
theorem dX8_works_24 : decode cX8_works 24 = .ok (.iload_n 1, 1) := by decide +kernel
theorem dX8_works_25 : decode cX8_works 25 = .ok (.invokevirtual 184, 3) := by decide +kernel
theorem dX8_works_28 : decode cX8_works 28 = .ok (.ifCond .eq 5, 3) := by decide +kernel
theorem dX8_works_31 : decode cX8_works 31 = .ok (.iload_n 2, 1) := by decide +kernel
theorem dX8_works_32 : decode cX8_works 32 = .ok (.ireturn, 1) := by decide +kernel
theorem dX8_works_33 : decode cX8_works 33 = .ok (.iinc 2 1, 3) := by decide +kernel
theorem dX8_works_36 : decode cX8_works 36 = .ok (.goto (-34), 3) := by decide +kernel
theorem dX8_works_39 : decode cX8_works 39 = .ok (.iconst (-1), 1) := by decide +kernel
theorem dX8_works_40 : decode cX8_works 40 = .ok (.ireturn, 1) := by decide +kernel
theorem dX8_working_0 : decode cX8_working 0 = .ok (.aload_n 0, 1) := by decide +kernel
theorem dX8_working_1 : decode cX8_working 1 = .ok (.iload_n 1, 1) := by decide +kernel
theorem dX8_working_2 : decode cX8_working 2 = .ok (.invokevirtual 187, 3) := by decide +kernel
theorem dX8_working_5 : decode cX8_working 5 = .ok (.ifCond .ne 8, 3) := by decide +kernel
theorem dX8_working_8 : decode cX8_working 8 = .ok (.bipush (-2), 2) := by decide +kernel
theorem dX8_working_10 : decode cX8_working 10 = .ok (.goto 20, 3) := by decide +kernel
theorem dX8_working_13 : decode cX8_working 13 = .ok (.aload_n 0, 1) := by decide +kernel
theorem dX8_working_14 : decode cX8_working 14 = .ok (.invokevirtual 146, 3) := by decide +kernel
theorem dX8_working_17 : decode cX8_working 17 = .ok (.ifCond .ne 8, 3) := by decide +kernel
theorem dX8_working_20 : decode cX8_working 20 = .ok (.bipush (-3), 2) := by decide +kernel
theorem dX8_working_22 : decode cX8_working 22 = .ok (.goto 8, 3) := by decide +kernel
theorem dX8_working_25 : decode cX8_working 25 = .ok (.aload_n 0, 1) := by decide +kernel
theorem dX8_working_26 : decode cX8_working 26 = .ok (.iload_n 1, 1) := by decide +kernel
theorem dX8_working_27 : decode cX8_working 27 = .ok (.invokevirtual 190, 3) := by decide +kernel
theorem dX8_working_30 : decode cX8_working 30 = .ok (.ireturn, 1) := by decide +kernel
theorem dX8_lacks_0 : decode cX8_lacks 0 = .ok (.aload_n 0, 1) := by decide +kernel
theorem dX8_lacks_1 : decode cX8_lacks 1 = .ok (.iload_n 1, 1) := by decide +kernel
theorem dX8_lacks_2 : decode cX8_lacks 2 = .ok (.invokevirtual 187, 3) := by decide +kernel
theorem dX8_lacks_5 : decode cX8_lacks 5 = .ok (.ifCond .eq 7, 3) := by decide +kernel
theorem dX8_lacks_8 : decode cX8_lacks 8 = .ok (.iload_n 2, 1) := by decide +kernel
theorem dX8_lacks_9 : decode cX8_lacks 9 = .ok (.ifCond .ne 8, 3) := by decide +kernel
theorem dX8_lacks_12 : decode cX8_lacks 12 = .ok (.bipush (-2), 2) := by decide +kernel
theorem dX8_lacks_14 : decode cX8_lacks 14 = .ok (.goto 29, 3) := by decide +kernel
theorem dX8_lacks_17 : decode cX8_lacks 17 = .ok (.aload_n 0, 1) := by decide +kernel
theorem dX8_lacks_18 : decode cX8_lacks 18 = .ok (.invokevirtual 146, 3) := by decide +kernel
theorem dX8_lacks_21 : decode cX8_lacks 21 = .ok (.ifCond .ne 8, 3) := by decide +kernel
theorem dX8_lacks_24 : decode cX8_lacks 24 = .ok (.bipush (-3), 2) := by decide +kernel
theorem dX8_lacks_26 : decode cX8_lacks 26 = .ok (.goto 17, 3) := by decide +kernel
theorem dX8_lacks_29 : decode cX8_lacks 29 = .ok (.aload_n 0, 1) := by decide +kernel
theorem dX8_lacks_30 : decode cX8_lacks 30 = .ok (.iload_n 1, 1) := by decide +kernel
theorem dX8_lacks_31 : decode cX8_lacks 31 = .ok (.invokevirtual 190, 3) := by decide +kernel
theorem dX8_lacks_34 : decode cX8_lacks 34 = .ok (.iconst (-1), 1) := by decide +kernel
theorem dX8_lacks_35 : decode cX8_lacks 35 = .ok (.if_icmp .ne 7, 3) := by decide +kernel
theorem dX8_lacks_38 : decode cX8_lacks 38 = .ok (.iconst (-1), 1) := by decide +kernel
theorem dX8_lacks_39 : decode cX8_lacks 39 = .ok (.goto 4, 3) := by decide +kernel
theorem dX8_lacks_42 : decode cX8_lacks 42 = .ok (.iconst 0, 1) := by decide +kernel
theorem dX8_lacks_43 : decode cX8_lacks 43 = .ok (.ireturn, 1) := by decide +kernel
theorem dX8_answer_0 : decode cX8_answer 0 = .ok (.aload_n 0, 1) := by decide +kernel
theorem dX8_answer_1 : decode cX8_answer 1 = .ok (.iload_n 1, 1) := by decide +kernel
theorem dX8_answer_2 : decode cX8_answer 2 = .ok (.aload_n 0, 1) := by decide +kernel
theorem dX8_answer_3 : decode cX8_answer 3 = .ok (.iload_n 2, 1) := by decide +kernel
theorem dX8_answer_4 : decode cX8_answer 4 = .ok (.invokevirtual 96, 3) := by decide +kernel
theorem dX8_answer_7 : decode cX8_answer 7 = .ok (.ifCond .eq 14, 3) := by decide +kernel
theorem dX8_answer_10 : decode cX8_answer 10 = .ok (.iload_n 3, 1) := by decide +kernel
theorem dX8_answer_11 : decode cX8_answer 11 = .ok (.invokestatic 193, 3) := by decide +kernel
theorem dX8_answer_14 : decode cX8_answer 14 = .ok (.ifCond .eq 7, 3) := by decide +kernel
theorem dX8_answer_17 : decode cX8_answer 17 = .ok (.iconst 1, 1) := by decide +kernel
theorem dX8_answer_18 : decode cX8_answer 18 = .ok (.goto 4, 3) := by decide +kernel
theorem dX8_answer_21 : decode cX8_answer 21 = .ok (.iconst 0, 1) := by decide +kernel
theorem dX8_answer_22 : decode cX8_answer 22 = .ok (.invokevirtual 196, 3) := by decide +kernel
theorem dX8_answer_25 : decode cX8_answer 25 = .ok (.istore 4, 2) := by decide +kernel
theorem dX8_answer_27 : decode cX8_answer 27 = .ok (.iload 4, 2) := by decide +kernel
theorem dX8_answer_29 : decode cX8_answer 29 = .ok (.ifCond .eq 11, 3) := by decide +kernel
theorem dX8_answer_32 : decode cX8_answer 32 = .ok (.iload 4, 2) := by decide +kernel
theorem dX8_answer_34 : decode cX8_answer 34 = .ok (.invokestatic 200, 3) := by decide +kernel
theorem dX8_answer_37 : decode cX8_answer 37 = .ok (.goto 17, 3) := by decide +kernel
theorem dX8_answer_40 : decode cX8_answer 40 = .ok (.aload_n 0, 1) := by decide +kernel
theorem dX8_answer_41 : decode cX8_answer 41 = .ok (.getfield 36, 3) := by decide +kernel
theorem dX8_answer_44 : decode cX8_answer 44 = .ok (.iload_n 2, 1) := by decide +kernel
theorem dX8_answer_45 : decode cX8_answer 45 = .ok (.laload, 1) := by decide +kernel
theorem dX8_answer_46 : decode cX8_answer 46 = .ok (.aload_n 0, 1) := by decide +kernel
theorem dX8_answer_47 : decode cX8_answer 47 = .ok (.getfield 161, 3) := by decide +kernel
theorem dX8_answer_50 : decode cX8_answer 50 = .ok (.iload_n 3, 1) := by decide +kernel
theorem dX8_answer_51 : decode cX8_answer 51 = .ok (.invokestatic 203, 3) := by decide +kernel
theorem dX8_answer_54 : decode cX8_answer 54 = .ok (.lreturn, 1) := by decide +kernel
theorem dX8_worthOf_0 : decode cX8_worthOf 0 = .ok (.lconst 0, 1) := by decide +kernel
theorem dX8_worthOf_1 : decode cX8_worthOf 1 = .ok (.lstore_n 1, 1) := by decide +kernel
theorem dX8_worthOf_2 : decode cX8_worthOf 2 = .ok (.iconst 0, 1) := by decide +kernel
theorem dX8_worthOf_3 : decode cX8_worthOf 3 = .ok (.istore_n 3, 1) := by decide +kernel
theorem dX8_worthOf_4 : decode cX8_worthOf 4 = .ok (.iload_n 3, 1) := by decide +kernel
theorem dX8_worthOf_5 : decode cX8_worthOf 5 = .ok (.aload_n 0, 1) := by decide +kernel
theorem dX8_worthOf_6 : decode cX8_worthOf 6 = .ok (.getfield 7, 3) := by decide +kernel
theorem dX8_worthOf_9 : decode cX8_worthOf 9 = .ok (.if_icmp .ge 26, 3) := by decide +kernel
theorem dX8_worthOf_12 : decode cX8_worthOf 12 = .ok (.lload_n 1, 1) := by decide +kernel
theorem dX8_worthOf_13 : decode cX8_worthOf 13 = .ok (.aload_n 0, 1) := by decide +kernel
theorem dX8_worthOf_14 : decode cX8_worthOf 14 = .ok (.getfield 17, 3) := by decide +kernel
theorem dX8_worthOf_17 : decode cX8_worthOf 17 = .ok (.iload_n 3, 1) := by decide +kernel
theorem dX8_worthOf_18 : decode cX8_worthOf 18 = .ok (.iaload, 1) := by decide +kernel
theorem dX8_worthOf_19 : decode cX8_worthOf 19 = .ok (.i2l, 1) := by decide +kernel
theorem dX8_worthOf_20 : decode cX8_worthOf 20 = .ok (.aload_n 0, 1) := by decide +kernel
theorem dX8_worthOf_21 : decode cX8_worthOf 21 = .ok (.getfield 36, 3) := by decide +kernel
theorem dX8_worthOf_24 : decode cX8_worthOf 24 = .ok (.iload_n 3, 1) := by decide +kernel
theorem dX8_worthOf_25 : decode cX8_worthOf 25 = .ok (.laload, 1) := by decide +kernel
theorem dX8_worthOf_26 : decode cX8_worthOf 26 = .ok (.lmul, 1) := by decide +kernel
theorem dX8_worthOf_27 : decode cX8_worthOf 27 = .ok (.ladd, 1) := by decide +kernel
theorem dX8_worthOf_28 : decode cX8_worthOf 28 = .ok (.lstore_n 1, 1) := by decide +kernel
theorem dX8_worthOf_29 : decode cX8_worthOf 29 = .ok (.iinc 3 1, 3) := by decide +kernel
theorem dX8_worthOf_32 : decode cX8_worthOf 32 = .ok (.goto (-28), 3) := by decide +kernel
theorem dX8_worthOf_35 : decode cX8_worthOf 35 = .ok (.iconst 0, 1) := by decide +kernel
theorem dX8_worthOf_36 : decode cX8_worthOf 36 = .ok (.istore_n 3, 1) := by decide +kernel
theorem dX8_worthOf_37 : decode cX8_worthOf 37 = .ok (.iload_n 3, 1) := by decide +kernel
theorem dX8_worthOf_38 : decode cX8_worthOf 38 = .ok (.aload_n 0, 1) := by decide +kernel
theorem dX8_worthOf_39 : decode cX8_worthOf 39 = .ok (.getfield 88, 3) := by decide +kernel
theorem dX8_worthOf_42 : decode cX8_worthOf 42 = .ok (.if_icmp .ge 25, 3) := by decide +kernel
theorem dX8_worthOf_45 : decode cX8_worthOf 45 = .ok (.lload_n 1, 1) := by decide +kernel
theorem dX8_worthOf_46 : decode cX8_worthOf 46 = .ok (.aload_n 0, 1) := by decide +kernel
theorem dX8_worthOf_47 : decode cX8_worthOf 47 = .ok (.iload_n 3, 1) := by decide +kernel
theorem dX8_worthOf_48 : decode cX8_worthOf 48 = .ok (.invokevirtual 125, 3) := by decide +kernel
theorem dX8_worthOf_51 : decode cX8_worthOf 51 = .ok (.i2l, 1) := by decide +kernel
theorem dX8_worthOf_52 : decode cX8_worthOf 52 = .ok (.aload_n 0, 1) := by decide +kernel
theorem dX8_worthOf_53 : decode cX8_worthOf 53 = .ok (.getfield 39, 3) := by decide +kernel
theorem dX8_worthOf_56 : decode cX8_worthOf 56 = .ok (.iload_n 3, 1) := by decide +kernel
theorem dX8_worthOf_57 : decode cX8_worthOf 57 = .ok (.laload, 1) := by decide +kernel
theorem dX8_worthOf_58 : decode cX8_worthOf 58 = .ok (.lmul, 1) := by decide +kernel
theorem dX8_worthOf_59 : decode cX8_worthOf 59 = .ok (.lsub, 1) := by decide +kernel
theorem dX8_worthOf_60 : decode cX8_worthOf 60 = .ok (.lstore_n 1, 1) := by decide +kernel
theorem dX8_worthOf_61 : decode cX8_worthOf 61 = .ok (.iinc 3 1, 3) := by decide +kernel
theorem dX8_worthOf_64 : decode cX8_worthOf 64 = .ok (.goto (-27), 3) := by decide +kernel
theorem dX8_worthOf_67 : decode cX8_worthOf 67 = .ok (.lload_n 1, 1) := by decide +kernel
theorem dX8_worthOf_68 : decode cX8_worthOf 68 = .ok (.lreturn, 1) := by decide +kernel
theorem dX8_worth_0 : decode cX8_worth 0 = .ok (.aload_n 0, 1) := by decide +kernel
theorem dX8_worth_1 : decode cX8_worth 1 = .ok (.iload_n 1, 1) := by decide +kernel
theorem dX8_worth_2 : decode cX8_worth 2 = .ok (.iload_n 2, 1) := by decide +kernel
theorem dX8_worth_3 : decode cX8_worth 3 = .ok (.invokestatic 193, 3) := by decide +kernel
theorem dX8_worth_6 : decode cX8_worth 6 = .ok (.invokevirtual 196, 3) := by decide +kernel
theorem dX8_worth_9 : decode cX8_worth 9 = .ok (.istore_n 3, 1) := by decide +kernel
theorem dX8_worth_10 : decode cX8_worth 10 = .ok (.iload_n 3, 1) := by decide +kernel
theorem dX8_worth_11 : decode cX8_worth 11 = .ok (.ifCond .eq 10, 3) := by decide +kernel
theorem dX8_worth_14 : decode cX8_worth 14 = .ok (.iload_n 3, 1) := by decide +kernel
theorem dX8_worth_15 : decode cX8_worth 15 = .ok (.invokestatic 200, 3) := by decide +kernel
theorem dX8_worth_18 : decode cX8_worth 18 = .ok (.goto 19, 3) := by decide +kernel
theorem dX8_worth_21 : decode cX8_worth 21 = .ok (.aload_n 0, 1) := by decide +kernel
theorem dX8_worth_22 : decode cX8_worth 22 = .ok (.invokevirtual 207, 3) := by decide +kernel
theorem dX8_worth_25 : decode cX8_worth 25 = .ok (.ldc2_w 117, 3) := by decide +kernel
theorem dX8_worth_28 : decode cX8_worth 28 = .ok (.aload_n 0, 1) := by decide +kernel
theorem dX8_worth_29 : decode cX8_worth 29 = .ok (.getfield 161, 3) := by decide +kernel
theorem dX8_worth_32 : decode cX8_worth 32 = .ok (.lmul, 1) := by decide +kernel
theorem dX8_worth_33 : decode cX8_worth 33 = .ok (.iload_n 2, 1) := by decide +kernel
theorem dX8_worth_34 : decode cX8_worth 34 = .ok (.invokestatic 203, 3) := by decide +kernel
theorem dX8_worth_37 : decode cX8_worth 37 = .ok (.lreturn, 1) := by decide +kernel
theorem dX8_weight_0 : decode cX8_weight 0 = .ok (.aload_n 0, 1) := by decide +kernel
theorem dX8_weight_1 : decode cX8_weight 1 = .ok (.iload_n 1, 1) := by decide +kernel
theorem dX8_weight_2 : decode cX8_weight 2 = .ok (.aload_n 0, 1) := by decide +kernel
theorem dX8_weight_3 : decode cX8_weight 3 = .ok (.iload_n 2, 1) := by decide +kernel
theorem dX8_weight_4 : decode cX8_weight 4 = .ok (.invokevirtual 114, 3) := by decide +kernel
theorem dX8_weight_7 : decode cX8_weight 7 = .ok (.ifCond .eq 22, 3) := by decide +kernel
theorem dX8_weight_10 : decode cX8_weight 10 = .ok (.iload_n 1, 1) := by decide +kernel
theorem dX8_weight_11 : decode cX8_weight 11 = .ok (.iload_n 2, 1) := by decide +kernel
theorem dX8_weight_12 : decode cX8_weight 12 = .ok (.invokestatic 135, 3) := by decide +kernel
theorem dX8_weight_15 : decode cX8_weight 15 = .ok (.ifCond .eq 14, 3) := by decide +kernel
theorem dX8_weight_18 : decode cX8_weight 18 = .ok (.iload_n 3, 1) := by decide +kernel
theorem dX8_weight_19 : decode cX8_weight 19 = .ok (.invokestatic 193, 3) := by decide +kernel
theorem dX8_weight_22 : decode cX8_weight 22 = .ok (.ifCond .eq 7, 3) := by decide +kernel
theorem dX8_weight_25 : decode cX8_weight 25 = .ok (.iconst 1, 1) := by decide +kernel
theorem dX8_weight_26 : decode cX8_weight 26 = .ok (.goto 4, 3) := by decide +kernel
theorem dX8_weight_29 : decode cX8_weight 29 = .ok (.iconst 0, 1) := by decide +kernel
theorem dX8_weight_30 : decode cX8_weight 30 = .ok (.invokevirtual 196, 3) := by decide +kernel
theorem dX8_weight_33 : decode cX8_weight 33 = .ok (.istore 4, 2) := by decide +kernel
theorem dX8_weight_35 : decode cX8_weight 35 = .ok (.iload 4, 2) := by decide +kernel
theorem dX8_weight_37 : decode cX8_weight 37 = .ok (.ifCond .eq 11, 3) := by decide +kernel
theorem dX8_weight_40 : decode cX8_weight 40 = .ok (.iload 4, 2) := by decide +kernel
theorem dX8_weight_42 : decode cX8_weight 42 = .ok (.invokestatic 200, 3) := by decide +kernel
theorem dX8_weight_45 : decode cX8_weight 45 = .ok (.goto 17, 3) := by decide +kernel
theorem dX8_weight_48 : decode cX8_weight 48 = .ok (.aload_n 0, 1) := by decide +kernel
theorem dX8_weight_49 : decode cX8_weight 49 = .ok (.getfield 39, 3) := by decide +kernel
theorem dX8_weight_52 : decode cX8_weight 52 = .ok (.iload_n 2, 1) := by decide +kernel
theorem dX8_weight_53 : decode cX8_weight 53 = .ok (.laload, 1) := by decide +kernel
theorem dX8_weight_54 : decode cX8_weight 54 = .ok (.aload_n 0, 1) := by decide +kernel
theorem dX8_weight_55 : decode cX8_weight 55 = .ok (.getfield 161, 3) := by decide +kernel
theorem dX8_weight_58 : decode cX8_weight 58 = .ok (.iload_n 3, 1) := by decide +kernel
theorem dX8_weight_59 : decode cX8_weight 59 = .ok (.invokestatic 203, 3) := by decide +kernel
theorem dX8_weight_62 : decode cX8_weight 62 = .ok (.lreturn, 1) := by decide +kernel
theorem dX8_slack_0 : decode cX8_slack 0 = .ok (.aload_n 0, 1) := by decide +kernel
theorem dX8_slack_1 : decode cX8_slack 1 = .ok (.iload_n 1, 1) := by decide +kernel
theorem dX8_slack_2 : decode cX8_slack 2 = .ok (.aload_n 0, 1) := by decide +kernel
theorem dX8_slack_3 : decode cX8_slack 3 = .ok (.iload_n 2, 1) := by decide +kernel
theorem dX8_slack_4 : decode cX8_slack 4 = .ok (.invokevirtual 114, 3) := by decide +kernel
theorem dX8_slack_7 : decode cX8_slack 7 = .ok (.ifCond .eq 14, 3) := by decide +kernel
theorem dX8_slack_10 : decode cX8_slack 10 = .ok (.iload_n 3, 1) := by decide +kernel
theorem dX8_slack_11 : decode cX8_slack 11 = .ok (.invokestatic 193, 3) := by decide +kernel
