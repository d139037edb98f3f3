theorem dX7_init_0 : decode cX7_init 0 = .ok (.aload_n 0, 1) := by decide +kernel
theorem dX7_init_1 : decode cX7_init 1 = .ok (.invokespecial 1, 3) := by decide +kernel
theorem dX7_init_4 : decode cX7_init 4 = .ok (.aload_n 0, 1) := by decide +kernel
theorem dX7_init_5 : decode cX7_init 5 = .ok (.bipush 6, 2) := by decide +kernel
theorem dX7_init_7 : decode cX7_init 7 = .ok (.newarray .int, 2) := by decide +kernel
theorem dX7_init_9 : decode cX7_init 9 = .ok (.putfield 7, 3) := by decide +kernel
theorem dX7_init_12 : decode cX7_init 12 = .ok (.aload_n 0, 1) := by decide +kernel
theorem dX7_init_13 : decode cX7_init 13 = .ok (.bipush 6, 2) := by decide +kernel
theorem dX7_init_15 : decode cX7_init 15 = .ok (.newarray .int, 2) := by decide +kernel
theorem dX7_init_17 : decode cX7_init 17 = .ok (.putfield 13, 3) := by decide +kernel
theorem dX7_init_20 : decode cX7_init 20 = .ok (.aload_n 0, 1) := by decide +kernel
theorem dX7_init_21 : decode cX7_init 21 = .ok (.sipush 360, 3) := by decide +kernel
theorem dX7_init_24 : decode cX7_init 24 = .ok (.newarray .int, 2) := by decide +kernel
theorem dX7_init_26 : decode cX7_init 26 = .ok (.putfield 16, 3) := by decide +kernel
theorem dX7_init_29 : decode cX7_init 29 = .ok (.aload_n 0, 1) := by decide +kernel
theorem dX7_init_30 : decode cX7_init 30 = .ok (.bipush 60, 2) := by decide +kernel
theorem dX7_init_32 : decode cX7_init 32 = .ok (.newarray .int, 2) := by decide +kernel
theorem dX7_init_34 : decode cX7_init 34 = .ok (.putfield 19, 3) := by decide +kernel
theorem dX7_init_37 : decode cX7_init 37 = .ok (.aload_n 0, 1) := by decide +kernel
theorem dX7_init_38 : decode cX7_init 38 = .ok (.iconst 4, 1) := by decide +kernel
theorem dX7_init_39 : decode cX7_init 39 = .ok (.newarray .int, 2) := by decide +kernel
theorem dX7_init_41 : decode cX7_init 41 = .ok (.putfield 22, 3) := by decide +kernel
theorem dX7_init_44 : decode cX7_init 44 = .ok (.aload_n 0, 1) := by decide +kernel
theorem dX7_init_45 : decode cX7_init 45 = .ok (.sipush 240, 3) := by decide +kernel
theorem dX7_init_48 : decode cX7_init 48 = .ok (.newarray .byte, 2) := by decide +kernel
theorem dX7_init_50 : decode cX7_init 50 = .ok (.putfield 25, 3) := by decide +kernel
theorem dX7_init_53 : decode cX7_init 53 = .ok (.aload_n 0, 1) := by decide +kernel
theorem dX7_init_54 : decode cX7_init 54 = .ok (.bipush 24, 2) := by decide +kernel
theorem dX7_init_56 : decode cX7_init 56 = .ok (.newarray .int, 2) := by decide +kernel
theorem dX7_init_58 : decode cX7_init 58 = .ok (.putfield 29, 3) := by decide +kernel
theorem dX7_init_61 : decode cX7_init 61 = .ok (.aload_n 0, 1) := by decide +kernel
theorem dX7_init_62 : decode cX7_init 62 = .ok (.iconst 3, 1) := by decide +kernel
theorem dX7_init_63 : decode cX7_init 63 = .ok (.newarray .int, 2) := by decide +kernel
theorem dX7_init_65 : decode cX7_init 65 = .ok (.putfield 32, 3) := by decide +kernel
theorem dX7_init_68 : decode cX7_init 68 = .ok (.aload_n 0, 1) := by decide +kernel
theorem dX7_init_69 : decode cX7_init 69 = .ok (.bipush 24, 2) := by decide +kernel
theorem dX7_init_71 : decode cX7_init 71 = .ok (.newarray .int, 2) := by decide +kernel
theorem dX7_init_73 : decode cX7_init 73 = .ok (.putfield 35, 3) := by decide +kernel
theorem dX7_init_76 : decode cX7_init 76 = .ok (.aload_n 0, 1) := by decide +kernel
theorem dX7_init_77 : decode cX7_init 77 = .ok (.bipush 90, 2) := by decide +kernel
theorem dX7_init_79 : decode cX7_init 79 = .ok (.newarray .int, 2) := by decide +kernel
theorem dX7_init_81 : decode cX7_init 81 = .ok (.putfield 38, 3) := by decide +kernel
theorem dX7_init_84 : decode cX7_init 84 = .ok (.aload_n 0, 1) := by decide +kernel
theorem dX7_init_85 : decode cX7_init 85 = .ok (.iconst 4, 1) := by decide +kernel
theorem dX7_init_86 : decode cX7_init 86 = .ok (.newarray .int, 2) := by decide +kernel
theorem dX7_init_88 : decode cX7_init 88 = .ok (.putfield 41, 3) := by decide +kernel
theorem dX7_init_91 : decode cX7_init 91 = .ok (.aload_n 0, 1) := by decide +kernel
theorem dX7_init_92 : decode cX7_init 92 = .ok (.sipush 4000, 3) := by decide +kernel
theorem dX7_init_95 : decode cX7_init 95 = .ok (.newarray .int, 2) := by decide +kernel
theorem dX7_init_97 : decode cX7_init 97 = .ok (.putfield 44, 3) := by decide +kernel
theorem dX7_init_100 : decode cX7_init 100 = .ok (.aload_n 0, 1) := by decide +kernel
theorem dX7_init_101 : decode cX7_init 101 = .ok (.iconst 3, 1) := by decide +kernel
theorem dX7_init_102 : decode cX7_init 102 = .ok (.newarray .boolean, 2) := by decide +kernel
theorem dX7_init_104 : decode cX7_init 104 = .ok (.putfield 47, 3) := by decide +kernel
theorem dX7_init_107 : decode cX7_init 107 = .ok (.aload_n 0, 1) := by decide +kernel
theorem dX7_init_108 : decode cX7_init 108 = .ok (.bipush 45, 2) := by decide +kernel
theorem dX7_init_110 : decode cX7_init 110 = .ok (.newarray .int, 2) := by decide +kernel
theorem dX7_init_112 : decode cX7_init 112 = .ok (.putfield 51, 3) := by decide +kernel
theorem dX7_init_115 : decode cX7_init 115 = .ok (.aload_n 0, 1) := by decide +kernel
theorem dX7_init_116 : decode cX7_init 116 = .ok (.bipush 12, 2) := by decide +kernel
theorem dX7_init_118 : decode cX7_init 118 = .ok (.newarray .int, 2) := by decide +kernel
theorem dX7_init_120 : decode cX7_init 120 = .ok (.putfield 54, 3) := by decide +kernel
theorem dX7_init_123 : decode cX7_init 123 = .ok (.aload_n 0, 1) := by decide +kernel
theorem dX7_init_124 : decode cX7_init 124 = .ok (.sipush 12000, 3) := by decide +kernel
theorem dX7_init_127 : decode cX7_init 127 = .ok (.newarray .int, 2) := by decide +kernel
theorem dX7_init_129 : decode cX7_init 129 = .ok (.putfield 57, 3) := by decide +kernel
theorem dX7_init_132 : decode cX7_init 132 = .ok (.aload_n 0, 1) := by decide +kernel
theorem dX7_init_133 : decode cX7_init 133 = .ok (.iconst 4, 1) := by decide +kernel
theorem dX7_init_134 : decode cX7_init 134 = .ok (.newarray .int, 2) := by decide +kernel
theorem dX7_init_136 : decode cX7_init 136 = .ok (.putfield 60, 3) := by decide +kernel
theorem dX7_init_139 : decode cX7_init 139 = .ok (.aload_n 0, 1) := by decide +kernel
theorem dX7_init_140 : decode cX7_init 140 = .ok (.bipush (-9), 2) := by decide +kernel
theorem dX7_init_142 : decode cX7_init 142 = .ok (.putfield 63, 3) := by decide +kernel
theorem dX7_init_145 : decode cX7_init 145 = .ok (.aload_n 0, 1) := by decide +kernel
theorem dX7_init_146 : decode cX7_init 146 = .ok (.iconst 4, 1) := by decide +kernel
theorem dX7_init_147 : decode cX7_init 147 = .ok (.newarray .int, 2) := by decide +kernel
theorem dX7_init_149 : decode cX7_init 149 = .ok (.putfield 67, 3) := by decide +kernel
theorem dX7_init_152 : decode cX7_init 152 = .ok (.aload_n 0, 1) := by decide +kernel
theorem dX7_init_153 : decode cX7_init 153 = .ok (.bipush 7, 2) := by decide +kernel
theorem dX7_init_155 : decode cX7_init 155 = .ok (.newarray .int, 2) := by decide +kernel
theorem dX7_init_157 : decode cX7_init 157 = .ok (.putfield 70, 3) := by decide +kernel
theorem dX7_init_160 : decode cX7_init 160 = .ok (.aload_n 0, 1) := by decide +kernel
theorem dX7_init_161 : decode cX7_init 161 = .ok (.lconst 1, 1) := by decide +kernel
theorem dX7_init_162 : decode cX7_init 162 = .ok (.putfield 73, 3) := by decide +kernel
theorem dX7_init_165 : decode cX7_init 165 = .ok (.iconst 0, 1) := by decide +kernel
theorem dX7_init_166 : decode cX7_init 166 = .ok (.istore_n 1, 1) := by decide +kernel
theorem dX7_init_167 : decode cX7_init 167 = .ok (.iload_n 1, 1) := by decide +kernel
theorem dX7_init_168 : decode cX7_init 168 = .ok (.bipush 6, 2) := by decide +kernel
theorem dX7_init_170 : decode cX7_init 170 = .ok (.if_icmp .ge 16, 3) := by decide +kernel
theorem dX7_init_173 : decode cX7_init 173 = .ok (.aload_n 0, 1) := by decide +kernel
theorem dX7_init_174 : decode cX7_init 174 = .ok (.getfield 13, 3) := by decide +kernel
theorem dX7_init_177 : decode cX7_init 177 = .ok (.iload_n 1, 1) := by decide +kernel
theorem dX7_init_178 : decode cX7_init 178 = .ok (.iconst (-1), 1) := by decide +kernel
theorem dX7_init_179 : decode cX7_init 179 = .ok (.iastore, 1) := by decide +kernel
theorem dX7_init_180 : decode cX7_init 180 = .ok (.iinc 1 1, 3) := by decide +kernel
theorem dX7_init_183 : decode cX7_init 183 = .ok (.goto (-16), 3) := by decide +kernel
theorem dX7_init_186 : decode cX7_init 186 = .ok (.iconst 0, 1) := by decide +kernel
theorem dX7_init_187 : decode cX7_init 187 = .ok (.istore_n 1, 1) := by decide +kernel
theorem dX7_init_188 : decode cX7_init 188 = .ok (.iload_n 1, 1) := by decide +kernel
theorem dX7_init_189 : decode cX7_init 189 = .ok (.iconst 4, 1) := by decide +kernel
theorem dX7_init_190 : decode cX7_init 190 = .ok (.if_icmp .ge 16, 3) := by decide +kernel
theorem dX7_init_193 : decode cX7_init 193 = .ok (.aload_n 0, 1) := by decide +kernel
theorem dX7_init_194 : decode cX7_init 194 = .ok (.getfield 22, 3) := by decide +kernel
theorem dX7_init_197 : decode cX7_init 197 = .ok (.iload_n 1, 1) := by decide +kernel
theorem dX7_init_198 : decode cX7_init 198 = .ok (.iconst (-1), 1) := by decide +kernel
theorem dX7_init_199 : decode cX7_init 199 = .ok (.iastore, 1) := by decide +kernel
theorem dX7_init_200 : decode cX7_init 200 = .ok (.iinc 1 1, 3) := by decide +kernel
theorem dX7_init_203 : decode cX7_init 203 = .ok (.goto (-15), 3) := by decide +kernel
theorem dX7_init_206 : decode cX7_init 206 = .ok (.return_, 1) := by decide +kernel
theorem dX7_in_0 : decode cX7_in 0 = .ok (.iload_n 0, 1) := by decide +kernel
theorem dX7_in_1 : decode cX7_in 1 = .ok (.iload_n 1, 1) := by decide +kernel
theorem dX7_in_2 : decode cX7_in 2 = .ok (.if_icmp .lt 12, 3) := by decide +kernel
theorem dX7_in_5 : decode cX7_in 5 = .ok (.iload_n 0, 1) := by decide +kernel
theorem dX7_in_6 : decode cX7_in 6 = .ok (.iload_n 2, 1) := by decide +kernel
theorem dX7_in_7 : decode cX7_in 7 = .ok (.if_icmp .gt 7, 3) := by decide +kernel
theorem dX7_in_10 : decode cX7_in 10 = .ok (.iconst 1, 1) := by decide +kernel
theorem dX7_in_11 : decode cX7_in 11 = .ok (.goto 4, 3) := by decide +kernel
theorem dX7_in_14 : decode cX7_in 14 = .ok (.iconst 0, 1) := by decide +kernel
theorem dX7_in_15 : decode cX7_in 15 = .ok (.ireturn, 1) := by decide +kernel
theorem dX7_has_0 : decode cX7_has 0 = .ok (.iload_n 0, 1) := by decide +kernel
theorem dX7_has_1 : decode cX7_has 1 = .ok (.iload_n 1, 1) := by decide +kernel
theorem dX7_has_2 : decode cX7_has 2 = .ok (.ishr, 1) := by decide +kernel
theorem dX7_has_3 : decode cX7_has 3 = .ok (.iconst 1, 1) := by decide +kernel
theorem dX7_has_4 : decode cX7_has 4 = .ok (.iand, 1) := by decide +kernel
theorem dX7_has_5 : decode cX7_has 5 = .ok (.iconst 1, 1) := by decide +kernel
theorem dX7_has_6 : decode cX7_has 6 = .ok (.if_icmp .ne 7, 3) := by decide +kernel
theorem dX7_has_9 : decode cX7_has 9 = .ok (.iconst 1, 1) := by decide +kernel
theorem dX7_has_10 : decode cX7_has 10 = .ok (.goto 4, 3) := by decide +kernel
theorem dX7_has_13 : decode cX7_has 13 = .ok (.iconst 0, 1) := by decide +kernel
theorem dX7_has_14 : decode cX7_has 14 = .ok (.ireturn, 1) := by decide +kernel
theorem dX7_bits_0 : decode cX7_bits 0 = .ok (.iconst 0, 1) := by decide +kernel
theorem dX7_bits_1 : decode cX7_bits 1 = .ok (.istore_n 1, 1) := by decide +kernel
theorem dX7_bits_2 : decode cX7_bits 2 = .ok (.iload_n 0, 1) := by decide +kernel
theorem dX7_bits_3 : decode cX7_bits 3 = .ok (.istore_n 2, 1) := by decide +kernel
theorem dX7_bits_4 : decode cX7_bits 4 = .ok (.iload_n 2, 1) := by decide +kernel
theorem dX7_bits_5 : decode cX7_bits 5 = .ok (.ifCond .eq 15, 3) := by decide +kernel
theorem dX7_bits_8 : decode cX7_bits 8 = .ok (.iinc 1 1, 3) := by decide +kernel
theorem dX7_bits_11 : decode cX7_bits 11 = .ok (.iload_n 2, 1) := by decide +kernel
theorem dX7_bits_12 : decode cX7_bits 12 = .ok (.iload_n 2, 1) := by decide +kernel
theorem dX7_bits_13 : decode cX7_bits 13 = .ok (.iconst 1, 1) := by decide +kernel
theorem dX7_bits_14 : decode cX7_bits 14 = .ok (.isub, 1) := by decide +kernel
theorem dX7_bits_15 : decode cX7_bits 15 = .ok (.iand, 1) := by decide +kernel
theorem dX7_bits_16 : decode cX7_bits 16 = .ok (.istore_n 2, 1) := by decide +kernel
theorem dX7_bits_17 : decode cX7_bits 17 = .ok (.goto (-13), 3) := by decide +kernel
theorem dX7_bits_20 : decode cX7_bits 20 = .ok (.iload_n 1, 1) := by decide +kernel
theorem dX7_bits_21 : decode cX7_bits 21 = .ok (.ireturn, 1) := by decide +kernel
theorem dX7_lesser_0 : decode cX7_lesser 0 = .ok (.iload_n 0, 1) := by decide +kernel
theorem dX7_lesser_1 : decode cX7_lesser 1 = .ok (.iload_n 1, 1) := by decide +kernel
theorem dX7_lesser_2 : decode cX7_lesser 2 = .ok (.if_icmp .ge 7, 3) := by decide +kernel
theorem dX7_lesser_5 : decode cX7_lesser 5 = .ok (.iload_n 0, 1) := by decide +kernel
theorem dX7_lesser_6 : decode cX7_lesser 6 = .ok (.goto 4, 3) := by decide +kernel
theorem dX7_lesser_9 : decode cX7_lesser 9 = .ok (.iload_n 1, 1) := by decide +kernel
theorem dX7_lesser_10 : decode cX7_lesser 10 = .ok (.ireturn, 1) := by decide +kernel
theorem dX7_greater_0 : decode cX7_greater 0 = .ok (.iload_n 0, 1) := by decide +kernel
theorem dX7_greater_1 : decode cX7_greater 1 = .ok (.iload_n 1, 1) := by decide +kernel
theorem dX7_greater_2 : decode cX7_greater 2 = .ok (.if_icmp .le 7, 3) := by decide +kernel
theorem dX7_greater_5 : decode cX7_greater 5 = .ok (.iload_n 0, 1) := by decide +kernel
theorem dX7_greater_6 : decode cX7_greater 6 = .ok (.goto 4, 3) := by decide +kernel
theorem dX7_greater_9 : decode cX7_greater 9 = .ok (.iload_n 1, 1) := by decide +kernel
theorem dX7_greater_10 : decode cX7_greater 10 = .ok (.ireturn, 1) := by decide +kernel
theorem dX7_meets_0 : decode cX7_meets 0 = .ok (.aload_n 0, 1) := by decide +kernel
theorem dX7_meets_1 : decode cX7_meets 1 = .ok (.iload_n 1, 1) := by decide +kernel
theorem dX7_meets_2 : decode cX7_meets 2 = .ok (.putfield 77, 3) := by decide +kernel
theorem dX7_meets_5 : decode cX7_meets 5 = .ok (.aload_n 0, 1) := by decide +kernel
theorem dX7_meets_6 : decode cX7_meets 6 = .ok (.getfield 7, 3) := by decide +kernel
theorem dX7_meets_9 : decode cX7_meets 9 = .ok (.iload_n 1, 1) := by decide +kernel
theorem dX7_meets_10 : decode cX7_meets 10 = .ok (.dup2, 1) := by decide +kernel
theorem dX7_meets_11 : decode cX7_meets 11 = .ok (.iaload, 1) := by decide +kernel
theorem dX7_meets_12 : decode cX7_meets 12 = .ok (.iconst 1, 1) := by decide +kernel
theorem dX7_meets_13 : decode cX7_meets 13 = .ok (.iadd, 1) := by decide +kernel
theorem dX7_meets_14 : decode cX7_meets 14 = .ok (.iastore, 1) := by decide +kernel
theorem dX7_meets_15 : decode cX7_meets 15 = .ok (.bipush (-3), 2) := by decide +kernel
theorem dX7_meets_17 : decode cX7_meets 17 = .ok (.ireturn, 1) := by decide +kernel
theorem dX7_finding_0 : decode cX7_finding 0 = .ok (.aload_n 0, 1) := by decide +kernel
theorem dX7_finding_1 : decode cX7_finding 1 = .ok (.getfield 77, 3) := by decide +kernel
theorem dX7_finding_4 : decode cX7_finding 4 = .ok (.ireturn, 1) := by decide +kernel
theorem dX7_findings_0 : decode cX7_findings 0 = .ok (.iload_n 1, 1) := by decide +kernel
theorem dX7_findings_1 : decode cX7_findings 1 = .ok (.iconst 1, 1) := by decide +kernel
theorem dX7_findings_2 : decode cX7_findings 2 = .ok (.iconst 5, 1) := by decide +kernel
theorem dX7_findings_3 : decode cX7_findings 3 = .ok (.invokestatic 80, 3) := by decide +kernel
theorem dX7_findings_6 : decode cX7_findings 6 = .ok (.ifCond .eq 12, 3) := by decide +kernel
theorem dX7_findings_9 : decode cX7_findings 9 = .ok (.aload_n 0, 1) := by decide +kernel
theorem dX7_findings_10 : decode cX7_findings 10 = .ok (.getfield 7, 3) := by decide +kernel
theorem dX7_findings_13 : decode cX7_findings 13 = .ok (.iload_n 1, 1) := by decide +kernel
theorem dX7_findings_14 : decode cX7_findings 14 = .ok (.iaload, 1) := by decide +kernel
theorem dX7_findings_15 : decode cX7_findings 15 = .ok (.goto 4, 3) := by decide +kernel
theorem dX7_findings_18 : decode cX7_findings 18 = .ok (.iconst (-1), 1) := by decide +kernel
theorem dX7_findings_19 : decode cX7_findings 19 = .ok (.ireturn, 1) := by decide +kernel
theorem dX7_tells_0 : decode cX7_tells 0 = .ok (.aload_n 0, 1) := by decide +kernel
theorem dX7_tells_1 : decode cX7_tells 1 = .ok (.iload_n 1, 1) := by decide +kernel
theorem dX7_tells_2 : decode cX7_tells 2 = .ok (.putfield 84, 3) := by decide +kernel
theorem dX7_tells_5 : decode cX7_tells 5 = .ok (.iload_n 2, 1) := by decide +kernel
theorem dX7_tells_6 : decode cX7_tells 6 = .ok (.ireturn, 1) := by decide +kernel
theorem dX7_asked_0 : decode cX7_asked 0 = .ok (.aload_n 0, 1) := by decide +kernel
theorem dX7_asked_1 : decode cX7_asked 1 = .ok (.getfield 84, 3) := by decide +kernel
theorem dX7_asked_4 : decode cX7_asked 4 = .ok (.ireturn, 1) := by decide +kernel
theorem dX7_fraction_0 : decode cX7_fraction 0 = .ok (.lload_n 1, 1) := by decide +kernel
theorem dX7_fraction_1 : decode cX7_fraction 1 = .ok (.lstore 6, 2) := by decide +kernel
theorem dX7_fraction_3 : decode cX7_fraction 3 = .ok (.lload_n 3, 1) := by decide +kernel
theorem dX7_fraction_4 : decode cX7_fraction 4 = .ok (.lstore 8, 2) := by decide +kernel
theorem dX7_fraction_6 : decode cX7_fraction 6 = .ok (.lload 8, 2) := by decide +kernel
theorem dX7_fraction_8 : decode cX7_fraction 8 = .ok (.lconst 0, 1) := by decide +kernel
theorem dX7_fraction_9 : decode cX7_fraction 9 = .ok (.lcmp, 1) := by decide +kernel
theorem dX7_fraction_10 : decode cX7_fraction 10 = .ok (.ifCond .eq 21, 3) := by decide +kernel
theorem dX7_fraction_13 : decode cX7_fraction 13 = .ok (.lload 6, 2) := by decide +kernel
theorem dX7_fraction_15 : decode cX7_fraction 15 = .ok (.lload 8, 2) := by decide +kernel
theorem dX7_fraction_17 : decode cX7_fraction 17 = .ok (.lrem, 1) := by decide +kernel
theorem dX7_fraction_18 : decode cX7_fraction 18 = .ok (.lstore 10, 2) := by decide +kernel
theorem dX7_fraction_20 : decode cX7_fraction 20 = .ok (.lload 8, 2) := by decide +kernel
theorem dX7_fraction_22 : decode cX7_fraction 22 = .ok (.lstore 6, 2) := by decide +kernel
theorem dX7_fraction_24 : decode cX7_fraction 24 = .ok (.lload 10, 2) := by decide +kernel
theorem dX7_fraction_26 : decode cX7_fraction 26 = .ok (.lstore 8, 2) := by decide +kernel
theorem dX7_fraction_28 : decode cX7_fraction 28 = .ok (.goto (-22), 3) := by decide +kernel
theorem dX7_fraction_31 : decode cX7_fraction 31 = .ok (.aload_n 0, 1) := by decide +kernel
theorem dX7_fraction_32 : decode cX7_fraction 32 = .ok (.lload_n 1, 1) := by decide +kernel
theorem dX7_fraction_33 : decode cX7_fraction 33 = .ok (.lload 6, 2) := by decide +kernel
theorem dX7_fraction_35 : decode cX7_fraction 35 = .ok (.ldiv, 1) := by decide +kernel
theorem dX7_fraction_36 : decode cX7_fraction 36 = .ok (.putfield 87, 3) := by decide +kernel
theorem dX7_fraction_39 : decode cX7_fraction 39 = .ok (.aload_n 0, 1) := by decide +kernel
theorem dX7_fraction_40 : decode cX7_fraction 40 = .ok (.lload_n 3, 1) := by decide +kernel
theorem dX7_fraction_41 : decode cX7_fraction 41 = .ok (.lload 6, 2) := by decide +kernel
theorem dX7_fraction_43 : decode cX7_fraction 43 = .ok (.ldiv, 1) := by decide +kernel
theorem dX7_fraction_44 : decode cX7_fraction 44 = .ok (.putfield 73, 3) := by decide +kernel
theorem dX7_fraction_47 : decode cX7_fraction 47 = .ok (.iload 5, 2) := by decide +kernel
theorem dX7_fraction_49 : decode cX7_fraction 49 = .ok (.ireturn, 1) := by decide +kernel
theorem dX7_whole_0 : decode cX7_whole 0 = .ok (.aload_n 0, 1) := by decide +kernel
theorem dX7_whole_1 : decode cX7_whole 1 = .ok (.iload_n 1, 1) := by decide +kernel
theorem dX7_whole_2 : decode cX7_whole 2 = .ok (.i2l, 1) := by decide +kernel
theorem dX7_whole_3 : decode cX7_whole 3 = .ok (.putfield 87, 3) := by decide +kernel
theorem dX7_whole_6 : decode cX7_whole 6 = .ok (.aload_n 0, 1) := by decide +kernel
theorem dX7_whole_7 : decode cX7_whole 7 = .ok (.lconst 1, 1) := by decide +kernel
theorem dX7_whole_8 : decode cX7_whole 8 = .ok (.putfield 73, 3) := by decide +kernel
theorem dX7_whole_11 : decode cX7_whole 11 = .ok (.iload_n 2, 1) := by decide +kernel
theorem dX7_whole_12 : decode cX7_whole 12 = .ok (.ireturn, 1) := by decide +kernel
theorem dX7_upper_0 : decode cX7_upper 0 = .ok (.aload_n 0, 1) := by decide +kernel
theorem dX7_upper_1 : decode cX7_upper 1 = .ok (.getfield 87, 3) := by decide +kernel
theorem dX7_upper_4 : decode cX7_upper 4 = .ok (.lreturn, 1) := by decide +kernel
theorem dX7_lower_0 : decode cX7_lower 0 = .ok (.aload_n 0, 1) := by decide +kernel
theorem dX7_lower_1 : decode cX7_lower 1 = .ok (.getfield 73, 3) := by decide +kernel
theorem dX7_lower_4 : decode cX7_lower 4 = .ok (.lreturn, 1) := by decide +kernel
theorem dX7_isRow_0 : decode cX7_isRow 0 = .ok (.iload_n 0, 1) := by decide +kernel
theorem dX7_isRow_1 : decode cX7_isRow 1 = .ok (.iconst 0, 1) := by decide +kernel
theorem dX7_isRow_2 : decode cX7_isRow 2 = .ok (.iconst 5, 1) := by decide +kernel
theorem dX7_isRow_3 : decode cX7_isRow 3 = .ok (.invokestatic 80, 3) := by decide +kernel
theorem dX7_isRow_6 : decode cX7_isRow 6 = .ok (.ireturn, 1) := by decide +kernel
theorem dX7_rowAt_0 : decode cX7_rowAt 0 = .ok (.aload_n 0, 1) := by decide +kernel
theorem dX7_rowAt_1 : decode cX7_rowAt 1 = .ok (.getfield 16, 3) := by decide +kernel
theorem dX7_rowAt_4 : decode cX7_rowAt 4 = .ok (.bipush 60, 2) := by decide +kernel
theorem dX7_rowAt_6 : decode cX7_rowAt 6 = .ok (.iload_n 1, 1) := by decide +kernel
theorem dX7_rowAt_7 : decode cX7_rowAt 7 = .ok (.imul, 1) := by decide +kernel
theorem dX7_rowAt_8 : decode cX7_rowAt 8 = .ok (.iload_n 2, 1) := by decide +kernel
theorem dX7_rowAt_9 : decode cX7_rowAt 9 = .ok (.iadd, 1) := by decide +kernel
theorem dX7_rowAt_10 : decode cX7_rowAt 10 = .ok (.iaload, 1) := by decide +kernel
theorem dX7_rowAt_11 : decode cX7_rowAt 11 = .ok (.ireturn, 1) := by decide +kernel
theorem dX7_row_0 : decode cX7_row 0 = .ok (.iload_n 1, 1) := by decide +kernel
theorem dX7_row_1 : decode cX7_row 1 = .ok (.invokestatic 90, 3) := by decide +kernel
theorem dX7_row_4 : decode cX7_row 4 = .ok (.ifCond .eq 9, 3) := by decide +kernel
theorem dX7_row_7 : decode cX7_row 7 = .ok (.iload_n 2, 1) := by decide +kernel
theorem dX7_row_8 : decode cX7_row 8 = .ok (.bipush 60, 2) := by decide +kernel
theorem dX7_row_10 : decode cX7_row 10 = .ok (.if_icmp .le 5, 3) := by decide +kernel
theorem dX7_row_13 : decode cX7_row 13 = .ok (.iconst (-1), 1) := by decide +kernel
theorem dX7_row_14 : decode cX7_row 14 = .ok (.ireturn, 1) := by decide +kernel
theorem dX7_row_15 : decode cX7_row 15 = .ok (.iload_n 2, 1) := by decide +kernel
theorem dX7_row_16 : decode cX7_row 16 = .ok (.ifCond .ge 9, 3) := by decide +kernel
theorem dX7_row_19 : decode cX7_row 19 = .ok (.aload_n 0, 1) := by decide +kernel
theorem dX7_row_20 : decode cX7_row 20 = .ok (.iconst 5, 1) := by decide +kernel
theorem dX7_row_21 : decode cX7_row 21 = .ok (.invokevirtual 94, 3) := by decide +kernel
theorem dX7_row_24 : decode cX7_row 24 = .ok (.ireturn, 1) := by decide +kernel
theorem dX7_row_25 : decode cX7_row 25 = .ok (.aload_n 0, 1) := by decide +kernel
theorem dX7_row_26 : decode cX7_row 26 = .ok (.getfield 13, 3) := by decide +kernel
theorem dX7_row_29 : decode cX7_row 29 = .ok (.iload_n 1, 1) := by decide +kernel
theorem dX7_row_30 : decode cX7_row 30 = .ok (.iload_n 2, 1) := by decide +kernel
theorem dX7_row_31 : decode cX7_row 31 = .ok (.iastore, 1) := by decide +kernel
theorem dX7_row_32 : decode cX7_row 32 = .ok (.iconst 0, 1) := by decide +kernel
theorem dX7_row_33 : decode cX7_row 33 = .ok (.istore_n 3, 1) := by decide +kernel
theorem dX7_row_34 : decode cX7_row 34 = .ok (.iload_n 3, 1) := by decide +kernel
theorem dX7_row_35 : decode cX7_row 35 = .ok (.bipush 60, 2) := by decide +kernel
theorem dX7_row_37 : decode cX7_row 37 = .ok (.if_icmp .ge 21, 3) := by decide +kernel
theorem dX7_row_40 : decode cX7_row 40 = .ok (.aload_n 0, 1) := by decide +kernel
theorem dX7_row_41 : decode cX7_row 41 = .ok (.getfield 16, 3) := by decide +kernel
theorem dX7_row_44 : decode cX7_row 44 = .ok (.bipush 60, 2) := by decide +kernel
theorem dX7_row_46 : decode cX7_row 46 = .ok (.iload_n 1, 1) := by decide +kernel
theorem dX7_row_47 : decode cX7_row 47 = .ok (.imul, 1) := by decide +kernel
theorem dX7_row_48 : decode cX7_row 48 = .ok (.iload_n 3, 1) := by decide +kernel
theorem dX7_row_49 : decode cX7_row 49 = .ok (.iadd, 1) := by decide +kernel
theorem dX7_row_50 : decode cX7_row 50 = .ok (.iconst 0, 1) := by decide +kernel
theorem dX7_row_51 : decode cX7_row 51 = .ok (.iastore, 1) := by decide +kernel
theorem dX7_row_52 : decode cX7_row 52 = .ok (.iinc 3 1, 3) := by decide +kernel
theorem dX7_row_55 : decode cX7_row 55 = .ok (.goto (-21), 3) := by decide +kernel
theorem dX7_row_58 : decode cX7_row 58 = .ok (.iload_n 2, 1) := by decide +kernel
theorem dX7_row_59 : decode cX7_row 59 = .ok (.ireturn, 1) := by decide +kernel
theorem dX7_lay_0 : decode cX7_lay 0 = .ok (.iload_n 1, 1) := by decide +kernel
theorem dX7_lay_1 : decode cX7_lay 1 = .ok (.invokestatic 90, 3) := by decide +kernel
theorem dX7_lay_4 : decode cX7_lay 4 = .ok (.ifCond .ne 5, 3) := by decide +kernel
theorem dX7_lay_7 : decode cX7_lay 7 = .ok (.iconst (-1), 1) := by decide +kernel
theorem dX7_lay_8 : decode cX7_lay 8 = .ok (.ireturn, 1) := by decide +kernel
theorem dX7_lay_9 : decode cX7_lay 9 = .ok (.aload_n 0, 1) := by decide +kernel
theorem dX7_lay_10 : decode cX7_lay 10 = .ok (.getfield 13, 3) := by decide +kernel
theorem dX7_lay_13 : decode cX7_lay 13 = .ok (.iload_n 1, 1) := by decide +kernel
theorem dX7_lay_14 : decode cX7_lay 14 = .ok (.iaload, 1) := by decide +kernel
theorem dX7_lay_15 : decode cX7_lay 15 = .ok (.ifCond .ge 9, 3) := by decide +kernel
theorem dX7_lay_18 : decode cX7_lay 18 = .ok (.aload_n 0, 1) := by decide +kernel
theorem dX7_lay_19 : decode cX7_lay 19 = .ok (.iconst 1, 1) := by decide +kernel
theorem dX7_lay_20 : decode cX7_lay 20 = .ok (.invokevirtual 94, 3) := by decide +kernel
theorem dX7_lay_23 : decode cX7_lay 23 = .ok (.ireturn, 1) := by decide +kernel
theorem dX7_lay_24 : decode cX7_lay 24 = .ok (.iload_n 2, 1) := by decide +kernel
theorem dX7_lay_25 : decode cX7_lay 25 = .ok (.iconst 0, 1) := by decide +kernel
theorem dX7_lay_26 : decode cX7_lay 26 = .ok (.aload_n 0, 1) := by decide +kernel
theorem dX7_lay_27 : decode cX7_lay 27 = .ok (.getfield 13, 3) := by decide +kernel
theorem dX7_lay_30 : decode cX7_lay 30 = .ok (.iload_n 1, 1) := by decide +kernel
theorem dX7_lay_31 : decode cX7_lay 31 = .ok (.iaload, 1) := by decide +kernel
theorem dX7_lay_32 : decode cX7_lay 32 = .ok (.iconst 1, 1) := by decide +kernel
theorem dX7_lay_33 : decode cX7_lay 33 = .ok (.isub, 1) := by decide +kernel
theorem dX7_lay_34 : decode cX7_lay 34 = .ok (.invokestatic 80, 3) := by decide +kernel
theorem dX7_lay_37 : decode cX7_lay 37 = .ok (.ifCond .ne 9, 3) := by decide +kernel
theorem dX7_lay_40 : decode cX7_lay 40 = .ok (.aload_n 0, 1) := by decide +kernel
theorem dX7_lay_41 : decode cX7_lay 41 = .ok (.iconst 2, 1) := by decide +kernel
theorem dX7_lay_42 : decode cX7_lay 42 = .ok (.invokevirtual 94, 3) := by decide +kernel
theorem dX7_lay_45 : decode cX7_lay 45 = .ok (.ireturn, 1) := by decide +kernel
theorem dX7_lay_46 : decode cX7_lay 46 = .ok (.aload_n 0, 1) := by decide +kernel
theorem dX7_lay_47 : decode cX7_lay 47 = .ok (.iload_n 1, 1) := by decide +kernel
theorem dX7_lay_48 : decode cX7_lay 48 = .ok (.iload_n 2, 1) := by decide +kernel
theorem dX7_lay_49 : decode cX7_lay 49 = .ok (.invokevirtual 98, 3) := by decide +kernel
theorem dX7_lay_52 : decode cX7_lay 52 = .ok (.istore 4, 2) := by decide +kernel
theorem dX7_lay_54 : decode cX7_lay 54 = .ok (.aload_n 0, 1) := by decide +kernel
theorem dX7_lay_55 : decode cX7_lay 55 = .ok (.getfield 16, 3) := by decide +kernel
theorem dX7_lay_58 : decode cX7_lay 58 = .ok (.bipush 60, 2) := by decide +kernel
theorem dX7_lay_60 : decode cX7_lay 60 = .ok (.iload_n 1, 1) := by decide +kernel
theorem dX7_lay_61 : decode cX7_lay 61 = .ok (.imul, 1) := by decide +kernel
theorem dX7_lay_62 : decode cX7_lay 62 = .ok (.iload_n 2, 1) := by decide +kernel
theorem dX7_lay_63 : decode cX7_lay 63 = .ok (.iadd, 1) := by decide +kernel
theorem dX7_lay_64 : decode cX7_lay 64 = .ok (.iload_n 3, 1) := by decide +kernel
theorem dX7_lay_65 : decode cX7_lay 65 = .ok (.iastore, 1) := by decide +kernel
theorem dX7_lay_66 : decode cX7_lay 66 = .ok (.aload_n 0, 1) := by decide +kernel
theorem dX7_lay_67 : decode cX7_lay 67 = .ok (.iload 4, 2) := by decide +kernel
theorem dX7_lay_69 : decode cX7_lay 69 = .ok (.iconst 1, 1) := by decide +kernel
theorem dX7_lay_70 : decode cX7_lay 70 = .ok (.invokevirtual 102, 3) := by decide +kernel
theorem dX7_lay_73 : decode cX7_lay 73 = .ok (.ireturn, 1) := by decide +kernel
theorem dX7_at_0 : decode cX7_at 0 = .ok (.iload_n 1, 1) := by decide +kernel
theorem dX7_at_1 : decode cX7_at 1 = .ok (.invokestatic 90, 3) := by decide +kernel
theorem dX7_at_4 : decode cX7_at 4 = .ok (.ifCond .ne 5, 3) := by decide +kernel
theorem dX7_at_7 : decode cX7_at 7 = .ok (.iconst (-1), 1) := by decide +kernel
theorem dX7_at_8 : decode cX7_at 8 = .ok (.ireturn, 1) := by decide +kernel
theorem dX7_at_9 : decode cX7_at 9 = .ok (.aload_n 0, 1) := by decide +kernel
theorem dX7_at_10 : decode cX7_at 10 = .ok (.getfield 13, 3) := by decide +kernel
theorem dX7_at_13 : decode cX7_at 13 = .ok (.iload_n 1, 1) := by decide +kernel
theorem dX7_at_14 : decode cX7_at 14 = .ok (.iaload, 1) := by decide +kernel
theorem dX7_at_15 : decode cX7_at 15 = .ok (.ifCond .ge 9, 3) := by decide +kernel
theorem dX7_at_18 : decode cX7_at 18 = .ok (.aload_n 0, 1) := by decide +kernel
theorem dX7_at_19 : decode cX7_at 19 = .ok (.iconst 1, 1) := by decide +kernel
theorem dX7_at_20 : decode cX7_at 20 = .ok (.invokevirtual 94, 3) := by decide +kernel
theorem dX7_at_23 : decode cX7_at 23 = .ok (.ireturn, 1) := by decide +kernel
theorem dX7_at_24 : decode cX7_at 24 = .ok (.iload_n 2, 1) := by decide +kernel
theorem dX7_at_25 : decode cX7_at 25 = .ok (.iconst 0, 1) := by decide +kernel
theorem dX7_at_26 : decode cX7_at 26 = .ok (.aload_n 0, 1) := by decide +kernel
theorem dX7_at_27 : decode cX7_at 27 = .ok (.getfield 13, 3) := by decide +kernel
theorem dX7_at_30 : decode cX7_at 30 = .ok (.iload_n 1, 1) := by decide +kernel
theorem dX7_at_31 : decode cX7_at 31 = .ok (.iaload, 1) := by decide +kernel
theorem dX7_at_32 : decode cX7_at 32 = .ok (.iconst 1, 1) := by decide +kernel
theorem dX7_at_33 : decode cX7_at 33 = .ok (.isub, 1) := by decide +kernel
theorem dX7_at_34 : decode cX7_at 34 = .ok (.invokestatic 80, 3) := by decide +kernel
theorem dX7_at_37 : decode cX7_at 37 = .ok (.ifCond .eq 17, 3) := by decide +kernel
theorem dX7_at_40 : decode cX7_at 40 = .ok (.aload_n 0, 1) := by decide +kernel
theorem dX7_at_41 : decode cX7_at 41 = .ok (.aload_n 0, 1) := by decide +kernel
theorem dX7_at_42 : decode cX7_at 42 = .ok (.iload_n 1, 1) := by decide +kernel
theorem dX7_at_43 : decode cX7_at 43 = .ok (.iload_n 2, 1) := by decide +kernel
theorem dX7_at_44 : decode cX7_at 44 = .ok (.invokevirtual 98, 3) := by decide +kernel
theorem dX7_at_47 : decode cX7_at 47 = .ok (.iconst 1, 1) := by decide +kernel
theorem dX7_at_48 : decode cX7_at 48 = .ok (.invokevirtual 102, 3) := by decide +kernel
theorem dX7_at_51 : decode cX7_at 51 = .ok (.goto 8, 3) := by decide +kernel
theorem dX7_at_54 : decode cX7_at 54 = .ok (.aload_n 0, 1) := by decide +kernel
theorem dX7_at_55 : decode cX7_at 55 = .ok (.iconst 2, 1) := by decide +kernel
theorem dX7_at_56 : decode cX7_at 56 = .ok (.invokevirtual 94, 3) := by decide +kernel
theorem dX7_at_59 : decode cX7_at 59 = .ok (.ireturn, 1) := by decide +kernel
theorem dX7_tear_0 : decode cX7_tear 0 = .ok (.iload_n 1, 1) := by decide +kernel
theorem dX7_tear_1 : decode cX7_tear 1 = .ok (.invokestatic 90, 3) := by decide +kernel
theorem dX7_tear_4 : decode cX7_tear 4 = .ok (.ifCond .ne 5, 3) := by decide +kernel
theorem dX7_tear_7 : decode cX7_tear 7 = .ok (.iconst (-1), 1) := by decide +kernel
theorem dX7_tear_8 : decode cX7_tear 8 = .ok (.ireturn, 1) := by decide +kernel
theorem dX7_tear_9 : decode cX7_tear 9 = .ok (.aload_n 0, 1) := by decide +kernel
theorem dX7_tear_10 : decode cX7_tear 10 = .ok (.getfield 13, 3) := by decide +kernel
theorem dX7_tear_13 : decode cX7_tear 13 = .ok (.iload_n 1, 1) := by decide +kernel
theorem dX7_tear_14 : decode cX7_tear 14 = .ok (.iaload, 1) := by decide +kernel
theorem dX7_tear_15 : decode cX7_tear 15 = .ok (.ifCond .ge 9, 3) := by decide +kernel
theorem dX7_tear_18 : decode cX7_tear 18 = .ok (.aload_n 0, 1) := by decide +kernel
theorem dX7_tear_19 : decode cX7_tear 19 = .ok (.iconst 1, 1) := by decide +kernel
theorem dX7_tear_20 : decode cX7_tear 20 = .ok (.invokevirtual 94, 3) := by decide +kernel
theorem dX7_tear_23 : decode cX7_tear 23 = .ok (.ireturn, 1) := by decide +kernel
theorem dX7_tear_24 : decode cX7_tear 24 = .ok (.aload_n 0, 1) := by decide +kernel
theorem dX7_tear_25 : decode cX7_tear 25 = .ok (.getfield 13, 3) := by decide +kernel
theorem dX7_tear_28 : decode cX7_tear 28 = .ok (.iload_n 1, 1) := by decide +kernel
theorem dX7_tear_29 : decode cX7_tear 29 = .ok (.iconst (-1), 1) := by decide +kernel
theorem dX7_tear_30 : decode cX7_tear 30 = .ok (.iastore, 1) := by decide +kernel
theorem dX7_tear_31 : decode cX7_tear 31 = .ok (.iconst 1, 1) := by decide +kernel
theorem dX7_tear_32 : decode cX7_tear 32 = .ok (.ireturn, 1) := by decide +kernel
theorem dX7_copy_0 : decode cX7_copy 0 = .ok (.iload_n 1, 1) := by decide +kernel
theorem dX7_copy_1 : decode cX7_copy 1 = .ok (.invokestatic 90, 3) := by decide +kernel
theorem dX7_copy_4 : decode cX7_copy 4 = .ok (.ifCond .eq 10, 3) := by decide +kernel
theorem dX7_copy_7 : decode cX7_copy 7 = .ok (.iload_n 3, 1) := by decide +kernel
theorem dX7_copy_8 : decode cX7_copy 8 = .ok (.invokestatic 90, 3) := by decide +kernel
theorem dX7_copy_11 : decode cX7_copy 11 = .ok (.ifCond .ne 5, 3) := by decide +kernel
theorem dX7_copy_14 : decode cX7_copy 14 = .ok (.iconst (-1), 1) := by decide +kernel
theorem dX7_copy_15 : decode cX7_copy 15 = .ok (.ireturn, 1) := by decide +kernel
theorem dX7_copy_16 : decode cX7_copy 16 = .ok (.iload 5, 2) := by decide +kernel
theorem dX7_copy_18 : decode cX7_copy 18 = .ok (.ifCond .ge 9, 3) := by decide +kernel
theorem dX7_copy_21 : decode cX7_copy 21 = .ok (.aload_n 0, 1) := by decide +kernel
theorem dX7_copy_22 : decode cX7_copy 22 = .ok (.iconst 5, 1) := by decide +kernel
theorem dX7_copy_23 : decode cX7_copy 23 = .ok (.invokevirtual 94, 3) := by decide +kernel
theorem dX7_copy_26 : decode cX7_copy 26 = .ok (.ireturn, 1) := by decide +kernel
theorem dX7_copy_27 : decode cX7_copy 27 = .ok (.aload_n 0, 1) := by decide +kernel
theorem dX7_copy_28 : decode cX7_copy 28 = .ok (.getfield 13, 3) := by decide +kernel
theorem dX7_copy_31 : decode cX7_copy 31 = .ok (.iload_n 1, 1) := by decide +kernel
theorem dX7_copy_32 : decode cX7_copy 32 = .ok (.iaload, 1) := by decide +kernel
theorem dX7_copy_33 : decode cX7_copy 33 = .ok (.ifCond .lt 12, 3) := by decide +kernel
theorem dX7_copy_36 : decode cX7_copy 36 = .ok (.aload_n 0, 1) := by decide +kernel
theorem dX7_copy_37 : decode cX7_copy 37 = .ok (.getfield 13, 3) := by decide +kernel
theorem dX7_copy_40 : decode cX7_copy 40 = .ok (.iload_n 3, 1) := by decide +kernel
theorem dX7_copy_41 : decode cX7_copy 41 = .ok (.iaload, 1) := by decide +kernel
theorem dX7_copy_42 : decode cX7_copy 42 = .ok (.ifCond .ge 9, 3) := by decide +kernel
theorem dX7_copy_45 : decode cX7_copy 45 = .ok (.aload_n 0, 1) := by decide +kernel
theorem dX7_copy_46 : decode cX7_copy 46 = .ok (.iconst 1, 1) := by decide +kernel
theorem dX7_copy_47 : decode cX7_copy 47 = .ok (.invokevirtual 94, 3) := by decide +kernel
theorem dX7_copy_50 : decode cX7_copy 50 = .ok (.ireturn, 1) := by decide +kernel
theorem dX7_copy_51 : decode cX7_copy 51 = .ok (.iload_n 2, 1) := by decide +kernel
theorem dX7_copy_52 : decode cX7_copy 52 = .ok (.ifCond .lt 43, 3) := by decide +kernel
theorem dX7_copy_55 : decode cX7_copy 55 = .ok (.iload 4, 2) := by decide +kernel
theorem dX7_copy_57 : decode cX7_copy 57 = .ok (.ifCond .lt 38, 3) := by decide +kernel
theorem dX7_copy_60 : decode cX7_copy 60 = .ok (.iload_n 2, 1) := by decide +kernel
theorem dX7_copy_61 : decode cX7_copy 61 = .ok (.i2l, 1) := by decide +kernel
theorem dX7_copy_62 : decode cX7_copy 62 = .ok (.iload 5, 2) := by decide +kernel
theorem dX7_copy_64 : decode cX7_copy 64 = .ok (.i2l, 1) := by decide +kernel
theorem dX7_copy_65 : decode cX7_copy 65 = .ok (.ladd, 1) := by decide +kernel
theorem dX7_copy_66 : decode cX7_copy 66 = .ok (.aload_n 0, 1) := by decide +kernel
theorem dX7_copy_67 : decode cX7_copy 67 = .ok (.getfield 13, 3) := by decide +kernel
theorem dX7_copy_70 : decode cX7_copy 70 = .ok (.iload_n 1, 1) := by decide +kernel
theorem dX7_copy_71 : decode cX7_copy 71 = .ok (.iaload, 1) := by decide +kernel
theorem dX7_copy_72 : decode cX7_copy 72 = .ok (.i2l, 1) := by decide +kernel
theorem dX7_copy_73 : decode cX7_copy 73 = .ok (.lcmp, 1) := by decide +kernel
theorem dX7_copy_74 : decode cX7_copy 74 = .ok (.ifCond .gt 21, 3) := by decide +kernel
theorem dX7_copy_77 : decode cX7_copy 77 = .ok (.iload 4, 2) := by decide +kernel
theorem dX7_copy_79 : decode cX7_copy 79 = .ok (.i2l, 1) := by decide +kernel
theorem dX7_copy_80 : decode cX7_copy 80 = .ok (.iload 5, 2) := by decide +kernel
theorem dX7_copy_82 : decode cX7_copy 82 = .ok (.i2l, 1) := by decide +kernel
theorem dX7_copy_83 : decode cX7_copy 83 = .ok (.ladd, 1) := by decide +kernel
theorem dX7_copy_84 : decode cX7_copy 84 = .ok (.aload_n 0, 1) := by decide +kernel
theorem dX7_copy_85 : decode cX7_copy 85 = .ok (.getfield 13, 3) := by decide +kernel
theorem dX7_copy_88 : decode cX7_copy 88 = .ok (.iload_n 3, 1) := by decide +kernel
theorem dX7_copy_89 : decode cX7_copy 89 = .ok (.iaload, 1) := by decide +kernel
theorem dX7_copy_90 : decode cX7_copy 90 = .ok (.i2l, 1) := by decide +kernel
theorem dX7_copy_91 : decode cX7_copy 91 = .ok (.lcmp, 1) := by decide +kernel
theorem dX7_copy_92 : decode cX7_copy 92 = .ok (.ifCond .le 9, 3) := by decide +kernel
theorem dX7_copy_95 : decode cX7_copy 95 = .ok (.aload_n 0, 1) := by decide +kernel
theorem dX7_copy_96 : decode cX7_copy 96 = .ok (.iconst 2, 1) := by decide +kernel
theorem dX7_copy_97 : decode cX7_copy 97 = .ok (.invokevirtual 94, 3) := by decide +kernel
theorem dX7_copy_100 : decode cX7_copy 100 = .ok (.ireturn, 1) := by decide +kernel
theorem dX7_copy_101 : decode cX7_copy 101 = .ok (.iconst 0, 1) := by decide +kernel
theorem dX7_copy_102 : decode cX7_copy 102 = .ok (.istore 6, 2) := by decide +kernel
theorem dX7_copy_104 : decode cX7_copy 104 = .ok (.iload 6, 2) := by decide +kernel
theorem dX7_copy_106 : decode cX7_copy 106 = .ok (.iload 5, 2) := by decide +kernel
theorem dX7_copy_108 : decode cX7_copy 108 = .ok (.if_icmp .ge 25, 3) := by decide +kernel
theorem dX7_copy_111 : decode cX7_copy 111 = .ok (.aload_n 0, 1) := by decide +kernel
theorem dX7_copy_112 : decode cX7_copy 112 = .ok (.getfield 19, 3) := by decide +kernel
theorem dX7_copy_115 : decode cX7_copy 115 = .ok (.iload 6, 2) := by decide +kernel
theorem dX7_copy_117 : decode cX7_copy 117 = .ok (.aload_n 0, 1) := by decide +kernel
theorem dX7_copy_118 : decode cX7_copy 118 = .ok (.iload_n 1, 1) := by decide +kernel
theorem dX7_copy_119 : decode cX7_copy 119 = .ok (.iload_n 2, 1) := by decide +kernel
theorem dX7_copy_120 : decode cX7_copy 120 = .ok (.iload 6, 2) := by decide +kernel
theorem dX7_copy_122 : decode cX7_copy 122 = .ok (.iadd, 1) := by decide +kernel
theorem dX7_copy_123 : decode cX7_copy 123 = .ok (.invokevirtual 98, 3) := by decide +kernel
theorem dX7_copy_126 : decode cX7_copy 126 = .ok (.iastore, 1) := by decide +kernel
theorem dX7_copy_127 : decode cX7_copy 127 = .ok (.iinc 6 1, 3) := by decide +kernel
theorem dX7_copy_130 : decode cX7_copy 130 = .ok (.goto (-26), 3) := by decide +kernel
theorem dX7_copy_133 : decode cX7_copy 133 = .ok (.iconst 0, 1) := by decide +kernel
theorem dX7_copy_134 : decode cX7_copy 134 = .ok (.istore 6, 2) := by decide +kernel
theorem dX7_copy_136 : decode cX7_copy 136 = .ok (.iload 6, 2) := by decide +kernel
theorem dX7_copy_138 : decode cX7_copy 138 = .ok (.iload 5, 2) := by decide +kernel
theorem dX7_copy_140 : decode cX7_copy 140 = .ok (.if_icmp .ge 31, 3) := by decide +kernel
theorem dX7_copy_143 : decode cX7_copy 143 = .ok (.aload_n 0, 1) := by decide +kernel
theorem dX7_copy_144 : decode cX7_copy 144 = .ok (.getfield 16, 3) := by decide +kernel
theorem dX7_copy_147 : decode cX7_copy 147 = .ok (.bipush 60, 2) := by decide +kernel
theorem dX7_copy_149 : decode cX7_copy 149 = .ok (.iload_n 3, 1) := by decide +kernel
theorem dX7_copy_150 : decode cX7_copy 150 = .ok (.imul, 1) := by decide +kernel
theorem dX7_copy_151 : decode cX7_copy 151 = .ok (.iload 4, 2) := by decide +kernel
theorem dX7_copy_153 : decode cX7_copy 153 = .ok (.iadd, 1) := by decide +kernel
theorem dX7_copy_154 : decode cX7_copy 154 = .ok (.iload 6, 2) := by decide +kernel
theorem dX7_copy_156 : decode cX7_copy 156 = .ok (.iadd, 1) := by decide +kernel
theorem dX7_copy_157 : decode cX7_copy 157 = .ok (.aload_n 0, 1) := by decide +kernel
theorem dX7_copy_158 : decode cX7_copy 158 = .ok (.getfield 19, 3) := by decide +kernel
theorem dX7_copy_161 : decode cX7_copy 161 = .ok (.iload 6, 2) := by decide +kernel
theorem dX7_copy_163 : decode cX7_copy 163 = .ok (.iaload, 1) := by decide +kernel
theorem dX7_copy_164 : decode cX7_copy 164 = .ok (.iastore, 1) := by decide +kernel
theorem dX7_copy_165 : decode cX7_copy 165 = .ok (.iinc 6 1, 3) := by decide +kernel
theorem dX7_copy_168 : decode cX7_copy 168 = .ok (.goto (-32), 3) := by decide +kernel
theorem dX7_copy_171 : decode cX7_copy 171 = .ok (.iconst 1, 1) := by decide +kernel
theorem dX7_copy_172 : decode cX7_copy 172 = .ok (.ireturn, 1) := by decide +kernel
theorem dX7_mean_0 : decode cX7_mean 0 = .ok (.iload_n 1, 1) := by decide +kernel
theorem dX7_mean_1 : decode cX7_mean 1 = .ok (.invokestatic 90, 3) := by decide +kernel
theorem dX7_mean_4 : decode cX7_mean 4 = .ok (.ifCond .ne 5, 3) := by decide +kernel
theorem dX7_mean_7 : decode cX7_mean 7 = .ok (.iconst (-1), 1) := by decide +kernel
theorem dX7_mean_8 : decode cX7_mean 8 = .ok (.ireturn, 1) := by decide +kernel
theorem dX7_mean_9 : decode cX7_mean 9 = .ok (.aload_n 0, 1) := by decide +kernel
theorem dX7_mean_10 : decode cX7_mean 10 = .ok (.getfield 13, 3) := by decide +kernel
theorem dX7_mean_13 : decode cX7_mean 13 = .ok (.iload_n 1, 1) := by decide +kernel
theorem dX7_mean_14 : decode cX7_mean 14 = .ok (.iaload, 1) := by decide +kernel
theorem dX7_mean_15 : decode cX7_mean 15 = .ok (.ifCond .ge 9, 3) := by decide +kernel
theorem dX7_mean_18 : decode cX7_mean 18 = .ok (.aload_n 0, 1) := by decide +kernel
theorem dX7_mean_19 : decode cX7_mean 19 = .ok (.iconst 1, 1) := by decide +kernel
theorem dX7_mean_20 : decode cX7_mean 20 = .ok (.invokevirtual 94, 3) := by decide +kernel
theorem dX7_mean_23 : decode cX7_mean 23 = .ok (.ireturn, 1) := by decide +kernel
theorem dX7_mean_24 : decode cX7_mean 24 = .ok (.aload_n 0, 1) := by decide +kernel
theorem dX7_mean_25 : decode cX7_mean 25 = .ok (.getfield 13, 3) := by decide +kernel
theorem dX7_mean_28 : decode cX7_mean 28 = .ok (.iload_n 1, 1) := by decide +kernel
theorem dX7_mean_29 : decode cX7_mean 29 = .ok (.iaload, 1) := by decide +kernel
theorem dX7_mean_30 : decode cX7_mean 30 = .ok (.ifCond .ne 9, 3) := by decide +kernel
theorem dX7_mean_33 : decode cX7_mean 33 = .ok (.aload_n 0, 1) := by decide +kernel
theorem dX7_mean_34 : decode cX7_mean 34 = .ok (.iconst 4, 1) := by decide +kernel
theorem dX7_mean_35 : decode cX7_mean 35 = .ok (.invokevirtual 94, 3) := by decide +kernel
theorem dX7_mean_38 : decode cX7_mean 38 = .ok (.ireturn, 1) := by decide +kernel
theorem dX7_mean_39 : decode cX7_mean 39 = .ok (.lconst 0, 1) := by decide +kernel
theorem dX7_mean_40 : decode cX7_mean 40 = .ok (.lstore_n 2, 1) := by decide +kernel
theorem dX7_mean_41 : decode cX7_mean 41 = .ok (.iconst 0, 1) := by decide +kernel
theorem dX7_mean_42 : decode cX7_mean 42 = .ok (.istore 4, 2) := by decide +kernel
theorem dX7_mean_44 : decode cX7_mean 44 = .ok (.iload 4, 2) := by decide +kernel
theorem dX7_mean_46 : decode cX7_mean 46 = .ok (.aload_n 0, 1) := by decide +kernel
theorem dX7_mean_47 : decode cX7_mean 47 = .ok (.getfield 13, 3) := by decide +kernel
theorem dX7_mean_50 : decode cX7_mean 50 = .ok (.iload_n 1, 1) := by decide +kernel
theorem dX7_mean_51 : decode cX7_mean 51 = .ok (.iaload, 1) := by decide +kernel
theorem dX7_mean_52 : decode cX7_mean 52 = .ok (.if_icmp .ge 20, 3) := by decide +kernel
theorem dX7_mean_55 : decode cX7_mean 55 = .ok (.lload_n 2, 1) := by decide +kernel
theorem dX7_mean_56 : decode cX7_mean 56 = .ok (.aload_n 0, 1) := by decide +kernel
theorem dX7_mean_57 : decode cX7_mean 57 = .ok (.iload_n 1, 1) := by decide +kernel
theorem dX7_mean_58 : decode cX7_mean 58 = .ok (.iload 4, 2) := by decide +kernel
theorem dX7_mean_60 : decode cX7_mean 60 = .ok (.invokevirtual 98, 3) := by decide +kernel
theorem dX7_mean_63 : decode cX7_mean 63 = .ok (.i2l, 1) := by decide +kernel
theorem dX7_mean_64 : decode cX7_mean 64 = .ok (.ladd, 1) := by decide +kernel
theorem dX7_mean_65 : decode cX7_mean 65 = .ok (.lstore_n 2, 1) := by decide +kernel
theorem dX7_mean_66 : decode cX7_mean 66 = .ok (.iinc 4 1, 3) := by decide +kernel
theorem dX7_mean_69 : decode cX7_mean 69 = .ok (.goto (-25), 3) := by decide +kernel
theorem dX7_mean_72 : decode cX7_mean 72 = .ok (.aload_n 0, 1) := by decide +kernel
theorem dX7_mean_73 : decode cX7_mean 73 = .ok (.lload_n 2, 1) := by decide +kernel
theorem dX7_mean_74 : decode cX7_mean 74 = .ok (.aload_n 0, 1) := by decide +kernel
theorem dX7_mean_75 : decode cX7_mean 75 = .ok (.getfield 13, 3) := by decide +kernel
theorem dX7_mean_78 : decode cX7_mean 78 = .ok (.iload_n 1, 1) := by decide +kernel
theorem dX7_mean_79 : decode cX7_mean 79 = .ok (.iaload, 1) := by decide +kernel
theorem dX7_mean_80 : decode cX7_mean 80 = .ok (.i2l, 1) := by decide +kernel
theorem dX7_mean_81 : decode cX7_mean 81 = .ok (.ldiv, 1) := by decide +kernel
theorem dX7_mean_82 : decode cX7_mean 82 = .ok (.l2i, 1) := by decide +kernel
theorem dX7_mean_83 : decode cX7_mean 83 = .ok (.iconst 1, 1) := by decide +kernel
theorem dX7_mean_84 : decode cX7_mean 84 = .ok (.invokevirtual 102, 3) := by decide +kernel
theorem dX7_mean_87 : decode cX7_mean 87 = .ok (.ireturn, 1) := by decide +kernel
theorem dX7_isText_0 : decode cX7_isText 0 = .ok (.iload_n 0, 1) := by decide +kernel
theorem dX7_isText_1 : decode cX7_isText 1 = .ok (.iconst 0, 1) := by decide +kernel
theorem dX7_isText_2 : decode cX7_isText 2 = .ok (.iconst 3, 1) := by decide +kernel
theorem dX7_isText_3 : decode cX7_isText 3 = .ok (.invokestatic 80, 3) := by decide +kernel
theorem dX7_isText_6 : decode cX7_isText 6 = .ok (.ireturn, 1) := by decide +kernel
theorem dX7_text_0 : decode cX7_text 0 = .ok (.iload_n 1, 1) := by decide +kernel
theorem dX7_text_1 : decode cX7_text 1 = .ok (.invokestatic 105, 3) := by decide +kernel
theorem dX7_text_4 : decode cX7_text 4 = .ok (.ifCond .eq 9, 3) := by decide +kernel
theorem dX7_text_7 : decode cX7_text 7 = .ok (.iload_n 2, 1) := by decide +kernel
theorem dX7_text_8 : decode cX7_text 8 = .ok (.bipush 60, 2) := by decide +kernel
theorem dX7_text_10 : decode cX7_text 10 = .ok (.if_icmp .le 5, 3) := by decide +kernel
theorem dX7_text_13 : decode cX7_text 13 = .ok (.iconst (-1), 1) := by decide +kernel
theorem dX7_text_14 : decode cX7_text 14 = .ok (.ireturn, 1) := by decide +kernel
theorem dX7_text_15 : decode cX7_text 15 = .ok (.iload_n 2, 1) := by decide +kernel
theorem dX7_text_16 : decode cX7_text 16 = .ok (.ifCond .ge 9, 3) := by decide +kernel
theorem dX7_text_19 : decode cX7_text 19 = .ok (.aload_n 0, 1) := by decide +kernel
theorem dX7_text_20 : decode cX7_text 20 = .ok (.iconst 5, 1) := by decide +kernel
theorem dX7_text_21 : decode cX7_text 21 = .ok (.invokevirtual 94, 3) := by decide +kernel
theorem dX7_text_24 : decode cX7_text 24 = .ok (.ireturn, 1) := by decide +kernel
theorem dX7_text_25 : decode cX7_text 25 = .ok (.aload_n 0, 1) := by decide +kernel
theorem dX7_text_26 : decode cX7_text 26 = .ok (.getfield 22, 3) := by decide +kernel
theorem dX7_text_29 : decode cX7_text 29 = .ok (.iload_n 1, 1) := by decide +kernel
theorem dX7_text_30 : decode cX7_text 30 = .ok (.iload_n 2, 1) := by decide +kernel
theorem dX7_text_31 : decode cX7_text 31 = .ok (.iastore, 1) := by decide +kernel
theorem dX7_text_32 : decode cX7_text 32 = .ok (.iconst 0, 1) := by decide +kernel
theorem dX7_text_33 : decode cX7_text 33 = .ok (.istore_n 3, 1) := by decide +kernel
theorem dX7_text_34 : decode cX7_text 34 = .ok (.iload_n 3, 1) := by decide +kernel
theorem dX7_text_35 : decode cX7_text 35 = .ok (.bipush 60, 2) := by decide +kernel
theorem dX7_text_37 : decode cX7_text 37 = .ok (.if_icmp .ge 22, 3) := by decide +kernel
theorem dX7_text_40 : decode cX7_text 40 = .ok (.aload_n 0, 1) := by decide +kernel
theorem dX7_text_41 : decode cX7_text 41 = .ok (.getfield 25, 3) := by decide +kernel
theorem dX7_text_44 : decode cX7_text 44 = .ok (.bipush 60, 2) := by decide +kernel
theorem dX7_text_46 : decode cX7_text 46 = .ok (.iload_n 1, 1) := by decide +kernel
theorem dX7_text_47 : decode cX7_text 47 = .ok (.imul, 1) := by decide +kernel
theorem dX7_text_48 : decode cX7_text 48 = .ok (.iload_n 3, 1) := by decide +kernel
theorem dX7_text_49 : decode cX7_text 49 = .ok (.iadd, 1) := by decide +kernel
theorem dX7_text_50 : decode cX7_text 50 = .ok (.bipush 32, 2) := by decide +kernel
theorem dX7_text_52 : decode cX7_text 52 = .ok (.bastore, 1) := by decide +kernel
theorem dX7_text_53 : decode cX7_text 53 = .ok (.iinc 3 1, 3) := by decide +kernel
theorem dX7_text_56 : decode cX7_text 56 = .ok (.goto (-22), 3) := by decide +kernel
theorem dX7_text_59 : decode cX7_text 59 = .ok (.iload_n 2, 1) := by decide +kernel
theorem dX7_text_60 : decode cX7_text 60 = .ok (.ireturn, 1) := by decide +kernel
theorem dX7_put_0 : decode cX7_put 0 = .ok (.iload_n 1, 1) := by decide +kernel
theorem dX7_put_1 : decode cX7_put 1 = .ok (.invokestatic 105, 3) := by decide +kernel
theorem dX7_put_4 : decode cX7_put 4 = .ok (.ifCond .ne 5, 3) := by decide +kernel
theorem dX7_put_7 : decode cX7_put 7 = .ok (.iconst (-1), 1) := by decide +kernel
theorem dX7_put_8 : decode cX7_put 8 = .ok (.ireturn, 1) := by decide +kernel
theorem dX7_put_9 : decode cX7_put 9 = .ok (.aload_n 0, 1) := by decide +kernel
theorem dX7_put_10 : decode cX7_put 10 = .ok (.getfield 22, 3) := by decide +kernel
theorem dX7_put_13 : decode cX7_put 13 = .ok (.iload_n 1, 1) := by decide +kernel
theorem dX7_put_14 : decode cX7_put 14 = .ok (.iaload, 1) := by decide +kernel
theorem dX7_put_15 : decode cX7_put 15 = .ok (.ifCond .ge 9, 3) := by decide +kernel
theorem dX7_put_18 : decode cX7_put 18 = .ok (.aload_n 0, 1) := by decide +kernel
theorem dX7_put_19 : decode cX7_put 19 = .ok (.iconst 1, 1) := by decide +kernel
theorem dX7_put_20 : decode cX7_put 20 = .ok (.invokevirtual 94, 3) := by decide +kernel
theorem dX7_put_23 : decode cX7_put 23 = .ok (.ireturn, 1) := by decide +kernel
theorem dX7_put_24 : decode cX7_put 24 = .ok (.iload_n 2, 1) := by decide +kernel
theorem dX7_put_25 : decode cX7_put 25 = .ok (.iconst 0, 1) := by decide +kernel
theorem dX7_put_26 : decode cX7_put 26 = .ok (.aload_n 0, 1) := by decide +kernel
theorem dX7_put_27 : decode cX7_put 27 = .ok (.getfield 22, 3) := by decide +kernel
theorem dX7_put_30 : decode cX7_put 30 = .ok (.iload_n 1, 1) := by decide +kernel
theorem dX7_put_31 : decode cX7_put 31 = .ok (.iaload, 1) := by decide +kernel
theorem dX7_put_32 : decode cX7_put 32 = .ok (.iconst 1, 1) := by decide +kernel
theorem dX7_put_33 : decode cX7_put 33 = .ok (.isub, 1) := by decide +kernel
theorem dX7_put_34 : decode cX7_put 34 = .ok (.invokestatic 80, 3) := by decide +kernel
theorem dX7_put_37 : decode cX7_put 37 = .ok (.ifCond .ne 9, 3) := by decide +kernel
theorem dX7_put_40 : decode cX7_put 40 = .ok (.aload_n 0, 1) := by decide +kernel
theorem dX7_put_41 : decode cX7_put 41 = .ok (.iconst 2, 1) := by decide +kernel
theorem dX7_put_42 : decode cX7_put 42 = .ok (.invokevirtual 94, 3) := by decide +kernel
theorem dX7_put_45 : decode cX7_put 45 = .ok (.ireturn, 1) := by decide +kernel
theorem dX7_put_46 : decode cX7_put 46 = .ok (.aload_n 0, 1) := by decide +kernel
theorem dX7_put_47 : decode cX7_put 47 = .ok (.getfield 25, 3) := by decide +kernel
theorem dX7_put_50 : decode cX7_put 50 = .ok (.bipush 60, 2) := by decide +kernel
theorem dX7_put_52 : decode cX7_put 52 = .ok (.iload_n 1, 1) := by decide +kernel
theorem dX7_put_53 : decode cX7_put 53 = .ok (.imul, 1) := by decide +kernel
theorem dX7_put_54 : decode cX7_put 54 = .ok (.iload_n 2, 1) := by decide +kernel
theorem dX7_put_55 : decode cX7_put 55 = .ok (.iadd, 1) := by decide +kernel
theorem dX7_put_56 : decode cX7_put 56 = .ok (.baload, 1) := by decide +kernel
theorem dX7_put_57 : decode cX7_put 57 = .ok (.istore 4, 2) := by decide +kernel
theorem dX7_put_59 : decode cX7_put 59 = .ok (.aload_n 0, 1) := by decide +kernel
theorem dX7_put_60 : decode cX7_put 60 = .ok (.getfield 25, 3) := by decide +kernel
theorem dX7_put_63 : decode cX7_put 63 = .ok (.bipush 60, 2) := by decide +kernel
theorem dX7_put_65 : decode cX7_put 65 = .ok (.iload_n 1, 1) := by decide +kernel
theorem dX7_put_66 : decode cX7_put 66 = .ok (.imul, 1) := by decide +kernel
theorem dX7_put_67 : decode cX7_put 67 = .ok (.iload_n 2, 1) := by decide +kernel
theorem dX7_put_68 : decode cX7_put 68 = .ok (.iadd, 1) := by decide +kernel
theorem dX7_put_69 : decode cX7_put 69 = .ok (.iload_n 3, 1) := by decide +kernel
theorem dX7_put_70 : decode cX7_put 70 = .ok (.i2b, 1) := by decide +kernel
theorem dX7_put_71 : decode cX7_put 71 = .ok (.bastore, 1) := by decide +kernel
theorem dX7_put_72 : decode cX7_put 72 = .ok (.sipush 1000, 3) := by decide +kernel
theorem dX7_put_75 : decode cX7_put 75 = .ok (.iload 4, 2) := by decide +kernel
theorem dX7_put_77 : decode cX7_put 77 = .ok (.iadd, 1) := by decide +kernel
theorem dX7_put_78 : decode cX7_put 78 = .ok (.ireturn, 1) := by decide +kernel
theorem dX7_byteAt_0 : decode cX7_byteAt 0 = .ok (.iload_n 2, 1) := by decide +kernel
theorem dX7_byteAt_1 : decode cX7_byteAt 1 = .ok (.aload_n 0, 1) := by decide +kernel
theorem dX7_byteAt_2 : decode cX7_byteAt 2 = .ok (.getfield 22, 3) := by decide +kernel
theorem dX7_byteAt_5 : decode cX7_byteAt 5 = .ok (.iload_n 1, 1) := by decide +kernel
theorem dX7_byteAt_6 : decode cX7_byteAt 6 = .ok (.iaload, 1) := by decide +kernel
theorem dX7_byteAt_7 : decode cX7_byteAt 7 = .ok (.if_icmp .ge 17, 3) := by decide +kernel
theorem dX7_byteAt_10 : decode cX7_byteAt 10 = .ok (.aload_n 0, 1) := by decide +kernel
theorem dX7_byteAt_11 : decode cX7_byteAt 11 = .ok (.getfield 25, 3) := by decide +kernel
theorem dX7_byteAt_14 : decode cX7_byteAt 14 = .ok (.bipush 60, 2) := by decide +kernel
theorem dX7_byteAt_16 : decode cX7_byteAt 16 = .ok (.iload_n 1, 1) := by decide +kernel
theorem dX7_byteAt_17 : decode cX7_byteAt 17 = .ok (.imul, 1) := by decide +kernel
theorem dX7_byteAt_18 : decode cX7_byteAt 18 = .ok (.iload_n 2, 1) := by decide +kernel
theorem dX7_byteAt_19 : decode cX7_byteAt 19 = .ok (.iadd, 1) := by decide +kernel
theorem dX7_byteAt_20 : decode cX7_byteAt 20 = .ok (.baload, 1) := by decide +kernel
theorem dX7_byteAt_21 : decode cX7_byteAt 21 = .ok (.goto 4, 3) := by decide +kernel
theorem dX7_byteAt_24 : decode cX7_byteAt 24 = .ok (.iconst 0, 1) := by decide +kernel
theorem dX7_byteAt_25 : decode cX7_byteAt 25 = .ok (.ireturn, 1) := by decide +kernel
theorem dX7_kindOf_0 : decode cX7_kindOf 0 = .ok (.iload_n 0, 1) := by decide +kernel
theorem dX7_kindOf_1 : decode cX7_kindOf 1 = .ok (.tableswitch 91 103 118 #[79, 91, 91, 83, 91, 91, 91, 91, 87, 91, 91, 91, 85, 81, 91, 89], 79) := by decide +kernel
theorem dX7_kindOf_80 : decode cX7_kindOf 80 = .ok (.iconst 0, 1) := by decide +kernel
theorem dX7_kindOf_81 : decode cX7_kindOf 81 = .ok (.ireturn, 1) := by decide +kernel
theorem dX7_kindOf_82 : decode cX7_kindOf 82 = .ok (.iconst 1, 1) := by decide +kernel
theorem dX7_kindOf_83 : decode cX7_kindOf 83 = .ok (.ireturn, 1) := by decide +kernel
theorem dX7_kindOf_84 : decode cX7_kindOf 84 = .ok (.iconst 2, 1) := by decide +kernel
theorem dX7_kindOf_85 : decode cX7_kindOf 85 = .ok (.ireturn, 1) := by decide +kernel
theorem dX7_kindOf_86 : decode cX7_kindOf 86 = .ok (.iconst 3, 1) := by decide +kernel
theorem dX7_kindOf_87 : decode cX7_kindOf 87 = .ok (.ireturn, 1) := by decide +kernel
theorem dX7_kindOf_88 : decode cX7_kindOf 88 = .ok (.iconst 4, 1) := by decide +kernel
theorem dX7_kindOf_89 : decode cX7_kindOf 89 = .ok (.ireturn, 1) := by decide +kernel
theorem dX7_kindOf_90 : decode cX7_kindOf 90 = .ok (.iconst 5, 1) := by decide +kernel
theorem dX7_kindOf_91 : decode cX7_kindOf 91 = .ok (.ireturn, 1) := by decide +kernel
theorem dX7_kindOf_92 : decode cX7_kindOf 92 = .ok (.bipush (-9), 2) := by decide +kernel
theorem dX7_kindOf_94 : decode cX7_kindOf 94 = .ok (.ireturn, 1) := by decide +kernel
theorem dX7_figure_0 : decode cX7_figure 0 = .ok (.aload_n 0, 1) := by decide +kernel
theorem dX7_figure_1 : decode cX7_figure 1 = .ok (.aload_n 0, 1) := by decide +kernel
theorem dX7_figure_2 : decode cX7_figure 2 = .ok (.iload_n 1, 1) := by decide +kernel
theorem dX7_figure_3 : decode cX7_figure 3 = .ok (.aload_n 0, 1) := by decide +kernel
theorem dX7_figure_4 : decode cX7_figure 4 = .ok (.getfield 108, 3) := by decide +kernel
theorem dX7_figure_7 : decode cX7_figure 7 = .ok (.invokevirtual 111, 3) := by decide +kernel
theorem dX7_figure_10 : decode cX7_figure 10 = .ok (.bipush 48, 2) := by decide +kernel
theorem dX7_figure_12 : decode cX7_figure 12 = .ok (.isub, 1) := by decide +kernel
theorem dX7_figure_13 : decode cX7_figure 13 = .ok (.putfield 114, 3) := by decide +kernel
theorem dX7_figure_16 : decode cX7_figure 16 = .ok (.aload_n 0, 1) := by decide +kernel
theorem dX7_figure_17 : decode cX7_figure 17 = .ok (.getfield 114, 3) := by decide +kernel
theorem dX7_figure_20 : decode cX7_figure 20 = .ok (.iload_n 2, 1) := by decide +kernel
theorem dX7_figure_21 : decode cX7_figure 21 = .ok (.iload_n 3, 1) := by decide +kernel
theorem dX7_figure_22 : decode cX7_figure 22 = .ok (.invokestatic 80, 3) := by decide +kernel
theorem dX7_figure_25 : decode cX7_figure 25 = .ok (.istore 4, 2) := by decide +kernel
theorem dX7_figure_27 : decode cX7_figure 27 = .ok (.aload_n 0, 1) := by decide +kernel
theorem dX7_figure_28 : decode cX7_figure 28 = .ok (.dup, 1) := by decide +kernel
theorem dX7_figure_29 : decode cX7_figure 29 = .ok (.getfield 108, 3) := by decide +kernel
theorem dX7_figure_32 : decode cX7_figure 32 = .ok (.iload 4, 2) := by decide +kernel
theorem dX7_figure_34 : decode cX7_figure 34 = .ok (.ifCond .eq 7, 3) := by decide +kernel
theorem dX7_figure_37 : decode cX7_figure 37 = .ok (.iconst 1, 1) := by decide +kernel
theorem dX7_figure_38 : decode cX7_figure 38 = .ok (.goto 4, 3) := by decide +kernel
theorem dX7_figure_41 : decode cX7_figure 41 = .ok (.iconst 0, 1) := by decide +kernel
theorem dX7_figure_42 : decode cX7_figure 42 = .ok (.iadd, 1) := by decide +kernel
theorem dX7_figure_43 : decode cX7_figure 43 = .ok (.putfield 108, 3) := by decide +kernel
theorem dX7_figure_46 : decode cX7_figure 46 = .ok (.iload 4, 2) := by decide +kernel
theorem dX7_figure_48 : decode cX7_figure 48 = .ok (.ireturn, 1) := by decide +kernel
theorem dX7_readsStores_0 : decode cX7_readsStores 0 = .ok (.aload_n 0, 1) := by decide +kernel
theorem dX7_readsStores_1 : decode cX7_readsStores 1 = .ok (.iload_n 1, 1) := by decide +kernel
theorem dX7_readsStores_2 : decode cX7_readsStores 2 = .ok (.aload_n 0, 1) := by decide +kernel
theorem dX7_readsStores_3 : decode cX7_readsStores 3 = .ok (.getfield 108, 3) := by decide +kernel
theorem dX7_readsStores_6 : decode cX7_readsStores 6 = .ok (.invokevirtual 111, 3) := by decide +kernel
theorem dX7_readsStores_9 : decode cX7_readsStores 9 = .ok (.bipush 102, 2) := by decide +kernel
theorem dX7_readsStores_11 : decode cX7_readsStores 11 = .ok (.if_icmp .eq 5, 3) := by decide +kernel
theorem dX7_readsStores_14 : decode cX7_readsStores 14 = .ok (.iconst 0, 1) := by decide +kernel
theorem dX7_readsStores_15 : decode cX7_readsStores 15 = .ok (.ireturn, 1) := by decide +kernel
theorem dX7_readsStores_16 : decode cX7_readsStores 16 = .ok (.aload_n 0, 1) := by decide +kernel
theorem dX7_readsStores_17 : decode cX7_readsStores 17 = .ok (.dup, 1) := by decide +kernel
theorem dX7_readsStores_18 : decode cX7_readsStores 18 = .ok (.getfield 108, 3) := by decide +kernel
theorem dX7_readsStores_21 : decode cX7_readsStores 21 = .ok (.iconst 1, 1) := by decide +kernel
theorem dX7_readsStores_22 : decode cX7_readsStores 22 = .ok (.iadd, 1) := by decide +kernel
theorem dX7_readsStores_23 : decode cX7_readsStores 23 = .ok (.putfield 108, 3) := by decide +kernel
theorem dX7_readsStores_26 : decode cX7_readsStores 26 = .ok (.iconst 0, 1) := by decide +kernel
theorem dX7_readsStores_27 : decode cX7_readsStores 27 = .ok (.istore_n 2, 1) := by decide +kernel
theorem dX7_readsStores_28 : decode cX7_readsStores 28 = .ok (.iload_n 2, 1) := by decide +kernel
theorem dX7_readsStores_29 : decode cX7_readsStores 29 = .ok (.iconst 3, 1) := by decide +kernel
theorem dX7_readsStores_30 : decode cX7_readsStores 30 = .ok (.if_icmp .ge 32, 3) := by decide +kernel
theorem dX7_readsStores_33 : decode cX7_readsStores 33 = .ok (.aload_n 0, 1) := by decide +kernel
theorem dX7_readsStores_34 : decode cX7_readsStores 34 = .ok (.iload_n 1, 1) := by decide +kernel
theorem dX7_readsStores_35 : decode cX7_readsStores 35 = .ok (.iconst 0, 1) := by decide +kernel
theorem dX7_readsStores_36 : decode cX7_readsStores 36 = .ok (.bipush 9, 2) := by decide +kernel
theorem dX7_readsStores_38 : decode cX7_readsStores 38 = .ok (.invokevirtual 117, 3) := by decide +kernel
theorem dX7_readsStores_41 : decode cX7_readsStores 41 = .ok (.ifCond .ne 5, 3) := by decide +kernel
theorem dX7_readsStores_44 : decode cX7_readsStores 44 = .ok (.iconst 0, 1) := by decide +kernel
theorem dX7_readsStores_45 : decode cX7_readsStores 45 = .ok (.ireturn, 1) := by decide +kernel
theorem dX7_readsStores_46 : decode cX7_readsStores 46 = .ok (.aload_n 0, 1) := by decide +kernel
theorem dX7_readsStores_47 : decode cX7_readsStores 47 = .ok (.getfield 32, 3) := by decide +kernel
theorem dX7_readsStores_50 : decode cX7_readsStores 50 = .ok (.iload_n 2, 1) := by decide +kernel
theorem dX7_readsStores_51 : decode cX7_readsStores 51 = .ok (.aload_n 0, 1) := by decide +kernel
theorem dX7_readsStores_52 : decode cX7_readsStores 52 = .ok (.getfield 114, 3) := by decide +kernel
theorem dX7_readsStores_55 : decode cX7_readsStores 55 = .ok (.iastore, 1) := by decide +kernel
theorem dX7_readsStores_56 : decode cX7_readsStores 56 = .ok (.iinc 2 1, 3) := by decide +kernel
theorem dX7_readsStores_59 : decode cX7_readsStores 59 = .ok (.goto (-31), 3) := by decide +kernel
theorem dX7_readsStores_62 : decode cX7_readsStores 62 = .ok (.aload_n 0, 1) := by decide +kernel
theorem dX7_readsStores_63 : decode cX7_readsStores 63 = .ok (.iconst 1, 1) := by decide +kernel
theorem dX7_readsStores_64 : decode cX7_readsStores 64 = .ok (.putfield 120, 3) := by decide +kernel
theorem dX7_readsStores_67 : decode cX7_readsStores 67 = .ok (.iconst 1, 1) := by decide +kernel
theorem dX7_readsStores_68 : decode cX7_readsStores 68 = .ok (.ireturn, 1) := by decide +kernel
theorem dX7_readsGod_0 : decode cX7_readsGod 0 = .ok (.aload_n 0, 1) := by decide +kernel
theorem dX7_readsGod_1 : decode cX7_readsGod 1 = .ok (.iload_n 1, 1) := by decide +kernel
theorem dX7_readsGod_2 : decode cX7_readsGod 2 = .ok (.aload_n 0, 1) := by decide +kernel
theorem dX7_readsGod_3 : decode cX7_readsGod 3 = .ok (.getfield 108, 3) := by decide +kernel
theorem dX7_readsGod_6 : decode cX7_readsGod 6 = .ok (.invokevirtual 111, 3) := by decide +kernel
theorem dX7_readsGod_9 : decode cX7_readsGod 9 = .ok (.invokestatic 124, 3) := by decide +kernel
theorem dX7_readsGod_12 : decode cX7_readsGod 12 = .ok (.istore_n 2, 1) := by decide +kernel
theorem dX7_readsGod_13 : decode cX7_readsGod 13 = .ok (.iload_n 2, 1) := by decide +kernel
theorem dX7_readsGod_14 : decode cX7_readsGod 14 = .ok (.bipush (-9), 2) := by decide +kernel
theorem dX7_readsGod_16 : decode cX7_readsGod 16 = .ok (.if_icmp .eq 11, 3) := by decide +kernel
theorem dX7_readsGod_19 : decode cX7_readsGod 19 = .ok (.aload_n 0, 1) := by decide +kernel
theorem dX7_readsGod_20 : decode cX7_readsGod 20 = .ok (.getfield 127, 3) := by decide +kernel
theorem dX7_readsGod_23 : decode cX7_readsGod 23 = .ok (.iconst 4, 1) := by decide +kernel
theorem dX7_readsGod_24 : decode cX7_readsGod 24 = .ok (.if_icmp .ne 5, 3) := by decide +kernel
theorem dX7_readsGod_27 : decode cX7_readsGod 27 = .ok (.iconst 0, 1) := by decide +kernel
theorem dX7_readsGod_28 : decode cX7_readsGod 28 = .ok (.ireturn, 1) := by decide +kernel
theorem dX7_readsGod_29 : decode cX7_readsGod 29 = .ok (.aload_n 0, 1) := by decide +kernel
theorem dX7_readsGod_30 : decode cX7_readsGod 30 = .ok (.dup, 1) := by decide +kernel
theorem dX7_readsGod_31 : decode cX7_readsGod 31 = .ok (.getfield 108, 3) := by decide +kernel
theorem dX7_readsGod_34 : decode cX7_readsGod 34 = .ok (.iconst 1, 1) := by decide +kernel
theorem dX7_readsGod_35 : decode cX7_readsGod 35 = .ok (.iadd, 1) := by decide +kernel
theorem dX7_readsGod_36 : decode cX7_readsGod 36 = .ok (.putfield 108, 3) := by decide +kernel
theorem dX7_readsGod_39 : decode cX7_readsGod 39 = .ok (.bipush 6, 2) := by decide +kernel
theorem dX7_readsGod_41 : decode cX7_readsGod 41 = .ok (.aload_n 0, 1) := by decide +kernel
theorem dX7_readsGod_42 : decode cX7_readsGod 42 = .ok (.getfield 127, 3) := by decide +kernel
theorem dX7_readsGod_45 : decode cX7_readsGod 45 = .ok (.imul, 1) := by decide +kernel
theorem dX7_readsGod_46 : decode cX7_readsGod 46 = .ok (.istore_n 3, 1) := by decide +kernel
theorem dX7_readsGod_47 : decode cX7_readsGod 47 = .ok (.aload_n 0, 1) := by decide +kernel
theorem dX7_readsGod_48 : decode cX7_readsGod 48 = .ok (.getfield 35, 3) := by decide +kernel
theorem dX7_readsGod_51 : decode cX7_readsGod 51 = .ok (.iload_n 3, 1) := by decide +kernel
theorem dX7_readsGod_52 : decode cX7_readsGod 52 = .ok (.iload_n 2, 1) := by decide +kernel
theorem dX7_readsGod_53 : decode cX7_readsGod 53 = .ok (.iastore, 1) := by decide +kernel
theorem dX7_readsGod_54 : decode cX7_readsGod 54 = .ok (.iconst 1, 1) := by decide +kernel
theorem dX7_readsGod_55 : decode cX7_readsGod 55 = .ok (.istore 4, 2) := by decide +kernel
theorem dX7_readsGod_57 : decode cX7_readsGod 57 = .ok (.iload 4, 2) := by decide +kernel
theorem dX7_readsGod_59 : decode cX7_readsGod 59 = .ok (.iconst 5, 1) := by decide +kernel
theorem dX7_readsGod_60 : decode cX7_readsGod 60 = .ok (.if_icmp .ge 66, 3) := by decide +kernel
theorem dX7_readsGod_63 : decode cX7_readsGod 63 = .ok (.aload_n 0, 1) := by decide +kernel
theorem dX7_readsGod_64 : decode cX7_readsGod 64 = .ok (.iload_n 1, 1) := by decide +kernel
theorem dX7_readsGod_65 : decode cX7_readsGod 65 = .ok (.iload 4, 2) := by decide +kernel
theorem dX7_readsGod_67 : decode cX7_readsGod 67 = .ok (.iconst 2, 1) := by decide +kernel
theorem dX7_readsGod_68 : decode cX7_readsGod 68 = .ok (.if_icmp .ne 7, 3) := by decide +kernel
theorem dX7_readsGod_71 : decode cX7_readsGod 71 = .ok (.iconst 1, 1) := by decide +kernel
theorem dX7_readsGod_72 : decode cX7_readsGod 72 = .ok (.goto 4, 3) := by decide +kernel
theorem dX7_readsGod_75 : decode cX7_readsGod 75 = .ok (.iconst 0, 1) := by decide +kernel
theorem dX7_readsGod_76 : decode cX7_readsGod 76 = .ok (.iload 4, 2) := by decide +kernel
theorem dX7_readsGod_78 : decode cX7_readsGod 78 = .ok (.iconst 1, 1) := by decide +kernel
theorem dX7_readsGod_79 : decode cX7_readsGod 79 = .ok (.if_icmp .ne 7, 3) := by decide +kernel
theorem dX7_readsGod_82 : decode cX7_readsGod 82 = .ok (.iconst 2, 1) := by decide +kernel
theorem dX7_readsGod_83 : decode cX7_readsGod 83 = .ok (.goto 16, 3) := by decide +kernel
theorem dX7_readsGod_86 : decode cX7_readsGod 86 = .ok (.iload 4, 2) := by decide +kernel
theorem dX7_readsGod_88 : decode cX7_readsGod 88 = .ok (.iconst 2, 1) := by decide +kernel
theorem dX7_readsGod_89 : decode cX7_readsGod 89 = .ok (.if_icmp .ne 8, 3) := by decide +kernel
theorem dX7_readsGod_92 : decode cX7_readsGod 92 = .ok (.bipush 6, 2) := by decide +kernel
theorem dX7_readsGod_94 : decode cX7_readsGod 94 = .ok (.goto 5, 3) := by decide +kernel
theorem dX7_readsGod_97 : decode cX7_readsGod 97 = .ok (.bipush 9, 2) := by decide +kernel
theorem dX7_readsGod_99 : decode cX7_readsGod 99 = .ok (.invokevirtual 117, 3) := by decide +kernel
theorem dX7_readsGod_102 : decode cX7_readsGod 102 = .ok (.ifCond .ne 5, 3) := by decide +kernel
theorem dX7_readsGod_105 : decode cX7_readsGod 105 = .ok (.iconst 0, 1) := by decide +kernel
theorem dX7_readsGod_106 : decode cX7_readsGod 106 = .ok (.ireturn, 1) := by decide +kernel
theorem dX7_readsGod_107 : decode cX7_readsGod 107 = .ok (.aload_n 0, 1) := by decide +kernel
theorem dX7_readsGod_108 : decode cX7_readsGod 108 = .ok (.getfield 35, 3) := by decide +kernel
theorem dX7_readsGod_111 : decode cX7_readsGod 111 = .ok (.iload_n 3, 1) := by decide +kernel
theorem dX7_readsGod_112 : decode cX7_readsGod 112 = .ok (.iload 4, 2) := by decide +kernel
theorem dX7_readsGod_114 : decode cX7_readsGod 114 = .ok (.iadd, 1) := by decide +kernel
theorem dX7_readsGod_115 : decode cX7_readsGod 115 = .ok (.aload_n 0, 1) := by decide +kernel
theorem dX7_readsGod_116 : decode cX7_readsGod 116 = .ok (.getfield 114, 3) := by decide +kernel
theorem dX7_readsGod_119 : decode cX7_readsGod 119 = .ok (.iastore, 1) := by decide +kernel
theorem dX7_readsGod_120 : decode cX7_readsGod 120 = .ok (.iinc 4 1, 3) := by decide +kernel
theorem dX7_readsGod_123 : decode cX7_readsGod 123 = .ok (.goto (-66), 3) := by decide +kernel
theorem dX7_readsGod_126 : decode cX7_readsGod 126 = .ok (.aload_n 0, 1) := by decide +kernel
theorem dX7_readsGod_127 : decode cX7_readsGod 127 = .ok (.iload_n 1, 1) := by decide +kernel
theorem dX7_readsGod_128 : decode cX7_readsGod 128 = .ok (.aload_n 0, 1) := by decide +kernel
theorem dX7_readsGod_129 : decode cX7_readsGod 129 = .ok (.getfield 108, 3) := by decide +kernel
theorem dX7_readsGod_132 : decode cX7_readsGod 132 = .ok (.invokevirtual 111, 3) := by decide +kernel
theorem dX7_readsGod_135 : decode cX7_readsGod 135 = .ok (.istore 4, 2) := by decide +kernel
theorem dX7_readsGod_137 : decode cX7_readsGod 137 = .ok (.iload 4, 2) := by decide +kernel
theorem dX7_readsGod_139 : decode cX7_readsGod 139 = .ok (.bipush 45, 2) := by decide +kernel
theorem dX7_readsGod_141 : decode cX7_readsGod 141 = .ok (.if_icmp .ne 12, 3) := by decide +kernel
theorem dX7_readsGod_144 : decode cX7_readsGod 144 = .ok (.iload_n 2, 1) := by decide +kernel
theorem dX7_readsGod_145 : decode cX7_readsGod 145 = .ok (.iconst 1, 1) := by decide +kernel
theorem dX7_readsGod_146 : decode cX7_readsGod 146 = .ok (.if_icmp .eq 7, 3) := by decide +kernel
theorem dX7_readsGod_149 : decode cX7_readsGod 149 = .ok (.iconst 1, 1) := by decide +kernel
theorem dX7_readsGod_150 : decode cX7_readsGod 150 = .ok (.goto 4, 3) := by decide +kernel
theorem dX7_readsGod_153 : decode cX7_readsGod 153 = .ok (.iconst 0, 1) := by decide +kernel
theorem dX7_readsGod_154 : decode cX7_readsGod 154 = .ok (.istore 5, 2) := by decide +kernel
theorem dX7_readsGod_156 : decode cX7_readsGod 156 = .ok (.iload 5, 2) := by decide +kernel
theorem dX7_readsGod_158 : decode cX7_readsGod 158 = .ok (.ifCond .ne 23, 3) := by decide +kernel
theorem dX7_readsGod_161 : decode cX7_readsGod 161 = .ok (.iload 4, 2) := by decide +kernel
theorem dX7_readsGod_163 : decode cX7_readsGod 163 = .ok (.bipush 65, 2) := by decide +kernel
theorem dX7_readsGod_165 : decode cX7_readsGod 165 = .ok (.isub, 1) := by decide +kernel
theorem dX7_readsGod_166 : decode cX7_readsGod 166 = .ok (.iconst 0, 1) := by decide +kernel
theorem dX7_readsGod_167 : decode cX7_readsGod 167 = .ok (.aload_n 0, 1) := by decide +kernel
theorem dX7_readsGod_168 : decode cX7_readsGod 168 = .ok (.getfield 127, 3) := by decide +kernel
theorem dX7_readsGod_171 : decode cX7_readsGod 171 = .ok (.iconst 1, 1) := by decide +kernel
theorem dX7_readsGod_172 : decode cX7_readsGod 172 = .ok (.isub, 1) := by decide +kernel
theorem dX7_readsGod_173 : decode cX7_readsGod 173 = .ok (.invokestatic 80, 3) := by decide +kernel
theorem dX7_readsGod_176 : decode cX7_readsGod 176 = .ok (.ifCond .ne 5, 3) := by decide +kernel
theorem dX7_readsGod_179 : decode cX7_readsGod 179 = .ok (.iconst 0, 1) := by decide +kernel
theorem dX7_readsGod_180 : decode cX7_readsGod 180 = .ok (.ireturn, 1) := by decide +kernel
theorem dX7_readsGod_181 : decode cX7_readsGod 181 = .ok (.aload_n 0, 1) := by decide +kernel
theorem dX7_readsGod_182 : decode cX7_readsGod 182 = .ok (.dup, 1) := by decide +kernel
theorem dX7_readsGod_183 : decode cX7_readsGod 183 = .ok (.getfield 108, 3) := by decide +kernel
theorem dX7_readsGod_186 : decode cX7_readsGod 186 = .ok (.iconst 1, 1) := by decide +kernel
theorem dX7_readsGod_187 : decode cX7_readsGod 187 = .ok (.iadd, 1) := by decide +kernel
theorem dX7_readsGod_188 : decode cX7_readsGod 188 = .ok (.putfield 108, 3) := by decide +kernel
theorem dX7_readsGod_191 : decode cX7_readsGod 191 = .ok (.aload_n 0, 1) := by decide +kernel
theorem dX7_readsGod_192 : decode cX7_readsGod 192 = .ok (.getfield 35, 3) := by decide +kernel
theorem dX7_readsGod_195 : decode cX7_readsGod 195 = .ok (.iload_n 3, 1) := by decide +kernel
theorem dX7_readsGod_196 : decode cX7_readsGod 196 = .ok (.iconst 5, 1) := by decide +kernel
theorem dX7_readsGod_197 : decode cX7_readsGod 197 = .ok (.iadd, 1) := by decide +kernel
theorem dX7_readsGod_198 : decode cX7_readsGod 198 = .ok (.iload 5, 2) := by decide +kernel
theorem dX7_readsGod_200 : decode cX7_readsGod 200 = .ok (.ifCond .eq 8, 3) := by decide +kernel
theorem dX7_readsGod_203 : decode cX7_readsGod 203 = .ok (.bipush (-9), 2) := by decide +kernel
theorem dX7_readsGod_205 : decode cX7_readsGod 205 = .ok (.goto 8, 3) := by decide +kernel
theorem dX7_readsGod_208 : decode cX7_readsGod 208 = .ok (.iload 4, 2) := by decide +kernel
theorem dX7_readsGod_210 : decode cX7_readsGod 210 = .ok (.bipush 65, 2) := by decide +kernel
theorem dX7_readsGod_212 : decode cX7_readsGod 212 = .ok (.isub, 1) := by decide +kernel
theorem dX7_readsGod_213 : decode cX7_readsGod 213 = .ok (.iastore, 1) := by decide +kernel
theorem dX7_readsGod_214 : decode cX7_readsGod 214 = .ok (.aload_n 0, 1) := by decide +kernel
theorem dX7_readsGod_215 : decode cX7_readsGod 215 = .ok (.dup, 1) := by decide +kernel
theorem dX7_readsGod_216 : decode cX7_readsGod 216 = .ok (.getfield 127, 3) := by decide +kernel
theorem dX7_readsGod_219 : decode cX7_readsGod 219 = .ok (.iconst 1, 1) := by decide +kernel
theorem dX7_readsGod_220 : decode cX7_readsGod 220 = .ok (.iadd, 1) := by decide +kernel
theorem dX7_readsGod_221 : decode cX7_readsGod 221 = .ok (.putfield 127, 3) := by decide +kernel
theorem dX7_readsGod_224 : decode cX7_readsGod 224 = .ok (.iconst 1, 1) := by decide +kernel
theorem dX7_readsGod_225 : decode cX7_readsGod 225 = .ok (.ireturn, 1) := by decide +kernel
theorem dX7_faultOf_0 : decode cX7_faultOf 0 = .ok (.aload_n 0, 1) := by decide +kernel
theorem dX7_faultOf_1 : decode cX7_faultOf 1 = .ok (.iconst 0, 1) := by decide +kernel
theorem dX7_faultOf_2 : decode cX7_faultOf 2 = .ok (.putfield 108, 3) := by decide +kernel
theorem dX7_faultOf_5 : decode cX7_faultOf 5 = .ok (.aload_n 0, 1) := by decide +kernel
theorem dX7_faultOf_6 : decode cX7_faultOf 6 = .ok (.iconst 0, 1) := by decide +kernel
theorem dX7_faultOf_7 : decode cX7_faultOf 7 = .ok (.putfield 120, 3) := by decide +kernel
theorem dX7_faultOf_10 : decode cX7_faultOf 10 = .ok (.aload_n 0, 1) := by decide +kernel
theorem dX7_faultOf_11 : decode cX7_faultOf 11 = .ok (.iconst 0, 1) := by decide +kernel
theorem dX7_faultOf_12 : decode cX7_faultOf 12 = .ok (.putfield 127, 3) := by decide +kernel
theorem dX7_faultOf_15 : decode cX7_faultOf 15 = .ok (.aload_n 0, 1) := by decide +kernel
theorem dX7_faultOf_16 : decode cX7_faultOf 16 = .ok (.getfield 108, 3) := by decide +kernel
theorem dX7_faultOf_19 : decode cX7_faultOf 19 = .ok (.aload_n 0, 1) := by decide +kernel
theorem dX7_faultOf_20 : decode cX7_faultOf 20 = .ok (.getfield 22, 3) := by decide +kernel
theorem dX7_faultOf_23 : decode cX7_faultOf 23 = .ok (.iload_n 1, 1) := by decide +kernel
theorem dX7_faultOf_24 : decode cX7_faultOf 24 = .ok (.iaload, 1) := by decide +kernel
theorem dX7_faultOf_25 : decode cX7_faultOf 25 = .ok (.if_icmp .ge 61, 3) := by decide +kernel
theorem dX7_faultOf_28 : decode cX7_faultOf 28 = .ok (.aload_n 0, 1) := by decide +kernel
theorem dX7_faultOf_29 : decode cX7_faultOf 29 = .ok (.iload_n 1, 1) := by decide +kernel
theorem dX7_faultOf_30 : decode cX7_faultOf 30 = .ok (.aload_n 0, 1) := by decide +kernel
theorem dX7_faultOf_31 : decode cX7_faultOf 31 = .ok (.getfield 108, 3) := by decide +kernel
theorem dX7_faultOf_34 : decode cX7_faultOf 34 = .ok (.invokevirtual 111, 3) := by decide +kernel
theorem dX7_faultOf_37 : decode cX7_faultOf 37 = .ok (.bipush 32, 2) := by decide +kernel
theorem dX7_faultOf_39 : decode cX7_faultOf 39 = .ok (.if_icmp .ne 16, 3) := by decide +kernel
theorem dX7_faultOf_42 : decode cX7_faultOf 42 = .ok (.aload_n 0, 1) := by decide +kernel
theorem dX7_faultOf_43 : decode cX7_faultOf 43 = .ok (.dup, 1) := by decide +kernel
theorem dX7_faultOf_44 : decode cX7_faultOf 44 = .ok (.getfield 108, 3) := by decide +kernel
theorem dX7_faultOf_47 : decode cX7_faultOf 47 = .ok (.iconst 1, 1) := by decide +kernel
theorem dX7_faultOf_48 : decode cX7_faultOf 48 = .ok (.iadd, 1) := by decide +kernel
theorem dX7_faultOf_49 : decode cX7_faultOf 49 = .ok (.putfield 108, 3) := by decide +kernel
theorem dX7_faultOf_52 : decode cX7_faultOf 52 = .ok (.goto (-37), 3) := by decide +kernel
theorem dX7_faultOf_55 : decode cX7_faultOf 55 = .ok (.aload_n 0, 1) := by decide +kernel
theorem dX7_faultOf_56 : decode cX7_faultOf 56 = .ok (.getfield 120, 3) := by decide +kernel
theorem dX7_faultOf_59 : decode cX7_faultOf 59 = .ok (.ifCond .eq 14, 3) := by decide +kernel
theorem dX7_faultOf_62 : decode cX7_faultOf 62 = .ok (.aload_n 0, 1) := by decide +kernel
theorem dX7_faultOf_63 : decode cX7_faultOf 63 = .ok (.iload_n 1, 1) := by decide +kernel
theorem dX7_faultOf_64 : decode cX7_faultOf 64 = .ok (.invokevirtual 130, 3) := by decide +kernel
theorem dX7_faultOf_67 : decode cX7_faultOf 67 = .ok (.ifCond .eq 14, 3) := by decide +kernel
theorem dX7_faultOf_70 : decode cX7_faultOf 70 = .ok (.goto (-55), 3) := by decide +kernel
theorem dX7_faultOf_73 : decode cX7_faultOf 73 = .ok (.aload_n 0, 1) := by decide +kernel
theorem dX7_faultOf_74 : decode cX7_faultOf 74 = .ok (.iload_n 1, 1) := by decide +kernel
theorem dX7_faultOf_75 : decode cX7_faultOf 75 = .ok (.invokevirtual 133, 3) := by decide +kernel
theorem dX7_faultOf_78 : decode cX7_faultOf 78 = .ok (.ifCond .ne (-63), 3) := by decide +kernel
theorem dX7_faultOf_81 : decode cX7_faultOf 81 = .ok (.aload_n 0, 1) := by decide +kernel
theorem dX7_faultOf_82 : decode cX7_faultOf 82 = .ok (.getfield 108, 3) := by decide +kernel
theorem dX7_faultOf_85 : decode cX7_faultOf 85 = .ok (.ireturn, 1) := by decide +kernel
theorem dX7_faultOf_86 : decode cX7_faultOf 86 = .ok (.aload_n 0, 1) := by decide +kernel
theorem dX7_faultOf_87 : decode cX7_faultOf 87 = .ok (.getfield 120, 3) := by decide +kernel
theorem dX7_faultOf_90 : decode cX7_faultOf 90 = .ok (.ifCond .eq 8, 3) := by decide +kernel
theorem dX7_faultOf_93 : decode cX7_faultOf 93 = .ok (.bipush (-9), 2) := by decide +kernel
theorem dX7_faultOf_95 : decode cX7_faultOf 95 = .ok (.goto 9, 3) := by decide +kernel
theorem dX7_faultOf_98 : decode cX7_faultOf 98 = .ok (.aload_n 0, 1) := by decide +kernel
theorem dX7_faultOf_99 : decode cX7_faultOf 99 = .ok (.getfield 22, 3) := by decide +kernel
theorem dX7_faultOf_102 : decode cX7_faultOf 102 = .ok (.iload_n 1, 1) := by decide +kernel
theorem dX7_faultOf_103 : decode cX7_faultOf 103 = .ok (.iaload, 1) := by decide +kernel
theorem dX7_faultOf_104 : decode cX7_faultOf 104 = .ok (.ireturn, 1) := by decide +kernel
theorem dX7_fault_0 : decode cX7_fault 0 = .ok (.iload_n 1, 1) := by decide +kernel
theorem dX7_fault_1 : decode cX7_fault 1 = .ok (.invokestatic 105, 3) := by decide +kernel
theorem dX7_fault_4 : decode cX7_fault 4 = .ok (.ifCond .ne 5, 3) := by decide +kernel
theorem dX7_fault_7 : decode cX7_fault 7 = .ok (.iconst (-1), 1) := by decide +kernel
theorem dX7_fault_8 : decode cX7_fault 8 = .ok (.ireturn, 1) := by decide +kernel
theorem dX7_fault_9 : decode cX7_fault 9 = .ok (.aload_n 0, 1) := by decide +kernel
theorem dX7_fault_10 : decode cX7_fault 10 = .ok (.getfield 22, 3) := by decide +kernel
theorem dX7_fault_13 : decode cX7_fault 13 = .ok (.iload_n 1, 1) := by decide +kernel
theorem dX7_fault_14 : decode cX7_fault 14 = .ok (.iaload, 1) := by decide +kernel
theorem dX7_fault_15 : decode cX7_fault 15 = .ok (.ifCond .ge 11, 3) := by decide +kernel
theorem dX7_fault_18 : decode cX7_fault 18 = .ok (.aload_n 0, 1) := by decide +kernel
theorem dX7_fault_19 : decode cX7_fault 19 = .ok (.iconst 1, 1) := by decide +kernel
theorem dX7_fault_20 : decode cX7_fault 20 = .ok (.invokevirtual 94, 3) := by decide +kernel
theorem dX7_fault_23 : decode cX7_fault 23 = .ok (.goto 8, 3) := by decide +kernel
theorem dX7_fault_26 : decode cX7_fault 26 = .ok (.aload_n 0, 1) := by decide +kernel
theorem dX7_fault_27 : decode cX7_fault 27 = .ok (.iload_n 1, 1) := by decide +kernel
theorem dX7_fault_28 : decode cX7_fault 28 = .ok (.invokevirtual 136, 3) := by decide +kernel
theorem dX7_fault_31 : decode cX7_fault 31 = .ok (.ireturn, 1) := by decide +kernel
theorem dX7_valley_0 : decode cX7_valley 0 = .ok (.iload_n 1, 1) := by decide +kernel
theorem dX7_valley_1 : decode cX7_valley 1 = .ok (.invokestatic 105, 3) := by decide +kernel
theorem dX7_valley_4 : decode cX7_valley 4 = .ok (.ifCond .ne 5, 3) := by decide +kernel
theorem dX7_valley_7 : decode cX7_valley 7 = .ok (.iconst (-1), 1) := by decide +kernel
theorem dX7_valley_8 : decode cX7_valley 8 = .ok (.ireturn, 1) := by decide +kernel
theorem dX7_valley_9 : decode cX7_valley 9 = .ok (.aload_n 0, 1) := by decide +kernel
theorem dX7_valley_10 : decode cX7_valley 10 = .ok (.getfield 22, 3) := by decide +kernel
theorem dX7_valley_13 : decode cX7_valley 13 = .ok (.iload_n 1, 1) := by decide +kernel
theorem dX7_valley_14 : decode cX7_valley 14 = .ok (.iaload, 1) := by decide +kernel
theorem dX7_valley_15 : decode cX7_valley 15 = .ok (.ifCond .ge 9, 3) := by decide +kernel
theorem dX7_valley_18 : decode cX7_valley 18 = .ok (.aload_n 0, 1) := by decide +kernel
theorem dX7_valley_19 : decode cX7_valley 19 = .ok (.iconst 1, 1) := by decide +kernel
theorem dX7_valley_20 : decode cX7_valley 20 = .ok (.invokevirtual 94, 3) := by decide +kernel
theorem dX7_valley_23 : decode cX7_valley 23 = .ok (.ireturn, 1) := by decide +kernel
theorem dX7_valley_24 : decode cX7_valley 24 = .ok (.aload_n 0, 1) := by decide +kernel
theorem dX7_valley_25 : decode cX7_valley 25 = .ok (.iload_n 1, 1) := by decide +kernel
theorem dX7_valley_26 : decode cX7_valley 26 = .ok (.invokevirtual 136, 3) := by decide +kernel
theorem dX7_valley_29 : decode cX7_valley 29 = .ok (.bipush (-9), 2) := by decide +kernel
theorem dX7_valley_31 : decode cX7_valley 31 = .ok (.if_icmp .eq 6, 3) := by decide +kernel
theorem dX7_valley_34 : decode cX7_valley 34 = .ok (.bipush (-4), 2) := by decide +kernel
theorem dX7_valley_36 : decode cX7_valley 36 = .ok (.ireturn, 1) := by decide +kernel
theorem dX7_valley_37 : decode cX7_valley 37 = .ok (.aload_n 0, 1) := by decide +kernel
theorem dX7_valley_38 : decode cX7_valley 38 = .ok (.aload_n 0, 1) := by decide +kernel
theorem dX7_valley_39 : decode cX7_valley 39 = .ok (.getfield 127, 3) := by decide +kernel
theorem dX7_valley_42 : decode cX7_valley 42 = .ok (.putfield 139, 3) := by decide +kernel
theorem dX7_valley_45 : decode cX7_valley 45 = .ok (.iconst 0, 1) := by decide +kernel
theorem dX7_valley_46 : decode cX7_valley 46 = .ok (.istore_n 2, 1) := by decide +kernel
theorem dX7_valley_47 : decode cX7_valley 47 = .ok (.iload_n 2, 1) := by decide +kernel
theorem dX7_valley_48 : decode cX7_valley 48 = .ok (.bipush 24, 2) := by decide +kernel
theorem dX7_valley_50 : decode cX7_valley 50 = .ok (.if_icmp .ge 21, 3) := by decide +kernel
theorem dX7_valley_53 : decode cX7_valley 53 = .ok (.aload_n 0, 1) := by decide +kernel
theorem dX7_valley_54 : decode cX7_valley 54 = .ok (.getfield 29, 3) := by decide +kernel
theorem dX7_valley_57 : decode cX7_valley 57 = .ok (.iload_n 2, 1) := by decide +kernel
theorem dX7_valley_58 : decode cX7_valley 58 = .ok (.aload_n 0, 1) := by decide +kernel
theorem dX7_valley_59 : decode cX7_valley 59 = .ok (.getfield 35, 3) := by decide +kernel
theorem dX7_valley_62 : decode cX7_valley 62 = .ok (.iload_n 2, 1) := by decide +kernel
theorem dX7_valley_63 : decode cX7_valley 63 = .ok (.iaload, 1) := by decide +kernel
theorem dX7_valley_64 : decode cX7_valley 64 = .ok (.iastore, 1) := by decide +kernel
theorem dX7_valley_65 : decode cX7_valley 65 = .ok (.iinc 2 1, 3) := by decide +kernel
theorem dX7_valley_68 : decode cX7_valley 68 = .ok (.goto (-21), 3) := by decide +kernel
theorem dX7_valley_71 : decode cX7_valley 71 = .ok (.iconst 0, 1) := by decide +kernel
theorem dX7_valley_72 : decode cX7_valley 72 = .ok (.istore_n 2, 1) := by decide +kernel
theorem dX7_valley_73 : decode cX7_valley 73 = .ok (.iload_n 2, 1) := by decide +kernel
theorem dX7_valley_74 : decode cX7_valley 74 = .ok (.bipush 15, 2) := by decide +kernel
theorem dX7_valley_76 : decode cX7_valley 76 = .ok (.if_icmp .ge 16, 3) := by decide +kernel
theorem dX7_valley_79 : decode cX7_valley 79 = .ok (.aload_n 0, 1) := by decide +kernel
theorem dX7_valley_80 : decode cX7_valley 80 = .ok (.iconst 0, 1) := by decide +kernel
theorem dX7_valley_81 : decode cX7_valley 81 = .ok (.iload_n 2, 1) := by decide +kernel
theorem dX7_valley_82 : decode cX7_valley 82 = .ok (.iconst 0, 1) := by decide +kernel
theorem dX7_valley_83 : decode cX7_valley 83 = .ok (.invokevirtual 142, 3) := by decide +kernel
theorem dX7_valley_86 : decode cX7_valley 86 = .ok (.iinc 2 1, 3) := by decide +kernel
theorem dX7_valley_89 : decode cX7_valley 89 = .ok (.goto (-16), 3) := by decide +kernel
theorem dX7_valley_92 : decode cX7_valley 92 = .ok (.iconst 0, 1) := by decide +kernel
theorem dX7_valley_93 : decode cX7_valley 93 = .ok (.istore_n 2, 1) := by decide +kernel
theorem dX7_valley_94 : decode cX7_valley 94 = .ok (.iload_n 2, 1) := by decide +kernel
theorem dX7_valley_95 : decode cX7_valley 95 = .ok (.iconst 3, 1) := by decide +kernel
theorem dX7_valley_96 : decode cX7_valley 96 = .ok (.if_icmp .ge 30, 3) := by decide +kernel
theorem dX7_valley_99 : decode cX7_valley 99 = .ok (.aload_n 0, 1) := by decide +kernel
theorem dX7_valley_100 : decode cX7_valley 100 = .ok (.iconst 0, 1) := by decide +kernel
theorem dX7_valley_101 : decode cX7_valley 101 = .ok (.iconst 0, 1) := by decide +kernel
theorem dX7_valley_102 : decode cX7_valley 102 = .ok (.iload_n 2, 1) := by decide +kernel
theorem dX7_valley_103 : decode cX7_valley 103 = .ok (.iadd, 1) := by decide +kernel
theorem dX7_valley_104 : decode cX7_valley 104 = .ok (.aload_n 0, 1) := by decide +kernel
theorem dX7_valley_105 : decode cX7_valley 105 = .ok (.getfield 32, 3) := by decide +kernel
theorem dX7_valley_108 : decode cX7_valley 108 = .ok (.iload_n 2, 1) := by decide +kernel
theorem dX7_valley_109 : decode cX7_valley 109 = .ok (.iaload, 1) := by decide +kernel
theorem dX7_valley_110 : decode cX7_valley 110 = .ok (.invokevirtual 142, 3) := by decide +kernel
theorem dX7_valley_113 : decode cX7_valley 113 = .ok (.aload_n 0, 1) := by decide +kernel
theorem dX7_valley_114 : decode cX7_valley 114 = .ok (.getfield 47, 3) := by decide +kernel
theorem dX7_valley_117 : decode cX7_valley 117 = .ok (.iload_n 2, 1) := by decide +kernel
theorem dX7_valley_118 : decode cX7_valley 118 = .ok (.iconst 0, 1) := by decide +kernel
theorem dX7_valley_119 : decode cX7_valley 119 = .ok (.bastore, 1) := by decide +kernel
theorem dX7_valley_120 : decode cX7_valley 120 = .ok (.iinc 2 1, 3) := by decide +kernel
theorem dX7_valley_123 : decode cX7_valley 123 = .ok (.goto (-29), 3) := by decide +kernel
theorem dX7_valley_126 : decode cX7_valley 126 = .ok (.iconst 0, 1) := by decide +kernel
theorem dX7_valley_127 : decode cX7_valley 127 = .ok (.istore_n 2, 1) := by decide +kernel
theorem dX7_valley_128 : decode cX7_valley 128 = .ok (.iload_n 2, 1) := by decide +kernel
theorem dX7_valley_129 : decode cX7_valley 129 = .ok (.iconst 4, 1) := by decide +kernel
theorem dX7_valley_130 : decode cX7_valley 130 = .ok (.if_icmp .ge 20, 3) := by decide +kernel
theorem dX7_valley_133 : decode cX7_valley 133 = .ok (.aload_n 0, 1) := by decide +kernel
theorem dX7_valley_134 : decode cX7_valley 134 = .ok (.iconst 0, 1) := by decide +kernel
theorem dX7_valley_135 : decode cX7_valley 135 = .ok (.bipush 8, 2) := by decide +kernel
theorem dX7_valley_137 : decode cX7_valley 137 = .ok (.iload_n 2, 1) := by decide +kernel
theorem dX7_valley_138 : decode cX7_valley 138 = .ok (.iadd, 1) := by decide +kernel
theorem dX7_valley_139 : decode cX7_valley 139 = .ok (.bipush (-9), 2) := by decide +kernel
theorem dX7_valley_141 : decode cX7_valley 141 = .ok (.invokevirtual 142, 3) := by decide +kernel
theorem dX7_valley_144 : decode cX7_valley 144 = .ok (.iinc 2 1, 3) := by decide +kernel
theorem dX7_valley_147 : decode cX7_valley 147 = .ok (.goto (-19), 3) := by decide +kernel
theorem dX7_valley_150 : decode cX7_valley 150 = .ok (.aload_n 0, 1) := by decide +kernel
theorem dX7_valley_151 : decode cX7_valley 151 = .ok (.getfield 139, 3) := by decide +kernel
theorem dX7_valley_154 : decode cX7_valley 154 = .ok (.ireturn, 1) := by decide +kernel
theorem dX7_isGod_0 : decode cX7_isGod 0 = .ok (.iload_n 1, 1) := by decide +kernel
theorem dX7_isGod_1 : decode cX7_isGod 1 = .ok (.iconst 0, 1) := by decide +kernel
theorem dX7_isGod_2 : decode cX7_isGod 2 = .ok (.aload_n 0, 1) := by decide +kernel
theorem dX7_isGod_3 : decode cX7_isGod 3 = .ok (.getfield 139, 3) := by decide +kernel
theorem dX7_isGod_6 : decode cX7_isGod 6 = .ok (.iconst 1, 1) := by decide +kernel
theorem dX7_isGod_7 : decode cX7_isGod 7 = .ok (.isub, 1) := by decide +kernel
theorem dX7_isGod_8 : decode cX7_isGod 8 = .ok (.invokestatic 80, 3) := by decide +kernel
theorem dX7_isGod_11 : decode cX7_isGod 11 = .ok (.ireturn, 1) := by decide +kernel
theorem dX7_kind_0 : decode cX7_kind 0 = .ok (.aload_n 0, 1) := by decide +kernel
theorem dX7_kind_1 : decode cX7_kind 1 = .ok (.getfield 29, 3) := by decide +kernel
theorem dX7_kind_4 : decode cX7_kind 4 = .ok (.bipush 6, 2) := by decide +kernel
theorem dX7_kind_6 : decode cX7_kind 6 = .ok (.iload_n 1, 1) := by decide +kernel
theorem dX7_kind_7 : decode cX7_kind 7 = .ok (.imul, 1) := by decide +kernel
theorem dX7_kind_8 : decode cX7_kind 8 = .ok (.iaload, 1) := by decide +kernel
theorem dX7_kind_9 : decode cX7_kind 9 = .ok (.ireturn, 1) := by decide +kernel
theorem dX7_patienceOf_0 : decode cX7_patienceOf 0 = .ok (.aload_n 0, 1) := by decide +kernel
theorem dX7_patienceOf_1 : decode cX7_patienceOf 1 = .ok (.getfield 29, 3) := by decide +kernel
theorem dX7_patienceOf_4 : decode cX7_patienceOf 4 = .ok (.bipush 6, 2) := by decide +kernel
theorem dX7_patienceOf_6 : decode cX7_patienceOf 6 = .ok (.iload_n 1, 1) := by decide +kernel
theorem dX7_patienceOf_7 : decode cX7_patienceOf 7 = .ok (.imul, 1) := by decide +kernel
theorem dX7_patienceOf_8 : decode cX7_patienceOf 8 = .ok (.iconst 2, 1) := by decide +kernel
theorem dX7_patienceOf_9 : decode cX7_patienceOf 9 = .ok (.iadd, 1) := by decide +kernel
theorem dX7_patienceOf_10 : decode cX7_patienceOf 10 = .ok (.iaload, 1) := by decide +kernel
theorem dX7_patienceOf_11 : decode cX7_patienceOf 11 = .ok (.ireturn, 1) := by decide +kernel
theorem dX7_abides_0 : decode cX7_abides 0 = .ok (.aload_n 0, 1) := by decide +kernel
theorem dX7_abides_1 : decode cX7_abides 1 = .ok (.getfield 29, 3) := by decide +kernel
theorem dX7_abides_4 : decode cX7_abides 4 = .ok (.bipush 6, 2) := by decide +kernel
theorem dX7_abides_6 : decode cX7_abides 6 = .ok (.iload_n 1, 1) := by decide +kernel
theorem dX7_abides_7 : decode cX7_abides 7 = .ok (.imul, 1) := by decide +kernel
theorem dX7_abides_8 : decode cX7_abides 8 = .ok (.iconst 5, 1) := by decide +kernel
theorem dX7_abides_9 : decode cX7_abides 9 = .ok (.iadd, 1) := by decide +kernel
theorem dX7_abides_10 : decode cX7_abides 10 = .ok (.iaload, 1) := by decide +kernel
theorem dX7_abides_11 : decode cX7_abides 11 = .ok (.ireturn, 1) := by decide +kernel
theorem dX7_isSleeper_0 : decode cX7_isSleeper 0 = .ok (.aload_n 0, 1) := by decide +kernel
theorem dX7_isSleeper_1 : decode cX7_isSleeper 1 = .ok (.iload_n 1, 1) := by decide +kernel
theorem dX7_isSleeper_2 : decode cX7_isSleeper 2 = .ok (.invokevirtual 146, 3) := by decide +kernel
theorem dX7_isSleeper_5 : decode cX7_isSleeper 5 = .ok (.iconst 3, 1) := by decide +kernel
theorem dX7_isSleeper_6 : decode cX7_isSleeper 6 = .ok (.if_icmp .eq 12, 3) := by decide +kernel
theorem dX7_isSleeper_9 : decode cX7_isSleeper 9 = .ok (.aload_n 0, 1) := by decide +kernel
theorem dX7_isSleeper_10 : decode cX7_isSleeper 10 = .ok (.iload_n 1, 1) := by decide +kernel
theorem dX7_isSleeper_11 : decode cX7_isSleeper 11 = .ok (.invokevirtual 146, 3) := by decide +kernel
theorem dX7_isSleeper_14 : decode cX7_isSleeper 14 = .ok (.iconst 5, 1) := by decide +kernel
theorem dX7_isSleeper_15 : decode cX7_isSleeper 15 = .ok (.if_icmp .ne 7, 3) := by decide +kernel
theorem dX7_isSleeper_18 : decode cX7_isSleeper 18 = .ok (.iconst 1, 1) := by decide +kernel
theorem dX7_isSleeper_19 : decode cX7_isSleeper 19 = .ok (.goto 4, 3) := by decide +kernel
theorem dX7_isSleeper_22 : decode cX7_isSleeper 22 = .ok (.iconst 0, 1) := by decide +kernel
theorem dX7_isSleeper_23 : decode cX7_isSleeper 23 = .ok (.ireturn, 1) := by decide +kernel
theorem dX7_isJealous_0 : decode cX7_isJealous 0 = .ok (.aload_n 0, 1) := by decide +kernel
theorem dX7_isJealous_1 : decode cX7_isJealous 1 = .ok (.iload_n 1, 1) := by decide +kernel
theorem dX7_isJealous_2 : decode cX7_isJealous 2 = .ok (.invokevirtual 146, 3) := by decide +kernel
theorem dX7_isJealous_5 : decode cX7_isJealous 5 = .ok (.iconst 2, 1) := by decide +kernel
theorem dX7_isJealous_6 : decode cX7_isJealous 6 = .ok (.if_icmp .eq 12, 3) := by decide +kernel
theorem dX7_isJealous_9 : decode cX7_isJealous 9 = .ok (.aload_n 0, 1) := by decide +kernel
theorem dX7_isJealous_10 : decode cX7_isJealous 10 = .ok (.iload_n 1, 1) := by decide +kernel
theorem dX7_isJealous_11 : decode cX7_isJealous 11 = .ok (.invokevirtual 146, 3) := by decide +kernel
theorem dX7_isJealous_14 : decode cX7_isJealous 14 = .ok (.iconst 4, 1) := by decide +kernel
theorem dX7_isJealous_15 : decode cX7_isJealous 15 = .ok (.if_icmp .ne 7, 3) := by decide +kernel
theorem dX7_isJealous_18 : decode cX7_isJealous 18 = .ok (.iconst 1, 1) := by decide +kernel
theorem dX7_isJealous_19 : decode cX7_isJealous 19 = .ok (.goto 4, 3) := by decide +kernel
theorem dX7_isJealous_22 : decode cX7_isJealous 22 = .ok (.iconst 0, 1) := by decide +kernel
theorem dX7_isJealous_23 : decode cX7_isJealous 23 = .ok (.ireturn, 1) := by decide +kernel
theorem dX7_v_0 : decode cX7_v 0 = .ok (.aload_n 0, 1) := by decide +kernel
theorem dX7_v_1 : decode cX7_v 1 = .ok (.getfield 38, 3) := by decide +kernel
theorem dX7_v_4 : decode cX7_v 4 = .ok (.bipush 15, 2) := by decide +kernel
theorem dX7_v_6 : decode cX7_v 6 = .ok (.iload_n 1, 1) := by decide +kernel
theorem dX7_v_7 : decode cX7_v 7 = .ok (.imul, 1) := by decide +kernel
theorem dX7_v_8 : decode cX7_v 8 = .ok (.iload_n 2, 1) := by decide +kernel
theorem dX7_v_9 : decode cX7_v 9 = .ok (.iadd, 1) := by decide +kernel
theorem dX7_v_10 : decode cX7_v 10 = .ok (.iaload, 1) := by decide +kernel
theorem dX7_v_11 : decode cX7_v 11 = .ok (.ireturn, 1) := by decide +kernel
theorem dX7_place_0 : decode cX7_place 0 = .ok (.aload_n 0, 1) := by decide +kernel
theorem dX7_place_1 : decode cX7_place 1 = .ok (.getfield 38, 3) := by decide +kernel
theorem dX7_place_4 : decode cX7_place 4 = .ok (.bipush 15, 2) := by decide +kernel
theorem dX7_place_6 : decode cX7_place 6 = .ok (.iload_n 1, 1) := by decide +kernel
theorem dX7_place_7 : decode cX7_place 7 = .ok (.imul, 1) := by decide +kernel
theorem dX7_place_8 : decode cX7_place 8 = .ok (.iload_n 2, 1) := by decide +kernel
theorem dX7_place_9 : decode cX7_place 9 = .ok (.iadd, 1) := by decide +kernel
theorem dX7_place_10 : decode cX7_place 10 = .ok (.iload_n 3, 1) := by decide +kernel
theorem dX7_place_11 : decode cX7_place 11 = .ok (.iastore, 1) := by decide +kernel
theorem dX7_place_12 : decode cX7_place 12 = .ok (.return_, 1) := by decide +kernel
theorem dX7_copyValley_0 : decode cX7_copyValley 0 = .ok (.iconst 0, 1) := by decide +kernel
theorem dX7_copyValley_1 : decode cX7_copyValley 1 = .ok (.istore_n 3, 1) := by decide +kernel
theorem dX7_copyValley_2 : decode cX7_copyValley 2 = .ok (.iload_n 3, 1) := by decide +kernel
theorem dX7_copyValley_3 : decode cX7_copyValley 3 = .ok (.bipush 15, 2) := by decide +kernel
theorem dX7_copyValley_5 : decode cX7_copyValley 5 = .ok (.if_icmp .ge 21, 3) := by decide +kernel
theorem dX7_copyValley_8 : decode cX7_copyValley 8 = .ok (.aload_n 0, 1) := by decide +kernel
theorem dX7_copyValley_9 : decode cX7_copyValley 9 = .ok (.iload_n 2, 1) := by decide +kernel
theorem dX7_copyValley_10 : decode cX7_copyValley 10 = .ok (.iload_n 3, 1) := by decide +kernel
theorem dX7_copyValley_11 : decode cX7_copyValley 11 = .ok (.aload_n 0, 1) := by decide +kernel
theorem dX7_copyValley_12 : decode cX7_copyValley 12 = .ok (.iload_n 1, 1) := by decide +kernel
theorem dX7_copyValley_13 : decode cX7_copyValley 13 = .ok (.iload_n 3, 1) := by decide +kernel
theorem dX7_copyValley_14 : decode cX7_copyValley 14 = .ok (.invokevirtual 149, 3) := by decide +kernel
theorem dX7_copyValley_17 : decode cX7_copyValley 17 = .ok (.invokevirtual 142, 3) := by decide +kernel
theorem dX7_copyValley_20 : decode cX7_copyValley 20 = .ok (.iinc 3 1, 3) := by decide +kernel
theorem dX7_copyValley_23 : decode cX7_copyValley 23 = .ok (.goto (-21), 3) := by decide +kernel
theorem dX7_copyValley_26 : decode cX7_copyValley 26 = .ok (.return_, 1) := by decide +kernel
theorem dX7_isGone_0 : decode cX7_isGone 0 = .ok (.aload_n 0, 1) := by decide +kernel
theorem dX7_isGone_1 : decode cX7_isGone 1 = .ok (.iload_n 1, 1) := by decide +kernel
theorem dX7_isGone_2 : decode cX7_isGone 2 = .ok (.iconst 3, 1) := by decide +kernel
theorem dX7_isGone_3 : decode cX7_isGone 3 = .ok (.iload_n 2, 1) := by decide +kernel
theorem dX7_isGone_4 : decode cX7_isGone 4 = .ok (.iadd, 1) := by decide +kernel
theorem dX7_isGone_5 : decode cX7_isGone 5 = .ok (.invokevirtual 149, 3) := by decide +kernel
theorem dX7_isGone_8 : decode cX7_isGone 8 = .ok (.bipush (-9), 2) := by decide +kernel
theorem dX7_isGone_10 : decode cX7_isGone 10 = .ok (.if_icmp .ne 7, 3) := by decide +kernel
theorem dX7_isGone_13 : decode cX7_isGone 13 = .ok (.iconst 1, 1) := by decide +kernel
theorem dX7_isGone_14 : decode cX7_isGone 14 = .ok (.goto 4, 3) := by decide +kernel
theorem dX7_isGone_17 : decode cX7_isGone 17 = .ok (.iconst 0, 1) := by decide +kernel
theorem dX7_isGone_18 : decode cX7_isGone 18 = .ok (.ireturn, 1) := by decide +kernel
theorem dX7_sleeps_0 : decode cX7_sleeps 0 = .ok (.aload_n 0, 1) := by decide +kernel
theorem dX7_sleeps_1 : decode cX7_sleeps 1 = .ok (.iload_n 2, 1) := by decide +kernel
theorem dX7_sleeps_2 : decode cX7_sleeps 2 = .ok (.invokevirtual 152, 3) := by decide +kernel
theorem dX7_sleeps_5 : decode cX7_sleeps 5 = .ok (.ifCond .eq 20, 3) := by decide +kernel
theorem dX7_sleeps_8 : decode cX7_sleeps 8 = .ok (.aload_n 0, 1) := by decide +kernel
theorem dX7_sleeps_9 : decode cX7_sleeps 9 = .ok (.iload_n 1, 1) := by decide +kernel
theorem dX7_sleeps_10 : decode cX7_sleeps 10 = .ok (.bipush 14, 2) := by decide +kernel
theorem dX7_sleeps_12 : decode cX7_sleeps 12 = .ok (.invokevirtual 149, 3) := by decide +kernel
theorem dX7_sleeps_15 : decode cX7_sleeps 15 = .ok (.iconst 2, 1) := by decide +kernel
theorem dX7_sleeps_16 : decode cX7_sleeps 16 = .ok (.irem, 1) := by decide +kernel
theorem dX7_sleeps_17 : decode cX7_sleeps 17 = .ok (.iconst 1, 1) := by decide +kernel
theorem dX7_sleeps_18 : decode cX7_sleeps 18 = .ok (.if_icmp .ne 7, 3) := by decide +kernel
theorem dX7_sleeps_21 : decode cX7_sleeps 21 = .ok (.iconst 1, 1) := by decide +kernel
theorem dX7_sleeps_22 : decode cX7_sleeps 22 = .ok (.goto 4, 3) := by decide +kernel
theorem dX7_sleeps_25 : decode cX7_sleeps 25 = .ok (.iconst 0, 1) := by decide +kernel
theorem dX7_sleeps_26 : decode cX7_sleeps 26 = .ok (.ireturn, 1) := by decide +kernel
theorem dX7_isUp_0 : decode cX7_isUp 0 = .ok (.aload_n 0, 1) := by decide +kernel
theorem dX7_isUp_1 : decode cX7_isUp 1 = .ok (.iload_n 1, 1) := by decide +kernel
theorem dX7_isUp_2 : decode cX7_isUp 2 = .ok (.iload_n 2, 1) := by decide +kernel
theorem dX7_isUp_3 : decode cX7_isUp 3 = .ok (.invokevirtual 155, 3) := by decide +kernel
theorem dX7_isUp_6 : decode cX7_isUp 6 = .ok (.ifCond .ne 16, 3) := by decide +kernel
theorem dX7_isUp_9 : decode cX7_isUp 9 = .ok (.aload_n 0, 1) := by decide +kernel
theorem dX7_isUp_10 : decode cX7_isUp 10 = .ok (.iload_n 1, 1) := by decide +kernel
theorem dX7_isUp_11 : decode cX7_isUp 11 = .ok (.iload_n 2, 1) := by decide +kernel
theorem dX7_isUp_12 : decode cX7_isUp 12 = .ok (.invokevirtual 159, 3) := by decide +kernel
theorem dX7_isUp_15 : decode cX7_isUp 15 = .ok (.ifCond .ne 7, 3) := by decide +kernel
theorem dX7_isUp_18 : decode cX7_isUp 18 = .ok (.iconst 1, 1) := by decide +kernel
theorem dX7_isUp_19 : decode cX7_isUp 19 = .ok (.goto 4, 3) := by decide +kernel
theorem dX7_isUp_22 : decode cX7_isUp 22 = .ok (.iconst 0, 1) := by decide +kernel
theorem dX7_isUp_23 : decode cX7_isUp 23 = .ok (.ireturn, 1) := by decide +kernel
theorem dX7_fedBy_0 : decode cX7_fedBy 0 = .ok (.iconst 1, 1) := by decide +kernel
theorem dX7_fedBy_1 : decode cX7_fedBy 1 = .ok (.iload_n 2, 1) := by decide +kernel
theorem dX7_fedBy_2 : decode cX7_fedBy 2 = .ok (.ishl, 1) := by decide +kernel
theorem dX7_fedBy_3 : decode cX7_fedBy 3 = .ok (.istore_n 3, 1) := by decide +kernel
theorem dX7_fedBy_4 : decode cX7_fedBy 4 = .ok (.iconst 0, 1) := by decide +kernel
theorem dX7_fedBy_5 : decode cX7_fedBy 5 = .ok (.istore 4, 2) := by decide +kernel
theorem dX7_fedBy_7 : decode cX7_fedBy 7 = .ok (.iload 4, 2) := by decide +kernel
theorem dX7_fedBy_9 : decode cX7_fedBy 9 = .ok (.aload_n 0, 1) := by decide +kernel
theorem dX7_fedBy_10 : decode cX7_fedBy 10 = .ok (.getfield 139, 3) := by decide +kernel
theorem dX7_fedBy_13 : decode cX7_fedBy 13 = .ok (.if_icmp .ge 87, 3) := by decide +kernel
theorem dX7_fedBy_16 : decode cX7_fedBy 16 = .ok (.aload_n 0, 1) := by decide +kernel
theorem dX7_fedBy_17 : decode cX7_fedBy 17 = .ok (.iload 4, 2) := by decide +kernel
theorem dX7_fedBy_19 : decode cX7_fedBy 19 = .ok (.invokevirtual 146, 3) := by decide +kernel
theorem dX7_fedBy_22 : decode cX7_fedBy 22 = .ok (.iconst 1, 1) := by decide +kernel
theorem dX7_fedBy_23 : decode cX7_fedBy 23 = .ok (.if_icmp .ne 13, 3) := by decide +kernel
theorem dX7_fedBy_26 : decode cX7_fedBy 26 = .ok (.aload_n 0, 1) := by decide +kernel
theorem dX7_fedBy_27 : decode cX7_fedBy 27 = .ok (.iload 4, 2) := by decide +kernel
theorem dX7_fedBy_29 : decode cX7_fedBy 29 = .ok (.invokevirtual 162, 3) := by decide +kernel
theorem dX7_fedBy_32 : decode cX7_fedBy 32 = .ok (.iload_n 2, 1) := by decide +kernel
theorem dX7_fedBy_33 : decode cX7_fedBy 33 = .ok (.if_icmp .eq 22, 3) := by decide +kernel
theorem dX7_fedBy_36 : decode cX7_fedBy 36 = .ok (.aload_n 0, 1) := by decide +kernel
theorem dX7_fedBy_37 : decode cX7_fedBy 37 = .ok (.iload_n 2, 1) := by decide +kernel
theorem dX7_fedBy_38 : decode cX7_fedBy 38 = .ok (.invokevirtual 146, 3) := by decide +kernel
theorem dX7_fedBy_41 : decode cX7_fedBy 41 = .ok (.iconst 1, 1) := by decide +kernel
theorem dX7_fedBy_42 : decode cX7_fedBy 42 = .ok (.if_icmp .ne 17, 3) := by decide +kernel
theorem dX7_fedBy_45 : decode cX7_fedBy 45 = .ok (.aload_n 0, 1) := by decide +kernel
theorem dX7_fedBy_46 : decode cX7_fedBy 46 = .ok (.iload_n 2, 1) := by decide +kernel
theorem dX7_fedBy_47 : decode cX7_fedBy 47 = .ok (.invokevirtual 162, 3) := by decide +kernel
theorem dX7_fedBy_50 : decode cX7_fedBy 50 = .ok (.iload 4, 2) := by decide +kernel
theorem dX7_fedBy_52 : decode cX7_fedBy 52 = .ok (.if_icmp .ne 7, 3) := by decide +kernel
theorem dX7_fedBy_55 : decode cX7_fedBy 55 = .ok (.iconst 1, 1) := by decide +kernel
theorem dX7_fedBy_56 : decode cX7_fedBy 56 = .ok (.goto 4, 3) := by decide +kernel
theorem dX7_fedBy_59 : decode cX7_fedBy 59 = .ok (.iconst 0, 1) := by decide +kernel
theorem dX7_fedBy_60 : decode cX7_fedBy 60 = .ok (.istore 5, 2) := by decide +kernel
theorem dX7_fedBy_62 : decode cX7_fedBy 62 = .ok (.iload_n 3, 1) := by decide +kernel
theorem dX7_fedBy_63 : decode cX7_fedBy 63 = .ok (.iload 4, 2) := by decide +kernel
theorem dX7_fedBy_65 : decode cX7_fedBy 65 = .ok (.iload_n 2, 1) := by decide +kernel
theorem dX7_fedBy_66 : decode cX7_fedBy 66 = .ok (.if_icmp .eq 25, 3) := by decide +kernel
theorem dX7_fedBy_69 : decode cX7_fedBy 69 = .ok (.iload 5, 2) := by decide +kernel
theorem dX7_fedBy_71 : decode cX7_fedBy 71 = .ok (.ifCond .eq 20, 3) := by decide +kernel
theorem dX7_fedBy_74 : decode cX7_fedBy 74 = .ok (.aload_n 0, 1) := by decide +kernel
theorem dX7_fedBy_75 : decode cX7_fedBy 75 = .ok (.iload_n 1, 1) := by decide +kernel
theorem dX7_fedBy_76 : decode cX7_fedBy 76 = .ok (.iload 4, 2) := by decide +kernel
theorem dX7_fedBy_78 : decode cX7_fedBy 78 = .ok (.invokevirtual 165, 3) := by decide +kernel
theorem dX7_fedBy_81 : decode cX7_fedBy 81 = .ok (.ifCond .eq 10, 3) := by decide +kernel
theorem dX7_fedBy_84 : decode cX7_fedBy 84 = .ok (.iconst 1, 1) := by decide +kernel
theorem dX7_fedBy_85 : decode cX7_fedBy 85 = .ok (.iload 4, 2) := by decide +kernel
theorem dX7_fedBy_87 : decode cX7_fedBy 87 = .ok (.ishl, 1) := by decide +kernel
theorem dX7_fedBy_88 : decode cX7_fedBy 88 = .ok (.goto 4, 3) := by decide +kernel
theorem dX7_fedBy_91 : decode cX7_fedBy 91 = .ok (.iconst 0, 1) := by decide +kernel
theorem dX7_fedBy_92 : decode cX7_fedBy 92 = .ok (.ior, 1) := by decide +kernel
theorem dX7_fedBy_93 : decode cX7_fedBy 93 = .ok (.istore_n 3, 1) := by decide +kernel
theorem dX7_fedBy_94 : decode cX7_fedBy 94 = .ok (.iinc 4 1, 3) := by decide +kernel
theorem dX7_fedBy_97 : decode cX7_fedBy 97 = .ok (.goto (-90), 3) := by decide +kernel
theorem dX7_fedBy_100 : decode cX7_fedBy 100 = .ok (.iload_n 3, 1) := by decide +kernel
theorem dX7_fedBy_101 : decode cX7_fedBy 101 = .ok (.ireturn, 1) := by decide +kernel
theorem dX7_isNumber_0 : decode cX7_isNumber 0 = .ok (.iload_n 1, 1) := by decide +kernel
theorem dX7_isNumber_1 : decode cX7_isNumber 1 = .ok (.bipush 12, 2) := by decide +kernel
theorem dX7_isNumber_3 : decode cX7_isNumber 3 = .ok (.if_icmp .eq 19, 3) := by decide +kernel
theorem dX7_isNumber_6 : decode cX7_isNumber 6 = .ok (.iload_n 1, 1) := by decide +kernel
theorem dX7_isNumber_7 : decode cX7_isNumber 7 = .ok (.iconst 0, 1) := by decide +kernel
theorem dX7_isNumber_8 : decode cX7_isNumber 8 = .ok (.iconst 3, 1) := by decide +kernel
theorem dX7_isNumber_9 : decode cX7_isNumber 9 = .ok (.aload_n 0, 1) := by decide +kernel
theorem dX7_isNumber_10 : decode cX7_isNumber 10 = .ok (.getfield 139, 3) := by decide +kernel
theorem dX7_isNumber_13 : decode cX7_isNumber 13 = .ok (.imul, 1) := by decide +kernel
theorem dX7_isNumber_14 : decode cX7_isNumber 14 = .ok (.iconst 1, 1) := by decide +kernel
theorem dX7_isNumber_15 : decode cX7_isNumber 15 = .ok (.isub, 1) := by decide +kernel
theorem dX7_isNumber_16 : decode cX7_isNumber 16 = .ok (.invokestatic 80, 3) := by decide +kernel
theorem dX7_isNumber_19 : decode cX7_isNumber 19 = .ok (.ifCond .eq 7, 3) := by decide +kernel
theorem dX7_isNumber_22 : decode cX7_isNumber 22 = .ok (.iconst 1, 1) := by decide +kernel
theorem dX7_isNumber_23 : decode cX7_isNumber 23 = .ok (.goto 4, 3) := by decide +kernel
theorem dX7_isNumber_26 : decode cX7_isNumber 26 = .ok (.iconst 0, 1) := by decide +kernel
theorem dX7_isNumber_27 : decode cX7_isNumber 27 = .ok (.ireturn, 1) := by decide +kernel
theorem dX7_costOf_0 : decode cX7_costOf 0 = .ok (.iload_n 2, 1) := by decide +kernel
theorem dX7_costOf_1 : decode cX7_costOf 1 = .ok (.bipush 12, 2) := by decide +kernel
theorem dX7_costOf_3 : decode cX7_costOf 3 = .ok (.if_icmp .ne 5, 3) := by decide +kernel
theorem dX7_costOf_6 : decode cX7_costOf 6 = .ok (.iconst 0, 1) := by decide +kernel
theorem dX7_costOf_7 : decode cX7_costOf 7 = .ok (.ireturn, 1) := by decide +kernel
theorem dX7_costOf_8 : decode cX7_costOf 8 = .ok (.iload_n 2, 1) := by decide +kernel
theorem dX7_costOf_9 : decode cX7_costOf 9 = .ok (.iconst 3, 1) := by decide +kernel
theorem dX7_costOf_10 : decode cX7_costOf 10 = .ok (.idiv, 1) := by decide +kernel
theorem dX7_costOf_11 : decode cX7_costOf 11 = .ok (.istore_n 3, 1) := by decide +kernel
theorem dX7_costOf_12 : decode cX7_costOf 12 = .ok (.aload_n 0, 1) := by decide +kernel
theorem dX7_costOf_13 : decode cX7_costOf 13 = .ok (.iload_n 1, 1) := by decide +kernel
theorem dX7_costOf_14 : decode cX7_costOf 14 = .ok (.iload_n 3, 1) := by decide +kernel
theorem dX7_costOf_15 : decode cX7_costOf 15 = .ok (.invokevirtual 165, 3) := by decide +kernel
theorem dX7_costOf_18 : decode cX7_costOf 18 = .ok (.ifCond .ne 6, 3) := by decide +kernel
theorem dX7_costOf_21 : decode cX7_costOf 21 = .ok (.bipush (-9), 2) := by decide +kernel
theorem dX7_costOf_23 : decode cX7_costOf 23 = .ok (.ireturn, 1) := by decide +kernel
theorem dX7_costOf_24 : decode cX7_costOf 24 = .ok (.aload_n 0, 1) := by decide +kernel
theorem dX7_costOf_25 : decode cX7_costOf 25 = .ok (.iload_n 1, 1) := by decide +kernel
theorem dX7_costOf_26 : decode cX7_costOf 26 = .ok (.iload_n 3, 1) := by decide +kernel
theorem dX7_costOf_27 : decode cX7_costOf 27 = .ok (.invokevirtual 168, 3) := by decide +kernel
theorem dX7_costOf_30 : decode cX7_costOf 30 = .ok (.invokestatic 171, 3) := by decide +kernel
theorem dX7_costOf_33 : decode cX7_costOf 33 = .ok (.istore 4, 2) := by decide +kernel
theorem dX7_costOf_35 : decode cX7_costOf 35 = .ok (.iload 4, 2) := by decide +kernel
theorem dX7_costOf_37 : decode cX7_costOf 37 = .ok (.aload_n 0, 1) := by decide +kernel
theorem dX7_costOf_38 : decode cX7_costOf 38 = .ok (.iload_n 1, 1) := by decide +kernel
theorem dX7_costOf_39 : decode cX7_costOf 39 = .ok (.iconst 0, 1) := by decide +kernel
theorem dX7_costOf_40 : decode cX7_costOf 40 = .ok (.iload_n 2, 1) := by decide +kernel
theorem dX7_costOf_41 : decode cX7_costOf 41 = .ok (.iconst 3, 1) := by decide +kernel
theorem dX7_costOf_42 : decode cX7_costOf 42 = .ok (.irem, 1) := by decide +kernel
theorem dX7_costOf_43 : decode cX7_costOf 43 = .ok (.iadd, 1) := by decide +kernel
theorem dX7_costOf_44 : decode cX7_costOf 44 = .ok (.invokevirtual 149, 3) := by decide +kernel
theorem dX7_costOf_47 : decode cX7_costOf 47 = .ok (.if_icmp .gt 8, 3) := by decide +kernel
theorem dX7_costOf_50 : decode cX7_costOf 50 = .ok (.iload 4, 2) := by decide +kernel
theorem dX7_costOf_52 : decode cX7_costOf 52 = .ok (.goto 5, 3) := by decide +kernel
theorem dX7_costOf_55 : decode cX7_costOf 55 = .ok (.bipush (-9), 2) := by decide +kernel
theorem dX7_costOf_57 : decode cX7_costOf 57 = .ok (.ireturn, 1) := by decide +kernel
theorem dX7_hungers_0 : decode cX7_hungers 0 = .ok (.iconst 0, 1) := by decide +kernel
theorem dX7_hungers_1 : decode cX7_hungers 1 = .ok (.istore 4, 2) := by decide +kernel
theorem dX7_hungers_3 : decode cX7_hungers 3 = .ok (.iload 4, 2) := by decide +kernel
theorem dX7_hungers_5 : decode cX7_hungers 5 = .ok (.aload_n 0, 1) := by decide +kernel
theorem dX7_hungers_6 : decode cX7_hungers 6 = .ok (.getfield 139, 3) := by decide +kernel
theorem dX7_hungers_9 : decode cX7_hungers 9 = .ok (.if_icmp .ge 181, 3) := by decide +kernel
theorem dX7_hungers_12 : decode cX7_hungers 12 = .ok (.aload_n 0, 1) := by decide +kernel
theorem dX7_hungers_13 : decode cX7_hungers 13 = .ok (.iload 4, 2) := by decide +kernel
theorem dX7_hungers_15 : decode cX7_hungers 15 = .ok (.invokevirtual 146, 3) := by decide +kernel
theorem dX7_hungers_18 : decode cX7_hungers 18 = .ok (.iconst 1, 1) := by decide +kernel
theorem dX7_hungers_19 : decode cX7_hungers 19 = .ok (.if_icmp .eq 31, 3) := by decide +kernel
theorem dX7_hungers_22 : decode cX7_hungers 22 = .ok (.aload_n 0, 1) := by decide +kernel
theorem dX7_hungers_23 : decode cX7_hungers 23 = .ok (.iload 4, 2) := by decide +kernel
theorem dX7_hungers_25 : decode cX7_hungers 25 = .ok (.invokevirtual 162, 3) := by decide +kernel
theorem dX7_hungers_28 : decode cX7_hungers 28 = .ok (.bipush (-9), 2) := by decide +kernel
theorem dX7_hungers_30 : decode cX7_hungers 30 = .ok (.if_icmp .eq 20, 3) := by decide +kernel
theorem dX7_hungers_33 : decode cX7_hungers 33 = .ok (.iload_n 2, 1) := by decide +kernel
theorem dX7_hungers_34 : decode cX7_hungers 34 = .ok (.aload_n 0, 1) := by decide +kernel
theorem dX7_hungers_35 : decode cX7_hungers 35 = .ok (.iload 4, 2) := by decide +kernel
theorem dX7_hungers_37 : decode cX7_hungers 37 = .ok (.invokevirtual 162, 3) := by decide +kernel
theorem dX7_hungers_40 : decode cX7_hungers 40 = .ok (.invokestatic 174, 3) := by decide +kernel
theorem dX7_hungers_43 : decode cX7_hungers 43 = .ok (.ifCond .eq 7, 3) := by decide +kernel
theorem dX7_hungers_46 : decode cX7_hungers 46 = .ok (.iconst 1, 1) := by decide +kernel
theorem dX7_hungers_47 : decode cX7_hungers 47 = .ok (.goto 4, 3) := by decide +kernel
theorem dX7_hungers_50 : decode cX7_hungers 50 = .ok (.iconst 0, 1) := by decide +kernel
theorem dX7_hungers_51 : decode cX7_hungers 51 = .ok (.istore 5, 2) := by decide +kernel
theorem dX7_hungers_53 : decode cX7_hungers 53 = .ok (.aload_n 0, 1) := by decide +kernel
theorem dX7_hungers_54 : decode cX7_hungers 54 = .ok (.iload_n 1, 1) := by decide +kernel
theorem dX7_hungers_55 : decode cX7_hungers 55 = .ok (.iload 4, 2) := by decide +kernel
theorem dX7_hungers_57 : decode cX7_hungers 57 = .ok (.invokevirtual 165, 3) := by decide +kernel
theorem dX7_hungers_60 : decode cX7_hungers 60 = .ok (.ifCond .eq 102, 3) := by decide +kernel
theorem dX7_hungers_63 : decode cX7_hungers 63 = .ok (.aload_n 0, 1) := by decide +kernel
theorem dX7_hungers_64 : decode cX7_hungers 64 = .ok (.iload_n 1, 1) := by decide +kernel
theorem dX7_hungers_65 : decode cX7_hungers 65 = .ok (.iconst 3, 1) := by decide +kernel
theorem dX7_hungers_66 : decode cX7_hungers 66 = .ok (.iload 4, 2) := by decide +kernel
theorem dX7_hungers_68 : decode cX7_hungers 68 = .ok (.iadd, 1) := by decide +kernel
theorem dX7_hungers_69 : decode cX7_hungers 69 = .ok (.invokevirtual 149, 3) := by decide +kernel
theorem dX7_hungers_72 : decode cX7_hungers 72 = .ok (.istore 6, 2) := by decide +kernel
theorem dX7_hungers_74 : decode cX7_hungers 74 = .ok (.iload_n 2, 1) := by decide +kernel
theorem dX7_hungers_75 : decode cX7_hungers 75 = .ok (.iload 4, 2) := by decide +kernel
theorem dX7_hungers_77 : decode cX7_hungers 77 = .ok (.invokestatic 174, 3) := by decide +kernel
theorem dX7_hungers_80 : decode cX7_hungers 80 = .ok (.ifCond .eq 36, 3) := by decide +kernel
theorem dX7_hungers_83 : decode cX7_hungers 83 = .ok (.aload_n 0, 1) := by decide +kernel
theorem dX7_hungers_84 : decode cX7_hungers 84 = .ok (.getfield 29, 3) := by decide +kernel
theorem dX7_hungers_87 : decode cX7_hungers 87 = .ok (.bipush 6, 2) := by decide +kernel
theorem dX7_hungers_89 : decode cX7_hungers 89 = .ok (.iload 4, 2) := by decide +kernel
theorem dX7_hungers_91 : decode cX7_hungers 91 = .ok (.imul, 1) := by decide +kernel
theorem dX7_hungers_92 : decode cX7_hungers 92 = .ok (.iconst 1, 1) := by decide +kernel
theorem dX7_hungers_93 : decode cX7_hungers 93 = .ok (.iadd, 1) := by decide +kernel
theorem dX7_hungers_94 : decode cX7_hungers 94 = .ok (.iaload, 1) := by decide +kernel
theorem dX7_hungers_95 : decode cX7_hungers 95 = .ok (.iload_n 3, 1) := by decide +kernel
theorem dX7_hungers_96 : decode cX7_hungers 96 = .ok (.if_icmp .ne 7, 3) := by decide +kernel
theorem dX7_hungers_99 : decode cX7_hungers 99 = .ok (.iconst 0, 1) := by decide +kernel
theorem dX7_hungers_100 : decode cX7_hungers 100 = .ok (.goto 11, 3) := by decide +kernel
theorem dX7_hungers_103 : decode cX7_hungers 103 = .ok (.iconst 0, 1) := by decide +kernel
theorem dX7_hungers_104 : decode cX7_hungers 104 = .ok (.iload 6, 2) := by decide +kernel
theorem dX7_hungers_106 : decode cX7_hungers 106 = .ok (.iconst 2, 1) := by decide +kernel
theorem dX7_hungers_107 : decode cX7_hungers 107 = .ok (.isub, 1) := by decide +kernel
theorem dX7_hungers_108 : decode cX7_hungers 108 = .ok (.invokestatic 177, 3) := by decide +kernel
theorem dX7_hungers_111 : decode cX7_hungers 111 = .ok (.istore 6, 2) := by decide +kernel
theorem dX7_hungers_113 : decode cX7_hungers 113 = .ok (.goto 33, 3) := by decide +kernel
theorem dX7_hungers_116 : decode cX7_hungers 116 = .ok (.iload 6, 2) := by decide +kernel
theorem dX7_hungers_118 : decode cX7_hungers 118 = .ok (.iconst 1, 1) := by decide +kernel
theorem dX7_hungers_119 : decode cX7_hungers 119 = .ok (.iload 5, 2) := by decide +kernel
theorem dX7_hungers_121 : decode cX7_hungers 121 = .ok (.ifCond .eq 20, 3) := by decide +kernel
theorem dX7_hungers_124 : decode cX7_hungers 124 = .ok (.aload_n 0, 1) := by decide +kernel
theorem dX7_hungers_125 : decode cX7_hungers 125 = .ok (.iload 4, 2) := by decide +kernel
theorem dX7_hungers_127 : decode cX7_hungers 127 = .ok (.invokevirtual 180, 3) := by decide +kernel
theorem dX7_hungers_130 : decode cX7_hungers 130 = .ok (.ifCond .eq 7, 3) := by decide +kernel
theorem dX7_hungers_133 : decode cX7_hungers 133 = .ok (.iconst 2, 1) := by decide +kernel
theorem dX7_hungers_134 : decode cX7_hungers 134 = .ok (.goto 8, 3) := by decide +kernel
theorem dX7_hungers_137 : decode cX7_hungers 137 = .ok (.iconst 1, 1) := by decide +kernel
theorem dX7_hungers_138 : decode cX7_hungers 138 = .ok (.goto 4, 3) := by decide +kernel
theorem dX7_hungers_141 : decode cX7_hungers 141 = .ok (.iconst 0, 1) := by decide +kernel
theorem dX7_hungers_142 : decode cX7_hungers 142 = .ok (.iadd, 1) := by decide +kernel
theorem dX7_hungers_143 : decode cX7_hungers 143 = .ok (.iadd, 1) := by decide +kernel
theorem dX7_hungers_144 : decode cX7_hungers 144 = .ok (.istore 6, 2) := by decide +kernel
theorem dX7_hungers_146 : decode cX7_hungers 146 = .ok (.aload_n 0, 1) := by decide +kernel
theorem dX7_hungers_147 : decode cX7_hungers 147 = .ok (.iload_n 1, 1) := by decide +kernel
theorem dX7_hungers_148 : decode cX7_hungers 148 = .ok (.iconst 3, 1) := by decide +kernel
theorem dX7_hungers_149 : decode cX7_hungers 149 = .ok (.iload 4, 2) := by decide +kernel
theorem dX7_hungers_151 : decode cX7_hungers 151 = .ok (.iadd, 1) := by decide +kernel
theorem dX7_hungers_152 : decode cX7_hungers 152 = .ok (.bipush 9, 2) := by decide +kernel
theorem dX7_hungers_154 : decode cX7_hungers 154 = .ok (.iload 6, 2) := by decide +kernel
theorem dX7_hungers_156 : decode cX7_hungers 156 = .ok (.invokestatic 183, 3) := by decide +kernel
theorem dX7_hungers_159 : decode cX7_hungers 159 = .ok (.invokevirtual 142, 3) := by decide +kernel
theorem dX7_hungers_162 : decode cX7_hungers 162 = .ok (.iload 5, 2) := by decide +kernel
theorem dX7_hungers_164 : decode cX7_hungers 164 = .ok (.ifCond .eq 20, 3) := by decide +kernel
theorem dX7_hungers_167 : decode cX7_hungers 167 = .ok (.aload_n 0, 1) := by decide +kernel
theorem dX7_hungers_168 : decode cX7_hungers 168 = .ok (.iload_n 1, 1) := by decide +kernel
theorem dX7_hungers_169 : decode cX7_hungers 169 = .ok (.bipush 8, 2) := by decide +kernel
theorem dX7_hungers_171 : decode cX7_hungers 171 = .ok (.iload 4, 2) := by decide +kernel
theorem dX7_hungers_173 : decode cX7_hungers 173 = .ok (.iadd, 1) := by decide +kernel
theorem dX7_hungers_174 : decode cX7_hungers 174 = .ok (.aload_n 0, 1) := by decide +kernel
theorem dX7_hungers_175 : decode cX7_hungers 175 = .ok (.iload_n 1, 1) := by decide +kernel
theorem dX7_hungers_176 : decode cX7_hungers 176 = .ok (.bipush 14, 2) := by decide +kernel
theorem dX7_hungers_178 : decode cX7_hungers 178 = .ok (.invokevirtual 149, 3) := by decide +kernel
theorem dX7_hungers_181 : decode cX7_hungers 181 = .ok (.invokevirtual 142, 3) := by decide +kernel
theorem dX7_hungers_184 : decode cX7_hungers 184 = .ok (.iinc 4 1, 3) := by decide +kernel
theorem dX7_hungers_187 : decode cX7_hungers 187 = .ok (.goto (-184), 3) := by decide +kernel
theorem dX7_hungers_190 : decode cX7_hungers 190 = .ok (.return_, 1) := by decide +kernel
theorem dX7_sends_0 : decode cX7_sends 0 = .ok (.aload_n 0, 1) := by decide +kernel
theorem dX7_sends_1 : decode cX7_sends 1 = .ok (.iconst 0, 1) := by decide +kernel
theorem dX7_sends_2 : decode cX7_sends 2 = .ok (.putfield 186, 3) := by decide +kernel
theorem dX7_sends_5 : decode cX7_sends 5 = .ok (.aload_n 0, 1) := by decide +kernel
theorem dX7_sends_6 : decode cX7_sends 6 = .ok (.iconst 0, 1) := by decide +kernel
theorem dX7_sends_7 : decode cX7_sends 7 = .ok (.putfield 189, 3) := by decide +kernel
theorem dX7_sends_10 : decode cX7_sends 10 = .ok (.iconst 0, 1) := by decide +kernel
theorem dX7_sends_11 : decode cX7_sends 11 = .ok (.istore_n 2, 1) := by decide +kernel
theorem dX7_sends_12 : decode cX7_sends 12 = .ok (.iload_n 2, 1) := by decide +kernel
theorem dX7_sends_13 : decode cX7_sends 13 = .ok (.aload_n 0, 1) := by decide +kernel
theorem dX7_sends_14 : decode cX7_sends 14 = .ok (.getfield 139, 3) := by decide +kernel
theorem dX7_sends_17 : decode cX7_sends 17 = .ok (.if_icmp .ge 202, 3) := by decide +kernel
theorem dX7_sends_20 : decode cX7_sends 20 = .ok (.aload_n 0, 1) := by decide +kernel
theorem dX7_sends_21 : decode cX7_sends 21 = .ok (.getfield 41, 3) := by decide +kernel
theorem dX7_sends_24 : decode cX7_sends 24 = .ok (.iload_n 2, 1) := by decide +kernel
theorem dX7_sends_25 : decode cX7_sends 25 = .ok (.iconst 0, 1) := by decide +kernel
theorem dX7_sends_26 : decode cX7_sends 26 = .ok (.iastore, 1) := by decide +kernel
theorem dX7_sends_27 : decode cX7_sends 27 = .ok (.aload_n 0, 1) := by decide +kernel
theorem dX7_sends_28 : decode cX7_sends 28 = .ok (.iload_n 1, 1) := by decide +kernel
theorem dX7_sends_29 : decode cX7_sends 29 = .ok (.iload_n 2, 1) := by decide +kernel
theorem dX7_sends_30 : decode cX7_sends 30 = .ok (.invokevirtual 165, 3) := by decide +kernel
theorem dX7_sends_33 : decode cX7_sends 33 = .ok (.ifCond .eq 180, 3) := by decide +kernel
theorem dX7_sends_36 : decode cX7_sends 36 = .ok (.aload_n 0, 1) := by decide +kernel
theorem dX7_sends_37 : decode cX7_sends 37 = .ok (.iload_n 2, 1) := by decide +kernel
theorem dX7_sends_38 : decode cX7_sends 38 = .ok (.invokevirtual 146, 3) := by decide +kernel
theorem dX7_sends_41 : decode cX7_sends 41 = .ok (.iconst 5, 1) := by decide +kernel
theorem dX7_sends_42 : decode cX7_sends 42 = .ok (.if_icmp .ne 17, 3) := by decide +kernel
theorem dX7_sends_45 : decode cX7_sends 45 = .ok (.aload_n 0, 1) := by decide +kernel
theorem dX7_sends_46 : decode cX7_sends 46 = .ok (.iload_n 1, 1) := by decide +kernel
theorem dX7_sends_47 : decode cX7_sends 47 = .ok (.bipush 7, 2) := by decide +kernel
theorem dX7_sends_49 : decode cX7_sends 49 = .ok (.invokevirtual 149, 3) := by decide +kernel
theorem dX7_sends_52 : decode cX7_sends 52 = .ok (.iload_n 2, 1) := by decide +kernel
theorem dX7_sends_53 : decode cX7_sends 53 = .ok (.invokestatic 174, 3) := by decide +kernel
theorem dX7_sends_56 : decode cX7_sends 56 = .ok (.ifCond .eq 157, 3) := by decide +kernel
theorem dX7_sends_59 : decode cX7_sends 59 = .ok (.aload_n 0, 1) := by decide +kernel
theorem dX7_sends_60 : decode cX7_sends 60 = .ok (.iload_n 1, 1) := by decide +kernel
theorem dX7_sends_61 : decode cX7_sends 61 = .ok (.iconst 3, 1) := by decide +kernel
theorem dX7_sends_62 : decode cX7_sends 62 = .ok (.iload_n 2, 1) := by decide +kernel
theorem dX7_sends_63 : decode cX7_sends 63 = .ok (.iadd, 1) := by decide +kernel
theorem dX7_sends_64 : decode cX7_sends 64 = .ok (.invokevirtual 149, 3) := by decide +kernel
theorem dX7_sends_67 : decode cX7_sends 67 = .ok (.aload_n 0, 1) := by decide +kernel
theorem dX7_sends_68 : decode cX7_sends 68 = .ok (.iload_n 2, 1) := by decide +kernel
theorem dX7_sends_69 : decode cX7_sends 69 = .ok (.invokevirtual 192, 3) := by decide +kernel
theorem dX7_sends_72 : decode cX7_sends 72 = .ok (.if_icmp .gt 7, 3) := by decide +kernel
theorem dX7_sends_75 : decode cX7_sends 75 = .ok (.iconst 1, 1) := by decide +kernel
theorem dX7_sends_76 : decode cX7_sends 76 = .ok (.goto 4, 3) := by decide +kernel
theorem dX7_sends_79 : decode cX7_sends 79 = .ok (.iconst 0, 1) := by decide +kernel
theorem dX7_sends_80 : decode cX7_sends 80 = .ok (.istore_n 3, 1) := by decide +kernel
theorem dX7_sends_81 : decode cX7_sends 81 = .ok (.aload_n 0, 1) := by decide +kernel
theorem dX7_sends_82 : decode cX7_sends 82 = .ok (.getfield 41, 3) := by decide +kernel
theorem dX7_sends_85 : decode cX7_sends 85 = .ok (.iload_n 2, 1) := by decide +kernel
theorem dX7_sends_86 : decode cX7_sends 86 = .ok (.iload_n 3, 1) := by decide +kernel
theorem dX7_sends_87 : decode cX7_sends 87 = .ok (.ifCond .eq 17, 3) := by decide +kernel
theorem dX7_sends_90 : decode cX7_sends 90 = .ok (.aload_n 0, 1) := by decide +kernel
theorem dX7_sends_91 : decode cX7_sends 91 = .ok (.getfield 29, 3) := by decide +kernel
theorem dX7_sends_94 : decode cX7_sends 94 = .ok (.bipush 6, 2) := by decide +kernel
theorem dX7_sends_96 : decode cX7_sends 96 = .ok (.iload_n 2, 1) := by decide +kernel
theorem dX7_sends_97 : decode cX7_sends 97 = .ok (.imul, 1) := by decide +kernel
theorem dX7_sends_98 : decode cX7_sends 98 = .ok (.iconst 3, 1) := by decide +kernel
theorem dX7_sends_99 : decode cX7_sends 99 = .ok (.iadd, 1) := by decide +kernel
theorem dX7_sends_100 : decode cX7_sends 100 = .ok (.iaload, 1) := by decide +kernel
theorem dX7_sends_101 : decode cX7_sends 101 = .ok (.goto 15, 3) := by decide +kernel
theorem dX7_sends_104 : decode cX7_sends 104 = .ok (.aload_n 0, 1) := by decide +kernel
theorem dX7_sends_105 : decode cX7_sends 105 = .ok (.getfield 29, 3) := by decide +kernel
theorem dX7_sends_108 : decode cX7_sends 108 = .ok (.bipush 6, 2) := by decide +kernel
theorem dX7_sends_110 : decode cX7_sends 110 = .ok (.iload_n 2, 1) := by decide +kernel
theorem dX7_sends_111 : decode cX7_sends 111 = .ok (.imul, 1) := by decide +kernel
theorem dX7_sends_112 : decode cX7_sends 112 = .ok (.iconst 4, 1) := by decide +kernel
theorem dX7_sends_113 : decode cX7_sends 113 = .ok (.iadd, 1) := by decide +kernel
theorem dX7_sends_114 : decode cX7_sends 114 = .ok (.iaload, 1) := by decide +kernel
theorem dX7_sends_115 : decode cX7_sends 115 = .ok (.ineg, 1) := by decide +kernel
theorem dX7_sends_116 : decode cX7_sends 116 = .ok (.iastore, 1) := by decide +kernel
theorem dX7_sends_117 : decode cX7_sends 117 = .ok (.aload_n 0, 1) := by decide +kernel
theorem dX7_sends_118 : decode cX7_sends 118 = .ok (.iload_n 1, 1) := by decide +kernel
theorem dX7_sends_119 : decode cX7_sends 119 = .ok (.bipush 12, 2) := by decide +kernel
theorem dX7_sends_121 : decode cX7_sends 121 = .ok (.aload_n 0, 1) := by decide +kernel
theorem dX7_sends_122 : decode cX7_sends 122 = .ok (.iload_n 1, 1) := by decide +kernel
theorem dX7_sends_123 : decode cX7_sends 123 = .ok (.bipush 12, 2) := by decide +kernel
theorem dX7_sends_125 : decode cX7_sends 125 = .ok (.invokevirtual 149, 3) := by decide +kernel
theorem dX7_sends_128 : decode cX7_sends 128 = .ok (.iload_n 3, 1) := by decide +kernel
theorem dX7_sends_129 : decode cX7_sends 129 = .ok (.ifCond .eq 12, 3) := by decide +kernel
theorem dX7_sends_132 : decode cX7_sends 132 = .ok (.aload_n 0, 1) := by decide +kernel
theorem dX7_sends_133 : decode cX7_sends 133 = .ok (.getfield 41, 3) := by decide +kernel
theorem dX7_sends_136 : decode cX7_sends 136 = .ok (.iload_n 2, 1) := by decide +kernel
theorem dX7_sends_137 : decode cX7_sends 137 = .ok (.iaload, 1) := by decide +kernel
theorem dX7_sends_138 : decode cX7_sends 138 = .ok (.goto 4, 3) := by decide +kernel
theorem dX7_sends_141 : decode cX7_sends 141 = .ok (.iconst 0, 1) := by decide +kernel
theorem dX7_sends_142 : decode cX7_sends 142 = .ok (.iadd, 1) := by decide +kernel
theorem dX7_sends_143 : decode cX7_sends 143 = .ok (.invokevirtual 142, 3) := by decide +kernel
theorem dX7_sends_146 : decode cX7_sends 146 = .ok (.aload_n 0, 1) := by decide +kernel
theorem dX7_sends_147 : decode cX7_sends 147 = .ok (.iload_n 1, 1) := by decide +kernel
theorem dX7_sends_148 : decode cX7_sends 148 = .ok (.bipush 13, 2) := by decide +kernel
theorem dX7_sends_150 : decode cX7_sends 150 = .ok (.aload_n 0, 1) := by decide +kernel
theorem dX7_sends_151 : decode cX7_sends 151 = .ok (.iload_n 1, 1) := by decide +kernel
theorem dX7_sends_152 : decode cX7_sends 152 = .ok (.bipush 13, 2) := by decide +kernel
theorem dX7_sends_154 : decode cX7_sends 154 = .ok (.invokevirtual 149, 3) := by decide +kernel
theorem dX7_sends_157 : decode cX7_sends 157 = .ok (.iload_n 3, 1) := by decide +kernel
theorem dX7_sends_158 : decode cX7_sends 158 = .ok (.ifCond .eq 7, 3) := by decide +kernel
theorem dX7_sends_161 : decode cX7_sends 161 = .ok (.iconst 0, 1) := by decide +kernel
theorem dX7_sends_162 : decode cX7_sends 162 = .ok (.goto 9, 3) := by decide +kernel
theorem dX7_sends_165 : decode cX7_sends 165 = .ok (.aload_n 0, 1) := by decide +kernel
theorem dX7_sends_166 : decode cX7_sends 166 = .ok (.getfield 41, 3) := by decide +kernel
theorem dX7_sends_169 : decode cX7_sends 169 = .ok (.iload_n 2, 1) := by decide +kernel
theorem dX7_sends_170 : decode cX7_sends 170 = .ok (.iaload, 1) := by decide +kernel
theorem dX7_sends_171 : decode cX7_sends 171 = .ok (.isub, 1) := by decide +kernel
theorem dX7_sends_172 : decode cX7_sends 172 = .ok (.invokevirtual 142, 3) := by decide +kernel
theorem dX7_sends_175 : decode cX7_sends 175 = .ok (.aload_n 0, 1) := by decide +kernel
theorem dX7_sends_176 : decode cX7_sends 176 = .ok (.dup, 1) := by decide +kernel
theorem dX7_sends_177 : decode cX7_sends 177 = .ok (.getfield 189, 3) := by decide +kernel
theorem dX7_sends_180 : decode cX7_sends 180 = .ok (.iload_n 3, 1) := by decide +kernel
theorem dX7_sends_181 : decode cX7_sends 181 = .ok (.ifCond .eq 7, 3) := by decide +kernel
theorem dX7_sends_184 : decode cX7_sends 184 = .ok (.iconst 0, 1) := by decide +kernel
theorem dX7_sends_185 : decode cX7_sends 185 = .ok (.goto 9, 3) := by decide +kernel
theorem dX7_sends_188 : decode cX7_sends 188 = .ok (.aload_n 0, 1) := by decide +kernel
theorem dX7_sends_189 : decode cX7_sends 189 = .ok (.getfield 41, 3) := by decide +kernel
theorem dX7_sends_192 : decode cX7_sends 192 = .ok (.iload_n 2, 1) := by decide +kernel
theorem dX7_sends_193 : decode cX7_sends 193 = .ok (.iaload, 1) := by decide +kernel
theorem dX7_sends_194 : decode cX7_sends 194 = .ok (.isub, 1) := by decide +kernel
theorem dX7_sends_195 : decode cX7_sends 195 = .ok (.putfield 189, 3) := by decide +kernel
theorem dX7_sends_198 : decode cX7_sends 198 = .ok (.aload_n 0, 1) := by decide +kernel
theorem dX7_sends_199 : decode cX7_sends 199 = .ok (.dup, 1) := by decide +kernel
theorem dX7_sends_200 : decode cX7_sends 200 = .ok (.getfield 186, 3) := by decide +kernel
theorem dX7_sends_203 : decode cX7_sends 203 = .ok (.aload_n 0, 1) := by decide +kernel
theorem dX7_sends_204 : decode cX7_sends 204 = .ok (.getfield 41, 3) := by decide +kernel
theorem dX7_sends_207 : decode cX7_sends 207 = .ok (.iload_n 2, 1) := by decide +kernel
theorem dX7_sends_208 : decode cX7_sends 208 = .ok (.iaload, 1) := by decide +kernel
theorem dX7_sends_209 : decode cX7_sends 209 = .ok (.iadd, 1) := by decide +kernel
theorem dX7_sends_210 : decode cX7_sends 210 = .ok (.putfield 186, 3) := by decide +kernel
theorem dX7_sends_213 : decode cX7_sends 213 = .ok (.iinc 2 1, 3) := by decide +kernel
theorem dX7_sends_216 : decode cX7_sends 216 = .ok (.goto (-204), 3) := by decide +kernel
theorem dX7_sends_219 : decode cX7_sends 219 = .ok (.iconst 0, 1) := by decide +kernel
theorem dX7_sends_220 : decode cX7_sends 220 = .ok (.istore_n 2, 1) := by decide +kernel
theorem dX7_sends_221 : decode cX7_sends 221 = .ok (.iload_n 2, 1) := by decide +kernel
theorem dX7_sends_222 : decode cX7_sends 222 = .ok (.aload_n 0, 1) := by decide +kernel
theorem dX7_sends_223 : decode cX7_sends 223 = .ok (.getfield 139, 3) := by decide +kernel
theorem dX7_sends_226 : decode cX7_sends 226 = .ok (.if_icmp .ge 55, 3) := by decide +kernel
theorem dX7_sends_229 : decode cX7_sends 229 = .ok (.aload_n 0, 1) := by decide +kernel
theorem dX7_sends_230 : decode cX7_sends 230 = .ok (.iload_n 2, 1) := by decide +kernel
theorem dX7_sends_231 : decode cX7_sends 231 = .ok (.invokevirtual 146, 3) := by decide +kernel
theorem dX7_sends_234 : decode cX7_sends 234 = .ok (.iconst 4, 1) := by decide +kernel
theorem dX7_sends_235 : decode cX7_sends 235 = .ok (.if_icmp .ne 40, 3) := by decide +kernel
theorem dX7_sends_238 : decode cX7_sends 238 = .ok (.aload_n 0, 1) := by decide +kernel
theorem dX7_sends_239 : decode cX7_sends 239 = .ok (.iload_n 1, 1) := by decide +kernel
theorem dX7_sends_240 : decode cX7_sends 240 = .ok (.iload_n 2, 1) := by decide +kernel
theorem dX7_sends_241 : decode cX7_sends 241 = .ok (.invokevirtual 165, 3) := by decide +kernel
theorem dX7_sends_244 : decode cX7_sends 244 = .ok (.ifCond .eq 31, 3) := by decide +kernel
theorem dX7_sends_247 : decode cX7_sends 247 = .ok (.aload_n 0, 1) := by decide +kernel
theorem dX7_sends_248 : decode cX7_sends 248 = .ok (.iload_n 1, 1) := by decide +kernel
theorem dX7_sends_249 : decode cX7_sends 249 = .ok (.iconst 3, 1) := by decide +kernel
theorem dX7_sends_250 : decode cX7_sends 250 = .ok (.iload_n 2, 1) := by decide +kernel
theorem dX7_sends_251 : decode cX7_sends 251 = .ok (.iadd, 1) := by decide +kernel
theorem dX7_sends_252 : decode cX7_sends 252 = .ok (.invokevirtual 149, 3) := by decide +kernel
theorem dX7_sends_255 : decode cX7_sends 255 = .ok (.aload_n 0, 1) := by decide +kernel
theorem dX7_sends_256 : decode cX7_sends 256 = .ok (.iload_n 2, 1) := by decide +kernel
theorem dX7_sends_257 : decode cX7_sends 257 = .ok (.invokevirtual 192, 3) := by decide +kernel
theorem dX7_sends_260 : decode cX7_sends 260 = .ok (.iconst 1, 1) := by decide +kernel
theorem dX7_sends_261 : decode cX7_sends 261 = .ok (.iadd, 1) := by decide +kernel
theorem dX7_sends_262 : decode cX7_sends 262 = .ok (.if_icmp .le 13, 3) := by decide +kernel
theorem dX7_sends_265 : decode cX7_sends 265 = .ok (.aload_n 0, 1) := by decide +kernel
theorem dX7_sends_266 : decode cX7_sends 266 = .ok (.iload_n 1, 1) := by decide +kernel
theorem dX7_sends_267 : decode cX7_sends 267 = .ok (.iconst 3, 1) := by decide +kernel
theorem dX7_sends_268 : decode cX7_sends 268 = .ok (.iload_n 2, 1) := by decide +kernel
theorem dX7_sends_269 : decode cX7_sends 269 = .ok (.iadd, 1) := by decide +kernel
theorem dX7_sends_270 : decode cX7_sends 270 = .ok (.bipush (-9), 2) := by decide +kernel
theorem dX7_sends_272 : decode cX7_sends 272 = .ok (.invokevirtual 142, 3) := by decide +kernel
theorem dX7_sends_275 : decode cX7_sends 275 = .ok (.iinc 2 1, 3) := by decide +kernel
theorem dX7_sends_278 : decode cX7_sends 278 = .ok (.goto (-57), 3) := by decide +kernel
theorem dX7_sends_281 : decode cX7_sends 281 = .ok (.return_, 1) := by decide +kernel
theorem dX7_goes_0 : decode cX7_goes 0 = .ok (.aload_n 0, 1) := by decide +kernel
theorem dX7_goes_1 : decode cX7_goes 1 = .ok (.aload_n 0, 1) := by decide +kernel
theorem dX7_goes_2 : decode cX7_goes 2 = .ok (.iload_n 1, 1) := by decide +kernel
theorem dX7_goes_3 : decode cX7_goes 3 = .ok (.iload_n 2, 1) := by decide +kernel
theorem dX7_goes_4 : decode cX7_goes 4 = .ok (.invokevirtual 195, 3) := by decide +kernel
theorem dX7_goes_7 : decode cX7_goes 7 = .ok (.putfield 198, 3) := by decide +kernel
theorem dX7_goes_10 : decode cX7_goes 10 = .ok (.aload_n 0, 1) := by decide +kernel
theorem dX7_goes_11 : decode cX7_goes 11 = .ok (.getfield 198, 3) := by decide +kernel
theorem dX7_goes_14 : decode cX7_goes 14 = .ok (.bipush (-9), 2) := by decide +kernel
theorem dX7_goes_16 : decode cX7_goes 16 = .ok (.if_icmp .ne 5, 3) := by decide +kernel
theorem dX7_goes_19 : decode cX7_goes 19 = .ok (.iconst 0, 1) := by decide +kernel
theorem dX7_goes_20 : decode cX7_goes 20 = .ok (.ireturn, 1) := by decide +kernel
theorem dX7_goes_21 : decode cX7_goes 21 = .ok (.iconst 0, 1) := by decide +kernel
theorem dX7_goes_22 : decode cX7_goes 22 = .ok (.istore_n 3, 1) := by decide +kernel
theorem dX7_goes_23 : decode cX7_goes 23 = .ok (.iload_n 2, 1) := by decide +kernel
theorem dX7_goes_24 : decode cX7_goes 24 = .ok (.bipush 12, 2) := by decide +kernel
theorem dX7_goes_26 : decode cX7_goes 26 = .ok (.if_icmp .eq 53, 3) := by decide +kernel
theorem dX7_goes_29 : decode cX7_goes 29 = .ok (.aload_n 0, 1) := by decide +kernel
theorem dX7_goes_30 : decode cX7_goes 30 = .ok (.iload_n 1, 1) := by decide +kernel
theorem dX7_goes_31 : decode cX7_goes 31 = .ok (.iload_n 2, 1) := by decide +kernel
theorem dX7_goes_32 : decode cX7_goes 32 = .ok (.iconst 3, 1) := by decide +kernel
theorem dX7_goes_33 : decode cX7_goes 33 = .ok (.idiv, 1) := by decide +kernel
theorem dX7_goes_34 : decode cX7_goes 34 = .ok (.invokevirtual 168, 3) := by decide +kernel
theorem dX7_goes_37 : decode cX7_goes 37 = .ok (.istore_n 3, 1) := by decide +kernel
theorem dX7_goes_38 : decode cX7_goes 38 = .ok (.aload_n 0, 1) := by decide +kernel
theorem dX7_goes_39 : decode cX7_goes 39 = .ok (.iload_n 1, 1) := by decide +kernel
theorem dX7_goes_40 : decode cX7_goes 40 = .ok (.iconst 0, 1) := by decide +kernel
theorem dX7_goes_41 : decode cX7_goes 41 = .ok (.iload_n 2, 1) := by decide +kernel
theorem dX7_goes_42 : decode cX7_goes 42 = .ok (.iconst 3, 1) := by decide +kernel
theorem dX7_goes_43 : decode cX7_goes 43 = .ok (.irem, 1) := by decide +kernel
theorem dX7_goes_44 : decode cX7_goes 44 = .ok (.iadd, 1) := by decide +kernel
theorem dX7_goes_45 : decode cX7_goes 45 = .ok (.aload_n 0, 1) := by decide +kernel
theorem dX7_goes_46 : decode cX7_goes 46 = .ok (.iload_n 1, 1) := by decide +kernel
theorem dX7_goes_47 : decode cX7_goes 47 = .ok (.iconst 0, 1) := by decide +kernel
theorem dX7_goes_48 : decode cX7_goes 48 = .ok (.iload_n 2, 1) := by decide +kernel
theorem dX7_goes_49 : decode cX7_goes 49 = .ok (.iconst 3, 1) := by decide +kernel
theorem dX7_goes_50 : decode cX7_goes 50 = .ok (.irem, 1) := by decide +kernel
theorem dX7_goes_51 : decode cX7_goes 51 = .ok (.iadd, 1) := by decide +kernel
theorem dX7_goes_52 : decode cX7_goes 52 = .ok (.invokevirtual 149, 3) := by decide +kernel
theorem dX7_goes_55 : decode cX7_goes 55 = .ok (.aload_n 0, 1) := by decide +kernel
theorem dX7_goes_56 : decode cX7_goes 56 = .ok (.getfield 198, 3) := by decide +kernel
theorem dX7_goes_59 : decode cX7_goes 59 = .ok (.isub, 1) := by decide +kernel
theorem dX7_goes_60 : decode cX7_goes 60 = .ok (.invokevirtual 142, 3) := by decide +kernel
theorem dX7_goes_63 : decode cX7_goes 63 = .ok (.aload_n 0, 1) := by decide +kernel
theorem dX7_goes_64 : decode cX7_goes 64 = .ok (.iload_n 1, 1) := by decide +kernel
theorem dX7_goes_65 : decode cX7_goes 65 = .ok (.bipush 7, 2) := by decide +kernel
theorem dX7_goes_67 : decode cX7_goes 67 = .ok (.aload_n 0, 1) := by decide +kernel
theorem dX7_goes_68 : decode cX7_goes 68 = .ok (.iload_n 1, 1) := by decide +kernel
theorem dX7_goes_69 : decode cX7_goes 69 = .ok (.bipush 7, 2) := by decide +kernel
theorem dX7_goes_71 : decode cX7_goes 71 = .ok (.invokevirtual 149, 3) := by decide +kernel
theorem dX7_goes_74 : decode cX7_goes 74 = .ok (.iload_n 3, 1) := by decide +kernel
theorem dX7_goes_75 : decode cX7_goes 75 = .ok (.ior, 1) := by decide +kernel
theorem dX7_goes_76 : decode cX7_goes 76 = .ok (.invokevirtual 142, 3) := by decide +kernel
theorem dX7_goes_79 : decode cX7_goes 79 = .ok (.aload_n 0, 1) := by decide +kernel
theorem dX7_goes_80 : decode cX7_goes 80 = .ok (.iload_n 1, 1) := by decide +kernel
theorem dX7_goes_81 : decode cX7_goes 81 = .ok (.iload_n 3, 1) := by decide +kernel
theorem dX7_goes_82 : decode cX7_goes 82 = .ok (.iload_n 2, 1) := by decide +kernel
theorem dX7_goes_83 : decode cX7_goes 83 = .ok (.iconst 3, 1) := by decide +kernel
theorem dX7_goes_84 : decode cX7_goes 84 = .ok (.irem, 1) := by decide +kernel
theorem dX7_goes_85 : decode cX7_goes 85 = .ok (.invokevirtual 201, 3) := by decide +kernel
theorem dX7_goes_88 : decode cX7_goes 88 = .ok (.aload_n 0, 1) := by decide +kernel
theorem dX7_goes_89 : decode cX7_goes 89 = .ok (.iload_n 1, 1) := by decide +kernel
theorem dX7_goes_90 : decode cX7_goes 90 = .ok (.invokevirtual 204, 3) := by decide +kernel
theorem dX7_goes_93 : decode cX7_goes 93 = .ok (.aload_n 0, 1) := by decide +kernel
theorem dX7_goes_94 : decode cX7_goes 94 = .ok (.iload_n 1, 1) := by decide +kernel
theorem dX7_goes_95 : decode cX7_goes 95 = .ok (.bipush 14, 2) := by decide +kernel
theorem dX7_goes_97 : decode cX7_goes 97 = .ok (.aload_n 0, 1) := by decide +kernel
theorem dX7_goes_98 : decode cX7_goes 98 = .ok (.iload_n 1, 1) := by decide +kernel
theorem dX7_goes_99 : decode cX7_goes 99 = .ok (.bipush 14, 2) := by decide +kernel
theorem dX7_goes_101 : decode cX7_goes 101 = .ok (.invokevirtual 149, 3) := by decide +kernel
theorem dX7_goes_104 : decode cX7_goes 104 = .ok (.iconst 1, 1) := by decide +kernel
theorem dX7_goes_105 : decode cX7_goes 105 = .ok (.iadd, 1) := by decide +kernel
theorem dX7_goes_106 : decode cX7_goes 106 = .ok (.invokevirtual 142, 3) := by decide +kernel
theorem dX7_goes_109 : decode cX7_goes 109 = .ok (.iconst 1, 1) := by decide +kernel
theorem dX7_goes_110 : decode cX7_goes 110 = .ok (.ireturn, 1) := by decide +kernel
theorem dX7_godTells_0 : decode cX7_godTells 0 = .ok (.iload_n 2, 1) := by decide +kernel
theorem dX7_godTells_1 : decode cX7_godTells 1 = .ok (.bipush 6, 2) := by decide +kernel
theorem dX7_godTells_3 : decode cX7_godTells 3 = .ok (.if_icmp .ge 17, 3) := by decide +kernel
theorem dX7_godTells_6 : decode cX7_godTells 6 = .ok (.aload_n 0, 1) := by decide +kernel
theorem dX7_godTells_7 : decode cX7_godTells 7 = .ok (.getfield 29, 3) := by decide +kernel
theorem dX7_godTells_10 : decode cX7_godTells 10 = .ok (.bipush 6, 2) := by decide +kernel
theorem dX7_godTells_12 : decode cX7_godTells 12 = .ok (.iload_n 1, 1) := by decide +kernel
theorem dX7_godTells_13 : decode cX7_godTells 13 = .ok (.imul, 1) := by decide +kernel
theorem dX7_godTells_14 : decode cX7_godTells 14 = .ok (.iload_n 2, 1) := by decide +kernel
theorem dX7_godTells_15 : decode cX7_godTells 15 = .ok (.iadd, 1) := by decide +kernel
theorem dX7_godTells_16 : decode cX7_godTells 16 = .ok (.iaload, 1) := by decide +kernel
theorem dX7_godTells_17 : decode cX7_godTells 17 = .ok (.goto 11, 3) := by decide +kernel
theorem dX7_godTells_20 : decode cX7_godTells 20 = .ok (.aload_n 0, 1) := by decide +kernel
theorem dX7_godTells_21 : decode cX7_godTells 21 = .ok (.iconst 0, 1) := by decide +kernel
theorem dX7_godTells_22 : decode cX7_godTells 22 = .ok (.iconst 3, 1) := by decide +kernel
theorem dX7_godTells_23 : decode cX7_godTells 23 = .ok (.iload_n 1, 1) := by decide +kernel
theorem dX7_godTells_24 : decode cX7_godTells 24 = .ok (.iadd, 1) := by decide +kernel
theorem dX7_godTells_25 : decode cX7_godTells 25 = .ok (.invokevirtual 149, 3) := by decide +kernel
theorem dX7_godTells_28 : decode cX7_godTells 28 = .ok (.ireturn, 1) := by decide +kernel
theorem dX7_god_0 : decode cX7_god 0 = .ok (.aload_n 0, 1) := by decide +kernel
theorem dX7_god_1 : decode cX7_god 1 = .ok (.iload_n 1, 1) := by decide +kernel
theorem dX7_god_2 : decode cX7_god 2 = .ok (.invokevirtual 208, 3) := by decide +kernel
theorem dX7_god_5 : decode cX7_god 5 = .ok (.ifCond .eq 27, 3) := by decide +kernel
theorem dX7_god_8 : decode cX7_god 8 = .ok (.iload_n 2, 1) := by decide +kernel
theorem dX7_god_9 : decode cX7_god 9 = .ok (.iconst 0, 1) := by decide +kernel
theorem dX7_god_10 : decode cX7_god 10 = .ok (.bipush 6, 2) := by decide +kernel
theorem dX7_god_12 : decode cX7_god 12 = .ok (.invokestatic 80, 3) := by decide +kernel
theorem dX7_god_15 : decode cX7_god 15 = .ok (.ifCond .eq 17, 3) := by decide +kernel
theorem dX7_god_18 : decode cX7_god 18 = .ok (.aload_n 0, 1) := by decide +kernel
theorem dX7_god_19 : decode cX7_god 19 = .ok (.aload_n 0, 1) := by decide +kernel
theorem dX7_god_20 : decode cX7_god 20 = .ok (.iload_n 1, 1) := by decide +kernel
theorem dX7_god_21 : decode cX7_god 21 = .ok (.iload_n 2, 1) := by decide +kernel
theorem dX7_god_22 : decode cX7_god 22 = .ok (.invokevirtual 211, 3) := by decide +kernel
theorem dX7_god_25 : decode cX7_god 25 = .ok (.iconst 1, 1) := by decide +kernel
theorem dX7_god_26 : decode cX7_god 26 = .ok (.invokevirtual 102, 3) := by decide +kernel
theorem dX7_god_29 : decode cX7_god 29 = .ok (.goto 4, 3) := by decide +kernel
theorem dX7_god_32 : decode cX7_god 32 = .ok (.iconst (-1), 1) := by decide +kernel
theorem dX7_god_33 : decode cX7_god 33 = .ok (.ireturn, 1) := by decide +kernel
theorem dX7_mark_0 : decode cX7_mark 0 = .ok (.aload_n 0, 1) := by decide +kernel
theorem dX7_mark_1 : decode cX7_mark 1 = .ok (.iload_n 1, 1) := by decide +kernel
theorem dX7_mark_2 : decode cX7_mark 2 = .ok (.invokevirtual 208, 3) := by decide +kernel
theorem dX7_mark_5 : decode cX7_mark 5 = .ok (.ifCond .eq 12, 3) := by decide +kernel
theorem dX7_mark_8 : decode cX7_mark 8 = .ok (.iload_n 2, 1) := by decide +kernel
theorem dX7_mark_9 : decode cX7_mark 9 = .ok (.iconst 1, 1) := by decide +kernel
theorem dX7_mark_10 : decode cX7_mark 10 = .ok (.iconst 5, 1) := by decide +kernel
theorem dX7_mark_11 : decode cX7_mark 11 = .ok (.invokestatic 80, 3) := by decide +kernel
theorem dX7_mark_14 : decode cX7_mark 14 = .ok (.ifCond .ne 5, 3) := by decide +kernel
theorem dX7_mark_17 : decode cX7_mark 17 = .ok (.iconst (-1), 1) := by decide +kernel
theorem dX7_mark_18 : decode cX7_mark 18 = .ok (.ireturn, 1) := by decide +kernel
theorem dX7_mark_19 : decode cX7_mark 19 = .ok (.aload_n 0, 1) := by decide +kernel
theorem dX7_mark_20 : decode cX7_mark 20 = .ok (.iload_n 1, 1) := by decide +kernel
theorem dX7_mark_21 : decode cX7_mark 21 = .ok (.invokevirtual 146, 3) := by decide +kernel
theorem dX7_mark_24 : decode cX7_mark 24 = .ok (.istore_n 3, 1) := by decide +kernel
theorem dX7_mark_25 : decode cX7_mark 25 = .ok (.iload_n 3, 1) := by decide +kernel
theorem dX7_mark_26 : decode cX7_mark 26 = .ok (.iload_n 2, 1) := by decide +kernel
theorem dX7_mark_27 : decode cX7_mark 27 = .ok (.if_icmp .eq 29, 3) := by decide +kernel
theorem dX7_mark_30 : decode cX7_mark 30 = .ok (.iload_n 2, 1) := by decide +kernel
theorem dX7_mark_31 : decode cX7_mark 31 = .ok (.iconst 2, 1) := by decide +kernel
theorem dX7_mark_32 : decode cX7_mark 32 = .ok (.if_icmp .ne 8, 3) := by decide +kernel
theorem dX7_mark_35 : decode cX7_mark 35 = .ok (.iload_n 3, 1) := by decide +kernel
theorem dX7_mark_36 : decode cX7_mark 36 = .ok (.iconst 4, 1) := by decide +kernel
theorem dX7_mark_37 : decode cX7_mark 37 = .ok (.if_icmp .eq 19, 3) := by decide +kernel
theorem dX7_mark_40 : decode cX7_mark 40 = .ok (.iload_n 2, 1) := by decide +kernel
theorem dX7_mark_41 : decode cX7_mark 41 = .ok (.iconst 3, 1) := by decide +kernel
theorem dX7_mark_42 : decode cX7_mark 42 = .ok (.if_icmp .ne 8, 3) := by decide +kernel
theorem dX7_mark_45 : decode cX7_mark 45 = .ok (.iload_n 3, 1) := by decide +kernel
theorem dX7_mark_46 : decode cX7_mark 46 = .ok (.iconst 5, 1) := by decide +kernel
theorem dX7_mark_47 : decode cX7_mark 47 = .ok (.if_icmp .eq 9, 3) := by decide +kernel
theorem dX7_mark_50 : decode cX7_mark 50 = .ok (.aload_n 0, 1) := by decide +kernel
theorem dX7_mark_51 : decode cX7_mark 51 = .ok (.iconst 3, 1) := by decide +kernel
theorem dX7_mark_52 : decode cX7_mark 52 = .ok (.invokevirtual 94, 3) := by decide +kernel
theorem dX7_mark_55 : decode cX7_mark 55 = .ok (.ireturn, 1) := by decide +kernel
theorem dX7_mark_56 : decode cX7_mark 56 = .ok (.iload_n 2, 1) := by decide +kernel
theorem dX7_mark_57 : decode cX7_mark 57 = .ok (.tableswitch 121 1 4 #[31, 37, 76, 86], 31) := by decide +kernel
theorem dX7_mark_88 : decode cX7_mark 88 = .ok (.aload_n 0, 1) := by decide +kernel
theorem dX7_mark_89 : decode cX7_mark 89 = .ok (.iload_n 1, 1) := by decide +kernel
theorem dX7_mark_90 : decode cX7_mark 90 = .ok (.invokevirtual 162, 3) := by decide +kernel
theorem dX7_mark_93 : decode cX7_mark 93 = .ok (.ireturn, 1) := by decide +kernel
theorem dX7_mark_94 : decode cX7_mark 94 = .ok (.aload_n 0, 1) := by decide +kernel
theorem dX7_mark_95 : decode cX7_mark 95 = .ok (.iconst 0, 1) := by decide +kernel
theorem dX7_mark_96 : decode cX7_mark 96 = .ok (.bipush 8, 2) := by decide +kernel
theorem dX7_mark_98 : decode cX7_mark 98 = .ok (.iload_n 1, 1) := by decide +kernel
theorem dX7_mark_99 : decode cX7_mark 99 = .ok (.iadd, 1) := by decide +kernel
theorem dX7_mark_100 : decode cX7_mark 100 = .ok (.invokevirtual 149, 3) := by decide +kernel
theorem dX7_mark_103 : decode cX7_mark 103 = .ok (.bipush (-9), 2) := by decide +kernel
theorem dX7_mark_105 : decode cX7_mark 105 = .ok (.if_icmp .ne 8, 3) := by decide +kernel
theorem dX7_mark_108 : decode cX7_mark 108 = .ok (.bipush (-9), 2) := by decide +kernel
theorem dX7_mark_110 : decode cX7_mark 110 = .ok (.goto 22, 3) := by decide +kernel
theorem dX7_mark_113 : decode cX7_mark 113 = .ok (.aload_n 0, 1) := by decide +kernel
theorem dX7_mark_114 : decode cX7_mark 114 = .ok (.iconst 0, 1) := by decide +kernel
theorem dX7_mark_115 : decode cX7_mark 115 = .ok (.bipush 14, 2) := by decide +kernel
theorem dX7_mark_117 : decode cX7_mark 117 = .ok (.invokevirtual 149, 3) := by decide +kernel
theorem dX7_mark_120 : decode cX7_mark 120 = .ok (.iconst 1, 1) := by decide +kernel
theorem dX7_mark_121 : decode cX7_mark 121 = .ok (.isub, 1) := by decide +kernel
theorem dX7_mark_122 : decode cX7_mark 122 = .ok (.aload_n 0, 1) := by decide +kernel
theorem dX7_mark_123 : decode cX7_mark 123 = .ok (.iconst 0, 1) := by decide +kernel
theorem dX7_mark_124 : decode cX7_mark 124 = .ok (.bipush 8, 2) := by decide +kernel
theorem dX7_mark_126 : decode cX7_mark 126 = .ok (.iload_n 1, 1) := by decide +kernel
theorem dX7_mark_127 : decode cX7_mark 127 = .ok (.iadd, 1) := by decide +kernel
theorem dX7_mark_128 : decode cX7_mark 128 = .ok (.invokevirtual 149, 3) := by decide +kernel
theorem dX7_mark_131 : decode cX7_mark 131 = .ok (.isub, 1) := by decide +kernel
theorem dX7_mark_132 : decode cX7_mark 132 = .ok (.ireturn, 1) := by decide +kernel
theorem dX7_mark_133 : decode cX7_mark 133 = .ok (.aload_n 0, 1) := by decide +kernel
theorem dX7_mark_134 : decode cX7_mark 134 = .ok (.iconst 0, 1) := by decide +kernel
theorem dX7_mark_135 : decode cX7_mark 135 = .ok (.bipush 14, 2) := by decide +kernel
theorem dX7_mark_137 : decode cX7_mark 137 = .ok (.invokevirtual 149, 3) := by decide +kernel
theorem dX7_mark_140 : decode cX7_mark 140 = .ok (.iconst 2, 1) := by decide +kernel
theorem dX7_mark_141 : decode cX7_mark 141 = .ok (.irem, 1) := by decide +kernel
theorem dX7_mark_142 : decode cX7_mark 142 = .ok (.ireturn, 1) := by decide +kernel
theorem dX7_mark_143 : decode cX7_mark 143 = .ok (.aload_n 0, 1) := by decide +kernel
theorem dX7_mark_144 : decode cX7_mark 144 = .ok (.iconst 0, 1) := by decide +kernel
theorem dX7_mark_145 : decode cX7_mark 145 = .ok (.iload_n 1, 1) := by decide +kernel
theorem dX7_mark_146 : decode cX7_mark 146 = .ok (.invokevirtual 155, 3) := by decide +kernel
theorem dX7_mark_149 : decode cX7_mark 149 = .ok (.ifCond .eq 8, 3) := by decide +kernel
theorem dX7_mark_152 : decode cX7_mark 152 = .ok (.bipush (-9), 2) := by decide +kernel
theorem dX7_mark_154 : decode cX7_mark 154 = .ok (.goto 23, 3) := by decide +kernel
theorem dX7_mark_157 : decode cX7_mark 157 = .ok (.iconst 0, 1) := by decide +kernel
theorem dX7_mark_158 : decode cX7_mark 158 = .ok (.aload_n 0, 1) := by decide +kernel
theorem dX7_mark_159 : decode cX7_mark 159 = .ok (.iload_n 1, 1) := by decide +kernel
theorem dX7_mark_160 : decode cX7_mark 160 = .ok (.invokevirtual 192, 3) := by decide +kernel
theorem dX7_mark_163 : decode cX7_mark 163 = .ok (.iconst 2, 1) := by decide +kernel
theorem dX7_mark_164 : decode cX7_mark 164 = .ok (.iadd, 1) := by decide +kernel
theorem dX7_mark_165 : decode cX7_mark 165 = .ok (.aload_n 0, 1) := by decide +kernel
theorem dX7_mark_166 : decode cX7_mark 166 = .ok (.iconst 0, 1) := by decide +kernel
theorem dX7_mark_167 : decode cX7_mark 167 = .ok (.iconst 3, 1) := by decide +kernel
theorem dX7_mark_168 : decode cX7_mark 168 = .ok (.iload_n 1, 1) := by decide +kernel
theorem dX7_mark_169 : decode cX7_mark 169 = .ok (.iadd, 1) := by decide +kernel
theorem dX7_mark_170 : decode cX7_mark 170 = .ok (.invokevirtual 149, 3) := by decide +kernel
theorem dX7_mark_173 : decode cX7_mark 173 = .ok (.isub, 1) := by decide +kernel
theorem dX7_mark_174 : decode cX7_mark 174 = .ok (.invokestatic 177, 3) := by decide +kernel
theorem dX7_mark_177 : decode cX7_mark 177 = .ok (.ireturn, 1) := by decide +kernel
theorem dX7_mark_178 : decode cX7_mark 178 = .ok (.aload_n 0, 1) := by decide +kernel
theorem dX7_mark_179 : decode cX7_mark 179 = .ok (.iconst 0, 1) := by decide +kernel
theorem dX7_mark_180 : decode cX7_mark 180 = .ok (.bipush 7, 2) := by decide +kernel
theorem dX7_mark_182 : decode cX7_mark 182 = .ok (.invokevirtual 149, 3) := by decide +kernel
theorem dX7_mark_185 : decode cX7_mark 185 = .ok (.iload_n 1, 1) := by decide +kernel
theorem dX7_mark_186 : decode cX7_mark 186 = .ok (.invokestatic 174, 3) := by decide +kernel
theorem dX7_mark_189 : decode cX7_mark 189 = .ok (.ifCond .eq 7, 3) := by decide +kernel
theorem dX7_mark_192 : decode cX7_mark 192 = .ok (.iconst 1, 1) := by decide +kernel
theorem dX7_mark_193 : decode cX7_mark 193 = .ok (.goto 4, 3) := by decide +kernel
theorem dX7_mark_196 : decode cX7_mark 196 = .ok (.iconst 0, 1) := by decide +kernel
theorem dX7_mark_197 : decode cX7_mark 197 = .ok (.ireturn, 1) := by decide +kernel
theorem dX7_store_0 : decode cX7_store 0 = .ok (.iload_n 1, 1) := by decide +kernel
theorem dX7_store_1 : decode cX7_store 1 = .ok (.iconst 0, 1) := by decide +kernel
theorem dX7_store_2 : decode cX7_store 2 = .ok (.iconst 2, 1) := by decide +kernel
theorem dX7_store_3 : decode cX7_store 3 = .ok (.invokestatic 80, 3) := by decide +kernel
theorem dX7_store_6 : decode cX7_store 6 = .ok (.ifCond .eq 13, 3) := by decide +kernel
theorem dX7_store_9 : decode cX7_store 9 = .ok (.iload_n 2, 1) := by decide +kernel
theorem dX7_store_10 : decode cX7_store 10 = .ok (.iconst 0, 1) := by decide +kernel
theorem dX7_store_11 : decode cX7_store 11 = .ok (.bipush 99, 2) := by decide +kernel
theorem dX7_store_13 : decode cX7_store 13 = .ok (.invokestatic 80, 3) := by decide +kernel
theorem dX7_store_16 : decode cX7_store 16 = .ok (.ifCond .ne 5, 3) := by decide +kernel
theorem dX7_store_19 : decode cX7_store 19 = .ok (.iconst (-1), 1) := by decide +kernel
theorem dX7_store_20 : decode cX7_store 20 = .ok (.ireturn, 1) := by decide +kernel
theorem dX7_store_21 : decode cX7_store 21 = .ok (.aload_n 0, 1) := by decide +kernel
theorem dX7_store_22 : decode cX7_store 22 = .ok (.getfield 139, 3) := by decide +kernel
theorem dX7_store_25 : decode cX7_store 25 = .ok (.ifCond .ne 6, 3) := by decide +kernel
theorem dX7_store_28 : decode cX7_store 28 = .ok (.bipush (-4), 2) := by decide +kernel
theorem dX7_store_30 : decode cX7_store 30 = .ok (.ireturn, 1) := by decide +kernel
theorem dX7_store_31 : decode cX7_store 31 = .ok (.aload_n 0, 1) := by decide +kernel
theorem dX7_store_32 : decode cX7_store 32 = .ok (.iconst 0, 1) := by decide +kernel
theorem dX7_store_33 : decode cX7_store 33 = .ok (.iconst 0, 1) := by decide +kernel
theorem dX7_store_34 : decode cX7_store 34 = .ok (.iload_n 1, 1) := by decide +kernel
theorem dX7_store_35 : decode cX7_store 35 = .ok (.iadd, 1) := by decide +kernel
theorem dX7_store_36 : decode cX7_store 36 = .ok (.invokevirtual 149, 3) := by decide +kernel
theorem dX7_store_39 : decode cX7_store 39 = .ok (.istore_n 3, 1) := by decide +kernel
theorem dX7_store_40 : decode cX7_store 40 = .ok (.aload_n 0, 1) := by decide +kernel
theorem dX7_store_41 : decode cX7_store 41 = .ok (.iconst 0, 1) := by decide +kernel
theorem dX7_store_42 : decode cX7_store 42 = .ok (.iconst 0, 1) := by decide +kernel
theorem dX7_store_43 : decode cX7_store 43 = .ok (.iload_n 1, 1) := by decide +kernel
theorem dX7_store_44 : decode cX7_store 44 = .ok (.iadd, 1) := by decide +kernel
theorem dX7_store_45 : decode cX7_store 45 = .ok (.iload_n 2, 1) := by decide +kernel
theorem dX7_store_46 : decode cX7_store 46 = .ok (.invokevirtual 142, 3) := by decide +kernel
theorem dX7_store_49 : decode cX7_store 49 = .ok (.iload_n 3, 1) := by decide +kernel
theorem dX7_store_50 : decode cX7_store 50 = .ok (.ireturn, 1) := by decide +kernel
theorem dX7_stores_0 : decode cX7_stores 0 = .ok (.iload_n 1, 1) := by decide +kernel
theorem dX7_stores_1 : decode cX7_stores 1 = .ok (.iconst 0, 1) := by decide +kernel
theorem dX7_stores_2 : decode cX7_stores 2 = .ok (.iconst 2, 1) := by decide +kernel
theorem dX7_stores_3 : decode cX7_stores 3 = .ok (.invokestatic 80, 3) := by decide +kernel
theorem dX7_stores_6 : decode cX7_stores 6 = .ok (.ifCond .eq 14, 3) := by decide +kernel
theorem dX7_stores_9 : decode cX7_stores 9 = .ok (.aload_n 0, 1) := by decide +kernel
theorem dX7_stores_10 : decode cX7_stores 10 = .ok (.iconst 0, 1) := by decide +kernel
theorem dX7_stores_11 : decode cX7_stores 11 = .ok (.iconst 0, 1) := by decide +kernel
theorem dX7_stores_12 : decode cX7_stores 12 = .ok (.iload_n 1, 1) := by decide +kernel
theorem dX7_stores_13 : decode cX7_stores 13 = .ok (.iadd, 1) := by decide +kernel
theorem dX7_stores_14 : decode cX7_stores 14 = .ok (.invokevirtual 149, 3) := by decide +kernel
theorem dX7_stores_17 : decode cX7_stores 17 = .ok (.goto 4, 3) := by decide +kernel
theorem dX7_stores_20 : decode cX7_stores 20 = .ok (.iconst (-1), 1) := by decide +kernel
theorem dX7_stores_21 : decode cX7_stores 21 = .ok (.ireturn, 1) := by decide +kernel
theorem dX7_patience_0 : decode cX7_patience 0 = .ok (.aload_n 0, 1) := by decide +kernel
theorem dX7_patience_1 : decode cX7_patience 1 = .ok (.iload_n 1, 1) := by decide +kernel
theorem dX7_patience_2 : decode cX7_patience 2 = .ok (.invokevirtual 208, 3) := by decide +kernel
theorem dX7_patience_5 : decode cX7_patience 5 = .ok (.ifCond .eq 13, 3) := by decide +kernel
theorem dX7_patience_8 : decode cX7_patience 8 = .ok (.iload_n 2, 1) := by decide +kernel
theorem dX7_patience_9 : decode cX7_patience 9 = .ok (.iconst 1, 1) := by decide +kernel
theorem dX7_patience_10 : decode cX7_patience 10 = .ok (.bipush 6, 2) := by decide +kernel
theorem dX7_patience_12 : decode cX7_patience 12 = .ok (.invokestatic 80, 3) := by decide +kernel
theorem dX7_patience_15 : decode cX7_patience 15 = .ok (.ifCond .ne 5, 3) := by decide +kernel
theorem dX7_patience_18 : decode cX7_patience 18 = .ok (.iconst (-1), 1) := by decide +kernel
theorem dX7_patience_19 : decode cX7_patience 19 = .ok (.ireturn, 1) := by decide +kernel
theorem dX7_patience_20 : decode cX7_patience 20 = .ok (.aload_n 0, 1) := by decide +kernel
theorem dX7_patience_21 : decode cX7_patience 21 = .ok (.iload_n 1, 1) := by decide +kernel
theorem dX7_patience_22 : decode cX7_patience 22 = .ok (.invokevirtual 192, 3) := by decide +kernel
theorem dX7_patience_25 : decode cX7_patience 25 = .ok (.istore_n 3, 1) := by decide +kernel
theorem dX7_patience_26 : decode cX7_patience 26 = .ok (.aload_n 0, 1) := by decide +kernel
theorem dX7_patience_27 : decode cX7_patience 27 = .ok (.getfield 29, 3) := by decide +kernel
theorem dX7_patience_30 : decode cX7_patience 30 = .ok (.bipush 6, 2) := by decide +kernel
theorem dX7_patience_32 : decode cX7_patience 32 = .ok (.iload_n 1, 1) := by decide +kernel
theorem dX7_patience_33 : decode cX7_patience 33 = .ok (.imul, 1) := by decide +kernel
theorem dX7_patience_34 : decode cX7_patience 34 = .ok (.iconst 2, 1) := by decide +kernel
theorem dX7_patience_35 : decode cX7_patience 35 = .ok (.iadd, 1) := by decide +kernel
theorem dX7_patience_36 : decode cX7_patience 36 = .ok (.iload_n 2, 1) := by decide +kernel
theorem dX7_patience_37 : decode cX7_patience 37 = .ok (.iastore, 1) := by decide +kernel
theorem dX7_patience_38 : decode cX7_patience 38 = .ok (.iload_n 3, 1) := by decide +kernel
theorem dX7_patience_39 : decode cX7_patience 39 = .ok (.ireturn, 1) := by decide +kernel
theorem dX7_isFull_0 : decode cX7_isFull 0 = .ok (.aload_n 0, 1) := by decide +kernel
theorem dX7_isFull_1 : decode cX7_isFull 1 = .ok (.iconst 0, 1) := by decide +kernel
theorem dX7_isFull_2 : decode cX7_isFull 2 = .ok (.bipush 14, 2) := by decide +kernel
theorem dX7_isFull_4 : decode cX7_isFull 4 = .ok (.invokevirtual 149, 3) := by decide +kernel
theorem dX7_isFull_7 : decode cX7_isFull 7 = .ok (.iload_n 1, 1) := by decide +kernel
theorem dX7_isFull_8 : decode cX7_isFull 8 = .ok (.iadd, 1) := by decide +kernel
theorem dX7_isFull_9 : decode cX7_isFull 9 = .ok (.sipush 200, 3) := by decide +kernel
theorem dX7_isFull_12 : decode cX7_isFull 12 = .ok (.if_icmp .le 7, 3) := by decide +kernel
theorem dX7_isFull_15 : decode cX7_isFull 15 = .ok (.iconst 1, 1) := by decide +kernel
theorem dX7_isFull_16 : decode cX7_isFull 16 = .ok (.goto 4, 3) := by decide +kernel
theorem dX7_isFull_19 : decode cX7_isFull 19 = .ok (.iconst 0, 1) := by decide +kernel
theorem dX7_isFull_20 : decode cX7_isFull 20 = .ok (.ireturn, 1) := by decide +kernel
theorem dX7_goesBy_0 : decode cX7_goesBy 0 = .ok (.bipush 20, 2) := by decide +kernel
theorem dX7_goesBy_2 : decode cX7_goesBy 2 = .ok (.aload_n 0, 1) := by decide +kernel
theorem dX7_goesBy_3 : decode cX7_goesBy 3 = .ok (.iconst 0, 1) := by decide +kernel
theorem dX7_goesBy_4 : decode cX7_goesBy 4 = .ok (.bipush 14, 2) := by decide +kernel
theorem dX7_goesBy_6 : decode cX7_goesBy 6 = .ok (.invokevirtual 149, 3) := by decide +kernel
theorem dX7_goesBy_9 : decode cX7_goesBy 9 = .ok (.imul, 1) := by decide +kernel
theorem dX7_goesBy_10 : decode cX7_goesBy 10 = .ok (.istore_n 2, 1) := by decide +kernel
theorem dX7_goesBy_11 : decode cX7_goesBy 11 = .ok (.iconst 0, 1) := by decide +kernel
theorem dX7_goesBy_12 : decode cX7_goesBy 12 = .ok (.istore_n 3, 1) := by decide +kernel
theorem dX7_goesBy_13 : decode cX7_goesBy 13 = .ok (.iload_n 3, 1) := by decide +kernel
theorem dX7_goesBy_14 : decode cX7_goesBy 14 = .ok (.bipush 15, 2) := by decide +kernel
theorem dX7_goesBy_16 : decode cX7_goesBy 16 = .ok (.if_icmp .ge 23, 3) := by decide +kernel
theorem dX7_goesBy_19 : decode cX7_goesBy 19 = .ok (.aload_n 0, 1) := by decide +kernel
theorem dX7_goesBy_20 : decode cX7_goesBy 20 = .ok (.getfield 44, 3) := by decide +kernel
theorem dX7_goesBy_23 : decode cX7_goesBy 23 = .ok (.iload_n 2, 1) := by decide +kernel
theorem dX7_goesBy_24 : decode cX7_goesBy 24 = .ok (.iload_n 3, 1) := by decide +kernel
theorem dX7_goesBy_25 : decode cX7_goesBy 25 = .ok (.iadd, 1) := by decide +kernel
theorem dX7_goesBy_26 : decode cX7_goesBy 26 = .ok (.aload_n 0, 1) := by decide +kernel
theorem dX7_goesBy_27 : decode cX7_goesBy 27 = .ok (.iconst 0, 1) := by decide +kernel
theorem dX7_goesBy_28 : decode cX7_goesBy 28 = .ok (.iload_n 3, 1) := by decide +kernel
theorem dX7_goesBy_29 : decode cX7_goesBy 29 = .ok (.invokevirtual 149, 3) := by decide +kernel
theorem dX7_goesBy_32 : decode cX7_goesBy 32 = .ok (.iastore, 1) := by decide +kernel
theorem dX7_goesBy_33 : decode cX7_goesBy 33 = .ok (.iinc 3 1, 3) := by decide +kernel
theorem dX7_goesBy_36 : decode cX7_goesBy 36 = .ok (.goto (-23), 3) := by decide +kernel
theorem dX7_goesBy_39 : decode cX7_goesBy 39 = .ok (.aload_n 0, 1) := by decide +kernel
theorem dX7_goesBy_40 : decode cX7_goesBy 40 = .ok (.iconst 0, 1) := by decide +kernel
theorem dX7_goesBy_41 : decode cX7_goesBy 41 = .ok (.iload_n 1, 1) := by decide +kernel
theorem dX7_goesBy_42 : decode cX7_goesBy 42 = .ok (.invokevirtual 214, 3) := by decide +kernel
theorem dX7_goesBy_45 : decode cX7_goesBy 45 = .ok (.pop, 1) := by decide +kernel
theorem dX7_goesBy_46 : decode cX7_goesBy 46 = .ok (.aload_n 0, 1) := by decide +kernel
theorem dX7_goesBy_47 : decode cX7_goesBy 47 = .ok (.getfield 44, 3) := by decide +kernel
theorem dX7_goesBy_50 : decode cX7_goesBy 50 = .ok (.iload_n 2, 1) := by decide +kernel
theorem dX7_goesBy_51 : decode cX7_goesBy 51 = .ok (.bipush 15, 2) := by decide +kernel
theorem dX7_goesBy_53 : decode cX7_goesBy 53 = .ok (.iadd, 1) := by decide +kernel
theorem dX7_goesBy_54 : decode cX7_goesBy 54 = .ok (.iload_n 1, 1) := by decide +kernel
theorem dX7_goesBy_55 : decode cX7_goesBy 55 = .ok (.iastore, 1) := by decide +kernel
theorem dX7_goesBy_56 : decode cX7_goesBy 56 = .ok (.iconst 0, 1) := by decide +kernel
theorem dX7_goesBy_57 : decode cX7_goesBy 57 = .ok (.istore_n 3, 1) := by decide +kernel
theorem dX7_goesBy_58 : decode cX7_goesBy 58 = .ok (.iload_n 3, 1) := by decide +kernel
theorem dX7_goesBy_59 : decode cX7_goesBy 59 = .ok (.iconst 4, 1) := by decide +kernel
theorem dX7_goesBy_60 : decode cX7_goesBy 60 = .ok (.if_icmp .ge 38, 3) := by decide +kernel
theorem dX7_goesBy_63 : decode cX7_goesBy 63 = .ok (.aload_n 0, 1) := by decide +kernel
theorem dX7_goesBy_64 : decode cX7_goesBy 64 = .ok (.getfield 44, 3) := by decide +kernel
theorem dX7_goesBy_67 : decode cX7_goesBy 67 = .ok (.iload_n 2, 1) := by decide +kernel
theorem dX7_goesBy_68 : decode cX7_goesBy 68 = .ok (.bipush 16, 2) := by decide +kernel
theorem dX7_goesBy_70 : decode cX7_goesBy 70 = .ok (.iadd, 1) := by decide +kernel
theorem dX7_goesBy_71 : decode cX7_goesBy 71 = .ok (.iload_n 3, 1) := by decide +kernel
theorem dX7_goesBy_72 : decode cX7_goesBy 72 = .ok (.iadd, 1) := by decide +kernel
theorem dX7_goesBy_73 : decode cX7_goesBy 73 = .ok (.iload_n 3, 1) := by decide +kernel
theorem dX7_goesBy_74 : decode cX7_goesBy 74 = .ok (.aload_n 0, 1) := by decide +kernel
theorem dX7_goesBy_75 : decode cX7_goesBy 75 = .ok (.getfield 139, 3) := by decide +kernel
theorem dX7_goesBy_78 : decode cX7_goesBy 78 = .ok (.if_icmp .ge 12, 3) := by decide +kernel
theorem dX7_goesBy_81 : decode cX7_goesBy 81 = .ok (.aload_n 0, 1) := by decide +kernel
theorem dX7_goesBy_82 : decode cX7_goesBy 82 = .ok (.getfield 41, 3) := by decide +kernel
theorem dX7_goesBy_85 : decode cX7_goesBy 85 = .ok (.iload_n 3, 1) := by decide +kernel
theorem dX7_goesBy_86 : decode cX7_goesBy 86 = .ok (.iaload, 1) := by decide +kernel
theorem dX7_goesBy_87 : decode cX7_goesBy 87 = .ok (.goto 4, 3) := by decide +kernel
theorem dX7_goesBy_90 : decode cX7_goesBy 90 = .ok (.iconst 0, 1) := by decide +kernel
theorem dX7_goesBy_91 : decode cX7_goesBy 91 = .ok (.iastore, 1) := by decide +kernel
theorem dX7_goesBy_92 : decode cX7_goesBy 92 = .ok (.iinc 3 1, 3) := by decide +kernel
theorem dX7_goesBy_95 : decode cX7_goesBy 95 = .ok (.goto (-37), 3) := by decide +kernel
theorem dX7_goesBy_98 : decode cX7_goesBy 98 = .ok (.return_, 1) := by decide +kernel
theorem dX7_offer_0 : decode cX7_offer 0 = .ok (.aload_n 0, 1) := by decide +kernel
theorem dX7_offer_1 : decode cX7_offer 1 = .ok (.iload_n 1, 1) := by decide +kernel
theorem dX7_offer_2 : decode cX7_offer 2 = .ok (.invokevirtual 217, 3) := by decide +kernel
theorem dX7_offer_5 : decode cX7_offer 5 = .ok (.ifCond .ne 5, 3) := by decide +kernel
theorem dX7_offer_8 : decode cX7_offer 8 = .ok (.iconst (-1), 1) := by decide +kernel
theorem dX7_offer_9 : decode cX7_offer 9 = .ok (.ireturn, 1) := by decide +kernel
theorem dX7_offer_10 : decode cX7_offer 10 = .ok (.aload_n 0, 1) := by decide +kernel
theorem dX7_offer_11 : decode cX7_offer 11 = .ok (.getfield 139, 3) := by decide +kernel
theorem dX7_offer_14 : decode cX7_offer 14 = .ok (.ifCond .eq 14, 3) := by decide +kernel
theorem dX7_offer_17 : decode cX7_offer 17 = .ok (.aload_n 0, 1) := by decide +kernel
theorem dX7_offer_18 : decode cX7_offer 18 = .ok (.iconst 0, 1) := by decide +kernel
theorem dX7_offer_19 : decode cX7_offer 19 = .ok (.iload_n 1, 1) := by decide +kernel
theorem dX7_offer_20 : decode cX7_offer 20 = .ok (.invokevirtual 195, 3) := by decide +kernel
theorem dX7_offer_23 : decode cX7_offer 23 = .ok (.bipush (-9), 2) := by decide +kernel
theorem dX7_offer_25 : decode cX7_offer 25 = .ok (.if_icmp .ne 6, 3) := by decide +kernel
theorem dX7_offer_28 : decode cX7_offer 28 = .ok (.bipush (-4), 2) := by decide +kernel
theorem dX7_offer_30 : decode cX7_offer 30 = .ok (.ireturn, 1) := by decide +kernel
theorem dX7_offer_31 : decode cX7_offer 31 = .ok (.aload_n 0, 1) := by decide +kernel
theorem dX7_offer_32 : decode cX7_offer 32 = .ok (.iconst 1, 1) := by decide +kernel
theorem dX7_offer_33 : decode cX7_offer 33 = .ok (.invokevirtual 220, 3) := by decide +kernel
theorem dX7_offer_36 : decode cX7_offer 36 = .ok (.ifCond .eq 6, 3) := by decide +kernel
theorem dX7_offer_39 : decode cX7_offer 39 = .ok (.bipush (-2), 2) := by decide +kernel
theorem dX7_offer_41 : decode cX7_offer 41 = .ok (.ireturn, 1) := by decide +kernel
theorem dX7_offer_42 : decode cX7_offer 42 = .ok (.aload_n 0, 1) := by decide +kernel
theorem dX7_offer_43 : decode cX7_offer 43 = .ok (.iload_n 1, 1) := by decide +kernel
theorem dX7_offer_44 : decode cX7_offer 44 = .ok (.invokevirtual 223, 3) := by decide +kernel
theorem dX7_offer_47 : decode cX7_offer 47 = .ok (.aload_n 0, 1) := by decide +kernel
theorem dX7_offer_48 : decode cX7_offer 48 = .ok (.aload_n 0, 1) := by decide +kernel
theorem dX7_offer_49 : decode cX7_offer 49 = .ok (.getfield 186, 3) := by decide +kernel
theorem dX7_offer_52 : decode cX7_offer 52 = .ok (.iconst 1, 1) := by decide +kernel
theorem dX7_offer_53 : decode cX7_offer 53 = .ok (.invokevirtual 102, 3) := by decide +kernel
theorem dX7_offer_56 : decode cX7_offer 56 = .ok (.ireturn, 1) := by decide +kernel
theorem dX7_may_0 : decode cX7_may 0 = .ok (.aload_n 0, 1) := by decide +kernel
theorem dX7_may_1 : decode cX7_may 1 = .ok (.iload_n 1, 1) := by decide +kernel
theorem dX7_may_2 : decode cX7_may 2 = .ok (.invokevirtual 217, 3) := by decide +kernel
theorem dX7_may_5 : decode cX7_may 5 = .ok (.ifCond .ne 5, 3) := by decide +kernel
theorem dX7_may_8 : decode cX7_may 8 = .ok (.iconst (-1), 1) := by decide +kernel
theorem dX7_may_9 : decode cX7_may 9 = .ok (.ireturn, 1) := by decide +kernel
theorem dX7_may_10 : decode cX7_may 10 = .ok (.aload_n 0, 1) := by decide +kernel
theorem dX7_may_11 : decode cX7_may 11 = .ok (.getfield 139, 3) := by decide +kernel
theorem dX7_may_14 : decode cX7_may 14 = .ok (.ifCond .ne 8, 3) := by decide +kernel
theorem dX7_may_17 : decode cX7_may 17 = .ok (.bipush (-4), 2) := by decide +kernel
theorem dX7_may_19 : decode cX7_may 19 = .ok (.goto 9, 3) := by decide +kernel
theorem dX7_may_22 : decode cX7_may 22 = .ok (.aload_n 0, 1) := by decide +kernel
theorem dX7_may_23 : decode cX7_may 23 = .ok (.iconst 0, 1) := by decide +kernel
theorem dX7_may_24 : decode cX7_may 24 = .ok (.iload_n 1, 1) := by decide +kernel
theorem dX7_may_25 : decode cX7_may 25 = .ok (.invokevirtual 195, 3) := by decide +kernel
theorem dX7_may_28 : decode cX7_may 28 = .ok (.ireturn, 1) := by decide +kernel
theorem dX7_rest_0 : decode cX7_rest 0 = .ok (.iload_n 1, 1) := by decide +kernel
theorem dX7_rest_1 : decode cX7_rest 1 = .ok (.iconst 0, 1) := by decide +kernel
theorem dX7_rest_2 : decode cX7_rest 2 = .ok (.bipush 30, 2) := by decide +kernel
theorem dX7_rest_4 : decode cX7_rest 4 = .ok (.invokestatic 80, 3) := by decide +kernel
theorem dX7_rest_7 : decode cX7_rest 7 = .ok (.ifCond .ne 5, 3) := by decide +kernel
theorem dX7_rest_10 : decode cX7_rest 10 = .ok (.iconst (-1), 1) := by decide +kernel
theorem dX7_rest_11 : decode cX7_rest 11 = .ok (.ireturn, 1) := by decide +kernel
theorem dX7_rest_12 : decode cX7_rest 12 = .ok (.aload_n 0, 1) := by decide +kernel
theorem dX7_rest_13 : decode cX7_rest 13 = .ok (.getfield 139, 3) := by decide +kernel
theorem dX7_rest_16 : decode cX7_rest 16 = .ok (.ifCond .ne 6, 3) := by decide +kernel
theorem dX7_rest_19 : decode cX7_rest 19 = .ok (.bipush (-4), 2) := by decide +kernel
theorem dX7_rest_21 : decode cX7_rest 21 = .ok (.ireturn, 1) := by decide +kernel
theorem dX7_rest_22 : decode cX7_rest 22 = .ok (.aload_n 0, 1) := by decide +kernel
theorem dX7_rest_23 : decode cX7_rest 23 = .ok (.iload_n 1, 1) := by decide +kernel
theorem dX7_rest_24 : decode cX7_rest 24 = .ok (.invokevirtual 220, 3) := by decide +kernel
theorem dX7_rest_27 : decode cX7_rest 27 = .ok (.ifCond .eq 6, 3) := by decide +kernel
theorem dX7_rest_30 : decode cX7_rest 30 = .ok (.bipush (-2), 2) := by decide +kernel
theorem dX7_rest_32 : decode cX7_rest 32 = .ok (.ireturn, 1) := by decide +kernel
theorem dX7_rest_33 : decode cX7_rest 33 = .ok (.iconst 0, 1) := by decide +kernel
theorem dX7_rest_34 : decode cX7_rest 34 = .ok (.istore_n 2, 1) := by decide +kernel
theorem dX7_rest_35 : decode cX7_rest 35 = .ok (.iconst 0, 1) := by decide +kernel
theorem dX7_rest_36 : decode cX7_rest 36 = .ok (.istore_n 3, 1) := by decide +kernel
theorem dX7_rest_37 : decode cX7_rest 37 = .ok (.iload_n 3, 1) := by decide +kernel
theorem dX7_rest_38 : decode cX7_rest 38 = .ok (.iload_n 1, 1) := by decide +kernel
theorem dX7_rest_39 : decode cX7_rest 39 = .ok (.if_icmp .ge 22, 3) := by decide +kernel
theorem dX7_rest_42 : decode cX7_rest 42 = .ok (.aload_n 0, 1) := by decide +kernel
theorem dX7_rest_43 : decode cX7_rest 43 = .ok (.bipush 12, 2) := by decide +kernel
theorem dX7_rest_45 : decode cX7_rest 45 = .ok (.invokevirtual 223, 3) := by decide +kernel
theorem dX7_rest_48 : decode cX7_rest 48 = .ok (.iload_n 2, 1) := by decide +kernel
theorem dX7_rest_49 : decode cX7_rest 49 = .ok (.aload_n 0, 1) := by decide +kernel
theorem dX7_rest_50 : decode cX7_rest 50 = .ok (.getfield 186, 3) := by decide +kernel
theorem dX7_rest_53 : decode cX7_rest 53 = .ok (.iadd, 1) := by decide +kernel
theorem dX7_rest_54 : decode cX7_rest 54 = .ok (.istore_n 2, 1) := by decide +kernel
theorem dX7_rest_55 : decode cX7_rest 55 = .ok (.iinc 3 1, 3) := by decide +kernel
theorem dX7_rest_58 : decode cX7_rest 58 = .ok (.goto (-21), 3) := by decide +kernel
theorem dX7_rest_61 : decode cX7_rest 61 = .ok (.aload_n 0, 1) := by decide +kernel
theorem dX7_rest_62 : decode cX7_rest 62 = .ok (.iload_n 2, 1) := by decide +kernel
theorem dX7_rest_63 : decode cX7_rest 63 = .ok (.iconst 1, 1) := by decide +kernel
theorem dX7_rest_64 : decode cX7_rest 64 = .ok (.invokevirtual 102, 3) := by decide +kernel
theorem dX7_rest_67 : decode cX7_rest 67 = .ok (.ireturn, 1) := by decide +kernel
theorem dX7_sent_0 : decode cX7_sent 0 = .ok (.iload_n 1, 1) := by decide +kernel
theorem dX7_sent_1 : decode cX7_sent 1 = .ok (.ifCond .lt 11, 3) := by decide +kernel
theorem dX7_sent_4 : decode cX7_sent 4 = .ok (.aload_n 0, 1) := by decide +kernel
theorem dX7_sent_5 : decode cX7_sent 5 = .ok (.iload_n 2, 1) := by decide +kernel
theorem dX7_sent_6 : decode cX7_sent 6 = .ok (.invokevirtual 208, 3) := by decide +kernel
theorem dX7_sent_9 : decode cX7_sent 9 = .ok (.ifCond .ne 5, 3) := by decide +kernel
theorem dX7_sent_12 : decode cX7_sent 12 = .ok (.iconst (-1), 1) := by decide +kernel
theorem dX7_sent_13 : decode cX7_sent 13 = .ok (.ireturn, 1) := by decide +kernel
theorem dX7_sent_14 : decode cX7_sent 14 = .ok (.iload_n 1, 1) := by decide +kernel
theorem dX7_sent_15 : decode cX7_sent 15 = .ok (.aload_n 0, 1) := by decide +kernel
theorem dX7_sent_16 : decode cX7_sent 16 = .ok (.iconst 0, 1) := by decide +kernel
theorem dX7_sent_17 : decode cX7_sent 17 = .ok (.bipush 14, 2) := by decide +kernel
theorem dX7_sent_19 : decode cX7_sent 19 = .ok (.invokevirtual 149, 3) := by decide +kernel
theorem dX7_sent_22 : decode cX7_sent 22 = .ok (.if_icmp .ge 25, 3) := by decide +kernel
theorem dX7_sent_25 : decode cX7_sent 25 = .ok (.aload_n 0, 1) := by decide +kernel
theorem dX7_sent_26 : decode cX7_sent 26 = .ok (.aload_n 0, 1) := by decide +kernel
theorem dX7_sent_27 : decode cX7_sent 27 = .ok (.getfield 44, 3) := by decide +kernel
theorem dX7_sent_30 : decode cX7_sent 30 = .ok (.bipush 20, 2) := by decide +kernel
theorem dX7_sent_32 : decode cX7_sent 32 = .ok (.iload_n 1, 1) := by decide +kernel
theorem dX7_sent_33 : decode cX7_sent 33 = .ok (.imul, 1) := by decide +kernel
theorem dX7_sent_34 : decode cX7_sent 34 = .ok (.bipush 16, 2) := by decide +kernel
theorem dX7_sent_36 : decode cX7_sent 36 = .ok (.iadd, 1) := by decide +kernel
theorem dX7_sent_37 : decode cX7_sent 37 = .ok (.iload_n 2, 1) := by decide +kernel
theorem dX7_sent_38 : decode cX7_sent 38 = .ok (.iadd, 1) := by decide +kernel
theorem dX7_sent_39 : decode cX7_sent 39 = .ok (.iaload, 1) := by decide +kernel
theorem dX7_sent_40 : decode cX7_sent 40 = .ok (.iconst 1, 1) := by decide +kernel
theorem dX7_sent_41 : decode cX7_sent 41 = .ok (.invokevirtual 102, 3) := by decide +kernel
theorem dX7_sent_44 : decode cX7_sent 44 = .ok (.goto 8, 3) := by decide +kernel
theorem dX7_sent_47 : decode cX7_sent 47 = .ok (.aload_n 0, 1) := by decide +kernel
theorem dX7_sent_48 : decode cX7_sent 48 = .ok (.iconst 2, 1) := by decide +kernel
theorem dX7_sent_49 : decode cX7_sent 49 = .ok (.invokevirtual 94, 3) := by decide +kernel
theorem dX7_sent_52 : decode cX7_sent 52 = .ok (.ireturn, 1) := by decide +kernel
theorem dX7_offered_0 : decode cX7_offered 0 = .ok (.iload_n 1, 1) := by decide +kernel
theorem dX7_offered_1 : decode cX7_offered 1 = .ok (.ifCond .ge 5, 3) := by decide +kernel
theorem dX7_offered_4 : decode cX7_offered 4 = .ok (.iconst (-1), 1) := by decide +kernel
theorem dX7_offered_5 : decode cX7_offered 5 = .ok (.ireturn, 1) := by decide +kernel
theorem dX7_offered_6 : decode cX7_offered 6 = .ok (.iload_n 1, 1) := by decide +kernel
theorem dX7_offered_7 : decode cX7_offered 7 = .ok (.aload_n 0, 1) := by decide +kernel
theorem dX7_offered_8 : decode cX7_offered 8 = .ok (.iconst 0, 1) := by decide +kernel
theorem dX7_offered_9 : decode cX7_offered 9 = .ok (.bipush 14, 2) := by decide +kernel
theorem dX7_offered_11 : decode cX7_offered 11 = .ok (.invokevirtual 149, 3) := by decide +kernel
theorem dX7_offered_14 : decode cX7_offered 14 = .ok (.if_icmp .ge 18, 3) := by decide +kernel
