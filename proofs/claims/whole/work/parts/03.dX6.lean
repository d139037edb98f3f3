theorem dX6_init_0 : decode cX6_init 0 = .ok (.aload_n 0, 1) := by decide +kernel
theorem dX6_init_1 : decode cX6_init 1 = .ok (.invokespecial 1, 3) := by decide +kernel
theorem dX6_init_4 : decode cX6_init 4 = .ok (.aload_n 0, 1) := by decide +kernel
theorem dX6_init_5 : decode cX6_init 5 = .ok (.new 7, 3) := by decide +kernel
theorem dX6_init_8 : decode cX6_init 8 = .ok (.dup, 1) := by decide +kernel
theorem dX6_init_9 : decode cX6_init 9 = .ok (.bipush 6, 2) := by decide +kernel
theorem dX6_init_11 : decode cX6_init 11 = .ok (.bipush 60, 2) := by decide +kernel
theorem dX6_init_13 : decode cX6_init 13 = .ok (.multianewarray 11 2, 4) := by decide +kernel
theorem dX6_init_17 : decode cX6_init 17 = .ok (.invokespecial 13, 3) := by decide +kernel
theorem dX6_init_20 : decode cX6_init 20 = .ok (.putfield 16, 3) := by decide +kernel
theorem dX6_init_23 : decode cX6_init 23 = .ok (.aload_n 0, 1) := by decide +kernel
theorem dX6_init_24 : decode cX6_init 24 = .ok (.new 7, 3) := by decide +kernel
theorem dX6_init_27 : decode cX6_init 27 = .ok (.dup, 1) := by decide +kernel
theorem dX6_init_28 : decode cX6_init 28 = .ok (.iconst 4, 1) := by decide +kernel
theorem dX6_init_29 : decode cX6_init 29 = .ok (.bipush 60, 2) := by decide +kernel
theorem dX6_init_31 : decode cX6_init 31 = .ok (.multianewarray 11 2, 4) := by decide +kernel
theorem dX6_init_35 : decode cX6_init 35 = .ok (.invokespecial 13, 3) := by decide +kernel
theorem dX6_init_38 : decode cX6_init 38 = .ok (.putfield 20, 3) := by decide +kernel
theorem dX6_init_41 : decode cX6_init 41 = .ok (.aload_n 0, 1) := by decide +kernel
theorem dX6_init_42 : decode cX6_init 42 = .ok (.new 23, 3) := by decide +kernel
theorem dX6_init_45 : decode cX6_init 45 = .ok (.dup, 1) := by decide +kernel
theorem dX6_init_46 : decode cX6_init 46 = .ok (.invokespecial 25, 3) := by decide +kernel
theorem dX6_init_49 : decode cX6_init 49 = .ok (.putfield 26, 3) := by decide +kernel
theorem dX6_init_52 : decode cX6_init 52 = .ok (.aload_n 0, 1) := by decide +kernel
theorem dX6_init_53 : decode cX6_init 53 = .ok (.new 30, 3) := by decide +kernel
theorem dX6_init_56 : decode cX6_init 56 = .ok (.dup, 1) := by decide +kernel
theorem dX6_init_57 : decode cX6_init 57 = .ok (.invokespecial 32, 3) := by decide +kernel
theorem dX6_init_60 : decode cX6_init 60 = .ok (.putfield 33, 3) := by decide +kernel
theorem dX6_init_63 : decode cX6_init 63 = .ok (.aload_n 0, 1) := by decide +kernel
theorem dX6_init_64 : decode cX6_init 64 = .ok (.iconst 3, 1) := by decide +kernel
theorem dX6_init_65 : decode cX6_init 65 = .ok (.anewarray 30, 3) := by decide +kernel
theorem dX6_init_68 : decode cX6_init 68 = .ok (.dup, 1) := by decide +kernel
theorem dX6_init_69 : decode cX6_init 69 = .ok (.iconst 0, 1) := by decide +kernel
theorem dX6_init_70 : decode cX6_init 70 = .ok (.new 30, 3) := by decide +kernel
theorem dX6_init_73 : decode cX6_init 73 = .ok (.dup, 1) := by decide +kernel
theorem dX6_init_74 : decode cX6_init 74 = .ok (.invokespecial 32, 3) := by decide +kernel
theorem dX6_init_77 : decode cX6_init 77 = .ok (.aastore, 1) := by decide +kernel
theorem dX6_init_78 : decode cX6_init 78 = .ok (.dup, 1) := by decide +kernel
theorem dX6_init_79 : decode cX6_init 79 = .ok (.iconst 1, 1) := by decide +kernel
theorem dX6_init_80 : decode cX6_init 80 = .ok (.new 30, 3) := by decide +kernel
theorem dX6_init_83 : decode cX6_init 83 = .ok (.dup, 1) := by decide +kernel
theorem dX6_init_84 : decode cX6_init 84 = .ok (.invokespecial 32, 3) := by decide +kernel
theorem dX6_init_87 : decode cX6_init 87 = .ok (.aastore, 1) := by decide +kernel
theorem dX6_init_88 : decode cX6_init 88 = .ok (.dup, 1) := by decide +kernel
theorem dX6_init_89 : decode cX6_init 89 = .ok (.iconst 2, 1) := by decide +kernel
theorem dX6_init_90 : decode cX6_init 90 = .ok (.new 30, 3) := by decide +kernel
theorem dX6_init_93 : decode cX6_init 93 = .ok (.dup, 1) := by decide +kernel
theorem dX6_init_94 : decode cX6_init 94 = .ok (.invokespecial 32, 3) := by decide +kernel
theorem dX6_init_97 : decode cX6_init 97 = .ok (.aastore, 1) := by decide +kernel
theorem dX6_init_98 : decode cX6_init 98 = .ok (.putfield 37, 3) := by decide +kernel
theorem dX6_init_101 : decode cX6_init 101 = .ok (.aload_n 0, 1) := by decide +kernel
theorem dX6_init_102 : decode cX6_init 102 = .ok (.new 41, 3) := by decide +kernel
theorem dX6_init_105 : decode cX6_init 105 = .ok (.dup, 1) := by decide +kernel
theorem dX6_init_106 : decode cX6_init 106 = .ok (.invokespecial 43, 3) := by decide +kernel
theorem dX6_init_109 : decode cX6_init 109 = .ok (.putfield 44, 3) := by decide +kernel
theorem dX6_init_112 : decode cX6_init 112 = .ok (.aload_n 0, 1) := by decide +kernel
theorem dX6_init_113 : decode cX6_init 113 = .ok (.new 48, 3) := by decide +kernel
theorem dX6_init_116 : decode cX6_init 116 = .ok (.dup, 1) := by decide +kernel
theorem dX6_init_117 : decode cX6_init 117 = .ok (.invokespecial 50, 3) := by decide +kernel
theorem dX6_init_120 : decode cX6_init 120 = .ok (.putfield 51, 3) := by decide +kernel
theorem dX6_init_123 : decode cX6_init 123 = .ok (.aload_n 0, 1) := by decide +kernel
theorem dX6_init_124 : decode cX6_init 124 = .ok (.new 55, 3) := by decide +kernel
theorem dX6_init_127 : decode cX6_init 127 = .ok (.dup, 1) := by decide +kernel
theorem dX6_init_128 : decode cX6_init 128 = .ok (.invokespecial 57, 3) := by decide +kernel
theorem dX6_init_131 : decode cX6_init 131 = .ok (.putfield 58, 3) := by decide +kernel
theorem dX6_init_134 : decode cX6_init 134 = .ok (.aload_n 0, 1) := by decide +kernel
theorem dX6_init_135 : decode cX6_init 135 = .ok (.bipush 7, 2) := by decide +kernel
theorem dX6_init_137 : decode cX6_init 137 = .ok (.newarray .int, 2) := by decide +kernel
theorem dX6_init_139 : decode cX6_init 139 = .ok (.putfield 62, 3) := by decide +kernel
theorem dX6_init_142 : decode cX6_init 142 = .ok (.aload_n 0, 1) := by decide +kernel
theorem dX6_init_143 : decode cX6_init 143 = .ok (.bipush 6, 2) := by decide +kernel
theorem dX6_init_145 : decode cX6_init 145 = .ok (.newarray .int, 2) := by decide +kernel
theorem dX6_init_147 : decode cX6_init 147 = .ok (.putfield 66, 3) := by decide +kernel
theorem dX6_init_150 : decode cX6_init 150 = .ok (.aload_n 0, 1) := by decide +kernel
theorem dX6_init_151 : decode cX6_init 151 = .ok (.iconst 0, 1) := by decide +kernel
theorem dX6_init_152 : decode cX6_init 152 = .ok (.putfield 69, 3) := by decide +kernel
theorem dX6_init_155 : decode cX6_init 155 = .ok (.aload_n 0, 1) := by decide +kernel
theorem dX6_init_156 : decode cX6_init 156 = .ok (.iconst 0, 1) := by decide +kernel
theorem dX6_init_157 : decode cX6_init 157 = .ok (.putfield 73, 3) := by decide +kernel
theorem dX6_init_160 : decode cX6_init 160 = .ok (.aload_n 0, 1) := by decide +kernel
theorem dX6_init_161 : decode cX6_init 161 = .ok (.lconst 0, 1) := by decide +kernel
theorem dX6_init_162 : decode cX6_init 162 = .ok (.putfield 76, 3) := by decide +kernel
theorem dX6_init_165 : decode cX6_init 165 = .ok (.aload_n 0, 1) := by decide +kernel
theorem dX6_init_166 : decode cX6_init 166 = .ok (.lconst 1, 1) := by decide +kernel
theorem dX6_init_167 : decode cX6_init 167 = .ok (.putfield 80, 3) := by decide +kernel
theorem dX6_init_170 : decode cX6_init 170 = .ok (.return_, 1) := by decide +kernel
theorem dX6_row_0 : decode cX6_row 0 = .ok (.aload_n 0, 1) := by decide +kernel
theorem dX6_row_1 : decode cX6_row 1 = .ok (.getfield 16, 3) := by decide +kernel
theorem dX6_row_4 : decode cX6_row 4 = .ok (.iload_n 1, 1) := by decide +kernel
theorem dX6_row_5 : decode cX6_row 5 = .ok (.invokevirtual 83, 3) := by decide +kernel
theorem dX6_row_8 : decode cX6_row 8 = .ok (.ifCond .eq 9, 3) := by decide +kernel
theorem dX6_row_11 : decode cX6_row 11 = .ok (.iload_n 2, 1) := by decide +kernel
theorem dX6_row_12 : decode cX6_row 12 = .ok (.bipush 60, 2) := by decide +kernel
theorem dX6_row_14 : decode cX6_row 14 = .ok (.if_icmp .le 5, 3) := by decide +kernel
theorem dX6_row_17 : decode cX6_row 17 = .ok (.iconst (-1), 1) := by decide +kernel
theorem dX6_row_18 : decode cX6_row 18 = .ok (.ireturn, 1) := by decide +kernel
theorem dX6_row_19 : decode cX6_row 19 = .ok (.iload_n 2, 1) := by decide +kernel
theorem dX6_row_20 : decode cX6_row 20 = .ok (.ifCond .ge 9, 3) := by decide +kernel
theorem dX6_row_23 : decode cX6_row 23 = .ok (.aload_n 0, 1) := by decide +kernel
theorem dX6_row_24 : decode cX6_row 24 = .ok (.iconst 5, 1) := by decide +kernel
theorem dX6_row_25 : decode cX6_row 25 = .ok (.invokevirtual 87, 3) := by decide +kernel
theorem dX6_row_28 : decode cX6_row 28 = .ok (.ireturn, 1) := by decide +kernel
theorem dX6_row_29 : decode cX6_row 29 = .ok (.aload_n 0, 1) := by decide +kernel
theorem dX6_row_30 : decode cX6_row 30 = .ok (.getfield 16, 3) := by decide +kernel
theorem dX6_row_33 : decode cX6_row 33 = .ok (.iload_n 1, 1) := by decide +kernel
theorem dX6_row_34 : decode cX6_row 34 = .ok (.iload_n 2, 1) := by decide +kernel
theorem dX6_row_35 : decode cX6_row 35 = .ok (.iconst 0, 1) := by decide +kernel
theorem dX6_row_36 : decode cX6_row 36 = .ok (.invokevirtual 91, 3) := by decide +kernel
theorem dX6_row_39 : decode cX6_row 39 = .ok (.iload_n 2, 1) := by decide +kernel
theorem dX6_row_40 : decode cX6_row 40 = .ok (.ireturn, 1) := by decide +kernel
theorem dX6_lay_0 : decode cX6_lay 0 = .ok (.aload_n 0, 1) := by decide +kernel
theorem dX6_lay_1 : decode cX6_lay 1 = .ok (.getfield 16, 3) := by decide +kernel
theorem dX6_lay_4 : decode cX6_lay 4 = .ok (.iload_n 1, 1) := by decide +kernel
theorem dX6_lay_5 : decode cX6_lay 5 = .ok (.invokevirtual 83, 3) := by decide +kernel
theorem dX6_lay_8 : decode cX6_lay 8 = .ok (.ifCond .ne 5, 3) := by decide +kernel
theorem dX6_lay_11 : decode cX6_lay 11 = .ok (.iconst (-1), 1) := by decide +kernel
theorem dX6_lay_12 : decode cX6_lay 12 = .ok (.ireturn, 1) := by decide +kernel
theorem dX6_lay_13 : decode cX6_lay 13 = .ok (.aload_n 0, 1) := by decide +kernel
theorem dX6_lay_14 : decode cX6_lay 14 = .ok (.aload_n 0, 1) := by decide +kernel
theorem dX6_lay_15 : decode cX6_lay 15 = .ok (.getfield 16, 3) := by decide +kernel
theorem dX6_lay_18 : decode cX6_lay 18 = .ok (.iload_n 1, 1) := by decide +kernel
theorem dX6_lay_19 : decode cX6_lay 19 = .ok (.iload_n 2, 1) := by decide +kernel
theorem dX6_lay_20 : decode cX6_lay 20 = .ok (.invokevirtual 95, 3) := by decide +kernel
theorem dX6_lay_23 : decode cX6_lay 23 = .ok (.istore 4, 2) := by decide +kernel
theorem dX6_lay_25 : decode cX6_lay 25 = .ok (.iload 4, 2) := by decide +kernel
theorem dX6_lay_27 : decode cX6_lay 27 = .ok (.ifCond .eq 6, 3) := by decide +kernel
theorem dX6_lay_30 : decode cX6_lay 30 = .ok (.iload 4, 2) := by decide +kernel
theorem dX6_lay_32 : decode cX6_lay 32 = .ok (.ireturn, 1) := by decide +kernel
theorem dX6_lay_33 : decode cX6_lay 33 = .ok (.aload_n 0, 1) := by decide +kernel
theorem dX6_lay_34 : decode cX6_lay 34 = .ok (.aload_n 0, 1) := by decide +kernel
theorem dX6_lay_35 : decode cX6_lay 35 = .ok (.getfield 16, 3) := by decide +kernel
theorem dX6_lay_38 : decode cX6_lay 38 = .ok (.iload_n 1, 1) := by decide +kernel
theorem dX6_lay_39 : decode cX6_lay 39 = .ok (.iload_n 2, 1) := by decide +kernel
theorem dX6_lay_40 : decode cX6_lay 40 = .ok (.invokevirtual 99, 3) := by decide +kernel
theorem dX6_lay_43 : decode cX6_lay 43 = .ok (.invokevirtual 103, 3) := by decide +kernel
theorem dX6_lay_46 : decode cX6_lay 46 = .ok (.aload_n 0, 1) := by decide +kernel
theorem dX6_lay_47 : decode cX6_lay 47 = .ok (.getfield 16, 3) := by decide +kernel
theorem dX6_lay_50 : decode cX6_lay 50 = .ok (.iload_n 1, 1) := by decide +kernel
theorem dX6_lay_51 : decode cX6_lay 51 = .ok (.iload_n 2, 1) := by decide +kernel
theorem dX6_lay_52 : decode cX6_lay 52 = .ok (.iload_n 3, 1) := by decide +kernel
theorem dX6_lay_53 : decode cX6_lay 53 = .ok (.invokevirtual 107, 3) := by decide +kernel
theorem dX6_lay_56 : decode cX6_lay 56 = .ok (.iconst 1, 1) := by decide +kernel
theorem dX6_lay_57 : decode cX6_lay 57 = .ok (.ireturn, 1) := by decide +kernel
theorem dX6_at_0 : decode cX6_at 0 = .ok (.aload_n 0, 1) := by decide +kernel
theorem dX6_at_1 : decode cX6_at 1 = .ok (.getfield 16, 3) := by decide +kernel
theorem dX6_at_4 : decode cX6_at 4 = .ok (.iload_n 1, 1) := by decide +kernel
theorem dX6_at_5 : decode cX6_at 5 = .ok (.invokevirtual 83, 3) := by decide +kernel
theorem dX6_at_8 : decode cX6_at 8 = .ok (.ifCond .ne 5, 3) := by decide +kernel
theorem dX6_at_11 : decode cX6_at 11 = .ok (.iconst (-1), 1) := by decide +kernel
theorem dX6_at_12 : decode cX6_at 12 = .ok (.ireturn, 1) := by decide +kernel
theorem dX6_at_13 : decode cX6_at 13 = .ok (.aload_n 0, 1) := by decide +kernel
theorem dX6_at_14 : decode cX6_at 14 = .ok (.aload_n 0, 1) := by decide +kernel
theorem dX6_at_15 : decode cX6_at 15 = .ok (.getfield 16, 3) := by decide +kernel
theorem dX6_at_18 : decode cX6_at 18 = .ok (.iload_n 1, 1) := by decide +kernel
theorem dX6_at_19 : decode cX6_at 19 = .ok (.iload_n 2, 1) := by decide +kernel
theorem dX6_at_20 : decode cX6_at 20 = .ok (.invokevirtual 95, 3) := by decide +kernel
theorem dX6_at_23 : decode cX6_at 23 = .ok (.istore_n 3, 1) := by decide +kernel
theorem dX6_at_24 : decode cX6_at 24 = .ok (.iload_n 3, 1) := by decide +kernel
theorem dX6_at_25 : decode cX6_at 25 = .ok (.ifCond .eq 5, 3) := by decide +kernel
theorem dX6_at_28 : decode cX6_at 28 = .ok (.iload_n 3, 1) := by decide +kernel
theorem dX6_at_29 : decode cX6_at 29 = .ok (.ireturn, 1) := by decide +kernel
theorem dX6_at_30 : decode cX6_at 30 = .ok (.aload_n 0, 1) := by decide +kernel
theorem dX6_at_31 : decode cX6_at 31 = .ok (.aload_n 0, 1) := by decide +kernel
theorem dX6_at_32 : decode cX6_at 32 = .ok (.getfield 16, 3) := by decide +kernel
theorem dX6_at_35 : decode cX6_at 35 = .ok (.iload_n 1, 1) := by decide +kernel
theorem dX6_at_36 : decode cX6_at 36 = .ok (.iload_n 2, 1) := by decide +kernel
theorem dX6_at_37 : decode cX6_at 37 = .ok (.invokevirtual 99, 3) := by decide +kernel
theorem dX6_at_40 : decode cX6_at 40 = .ok (.invokevirtual 103, 3) := by decide +kernel
theorem dX6_at_43 : decode cX6_at 43 = .ok (.iconst 1, 1) := by decide +kernel
theorem dX6_at_44 : decode cX6_at 44 = .ok (.ireturn, 1) := by decide +kernel
theorem dX6_tear_0 : decode cX6_tear 0 = .ok (.aload_n 0, 1) := by decide +kernel
theorem dX6_tear_1 : decode cX6_tear 1 = .ok (.getfield 16, 3) := by decide +kernel
theorem dX6_tear_4 : decode cX6_tear 4 = .ok (.iload_n 1, 1) := by decide +kernel
theorem dX6_tear_5 : decode cX6_tear 5 = .ok (.invokevirtual 83, 3) := by decide +kernel
theorem dX6_tear_8 : decode cX6_tear 8 = .ok (.ifCond .ne 5, 3) := by decide +kernel
theorem dX6_tear_11 : decode cX6_tear 11 = .ok (.iconst (-1), 1) := by decide +kernel
theorem dX6_tear_12 : decode cX6_tear 12 = .ok (.ireturn, 1) := by decide +kernel
theorem dX6_tear_13 : decode cX6_tear 13 = .ok (.aload_n 0, 1) := by decide +kernel
theorem dX6_tear_14 : decode cX6_tear 14 = .ok (.getfield 16, 3) := by decide +kernel
theorem dX6_tear_17 : decode cX6_tear 17 = .ok (.iload_n 1, 1) := by decide +kernel
theorem dX6_tear_18 : decode cX6_tear 18 = .ok (.invokevirtual 110, 3) := by decide +kernel
theorem dX6_tear_21 : decode cX6_tear 21 = .ok (.ifCond .ne 9, 3) := by decide +kernel
theorem dX6_tear_24 : decode cX6_tear 24 = .ok (.aload_n 0, 1) := by decide +kernel
theorem dX6_tear_25 : decode cX6_tear 25 = .ok (.iconst 1, 1) := by decide +kernel
theorem dX6_tear_26 : decode cX6_tear 26 = .ok (.invokevirtual 87, 3) := by decide +kernel
theorem dX6_tear_29 : decode cX6_tear 29 = .ok (.ireturn, 1) := by decide +kernel
theorem dX6_tear_30 : decode cX6_tear 30 = .ok (.aload_n 0, 1) := by decide +kernel
theorem dX6_tear_31 : decode cX6_tear 31 = .ok (.getfield 16, 3) := by decide +kernel
theorem dX6_tear_34 : decode cX6_tear 34 = .ok (.iload_n 1, 1) := by decide +kernel
theorem dX6_tear_35 : decode cX6_tear 35 = .ok (.invokevirtual 113, 3) := by decide +kernel
theorem dX6_tear_38 : decode cX6_tear 38 = .ok (.iconst 1, 1) := by decide +kernel
theorem dX6_tear_39 : decode cX6_tear 39 = .ok (.ireturn, 1) := by decide +kernel
theorem dX6_copy_0 : decode cX6_copy 0 = .ok (.aload_n 0, 1) := by decide +kernel
theorem dX6_copy_1 : decode cX6_copy 1 = .ok (.getfield 16, 3) := by decide +kernel
theorem dX6_copy_4 : decode cX6_copy 4 = .ok (.iload_n 1, 1) := by decide +kernel
theorem dX6_copy_5 : decode cX6_copy 5 = .ok (.invokevirtual 83, 3) := by decide +kernel
theorem dX6_copy_8 : decode cX6_copy 8 = .ok (.ifCond .eq 14, 3) := by decide +kernel
theorem dX6_copy_11 : decode cX6_copy 11 = .ok (.aload_n 0, 1) := by decide +kernel
theorem dX6_copy_12 : decode cX6_copy 12 = .ok (.getfield 16, 3) := by decide +kernel
theorem dX6_copy_15 : decode cX6_copy 15 = .ok (.iload_n 3, 1) := by decide +kernel
theorem dX6_copy_16 : decode cX6_copy 16 = .ok (.invokevirtual 83, 3) := by decide +kernel
theorem dX6_copy_19 : decode cX6_copy 19 = .ok (.ifCond .ne 5, 3) := by decide +kernel
theorem dX6_copy_22 : decode cX6_copy 22 = .ok (.iconst (-1), 1) := by decide +kernel
theorem dX6_copy_23 : decode cX6_copy 23 = .ok (.ireturn, 1) := by decide +kernel
theorem dX6_copy_24 : decode cX6_copy 24 = .ok (.iload 5, 2) := by decide +kernel
theorem dX6_copy_26 : decode cX6_copy 26 = .ok (.ifCond .ge 9, 3) := by decide +kernel
theorem dX6_copy_29 : decode cX6_copy 29 = .ok (.aload_n 0, 1) := by decide +kernel
theorem dX6_copy_30 : decode cX6_copy 30 = .ok (.iconst 5, 1) := by decide +kernel
theorem dX6_copy_31 : decode cX6_copy 31 = .ok (.invokevirtual 87, 3) := by decide +kernel
theorem dX6_copy_34 : decode cX6_copy 34 = .ok (.ireturn, 1) := by decide +kernel
theorem dX6_copy_35 : decode cX6_copy 35 = .ok (.aload_n 0, 1) := by decide +kernel
theorem dX6_copy_36 : decode cX6_copy 36 = .ok (.getfield 16, 3) := by decide +kernel
theorem dX6_copy_39 : decode cX6_copy 39 = .ok (.iload_n 1, 1) := by decide +kernel
theorem dX6_copy_40 : decode cX6_copy 40 = .ok (.invokevirtual 110, 3) := by decide +kernel
theorem dX6_copy_43 : decode cX6_copy 43 = .ok (.ifCond .eq 14, 3) := by decide +kernel
theorem dX6_copy_46 : decode cX6_copy 46 = .ok (.aload_n 0, 1) := by decide +kernel
theorem dX6_copy_47 : decode cX6_copy 47 = .ok (.getfield 16, 3) := by decide +kernel
theorem dX6_copy_50 : decode cX6_copy 50 = .ok (.iload_n 3, 1) := by decide +kernel
theorem dX6_copy_51 : decode cX6_copy 51 = .ok (.invokevirtual 110, 3) := by decide +kernel
theorem dX6_copy_54 : decode cX6_copy 54 = .ok (.ifCond .ne 9, 3) := by decide +kernel
theorem dX6_copy_57 : decode cX6_copy 57 = .ok (.aload_n 0, 1) := by decide +kernel
theorem dX6_copy_58 : decode cX6_copy 58 = .ok (.iconst 1, 1) := by decide +kernel
theorem dX6_copy_59 : decode cX6_copy 59 = .ok (.invokevirtual 87, 3) := by decide +kernel
theorem dX6_copy_62 : decode cX6_copy 62 = .ok (.ireturn, 1) := by decide +kernel
theorem dX6_copy_63 : decode cX6_copy 63 = .ok (.aload_n 0, 1) := by decide +kernel
theorem dX6_copy_64 : decode cX6_copy 64 = .ok (.getfield 16, 3) := by decide +kernel
theorem dX6_copy_67 : decode cX6_copy 67 = .ok (.iload_n 1, 1) := by decide +kernel
theorem dX6_copy_68 : decode cX6_copy 68 = .ok (.iload_n 2, 1) := by decide +kernel
theorem dX6_copy_69 : decode cX6_copy 69 = .ok (.iload 5, 2) := by decide +kernel
theorem dX6_copy_71 : decode cX6_copy 71 = .ok (.invokevirtual 116, 3) := by decide +kernel
theorem dX6_copy_74 : decode cX6_copy 74 = .ok (.ifCond .eq 18, 3) := by decide +kernel
theorem dX6_copy_77 : decode cX6_copy 77 = .ok (.aload_n 0, 1) := by decide +kernel
theorem dX6_copy_78 : decode cX6_copy 78 = .ok (.getfield 16, 3) := by decide +kernel
theorem dX6_copy_81 : decode cX6_copy 81 = .ok (.iload_n 3, 1) := by decide +kernel
theorem dX6_copy_82 : decode cX6_copy 82 = .ok (.iload 4, 2) := by decide +kernel
theorem dX6_copy_84 : decode cX6_copy 84 = .ok (.iload 5, 2) := by decide +kernel
theorem dX6_copy_86 : decode cX6_copy 86 = .ok (.invokevirtual 116, 3) := by decide +kernel
theorem dX6_copy_89 : decode cX6_copy 89 = .ok (.ifCond .ne 9, 3) := by decide +kernel
theorem dX6_copy_92 : decode cX6_copy 92 = .ok (.aload_n 0, 1) := by decide +kernel
theorem dX6_copy_93 : decode cX6_copy 93 = .ok (.iconst 2, 1) := by decide +kernel
theorem dX6_copy_94 : decode cX6_copy 94 = .ok (.invokevirtual 87, 3) := by decide +kernel
theorem dX6_copy_97 : decode cX6_copy 97 = .ok (.ireturn, 1) := by decide +kernel
theorem dX6_copy_98 : decode cX6_copy 98 = .ok (.aload_n 0, 1) := by decide +kernel
theorem dX6_copy_99 : decode cX6_copy 99 = .ok (.getfield 16, 3) := by decide +kernel
theorem dX6_copy_102 : decode cX6_copy 102 = .ok (.iload_n 1, 1) := by decide +kernel
theorem dX6_copy_103 : decode cX6_copy 103 = .ok (.iload_n 2, 1) := by decide +kernel
theorem dX6_copy_104 : decode cX6_copy 104 = .ok (.iload_n 3, 1) := by decide +kernel
theorem dX6_copy_105 : decode cX6_copy 105 = .ok (.iload 4, 2) := by decide +kernel
theorem dX6_copy_107 : decode cX6_copy 107 = .ok (.iload 5, 2) := by decide +kernel
theorem dX6_copy_109 : decode cX6_copy 109 = .ok (.invokevirtual 120, 3) := by decide +kernel
theorem dX6_copy_112 : decode cX6_copy 112 = .ok (.iconst 1, 1) := by decide +kernel
theorem dX6_copy_113 : decode cX6_copy 113 = .ok (.ireturn, 1) := by decide +kernel
theorem dX6_mean_0 : decode cX6_mean 0 = .ok (.aload_n 0, 1) := by decide +kernel
theorem dX6_mean_1 : decode cX6_mean 1 = .ok (.getfield 16, 3) := by decide +kernel
theorem dX6_mean_4 : decode cX6_mean 4 = .ok (.iload_n 1, 1) := by decide +kernel
theorem dX6_mean_5 : decode cX6_mean 5 = .ok (.invokevirtual 83, 3) := by decide +kernel
theorem dX6_mean_8 : decode cX6_mean 8 = .ok (.ifCond .ne 5, 3) := by decide +kernel
theorem dX6_mean_11 : decode cX6_mean 11 = .ok (.iconst (-1), 1) := by decide +kernel
theorem dX6_mean_12 : decode cX6_mean 12 = .ok (.ireturn, 1) := by decide +kernel
theorem dX6_mean_13 : decode cX6_mean 13 = .ok (.aload_n 0, 1) := by decide +kernel
theorem dX6_mean_14 : decode cX6_mean 14 = .ok (.getfield 16, 3) := by decide +kernel
theorem dX6_mean_17 : decode cX6_mean 17 = .ok (.iload_n 1, 1) := by decide +kernel
theorem dX6_mean_18 : decode cX6_mean 18 = .ok (.invokevirtual 110, 3) := by decide +kernel
theorem dX6_mean_21 : decode cX6_mean 21 = .ok (.ifCond .ne 9, 3) := by decide +kernel
theorem dX6_mean_24 : decode cX6_mean 24 = .ok (.aload_n 0, 1) := by decide +kernel
theorem dX6_mean_25 : decode cX6_mean 25 = .ok (.iconst 1, 1) := by decide +kernel
theorem dX6_mean_26 : decode cX6_mean 26 = .ok (.invokevirtual 87, 3) := by decide +kernel
theorem dX6_mean_29 : decode cX6_mean 29 = .ok (.ireturn, 1) := by decide +kernel
theorem dX6_mean_30 : decode cX6_mean 30 = .ok (.aload_n 0, 1) := by decide +kernel
theorem dX6_mean_31 : decode cX6_mean 31 = .ok (.getfield 16, 3) := by decide +kernel
theorem dX6_mean_34 : decode cX6_mean 34 = .ok (.iload_n 1, 1) := by decide +kernel
theorem dX6_mean_35 : decode cX6_mean 35 = .ok (.invokevirtual 124, 3) := by decide +kernel
theorem dX6_mean_38 : decode cX6_mean 38 = .ok (.istore_n 2, 1) := by decide +kernel
theorem dX6_mean_39 : decode cX6_mean 39 = .ok (.iload_n 2, 1) := by decide +kernel
theorem dX6_mean_40 : decode cX6_mean 40 = .ok (.ifCond .gt 9, 3) := by decide +kernel
theorem dX6_mean_43 : decode cX6_mean 43 = .ok (.aload_n 0, 1) := by decide +kernel
theorem dX6_mean_44 : decode cX6_mean 44 = .ok (.iconst 4, 1) := by decide +kernel
theorem dX6_mean_45 : decode cX6_mean 45 = .ok (.invokevirtual 87, 3) := by decide +kernel
theorem dX6_mean_48 : decode cX6_mean 48 = .ok (.ireturn, 1) := by decide +kernel
theorem dX6_mean_49 : decode cX6_mean 49 = .ok (.aload_n 0, 1) := by decide +kernel
theorem dX6_mean_50 : decode cX6_mean 50 = .ok (.aload_n 0, 1) := by decide +kernel
theorem dX6_mean_51 : decode cX6_mean 51 = .ok (.getfield 16, 3) := by decide +kernel
theorem dX6_mean_54 : decode cX6_mean 54 = .ok (.iload_n 1, 1) := by decide +kernel
theorem dX6_mean_55 : decode cX6_mean 55 = .ok (.invokevirtual 127, 3) := by decide +kernel
theorem dX6_mean_58 : decode cX6_mean 58 = .ok (.iload_n 2, 1) := by decide +kernel
theorem dX6_mean_59 : decode cX6_mean 59 = .ok (.i2l, 1) := by decide +kernel
theorem dX6_mean_60 : decode cX6_mean 60 = .ok (.ldiv, 1) := by decide +kernel
theorem dX6_mean_61 : decode cX6_mean 61 = .ok (.l2i, 1) := by decide +kernel
theorem dX6_mean_62 : decode cX6_mean 62 = .ok (.invokevirtual 103, 3) := by decide +kernel
theorem dX6_mean_65 : decode cX6_mean 65 = .ok (.iconst 1, 1) := by decide +kernel
theorem dX6_mean_66 : decode cX6_mean 66 = .ok (.ireturn, 1) := by decide +kernel
theorem dX6_text_0 : decode cX6_text 0 = .ok (.aload_n 0, 1) := by decide +kernel
theorem dX6_text_1 : decode cX6_text 1 = .ok (.getfield 20, 3) := by decide +kernel
theorem dX6_text_4 : decode cX6_text 4 = .ok (.iload_n 1, 1) := by decide +kernel
theorem dX6_text_5 : decode cX6_text 5 = .ok (.invokevirtual 83, 3) := by decide +kernel
theorem dX6_text_8 : decode cX6_text 8 = .ok (.ifCond .eq 9, 3) := by decide +kernel
theorem dX6_text_11 : decode cX6_text 11 = .ok (.iload_n 2, 1) := by decide +kernel
theorem dX6_text_12 : decode cX6_text 12 = .ok (.bipush 60, 2) := by decide +kernel
theorem dX6_text_14 : decode cX6_text 14 = .ok (.if_icmp .le 5, 3) := by decide +kernel
theorem dX6_text_17 : decode cX6_text 17 = .ok (.iconst (-1), 1) := by decide +kernel
theorem dX6_text_18 : decode cX6_text 18 = .ok (.ireturn, 1) := by decide +kernel
theorem dX6_text_19 : decode cX6_text 19 = .ok (.iload_n 2, 1) := by decide +kernel
theorem dX6_text_20 : decode cX6_text 20 = .ok (.ifCond .ge 9, 3) := by decide +kernel
theorem dX6_text_23 : decode cX6_text 23 = .ok (.aload_n 0, 1) := by decide +kernel
theorem dX6_text_24 : decode cX6_text 24 = .ok (.iconst 5, 1) := by decide +kernel
theorem dX6_text_25 : decode cX6_text 25 = .ok (.invokevirtual 87, 3) := by decide +kernel
theorem dX6_text_28 : decode cX6_text 28 = .ok (.ireturn, 1) := by decide +kernel
theorem dX6_text_29 : decode cX6_text 29 = .ok (.aload_n 0, 1) := by decide +kernel
theorem dX6_text_30 : decode cX6_text 30 = .ok (.getfield 20, 3) := by decide +kernel
theorem dX6_text_33 : decode cX6_text 33 = .ok (.iload_n 1, 1) := by decide +kernel
theorem dX6_text_34 : decode cX6_text 34 = .ok (.iload_n 2, 1) := by decide +kernel
theorem dX6_text_35 : decode cX6_text 35 = .ok (.bipush 32, 2) := by decide +kernel
theorem dX6_text_37 : decode cX6_text 37 = .ok (.invokevirtual 91, 3) := by decide +kernel
theorem dX6_text_40 : decode cX6_text 40 = .ok (.iload_n 2, 1) := by decide +kernel
theorem dX6_text_41 : decode cX6_text 41 = .ok (.ireturn, 1) := by decide +kernel
theorem dX6_put_0 : decode cX6_put 0 = .ok (.aload_n 0, 1) := by decide +kernel
theorem dX6_put_1 : decode cX6_put 1 = .ok (.getfield 20, 3) := by decide +kernel
theorem dX6_put_4 : decode cX6_put 4 = .ok (.iload_n 1, 1) := by decide +kernel
theorem dX6_put_5 : decode cX6_put 5 = .ok (.invokevirtual 83, 3) := by decide +kernel
theorem dX6_put_8 : decode cX6_put 8 = .ok (.ifCond .ne 5, 3) := by decide +kernel
theorem dX6_put_11 : decode cX6_put 11 = .ok (.iconst (-1), 1) := by decide +kernel
theorem dX6_put_12 : decode cX6_put 12 = .ok (.ireturn, 1) := by decide +kernel
theorem dX6_put_13 : decode cX6_put 13 = .ok (.aload_n 0, 1) := by decide +kernel
theorem dX6_put_14 : decode cX6_put 14 = .ok (.aload_n 0, 1) := by decide +kernel
theorem dX6_put_15 : decode cX6_put 15 = .ok (.getfield 20, 3) := by decide +kernel
theorem dX6_put_18 : decode cX6_put 18 = .ok (.iload_n 1, 1) := by decide +kernel
theorem dX6_put_19 : decode cX6_put 19 = .ok (.iload_n 2, 1) := by decide +kernel
theorem dX6_put_20 : decode cX6_put 20 = .ok (.invokevirtual 95, 3) := by decide +kernel
theorem dX6_put_23 : decode cX6_put 23 = .ok (.istore 4, 2) := by decide +kernel
theorem dX6_put_25 : decode cX6_put 25 = .ok (.iload 4, 2) := by decide +kernel
theorem dX6_put_27 : decode cX6_put 27 = .ok (.ifCond .eq 6, 3) := by decide +kernel
theorem dX6_put_30 : decode cX6_put 30 = .ok (.iload 4, 2) := by decide +kernel
theorem dX6_put_32 : decode cX6_put 32 = .ok (.ireturn, 1) := by decide +kernel
theorem dX6_put_33 : decode cX6_put 33 = .ok (.aload_n 0, 1) := by decide +kernel
theorem dX6_put_34 : decode cX6_put 34 = .ok (.getfield 20, 3) := by decide +kernel
theorem dX6_put_37 : decode cX6_put 37 = .ok (.iload_n 1, 1) := by decide +kernel
theorem dX6_put_38 : decode cX6_put 38 = .ok (.iload_n 2, 1) := by decide +kernel
theorem dX6_put_39 : decode cX6_put 39 = .ok (.invokevirtual 99, 3) := by decide +kernel
theorem dX6_put_42 : decode cX6_put 42 = .ok (.istore 5, 2) := by decide +kernel
theorem dX6_put_44 : decode cX6_put 44 = .ok (.aload_n 0, 1) := by decide +kernel
theorem dX6_put_45 : decode cX6_put 45 = .ok (.getfield 20, 3) := by decide +kernel
theorem dX6_put_48 : decode cX6_put 48 = .ok (.iload_n 1, 1) := by decide +kernel
theorem dX6_put_49 : decode cX6_put 49 = .ok (.iload_n 2, 1) := by decide +kernel
theorem dX6_put_50 : decode cX6_put 50 = .ok (.iload_n 3, 1) := by decide +kernel
theorem dX6_put_51 : decode cX6_put 51 = .ok (.i2b, 1) := by decide +kernel
theorem dX6_put_52 : decode cX6_put 52 = .ok (.invokevirtual 107, 3) := by decide +kernel
theorem dX6_put_55 : decode cX6_put 55 = .ok (.iload 5, 2) := by decide +kernel
theorem dX6_put_57 : decode cX6_put 57 = .ok (.sipush 1000, 3) := by decide +kernel
theorem dX6_put_60 : decode cX6_put 60 = .ok (.iadd, 1) := by decide +kernel
theorem dX6_put_61 : decode cX6_put 61 = .ok (.ireturn, 1) := by decide +kernel
theorem dX6_fault_0 : decode cX6_fault 0 = .ok (.aload_n 0, 1) := by decide +kernel
theorem dX6_fault_1 : decode cX6_fault 1 = .ok (.getfield 20, 3) := by decide +kernel
theorem dX6_fault_4 : decode cX6_fault 4 = .ok (.iload_n 1, 1) := by decide +kernel
theorem dX6_fault_5 : decode cX6_fault 5 = .ok (.invokevirtual 83, 3) := by decide +kernel
theorem dX6_fault_8 : decode cX6_fault 8 = .ok (.ifCond .ne 5, 3) := by decide +kernel
theorem dX6_fault_11 : decode cX6_fault 11 = .ok (.iconst (-1), 1) := by decide +kernel
theorem dX6_fault_12 : decode cX6_fault 12 = .ok (.ireturn, 1) := by decide +kernel
theorem dX6_fault_13 : decode cX6_fault 13 = .ok (.aload_n 0, 1) := by decide +kernel
theorem dX6_fault_14 : decode cX6_fault 14 = .ok (.getfield 20, 3) := by decide +kernel
theorem dX6_fault_17 : decode cX6_fault 17 = .ok (.iload_n 1, 1) := by decide +kernel
theorem dX6_fault_18 : decode cX6_fault 18 = .ok (.invokevirtual 110, 3) := by decide +kernel
theorem dX6_fault_21 : decode cX6_fault 21 = .ok (.ifCond .ne 9, 3) := by decide +kernel
theorem dX6_fault_24 : decode cX6_fault 24 = .ok (.aload_n 0, 1) := by decide +kernel
theorem dX6_fault_25 : decode cX6_fault 25 = .ok (.iconst 1, 1) := by decide +kernel
theorem dX6_fault_26 : decode cX6_fault 26 = .ok (.invokevirtual 87, 3) := by decide +kernel
theorem dX6_fault_29 : decode cX6_fault 29 = .ok (.ireturn, 1) := by decide +kernel
theorem dX6_fault_30 : decode cX6_fault 30 = .ok (.aload_n 0, 1) := by decide +kernel
theorem dX6_fault_31 : decode cX6_fault 31 = .ok (.getfield 26, 3) := by decide +kernel
theorem dX6_fault_34 : decode cX6_fault 34 = .ok (.aload_n 0, 1) := by decide +kernel
theorem dX6_fault_35 : decode cX6_fault 35 = .ok (.getfield 20, 3) := by decide +kernel
theorem dX6_fault_38 : decode cX6_fault 38 = .ok (.iload_n 1, 1) := by decide +kernel
theorem dX6_fault_39 : decode cX6_fault 39 = .ok (.invokevirtual 131, 3) := by decide +kernel
theorem dX6_fault_42 : decode cX6_fault 42 = .ok (.ireturn, 1) := by decide +kernel
theorem dX6_valley_0 : decode cX6_valley 0 = .ok (.aload_n 0, 1) := by decide +kernel
theorem dX6_valley_1 : decode cX6_valley 1 = .ok (.getfield 20, 3) := by decide +kernel
theorem dX6_valley_4 : decode cX6_valley 4 = .ok (.iload_n 1, 1) := by decide +kernel
theorem dX6_valley_5 : decode cX6_valley 5 = .ok (.invokevirtual 83, 3) := by decide +kernel
theorem dX6_valley_8 : decode cX6_valley 8 = .ok (.ifCond .ne 5, 3) := by decide +kernel
theorem dX6_valley_11 : decode cX6_valley 11 = .ok (.iconst (-1), 1) := by decide +kernel
theorem dX6_valley_12 : decode cX6_valley 12 = .ok (.ireturn, 1) := by decide +kernel
theorem dX6_valley_13 : decode cX6_valley 13 = .ok (.aload_n 0, 1) := by decide +kernel
theorem dX6_valley_14 : decode cX6_valley 14 = .ok (.getfield 20, 3) := by decide +kernel
theorem dX6_valley_17 : decode cX6_valley 17 = .ok (.iload_n 1, 1) := by decide +kernel
theorem dX6_valley_18 : decode cX6_valley 18 = .ok (.invokevirtual 110, 3) := by decide +kernel
theorem dX6_valley_21 : decode cX6_valley 21 = .ok (.ifCond .ne 9, 3) := by decide +kernel
theorem dX6_valley_24 : decode cX6_valley 24 = .ok (.aload_n 0, 1) := by decide +kernel
theorem dX6_valley_25 : decode cX6_valley 25 = .ok (.iconst 1, 1) := by decide +kernel
theorem dX6_valley_26 : decode cX6_valley 26 = .ok (.invokevirtual 87, 3) := by decide +kernel
theorem dX6_valley_29 : decode cX6_valley 29 = .ok (.ireturn, 1) := by decide +kernel
theorem dX6_valley_30 : decode cX6_valley 30 = .ok (.aload_n 0, 1) := by decide +kernel
theorem dX6_valley_31 : decode cX6_valley 31 = .ok (.getfield 26, 3) := by decide +kernel
theorem dX6_valley_34 : decode cX6_valley 34 = .ok (.aload_n 0, 1) := by decide +kernel
theorem dX6_valley_35 : decode cX6_valley 35 = .ok (.getfield 20, 3) := by decide +kernel
theorem dX6_valley_38 : decode cX6_valley 38 = .ok (.iload_n 1, 1) := by decide +kernel
theorem dX6_valley_39 : decode cX6_valley 39 = .ok (.invokevirtual 131, 3) := by decide +kernel
theorem dX6_valley_42 : decode cX6_valley 42 = .ok (.bipush (-9), 2) := by decide +kernel
theorem dX6_valley_44 : decode cX6_valley 44 = .ok (.if_icmp .eq 6, 3) := by decide +kernel
theorem dX6_valley_47 : decode cX6_valley 47 = .ok (.bipush (-4), 2) := by decide +kernel
theorem dX6_valley_49 : decode cX6_valley 49 = .ok (.ireturn, 1) := by decide +kernel
theorem dX6_valley_50 : decode cX6_valley 50 = .ok (.aload_n 0, 1) := by decide +kernel
theorem dX6_valley_51 : decode cX6_valley 51 = .ok (.getfield 33, 3) := by decide +kernel
theorem dX6_valley_54 : decode cX6_valley 54 = .ok (.aload_n 0, 1) := by decide +kernel
theorem dX6_valley_55 : decode cX6_valley 55 = .ok (.getfield 26, 3) := by decide +kernel
theorem dX6_valley_58 : decode cX6_valley 58 = .ok (.getfield 135, 3) := by decide +kernel
theorem dX6_valley_61 : decode cX6_valley 61 = .ok (.aload_n 0, 1) := by decide +kernel
theorem dX6_valley_62 : decode cX6_valley 62 = .ok (.getfield 26, 3) := by decide +kernel
theorem dX6_valley_65 : decode cX6_valley 65 = .ok (.getfield 138, 3) := by decide +kernel
theorem dX6_valley_68 : decode cX6_valley 68 = .ok (.invokevirtual 141, 3) := by decide +kernel
theorem dX6_valley_71 : decode cX6_valley 71 = .ok (.iconst 0, 1) := by decide +kernel
theorem dX6_valley_72 : decode cX6_valley 72 = .ok (.istore_n 2, 1) := by decide +kernel
theorem dX6_valley_73 : decode cX6_valley 73 = .ok (.iload_n 2, 1) := by decide +kernel
theorem dX6_valley_74 : decode cX6_valley 74 = .ok (.aload_n 0, 1) := by decide +kernel
theorem dX6_valley_75 : decode cX6_valley 75 = .ok (.getfield 37, 3) := by decide +kernel
theorem dX6_valley_78 : decode cX6_valley 78 = .ok (.arraylength, 1) := by decide +kernel
theorem dX6_valley_79 : decode cX6_valley 79 = .ok (.if_icmp .ge 19, 3) := by decide +kernel
theorem dX6_valley_82 : decode cX6_valley 82 = .ok (.aload_n 0, 1) := by decide +kernel
theorem dX6_valley_83 : decode cX6_valley 83 = .ok (.getfield 37, 3) := by decide +kernel
theorem dX6_valley_86 : decode cX6_valley 86 = .ok (.iload_n 2, 1) := by decide +kernel
theorem dX6_valley_87 : decode cX6_valley 87 = .ok (.aaload, 1) := by decide +kernel
theorem dX6_valley_88 : decode cX6_valley 88 = .ok (.iconst 0, 1) := by decide +kernel
theorem dX6_valley_89 : decode cX6_valley 89 = .ok (.putfield 145, 3) := by decide +kernel
theorem dX6_valley_92 : decode cX6_valley 92 = .ok (.iinc 2 1, 3) := by decide +kernel
theorem dX6_valley_95 : decode cX6_valley 95 = .ok (.goto (-22), 3) := by decide +kernel
theorem dX6_valley_98 : decode cX6_valley 98 = .ok (.aload_n 0, 1) := by decide +kernel
theorem dX6_valley_99 : decode cX6_valley 99 = .ok (.getfield 33, 3) := by decide +kernel
theorem dX6_valley_102 : decode cX6_valley 102 = .ok (.getfield 149, 3) := by decide +kernel
theorem dX6_valley_105 : decode cX6_valley 105 = .ok (.getfield 150, 3) := by decide +kernel
theorem dX6_valley_108 : decode cX6_valley 108 = .ok (.ireturn, 1) := by decide +kernel
theorem dX6_god_0 : decode cX6_god 0 = .ok (.aload_n 0, 1) := by decide +kernel
theorem dX6_god_1 : decode cX6_god 1 = .ok (.getfield 33, 3) := by decide +kernel
theorem dX6_god_4 : decode cX6_god 4 = .ok (.getfield 149, 3) := by decide +kernel
theorem dX6_god_7 : decode cX6_god 7 = .ok (.iload_n 1, 1) := by decide +kernel
theorem dX6_god_8 : decode cX6_god 8 = .ok (.invokevirtual 153, 3) := by decide +kernel
theorem dX6_god_11 : decode cX6_god 11 = .ok (.ifCond .eq 13, 3) := by decide +kernel
theorem dX6_god_14 : decode cX6_god 14 = .ok (.iload_n 2, 1) := by decide +kernel
theorem dX6_god_15 : decode cX6_god 15 = .ok (.ifCond .lt 9, 3) := by decide +kernel
theorem dX6_god_18 : decode cX6_god 18 = .ok (.iload_n 2, 1) := by decide +kernel
theorem dX6_god_19 : decode cX6_god 19 = .ok (.bipush 6, 2) := by decide +kernel
theorem dX6_god_21 : decode cX6_god 21 = .ok (.if_icmp .le 5, 3) := by decide +kernel
theorem dX6_god_24 : decode cX6_god 24 = .ok (.iconst (-1), 1) := by decide +kernel
theorem dX6_god_25 : decode cX6_god 25 = .ok (.ireturn, 1) := by decide +kernel
theorem dX6_god_26 : decode cX6_god 26 = .ok (.aload_n 0, 1) := by decide +kernel
theorem dX6_god_27 : decode cX6_god 27 = .ok (.aload_n 0, 1) := by decide +kernel
theorem dX6_god_28 : decode cX6_god 28 = .ok (.iload_n 1, 1) := by decide +kernel
theorem dX6_god_29 : decode cX6_god 29 = .ok (.iload_n 2, 1) := by decide +kernel
theorem dX6_god_30 : decode cX6_god 30 = .ok (.invokevirtual 154, 3) := by decide +kernel
theorem dX6_god_33 : decode cX6_god 33 = .ok (.invokevirtual 103, 3) := by decide +kernel
theorem dX6_god_36 : decode cX6_god 36 = .ok (.iconst 1, 1) := by decide +kernel
theorem dX6_god_37 : decode cX6_god 37 = .ok (.ireturn, 1) := by decide +kernel
theorem dX6_mark_0 : decode cX6_mark 0 = .ok (.aload_n 0, 1) := by decide +kernel
theorem dX6_mark_1 : decode cX6_mark 1 = .ok (.getfield 33, 3) := by decide +kernel
theorem dX6_mark_4 : decode cX6_mark 4 = .ok (.getfield 149, 3) := by decide +kernel
theorem dX6_mark_7 : decode cX6_mark 7 = .ok (.iload_n 1, 1) := by decide +kernel
theorem dX6_mark_8 : decode cX6_mark 8 = .ok (.invokevirtual 153, 3) := by decide +kernel
theorem dX6_mark_11 : decode cX6_mark 11 = .ok (.ifCond .eq 13, 3) := by decide +kernel
theorem dX6_mark_14 : decode cX6_mark 14 = .ok (.iload_n 2, 1) := by decide +kernel
theorem dX6_mark_15 : decode cX6_mark 15 = .ok (.iconst 1, 1) := by decide +kernel
theorem dX6_mark_16 : decode cX6_mark 16 = .ok (.if_icmp .lt 8, 3) := by decide +kernel
theorem dX6_mark_19 : decode cX6_mark 19 = .ok (.iload_n 2, 1) := by decide +kernel
theorem dX6_mark_20 : decode cX6_mark 20 = .ok (.iconst 5, 1) := by decide +kernel
theorem dX6_mark_21 : decode cX6_mark 21 = .ok (.if_icmp .le 5, 3) := by decide +kernel
theorem dX6_mark_24 : decode cX6_mark 24 = .ok (.iconst (-1), 1) := by decide +kernel
theorem dX6_mark_25 : decode cX6_mark 25 = .ok (.ireturn, 1) := by decide +kernel
theorem dX6_mark_26 : decode cX6_mark 26 = .ok (.aload_n 0, 1) := by decide +kernel
theorem dX6_mark_27 : decode cX6_mark 27 = .ok (.getfield 33, 3) := by decide +kernel
theorem dX6_mark_30 : decode cX6_mark 30 = .ok (.getfield 149, 3) := by decide +kernel
theorem dX6_mark_33 : decode cX6_mark 33 = .ok (.iload_n 1, 1) := by decide +kernel
theorem dX6_mark_34 : decode cX6_mark 34 = .ok (.iload_n 2, 1) := by decide +kernel
theorem dX6_mark_35 : decode cX6_mark 35 = .ok (.invokevirtual 157, 3) := by decide +kernel
theorem dX6_mark_38 : decode cX6_mark 38 = .ok (.ifCond .ne 9, 3) := by decide +kernel
theorem dX6_mark_41 : decode cX6_mark 41 = .ok (.aload_n 0, 1) := by decide +kernel
theorem dX6_mark_42 : decode cX6_mark 42 = .ok (.iconst 3, 1) := by decide +kernel
theorem dX6_mark_43 : decode cX6_mark 43 = .ok (.invokevirtual 87, 3) := by decide +kernel
theorem dX6_mark_46 : decode cX6_mark 46 = .ok (.ireturn, 1) := by decide +kernel
theorem dX6_mark_47 : decode cX6_mark 47 = .ok (.iload_n 2, 1) := by decide +kernel
theorem dX6_mark_48 : decode cX6_mark 48 = .ok (.tableswitch 90 1 4 #[32, 45, 65, 84], 32) := by decide +kernel
theorem dX6_mark_80 : decode cX6_mark 80 = .ok (.aload_n 0, 1) := by decide +kernel
theorem dX6_mark_81 : decode cX6_mark 81 = .ok (.getfield 33, 3) := by decide +kernel
theorem dX6_mark_84 : decode cX6_mark 84 = .ok (.getfield 149, 3) := by decide +kernel
theorem dX6_mark_87 : decode cX6_mark 87 = .ok (.getfield 161, 3) := by decide +kernel
theorem dX6_mark_90 : decode cX6_mark 90 = .ok (.iload_n 1, 1) := by decide +kernel
theorem dX6_mark_91 : decode cX6_mark 91 = .ok (.iaload, 1) := by decide +kernel
theorem dX6_mark_92 : decode cX6_mark 92 = .ok (.ireturn, 1) := by decide +kernel
theorem dX6_mark_93 : decode cX6_mark 93 = .ok (.aload_n 0, 1) := by decide +kernel
theorem dX6_mark_94 : decode cX6_mark 94 = .ok (.getfield 33, 3) := by decide +kernel
theorem dX6_mark_97 : decode cX6_mark 97 = .ok (.aload_n 0, 1) := by decide +kernel
theorem dX6_mark_98 : decode cX6_mark 98 = .ok (.getfield 33, 3) := by decide +kernel
theorem dX6_mark_101 : decode cX6_mark 101 = .ok (.getfield 149, 3) := by decide +kernel
theorem dX6_mark_104 : decode cX6_mark 104 = .ok (.getfield 161, 3) := by decide +kernel
theorem dX6_mark_107 : decode cX6_mark 107 = .ok (.iload_n 1, 1) := by decide +kernel
theorem dX6_mark_108 : decode cX6_mark 108 = .ok (.iaload, 1) := by decide +kernel
theorem dX6_mark_109 : decode cX6_mark 109 = .ok (.invokevirtual 164, 3) := by decide +kernel
theorem dX6_mark_112 : decode cX6_mark 112 = .ok (.ireturn, 1) := by decide +kernel
theorem dX6_mark_113 : decode cX6_mark 113 = .ok (.aload_n 0, 1) := by decide +kernel
theorem dX6_mark_114 : decode cX6_mark 114 = .ok (.getfield 33, 3) := by decide +kernel
theorem dX6_mark_117 : decode cX6_mark 117 = .ok (.getfield 167, 3) := by decide +kernel
theorem dX6_mark_120 : decode cX6_mark 120 = .ok (.invokevirtual 170, 3) := by decide +kernel
theorem dX6_mark_123 : decode cX6_mark 123 = .ok (.ifCond .eq 7, 3) := by decide +kernel
theorem dX6_mark_126 : decode cX6_mark 126 = .ok (.iconst 1, 1) := by decide +kernel
theorem dX6_mark_127 : decode cX6_mark 127 = .ok (.goto 4, 3) := by decide +kernel
theorem dX6_mark_130 : decode cX6_mark 130 = .ok (.iconst 0, 1) := by decide +kernel
theorem dX6_mark_131 : decode cX6_mark 131 = .ok (.ireturn, 1) := by decide +kernel
theorem dX6_mark_132 : decode cX6_mark 132 = .ok (.aload_n 0, 1) := by decide +kernel
theorem dX6_mark_133 : decode cX6_mark 133 = .ok (.iload_n 1, 1) := by decide +kernel
theorem dX6_mark_134 : decode cX6_mark 134 = .ok (.invokevirtual 174, 3) := by decide +kernel
theorem dX6_mark_137 : decode cX6_mark 137 = .ok (.ireturn, 1) := by decide +kernel
theorem dX6_mark_138 : decode cX6_mark 138 = .ok (.aload_n 0, 1) := by decide +kernel
theorem dX6_mark_139 : decode cX6_mark 139 = .ok (.getfield 33, 3) := by decide +kernel
theorem dX6_mark_142 : decode cX6_mark 142 = .ok (.getfield 167, 3) := by decide +kernel
theorem dX6_mark_145 : decode cX6_mark 145 = .ok (.iload_n 1, 1) := by decide +kernel
theorem dX6_mark_146 : decode cX6_mark 146 = .ok (.invokevirtual 177, 3) := by decide +kernel
theorem dX6_mark_149 : decode cX6_mark 149 = .ok (.ifCond .eq 7, 3) := by decide +kernel
theorem dX6_mark_152 : decode cX6_mark 152 = .ok (.iconst 1, 1) := by decide +kernel
theorem dX6_mark_153 : decode cX6_mark 153 = .ok (.goto 4, 3) := by decide +kernel
theorem dX6_mark_156 : decode cX6_mark 156 = .ok (.iconst 0, 1) := by decide +kernel
theorem dX6_mark_157 : decode cX6_mark 157 = .ok (.ireturn, 1) := by decide +kernel
theorem dX6_store_0 : decode cX6_store 0 = .ok (.iload_n 1, 1) := by decide +kernel
theorem dX6_store_1 : decode cX6_store 1 = .ok (.invokestatic 180, 3) := by decide +kernel
theorem dX6_store_4 : decode cX6_store 4 = .ok (.ifCond .eq 13, 3) := by decide +kernel
theorem dX6_store_7 : decode cX6_store 7 = .ok (.iload_n 2, 1) := by decide +kernel
theorem dX6_store_8 : decode cX6_store 8 = .ok (.ifCond .lt 9, 3) := by decide +kernel
theorem dX6_store_11 : decode cX6_store 11 = .ok (.iload_n 2, 1) := by decide +kernel
theorem dX6_store_12 : decode cX6_store 12 = .ok (.bipush 99, 2) := by decide +kernel
theorem dX6_store_14 : decode cX6_store 14 = .ok (.if_icmp .le 5, 3) := by decide +kernel
theorem dX6_store_17 : decode cX6_store 17 = .ok (.iconst (-1), 1) := by decide +kernel
theorem dX6_store_18 : decode cX6_store 18 = .ok (.ireturn, 1) := by decide +kernel
theorem dX6_store_19 : decode cX6_store 19 = .ok (.aload_n 0, 1) := by decide +kernel
theorem dX6_store_20 : decode cX6_store 20 = .ok (.invokevirtual 183, 3) := by decide +kernel
theorem dX6_store_23 : decode cX6_store 23 = .ok (.ifCond .eq 6, 3) := by decide +kernel
theorem dX6_store_26 : decode cX6_store 26 = .ok (.bipush (-4), 2) := by decide +kernel
theorem dX6_store_28 : decode cX6_store 28 = .ok (.ireturn, 1) := by decide +kernel
theorem dX6_store_29 : decode cX6_store 29 = .ok (.aload_n 0, 1) := by decide +kernel
theorem dX6_store_30 : decode cX6_store 30 = .ok (.getfield 33, 3) := by decide +kernel
theorem dX6_store_33 : decode cX6_store 33 = .ok (.getfield 167, 3) := by decide +kernel
theorem dX6_store_36 : decode cX6_store 36 = .ok (.getfield 186, 3) := by decide +kernel
theorem dX6_store_39 : decode cX6_store 39 = .ok (.iload_n 1, 1) := by decide +kernel
theorem dX6_store_40 : decode cX6_store 40 = .ok (.iaload, 1) := by decide +kernel
theorem dX6_store_41 : decode cX6_store 41 = .ok (.istore_n 3, 1) := by decide +kernel
theorem dX6_store_42 : decode cX6_store 42 = .ok (.aload_n 0, 1) := by decide +kernel
theorem dX6_store_43 : decode cX6_store 43 = .ok (.getfield 33, 3) := by decide +kernel
theorem dX6_store_46 : decode cX6_store 46 = .ok (.getfield 167, 3) := by decide +kernel
theorem dX6_store_49 : decode cX6_store 49 = .ok (.getfield 186, 3) := by decide +kernel
theorem dX6_store_52 : decode cX6_store 52 = .ok (.iload_n 1, 1) := by decide +kernel
theorem dX6_store_53 : decode cX6_store 53 = .ok (.iload_n 2, 1) := by decide +kernel
theorem dX6_store_54 : decode cX6_store 54 = .ok (.iastore, 1) := by decide +kernel
theorem dX6_store_55 : decode cX6_store 55 = .ok (.iload_n 3, 1) := by decide +kernel
theorem dX6_store_56 : decode cX6_store 56 = .ok (.ireturn, 1) := by decide +kernel
theorem dX6_stores_0 : decode cX6_stores 0 = .ok (.iload_n 1, 1) := by decide +kernel
theorem dX6_stores_1 : decode cX6_stores 1 = .ok (.invokestatic 180, 3) := by decide +kernel
theorem dX6_stores_4 : decode cX6_stores 4 = .ok (.ifCond .ne 5, 3) := by decide +kernel
theorem dX6_stores_7 : decode cX6_stores 7 = .ok (.iconst (-1), 1) := by decide +kernel
theorem dX6_stores_8 : decode cX6_stores 8 = .ok (.ireturn, 1) := by decide +kernel
theorem dX6_stores_9 : decode cX6_stores 9 = .ok (.aload_n 0, 1) := by decide +kernel
theorem dX6_stores_10 : decode cX6_stores 10 = .ok (.getfield 33, 3) := by decide +kernel
theorem dX6_stores_13 : decode cX6_stores 13 = .ok (.getfield 167, 3) := by decide +kernel
theorem dX6_stores_16 : decode cX6_stores 16 = .ok (.getfield 186, 3) := by decide +kernel
theorem dX6_stores_19 : decode cX6_stores 19 = .ok (.iload_n 1, 1) := by decide +kernel
theorem dX6_stores_20 : decode cX6_stores 20 = .ok (.iaload, 1) := by decide +kernel
theorem dX6_stores_21 : decode cX6_stores 21 = .ok (.ireturn, 1) := by decide +kernel
theorem dX6_patience_0 : decode cX6_patience 0 = .ok (.aload_n 0, 1) := by decide +kernel
theorem dX6_patience_1 : decode cX6_patience 1 = .ok (.getfield 33, 3) := by decide +kernel
theorem dX6_patience_4 : decode cX6_patience 4 = .ok (.getfield 149, 3) := by decide +kernel
theorem dX6_patience_7 : decode cX6_patience 7 = .ok (.iload_n 1, 1) := by decide +kernel
theorem dX6_patience_8 : decode cX6_patience 8 = .ok (.invokevirtual 153, 3) := by decide +kernel
theorem dX6_patience_11 : decode cX6_patience 11 = .ok (.ifCond .eq 10, 3) := by decide +kernel
theorem dX6_patience_14 : decode cX6_patience 14 = .ok (.iload_n 2, 1) := by decide +kernel
theorem dX6_patience_15 : decode cX6_patience 15 = .ok (.invokestatic 187, 3) := by decide +kernel
theorem dX6_patience_18 : decode cX6_patience 18 = .ok (.ifCond .ne 5, 3) := by decide +kernel
theorem dX6_patience_21 : decode cX6_patience 21 = .ok (.iconst (-1), 1) := by decide +kernel
theorem dX6_patience_22 : decode cX6_patience 22 = .ok (.ireturn, 1) := by decide +kernel
theorem dX6_patience_23 : decode cX6_patience 23 = .ok (.aload_n 0, 1) := by decide +kernel
theorem dX6_patience_24 : decode cX6_patience 24 = .ok (.getfield 33, 3) := by decide +kernel
theorem dX6_patience_27 : decode cX6_patience 27 = .ok (.getfield 149, 3) := by decide +kernel
theorem dX6_patience_30 : decode cX6_patience 30 = .ok (.getfield 190, 3) := by decide +kernel
theorem dX6_patience_33 : decode cX6_patience 33 = .ok (.iload_n 1, 1) := by decide +kernel
theorem dX6_patience_34 : decode cX6_patience 34 = .ok (.iaload, 1) := by decide +kernel
theorem dX6_patience_35 : decode cX6_patience 35 = .ok (.istore_n 3, 1) := by decide +kernel
theorem dX6_patience_36 : decode cX6_patience 36 = .ok (.aload_n 0, 1) := by decide +kernel
theorem dX6_patience_37 : decode cX6_patience 37 = .ok (.getfield 33, 3) := by decide +kernel
theorem dX6_patience_40 : decode cX6_patience 40 = .ok (.getfield 149, 3) := by decide +kernel
theorem dX6_patience_43 : decode cX6_patience 43 = .ok (.getfield 190, 3) := by decide +kernel
theorem dX6_patience_46 : decode cX6_patience 46 = .ok (.iload_n 1, 1) := by decide +kernel
theorem dX6_patience_47 : decode cX6_patience 47 = .ok (.iload_n 2, 1) := by decide +kernel
theorem dX6_patience_48 : decode cX6_patience 48 = .ok (.iastore, 1) := by decide +kernel
theorem dX6_patience_49 : decode cX6_patience 49 = .ok (.iload_n 3, 1) := by decide +kernel
theorem dX6_patience_50 : decode cX6_patience 50 = .ok (.ireturn, 1) := by decide +kernel
theorem dX6_offer_0 : decode cX6_offer 0 = .ok (.aload_n 0, 1) := by decide +kernel
theorem dX6_offer_1 : decode cX6_offer 1 = .ok (.getfield 33, 3) := by decide +kernel
theorem dX6_offer_4 : decode cX6_offer 4 = .ok (.getfield 149, 3) := by decide +kernel
theorem dX6_offer_7 : decode cX6_offer 7 = .ok (.iload_n 1, 1) := by decide +kernel
theorem dX6_offer_8 : decode cX6_offer 8 = .ok (.invokevirtual 193, 3) := by decide +kernel
theorem dX6_offer_11 : decode cX6_offer 11 = .ok (.ifCond .ne 5, 3) := by decide +kernel
theorem dX6_offer_14 : decode cX6_offer 14 = .ok (.iconst (-1), 1) := by decide +kernel
theorem dX6_offer_15 : decode cX6_offer 15 = .ok (.ireturn, 1) := by decide +kernel
theorem dX6_offer_16 : decode cX6_offer 16 = .ok (.aload_n 0, 1) := by decide +kernel
theorem dX6_offer_17 : decode cX6_offer 17 = .ok (.invokevirtual 183, 3) := by decide +kernel
theorem dX6_offer_20 : decode cX6_offer 20 = .ok (.ifCond .ne 26, 3) := by decide +kernel
theorem dX6_offer_23 : decode cX6_offer 23 = .ok (.aload_n 0, 1) := by decide +kernel
theorem dX6_offer_24 : decode cX6_offer 24 = .ok (.getfield 33, 3) := by decide +kernel
theorem dX6_offer_27 : decode cX6_offer 27 = .ok (.getfield 167, 3) := by decide +kernel
theorem dX6_offer_30 : decode cX6_offer 30 = .ok (.aload_n 0, 1) := by decide +kernel
theorem dX6_offer_31 : decode cX6_offer 31 = .ok (.getfield 33, 3) := by decide +kernel
theorem dX6_offer_34 : decode cX6_offer 34 = .ok (.getfield 149, 3) := by decide +kernel
theorem dX6_offer_37 : decode cX6_offer 37 = .ok (.iload_n 1, 1) := by decide +kernel
theorem dX6_offer_38 : decode cX6_offer 38 = .ok (.invokevirtual 196, 3) := by decide +kernel
theorem dX6_offer_41 : decode cX6_offer 41 = .ok (.bipush (-9), 2) := by decide +kernel
theorem dX6_offer_43 : decode cX6_offer 43 = .ok (.if_icmp .ne 6, 3) := by decide +kernel
theorem dX6_offer_46 : decode cX6_offer 46 = .ok (.bipush (-4), 2) := by decide +kernel
theorem dX6_offer_48 : decode cX6_offer 48 = .ok (.ireturn, 1) := by decide +kernel
theorem dX6_offer_49 : decode cX6_offer 49 = .ok (.aload_n 0, 1) := by decide +kernel
theorem dX6_offer_50 : decode cX6_offer 50 = .ok (.getfield 33, 3) := by decide +kernel
theorem dX6_offer_53 : decode cX6_offer 53 = .ok (.getfield 167, 3) := by decide +kernel
theorem dX6_offer_56 : decode cX6_offer 56 = .ok (.getfield 200, 3) := by decide +kernel
theorem dX6_offer_59 : decode cX6_offer 59 = .ok (.sipush 200, 3) := by decide +kernel
theorem dX6_offer_62 : decode cX6_offer 62 = .ok (.if_icmp .lt 6, 3) := by decide +kernel
theorem dX6_offer_65 : decode cX6_offer 65 = .ok (.bipush (-2), 2) := by decide +kernel
theorem dX6_offer_67 : decode cX6_offer 67 = .ok (.ireturn, 1) := by decide +kernel
theorem dX6_offer_68 : decode cX6_offer 68 = .ok (.aload_n 0, 1) := by decide +kernel
theorem dX6_offer_69 : decode cX6_offer 69 = .ok (.aload_n 0, 1) := by decide +kernel
theorem dX6_offer_70 : decode cX6_offer 70 = .ok (.getfield 33, 3) := by decide +kernel
theorem dX6_offer_73 : decode cX6_offer 73 = .ok (.iload_n 1, 1) := by decide +kernel
theorem dX6_offer_74 : decode cX6_offer 74 = .ok (.invokevirtual 203, 3) := by decide +kernel
theorem dX6_offer_77 : decode cX6_offer 77 = .ok (.invokevirtual 103, 3) := by decide +kernel
theorem dX6_offer_80 : decode cX6_offer 80 = .ok (.iconst 1, 1) := by decide +kernel
theorem dX6_offer_81 : decode cX6_offer 81 = .ok (.ireturn, 1) := by decide +kernel
theorem dX6_may_0 : decode cX6_may 0 = .ok (.aload_n 0, 1) := by decide +kernel
theorem dX6_may_1 : decode cX6_may 1 = .ok (.getfield 33, 3) := by decide +kernel
theorem dX6_may_4 : decode cX6_may 4 = .ok (.getfield 149, 3) := by decide +kernel
theorem dX6_may_7 : decode cX6_may 7 = .ok (.iload_n 1, 1) := by decide +kernel
theorem dX6_may_8 : decode cX6_may 8 = .ok (.invokevirtual 193, 3) := by decide +kernel
theorem dX6_may_11 : decode cX6_may 11 = .ok (.ifCond .ne 5, 3) := by decide +kernel
theorem dX6_may_14 : decode cX6_may 14 = .ok (.iconst (-1), 1) := by decide +kernel
theorem dX6_may_15 : decode cX6_may 15 = .ok (.ireturn, 1) := by decide +kernel
theorem dX6_may_16 : decode cX6_may 16 = .ok (.aload_n 0, 1) := by decide +kernel
theorem dX6_may_17 : decode cX6_may 17 = .ok (.invokevirtual 183, 3) := by decide +kernel
theorem dX6_may_20 : decode cX6_may 20 = .ok (.ifCond .eq 6, 3) := by decide +kernel
theorem dX6_may_23 : decode cX6_may 23 = .ok (.bipush (-4), 2) := by decide +kernel
theorem dX6_may_25 : decode cX6_may 25 = .ok (.ireturn, 1) := by decide +kernel
theorem dX6_may_26 : decode cX6_may 26 = .ok (.aload_n 0, 1) := by decide +kernel
theorem dX6_may_27 : decode cX6_may 27 = .ok (.getfield 33, 3) := by decide +kernel
theorem dX6_may_30 : decode cX6_may 30 = .ok (.getfield 167, 3) := by decide +kernel
theorem dX6_may_33 : decode cX6_may 33 = .ok (.aload_n 0, 1) := by decide +kernel
theorem dX6_may_34 : decode cX6_may 34 = .ok (.getfield 33, 3) := by decide +kernel
theorem dX6_may_37 : decode cX6_may 37 = .ok (.getfield 149, 3) := by decide +kernel
theorem dX6_may_40 : decode cX6_may 40 = .ok (.iload_n 1, 1) := by decide +kernel
theorem dX6_may_41 : decode cX6_may 41 = .ok (.invokevirtual 196, 3) := by decide +kernel
theorem dX6_may_44 : decode cX6_may 44 = .ok (.ireturn, 1) := by decide +kernel
theorem dX6_rest_0 : decode cX6_rest 0 = .ok (.iload_n 1, 1) := by decide +kernel
theorem dX6_rest_1 : decode cX6_rest 1 = .ok (.ifCond .lt 9, 3) := by decide +kernel
theorem dX6_rest_4 : decode cX6_rest 4 = .ok (.iload_n 1, 1) := by decide +kernel
theorem dX6_rest_5 : decode cX6_rest 5 = .ok (.bipush 30, 2) := by decide +kernel
theorem dX6_rest_7 : decode cX6_rest 7 = .ok (.if_icmp .le 5, 3) := by decide +kernel
theorem dX6_rest_10 : decode cX6_rest 10 = .ok (.iconst (-1), 1) := by decide +kernel
theorem dX6_rest_11 : decode cX6_rest 11 = .ok (.ireturn, 1) := by decide +kernel
theorem dX6_rest_12 : decode cX6_rest 12 = .ok (.aload_n 0, 1) := by decide +kernel
theorem dX6_rest_13 : decode cX6_rest 13 = .ok (.invokevirtual 183, 3) := by decide +kernel
theorem dX6_rest_16 : decode cX6_rest 16 = .ok (.ifCond .eq 6, 3) := by decide +kernel
theorem dX6_rest_19 : decode cX6_rest 19 = .ok (.bipush (-4), 2) := by decide +kernel
theorem dX6_rest_21 : decode cX6_rest 21 = .ok (.ireturn, 1) := by decide +kernel
theorem dX6_rest_22 : decode cX6_rest 22 = .ok (.aload_n 0, 1) := by decide +kernel
theorem dX6_rest_23 : decode cX6_rest 23 = .ok (.getfield 33, 3) := by decide +kernel
theorem dX6_rest_26 : decode cX6_rest 26 = .ok (.getfield 167, 3) := by decide +kernel
theorem dX6_rest_29 : decode cX6_rest 29 = .ok (.getfield 200, 3) := by decide +kernel
theorem dX6_rest_32 : decode cX6_rest 32 = .ok (.iload_n 1, 1) := by decide +kernel
theorem dX6_rest_33 : decode cX6_rest 33 = .ok (.iadd, 1) := by decide +kernel
theorem dX6_rest_34 : decode cX6_rest 34 = .ok (.sipush 200, 3) := by decide +kernel
theorem dX6_rest_37 : decode cX6_rest 37 = .ok (.if_icmp .le 6, 3) := by decide +kernel
theorem dX6_rest_40 : decode cX6_rest 40 = .ok (.bipush (-2), 2) := by decide +kernel
theorem dX6_rest_42 : decode cX6_rest 42 = .ok (.ireturn, 1) := by decide +kernel
theorem dX6_rest_43 : decode cX6_rest 43 = .ok (.iconst 0, 1) := by decide +kernel
theorem dX6_rest_44 : decode cX6_rest 44 = .ok (.istore_n 2, 1) := by decide +kernel
theorem dX6_rest_45 : decode cX6_rest 45 = .ok (.iconst 0, 1) := by decide +kernel
theorem dX6_rest_46 : decode cX6_rest 46 = .ok (.istore_n 3, 1) := by decide +kernel
theorem dX6_rest_47 : decode cX6_rest 47 = .ok (.iload_n 3, 1) := by decide +kernel
theorem dX6_rest_48 : decode cX6_rest 48 = .ok (.iload_n 1, 1) := by decide +kernel
theorem dX6_rest_49 : decode cX6_rest 49 = .ok (.if_icmp .ge 21, 3) := by decide +kernel
theorem dX6_rest_52 : decode cX6_rest 52 = .ok (.iload_n 2, 1) := by decide +kernel
theorem dX6_rest_53 : decode cX6_rest 53 = .ok (.aload_n 0, 1) := by decide +kernel
theorem dX6_rest_54 : decode cX6_rest 54 = .ok (.getfield 33, 3) := by decide +kernel
theorem dX6_rest_57 : decode cX6_rest 57 = .ok (.bipush 12, 2) := by decide +kernel
theorem dX6_rest_59 : decode cX6_rest 59 = .ok (.invokevirtual 203, 3) := by decide +kernel
theorem dX6_rest_62 : decode cX6_rest 62 = .ok (.iadd, 1) := by decide +kernel
theorem dX6_rest_63 : decode cX6_rest 63 = .ok (.istore_n 2, 1) := by decide +kernel
theorem dX6_rest_64 : decode cX6_rest 64 = .ok (.iinc 3 1, 3) := by decide +kernel
theorem dX6_rest_67 : decode cX6_rest 67 = .ok (.goto (-20), 3) := by decide +kernel
theorem dX6_rest_70 : decode cX6_rest 70 = .ok (.aload_n 0, 1) := by decide +kernel
theorem dX6_rest_71 : decode cX6_rest 71 = .ok (.iload_n 2, 1) := by decide +kernel
theorem dX6_rest_72 : decode cX6_rest 72 = .ok (.invokevirtual 103, 3) := by decide +kernel
theorem dX6_rest_75 : decode cX6_rest 75 = .ok (.iconst 1, 1) := by decide +kernel
theorem dX6_rest_76 : decode cX6_rest 76 = .ok (.ireturn, 1) := by decide +kernel
theorem dX6_sent_0 : decode cX6_sent 0 = .ok (.iload_n 1, 1) := by decide +kernel
theorem dX6_sent_1 : decode cX6_sent 1 = .ok (.ifCond .lt 17, 3) := by decide +kernel
theorem dX6_sent_4 : decode cX6_sent 4 = .ok (.aload_n 0, 1) := by decide +kernel
theorem dX6_sent_5 : decode cX6_sent 5 = .ok (.getfield 33, 3) := by decide +kernel
theorem dX6_sent_8 : decode cX6_sent 8 = .ok (.getfield 149, 3) := by decide +kernel
theorem dX6_sent_11 : decode cX6_sent 11 = .ok (.iload_n 2, 1) := by decide +kernel
theorem dX6_sent_12 : decode cX6_sent 12 = .ok (.invokevirtual 153, 3) := by decide +kernel
theorem dX6_sent_15 : decode cX6_sent 15 = .ok (.ifCond .ne 5, 3) := by decide +kernel
theorem dX6_sent_18 : decode cX6_sent 18 = .ok (.iconst (-1), 1) := by decide +kernel
theorem dX6_sent_19 : decode cX6_sent 19 = .ok (.ireturn, 1) := by decide +kernel
theorem dX6_sent_20 : decode cX6_sent 20 = .ok (.iload_n 1, 1) := by decide +kernel
theorem dX6_sent_21 : decode cX6_sent 21 = .ok (.aload_n 0, 1) := by decide +kernel
theorem dX6_sent_22 : decode cX6_sent 22 = .ok (.getfield 33, 3) := by decide +kernel
theorem dX6_sent_25 : decode cX6_sent 25 = .ok (.getfield 167, 3) := by decide +kernel
theorem dX6_sent_28 : decode cX6_sent 28 = .ok (.getfield 200, 3) := by decide +kernel
theorem dX6_sent_31 : decode cX6_sent 31 = .ok (.if_icmp .lt 9, 3) := by decide +kernel
theorem dX6_sent_34 : decode cX6_sent 34 = .ok (.aload_n 0, 1) := by decide +kernel
theorem dX6_sent_35 : decode cX6_sent 35 = .ok (.iconst 2, 1) := by decide +kernel
theorem dX6_sent_36 : decode cX6_sent 36 = .ok (.invokevirtual 87, 3) := by decide +kernel
theorem dX6_sent_39 : decode cX6_sent 39 = .ok (.ireturn, 1) := by decide +kernel
theorem dX6_sent_40 : decode cX6_sent 40 = .ok (.aload_n 0, 1) := by decide +kernel
theorem dX6_sent_41 : decode cX6_sent 41 = .ok (.aload_n 0, 1) := by decide +kernel
theorem dX6_sent_42 : decode cX6_sent 42 = .ok (.getfield 33, 3) := by decide +kernel
theorem dX6_sent_45 : decode cX6_sent 45 = .ok (.iload_n 1, 1) := by decide +kernel
theorem dX6_sent_46 : decode cX6_sent 46 = .ok (.iload_n 2, 1) := by decide +kernel
theorem dX6_sent_47 : decode cX6_sent 47 = .ok (.invokevirtual 206, 3) := by decide +kernel
theorem dX6_sent_50 : decode cX6_sent 50 = .ok (.invokevirtual 103, 3) := by decide +kernel
theorem dX6_sent_53 : decode cX6_sent 53 = .ok (.iconst 1, 1) := by decide +kernel
theorem dX6_sent_54 : decode cX6_sent 54 = .ok (.ireturn, 1) := by decide +kernel
theorem dX6_offered_0 : decode cX6_offered 0 = .ok (.iload_n 1, 1) := by decide +kernel
theorem dX6_offered_1 : decode cX6_offered 1 = .ok (.ifCond .ge 5, 3) := by decide +kernel
theorem dX6_offered_4 : decode cX6_offered 4 = .ok (.iconst (-1), 1) := by decide +kernel
theorem dX6_offered_5 : decode cX6_offered 5 = .ok (.ireturn, 1) := by decide +kernel
theorem dX6_offered_6 : decode cX6_offered 6 = .ok (.iload_n 1, 1) := by decide +kernel
theorem dX6_offered_7 : decode cX6_offered 7 = .ok (.aload_n 0, 1) := by decide +kernel
theorem dX6_offered_8 : decode cX6_offered 8 = .ok (.getfield 33, 3) := by decide +kernel
theorem dX6_offered_11 : decode cX6_offered 11 = .ok (.getfield 167, 3) := by decide +kernel
theorem dX6_offered_14 : decode cX6_offered 14 = .ok (.getfield 200, 3) := by decide +kernel
theorem dX6_offered_17 : decode cX6_offered 17 = .ok (.if_icmp .lt 9, 3) := by decide +kernel
theorem dX6_offered_20 : decode cX6_offered 20 = .ok (.aload_n 0, 1) := by decide +kernel
theorem dX6_offered_21 : decode cX6_offered 21 = .ok (.iconst 2, 1) := by decide +kernel
theorem dX6_offered_22 : decode cX6_offered 22 = .ok (.invokevirtual 87, 3) := by decide +kernel
theorem dX6_offered_25 : decode cX6_offered 25 = .ok (.ireturn, 1) := by decide +kernel
theorem dX6_offered_26 : decode cX6_offered 26 = .ok (.aload_n 0, 1) := by decide +kernel
theorem dX6_offered_27 : decode cX6_offered 27 = .ok (.getfield 33, 3) := by decide +kernel
theorem dX6_offered_30 : decode cX6_offered 30 = .ok (.iload_n 1, 1) := by decide +kernel
theorem dX6_offered_31 : decode cX6_offered 31 = .ok (.invokevirtual 209, 3) := by decide +kernel
theorem dX6_offered_34 : decode cX6_offered 34 = .ok (.ireturn, 1) := by decide +kernel
theorem dX6_undo_0 : decode cX6_undo 0 = .ok (.aload_n 0, 1) := by decide +kernel
theorem dX6_undo_1 : decode cX6_undo 1 = .ok (.getfield 33, 3) := by decide +kernel
theorem dX6_undo_4 : decode cX6_undo 4 = .ok (.getfield 167, 3) := by decide +kernel
theorem dX6_undo_7 : decode cX6_undo 7 = .ok (.getfield 200, 3) := by decide +kernel
theorem dX6_undo_10 : decode cX6_undo 10 = .ok (.istore_n 2, 1) := by decide +kernel
theorem dX6_undo_11 : decode cX6_undo 11 = .ok (.iload_n 1, 1) := by decide +kernel
theorem dX6_undo_12 : decode cX6_undo 12 = .ok (.ifCond .lt 8, 3) := by decide +kernel
theorem dX6_undo_15 : decode cX6_undo 15 = .ok (.iload_n 1, 1) := by decide +kernel
theorem dX6_undo_16 : decode cX6_undo 16 = .ok (.iload_n 2, 1) := by decide +kernel
theorem dX6_undo_17 : decode cX6_undo 17 = .ok (.if_icmp .le 5, 3) := by decide +kernel
theorem dX6_undo_20 : decode cX6_undo 20 = .ok (.iconst (-1), 1) := by decide +kernel
theorem dX6_undo_21 : decode cX6_undo 21 = .ok (.ireturn, 1) := by decide +kernel
theorem dX6_undo_22 : decode cX6_undo 22 = .ok (.aload_n 0, 1) := by decide +kernel
theorem dX6_undo_23 : decode cX6_undo 23 = .ok (.getfield 33, 3) := by decide +kernel
theorem dX6_undo_26 : decode cX6_undo 26 = .ok (.iload_n 1, 1) := by decide +kernel
theorem dX6_undo_27 : decode cX6_undo 27 = .ok (.invokevirtual 212, 3) := by decide +kernel
theorem dX6_undo_30 : decode cX6_undo 30 = .ok (.iload_n 2, 1) := by decide +kernel
theorem dX6_undo_31 : decode cX6_undo 31 = .ok (.iload_n 1, 1) := by decide +kernel
theorem dX6_undo_32 : decode cX6_undo 32 = .ok (.isub, 1) := by decide +kernel
theorem dX6_undo_33 : decode cX6_undo 33 = .ok (.ireturn, 1) := by decide +kernel
theorem dX6_sums_0 : decode cX6_sums 0 = .ok (.aload_n 0, 1) := by decide +kernel
theorem dX6_sums_1 : decode cX6_sums 1 = .ok (.aload_n 0, 1) := by decide +kernel
theorem dX6_sums_2 : decode cX6_sums 2 = .ok (.getfield 33, 3) := by decide +kernel
theorem dX6_sums_5 : decode cX6_sums 5 = .ok (.getfield 167, 3) := by decide +kernel
theorem dX6_sums_8 : decode cX6_sums 8 = .ok (.getfield 215, 3) := by decide +kernel
theorem dX6_sums_11 : decode cX6_sums 11 = .ok (.invokevirtual 103, 3) := by decide +kernel
theorem dX6_sums_14 : decode cX6_sums 14 = .ok (.aload_n 0, 1) := by decide +kernel
theorem dX6_sums_15 : decode cX6_sums 15 = .ok (.getfield 33, 3) := by decide +kernel
theorem dX6_sums_18 : decode cX6_sums 18 = .ok (.getfield 167, 3) := by decide +kernel
theorem dX6_sums_21 : decode cX6_sums 21 = .ok (.getfield 218, 3) := by decide +kernel
theorem dX6_sums_24 : decode cX6_sums 24 = .ok (.ireturn, 1) := by decide +kernel
theorem dX6_keep_0 : decode cX6_keep 0 = .ok (.aload_n 0, 1) := by decide +kernel
theorem dX6_keep_1 : decode cX6_keep 1 = .ok (.iload_n 1, 1) := by decide +kernel
theorem dX6_keep_2 : decode cX6_keep 2 = .ok (.invokevirtual 221, 3) := by decide +kernel
theorem dX6_keep_5 : decode cX6_keep 5 = .ok (.ifCond .ne 5, 3) := by decide +kernel
theorem dX6_keep_8 : decode cX6_keep 8 = .ok (.iconst (-1), 1) := by decide +kernel
theorem dX6_keep_9 : decode cX6_keep 9 = .ok (.ireturn, 1) := by decide +kernel
theorem dX6_keep_10 : decode cX6_keep 10 = .ok (.aload_n 0, 1) := by decide +kernel
theorem dX6_keep_11 : decode cX6_keep 11 = .ok (.invokevirtual 183, 3) := by decide +kernel
theorem dX6_keep_14 : decode cX6_keep 14 = .ok (.ifCond .eq 6, 3) := by decide +kernel
theorem dX6_keep_17 : decode cX6_keep 17 = .ok (.bipush (-4), 2) := by decide +kernel
theorem dX6_keep_19 : decode cX6_keep 19 = .ok (.ireturn, 1) := by decide +kernel
theorem dX6_keep_20 : decode cX6_keep 20 = .ok (.aload_n 0, 1) := by decide +kernel
theorem dX6_keep_21 : decode cX6_keep 21 = .ok (.getfield 37, 3) := by decide +kernel
theorem dX6_keep_24 : decode cX6_keep 24 = .ok (.iload_n 1, 1) := by decide +kernel
theorem dX6_keep_25 : decode cX6_keep 25 = .ok (.aaload, 1) := by decide +kernel
theorem dX6_keep_26 : decode cX6_keep 26 = .ok (.aload_n 0, 1) := by decide +kernel
theorem dX6_keep_27 : decode cX6_keep 27 = .ok (.getfield 33, 3) := by decide +kernel
theorem dX6_keep_30 : decode cX6_keep 30 = .ok (.invokevirtual 224, 3) := by decide +kernel
theorem dX6_keep_33 : decode cX6_keep 33 = .ok (.aload_n 0, 1) := by decide +kernel
theorem dX6_keep_34 : decode cX6_keep 34 = .ok (.getfield 37, 3) := by decide +kernel
theorem dX6_keep_37 : decode cX6_keep 37 = .ok (.iload_n 1, 1) := by decide +kernel
theorem dX6_keep_38 : decode cX6_keep 38 = .ok (.aaload, 1) := by decide +kernel
theorem dX6_keep_39 : decode cX6_keep 39 = .ok (.iconst 1, 1) := by decide +kernel
theorem dX6_keep_40 : decode cX6_keep 40 = .ok (.putfield 145, 3) := by decide +kernel
theorem dX6_keep_43 : decode cX6_keep 43 = .ok (.aload_n 0, 1) := by decide +kernel
theorem dX6_keep_44 : decode cX6_keep 44 = .ok (.getfield 33, 3) := by decide +kernel
theorem dX6_keep_47 : decode cX6_keep 47 = .ok (.getfield 167, 3) := by decide +kernel
theorem dX6_keep_50 : decode cX6_keep 50 = .ok (.getfield 200, 3) := by decide +kernel
theorem dX6_keep_53 : decode cX6_keep 53 = .ok (.ireturn, 1) := by decide +kernel
theorem dX6_on_0 : decode cX6_on 0 = .ok (.aload_n 0, 1) := by decide +kernel
theorem dX6_on_1 : decode cX6_on 1 = .ok (.iload_n 1, 1) := by decide +kernel
theorem dX6_on_2 : decode cX6_on 2 = .ok (.invokevirtual 221, 3) := by decide +kernel
theorem dX6_on_5 : decode cX6_on 5 = .ok (.ifCond .ne 5, 3) := by decide +kernel
theorem dX6_on_8 : decode cX6_on 8 = .ok (.iconst (-1), 1) := by decide +kernel
theorem dX6_on_9 : decode cX6_on 9 = .ok (.ireturn, 1) := by decide +kernel
theorem dX6_on_10 : decode cX6_on 10 = .ok (.aload_n 0, 1) := by decide +kernel
theorem dX6_on_11 : decode cX6_on 11 = .ok (.getfield 37, 3) := by decide +kernel
theorem dX6_on_14 : decode cX6_on 14 = .ok (.iload_n 1, 1) := by decide +kernel
theorem dX6_on_15 : decode cX6_on 15 = .ok (.aaload, 1) := by decide +kernel
theorem dX6_on_16 : decode cX6_on 16 = .ok (.getfield 145, 3) := by decide +kernel
theorem dX6_on_19 : decode cX6_on 19 = .ok (.ifCond .ne 9, 3) := by decide +kernel
theorem dX6_on_22 : decode cX6_on 22 = .ok (.aload_n 0, 1) := by decide +kernel
theorem dX6_on_23 : decode cX6_on 23 = .ok (.iconst 1, 1) := by decide +kernel
theorem dX6_on_24 : decode cX6_on 24 = .ok (.invokevirtual 87, 3) := by decide +kernel
theorem dX6_on_27 : decode cX6_on 27 = .ok (.ireturn, 1) := by decide +kernel
theorem dX6_on_28 : decode cX6_on 28 = .ok (.aload_n 0, 1) := by decide +kernel
theorem dX6_on_29 : decode cX6_on 29 = .ok (.getfield 33, 3) := by decide +kernel
theorem dX6_on_32 : decode cX6_on 32 = .ok (.aload_n 0, 1) := by decide +kernel
theorem dX6_on_33 : decode cX6_on 33 = .ok (.getfield 37, 3) := by decide +kernel
theorem dX6_on_36 : decode cX6_on 36 = .ok (.iload_n 1, 1) := by decide +kernel
theorem dX6_on_37 : decode cX6_on 37 = .ok (.aaload, 1) := by decide +kernel
theorem dX6_on_38 : decode cX6_on 38 = .ok (.invokevirtual 224, 3) := by decide +kernel
theorem dX6_on_41 : decode cX6_on 41 = .ok (.aload_n 0, 1) := by decide +kernel
theorem dX6_on_42 : decode cX6_on 42 = .ok (.getfield 33, 3) := by decide +kernel
theorem dX6_on_45 : decode cX6_on 45 = .ok (.getfield 167, 3) := by decide +kernel
theorem dX6_on_48 : decode cX6_on 48 = .ok (.getfield 200, 3) := by decide +kernel
theorem dX6_on_51 : decode cX6_on 51 = .ok (.ireturn, 1) := by decide +kernel
theorem dX6_best_0 : decode cX6_best 0 = .ok (.iload_n 1, 1) := by decide +kernel
theorem dX6_best_1 : decode cX6_best 1 = .ok (.invokestatic 228, 3) := by decide +kernel
theorem dX6_best_4 : decode cX6_best 4 = .ok (.ifCond .eq 14, 3) := by decide +kernel
theorem dX6_best_7 : decode cX6_best 7 = .ok (.aload_n 0, 1) := by decide +kernel
theorem dX6_best_8 : decode cX6_best 8 = .ok (.getfield 16, 3) := by decide +kernel
theorem dX6_best_11 : decode cX6_best 11 = .ok (.iload_n 2, 1) := by decide +kernel
theorem dX6_best_12 : decode cX6_best 12 = .ok (.invokevirtual 83, 3) := by decide +kernel
theorem dX6_best_15 : decode cX6_best 15 = .ok (.ifCond .ne 5, 3) := by decide +kernel
theorem dX6_best_18 : decode cX6_best 18 = .ok (.iconst (-1), 1) := by decide +kernel
theorem dX6_best_19 : decode cX6_best 19 = .ok (.ireturn, 1) := by decide +kernel
theorem dX6_best_20 : decode cX6_best 20 = .ok (.aload_n 0, 1) := by decide +kernel
theorem dX6_best_21 : decode cX6_best 21 = .ok (.invokevirtual 183, 3) := by decide +kernel
theorem dX6_best_24 : decode cX6_best 24 = .ok (.ifCond .eq 6, 3) := by decide +kernel
theorem dX6_best_27 : decode cX6_best 27 = .ok (.bipush (-4), 2) := by decide +kernel
theorem dX6_best_29 : decode cX6_best 29 = .ok (.ireturn, 1) := by decide +kernel
theorem dX6_best_30 : decode cX6_best 30 = .ok (.aload_n 0, 1) := by decide +kernel
theorem dX6_best_31 : decode cX6_best 31 = .ok (.getfield 44, 3) := by decide +kernel
theorem dX6_best_34 : decode cX6_best 34 = .ok (.aload_n 0, 1) := by decide +kernel
theorem dX6_best_35 : decode cX6_best 35 = .ok (.getfield 33, 3) := by decide +kernel
theorem dX6_best_38 : decode cX6_best 38 = .ok (.getfield 149, 3) := by decide +kernel
theorem dX6_best_41 : decode cX6_best 41 = .ok (.aload_n 0, 1) := by decide +kernel
theorem dX6_best_42 : decode cX6_best 42 = .ok (.getfield 33, 3) := by decide +kernel
theorem dX6_best_45 : decode cX6_best 45 = .ok (.getfield 167, 3) := by decide +kernel
theorem dX6_best_48 : decode cX6_best 48 = .ok (.iload_n 1, 1) := by decide +kernel
theorem dX6_best_49 : decode cX6_best 49 = .ok (.invokevirtual 231, 3) := by decide +kernel
theorem dX6_best_52 : decode cX6_best 52 = .ok (.aload_n 0, 1) := by decide +kernel
theorem dX6_best_53 : decode cX6_best 53 = .ok (.aload_n 0, 1) := by decide +kernel
theorem dX6_best_54 : decode cX6_best 54 = .ok (.getfield 44, 3) := by decide +kernel
theorem dX6_best_57 : decode cX6_best 57 = .ok (.getfield 235, 3) := by decide +kernel
theorem dX6_best_60 : decode cX6_best 60 = .ok (.invokevirtual 103, 3) := by decide +kernel
theorem dX6_best_63 : decode cX6_best 63 = .ok (.aload_n 0, 1) := by decide +kernel
theorem dX6_best_64 : decode cX6_best 64 = .ok (.getfield 16, 3) := by decide +kernel
theorem dX6_best_67 : decode cX6_best 67 = .ok (.iload_n 2, 1) := by decide +kernel
theorem dX6_best_68 : decode cX6_best 68 = .ok (.aload_n 0, 1) := by decide +kernel
theorem dX6_best_69 : decode cX6_best 69 = .ok (.getfield 44, 3) := by decide +kernel
theorem dX6_best_72 : decode cX6_best 72 = .ok (.getfield 238, 3) := by decide +kernel
theorem dX6_best_75 : decode cX6_best 75 = .ok (.iload_n 1, 1) := by decide +kernel
theorem dX6_best_76 : decode cX6_best 76 = .ok (.invokevirtual 241, 3) := by decide +kernel
theorem dX6_best_79 : decode cX6_best 79 = .ok (.iconst 1, 1) := by decide +kernel
theorem dX6_best_80 : decode cX6_best 80 = .ok (.ireturn, 1) := by decide +kernel
theorem dX6_tries_0 : decode cX6_tries 0 = .ok (.aload_n 0, 1) := by decide +kernel
theorem dX6_tries_1 : decode cX6_tries 1 = .ok (.getfield 16, 3) := by decide +kernel
theorem dX6_tries_4 : decode cX6_tries 4 = .ok (.iload_n 1, 1) := by decide +kernel
theorem dX6_tries_5 : decode cX6_tries 5 = .ok (.invokevirtual 83, 3) := by decide +kernel
theorem dX6_tries_8 : decode cX6_tries 8 = .ok (.ifCond .ne 5, 3) := by decide +kernel
theorem dX6_tries_11 : decode cX6_tries 11 = .ok (.iconst (-1), 1) := by decide +kernel
theorem dX6_tries_12 : decode cX6_tries 12 = .ok (.ireturn, 1) := by decide +kernel
theorem dX6_tries_13 : decode cX6_tries 13 = .ok (.aload_n 0, 1) := by decide +kernel
theorem dX6_tries_14 : decode cX6_tries 14 = .ok (.invokevirtual 183, 3) := by decide +kernel
theorem dX6_tries_17 : decode cX6_tries 17 = .ok (.ifCond .eq 6, 3) := by decide +kernel
theorem dX6_tries_20 : decode cX6_tries 20 = .ok (.bipush (-4), 2) := by decide +kernel
theorem dX6_tries_22 : decode cX6_tries 22 = .ok (.ireturn, 1) := by decide +kernel
theorem dX6_tries_23 : decode cX6_tries 23 = .ok (.aload_n 0, 1) := by decide +kernel
theorem dX6_tries_24 : decode cX6_tries 24 = .ok (.getfield 16, 3) := by decide +kernel
theorem dX6_tries_27 : decode cX6_tries 27 = .ok (.iload_n 1, 1) := by decide +kernel
theorem dX6_tries_28 : decode cX6_tries 28 = .ok (.invokevirtual 110, 3) := by decide +kernel
theorem dX6_tries_31 : decode cX6_tries 31 = .ok (.ifCond .ne 9, 3) := by decide +kernel
theorem dX6_tries_34 : decode cX6_tries 34 = .ok (.aload_n 0, 1) := by decide +kernel
theorem dX6_tries_35 : decode cX6_tries 35 = .ok (.iconst 1, 1) := by decide +kernel
theorem dX6_tries_36 : decode cX6_tries 36 = .ok (.invokevirtual 87, 3) := by decide +kernel
theorem dX6_tries_39 : decode cX6_tries 39 = .ok (.ireturn, 1) := by decide +kernel
theorem dX6_tries_40 : decode cX6_tries 40 = .ok (.aload_n 0, 1) := by decide +kernel
theorem dX6_tries_41 : decode cX6_tries 41 = .ok (.getfield 16, 3) := by decide +kernel
theorem dX6_tries_44 : decode cX6_tries 44 = .ok (.iload_n 1, 1) := by decide +kernel
theorem dX6_tries_45 : decode cX6_tries 45 = .ok (.invokevirtual 124, 3) := by decide +kernel
theorem dX6_tries_48 : decode cX6_tries 48 = .ok (.bipush 30, 2) := by decide +kernel
theorem dX6_tries_50 : decode cX6_tries 50 = .ok (.if_icmp .le 9, 3) := by decide +kernel
theorem dX6_tries_53 : decode cX6_tries 53 = .ok (.aload_n 0, 1) := by decide +kernel
theorem dX6_tries_54 : decode cX6_tries 54 = .ok (.iconst 5, 1) := by decide +kernel
theorem dX6_tries_55 : decode cX6_tries 55 = .ok (.invokevirtual 87, 3) := by decide +kernel
theorem dX6_tries_58 : decode cX6_tries 58 = .ok (.ireturn, 1) := by decide +kernel
theorem dX6_tries_59 : decode cX6_tries 59 = .ok (.aload_n 0, 1) := by decide +kernel
theorem dX6_tries_60 : decode cX6_tries 60 = .ok (.iload_n 1, 1) := by decide +kernel
theorem dX6_tries_61 : decode cX6_tries 61 = .ok (.invokevirtual 245, 3) := by decide +kernel
theorem dX6_tries_64 : decode cX6_tries 64 = .ok (.ifCond .ne 9, 3) := by decide +kernel
theorem dX6_tries_67 : decode cX6_tries 67 = .ok (.aload_n 0, 1) := by decide +kernel
theorem dX6_tries_68 : decode cX6_tries 68 = .ok (.iconst 3, 1) := by decide +kernel
theorem dX6_tries_69 : decode cX6_tries 69 = .ok (.invokevirtual 87, 3) := by decide +kernel
theorem dX6_tries_72 : decode cX6_tries 72 = .ok (.ireturn, 1) := by decide +kernel
theorem dX6_tries_73 : decode cX6_tries 73 = .ok (.aload_n 0, 1) := by decide +kernel
theorem dX6_tries_74 : decode cX6_tries 74 = .ok (.invokevirtual 248, 3) := by decide +kernel
theorem dX6_tries_77 : decode cX6_tries 77 = .ok (.iconst 0, 1) := by decide +kernel
theorem dX6_tries_78 : decode cX6_tries 78 = .ok (.istore_n 2, 1) := by decide +kernel
theorem dX6_tries_79 : decode cX6_tries 79 = .ok (.iconst 0, 1) := by decide +kernel
theorem dX6_tries_80 : decode cX6_tries 80 = .ok (.istore_n 3, 1) := by decide +kernel
theorem dX6_tries_81 : decode cX6_tries 81 = .ok (.iload_n 3, 1) := by decide +kernel
theorem dX6_tries_82 : decode cX6_tries 82 = .ok (.aload_n 0, 1) := by decide +kernel
theorem dX6_tries_83 : decode cX6_tries 83 = .ok (.getfield 16, 3) := by decide +kernel
theorem dX6_tries_86 : decode cX6_tries 86 = .ok (.iload_n 1, 1) := by decide +kernel
theorem dX6_tries_87 : decode cX6_tries 87 = .ok (.invokevirtual 124, 3) := by decide +kernel
theorem dX6_tries_90 : decode cX6_tries 90 = .ok (.if_icmp .ge 41, 3) := by decide +kernel
theorem dX6_tries_93 : decode cX6_tries 93 = .ok (.aload_n 0, 1) := by decide +kernel
theorem dX6_tries_94 : decode cX6_tries 94 = .ok (.getfield 58, 3) := by decide +kernel
theorem dX6_tries_97 : decode cX6_tries 97 = .ok (.aload_n 0, 1) := by decide +kernel
theorem dX6_tries_98 : decode cX6_tries 98 = .ok (.getfield 33, 3) := by decide +kernel
theorem dX6_tries_101 : decode cX6_tries 101 = .ok (.getfield 149, 3) := by decide +kernel
theorem dX6_tries_104 : decode cX6_tries 104 = .ok (.aload_n 0, 1) := by decide +kernel
theorem dX6_tries_105 : decode cX6_tries 105 = .ok (.getfield 16, 3) := by decide +kernel
theorem dX6_tries_108 : decode cX6_tries 108 = .ok (.iload_n 1, 1) := by decide +kernel
theorem dX6_tries_109 : decode cX6_tries 109 = .ok (.iload_n 3, 1) := by decide +kernel
theorem dX6_tries_110 : decode cX6_tries 110 = .ok (.invokevirtual 99, 3) := by decide +kernel
theorem dX6_tries_113 : decode cX6_tries 113 = .ok (.invokevirtual 251, 3) := by decide +kernel
theorem dX6_tries_116 : decode cX6_tries 116 = .ok (.ifCond .ne 6, 3) := by decide +kernel
theorem dX6_tries_119 : decode cX6_tries 119 = .ok (.goto 12, 3) := by decide +kernel
theorem dX6_tries_122 : decode cX6_tries 122 = .ok (.iinc 2 1, 3) := by decide +kernel
theorem dX6_tries_125 : decode cX6_tries 125 = .ok (.iinc 3 1, 3) := by decide +kernel
theorem dX6_tries_128 : decode cX6_tries 128 = .ok (.goto (-47), 3) := by decide +kernel
theorem dX6_tries_131 : decode cX6_tries 131 = .ok (.aload_n 0, 1) := by decide +kernel
theorem dX6_tries_132 : decode cX6_tries 132 = .ok (.aload_n 0, 1) := by decide +kernel
theorem dX6_tries_133 : decode cX6_tries 133 = .ok (.getfield 58, 3) := by decide +kernel
theorem dX6_tries_136 : decode cX6_tries 136 = .ok (.invokevirtual 255, 3) := by decide +kernel
theorem dX6_tries_139 : decode cX6_tries 139 = .ok (.invokevirtual 103, 3) := by decide +kernel
theorem dX6_tries_142 : decode cX6_tries 142 = .ok (.iload_n 2, 1) := by decide +kernel
theorem dX6_tries_143 : decode cX6_tries 143 = .ok (.ireturn, 1) := by decide +kernel
theorem dX6_safe_0 : decode cX6_safe 0 = .ok (.iload_n 1, 1) := by decide +kernel
theorem dX6_safe_1 : decode cX6_safe 1 = .ok (.iconst 1, 1) := by decide +kernel
theorem dX6_safe_2 : decode cX6_safe 2 = .ok (.if_icmp .lt 19, 3) := by decide +kernel
theorem dX6_safe_5 : decode cX6_safe 5 = .ok (.iload_n 1, 1) := by decide +kernel
theorem dX6_safe_6 : decode cX6_safe 6 = .ok (.iconst 4, 1) := by decide +kernel
theorem dX6_safe_7 : decode cX6_safe 7 = .ok (.if_icmp .gt 14, 3) := by decide +kernel
theorem dX6_safe_10 : decode cX6_safe 10 = .ok (.aload_n 0, 1) := by decide +kernel
theorem dX6_safe_11 : decode cX6_safe 11 = .ok (.getfield 16, 3) := by decide +kernel
theorem dX6_safe_14 : decode cX6_safe 14 = .ok (.iload_n 2, 1) := by decide +kernel
theorem dX6_safe_15 : decode cX6_safe 15 = .ok (.invokevirtual 83, 3) := by decide +kernel
theorem dX6_safe_18 : decode cX6_safe 18 = .ok (.ifCond .ne 5, 3) := by decide +kernel
theorem dX6_safe_21 : decode cX6_safe 21 = .ok (.iconst (-1), 1) := by decide +kernel
theorem dX6_safe_22 : decode cX6_safe 22 = .ok (.ireturn, 1) := by decide +kernel
theorem dX6_safe_23 : decode cX6_safe 23 = .ok (.aload_n 0, 1) := by decide +kernel
theorem dX6_safe_24 : decode cX6_safe 24 = .ok (.invokevirtual 183, 3) := by decide +kernel
theorem dX6_safe_27 : decode cX6_safe 27 = .ok (.ifCond .eq 6, 3) := by decide +kernel
theorem dX6_safe_30 : decode cX6_safe 30 = .ok (.bipush (-4), 2) := by decide +kernel
theorem dX6_safe_32 : decode cX6_safe 32 = .ok (.ireturn, 1) := by decide +kernel
theorem dX6_safe_33 : decode cX6_safe 33 = .ok (.aload_n 0, 1) := by decide +kernel
theorem dX6_safe_34 : decode cX6_safe 34 = .ok (.getfield 44, 3) := by decide +kernel
theorem dX6_safe_37 : decode cX6_safe 37 = .ok (.aload_n 0, 1) := by decide +kernel
theorem dX6_safe_38 : decode cX6_safe 38 = .ok (.getfield 33, 3) := by decide +kernel
theorem dX6_safe_41 : decode cX6_safe 41 = .ok (.getfield 149, 3) := by decide +kernel
theorem dX6_safe_44 : decode cX6_safe 44 = .ok (.aload_n 0, 1) := by decide +kernel
theorem dX6_safe_45 : decode cX6_safe 45 = .ok (.getfield 33, 3) := by decide +kernel
theorem dX6_safe_48 : decode cX6_safe 48 = .ok (.getfield 167, 3) := by decide +kernel
theorem dX6_safe_51 : decode cX6_safe 51 = .ok (.iload_n 1, 1) := by decide +kernel
theorem dX6_safe_52 : decode cX6_safe 52 = .ok (.iconst 1, 1) := by decide +kernel
theorem dX6_safe_53 : decode cX6_safe 53 = .ok (.invokevirtual 259, 3) := by decide +kernel
theorem dX6_safe_56 : decode cX6_safe 56 = .ok (.aload_n 0, 1) := by decide +kernel
theorem dX6_safe_57 : decode cX6_safe 57 = .ok (.getfield 44, 3) := by decide +kernel
theorem dX6_safe_60 : decode cX6_safe 60 = .ok (.getfield 263, 3) := by decide +kernel
theorem dX6_safe_63 : decode cX6_safe 63 = .ok (.ifCond .ne 6, 3) := by decide +kernel
theorem dX6_safe_66 : decode cX6_safe 66 = .ok (.bipush (-9), 2) := by decide +kernel
theorem dX6_safe_68 : decode cX6_safe 68 = .ok (.ireturn, 1) := by decide +kernel
theorem dX6_safe_69 : decode cX6_safe 69 = .ok (.aload_n 0, 1) := by decide +kernel
theorem dX6_safe_70 : decode cX6_safe 70 = .ok (.getfield 16, 3) := by decide +kernel
theorem dX6_safe_73 : decode cX6_safe 73 = .ok (.iload_n 2, 1) := by decide +kernel
theorem dX6_safe_74 : decode cX6_safe 74 = .ok (.aload_n 0, 1) := by decide +kernel
theorem dX6_safe_75 : decode cX6_safe 75 = .ok (.getfield 44, 3) := by decide +kernel
theorem dX6_safe_78 : decode cX6_safe 78 = .ok (.getfield 238, 3) := by decide +kernel
theorem dX6_safe_81 : decode cX6_safe 81 = .ok (.iload_n 1, 1) := by decide +kernel
theorem dX6_safe_82 : decode cX6_safe 82 = .ok (.invokevirtual 241, 3) := by decide +kernel
theorem dX6_safe_85 : decode cX6_safe 85 = .ok (.iconst 1, 1) := by decide +kernel
theorem dX6_safe_86 : decode cX6_safe 86 = .ok (.ireturn, 1) := by decide +kernel
theorem dX6_share_0 : decode cX6_share 0 = .ok (.iload_n 1, 1) := by decide +kernel
theorem dX6_share_1 : decode cX6_share 1 = .ok (.invokestatic 228, 3) := by decide +kernel
theorem dX6_share_4 : decode cX6_share 4 = .ok (.ifCond .ne 5, 3) := by decide +kernel
theorem dX6_share_7 : decode cX6_share 7 = .ok (.iconst (-1), 1) := by decide +kernel
theorem dX6_share_8 : decode cX6_share 8 = .ok (.ireturn, 1) := by decide +kernel
theorem dX6_share_9 : decode cX6_share 9 = .ok (.aload_n 0, 1) := by decide +kernel
theorem dX6_share_10 : decode cX6_share 10 = .ok (.invokevirtual 183, 3) := by decide +kernel
theorem dX6_share_13 : decode cX6_share 13 = .ok (.ifCond .eq 6, 3) := by decide +kernel
theorem dX6_share_16 : decode cX6_share 16 = .ok (.bipush (-4), 2) := by decide +kernel
theorem dX6_share_18 : decode cX6_share 18 = .ok (.ireturn, 1) := by decide +kernel
theorem dX6_share_19 : decode cX6_share 19 = .ok (.aload_n 0, 1) := by decide +kernel
theorem dX6_share_20 : decode cX6_share 20 = .ok (.getfield 44, 3) := by decide +kernel
theorem dX6_share_23 : decode cX6_share 23 = .ok (.aload_n 0, 1) := by decide +kernel
theorem dX6_share_24 : decode cX6_share 24 = .ok (.getfield 33, 3) := by decide +kernel
theorem dX6_share_27 : decode cX6_share 27 = .ok (.getfield 149, 3) := by decide +kernel
theorem dX6_share_30 : decode cX6_share 30 = .ok (.aload_n 0, 1) := by decide +kernel
theorem dX6_share_31 : decode cX6_share 31 = .ok (.getfield 33, 3) := by decide +kernel
theorem dX6_share_34 : decode cX6_share 34 = .ok (.getfield 167, 3) := by decide +kernel
theorem dX6_share_37 : decode cX6_share 37 = .ok (.iload_n 1, 1) := by decide +kernel
theorem dX6_share_38 : decode cX6_share 38 = .ok (.invokevirtual 231, 3) := by decide +kernel
theorem dX6_share_41 : decode cX6_share 41 = .ok (.aload_n 0, 1) := by decide +kernel
theorem dX6_share_42 : decode cX6_share 42 = .ok (.aload_n 0, 1) := by decide +kernel
theorem dX6_share_43 : decode cX6_share 43 = .ok (.getfield 44, 3) := by decide +kernel
theorem dX6_share_46 : decode cX6_share 46 = .ok (.getfield 265, 3) := by decide +kernel
theorem dX6_share_49 : decode cX6_share 49 = .ok (.aload_n 0, 1) := by decide +kernel
theorem dX6_share_50 : decode cX6_share 50 = .ok (.getfield 44, 3) := by decide +kernel
theorem dX6_share_53 : decode cX6_share 53 = .ok (.getfield 263, 3) := by decide +kernel
theorem dX6_share_56 : decode cX6_share 56 = .ok (.invokevirtual 268, 3) := by decide +kernel
theorem dX6_share_59 : decode cX6_share 59 = .ok (.aload_n 0, 1) := by decide +kernel
theorem dX6_share_60 : decode cX6_share 60 = .ok (.getfield 44, 3) := by decide +kernel
theorem dX6_share_63 : decode cX6_share 63 = .ok (.getfield 265, 3) := by decide +kernel
theorem dX6_share_66 : decode cX6_share 66 = .ok (.ireturn, 1) := by decide +kernel
theorem dX6_food_0 : decode cX6_food 0 = .ok (.iload_n 1, 1) := by decide +kernel
theorem dX6_food_1 : decode cX6_food 1 = .ok (.invokestatic 228, 3) := by decide +kernel
theorem dX6_food_4 : decode cX6_food 4 = .ok (.ifCond .ne 5, 3) := by decide +kernel
theorem dX6_food_7 : decode cX6_food 7 = .ok (.iconst (-1), 1) := by decide +kernel
theorem dX6_food_8 : decode cX6_food 8 = .ok (.ireturn, 1) := by decide +kernel
theorem dX6_food_9 : decode cX6_food 9 = .ok (.aload_n 0, 1) := by decide +kernel
theorem dX6_food_10 : decode cX6_food 10 = .ok (.invokevirtual 183, 3) := by decide +kernel
theorem dX6_food_13 : decode cX6_food 13 = .ok (.ifCond .eq 6, 3) := by decide +kernel
theorem dX6_food_16 : decode cX6_food 16 = .ok (.bipush (-4), 2) := by decide +kernel
theorem dX6_food_18 : decode cX6_food 18 = .ok (.ireturn, 1) := by decide +kernel
theorem dX6_food_19 : decode cX6_food 19 = .ok (.aload_n 0, 1) := by decide +kernel
theorem dX6_food_20 : decode cX6_food 20 = .ok (.getfield 44, 3) := by decide +kernel
theorem dX6_food_23 : decode cX6_food 23 = .ok (.aload_n 0, 1) := by decide +kernel
theorem dX6_food_24 : decode cX6_food 24 = .ok (.getfield 33, 3) := by decide +kernel
theorem dX6_food_27 : decode cX6_food 27 = .ok (.getfield 149, 3) := by decide +kernel
theorem dX6_food_30 : decode cX6_food 30 = .ok (.aload_n 0, 1) := by decide +kernel
theorem dX6_food_31 : decode cX6_food 31 = .ok (.getfield 33, 3) := by decide +kernel
theorem dX6_food_34 : decode cX6_food 34 = .ok (.getfield 167, 3) := by decide +kernel
theorem dX6_food_37 : decode cX6_food 37 = .ok (.iload_n 1, 1) := by decide +kernel
theorem dX6_food_38 : decode cX6_food 38 = .ok (.iconst 0, 1) := by decide +kernel
theorem dX6_food_39 : decode cX6_food 39 = .ok (.invokevirtual 259, 3) := by decide +kernel
theorem dX6_food_42 : decode cX6_food 42 = .ok (.aload_n 0, 1) := by decide +kernel
theorem dX6_food_43 : decode cX6_food 43 = .ok (.getfield 44, 3) := by decide +kernel
theorem dX6_food_46 : decode cX6_food 46 = .ok (.getfield 263, 3) := by decide +kernel
theorem dX6_food_49 : decode cX6_food 49 = .ok (.ifCond .ne 8, 3) := by decide +kernel
theorem dX6_food_52 : decode cX6_food 52 = .ok (.bipush (-9), 2) := by decide +kernel
theorem dX6_food_54 : decode cX6_food 54 = .ok (.goto 10, 3) := by decide +kernel
theorem dX6_food_57 : decode cX6_food 57 = .ok (.aload_n 0, 1) := by decide +kernel
theorem dX6_food_58 : decode cX6_food 58 = .ok (.getfield 44, 3) := by decide +kernel
theorem dX6_food_61 : decode cX6_food 61 = .ok (.getfield 272, 3) := by decide +kernel
theorem dX6_food_64 : decode cX6_food 64 = .ok (.ireturn, 1) := by decide +kernel
theorem dX6_harm_0 : decode cX6_harm 0 = .ok (.iload_n 1, 1) := by decide +kernel
theorem dX6_harm_1 : decode cX6_harm 1 = .ok (.invokestatic 228, 3) := by decide +kernel
theorem dX6_harm_4 : decode cX6_harm 4 = .ok (.ifCond .ne 5, 3) := by decide +kernel
theorem dX6_harm_7 : decode cX6_harm 7 = .ok (.iconst (-1), 1) := by decide +kernel
theorem dX6_harm_8 : decode cX6_harm 8 = .ok (.ireturn, 1) := by decide +kernel
theorem dX6_harm_9 : decode cX6_harm 9 = .ok (.aload_n 0, 1) := by decide +kernel
theorem dX6_harm_10 : decode cX6_harm 10 = .ok (.invokevirtual 183, 3) := by decide +kernel
theorem dX6_harm_13 : decode cX6_harm 13 = .ok (.ifCond .eq 6, 3) := by decide +kernel
theorem dX6_harm_16 : decode cX6_harm 16 = .ok (.bipush (-4), 2) := by decide +kernel
theorem dX6_harm_18 : decode cX6_harm 18 = .ok (.ireturn, 1) := by decide +kernel
theorem dX6_harm_19 : decode cX6_harm 19 = .ok (.aload_n 0, 1) := by decide +kernel
theorem dX6_harm_20 : decode cX6_harm 20 = .ok (.getfield 44, 3) := by decide +kernel
theorem dX6_harm_23 : decode cX6_harm 23 = .ok (.aload_n 0, 1) := by decide +kernel
theorem dX6_harm_24 : decode cX6_harm 24 = .ok (.getfield 33, 3) := by decide +kernel
theorem dX6_harm_27 : decode cX6_harm 27 = .ok (.getfield 149, 3) := by decide +kernel
theorem dX6_harm_30 : decode cX6_harm 30 = .ok (.aload_n 0, 1) := by decide +kernel
theorem dX6_harm_31 : decode cX6_harm 31 = .ok (.getfield 33, 3) := by decide +kernel
theorem dX6_harm_34 : decode cX6_harm 34 = .ok (.getfield 167, 3) := by decide +kernel
theorem dX6_harm_37 : decode cX6_harm 37 = .ok (.iload_n 1, 1) := by decide +kernel
theorem dX6_harm_38 : decode cX6_harm 38 = .ok (.invokevirtual 231, 3) := by decide +kernel
theorem dX6_harm_41 : decode cX6_harm 41 = .ok (.aload_n 0, 1) := by decide +kernel
theorem dX6_harm_42 : decode cX6_harm 42 = .ok (.aload_n 0, 1) := by decide +kernel
theorem dX6_harm_43 : decode cX6_harm 43 = .ok (.getfield 44, 3) := by decide +kernel
theorem dX6_harm_46 : decode cX6_harm 46 = .ok (.getfield 275, 3) := by decide +kernel
theorem dX6_harm_49 : decode cX6_harm 49 = .ok (.invokevirtual 103, 3) := by decide +kernel
theorem dX6_harm_52 : decode cX6_harm 52 = .ok (.aload_n 0, 1) := by decide +kernel
theorem dX6_harm_53 : decode cX6_harm 53 = .ok (.getfield 44, 3) := by decide +kernel
theorem dX6_harm_56 : decode cX6_harm 56 = .ok (.getfield 278, 3) := by decide +kernel
theorem dX6_harm_59 : decode cX6_harm 59 = .ok (.ireturn, 1) := by decide +kernel
theorem dX6_starve_0 : decode cX6_starve 0 = .ok (.iload_n 1, 1) := by decide +kernel
theorem dX6_starve_1 : decode cX6_starve 1 = .ok (.invokestatic 228, 3) := by decide +kernel
theorem dX6_starve_4 : decode cX6_starve 4 = .ok (.ifCond .ne 5, 3) := by decide +kernel
theorem dX6_starve_7 : decode cX6_starve 7 = .ok (.iconst (-1), 1) := by decide +kernel
theorem dX6_starve_8 : decode cX6_starve 8 = .ok (.ireturn, 1) := by decide +kernel
theorem dX6_starve_9 : decode cX6_starve 9 = .ok (.aload_n 0, 1) := by decide +kernel
theorem dX6_starve_10 : decode cX6_starve 10 = .ok (.invokevirtual 183, 3) := by decide +kernel
theorem dX6_starve_13 : decode cX6_starve 13 = .ok (.ifCond .eq 6, 3) := by decide +kernel
theorem dX6_starve_16 : decode cX6_starve 16 = .ok (.bipush (-4), 2) := by decide +kernel
theorem dX6_starve_18 : decode cX6_starve 18 = .ok (.ireturn, 1) := by decide +kernel
theorem dX6_starve_19 : decode cX6_starve 19 = .ok (.aload_n 0, 1) := by decide +kernel
theorem dX6_starve_20 : decode cX6_starve 20 = .ok (.getfield 44, 3) := by decide +kernel
theorem dX6_starve_23 : decode cX6_starve 23 = .ok (.aload_n 0, 1) := by decide +kernel
theorem dX6_starve_24 : decode cX6_starve 24 = .ok (.getfield 33, 3) := by decide +kernel
theorem dX6_starve_27 : decode cX6_starve 27 = .ok (.getfield 149, 3) := by decide +kernel
theorem dX6_starve_30 : decode cX6_starve 30 = .ok (.aload_n 0, 1) := by decide +kernel
theorem dX6_starve_31 : decode cX6_starve 31 = .ok (.getfield 33, 3) := by decide +kernel
theorem dX6_starve_34 : decode cX6_starve 34 = .ok (.getfield 167, 3) := by decide +kernel
theorem dX6_starve_37 : decode cX6_starve 37 = .ok (.iload_n 1, 1) := by decide +kernel
theorem dX6_starve_38 : decode cX6_starve 38 = .ok (.invokevirtual 231, 3) := by decide +kernel
theorem dX6_starve_41 : decode cX6_starve 41 = .ok (.aload_n 0, 1) := by decide +kernel
theorem dX6_starve_42 : decode cX6_starve 42 = .ok (.getfield 44, 3) := by decide +kernel
theorem dX6_starve_45 : decode cX6_starve 45 = .ok (.getfield 235, 3) := by decide +kernel
theorem dX6_starve_48 : decode cX6_starve 48 = .ok (.istore_n 2, 1) := by decide +kernel
theorem dX6_starve_49 : decode cX6_starve 49 = .ok (.bipush (-9), 2) := by decide +kernel
theorem dX6_starve_51 : decode cX6_starve 51 = .ok (.istore_n 3, 1) := by decide +kernel
theorem dX6_starve_52 : decode cX6_starve 52 = .ok (.iconst 0, 1) := by decide +kernel
theorem dX6_starve_53 : decode cX6_starve 53 = .ok (.istore 4, 2) := by decide +kernel
theorem dX6_starve_55 : decode cX6_starve 55 = .ok (.iconst 0, 1) := by decide +kernel
theorem dX6_starve_56 : decode cX6_starve 56 = .ok (.istore 5, 2) := by decide +kernel
theorem dX6_starve_58 : decode cX6_starve 58 = .ok (.iload 5, 2) := by decide +kernel
theorem dX6_starve_60 : decode cX6_starve 60 = .ok (.aload_n 0, 1) := by decide +kernel
theorem dX6_starve_61 : decode cX6_starve 61 = .ok (.getfield 33, 3) := by decide +kernel
theorem dX6_starve_64 : decode cX6_starve 64 = .ok (.getfield 149, 3) := by decide +kernel
theorem dX6_starve_67 : decode cX6_starve 67 = .ok (.getfield 150, 3) := by decide +kernel
theorem dX6_starve_70 : decode cX6_starve 70 = .ok (.if_icmp .ge 82, 3) := by decide +kernel
theorem dX6_starve_73 : decode cX6_starve 73 = .ok (.aload_n 0, 1) := by decide +kernel
theorem dX6_starve_74 : decode cX6_starve 74 = .ok (.getfield 33, 3) := by decide +kernel
theorem dX6_starve_77 : decode cX6_starve 77 = .ok (.getfield 167, 3) := by decide +kernel
theorem dX6_starve_80 : decode cX6_starve 80 = .ok (.iload 5, 2) := by decide +kernel
theorem dX6_starve_82 : decode cX6_starve 82 = .ok (.invokevirtual 281, 3) := by decide +kernel
theorem dX6_starve_85 : decode cX6_starve 85 = .ok (.ifCond .eq 6, 3) := by decide +kernel
theorem dX6_starve_88 : decode cX6_starve 88 = .ok (.goto 58, 3) := by decide +kernel
theorem dX6_starve_91 : decode cX6_starve 91 = .ok (.aload_n 0, 1) := by decide +kernel
theorem dX6_starve_92 : decode cX6_starve 92 = .ok (.getfield 44, 3) := by decide +kernel
theorem dX6_starve_95 : decode cX6_starve 95 = .ok (.aload_n 0, 1) := by decide +kernel
theorem dX6_starve_96 : decode cX6_starve 96 = .ok (.getfield 33, 3) := by decide +kernel
theorem dX6_starve_99 : decode cX6_starve 99 = .ok (.getfield 149, 3) := by decide +kernel
theorem dX6_starve_102 : decode cX6_starve 102 = .ok (.aload_n 0, 1) := by decide +kernel
theorem dX6_starve_103 : decode cX6_starve 103 = .ok (.getfield 33, 3) := by decide +kernel
theorem dX6_starve_106 : decode cX6_starve 106 = .ok (.getfield 167, 3) := by decide +kernel
theorem dX6_starve_109 : decode cX6_starve 109 = .ok (.iload_n 1, 1) := by decide +kernel
theorem dX6_starve_110 : decode cX6_starve 110 = .ok (.iload 5, 2) := by decide +kernel
theorem dX6_starve_112 : decode cX6_starve 112 = .ok (.invokevirtual 284, 3) := by decide +kernel
theorem dX6_starve_115 : decode cX6_starve 115 = .ok (.iload_n 2, 1) := by decide +kernel
theorem dX6_starve_116 : decode cX6_starve 116 = .ok (.aload_n 0, 1) := by decide +kernel
theorem dX6_starve_117 : decode cX6_starve 117 = .ok (.getfield 44, 3) := by decide +kernel
theorem dX6_starve_120 : decode cX6_starve 120 = .ok (.getfield 235, 3) := by decide +kernel
theorem dX6_starve_123 : decode cX6_starve 123 = .ok (.isub, 1) := by decide +kernel
theorem dX6_starve_124 : decode cX6_starve 124 = .ok (.istore 6, 2) := by decide +kernel
theorem dX6_starve_126 : decode cX6_starve 126 = .ok (.iload_n 3, 1) := by decide +kernel
theorem dX6_starve_127 : decode cX6_starve 127 = .ok (.bipush (-9), 2) := by decide +kernel
theorem dX6_starve_129 : decode cX6_starve 129 = .ok (.if_icmp .eq 10, 3) := by decide +kernel
theorem dX6_starve_132 : decode cX6_starve 132 = .ok (.iload 6, 2) := by decide +kernel
theorem dX6_starve_134 : decode cX6_starve 134 = .ok (.iload 4, 2) := by decide +kernel
theorem dX6_starve_136 : decode cX6_starve 136 = .ok (.if_icmp .ge 10, 3) := by decide +kernel
theorem dX6_starve_139 : decode cX6_starve 139 = .ok (.iload 5, 2) := by decide +kernel
theorem dX6_starve_141 : decode cX6_starve 141 = .ok (.istore_n 3, 1) := by decide +kernel
theorem dX6_starve_142 : decode cX6_starve 142 = .ok (.iload 6, 2) := by decide +kernel
theorem dX6_starve_144 : decode cX6_starve 144 = .ok (.istore 4, 2) := by decide +kernel
theorem dX6_starve_146 : decode cX6_starve 146 = .ok (.iinc 5 1, 3) := by decide +kernel
theorem dX6_starve_149 : decode cX6_starve 149 = .ok (.goto (-91), 3) := by decide +kernel
theorem dX6_starve_152 : decode cX6_starve 152 = .ok (.iload_n 3, 1) := by decide +kernel
theorem dX6_starve_153 : decode cX6_starve 153 = .ok (.bipush (-9), 2) := by decide +kernel
theorem dX6_starve_155 : decode cX6_starve 155 = .ok (.if_icmp .eq 9, 3) := by decide +kernel
theorem dX6_starve_158 : decode cX6_starve 158 = .ok (.aload_n 0, 1) := by decide +kernel
theorem dX6_starve_159 : decode cX6_starve 159 = .ok (.iload 4, 2) := by decide +kernel
theorem dX6_starve_161 : decode cX6_starve 161 = .ok (.invokevirtual 103, 3) := by decide +kernel
theorem dX6_starve_164 : decode cX6_starve 164 = .ok (.iload_n 3, 1) := by decide +kernel
theorem dX6_starve_165 : decode cX6_starve 165 = .ok (.ireturn, 1) := by decide +kernel
theorem dX6_price_0 : decode cX6_price 0 = .ok (.aload_n 0, 1) := by decide +kernel
theorem dX6_price_1 : decode cX6_price 1 = .ok (.getfield 33, 3) := by decide +kernel
theorem dX6_price_4 : decode cX6_price 4 = .ok (.getfield 149, 3) := by decide +kernel
theorem dX6_price_7 : decode cX6_price 7 = .ok (.iload_n 1, 1) := by decide +kernel
theorem dX6_price_8 : decode cX6_price 8 = .ok (.invokevirtual 153, 3) := by decide +kernel
theorem dX6_price_11 : decode cX6_price 11 = .ok (.ifCond .eq 10, 3) := by decide +kernel
theorem dX6_price_14 : decode cX6_price 14 = .ok (.iload_n 2, 1) := by decide +kernel
theorem dX6_price_15 : decode cX6_price 15 = .ok (.invokestatic 228, 3) := by decide +kernel
theorem dX6_price_18 : decode cX6_price 18 = .ok (.ifCond .ne 5, 3) := by decide +kernel
theorem dX6_price_21 : decode cX6_price 21 = .ok (.iconst (-1), 1) := by decide +kernel
theorem dX6_price_22 : decode cX6_price 22 = .ok (.ireturn, 1) := by decide +kernel
theorem dX6_price_23 : decode cX6_price 23 = .ok (.aload_n 0, 1) := by decide +kernel
theorem dX6_price_24 : decode cX6_price 24 = .ok (.getfield 33, 3) := by decide +kernel
theorem dX6_price_27 : decode cX6_price 27 = .ok (.getfield 167, 3) := by decide +kernel
theorem dX6_price_30 : decode cX6_price 30 = .ok (.iload_n 1, 1) := by decide +kernel
theorem dX6_price_31 : decode cX6_price 31 = .ok (.invokevirtual 281, 3) := by decide +kernel
theorem dX6_price_34 : decode cX6_price 34 = .ok (.ifCond .eq 6, 3) := by decide +kernel
theorem dX6_price_37 : decode cX6_price 37 = .ok (.bipush (-4), 2) := by decide +kernel
theorem dX6_price_39 : decode cX6_price 39 = .ok (.ireturn, 1) := by decide +kernel
theorem dX6_price_40 : decode cX6_price 40 = .ok (.aload_n 0, 1) := by decide +kernel
theorem dX6_price_41 : decode cX6_price 41 = .ok (.getfield 44, 3) := by decide +kernel
theorem dX6_price_44 : decode cX6_price 44 = .ok (.aload_n 0, 1) := by decide +kernel
theorem dX6_price_45 : decode cX6_price 45 = .ok (.getfield 33, 3) := by decide +kernel
theorem dX6_price_48 : decode cX6_price 48 = .ok (.getfield 149, 3) := by decide +kernel
theorem dX6_price_51 : decode cX6_price 51 = .ok (.aload_n 0, 1) := by decide +kernel
theorem dX6_price_52 : decode cX6_price 52 = .ok (.getfield 33, 3) := by decide +kernel
theorem dX6_price_55 : decode cX6_price 55 = .ok (.getfield 167, 3) := by decide +kernel
theorem dX6_price_58 : decode cX6_price 58 = .ok (.iload_n 2, 1) := by decide +kernel
theorem dX6_price_59 : decode cX6_price 59 = .ok (.invokevirtual 231, 3) := by decide +kernel
theorem dX6_price_62 : decode cX6_price 62 = .ok (.aload_n 0, 1) := by decide +kernel
theorem dX6_price_63 : decode cX6_price 63 = .ok (.getfield 44, 3) := by decide +kernel
theorem dX6_price_66 : decode cX6_price 66 = .ok (.getfield 235, 3) := by decide +kernel
theorem dX6_price_69 : decode cX6_price 69 = .ok (.istore_n 3, 1) := by decide +kernel
theorem dX6_price_70 : decode cX6_price 70 = .ok (.aload_n 0, 1) := by decide +kernel
theorem dX6_price_71 : decode cX6_price 71 = .ok (.invokevirtual 248, 3) := by decide +kernel
theorem dX6_price_74 : decode cX6_price 74 = .ok (.aload_n 0, 1) := by decide +kernel
theorem dX6_price_75 : decode cX6_price 75 = .ok (.getfield 58, 3) := by decide +kernel
theorem dX6_price_78 : decode cX6_price 78 = .ok (.iload_n 1, 1) := by decide +kernel
theorem dX6_price_79 : decode cX6_price 79 = .ok (.invokevirtual 288, 3) := by decide +kernel
theorem dX6_price_82 : decode cX6_price 82 = .ok (.aload_n 0, 1) := by decide +kernel
theorem dX6_price_83 : decode cX6_price 83 = .ok (.getfield 44, 3) := by decide +kernel
theorem dX6_price_86 : decode cX6_price 86 = .ok (.aload_n 0, 1) := by decide +kernel
theorem dX6_price_87 : decode cX6_price 87 = .ok (.getfield 33, 3) := by decide +kernel
theorem dX6_price_90 : decode cX6_price 90 = .ok (.getfield 149, 3) := by decide +kernel
theorem dX6_price_93 : decode cX6_price 93 = .ok (.aload_n 0, 1) := by decide +kernel
theorem dX6_price_94 : decode cX6_price 94 = .ok (.getfield 58, 3) := by decide +kernel
theorem dX6_price_97 : decode cX6_price 97 = .ok (.iload_n 2, 1) := by decide +kernel
theorem dX6_price_98 : decode cX6_price 98 = .ok (.invokevirtual 231, 3) := by decide +kernel
theorem dX6_price_101 : decode cX6_price 101 = .ok (.aload_n 0, 1) := by decide +kernel
theorem dX6_price_102 : decode cX6_price 102 = .ok (.iload_n 3, 1) := by decide +kernel
theorem dX6_price_103 : decode cX6_price 103 = .ok (.aload_n 0, 1) := by decide +kernel
theorem dX6_price_104 : decode cX6_price 104 = .ok (.getfield 44, 3) := by decide +kernel
theorem dX6_price_107 : decode cX6_price 107 = .ok (.getfield 235, 3) := by decide +kernel
theorem dX6_price_110 : decode cX6_price 110 = .ok (.isub, 1) := by decide +kernel
theorem dX6_price_111 : decode cX6_price 111 = .ok (.invokevirtual 103, 3) := by decide +kernel
theorem dX6_price_114 : decode cX6_price 114 = .ok (.iconst 1, 1) := by decide +kernel
theorem dX6_price_115 : decode cX6_price 115 = .ok (.ireturn, 1) := by decide +kernel
theorem dX6_altar_0 : decode cX6_altar 0 = .ok (.aload_n 0, 1) := by decide +kernel
theorem dX6_altar_1 : decode cX6_altar 1 = .ok (.getfield 33, 3) := by decide +kernel
theorem dX6_altar_4 : decode cX6_altar 4 = .ok (.getfield 149, 3) := by decide +kernel
theorem dX6_altar_7 : decode cX6_altar 7 = .ok (.iload_n 1, 1) := by decide +kernel
theorem dX6_altar_8 : decode cX6_altar 8 = .ok (.invokevirtual 153, 3) := by decide +kernel
theorem dX6_altar_11 : decode cX6_altar 11 = .ok (.ifCond .eq 25, 3) := by decide +kernel
theorem dX6_altar_14 : decode cX6_altar 14 = .ok (.iload_n 2, 1) := by decide +kernel
theorem dX6_altar_15 : decode cX6_altar 15 = .ok (.invokestatic 180, 3) := by decide +kernel
theorem dX6_altar_18 : decode cX6_altar 18 = .ok (.ifCond .eq 18, 3) := by decide +kernel
theorem dX6_altar_21 : decode cX6_altar 21 = .ok (.iload_n 3, 1) := by decide +kernel
theorem dX6_altar_22 : decode cX6_altar 22 = .ok (.invokestatic 187, 3) := by decide +kernel
theorem dX6_altar_25 : decode cX6_altar 25 = .ok (.ifCond .eq 11, 3) := by decide +kernel
theorem dX6_altar_28 : decode cX6_altar 28 = .ok (.iload 4, 2) := by decide +kernel
theorem dX6_altar_30 : decode cX6_altar 30 = .ok (.invokestatic 228, 3) := by decide +kernel
theorem dX6_altar_33 : decode cX6_altar 33 = .ok (.ifCond .ne 5, 3) := by decide +kernel
theorem dX6_altar_36 : decode cX6_altar 36 = .ok (.iconst (-1), 1) := by decide +kernel
theorem dX6_altar_37 : decode cX6_altar 37 = .ok (.ireturn, 1) := by decide +kernel
theorem dX6_altar_38 : decode cX6_altar 38 = .ok (.aload_n 0, 1) := by decide +kernel
theorem dX6_altar_39 : decode cX6_altar 39 = .ok (.getfield 33, 3) := by decide +kernel
theorem dX6_altar_42 : decode cX6_altar 42 = .ok (.getfield 167, 3) := by decide +kernel
theorem dX6_altar_45 : decode cX6_altar 45 = .ok (.iload_n 1, 1) := by decide +kernel
theorem dX6_altar_46 : decode cX6_altar 46 = .ok (.invokevirtual 281, 3) := by decide +kernel
theorem dX6_altar_49 : decode cX6_altar 49 = .ok (.ifCond .eq 6, 3) := by decide +kernel
theorem dX6_altar_52 : decode cX6_altar 52 = .ok (.bipush (-4), 2) := by decide +kernel
theorem dX6_altar_54 : decode cX6_altar 54 = .ok (.ireturn, 1) := by decide +kernel
theorem dX6_altar_55 : decode cX6_altar 55 = .ok (.aload_n 0, 1) := by decide +kernel
theorem dX6_altar_56 : decode cX6_altar 56 = .ok (.getfield 51, 3) := by decide +kernel
theorem dX6_altar_59 : decode cX6_altar 59 = .ok (.aload_n 0, 1) := by decide +kernel
theorem dX6_altar_60 : decode cX6_altar 60 = .ok (.getfield 33, 3) := by decide +kernel
theorem dX6_altar_63 : decode cX6_altar 63 = .ok (.getfield 149, 3) := by decide +kernel
theorem dX6_altar_66 : decode cX6_altar 66 = .ok (.invokevirtual 291, 3) := by decide +kernel
theorem dX6_altar_69 : decode cX6_altar 69 = .ok (.aload_n 0, 1) := by decide +kernel
theorem dX6_altar_70 : decode cX6_altar 70 = .ok (.getfield 51, 3) := by decide +kernel
theorem dX6_altar_73 : decode cX6_altar 73 = .ok (.getfield 294, 3) := by decide +kernel
theorem dX6_altar_76 : decode cX6_altar 76 = .ok (.iload_n 1, 1) := by decide +kernel
theorem dX6_altar_77 : decode cX6_altar 77 = .ok (.iload_n 2, 1) := by decide +kernel
theorem dX6_altar_78 : decode cX6_altar 78 = .ok (.iastore, 1) := by decide +kernel
theorem dX6_altar_79 : decode cX6_altar 79 = .ok (.aload_n 0, 1) := by decide +kernel
theorem dX6_altar_80 : decode cX6_altar 80 = .ok (.getfield 51, 3) := by decide +kernel
theorem dX6_altar_83 : decode cX6_altar 83 = .ok (.getfield 190, 3) := by decide +kernel
theorem dX6_altar_86 : decode cX6_altar 86 = .ok (.iload_n 1, 1) := by decide +kernel
theorem dX6_altar_87 : decode cX6_altar 87 = .ok (.iload_n 3, 1) := by decide +kernel
theorem dX6_altar_88 : decode cX6_altar 88 = .ok (.iastore, 1) := by decide +kernel
theorem dX6_altar_89 : decode cX6_altar 89 = .ok (.aload_n 0, 1) := by decide +kernel
theorem dX6_altar_90 : decode cX6_altar 90 = .ok (.getfield 44, 3) := by decide +kernel
theorem dX6_altar_93 : decode cX6_altar 93 = .ok (.aload_n 0, 1) := by decide +kernel
theorem dX6_altar_94 : decode cX6_altar 94 = .ok (.getfield 51, 3) := by decide +kernel
theorem dX6_altar_97 : decode cX6_altar 97 = .ok (.aload_n 0, 1) := by decide +kernel
theorem dX6_altar_98 : decode cX6_altar 98 = .ok (.getfield 33, 3) := by decide +kernel
theorem dX6_altar_101 : decode cX6_altar 101 = .ok (.getfield 167, 3) := by decide +kernel
theorem dX6_altar_104 : decode cX6_altar 104 = .ok (.iload 4, 2) := by decide +kernel
theorem dX6_altar_106 : decode cX6_altar 106 = .ok (.invokevirtual 231, 3) := by decide +kernel
theorem dX6_altar_109 : decode cX6_altar 109 = .ok (.aload_n 0, 1) := by decide +kernel
theorem dX6_altar_110 : decode cX6_altar 110 = .ok (.aload_n 0, 1) := by decide +kernel
theorem dX6_altar_111 : decode cX6_altar 111 = .ok (.getfield 44, 3) := by decide +kernel
theorem dX6_altar_114 : decode cX6_altar 114 = .ok (.getfield 235, 3) := by decide +kernel
theorem dX6_altar_117 : decode cX6_altar 117 = .ok (.invokevirtual 103, 3) := by decide +kernel
theorem dX6_altar_120 : decode cX6_altar 120 = .ok (.iconst 1, 1) := by decide +kernel
theorem dX6_altar_121 : decode cX6_altar 121 = .ok (.ireturn, 1) := by decide +kernel
theorem dX6_turns_0 : decode cX6_turns 0 = .ok (.iload_n 1, 1) := by decide +kernel
theorem dX6_turns_1 : decode cX6_turns 1 = .ok (.aload_n 0, 1) := by decide +kernel
theorem dX6_turns_2 : decode cX6_turns 2 = .ok (.getfield 33, 3) := by decide +kernel
theorem dX6_turns_5 : decode cX6_turns 5 = .ok (.getfield 149, 3) := by decide +kernel
theorem dX6_turns_8 : decode cX6_turns 8 = .ok (.getfield 297, 3) := by decide +kernel
theorem dX6_turns_11 : decode cX6_turns 11 = .ok (.iconst (-1), 1) := by decide +kernel
theorem dX6_turns_12 : decode cX6_turns 12 = .ok (.ixor, 1) := by decide +kernel
theorem dX6_turns_13 : decode cX6_turns 13 = .ok (.iand, 1) := by decide +kernel
theorem dX6_turns_14 : decode cX6_turns 14 = .ok (.ifCond .ne 12, 3) := by decide +kernel
theorem dX6_turns_17 : decode cX6_turns 17 = .ok (.iload_n 2, 1) := by decide +kernel
theorem dX6_turns_18 : decode cX6_turns 18 = .ok (.ifCond .lt 8, 3) := by decide +kernel
theorem dX6_turns_21 : decode cX6_turns 21 = .ok (.iload_n 2, 1) := by decide +kernel
theorem dX6_turns_22 : decode cX6_turns 22 = .ok (.iconst 3, 1) := by decide +kernel
theorem dX6_turns_23 : decode cX6_turns 23 = .ok (.if_icmp .le 5, 3) := by decide +kernel
theorem dX6_turns_26 : decode cX6_turns 26 = .ok (.iconst (-1), 1) := by decide +kernel
theorem dX6_turns_27 : decode cX6_turns 27 = .ok (.ireturn, 1) := by decide +kernel
theorem dX6_turns_28 : decode cX6_turns 28 = .ok (.aload_n 0, 1) := by decide +kernel
theorem dX6_turns_29 : decode cX6_turns 29 = .ok (.invokevirtual 183, 3) := by decide +kernel
theorem dX6_turns_32 : decode cX6_turns 32 = .ok (.ifCond .eq 6, 3) := by decide +kernel
theorem dX6_turns_35 : decode cX6_turns 35 = .ok (.bipush (-4), 2) := by decide +kernel
theorem dX6_turns_37 : decode cX6_turns 37 = .ok (.ireturn, 1) := by decide +kernel
theorem dX6_turns_38 : decode cX6_turns 38 = .ok (.aload_n 0, 1) := by decide +kernel
theorem dX6_turns_39 : decode cX6_turns 39 = .ok (.aload_n 0, 1) := by decide +kernel
theorem dX6_turns_40 : decode cX6_turns 40 = .ok (.getfield 44, 3) := by decide +kernel
theorem dX6_turns_43 : decode cX6_turns 43 = .ok (.aload_n 0, 1) := by decide +kernel
theorem dX6_turns_44 : decode cX6_turns 44 = .ok (.getfield 33, 3) := by decide +kernel
theorem dX6_turns_47 : decode cX6_turns 47 = .ok (.getfield 149, 3) := by decide +kernel
theorem dX6_turns_50 : decode cX6_turns 50 = .ok (.aload_n 0, 1) := by decide +kernel
theorem dX6_turns_51 : decode cX6_turns 51 = .ok (.getfield 33, 3) := by decide +kernel
theorem dX6_turns_54 : decode cX6_turns 54 = .ok (.getfield 167, 3) := by decide +kernel
theorem dX6_turns_57 : decode cX6_turns 57 = .ok (.iload_n 2, 1) := by decide +kernel
theorem dX6_turns_58 : decode cX6_turns 58 = .ok (.iload_n 1, 1) := by decide +kernel
theorem dX6_turns_59 : decode cX6_turns 59 = .ok (.invokevirtual 300, 3) := by decide +kernel
theorem dX6_turns_62 : decode cX6_turns 62 = .ok (.invokevirtual 103, 3) := by decide +kernel
theorem dX6_turns_65 : decode cX6_turns 65 = .ok (.aload_n 0, 1) := by decide +kernel
theorem dX6_turns_66 : decode cX6_turns 66 = .ok (.iload_n 2, 1) := by decide +kernel
theorem dX6_turns_67 : decode cX6_turns 67 = .ok (.ifCond .ne 8, 3) := by decide +kernel
theorem dX6_turns_70 : decode cX6_turns 70 = .ok (.bipush 12, 2) := by decide +kernel
theorem dX6_turns_72 : decode cX6_turns 72 = .ok (.goto 10, 3) := by decide +kernel
theorem dX6_turns_75 : decode cX6_turns 75 = .ok (.aload_n 0, 1) := by decide +kernel
theorem dX6_turns_76 : decode cX6_turns 76 = .ok (.getfield 44, 3) := by decide +kernel
theorem dX6_turns_79 : decode cX6_turns 79 = .ok (.invokevirtual 304, 3) := by decide +kernel
theorem dX6_turns_82 : decode cX6_turns 82 = .ok (.iconst 1, 1) := by decide +kernel
theorem dX6_turns_83 : decode cX6_turns 83 = .ok (.invokevirtual 268, 3) := by decide +kernel
theorem dX6_turns_86 : decode cX6_turns 86 = .ok (.iconst 1, 1) := by decide +kernel
theorem dX6_turns_87 : decode cX6_turns 87 = .ok (.ireturn, 1) := by decide +kernel
theorem dX6_fits_0 : decode cX6_fits 0 = .ok (.aload_n 0, 1) := by decide +kernel
theorem dX6_fits_1 : decode cX6_fits 1 = .ok (.getfield 33, 3) := by decide +kernel
theorem dX6_fits_4 : decode cX6_fits 4 = .ok (.getfield 149, 3) := by decide +kernel
theorem dX6_fits_7 : decode cX6_fits 7 = .ok (.iload_n 1, 1) := by decide +kernel
theorem dX6_fits_8 : decode cX6_fits 8 = .ok (.invokevirtual 153, 3) := by decide +kernel
theorem dX6_fits_11 : decode cX6_fits 11 = .ok (.ifCond .eq 25, 3) := by decide +kernel
theorem dX6_fits_14 : decode cX6_fits 14 = .ok (.aload_n 0, 1) := by decide +kernel
theorem dX6_fits_15 : decode cX6_fits 15 = .ok (.getfield 16, 3) := by decide +kernel
theorem dX6_fits_18 : decode cX6_fits 18 = .ok (.iload_n 2, 1) := by decide +kernel
theorem dX6_fits_19 : decode cX6_fits 19 = .ok (.invokevirtual 83, 3) := by decide +kernel
theorem dX6_fits_22 : decode cX6_fits 22 = .ok (.ifCond .eq 14, 3) := by decide +kernel
theorem dX6_fits_25 : decode cX6_fits 25 = .ok (.aload_n 0, 1) := by decide +kernel
theorem dX6_fits_26 : decode cX6_fits 26 = .ok (.getfield 16, 3) := by decide +kernel
theorem dX6_fits_29 : decode cX6_fits 29 = .ok (.iload_n 3, 1) := by decide +kernel
theorem dX6_fits_30 : decode cX6_fits 30 = .ok (.invokevirtual 83, 3) := by decide +kernel
theorem dX6_fits_33 : decode cX6_fits 33 = .ok (.ifCond .ne 5, 3) := by decide +kernel
theorem dX6_fits_36 : decode cX6_fits 36 = .ok (.iconst (-1), 1) := by decide +kernel
theorem dX6_fits_37 : decode cX6_fits 37 = .ok (.ireturn, 1) := by decide +kernel
theorem dX6_fits_38 : decode cX6_fits 38 = .ok (.aload_n 0, 1) := by decide +kernel
theorem dX6_fits_39 : decode cX6_fits 39 = .ok (.iload_n 2, 1) := by decide +kernel
theorem dX6_fits_40 : decode cX6_fits 40 = .ok (.iload_n 3, 1) := by decide +kernel
theorem dX6_fits_41 : decode cX6_fits 41 = .ok (.invokevirtual 307, 3) := by decide +kernel
theorem dX6_fits_44 : decode cX6_fits 44 = .ok (.istore 4, 2) := by decide +kernel
theorem dX6_fits_46 : decode cX6_fits 46 = .ok (.iload 4, 2) := by decide +kernel
theorem dX6_fits_48 : decode cX6_fits 48 = .ok (.ifCond .eq 8, 3) := by decide +kernel
theorem dX6_fits_51 : decode cX6_fits 51 = .ok (.iload 4, 2) := by decide +kernel
theorem dX6_fits_53 : decode cX6_fits 53 = .ok (.goto 10, 3) := by decide +kernel
theorem dX6_fits_56 : decode cX6_fits 56 = .ok (.aload_n 0, 1) := by decide +kernel
theorem dX6_fits_57 : decode cX6_fits 57 = .ok (.iload_n 1, 1) := by decide +kernel
theorem dX6_fits_58 : decode cX6_fits 58 = .ok (.iload_n 2, 1) := by decide +kernel
theorem dX6_fits_59 : decode cX6_fits 59 = .ok (.iload_n 3, 1) := by decide +kernel
theorem dX6_fits_60 : decode cX6_fits 60 = .ok (.invokevirtual 310, 3) := by decide +kernel
theorem dX6_fits_63 : decode cX6_fits 63 = .ok (.ireturn, 1) := by decide +kernel
theorem dX6_whose_0 : decode cX6_whose 0 = .ok (.aload_n 0, 1) := by decide +kernel
theorem dX6_whose_1 : decode cX6_whose 1 = .ok (.getfield 16, 3) := by decide +kernel
theorem dX6_whose_4 : decode cX6_whose 4 = .ok (.iload_n 1, 1) := by decide +kernel
theorem dX6_whose_5 : decode cX6_whose 5 = .ok (.invokevirtual 83, 3) := by decide +kernel
theorem dX6_whose_8 : decode cX6_whose 8 = .ok (.ifCond .eq 14, 3) := by decide +kernel
theorem dX6_whose_11 : decode cX6_whose 11 = .ok (.aload_n 0, 1) := by decide +kernel
theorem dX6_whose_12 : decode cX6_whose 12 = .ok (.getfield 16, 3) := by decide +kernel
theorem dX6_whose_15 : decode cX6_whose 15 = .ok (.iload_n 2, 1) := by decide +kernel
theorem dX6_whose_16 : decode cX6_whose 16 = .ok (.invokevirtual 83, 3) := by decide +kernel
theorem dX6_whose_19 : decode cX6_whose 19 = .ok (.ifCond .ne 5, 3) := by decide +kernel
theorem dX6_whose_22 : decode cX6_whose 22 = .ok (.iconst (-1), 1) := by decide +kernel
theorem dX6_whose_23 : decode cX6_whose 23 = .ok (.ireturn, 1) := by decide +kernel
theorem dX6_whose_24 : decode cX6_whose 24 = .ok (.aload_n 0, 1) := by decide +kernel
theorem dX6_whose_25 : decode cX6_whose 25 = .ok (.invokevirtual 183, 3) := by decide +kernel
theorem dX6_whose_28 : decode cX6_whose 28 = .ok (.ifCond .eq 6, 3) := by decide +kernel
theorem dX6_whose_31 : decode cX6_whose 31 = .ok (.bipush (-4), 2) := by decide +kernel
theorem dX6_whose_33 : decode cX6_whose 33 = .ok (.ireturn, 1) := by decide +kernel
theorem dX6_whose_34 : decode cX6_whose 34 = .ok (.aload_n 0, 1) := by decide +kernel
theorem dX6_whose_35 : decode cX6_whose 35 = .ok (.iload_n 1, 1) := by decide +kernel
theorem dX6_whose_36 : decode cX6_whose 36 = .ok (.iload_n 2, 1) := by decide +kernel
theorem dX6_whose_37 : decode cX6_whose 37 = .ok (.invokevirtual 307, 3) := by decide +kernel
theorem dX6_whose_40 : decode cX6_whose 40 = .ok (.istore_n 3, 1) := by decide +kernel
theorem dX6_whose_41 : decode cX6_whose 41 = .ok (.iload_n 3, 1) := by decide +kernel
theorem dX6_whose_42 : decode cX6_whose 42 = .ok (.ifCond .eq 5, 3) := by decide +kernel
theorem dX6_whose_45 : decode cX6_whose 45 = .ok (.iload_n 3, 1) := by decide +kernel
theorem dX6_whose_46 : decode cX6_whose 46 = .ok (.ireturn, 1) := by decide +kernel
theorem dX6_whose_47 : decode cX6_whose 47 = .ok (.iconst 0, 1) := by decide +kernel
theorem dX6_whose_48 : decode cX6_whose 48 = .ok (.istore 4, 2) := by decide +kernel
theorem dX6_whose_50 : decode cX6_whose 50 = .ok (.iconst 0, 1) := by decide +kernel
theorem dX6_whose_51 : decode cX6_whose 51 = .ok (.istore 5, 2) := by decide +kernel
theorem dX6_whose_53 : decode cX6_whose 53 = .ok (.iconst 0, 1) := by decide +kernel
theorem dX6_whose_54 : decode cX6_whose 54 = .ok (.istore 6, 2) := by decide +kernel
theorem dX6_whose_56 : decode cX6_whose 56 = .ok (.iload 6, 2) := by decide +kernel
theorem dX6_whose_58 : decode cX6_whose 58 = .ok (.aload_n 0, 1) := by decide +kernel
theorem dX6_whose_59 : decode cX6_whose 59 = .ok (.getfield 33, 3) := by decide +kernel
theorem dX6_whose_62 : decode cX6_whose 62 = .ok (.getfield 149, 3) := by decide +kernel
theorem dX6_whose_65 : decode cX6_whose 65 = .ok (.getfield 150, 3) := by decide +kernel
theorem dX6_whose_68 : decode cX6_whose 68 = .ok (.if_icmp .ge 61, 3) := by decide +kernel
theorem dX6_whose_71 : decode cX6_whose 71 = .ok (.aload_n 0, 1) := by decide +kernel
theorem dX6_whose_72 : decode cX6_whose 72 = .ok (.iload 6, 2) := by decide +kernel
theorem dX6_whose_74 : decode cX6_whose 74 = .ok (.iload_n 1, 1) := by decide +kernel
theorem dX6_whose_75 : decode cX6_whose 75 = .ok (.iload_n 2, 1) := by decide +kernel
theorem dX6_whose_76 : decode cX6_whose 76 = .ok (.invokevirtual 310, 3) := by decide +kernel
theorem dX6_whose_79 : decode cX6_whose 79 = .ok (.iconst 1, 1) := by decide +kernel
theorem dX6_whose_80 : decode cX6_whose 80 = .ok (.aload_n 0, 1) := by decide +kernel
theorem dX6_whose_81 : decode cX6_whose 81 = .ok (.getfield 33, 3) := by decide +kernel
theorem dX6_whose_84 : decode cX6_whose 84 = .ok (.getfield 149, 3) := by decide +kernel
theorem dX6_whose_87 : decode cX6_whose 87 = .ok (.getfield 190, 3) := by decide +kernel
theorem dX6_whose_90 : decode cX6_whose 90 = .ok (.iload 6, 2) := by decide +kernel
theorem dX6_whose_92 : decode cX6_whose 92 = .ok (.iaload, 1) := by decide +kernel
theorem dX6_whose_93 : decode cX6_whose 93 = .ok (.ishl, 1) := by decide +kernel
theorem dX6_whose_94 : decode cX6_whose 94 = .ok (.iconst (-1), 1) := by decide +kernel
theorem dX6_whose_95 : decode cX6_whose 95 = .ok (.ixor, 1) := by decide +kernel
theorem dX6_whose_96 : decode cX6_whose 96 = .ok (.iand, 1) := by decide +kernel
theorem dX6_whose_97 : decode cX6_whose 97 = .ok (.istore 7, 2) := by decide +kernel
theorem dX6_whose_99 : decode cX6_whose 99 = .ok (.iload 7, 2) := by decide +kernel
theorem dX6_whose_101 : decode cX6_whose 101 = .ok (.ifCond .eq 12, 3) := by decide +kernel
theorem dX6_whose_104 : decode cX6_whose 104 = .ok (.iload 4, 2) := by decide +kernel
theorem dX6_whose_106 : decode cX6_whose 106 = .ok (.iconst 1, 1) := by decide +kernel
theorem dX6_whose_107 : decode cX6_whose 107 = .ok (.iload 6, 2) := by decide +kernel
theorem dX6_whose_109 : decode cX6_whose 109 = .ok (.ishl, 1) := by decide +kernel
theorem dX6_whose_110 : decode cX6_whose 110 = .ok (.ior, 1) := by decide +kernel
theorem dX6_whose_111 : decode cX6_whose 111 = .ok (.istore 4, 2) := by decide +kernel
theorem dX6_whose_113 : decode cX6_whose 113 = .ok (.iload 5, 2) := by decide +kernel
theorem dX6_whose_115 : decode cX6_whose 115 = .ok (.iload 7, 2) := by decide +kernel
theorem dX6_whose_117 : decode cX6_whose 117 = .ok (.invokestatic 314, 3) := by decide +kernel
theorem dX6_whose_120 : decode cX6_whose 120 = .ok (.iadd, 1) := by decide +kernel
theorem dX6_whose_121 : decode cX6_whose 121 = .ok (.istore 5, 2) := by decide +kernel
theorem dX6_whose_123 : decode cX6_whose 123 = .ok (.iinc 6 1, 3) := by decide +kernel
theorem dX6_whose_126 : decode cX6_whose 126 = .ok (.goto (-70), 3) := by decide +kernel
theorem dX6_whose_129 : decode cX6_whose 129 = .ok (.aload_n 0, 1) := by decide +kernel
theorem dX6_whose_130 : decode cX6_whose 130 = .ok (.iload 5, 2) := by decide +kernel
theorem dX6_whose_132 : decode cX6_whose 132 = .ok (.invokevirtual 103, 3) := by decide +kernel
theorem dX6_whose_135 : decode cX6_whose 135 = .ok (.iload 4, 2) := by decide +kernel
theorem dX6_whose_137 : decode cX6_whose 137 = .ok (.ireturn, 1) := by decide +kernel
theorem dX6_ask_0 : decode cX6_ask 0 = .ok (.aload_n 0, 1) := by decide +kernel
theorem dX6_ask_1 : decode cX6_ask 1 = .ok (.getfield 33, 3) := by decide +kernel
theorem dX6_ask_4 : decode cX6_ask 4 = .ok (.getfield 149, 3) := by decide +kernel
theorem dX6_ask_7 : decode cX6_ask 7 = .ok (.iload_n 1, 1) := by decide +kernel
theorem dX6_ask_8 : decode cX6_ask 8 = .ok (.invokevirtual 153, 3) := by decide +kernel
theorem dX6_ask_11 : decode cX6_ask 11 = .ok (.ifCond .ne 5, 3) := by decide +kernel
theorem dX6_ask_14 : decode cX6_ask 14 = .ok (.iconst (-1), 1) := by decide +kernel
theorem dX6_ask_15 : decode cX6_ask 15 = .ok (.ireturn, 1) := by decide +kernel
theorem dX6_ask_16 : decode cX6_ask 16 = .ok (.aload_n 0, 1) := by decide +kernel
theorem dX6_ask_17 : decode cX6_ask 17 = .ok (.getfield 33, 3) := by decide +kernel
theorem dX6_ask_20 : decode cX6_ask 20 = .ok (.getfield 167, 3) := by decide +kernel
theorem dX6_ask_23 : decode cX6_ask 23 = .ok (.iload_n 1, 1) := by decide +kernel
theorem dX6_ask_24 : decode cX6_ask 24 = .ok (.invokevirtual 281, 3) := by decide +kernel
theorem dX6_ask_27 : decode cX6_ask 27 = .ok (.ifCond .eq 6, 3) := by decide +kernel
theorem dX6_ask_30 : decode cX6_ask 30 = .ok (.bipush (-4), 2) := by decide +kernel
theorem dX6_ask_32 : decode cX6_ask 32 = .ok (.ireturn, 1) := by decide +kernel
theorem dX6_ask_33 : decode cX6_ask 33 = .ok (.bipush 12, 2) := by decide +kernel
theorem dX6_ask_35 : decode cX6_ask 35 = .ok (.istore_n 2, 1) := by decide +kernel
theorem dX6_ask_36 : decode cX6_ask 36 = .ok (.bipush 7, 2) := by decide +kernel
theorem dX6_ask_38 : decode cX6_ask 38 = .ok (.istore_n 3, 1) := by decide +kernel
theorem dX6_ask_39 : decode cX6_ask 39 = .ok (.iconst 0, 1) := by decide +kernel
theorem dX6_ask_40 : decode cX6_ask 40 = .ok (.istore 4, 2) := by decide +kernel
theorem dX6_ask_42 : decode cX6_ask 42 = .ok (.iload 4, 2) := by decide +kernel
theorem dX6_ask_44 : decode cX6_ask 44 = .ok (.bipush 12, 2) := by decide +kernel
theorem dX6_ask_46 : decode cX6_ask 46 = .ok (.if_icmp .gt 57, 3) := by decide +kernel
theorem dX6_ask_49 : decode cX6_ask 49 = .ok (.aload_n 0, 1) := by decide +kernel
theorem dX6_ask_50 : decode cX6_ask 50 = .ok (.getfield 33, 3) := by decide +kernel
theorem dX6_ask_53 : decode cX6_ask 53 = .ok (.getfield 167, 3) := by decide +kernel
theorem dX6_ask_56 : decode cX6_ask 56 = .ok (.aload_n 0, 1) := by decide +kernel
theorem dX6_ask_57 : decode cX6_ask 57 = .ok (.getfield 33, 3) := by decide +kernel
theorem dX6_ask_60 : decode cX6_ask 60 = .ok (.getfield 149, 3) := by decide +kernel
theorem dX6_ask_63 : decode cX6_ask 63 = .ok (.iload 4, 2) := by decide +kernel
theorem dX6_ask_65 : decode cX6_ask 65 = .ok (.invokevirtual 196, 3) := by decide +kernel
theorem dX6_ask_68 : decode cX6_ask 68 = .ok (.bipush (-9), 2) := by decide +kernel
theorem dX6_ask_70 : decode cX6_ask 70 = .ok (.if_icmp .ne 6, 3) := by decide +kernel
theorem dX6_ask_73 : decode cX6_ask 73 = .ok (.goto 24, 3) := by decide +kernel
theorem dX6_ask_76 : decode cX6_ask 76 = .ok (.aload_n 0, 1) := by decide +kernel
theorem dX6_ask_77 : decode cX6_ask 77 = .ok (.iload_n 1, 1) := by decide +kernel
theorem dX6_ask_78 : decode cX6_ask 78 = .ok (.iload 4, 2) := by decide +kernel
theorem dX6_ask_80 : decode cX6_ask 80 = .ok (.invokevirtual 319, 3) := by decide +kernel
theorem dX6_ask_83 : decode cX6_ask 83 = .ok (.istore 5, 2) := by decide +kernel
theorem dX6_ask_85 : decode cX6_ask 85 = .ok (.iload 5, 2) := by decide +kernel
theorem dX6_ask_87 : decode cX6_ask 87 = .ok (.iload_n 3, 1) := by decide +kernel
theorem dX6_ask_88 : decode cX6_ask 88 = .ok (.if_icmp .ge 9, 3) := by decide +kernel
theorem dX6_ask_91 : decode cX6_ask 91 = .ok (.iload 5, 2) := by decide +kernel
theorem dX6_ask_93 : decode cX6_ask 93 = .ok (.istore_n 3, 1) := by decide +kernel
theorem dX6_ask_94 : decode cX6_ask 94 = .ok (.iload 4, 2) := by decide +kernel
theorem dX6_ask_96 : decode cX6_ask 96 = .ok (.istore_n 2, 1) := by decide +kernel
theorem dX6_ask_97 : decode cX6_ask 97 = .ok (.iinc 4 1, 3) := by decide +kernel
theorem dX6_ask_100 : decode cX6_ask 100 = .ok (.goto (-58), 3) := by decide +kernel
theorem dX6_ask_103 : decode cX6_ask 103 = .ok (.aload_n 0, 1) := by decide +kernel
theorem dX6_ask_104 : decode cX6_ask 104 = .ok (.iload_n 3, 1) := by decide +kernel
theorem dX6_ask_105 : decode cX6_ask 105 = .ok (.invokevirtual 103, 3) := by decide +kernel
theorem dX6_ask_108 : decode cX6_ask 108 = .ok (.iload_n 2, 1) := by decide +kernel
theorem dX6_ask_109 : decode cX6_ask 109 = .ok (.ireturn, 1) := by decide +kernel
theorem dX6_year_0 : decode cX6_year 0 = .ok (.iload_n 1, 1) := by decide +kernel
theorem dX6_year_1 : decode cX6_year 1 = .ok (.iconst 1, 1) := by decide +kernel
theorem dX6_year_2 : decode cX6_year 2 = .ok (.if_icmp .lt 21, 3) := by decide +kernel
theorem dX6_year_5 : decode cX6_year 5 = .ok (.iload_n 1, 1) := by decide +kernel
theorem dX6_year_6 : decode cX6_year 6 = .ok (.ldc_w 322, 3) := by decide +kernel
theorem dX6_year_9 : decode cX6_year 9 = .ok (.if_icmp .ge 14, 3) := by decide +kernel
theorem dX6_year_12 : decode cX6_year 12 = .ok (.iload_n 2, 1) := by decide +kernel
theorem dX6_year_13 : decode cX6_year 13 = .ok (.iconst 1, 1) := by decide +kernel
theorem dX6_year_14 : decode cX6_year 14 = .ok (.if_icmp .lt 9, 3) := by decide +kernel
theorem dX6_year_17 : decode cX6_year 17 = .ok (.iload_n 2, 1) := by decide +kernel
theorem dX6_year_18 : decode cX6_year 18 = .ok (.bipush 100, 2) := by decide +kernel
theorem dX6_year_20 : decode cX6_year 20 = .ok (.if_icmp .le 5, 3) := by decide +kernel
theorem dX6_year_23 : decode cX6_year 23 = .ok (.iconst (-1), 1) := by decide +kernel
theorem dX6_year_24 : decode cX6_year 24 = .ok (.ireturn, 1) := by decide +kernel
theorem dX6_year_25 : decode cX6_year 25 = .ok (.aload_n 0, 1) := by decide +kernel
theorem dX6_year_26 : decode cX6_year 26 = .ok (.invokevirtual 183, 3) := by decide +kernel
theorem dX6_year_29 : decode cX6_year 29 = .ok (.ifCond .eq 6, 3) := by decide +kernel
theorem dX6_year_32 : decode cX6_year 32 = .ok (.bipush (-4), 2) := by decide +kernel
theorem dX6_year_34 : decode cX6_year 34 = .ok (.ireturn, 1) := by decide +kernel
theorem dX6_year_35 : decode cX6_year 35 = .ok (.aload_n 0, 1) := by decide +kernel
theorem dX6_year_36 : decode cX6_year 36 = .ok (.invokevirtual 248, 3) := by decide +kernel
theorem dX6_year_39 : decode cX6_year 39 = .ok (.iload_n 1, 1) := by decide +kernel
theorem dX6_year_40 : decode cX6_year 40 = .ok (.i2l, 1) := by decide +kernel
theorem dX6_year_41 : decode cX6_year 41 = .ok (.lstore_n 3, 1) := by decide +kernel
theorem dX6_year_42 : decode cX6_year 42 = .ok (.iconst 0, 1) := by decide +kernel
theorem dX6_year_43 : decode cX6_year 43 = .ok (.istore 5, 2) := by decide +kernel
theorem dX6_year_45 : decode cX6_year 45 = .ok (.iconst 0, 1) := by decide +kernel
theorem dX6_year_46 : decode cX6_year 46 = .ok (.istore 6, 2) := by decide +kernel
theorem dX6_year_48 : decode cX6_year 48 = .ok (.iload 6, 2) := by decide +kernel
theorem dX6_year_50 : decode cX6_year 50 = .ok (.iload_n 2, 1) := by decide +kernel
theorem dX6_year_51 : decode cX6_year 51 = .ok (.if_icmp .ge 83, 3) := by decide +kernel
theorem dX6_year_54 : decode cX6_year 54 = .ok (.lload_n 3, 1) := by decide +kernel
theorem dX6_year_55 : decode cX6_year 55 = .ok (.ldc2_w 323, 3) := by decide +kernel
theorem dX6_year_58 : decode cX6_year 58 = .ok (.lmul, 1) := by decide +kernel
theorem dX6_year_59 : decode cX6_year 59 = .ok (.ldc2_w 325, 3) := by decide +kernel
theorem dX6_year_62 : decode cX6_year 62 = .ok (.lrem, 1) := by decide +kernel
theorem dX6_year_63 : decode cX6_year 63 = .ok (.lstore_n 3, 1) := by decide +kernel
theorem dX6_year_64 : decode cX6_year 64 = .ok (.aload_n 0, 1) := by decide +kernel
theorem dX6_year_65 : decode cX6_year 65 = .ok (.getfield 58, 3) := by decide +kernel
theorem dX6_year_68 : decode cX6_year 68 = .ok (.getfield 215, 3) := by decide +kernel
theorem dX6_year_71 : decode cX6_year 71 = .ok (.istore 7, 2) := by decide +kernel
theorem dX6_year_73 : decode cX6_year 73 = .ok (.aload_n 0, 1) := by decide +kernel
theorem dX6_year_74 : decode cX6_year 74 = .ok (.getfield 58, 3) := by decide +kernel
theorem dX6_year_77 : decode cX6_year 77 = .ok (.aload_n 0, 1) := by decide +kernel
theorem dX6_year_78 : decode cX6_year 78 = .ok (.getfield 33, 3) := by decide +kernel
theorem dX6_year_81 : decode cX6_year 81 = .ok (.getfield 149, 3) := by decide +kernel
theorem dX6_year_84 : decode cX6_year 84 = .ok (.lload_n 3, 1) := by decide +kernel
theorem dX6_year_85 : decode cX6_year 85 = .ok (.ldc2_w 327, 3) := by decide +kernel
theorem dX6_year_88 : decode cX6_year 88 = .ok (.lrem, 1) := by decide +kernel
theorem dX6_year_89 : decode cX6_year 89 = .ok (.l2i, 1) := by decide +kernel
theorem dX6_year_90 : decode cX6_year 90 = .ok (.invokevirtual 251, 3) := by decide +kernel
theorem dX6_year_93 : decode cX6_year 93 = .ok (.ifCond .ne 20, 3) := by decide +kernel
theorem dX6_year_96 : decode cX6_year 96 = .ok (.aload_n 0, 1) := by decide +kernel
theorem dX6_year_97 : decode cX6_year 97 = .ok (.getfield 58, 3) := by decide +kernel
theorem dX6_year_100 : decode cX6_year 100 = .ok (.aload_n 0, 1) := by decide +kernel
theorem dX6_year_101 : decode cX6_year 101 = .ok (.getfield 33, 3) := by decide +kernel
theorem dX6_year_104 : decode cX6_year 104 = .ok (.getfield 149, 3) := by decide +kernel
theorem dX6_year_107 : decode cX6_year 107 = .ok (.bipush 12, 2) := by decide +kernel
theorem dX6_year_109 : decode cX6_year 109 = .ok (.invokevirtual 251, 3) := by decide +kernel
theorem dX6_year_112 : decode cX6_year 112 = .ok (.pop, 1) := by decide +kernel
theorem dX6_year_113 : decode cX6_year 113 = .ok (.aload_n 0, 1) := by decide +kernel
theorem dX6_year_114 : decode cX6_year 114 = .ok (.getfield 58, 3) := by decide +kernel
theorem dX6_year_117 : decode cX6_year 117 = .ok (.getfield 215, 3) := by decide +kernel
theorem dX6_year_120 : decode cX6_year 120 = .ok (.iload 7, 2) := by decide +kernel
theorem dX6_year_122 : decode cX6_year 122 = .ok (.if_icmp .le 6, 3) := by decide +kernel
theorem dX6_year_125 : decode cX6_year 125 = .ok (.iinc 5 1, 3) := by decide +kernel
theorem dX6_year_128 : decode cX6_year 128 = .ok (.iinc 6 1, 3) := by decide +kernel
theorem dX6_year_131 : decode cX6_year 131 = .ok (.goto (-83), 3) := by decide +kernel
theorem dX6_year_134 : decode cX6_year 134 = .ok (.aload_n 0, 1) := by decide +kernel
theorem dX6_year_135 : decode cX6_year 135 = .ok (.aload_n 0, 1) := by decide +kernel
theorem dX6_year_136 : decode cX6_year 136 = .ok (.getfield 58, 3) := by decide +kernel
theorem dX6_year_139 : decode cX6_year 139 = .ok (.invokevirtual 255, 3) := by decide +kernel
theorem dX6_year_142 : decode cX6_year 142 = .ok (.invokevirtual 103, 3) := by decide +kernel
theorem dX6_year_145 : decode cX6_year 145 = .ok (.aload_n 0, 1) := by decide +kernel
theorem dX6_year_146 : decode cX6_year 146 = .ok (.iload 5, 2) := by decide +kernel
theorem dX6_year_148 : decode cX6_year 148 = .ok (.iconst 1, 1) := by decide +kernel
theorem dX6_year_149 : decode cX6_year 149 = .ok (.invokevirtual 268, 3) := by decide +kernel
theorem dX6_year_152 : decode cX6_year 152 = .ok (.iconst 1, 1) := by decide +kernel
theorem dX6_year_153 : decode cX6_year 153 = .ok (.ireturn, 1) := by decide +kernel
theorem dX6_asked_0 : decode cX6_asked 0 = .ok (.aload_n 0, 1) := by decide +kernel
theorem dX6_asked_1 : decode cX6_asked 1 = .ok (.getfield 73, 3) := by decide +kernel
theorem dX6_asked_4 : decode cX6_asked 4 = .ok (.ireturn, 1) := by decide +kernel
theorem dX6_upper_0 : decode cX6_upper 0 = .ok (.aload_n 0, 1) := by decide +kernel
theorem dX6_upper_1 : decode cX6_upper 1 = .ok (.getfield 76, 3) := by decide +kernel
theorem dX6_upper_4 : decode cX6_upper 4 = .ok (.lreturn, 1) := by decide +kernel
theorem dX6_lower_0 : decode cX6_lower 0 = .ok (.aload_n 0, 1) := by decide +kernel
theorem dX6_lower_1 : decode cX6_lower 1 = .ok (.getfield 80, 3) := by decide +kernel
theorem dX6_lower_4 : decode cX6_lower 4 = .ok (.lreturn, 1) := by decide +kernel
theorem dX6_count_0 : decode cX6_count 0 = .ok (.iload_n 1, 1) := by decide +kernel
theorem dX6_count_1 : decode cX6_count 1 = .ok (.tableswitch 128 0 7 #[47, 58, 69, 83, 95, 107, 112, 120], 47) := by decide +kernel
theorem dX6_count_48 : decode cX6_count 48 = .ok (.aload_n 0, 1) := by decide +kernel
theorem dX6_count_49 : decode cX6_count 49 = .ok (.getfield 33, 3) := by decide +kernel
theorem dX6_count_52 : decode cX6_count 52 = .ok (.getfield 149, 3) := by decide +kernel
theorem dX6_count_55 : decode cX6_count 55 = .ok (.getfield 150, 3) := by decide +kernel
theorem dX6_count_58 : decode cX6_count 58 = .ok (.ireturn, 1) := by decide +kernel
theorem dX6_count_59 : decode cX6_count 59 = .ok (.aload_n 0, 1) := by decide +kernel
theorem dX6_count_60 : decode cX6_count 60 = .ok (.getfield 33, 3) := by decide +kernel
theorem dX6_count_63 : decode cX6_count 63 = .ok (.getfield 167, 3) := by decide +kernel
theorem dX6_count_66 : decode cX6_count 66 = .ok (.getfield 200, 3) := by decide +kernel
theorem dX6_count_69 : decode cX6_count 69 = .ok (.ireturn, 1) := by decide +kernel
theorem dX6_count_70 : decode cX6_count 70 = .ok (.aload_n 0, 1) := by decide +kernel
theorem dX6_count_71 : decode cX6_count 71 = .ok (.getfield 33, 3) := by decide +kernel
theorem dX6_count_74 : decode cX6_count 74 = .ok (.getfield 167, 3) := by decide +kernel
theorem dX6_count_77 : decode cX6_count 77 = .ok (.getfield 329, 3) := by decide +kernel
theorem dX6_count_80 : decode cX6_count 80 = .ok (.invokestatic 314, 3) := by decide +kernel
theorem dX6_count_83 : decode cX6_count 83 = .ok (.ireturn, 1) := by decide +kernel
theorem dX6_count_84 : decode cX6_count 84 = .ok (.aload_n 0, 1) := by decide +kernel
theorem dX6_count_85 : decode cX6_count 85 = .ok (.getfield 33, 3) := by decide +kernel
theorem dX6_count_88 : decode cX6_count 88 = .ok (.getfield 149, 3) := by decide +kernel
theorem dX6_count_91 : decode cX6_count 91 = .ok (.iconst 2, 1) := by decide +kernel
theorem dX6_count_92 : decode cX6_count 92 = .ok (.invokevirtual 332, 3) := by decide +kernel
theorem dX6_count_95 : decode cX6_count 95 = .ok (.ireturn, 1) := by decide +kernel
theorem dX6_count_96 : decode cX6_count 96 = .ok (.aload_n 0, 1) := by decide +kernel
theorem dX6_count_97 : decode cX6_count 97 = .ok (.getfield 33, 3) := by decide +kernel
theorem dX6_count_100 : decode cX6_count 100 = .ok (.getfield 149, 3) := by decide +kernel
theorem dX6_count_103 : decode cX6_count 103 = .ok (.iconst 3, 1) := by decide +kernel
theorem dX6_count_104 : decode cX6_count 104 = .ok (.invokevirtual 332, 3) := by decide +kernel
theorem dX6_count_107 : decode cX6_count 107 = .ok (.ireturn, 1) := by decide +kernel
theorem dX6_count_108 : decode cX6_count 108 = .ok (.aload_n 0, 1) := by decide +kernel
theorem dX6_count_109 : decode cX6_count 109 = .ok (.invokevirtual 335, 3) := by decide +kernel
theorem dX6_count_112 : decode cX6_count 112 = .ok (.ireturn, 1) := by decide +kernel
theorem dX6_count_113 : decode cX6_count 113 = .ok (.aload_n 0, 1) := by decide +kernel
theorem dX6_count_114 : decode cX6_count 114 = .ok (.getfield 16, 3) := by decide +kernel
theorem dX6_count_117 : decode cX6_count 117 = .ok (.invokevirtual 338, 3) := by decide +kernel
theorem dX6_count_120 : decode cX6_count 120 = .ok (.ireturn, 1) := by decide +kernel
theorem dX6_count_121 : decode cX6_count 121 = .ok (.aload_n 0, 1) := by decide +kernel
theorem dX6_count_122 : decode cX6_count 122 = .ok (.getfield 20, 3) := by decide +kernel
theorem dX6_count_125 : decode cX6_count 125 = .ok (.invokevirtual 338, 3) := by decide +kernel
theorem dX6_count_128 : decode cX6_count 128 = .ok (.ireturn, 1) := by decide +kernel
theorem dX6_count_129 : decode cX6_count 129 = .ok (.iconst (-1), 1) := by decide +kernel
theorem dX6_count_130 : decode cX6_count 130 = .ok (.ireturn, 1) := by decide +kernel
theorem dX6_finding_0 : decode cX6_finding 0 = .ok (.aload_n 0, 1) := by decide +kernel
theorem dX6_finding_1 : decode cX6_finding 1 = .ok (.getfield 69, 3) := by decide +kernel
theorem dX6_finding_4 : decode cX6_finding 4 = .ok (.ireturn, 1) := by decide +kernel
theorem dX6_findings_0 : decode cX6_findings 0 = .ok (.iload_n 1, 1) := by decide +kernel
theorem dX6_findings_1 : decode cX6_findings 1 = .ok (.iconst 1, 1) := by decide +kernel
theorem dX6_findings_2 : decode cX6_findings 2 = .ok (.if_icmp .lt 8, 3) := by decide +kernel
theorem dX6_findings_5 : decode cX6_findings 5 = .ok (.iload_n 1, 1) := by decide +kernel
theorem dX6_findings_6 : decode cX6_findings 6 = .ok (.iconst 5, 1) := by decide +kernel
theorem dX6_findings_7 : decode cX6_findings 7 = .ok (.if_icmp .le 5, 3) := by decide +kernel
theorem dX6_findings_10 : decode cX6_findings 10 = .ok (.iconst (-1), 1) := by decide +kernel
theorem dX6_findings_11 : decode cX6_findings 11 = .ok (.ireturn, 1) := by decide +kernel
theorem dX6_findings_12 : decode cX6_findings 12 = .ok (.aload_n 0, 1) := by decide +kernel
theorem dX6_findings_13 : decode cX6_findings 13 = .ok (.getfield 66, 3) := by decide +kernel
theorem dX6_findings_16 : decode cX6_findings 16 = .ok (.iload_n 1, 1) := by decide +kernel
theorem dX6_findings_17 : decode cX6_findings 17 = .ok (.iaload, 1) := by decide +kernel
theorem dX6_findings_18 : decode cX6_findings 18 = .ok (.ireturn, 1) := by decide +kernel
theorem dX6_digest_0 : decode cX6_digest 0 = .ok (.ldc2_w 341, 3) := by decide +kernel
theorem dX6_digest_3 : decode cX6_digest 3 = .ok (.lstore_n 1, 1) := by decide +kernel
theorem dX6_digest_4 : decode cX6_digest 4 = .ok (.iconst 0, 1) := by decide +kernel
theorem dX6_digest_5 : decode cX6_digest 5 = .ok (.istore_n 3, 1) := by decide +kernel
theorem dX6_digest_6 : decode cX6_digest 6 = .ok (.iload_n 3, 1) := by decide +kernel
theorem dX6_digest_7 : decode cX6_digest 7 = .ok (.bipush 7, 2) := by decide +kernel
theorem dX6_digest_9 : decode cX6_digest 9 = .ok (.if_icmp .gt 22, 3) := by decide +kernel
theorem dX6_digest_12 : decode cX6_digest 12 = .ok (.ldc2_w 343, 3) := by decide +kernel
theorem dX6_digest_15 : decode cX6_digest 15 = .ok (.lload_n 1, 1) := by decide +kernel
theorem dX6_digest_16 : decode cX6_digest 16 = .ok (.lmul, 1) := by decide +kernel
theorem dX6_digest_17 : decode cX6_digest 17 = .ok (.aload_n 0, 1) := by decide +kernel
theorem dX6_digest_18 : decode cX6_digest 18 = .ok (.iload_n 3, 1) := by decide +kernel
theorem dX6_digest_19 : decode cX6_digest 19 = .ok (.invokevirtual 345, 3) := by decide +kernel
theorem dX6_digest_22 : decode cX6_digest 22 = .ok (.i2l, 1) := by decide +kernel
theorem dX6_digest_23 : decode cX6_digest 23 = .ok (.ladd, 1) := by decide +kernel
theorem dX6_digest_24 : decode cX6_digest 24 = .ok (.lstore_n 1, 1) := by decide +kernel
theorem dX6_digest_25 : decode cX6_digest 25 = .ok (.iinc 3 1, 3) := by decide +kernel
theorem dX6_digest_28 : decode cX6_digest 28 = .ok (.goto (-22), 3) := by decide +kernel
theorem dX6_digest_31 : decode cX6_digest 31 = .ok (.iconst 0, 1) := by decide +kernel
theorem dX6_digest_32 : decode cX6_digest 32 = .ok (.istore_n 3, 1) := by decide +kernel
theorem dX6_digest_33 : decode cX6_digest 33 = .ok (.iload_n 3, 1) := by decide +kernel
theorem dX6_digest_34 : decode cX6_digest 34 = .ok (.iconst 3, 1) := by decide +kernel
theorem dX6_digest_35 : decode cX6_digest 35 = .ok (.if_icmp .ge 29, 3) := by decide +kernel
theorem dX6_digest_38 : decode cX6_digest 38 = .ok (.ldc2_w 343, 3) := by decide +kernel
theorem dX6_digest_41 : decode cX6_digest 41 = .ok (.lload_n 1, 1) := by decide +kernel
theorem dX6_digest_42 : decode cX6_digest 42 = .ok (.lmul, 1) := by decide +kernel
theorem dX6_digest_43 : decode cX6_digest 43 = .ok (.aload_n 0, 1) := by decide +kernel
theorem dX6_digest_44 : decode cX6_digest 44 = .ok (.getfield 33, 3) := by decide +kernel
theorem dX6_digest_47 : decode cX6_digest 47 = .ok (.getfield 167, 3) := by decide +kernel
theorem dX6_digest_50 : decode cX6_digest 50 = .ok (.getfield 186, 3) := by decide +kernel
theorem dX6_digest_53 : decode cX6_digest 53 = .ok (.iload_n 3, 1) := by decide +kernel
theorem dX6_digest_54 : decode cX6_digest 54 = .ok (.iaload, 1) := by decide +kernel
theorem dX6_digest_55 : decode cX6_digest 55 = .ok (.i2l, 1) := by decide +kernel
theorem dX6_digest_56 : decode cX6_digest 56 = .ok (.ladd, 1) := by decide +kernel
theorem dX6_digest_57 : decode cX6_digest 57 = .ok (.lstore_n 1, 1) := by decide +kernel
theorem dX6_digest_58 : decode cX6_digest 58 = .ok (.iinc 3 1, 3) := by decide +kernel
theorem dX6_digest_61 : decode cX6_digest 61 = .ok (.goto (-28), 3) := by decide +kernel
theorem dX6_digest_64 : decode cX6_digest 64 = .ok (.iconst 0, 1) := by decide +kernel
theorem dX6_digest_65 : decode cX6_digest 65 = .ok (.istore_n 3, 1) := by decide +kernel
theorem dX6_digest_66 : decode cX6_digest 66 = .ok (.iload_n 3, 1) := by decide +kernel
theorem dX6_digest_67 : decode cX6_digest 67 = .ok (.aload_n 0, 1) := by decide +kernel
theorem dX6_digest_68 : decode cX6_digest 68 = .ok (.getfield 33, 3) := by decide +kernel
theorem dX6_digest_71 : decode cX6_digest 71 = .ok (.getfield 149, 3) := by decide +kernel
theorem dX6_digest_74 : decode cX6_digest 74 = .ok (.getfield 150, 3) := by decide +kernel
theorem dX6_digest_77 : decode cX6_digest 77 = .ok (.if_icmp .ge 67, 3) := by decide +kernel
theorem dX6_digest_80 : decode cX6_digest 80 = .ok (.iconst 0, 1) := by decide +kernel
theorem dX6_digest_81 : decode cX6_digest 81 = .ok (.istore 4, 2) := by decide +kernel
theorem dX6_digest_83 : decode cX6_digest 83 = .ok (.iload 4, 2) := by decide +kernel
theorem dX6_digest_85 : decode cX6_digest 85 = .ok (.bipush 6, 2) := by decide +kernel
theorem dX6_digest_87 : decode cX6_digest 87 = .ok (.if_icmp .gt 24, 3) := by decide +kernel
theorem dX6_digest_90 : decode cX6_digest 90 = .ok (.ldc2_w 343, 3) := by decide +kernel
theorem dX6_digest_93 : decode cX6_digest 93 = .ok (.lload_n 1, 1) := by decide +kernel
theorem dX6_digest_94 : decode cX6_digest 94 = .ok (.lmul, 1) := by decide +kernel
theorem dX6_digest_95 : decode cX6_digest 95 = .ok (.aload_n 0, 1) := by decide +kernel
theorem dX6_digest_96 : decode cX6_digest 96 = .ok (.iload_n 3, 1) := by decide +kernel
theorem dX6_digest_97 : decode cX6_digest 97 = .ok (.iload 4, 2) := by decide +kernel
theorem dX6_digest_99 : decode cX6_digest 99 = .ok (.invokevirtual 154, 3) := by decide +kernel
theorem dX6_digest_102 : decode cX6_digest 102 = .ok (.i2l, 1) := by decide +kernel
theorem dX6_digest_103 : decode cX6_digest 103 = .ok (.ladd, 1) := by decide +kernel
theorem dX6_digest_104 : decode cX6_digest 104 = .ok (.lstore_n 1, 1) := by decide +kernel
theorem dX6_digest_105 : decode cX6_digest 105 = .ok (.iinc 4 1, 3) := by decide +kernel
theorem dX6_digest_108 : decode cX6_digest 108 = .ok (.goto (-25), 3) := by decide +kernel
theorem dX6_digest_111 : decode cX6_digest 111 = .ok (.ldc2_w 343, 3) := by decide +kernel
theorem dX6_digest_114 : decode cX6_digest 114 = .ok (.lload_n 1, 1) := by decide +kernel
theorem dX6_digest_115 : decode cX6_digest 115 = .ok (.lmul, 1) := by decide +kernel
theorem dX6_digest_116 : decode cX6_digest 116 = .ok (.aload_n 0, 1) := by decide +kernel
theorem dX6_digest_117 : decode cX6_digest 117 = .ok (.getfield 33, 3) := by decide +kernel
theorem dX6_digest_120 : decode cX6_digest 120 = .ok (.getfield 167, 3) := by decide +kernel
theorem dX6_digest_123 : decode cX6_digest 123 = .ok (.iload_n 3, 1) := by decide +kernel
theorem dX6_digest_124 : decode cX6_digest 124 = .ok (.invokevirtual 177, 3) := by decide +kernel
theorem dX6_digest_127 : decode cX6_digest 127 = .ok (.ifCond .eq 7, 3) := by decide +kernel
theorem dX6_digest_130 : decode cX6_digest 130 = .ok (.iconst 1, 1) := by decide +kernel
theorem dX6_digest_131 : decode cX6_digest 131 = .ok (.goto 4, 3) := by decide +kernel
theorem dX6_digest_134 : decode cX6_digest 134 = .ok (.iconst 0, 1) := by decide +kernel
theorem dX6_digest_135 : decode cX6_digest 135 = .ok (.i2l, 1) := by decide +kernel
theorem dX6_digest_136 : decode cX6_digest 136 = .ok (.ladd, 1) := by decide +kernel
theorem dX6_digest_137 : decode cX6_digest 137 = .ok (.lstore_n 1, 1) := by decide +kernel
theorem dX6_digest_138 : decode cX6_digest 138 = .ok (.iinc 3 1, 3) := by decide +kernel
theorem dX6_digest_141 : decode cX6_digest 141 = .ok (.goto (-75), 3) := by decide +kernel
theorem dX6_digest_144 : decode cX6_digest 144 = .ok (.ldc2_w 343, 3) := by decide +kernel
theorem dX6_digest_147 : decode cX6_digest 147 = .ok (.lload_n 1, 1) := by decide +kernel
theorem dX6_digest_148 : decode cX6_digest 148 = .ok (.lmul, 1) := by decide +kernel
theorem dX6_digest_149 : decode cX6_digest 149 = .ok (.aload_n 0, 1) := by decide +kernel
theorem dX6_digest_150 : decode cX6_digest 150 = .ok (.getfield 33, 3) := by decide +kernel
theorem dX6_digest_153 : decode cX6_digest 153 = .ok (.getfield 167, 3) := by decide +kernel
theorem dX6_digest_156 : decode cX6_digest 156 = .ok (.getfield 218, 3) := by decide +kernel
theorem dX6_digest_159 : decode cX6_digest 159 = .ok (.i2l, 1) := by decide +kernel
theorem dX6_digest_160 : decode cX6_digest 160 = .ok (.ladd, 1) := by decide +kernel
theorem dX6_digest_161 : decode cX6_digest 161 = .ok (.lstore_n 1, 1) := by decide +kernel
theorem dX6_digest_162 : decode cX6_digest 162 = .ok (.ldc2_w 343, 3) := by decide +kernel
theorem dX6_digest_165 : decode cX6_digest 165 = .ok (.lload_n 1, 1) := by decide +kernel
theorem dX6_digest_166 : decode cX6_digest 166 = .ok (.lmul, 1) := by decide +kernel
theorem dX6_digest_167 : decode cX6_digest 167 = .ok (.aload_n 0, 1) := by decide +kernel
theorem dX6_digest_168 : decode cX6_digest 168 = .ok (.getfield 33, 3) := by decide +kernel
theorem dX6_digest_171 : decode cX6_digest 171 = .ok (.getfield 167, 3) := by decide +kernel
theorem dX6_digest_174 : decode cX6_digest 174 = .ok (.getfield 215, 3) := by decide +kernel
theorem dX6_digest_177 : decode cX6_digest 177 = .ok (.i2l, 1) := by decide +kernel
theorem dX6_digest_178 : decode cX6_digest 178 = .ok (.ladd, 1) := by decide +kernel
theorem dX6_digest_179 : decode cX6_digest 179 = .ok (.lstore_n 1, 1) := by decide +kernel
theorem dX6_digest_180 : decode cX6_digest 180 = .ok (.iconst 0, 1) := by decide +kernel
theorem dX6_digest_181 : decode cX6_digest 181 = .ok (.istore_n 3, 1) := by decide +kernel
theorem dX6_digest_182 : decode cX6_digest 182 = .ok (.iload_n 3, 1) := by decide +kernel
theorem dX6_digest_183 : decode cX6_digest 183 = .ok (.aload_n 0, 1) := by decide +kernel
theorem dX6_digest_184 : decode cX6_digest 184 = .ok (.getfield 33, 3) := by decide +kernel
theorem dX6_digest_187 : decode cX6_digest 187 = .ok (.getfield 167, 3) := by decide +kernel
theorem dX6_digest_190 : decode cX6_digest 190 = .ok (.getfield 200, 3) := by decide +kernel
theorem dX6_digest_193 : decode cX6_digest 193 = .ok (.if_icmp .ge 25, 3) := by decide +kernel
theorem dX6_digest_196 : decode cX6_digest 196 = .ok (.ldc2_w 343, 3) := by decide +kernel
theorem dX6_digest_199 : decode cX6_digest 199 = .ok (.lload_n 1, 1) := by decide +kernel
theorem dX6_digest_200 : decode cX6_digest 200 = .ok (.lmul, 1) := by decide +kernel
theorem dX6_digest_201 : decode cX6_digest 201 = .ok (.aload_n 0, 1) := by decide +kernel
theorem dX6_digest_202 : decode cX6_digest 202 = .ok (.getfield 33, 3) := by decide +kernel
theorem dX6_digest_205 : decode cX6_digest 205 = .ok (.iload_n 3, 1) := by decide +kernel
theorem dX6_digest_206 : decode cX6_digest 206 = .ok (.invokevirtual 209, 3) := by decide +kernel
theorem dX6_digest_209 : decode cX6_digest 209 = .ok (.i2l, 1) := by decide +kernel
theorem dX6_digest_210 : decode cX6_digest 210 = .ok (.ladd, 1) := by decide +kernel
theorem dX6_digest_211 : decode cX6_digest 211 = .ok (.lstore_n 1, 1) := by decide +kernel
theorem dX6_digest_212 : decode cX6_digest 212 = .ok (.iinc 3 1, 3) := by decide +kernel
theorem dX6_digest_215 : decode cX6_digest 215 = .ok (.goto (-33), 3) := by decide +kernel
theorem dX6_digest_218 : decode cX6_digest 218 = .ok (.iconst 0, 1) := by decide +kernel
theorem dX6_digest_219 : decode cX6_digest 219 = .ok (.istore_n 3, 1) := by decide +kernel
theorem dX6_digest_220 : decode cX6_digest 220 = .ok (.iload_n 3, 1) := by decide +kernel
theorem dX6_digest_221 : decode cX6_digest 221 = .ok (.aload_n 0, 1) := by decide +kernel
theorem dX6_digest_222 : decode cX6_digest 222 = .ok (.getfield 37, 3) := by decide +kernel
theorem dX6_digest_225 : decode cX6_digest 225 = .ok (.arraylength, 1) := by decide +kernel
theorem dX6_digest_226 : decode cX6_digest 226 = .ok (.if_icmp .ge 45, 3) := by decide +kernel
theorem dX6_digest_229 : decode cX6_digest 229 = .ok (.ldc2_w 343, 3) := by decide +kernel
theorem dX6_digest_232 : decode cX6_digest 232 = .ok (.lload_n 1, 1) := by decide +kernel
theorem dX6_digest_233 : decode cX6_digest 233 = .ok (.lmul, 1) := by decide +kernel
theorem dX6_digest_234 : decode cX6_digest 234 = .ok (.aload_n 0, 1) := by decide +kernel
theorem dX6_digest_235 : decode cX6_digest 235 = .ok (.getfield 37, 3) := by decide +kernel
theorem dX6_digest_238 : decode cX6_digest 238 = .ok (.iload_n 3, 1) := by decide +kernel
theorem dX6_digest_239 : decode cX6_digest 239 = .ok (.aaload, 1) := by decide +kernel
theorem dX6_digest_240 : decode cX6_digest 240 = .ok (.getfield 145, 3) := by decide +kernel
theorem dX6_digest_243 : decode cX6_digest 243 = .ok (.ifCond .eq 18, 3) := by decide +kernel
theorem dX6_digest_246 : decode cX6_digest 246 = .ok (.aload_n 0, 1) := by decide +kernel
theorem dX6_digest_247 : decode cX6_digest 247 = .ok (.getfield 37, 3) := by decide +kernel
theorem dX6_digest_250 : decode cX6_digest 250 = .ok (.iload_n 3, 1) := by decide +kernel
theorem dX6_digest_251 : decode cX6_digest 251 = .ok (.aaload, 1) := by decide +kernel
theorem dX6_digest_252 : decode cX6_digest 252 = .ok (.getfield 167, 3) := by decide +kernel
theorem dX6_digest_255 : decode cX6_digest 255 = .ok (.getfield 200, 3) := by decide +kernel
theorem dX6_digest_258 : decode cX6_digest 258 = .ok (.goto 4, 3) := by decide +kernel
theorem dX6_digest_261 : decode cX6_digest 261 = .ok (.iconst (-1), 1) := by decide +kernel
theorem dX6_digest_262 : decode cX6_digest 262 = .ok (.i2l, 1) := by decide +kernel
theorem dX6_digest_263 : decode cX6_digest 263 = .ok (.ladd, 1) := by decide +kernel
theorem dX6_digest_264 : decode cX6_digest 264 = .ok (.lstore_n 1, 1) := by decide +kernel
theorem dX6_digest_265 : decode cX6_digest 265 = .ok (.iinc 3 1, 3) := by decide +kernel
theorem dX6_digest_268 : decode cX6_digest 268 = .ok (.goto (-48), 3) := by decide +kernel
theorem dX6_digest_271 : decode cX6_digest 271 = .ok (.aload_n 0, 1) := by decide +kernel
theorem dX6_digest_272 : decode cX6_digest 272 = .ok (.getfield 20, 3) := by decide +kernel
theorem dX6_digest_275 : decode cX6_digest 275 = .ok (.aload_n 0, 1) := by decide +kernel
theorem dX6_digest_276 : decode cX6_digest 276 = .ok (.getfield 16, 3) := by decide +kernel
theorem dX6_digest_279 : decode cX6_digest 279 = .ok (.lload_n 1, 1) := by decide +kernel
theorem dX6_digest_280 : decode cX6_digest 280 = .ok (.invokevirtual 348, 3) := by decide +kernel
theorem dX6_digest_283 : decode cX6_digest 283 = .ok (.invokevirtual 348, 3) := by decide +kernel
theorem dX6_digest_286 : decode cX6_digest 286 = .ok (.lreturn, 1) := by decide +kernel
theorem dX6_found_0 : decode cX6_found 0 = .ok (.iload_n 1, 1) := by decide +kernel
theorem dX6_found_1 : decode cX6_found 1 = .ok (.iconst 1, 1) := by decide +kernel
theorem dX6_found_2 : decode cX6_found 2 = .ok (.if_icmp .lt 23, 3) := by decide +kernel
theorem dX6_found_5 : decode cX6_found 5 = .ok (.iload_n 1, 1) := by decide +kernel
theorem dX6_found_6 : decode cX6_found 6 = .ok (.iconst 5, 1) := by decide +kernel
theorem dX6_found_7 : decode cX6_found 7 = .ok (.if_icmp .gt 18, 3) := by decide +kernel
theorem dX6_found_10 : decode cX6_found 10 = .ok (.aload_n 0, 1) := by decide +kernel
theorem dX6_found_11 : decode cX6_found 11 = .ok (.iload_n 1, 1) := by decide +kernel
theorem dX6_found_12 : decode cX6_found 12 = .ok (.putfield 69, 3) := by decide +kernel
theorem dX6_found_15 : decode cX6_found 15 = .ok (.aload_n 0, 1) := by decide +kernel
theorem dX6_found_16 : decode cX6_found 16 = .ok (.getfield 66, 3) := by decide +kernel
theorem dX6_found_19 : decode cX6_found 19 = .ok (.iload_n 1, 1) := by decide +kernel
theorem dX6_found_20 : decode cX6_found 20 = .ok (.dup2, 1) := by decide +kernel
theorem dX6_found_21 : decode cX6_found 21 = .ok (.iaload, 1) := by decide +kernel
theorem dX6_found_22 : decode cX6_found 22 = .ok (.iconst 1, 1) := by decide +kernel
theorem dX6_found_23 : decode cX6_found 23 = .ok (.iadd, 1) := by decide +kernel
theorem dX6_found_24 : decode cX6_found 24 = .ok (.iastore, 1) := by decide +kernel
theorem dX6_found_25 : decode cX6_found 25 = .ok (.bipush (-3), 2) := by decide +kernel
theorem dX6_found_27 : decode cX6_found 27 = .ok (.ireturn, 1) := by decide +kernel
theorem dX6_tell_0 : decode cX6_tell 0 = .ok (.aload_n 0, 1) := by decide +kernel
theorem dX6_tell_1 : decode cX6_tell 1 = .ok (.iload_n 1, 1) := by decide +kernel
theorem dX6_tell_2 : decode cX6_tell 2 = .ok (.putfield 73, 3) := by decide +kernel
theorem dX6_tell_5 : decode cX6_tell 5 = .ok (.return_, 1) := by decide +kernel
theorem dX6_tellFraction_0 : decode cX6_tellFraction 0 = .ok (.iconst 1, 1) := by decide +kernel
theorem dX6_tellFraction_1 : decode cX6_tellFraction 1 = .ok (.iload_n 1, 1) := by decide +kernel
theorem dX6_tellFraction_2 : decode cX6_tellFraction 2 = .ok (.iload_n 2, 1) := by decide +kernel
theorem dX6_tellFraction_3 : decode cX6_tellFraction 3 = .ok (.invokestatic 352, 3) := by decide +kernel
theorem dX6_tellFraction_6 : decode cX6_tellFraction 6 = .ok (.invokestatic 355, 3) := by decide +kernel
theorem dX6_tellFraction_9 : decode cX6_tellFraction 9 = .ok (.istore_n 3, 1) := by decide +kernel
theorem dX6_tellFraction_10 : decode cX6_tellFraction 10 = .ok (.aload_n 0, 1) := by decide +kernel
theorem dX6_tellFraction_11 : decode cX6_tellFraction 11 = .ok (.iload_n 1, 1) := by decide +kernel
theorem dX6_tellFraction_12 : decode cX6_tellFraction 12 = .ok (.iload_n 3, 1) := by decide +kernel
theorem dX6_tellFraction_13 : decode cX6_tellFraction 13 = .ok (.idiv, 1) := by decide +kernel
theorem dX6_tellFraction_14 : decode cX6_tellFraction 14 = .ok (.i2l, 1) := by decide +kernel
theorem dX6_tellFraction_15 : decode cX6_tellFraction 15 = .ok (.putfield 76, 3) := by decide +kernel
theorem dX6_tellFraction_18 : decode cX6_tellFraction 18 = .ok (.aload_n 0, 1) := by decide +kernel
theorem dX6_tellFraction_19 : decode cX6_tellFraction 19 = .ok (.iload_n 2, 1) := by decide +kernel
theorem dX6_tellFraction_20 : decode cX6_tellFraction 20 = .ok (.iload_n 3, 1) := by decide +kernel
theorem dX6_tellFraction_21 : decode cX6_tellFraction 21 = .ok (.idiv, 1) := by decide +kernel
theorem dX6_tellFraction_22 : decode cX6_tellFraction 22 = .ok (.i2l, 1) := by decide +kernel
theorem dX6_tellFraction_23 : decode cX6_tellFraction 23 = .ok (.putfield 80, 3) := by decide +kernel
theorem dX6_tellFraction_26 : decode cX6_tellFraction 26 = .ok (.return_, 1) := by decide +kernel
theorem dX6_greatestCommonDivisor_0 : decode cX6_greatestCommonDivisor 0 = .ok (.iload_n 0, 1) := by decide +kernel
theorem dX6_greatestCommonDivisor_1 : decode cX6_greatestCommonDivisor 1 = .ok (.istore_n 2, 1) := by decide +kernel
theorem dX6_greatestCommonDivisor_2 : decode cX6_greatestCommonDivisor 2 = .ok (.iload_n 1, 1) := by decide +kernel
theorem dX6_greatestCommonDivisor_3 : decode cX6_greatestCommonDivisor 3 = .ok (.istore_n 3, 1) := by decide +kernel
theorem dX6_greatestCommonDivisor_4 : decode cX6_greatestCommonDivisor 4 = .ok (.iconst 0, 1) := by decide +kernel
theorem dX6_greatestCommonDivisor_5 : decode cX6_greatestCommonDivisor 5 = .ok (.istore 4, 2) := by decide +kernel
theorem dX6_greatestCommonDivisor_7 : decode cX6_greatestCommonDivisor 7 = .ok (.iload 4, 2) := by decide +kernel
theorem dX6_greatestCommonDivisor_9 : decode cX6_greatestCommonDivisor 9 = .ok (.bipush 64, 2) := by decide +kernel
theorem dX6_greatestCommonDivisor_11 : decode cX6_greatestCommonDivisor 11 = .ok (.if_icmp .ge 23, 3) := by decide +kernel
theorem dX6_greatestCommonDivisor_14 : decode cX6_greatestCommonDivisor 14 = .ok (.iload_n 3, 1) := by decide +kernel
theorem dX6_greatestCommonDivisor_15 : decode cX6_greatestCommonDivisor 15 = .ok (.ifCond .eq 19, 3) := by decide +kernel
theorem dX6_greatestCommonDivisor_18 : decode cX6_greatestCommonDivisor 18 = .ok (.iload_n 2, 1) := by decide +kernel
theorem dX6_greatestCommonDivisor_19 : decode cX6_greatestCommonDivisor 19 = .ok (.iload_n 3, 1) := by decide +kernel
theorem dX6_greatestCommonDivisor_20 : decode cX6_greatestCommonDivisor 20 = .ok (.irem, 1) := by decide +kernel
theorem dX6_greatestCommonDivisor_21 : decode cX6_greatestCommonDivisor 21 = .ok (.istore 5, 2) := by decide +kernel
theorem dX6_greatestCommonDivisor_23 : decode cX6_greatestCommonDivisor 23 = .ok (.iload_n 3, 1) := by decide +kernel
theorem dX6_greatestCommonDivisor_24 : decode cX6_greatestCommonDivisor 24 = .ok (.istore_n 2, 1) := by decide +kernel
theorem dX6_greatestCommonDivisor_25 : decode cX6_greatestCommonDivisor 25 = .ok (.iload 5, 2) := by decide +kernel
theorem dX6_greatestCommonDivisor_27 : decode cX6_greatestCommonDivisor 27 = .ok (.istore_n 3, 1) := by decide +kernel
theorem dX6_greatestCommonDivisor_28 : decode cX6_greatestCommonDivisor 28 = .ok (.iinc 4 1, 3) := by decide +kernel
theorem dX6_greatestCommonDivisor_31 : decode cX6_greatestCommonDivisor 31 = .ok (.goto (-24), 3) := by decide +kernel
theorem dX6_greatestCommonDivisor_34 : decode cX6_greatestCommonDivisor 34 = .ok (.iload_n 2, 1) := by decide +kernel
theorem dX6_greatestCommonDivisor_35 : decode cX6_greatestCommonDivisor 35 = .ok (.ireturn, 1) := by decide +kernel
theorem dX6_noGods_0 : decode cX6_noGods 0 = .ok (.aload_n 0, 1) := by decide +kernel
theorem dX6_noGods_1 : decode cX6_noGods 1 = .ok (.getfield 33, 3) := by decide +kernel
theorem dX6_noGods_4 : decode cX6_noGods 4 = .ok (.getfield 149, 3) := by decide +kernel
theorem dX6_noGods_7 : decode cX6_noGods 7 = .ok (.getfield 150, 3) := by decide +kernel
theorem dX6_noGods_10 : decode cX6_noGods 10 = .ok (.ifCond .ne 7, 3) := by decide +kernel
theorem dX6_noGods_13 : decode cX6_noGods 13 = .ok (.iconst 1, 1) := by decide +kernel
theorem dX6_noGods_14 : decode cX6_noGods 14 = .ok (.goto 4, 3) := by decide +kernel
theorem dX6_noGods_17 : decode cX6_noGods 17 = .ok (.iconst 0, 1) := by decide +kernel
theorem dX6_noGods_18 : decode cX6_noGods 18 = .ok (.ireturn, 1) := by decide +kernel
theorem dX6_isFood_0 : decode cX6_isFood 0 = .ok (.iload_n 0, 1) := by decide +kernel
theorem dX6_isFood_1 : decode cX6_isFood 1 = .ok (.ifCond .lt 12, 3) := by decide +kernel
theorem dX6_isFood_4 : decode cX6_isFood 4 = .ok (.iload_n 0, 1) := by decide +kernel
theorem dX6_isFood_5 : decode cX6_isFood 5 = .ok (.iconst 3, 1) := by decide +kernel
theorem dX6_isFood_6 : decode cX6_isFood 6 = .ok (.if_icmp .ge 7, 3) := by decide +kernel
theorem dX6_isFood_9 : decode cX6_isFood 9 = .ok (.iconst 1, 1) := by decide +kernel
theorem dX6_isFood_10 : decode cX6_isFood 10 = .ok (.goto 4, 3) := by decide +kernel
theorem dX6_isFood_13 : decode cX6_isFood 13 = .ok (.iconst 0, 1) := by decide +kernel
theorem dX6_isFood_14 : decode cX6_isFood 14 = .ok (.ireturn, 1) := by decide +kernel
theorem dX6_isPatience_0 : decode cX6_isPatience 0 = .ok (.iload_n 0, 1) := by decide +kernel
theorem dX6_isPatience_1 : decode cX6_isPatience 1 = .ok (.iconst 1, 1) := by decide +kernel
theorem dX6_isPatience_2 : decode cX6_isPatience 2 = .ok (.if_icmp .lt 13, 3) := by decide +kernel
theorem dX6_isPatience_5 : decode cX6_isPatience 5 = .ok (.iload_n 0, 1) := by decide +kernel
theorem dX6_isPatience_6 : decode cX6_isPatience 6 = .ok (.bipush 6, 2) := by decide +kernel
theorem dX6_isPatience_8 : decode cX6_isPatience 8 = .ok (.if_icmp .gt 7, 3) := by decide +kernel
theorem dX6_isPatience_11 : decode cX6_isPatience 11 = .ok (.iconst 1, 1) := by decide +kernel
theorem dX6_isPatience_12 : decode cX6_isPatience 12 = .ok (.goto 4, 3) := by decide +kernel
theorem dX6_isPatience_15 : decode cX6_isPatience 15 = .ok (.iconst 0, 1) := by decide +kernel
theorem dX6_isPatience_16 : decode cX6_isPatience 16 = .ok (.ireturn, 1) := by decide +kernel
theorem dX6_isPlanLength_0 : decode cX6_isPlanLength 0 = .ok (.iload_n 0, 1) := by decide +kernel
theorem dX6_isPlanLength_1 : decode cX6_isPlanLength 1 = .ok (.iconst 1, 1) := by decide +kernel
theorem dX6_isPlanLength_2 : decode cX6_isPlanLength 2 = .ok (.if_icmp .lt 12, 3) := by decide +kernel
theorem dX6_isPlanLength_5 : decode cX6_isPlanLength 5 = .ok (.iload_n 0, 1) := by decide +kernel
theorem dX6_isPlanLength_6 : decode cX6_isPlanLength 6 = .ok (.iconst 3, 1) := by decide +kernel
theorem dX6_isPlanLength_7 : decode cX6_isPlanLength 7 = .ok (.if_icmp .gt 7, 3) := by decide +kernel
theorem dX6_isPlanLength_10 : decode cX6_isPlanLength 10 = .ok (.iconst 1, 1) := by decide +kernel
theorem dX6_isPlanLength_11 : decode cX6_isPlanLength 11 = .ok (.goto 4, 3) := by decide +kernel
theorem dX6_isPlanLength_14 : decode cX6_isPlanLength 14 = .ok (.iconst 0, 1) := by decide +kernel
theorem dX6_isPlanLength_15 : decode cX6_isPlanLength 15 = .ok (.ireturn, 1) := by decide +kernel
theorem dX6_isKeepingPlace_0 : decode cX6_isKeepingPlace 0 = .ok (.iload_n 1, 1) := by decide +kernel
theorem dX6_isKeepingPlace_1 : decode cX6_isKeepingPlace 1 = .ok (.ifCond .lt 16, 3) := by decide +kernel
theorem dX6_isKeepingPlace_4 : decode cX6_isKeepingPlace 4 = .ok (.iload_n 1, 1) := by decide +kernel
theorem dX6_isKeepingPlace_5 : decode cX6_isKeepingPlace 5 = .ok (.aload_n 0, 1) := by decide +kernel
theorem dX6_isKeepingPlace_6 : decode cX6_isKeepingPlace 6 = .ok (.getfield 37, 3) := by decide +kernel
theorem dX6_isKeepingPlace_9 : decode cX6_isKeepingPlace 9 = .ok (.arraylength, 1) := by decide +kernel
theorem dX6_isKeepingPlace_10 : decode cX6_isKeepingPlace 10 = .ok (.if_icmp .ge 7, 3) := by decide +kernel
theorem dX6_isKeepingPlace_13 : decode cX6_isKeepingPlace 13 = .ok (.iconst 1, 1) := by decide +kernel
theorem dX6_isKeepingPlace_14 : decode cX6_isKeepingPlace 14 = .ok (.goto 4, 3) := by decide +kernel
theorem dX6_isKeepingPlace_17 : decode cX6_isKeepingPlace 17 = .ok (.iconst 0, 1) := by decide +kernel
theorem dX6_isKeepingPlace_18 : decode cX6_isKeepingPlace 18 = .ok (.ireturn, 1) := by decide +kernel
theorem dX6_placeRefused_0 : decode cX6_placeRefused 0 = .ok (.aload_n 1, 1) := by decide +kernel
theorem dX6_placeRefused_1 : decode cX6_placeRefused 1 = .ok (.iload_n 2, 1) := by decide +kernel
theorem dX6_placeRefused_2 : decode cX6_placeRefused 2 = .ok (.invokevirtual 110, 3) := by decide +kernel
theorem dX6_placeRefused_5 : decode cX6_placeRefused 5 = .ok (.ifCond .ne 9, 3) := by decide +kernel
theorem dX6_placeRefused_8 : decode cX6_placeRefused 8 = .ok (.aload_n 0, 1) := by decide +kernel
theorem dX6_placeRefused_9 : decode cX6_placeRefused 9 = .ok (.iconst 1, 1) := by decide +kernel
theorem dX6_placeRefused_10 : decode cX6_placeRefused 10 = .ok (.invokevirtual 87, 3) := by decide +kernel
theorem dX6_placeRefused_13 : decode cX6_placeRefused 13 = .ok (.ireturn, 1) := by decide +kernel
theorem dX6_placeRefused_14 : decode cX6_placeRefused 14 = .ok (.aload_n 1, 1) := by decide +kernel
theorem dX6_placeRefused_15 : decode cX6_placeRefused 15 = .ok (.iload_n 2, 1) := by decide +kernel
theorem dX6_placeRefused_16 : decode cX6_placeRefused 16 = .ok (.iload_n 3, 1) := by decide +kernel
theorem dX6_placeRefused_17 : decode cX6_placeRefused 17 = .ok (.iconst 1, 1) := by decide +kernel
theorem dX6_placeRefused_18 : decode cX6_placeRefused 18 = .ok (.invokevirtual 116, 3) := by decide +kernel
theorem dX6_placeRefused_21 : decode cX6_placeRefused 21 = .ok (.ifCond .eq 7, 3) := by decide +kernel
theorem dX6_placeRefused_24 : decode cX6_placeRefused 24 = .ok (.iconst 0, 1) := by decide +kernel
theorem dX6_placeRefused_25 : decode cX6_placeRefused 25 = .ok (.goto 8, 3) := by decide +kernel
theorem dX6_placeRefused_28 : decode cX6_placeRefused 28 = .ok (.aload_n 0, 1) := by decide +kernel
theorem dX6_placeRefused_29 : decode cX6_placeRefused 29 = .ok (.iconst 2, 1) := by decide +kernel
theorem dX6_placeRefused_30 : decode cX6_placeRefused 30 = .ok (.invokevirtual 87, 3) := by decide +kernel
theorem dX6_placeRefused_33 : decode cX6_placeRefused 33 = .ok (.ireturn, 1) := by decide +kernel
theorem dX6_traitOf_0 : decode cX6_traitOf 0 = .ok (.aload_n 0, 1) := by decide +kernel
theorem dX6_traitOf_1 : decode cX6_traitOf 1 = .ok (.getfield 33, 3) := by decide +kernel
theorem dX6_traitOf_4 : decode cX6_traitOf 4 = .ok (.getfield 149, 3) := by decide +kernel
theorem dX6_traitOf_7 : decode cX6_traitOf 7 = .ok (.astore_n 3, 1) := by decide +kernel
theorem dX6_traitOf_8 : decode cX6_traitOf 8 = .ok (.iload_n 2, 1) := by decide +kernel
theorem dX6_traitOf_9 : decode cX6_traitOf 9 = .ok (.tableswitch 81 0 5 #[39, 46, 53, 60, 67, 74], 39) := by decide +kernel
theorem dX6_traitOf_48 : decode cX6_traitOf 48 = .ok (.aload_n 3, 1) := by decide +kernel
theorem dX6_traitOf_49 : decode cX6_traitOf 49 = .ok (.getfield 360, 3) := by decide +kernel
theorem dX6_traitOf_52 : decode cX6_traitOf 52 = .ok (.iload_n 1, 1) := by decide +kernel
theorem dX6_traitOf_53 : decode cX6_traitOf 53 = .ok (.iaload, 1) := by decide +kernel
theorem dX6_traitOf_54 : decode cX6_traitOf 54 = .ok (.ireturn, 1) := by decide +kernel
theorem dX6_traitOf_55 : decode cX6_traitOf 55 = .ok (.aload_n 3, 1) := by decide +kernel
theorem dX6_traitOf_56 : decode cX6_traitOf 56 = .ok (.getfield 294, 3) := by decide +kernel
theorem dX6_traitOf_59 : decode cX6_traitOf 59 = .ok (.iload_n 1, 1) := by decide +kernel
theorem dX6_traitOf_60 : decode cX6_traitOf 60 = .ok (.iaload, 1) := by decide +kernel
theorem dX6_traitOf_61 : decode cX6_traitOf 61 = .ok (.ireturn, 1) := by decide +kernel
theorem dX6_traitOf_62 : decode cX6_traitOf 62 = .ok (.aload_n 3, 1) := by decide +kernel
theorem dX6_traitOf_63 : decode cX6_traitOf 63 = .ok (.getfield 190, 3) := by decide +kernel
theorem dX6_traitOf_66 : decode cX6_traitOf 66 = .ok (.iload_n 1, 1) := by decide +kernel
theorem dX6_traitOf_67 : decode cX6_traitOf 67 = .ok (.iaload, 1) := by decide +kernel
theorem dX6_traitOf_68 : decode cX6_traitOf 68 = .ok (.ireturn, 1) := by decide +kernel
theorem dX6_traitOf_69 : decode cX6_traitOf 69 = .ok (.aload_n 3, 1) := by decide +kernel
theorem dX6_traitOf_70 : decode cX6_traitOf 70 = .ok (.getfield 363, 3) := by decide +kernel
theorem dX6_traitOf_73 : decode cX6_traitOf 73 = .ok (.iload_n 1, 1) := by decide +kernel
theorem dX6_traitOf_74 : decode cX6_traitOf 74 = .ok (.iaload, 1) := by decide +kernel
theorem dX6_traitOf_75 : decode cX6_traitOf 75 = .ok (.ireturn, 1) := by decide +kernel
theorem dX6_traitOf_76 : decode cX6_traitOf 76 = .ok (.aload_n 3, 1) := by decide +kernel
theorem dX6_traitOf_77 : decode cX6_traitOf 77 = .ok (.getfield 366, 3) := by decide +kernel
theorem dX6_traitOf_80 : decode cX6_traitOf 80 = .ok (.iload_n 1, 1) := by decide +kernel
theorem dX6_traitOf_81 : decode cX6_traitOf 81 = .ok (.iaload, 1) := by decide +kernel
theorem dX6_traitOf_82 : decode cX6_traitOf 82 = .ok (.ireturn, 1) := by decide +kernel
theorem dX6_traitOf_83 : decode cX6_traitOf 83 = .ok (.aload_n 3, 1) := by decide +kernel
theorem dX6_traitOf_84 : decode cX6_traitOf 84 = .ok (.getfield 161, 3) := by decide +kernel
theorem dX6_traitOf_87 : decode cX6_traitOf 87 = .ok (.iload_n 1, 1) := by decide +kernel
theorem dX6_traitOf_88 : decode cX6_traitOf 88 = .ok (.iaload, 1) := by decide +kernel
theorem dX6_traitOf_89 : decode cX6_traitOf 89 = .ok (.ireturn, 1) := by decide +kernel
theorem dX6_traitOf_90 : decode cX6_traitOf 90 = .ok (.aload_n 0, 1) := by decide +kernel
theorem dX6_traitOf_91 : decode cX6_traitOf 91 = .ok (.getfield 33, 3) := by decide +kernel
theorem dX6_traitOf_94 : decode cX6_traitOf 94 = .ok (.getfield 167, 3) := by decide +kernel
theorem dX6_traitOf_97 : decode cX6_traitOf 97 = .ok (.iload_n 1, 1) := by decide +kernel
theorem dX6_traitOf_98 : decode cX6_traitOf 98 = .ok (.invokevirtual 281, 3) := by decide +kernel
theorem dX6_traitOf_101 : decode cX6_traitOf 101 = .ok (.ifCond .eq 8, 3) := by decide +kernel
theorem dX6_traitOf_104 : decode cX6_traitOf 104 = .ok (.bipush (-9), 2) := by decide +kernel
theorem dX6_traitOf_106 : decode cX6_traitOf 106 = .ok (.goto 15, 3) := by decide +kernel
theorem dX6_traitOf_109 : decode cX6_traitOf 109 = .ok (.aload_n 0, 1) := by decide +kernel
theorem dX6_traitOf_110 : decode cX6_traitOf 110 = .ok (.getfield 33, 3) := by decide +kernel
theorem dX6_traitOf_113 : decode cX6_traitOf 113 = .ok (.getfield 167, 3) := by decide +kernel
theorem dX6_traitOf_116 : decode cX6_traitOf 116 = .ok (.getfield 369, 3) := by decide +kernel
theorem dX6_traitOf_119 : decode cX6_traitOf 119 = .ok (.iload_n 1, 1) := by decide +kernel
theorem dX6_traitOf_120 : decode cX6_traitOf 120 = .ok (.iaload, 1) := by decide +kernel
theorem dX6_traitOf_121 : decode cX6_traitOf 121 = .ok (.ireturn, 1) := by decide +kernel
theorem dX6_shortOfGoing_0 : decode cX6_shortOfGoing 0 = .ok (.aload_n 0, 1) := by decide +kernel
theorem dX6_shortOfGoing_1 : decode cX6_shortOfGoing 1 = .ok (.getfield 33, 3) := by decide +kernel
theorem dX6_shortOfGoing_4 : decode cX6_shortOfGoing 4 = .ok (.getfield 167, 3) := by decide +kernel
theorem dX6_shortOfGoing_7 : decode cX6_shortOfGoing 7 = .ok (.iload_n 1, 1) := by decide +kernel
theorem dX6_shortOfGoing_8 : decode cX6_shortOfGoing 8 = .ok (.invokevirtual 281, 3) := by decide +kernel
theorem dX6_shortOfGoing_11 : decode cX6_shortOfGoing 11 = .ok (.ifCond .eq 6, 3) := by decide +kernel
theorem dX6_shortOfGoing_14 : decode cX6_shortOfGoing 14 = .ok (.bipush (-9), 2) := by decide +kernel
theorem dX6_shortOfGoing_16 : decode cX6_shortOfGoing 16 = .ok (.ireturn, 1) := by decide +kernel
theorem dX6_shortOfGoing_17 : decode cX6_shortOfGoing 17 = .ok (.iconst 0, 1) := by decide +kernel
theorem dX6_shortOfGoing_18 : decode cX6_shortOfGoing 18 = .ok (.aload_n 0, 1) := by decide +kernel
theorem dX6_shortOfGoing_19 : decode cX6_shortOfGoing 19 = .ok (.getfield 33, 3) := by decide +kernel
theorem dX6_shortOfGoing_22 : decode cX6_shortOfGoing 22 = .ok (.getfield 149, 3) := by decide +kernel
theorem dX6_shortOfGoing_25 : decode cX6_shortOfGoing 25 = .ok (.iload_n 1, 1) := by decide +kernel
theorem dX6_shortOfGoing_26 : decode cX6_shortOfGoing 26 = .ok (.invokevirtual 372, 3) := by decide +kernel
theorem dX6_shortOfGoing_29 : decode cX6_shortOfGoing 29 = .ok (.aload_n 0, 1) := by decide +kernel
theorem dX6_shortOfGoing_30 : decode cX6_shortOfGoing 30 = .ok (.getfield 33, 3) := by decide +kernel
theorem dX6_shortOfGoing_33 : decode cX6_shortOfGoing 33 = .ok (.getfield 167, 3) := by decide +kernel
theorem dX6_shortOfGoing_36 : decode cX6_shortOfGoing 36 = .ok (.getfield 369, 3) := by decide +kernel
theorem dX6_shortOfGoing_39 : decode cX6_shortOfGoing 39 = .ok (.iload_n 1, 1) := by decide +kernel
theorem dX6_shortOfGoing_40 : decode cX6_shortOfGoing 40 = .ok (.iaload, 1) := by decide +kernel
theorem dX6_shortOfGoing_41 : decode cX6_shortOfGoing 41 = .ok (.isub, 1) := by decide +kernel
theorem dX6_shortOfGoing_42 : decode cX6_shortOfGoing 42 = .ok (.invokestatic 355, 3) := by decide +kernel
theorem dX6_shortOfGoing_45 : decode cX6_shortOfGoing 45 = .ok (.ireturn, 1) := by decide +kernel
theorem dX6_howManyKept_0 : decode cX6_howManyKept 0 = .ok (.iconst 0, 1) := by decide +kernel
theorem dX6_howManyKept_1 : decode cX6_howManyKept 1 = .ok (.istore_n 1, 1) := by decide +kernel
theorem dX6_howManyKept_2 : decode cX6_howManyKept 2 = .ok (.iconst 0, 1) := by decide +kernel
theorem dX6_howManyKept_3 : decode cX6_howManyKept 3 = .ok (.istore_n 2, 1) := by decide +kernel
theorem dX6_howManyKept_4 : decode cX6_howManyKept 4 = .ok (.iload_n 2, 1) := by decide +kernel
theorem dX6_howManyKept_5 : decode cX6_howManyKept 5 = .ok (.aload_n 0, 1) := by decide +kernel
theorem dX6_howManyKept_6 : decode cX6_howManyKept 6 = .ok (.getfield 37, 3) := by decide +kernel
theorem dX6_howManyKept_9 : decode cX6_howManyKept 9 = .ok (.arraylength, 1) := by decide +kernel
theorem dX6_howManyKept_10 : decode cX6_howManyKept 10 = .ok (.if_icmp .ge 24, 3) := by decide +kernel
theorem dX6_howManyKept_13 : decode cX6_howManyKept 13 = .ok (.aload_n 0, 1) := by decide +kernel
theorem dX6_howManyKept_14 : decode cX6_howManyKept 14 = .ok (.getfield 37, 3) := by decide +kernel
theorem dX6_howManyKept_17 : decode cX6_howManyKept 17 = .ok (.iload_n 2, 1) := by decide +kernel
theorem dX6_howManyKept_18 : decode cX6_howManyKept 18 = .ok (.aaload, 1) := by decide +kernel
theorem dX6_howManyKept_19 : decode cX6_howManyKept 19 = .ok (.getfield 145, 3) := by decide +kernel
theorem dX6_howManyKept_22 : decode cX6_howManyKept 22 = .ok (.ifCond .eq 6, 3) := by decide +kernel
theorem dX6_howManyKept_25 : decode cX6_howManyKept 25 = .ok (.iinc 1 1, 3) := by decide +kernel
theorem dX6_howManyKept_28 : decode cX6_howManyKept 28 = .ok (.iinc 2 1, 3) := by decide +kernel
theorem dX6_howManyKept_31 : decode cX6_howManyKept 31 = .ok (.goto (-27), 3) := by decide +kernel
theorem dX6_howManyKept_34 : decode cX6_howManyKept 34 = .ok (.iload_n 1, 1) := by decide +kernel
theorem dX6_howManyKept_35 : decode cX6_howManyKept 35 = .ok (.ireturn, 1) := by decide +kernel
theorem dX6_startTrial_0 : decode cX6_startTrial 0 = .ok (.aload_n 0, 1) := by decide +kernel
theorem dX6_startTrial_1 : decode cX6_startTrial 1 = .ok (.getfield 58, 3) := by decide +kernel
theorem dX6_startTrial_4 : decode cX6_startTrial 4 = .ok (.aload_n 0, 1) := by decide +kernel
theorem dX6_startTrial_5 : decode cX6_startTrial 5 = .ok (.getfield 33, 3) := by decide +kernel
theorem dX6_startTrial_8 : decode cX6_startTrial 8 = .ok (.getfield 167, 3) := by decide +kernel
theorem dX6_startTrial_11 : decode cX6_startTrial 11 = .ok (.invokevirtual 375, 3) := by decide +kernel
theorem dX6_startTrial_14 : decode cX6_startTrial 14 = .ok (.aload_n 0, 1) := by decide +kernel
theorem dX6_startTrial_15 : decode cX6_startTrial 15 = .ok (.getfield 58, 3) := by decide +kernel
theorem dX6_startTrial_18 : decode cX6_startTrial 18 = .ok (.invokevirtual 378, 3) := by decide +kernel
theorem dX6_startTrial_21 : decode cX6_startTrial 21 = .ok (.return_, 1) := by decide +kernel
theorem dX6_holdsNumbersOnly_0 : decode cX6_holdsNumbersOnly 0 = .ok (.iconst 0, 1) := by decide +kernel
theorem dX6_holdsNumbersOnly_1 : decode cX6_holdsNumbersOnly 1 = .ok (.istore_n 2, 1) := by decide +kernel
theorem dX6_holdsNumbersOnly_2 : decode cX6_holdsNumbersOnly 2 = .ok (.iload_n 2, 1) := by decide +kernel
theorem dX6_holdsNumbersOnly_3 : decode cX6_holdsNumbersOnly 3 = .ok (.aload_n 0, 1) := by decide +kernel
theorem dX6_holdsNumbersOnly_4 : decode cX6_holdsNumbersOnly 4 = .ok (.getfield 16, 3) := by decide +kernel
theorem dX6_holdsNumbersOnly_7 : decode cX6_holdsNumbersOnly 7 = .ok (.iload_n 1, 1) := by decide +kernel
theorem dX6_holdsNumbersOnly_8 : decode cX6_holdsNumbersOnly 8 = .ok (.invokevirtual 124, 3) := by decide +kernel
theorem dX6_holdsNumbersOnly_11 : decode cX6_holdsNumbersOnly 11 = .ok (.if_icmp .ge 33, 3) := by decide +kernel
theorem dX6_holdsNumbersOnly_14 : decode cX6_holdsNumbersOnly 14 = .ok (.aload_n 0, 1) := by decide +kernel
theorem dX6_holdsNumbersOnly_15 : decode cX6_holdsNumbersOnly 15 = .ok (.getfield 33, 3) := by decide +kernel
theorem dX6_holdsNumbersOnly_18 : decode cX6_holdsNumbersOnly 18 = .ok (.getfield 149, 3) := by decide +kernel
theorem dX6_holdsNumbersOnly_21 : decode cX6_holdsNumbersOnly 21 = .ok (.aload_n 0, 1) := by decide +kernel
theorem dX6_holdsNumbersOnly_22 : decode cX6_holdsNumbersOnly 22 = .ok (.getfield 16, 3) := by decide +kernel
theorem dX6_holdsNumbersOnly_25 : decode cX6_holdsNumbersOnly 25 = .ok (.iload_n 1, 1) := by decide +kernel
theorem dX6_holdsNumbersOnly_26 : decode cX6_holdsNumbersOnly 26 = .ok (.iload_n 2, 1) := by decide +kernel
theorem dX6_holdsNumbersOnly_27 : decode cX6_holdsNumbersOnly 27 = .ok (.invokevirtual 99, 3) := by decide +kernel
theorem dX6_holdsNumbersOnly_30 : decode cX6_holdsNumbersOnly 30 = .ok (.invokevirtual 193, 3) := by decide +kernel
theorem dX6_holdsNumbersOnly_33 : decode cX6_holdsNumbersOnly 33 = .ok (.ifCond .ne 5, 3) := by decide +kernel
theorem dX6_holdsNumbersOnly_36 : decode cX6_holdsNumbersOnly 36 = .ok (.iconst 0, 1) := by decide +kernel
theorem dX6_holdsNumbersOnly_37 : decode cX6_holdsNumbersOnly 37 = .ok (.ireturn, 1) := by decide +kernel
theorem dX6_holdsNumbersOnly_38 : decode cX6_holdsNumbersOnly 38 = .ok (.iinc 2 1, 3) := by decide +kernel
theorem dX6_holdsNumbersOnly_41 : decode cX6_holdsNumbersOnly 41 = .ok (.goto (-39), 3) := by decide +kernel
theorem dX6_holdsNumbersOnly_44 : decode cX6_holdsNumbersOnly 44 = .ok (.iconst 1, 1) := by decide +kernel
theorem dX6_holdsNumbersOnly_45 : decode cX6_holdsNumbersOnly 45 = .ok (.ireturn, 1) := by decide +kernel
theorem dX6_bookRefused_0 : decode cX6_bookRefused 0 = .ok (.aload_n 0, 1) := by decide +kernel
theorem dX6_bookRefused_1 : decode cX6_bookRefused 1 = .ok (.getfield 16, 3) := by decide +kernel
theorem dX6_bookRefused_4 : decode cX6_bookRefused 4 = .ok (.iload_n 1, 1) := by decide +kernel
theorem dX6_bookRefused_5 : decode cX6_bookRefused 5 = .ok (.invokevirtual 110, 3) := by decide +kernel
theorem dX6_bookRefused_8 : decode cX6_bookRefused 8 = .ok (.ifCond .eq 14, 3) := by decide +kernel
theorem dX6_bookRefused_11 : decode cX6_bookRefused 11 = .ok (.aload_n 0, 1) := by decide +kernel
theorem dX6_bookRefused_12 : decode cX6_bookRefused 12 = .ok (.getfield 16, 3) := by decide +kernel
theorem dX6_bookRefused_15 : decode cX6_bookRefused 15 = .ok (.iload_n 2, 1) := by decide +kernel
theorem dX6_bookRefused_16 : decode cX6_bookRefused 16 = .ok (.invokevirtual 110, 3) := by decide +kernel
theorem dX6_bookRefused_19 : decode cX6_bookRefused 19 = .ok (.ifCond .ne 9, 3) := by decide +kernel
theorem dX6_bookRefused_22 : decode cX6_bookRefused 22 = .ok (.aload_n 0, 1) := by decide +kernel
theorem dX6_bookRefused_23 : decode cX6_bookRefused 23 = .ok (.iconst 1, 1) := by decide +kernel
theorem dX6_bookRefused_24 : decode cX6_bookRefused 24 = .ok (.invokevirtual 87, 3) := by decide +kernel
theorem dX6_bookRefused_27 : decode cX6_bookRefused 27 = .ok (.ireturn, 1) := by decide +kernel
theorem dX6_bookRefused_28 : decode cX6_bookRefused 28 = .ok (.aload_n 0, 1) := by decide +kernel
theorem dX6_bookRefused_29 : decode cX6_bookRefused 29 = .ok (.getfield 16, 3) := by decide +kernel
theorem dX6_bookRefused_32 : decode cX6_bookRefused 32 = .ok (.iload_n 1, 1) := by decide +kernel
theorem dX6_bookRefused_33 : decode cX6_bookRefused 33 = .ok (.invokevirtual 124, 3) := by decide +kernel
theorem dX6_bookRefused_36 : decode cX6_bookRefused 36 = .ok (.bipush 30, 2) := by decide +kernel
theorem dX6_bookRefused_38 : decode cX6_bookRefused 38 = .ok (.if_icmp .gt 22, 3) := by decide +kernel
theorem dX6_bookRefused_41 : decode cX6_bookRefused 41 = .ok (.aload_n 0, 1) := by decide +kernel
theorem dX6_bookRefused_42 : decode cX6_bookRefused 42 = .ok (.getfield 16, 3) := by decide +kernel
theorem dX6_bookRefused_45 : decode cX6_bookRefused 45 = .ok (.iload_n 1, 1) := by decide +kernel
theorem dX6_bookRefused_46 : decode cX6_bookRefused 46 = .ok (.invokevirtual 124, 3) := by decide +kernel
theorem dX6_bookRefused_49 : decode cX6_bookRefused 49 = .ok (.aload_n 0, 1) := by decide +kernel
theorem dX6_bookRefused_50 : decode cX6_bookRefused 50 = .ok (.getfield 16, 3) := by decide +kernel
theorem dX6_bookRefused_53 : decode cX6_bookRefused 53 = .ok (.iload_n 2, 1) := by decide +kernel
theorem dX6_bookRefused_54 : decode cX6_bookRefused 54 = .ok (.invokevirtual 124, 3) := by decide +kernel
theorem dX6_bookRefused_57 : decode cX6_bookRefused 57 = .ok (.if_icmp .eq 9, 3) := by decide +kernel
theorem dX6_bookRefused_60 : decode cX6_bookRefused 60 = .ok (.aload_n 0, 1) := by decide +kernel
theorem dX6_bookRefused_61 : decode cX6_bookRefused 61 = .ok (.iconst 5, 1) := by decide +kernel
theorem dX6_bookRefused_62 : decode cX6_bookRefused 62 = .ok (.invokevirtual 87, 3) := by decide +kernel
theorem dX6_bookRefused_65 : decode cX6_bookRefused 65 = .ok (.ireturn, 1) := by decide +kernel
theorem dX6_bookRefused_66 : decode cX6_bookRefused 66 = .ok (.aload_n 0, 1) := by decide +kernel
theorem dX6_bookRefused_67 : decode cX6_bookRefused 67 = .ok (.iload_n 1, 1) := by decide +kernel
theorem dX6_bookRefused_68 : decode cX6_bookRefused 68 = .ok (.invokevirtual 245, 3) := by decide +kernel
theorem dX6_bookRefused_71 : decode cX6_bookRefused 71 = .ok (.ifCond .eq 7, 3) := by decide +kernel
theorem dX6_bookRefused_74 : decode cX6_bookRefused 74 = .ok (.iconst 0, 1) := by decide +kernel
theorem dX6_bookRefused_75 : decode cX6_bookRefused 75 = .ok (.goto 8, 3) := by decide +kernel
theorem dX6_bookRefused_78 : decode cX6_bookRefused 78 = .ok (.aload_n 0, 1) := by decide +kernel
theorem dX6_bookRefused_79 : decode cX6_bookRefused 79 = .ok (.iconst 3, 1) := by decide +kernel
theorem dX6_bookRefused_80 : decode cX6_bookRefused 80 = .ok (.invokevirtual 87, 3) := by decide +kernel
theorem dX6_bookRefused_83 : decode cX6_bookRefused 83 = .ok (.ireturn, 1) := by decide +kernel
theorem dX6_fittingPatiences_0 : decode cX6_fittingPatiences 0 = .ok (.iconst 0, 1) := by decide +kernel
theorem dX6_fittingPatiences_1 : decode cX6_fittingPatiences 1 = .ok (.istore 4, 2) := by decide +kernel
theorem dX6_fittingPatiences_3 : decode cX6_fittingPatiences 3 = .ok (.aload_n 0, 1) := by decide +kernel
theorem dX6_fittingPatiences_4 : decode cX6_fittingPatiences 4 = .ok (.getfield 51, 3) := by decide +kernel
theorem dX6_fittingPatiences_7 : decode cX6_fittingPatiences 7 = .ok (.aload_n 0, 1) := by decide +kernel
theorem dX6_fittingPatiences_8 : decode cX6_fittingPatiences 8 = .ok (.getfield 33, 3) := by decide +kernel
theorem dX6_fittingPatiences_11 : decode cX6_fittingPatiences 11 = .ok (.getfield 149, 3) := by decide +kernel
theorem dX6_fittingPatiences_14 : decode cX6_fittingPatiences 14 = .ok (.invokevirtual 291, 3) := by decide +kernel
theorem dX6_fittingPatiences_17 : decode cX6_fittingPatiences 17 = .ok (.iconst 1, 1) := by decide +kernel
theorem dX6_fittingPatiences_18 : decode cX6_fittingPatiences 18 = .ok (.istore 5, 2) := by decide +kernel
theorem dX6_fittingPatiences_20 : decode cX6_fittingPatiences 20 = .ok (.iload 5, 2) := by decide +kernel
theorem dX6_fittingPatiences_22 : decode cX6_fittingPatiences 22 = .ok (.bipush 6, 2) := by decide +kernel
theorem dX6_fittingPatiences_24 : decode cX6_fittingPatiences 24 = .ok (.if_icmp .gt 38, 3) := by decide +kernel
theorem dX6_fittingPatiences_27 : decode cX6_fittingPatiences 27 = .ok (.aload_n 0, 1) := by decide +kernel
theorem dX6_fittingPatiences_28 : decode cX6_fittingPatiences 28 = .ok (.getfield 51, 3) := by decide +kernel
theorem dX6_fittingPatiences_31 : decode cX6_fittingPatiences 31 = .ok (.getfield 190, 3) := by decide +kernel
theorem dX6_fittingPatiences_34 : decode cX6_fittingPatiences 34 = .ok (.iload_n 1, 1) := by decide +kernel
theorem dX6_fittingPatiences_35 : decode cX6_fittingPatiences 35 = .ok (.iload 5, 2) := by decide +kernel
theorem dX6_fittingPatiences_37 : decode cX6_fittingPatiences 37 = .ok (.iastore, 1) := by decide +kernel
theorem dX6_fittingPatiences_38 : decode cX6_fittingPatiences 38 = .ok (.aload_n 0, 1) := by decide +kernel
theorem dX6_fittingPatiences_39 : decode cX6_fittingPatiences 39 = .ok (.iload_n 2, 1) := by decide +kernel
theorem dX6_fittingPatiences_40 : decode cX6_fittingPatiences 40 = .ok (.iload_n 3, 1) := by decide +kernel
theorem dX6_fittingPatiences_41 : decode cX6_fittingPatiences 41 = .ok (.invokevirtual 381, 3) := by decide +kernel
theorem dX6_fittingPatiences_44 : decode cX6_fittingPatiences 44 = .ok (.ifCond .eq 12, 3) := by decide +kernel
theorem dX6_fittingPatiences_47 : decode cX6_fittingPatiences 47 = .ok (.iload 4, 2) := by decide +kernel
theorem dX6_fittingPatiences_49 : decode cX6_fittingPatiences 49 = .ok (.iconst 1, 1) := by decide +kernel
theorem dX6_fittingPatiences_50 : decode cX6_fittingPatiences 50 = .ok (.iload 5, 2) := by decide +kernel
theorem dX6_fittingPatiences_52 : decode cX6_fittingPatiences 52 = .ok (.ishl, 1) := by decide +kernel
theorem dX6_fittingPatiences_53 : decode cX6_fittingPatiences 53 = .ok (.ior, 1) := by decide +kernel
theorem dX6_fittingPatiences_54 : decode cX6_fittingPatiences 54 = .ok (.istore 4, 2) := by decide +kernel
theorem dX6_fittingPatiences_56 : decode cX6_fittingPatiences 56 = .ok (.iinc 5 1, 3) := by decide +kernel
theorem dX6_fittingPatiences_59 : decode cX6_fittingPatiences 59 = .ok (.goto (-39), 3) := by decide +kernel
theorem dX6_fittingPatiences_62 : decode cX6_fittingPatiences 62 = .ok (.iload 4, 2) := by decide +kernel
theorem dX6_fittingPatiences_64 : decode cX6_fittingPatiences 64 = .ok (.ireturn, 1) := by decide +kernel
theorem dX6_bookFitsOthers_0 : decode cX6_bookFitsOthers 0 = .ok (.aload_n 0, 1) := by decide +kernel
theorem dX6_bookFitsOthers_1 : decode cX6_bookFitsOthers 1 = .ok (.invokevirtual 248, 3) := by decide +kernel
theorem dX6_bookFitsOthers_4 : decode cX6_bookFitsOthers 4 = .ok (.iconst 0, 1) := by decide +kernel
theorem dX6_bookFitsOthers_5 : decode cX6_bookFitsOthers 5 = .ok (.istore_n 3, 1) := by decide +kernel
theorem dX6_bookFitsOthers_6 : decode cX6_bookFitsOthers 6 = .ok (.iload_n 3, 1) := by decide +kernel
theorem dX6_bookFitsOthers_7 : decode cX6_bookFitsOthers 7 = .ok (.aload_n 0, 1) := by decide +kernel
theorem dX6_bookFitsOthers_8 : decode cX6_bookFitsOthers 8 = .ok (.getfield 16, 3) := by decide +kernel
theorem dX6_bookFitsOthers_11 : decode cX6_bookFitsOthers 11 = .ok (.iload_n 1, 1) := by decide +kernel
theorem dX6_bookFitsOthers_12 : decode cX6_bookFitsOthers 12 = .ok (.invokevirtual 124, 3) := by decide +kernel
theorem dX6_bookFitsOthers_15 : decode cX6_bookFitsOthers 15 = .ok (.if_icmp .ge 67, 3) := by decide +kernel
theorem dX6_bookFitsOthers_18 : decode cX6_bookFitsOthers 18 = .ok (.aload_n 0, 1) := by decide +kernel
theorem dX6_bookFitsOthers_19 : decode cX6_bookFitsOthers 19 = .ok (.getfield 58, 3) := by decide +kernel
theorem dX6_bookFitsOthers_22 : decode cX6_bookFitsOthers 22 = .ok (.invokevirtual 255, 3) := by decide +kernel
theorem dX6_bookFitsOthers_25 : decode cX6_bookFitsOthers 25 = .ok (.istore 4, 2) := by decide +kernel
theorem dX6_bookFitsOthers_27 : decode cX6_bookFitsOthers 27 = .ok (.aload_n 0, 1) := by decide +kernel
theorem dX6_bookFitsOthers_28 : decode cX6_bookFitsOthers 28 = .ok (.getfield 58, 3) := by decide +kernel
theorem dX6_bookFitsOthers_31 : decode cX6_bookFitsOthers 31 = .ok (.aload_n 0, 1) := by decide +kernel
theorem dX6_bookFitsOthers_32 : decode cX6_bookFitsOthers 32 = .ok (.getfield 51, 3) := by decide +kernel
theorem dX6_bookFitsOthers_35 : decode cX6_bookFitsOthers 35 = .ok (.aload_n 0, 1) := by decide +kernel
theorem dX6_bookFitsOthers_36 : decode cX6_bookFitsOthers 36 = .ok (.getfield 16, 3) := by decide +kernel
theorem dX6_bookFitsOthers_39 : decode cX6_bookFitsOthers 39 = .ok (.iload_n 1, 1) := by decide +kernel
theorem dX6_bookFitsOthers_40 : decode cX6_bookFitsOthers 40 = .ok (.iload_n 3, 1) := by decide +kernel
theorem dX6_bookFitsOthers_41 : decode cX6_bookFitsOthers 41 = .ok (.invokevirtual 99, 3) := by decide +kernel
theorem dX6_bookFitsOthers_44 : decode cX6_bookFitsOthers 44 = .ok (.invokevirtual 251, 3) := by decide +kernel
theorem dX6_bookFitsOthers_47 : decode cX6_bookFitsOthers 47 = .ok (.ifCond .ne 5, 3) := by decide +kernel
theorem dX6_bookFitsOthers_50 : decode cX6_bookFitsOthers 50 = .ok (.iconst 0, 1) := by decide +kernel
theorem dX6_bookFitsOthers_51 : decode cX6_bookFitsOthers 51 = .ok (.ireturn, 1) := by decide +kernel
theorem dX6_bookFitsOthers_52 : decode cX6_bookFitsOthers 52 = .ok (.aload_n 0, 1) := by decide +kernel
theorem dX6_bookFitsOthers_53 : decode cX6_bookFitsOthers 53 = .ok (.getfield 58, 3) := by decide +kernel
theorem dX6_bookFitsOthers_56 : decode cX6_bookFitsOthers 56 = .ok (.invokevirtual 255, 3) := by decide +kernel
theorem dX6_bookFitsOthers_59 : decode cX6_bookFitsOthers 59 = .ok (.iload 4, 2) := by decide +kernel
theorem dX6_bookFitsOthers_61 : decode cX6_bookFitsOthers 61 = .ok (.isub, 1) := by decide +kernel
theorem dX6_bookFitsOthers_62 : decode cX6_bookFitsOthers 62 = .ok (.aload_n 0, 1) := by decide +kernel
theorem dX6_bookFitsOthers_63 : decode cX6_bookFitsOthers 63 = .ok (.getfield 16, 3) := by decide +kernel
theorem dX6_bookFitsOthers_66 : decode cX6_bookFitsOthers 66 = .ok (.iload_n 2, 1) := by decide +kernel
theorem dX6_bookFitsOthers_67 : decode cX6_bookFitsOthers 67 = .ok (.iload_n 3, 1) := by decide +kernel
theorem dX6_bookFitsOthers_68 : decode cX6_bookFitsOthers 68 = .ok (.invokevirtual 99, 3) := by decide +kernel
theorem dX6_bookFitsOthers_71 : decode cX6_bookFitsOthers 71 = .ok (.if_icmp .eq 5, 3) := by decide +kernel
theorem dX6_bookFitsOthers_74 : decode cX6_bookFitsOthers 74 = .ok (.iconst 0, 1) := by decide +kernel
theorem dX6_bookFitsOthers_75 : decode cX6_bookFitsOthers 75 = .ok (.ireturn, 1) := by decide +kernel
theorem dX6_bookFitsOthers_76 : decode cX6_bookFitsOthers 76 = .ok (.iinc 3 1, 3) := by decide +kernel
theorem dX6_bookFitsOthers_79 : decode cX6_bookFitsOthers 79 = .ok (.goto (-73), 3) := by decide +kernel
theorem dX6_bookFitsOthers_82 : decode cX6_bookFitsOthers 82 = .ok (.iconst 1, 1) := by decide +kernel
theorem dX6_bookFitsOthers_83 : decode cX6_bookFitsOthers 83 = .ok (.ireturn, 1) := by decide +kernel
theorem dX6_mostLeftBy_0 : decode cX6_mostLeftBy 0 = .ok (.aload_n 0, 1) := by decide +kernel
theorem dX6_mostLeftBy_1 : decode cX6_mostLeftBy 1 = .ok (.getfield 51, 3) := by decide +kernel
theorem dX6_mostLeftBy_4 : decode cX6_mostLeftBy 4 = .ok (.aload_n 0, 1) := by decide +kernel
theorem dX6_mostLeftBy_5 : decode cX6_mostLeftBy 5 = .ok (.getfield 33, 3) := by decide +kernel
theorem dX6_mostLeftBy_8 : decode cX6_mostLeftBy 8 = .ok (.getfield 149, 3) := by decide +kernel
theorem dX6_mostLeftBy_11 : decode cX6_mostLeftBy 11 = .ok (.invokevirtual 291, 3) := by decide +kernel
theorem dX6_mostLeftBy_14 : decode cX6_mostLeftBy 14 = .ok (.iconst 0, 1) := by decide +kernel
theorem dX6_mostLeftBy_15 : decode cX6_mostLeftBy 15 = .ok (.istore_n 3, 1) := by decide +kernel
theorem dX6_mostLeftBy_16 : decode cX6_mostLeftBy 16 = .ok (.iconst 1, 1) := by decide +kernel
theorem dX6_mostLeftBy_17 : decode cX6_mostLeftBy 17 = .ok (.istore 4, 2) := by decide +kernel
theorem dX6_mostLeftBy_19 : decode cX6_mostLeftBy 19 = .ok (.iload 4, 2) := by decide +kernel
theorem dX6_mostLeftBy_21 : decode cX6_mostLeftBy 21 = .ok (.bipush 6, 2) := by decide +kernel
theorem dX6_mostLeftBy_23 : decode cX6_mostLeftBy 23 = .ok (.if_icmp .gt 97, 3) := by decide +kernel
theorem dX6_mostLeftBy_26 : decode cX6_mostLeftBy 26 = .ok (.aload_n 0, 1) := by decide +kernel
theorem dX6_mostLeftBy_27 : decode cX6_mostLeftBy 27 = .ok (.getfield 51, 3) := by decide +kernel
theorem dX6_mostLeftBy_30 : decode cX6_mostLeftBy 30 = .ok (.getfield 190, 3) := by decide +kernel
theorem dX6_mostLeftBy_33 : decode cX6_mostLeftBy 33 = .ok (.iload_n 1, 1) := by decide +kernel
theorem dX6_mostLeftBy_34 : decode cX6_mostLeftBy 34 = .ok (.iload 4, 2) := by decide +kernel
theorem dX6_mostLeftBy_36 : decode cX6_mostLeftBy 36 = .ok (.iastore, 1) := by decide +kernel
theorem dX6_mostLeftBy_37 : decode cX6_mostLeftBy 37 = .ok (.aload_n 0, 1) := by decide +kernel
theorem dX6_mostLeftBy_38 : decode cX6_mostLeftBy 38 = .ok (.invokevirtual 248, 3) := by decide +kernel
theorem dX6_mostLeftBy_41 : decode cX6_mostLeftBy 41 = .ok (.aload_n 0, 1) := by decide +kernel
theorem dX6_mostLeftBy_42 : decode cX6_mostLeftBy 42 = .ok (.getfield 58, 3) := by decide +kernel
theorem dX6_mostLeftBy_45 : decode cX6_mostLeftBy 45 = .ok (.aload_n 0, 1) := by decide +kernel
theorem dX6_mostLeftBy_46 : decode cX6_mostLeftBy 46 = .ok (.getfield 51, 3) := by decide +kernel
theorem dX6_mostLeftBy_49 : decode cX6_mostLeftBy 49 = .ok (.iload_n 2, 1) := by decide +kernel
theorem dX6_mostLeftBy_50 : decode cX6_mostLeftBy 50 = .ok (.invokevirtual 251, 3) := by decide +kernel
theorem dX6_mostLeftBy_53 : decode cX6_mostLeftBy 53 = .ok (.pop, 1) := by decide +kernel
theorem dX6_mostLeftBy_54 : decode cX6_mostLeftBy 54 = .ok (.aload_n 0, 1) := by decide +kernel
theorem dX6_mostLeftBy_55 : decode cX6_mostLeftBy 55 = .ok (.getfield 62, 3) := by decide +kernel
theorem dX6_mostLeftBy_58 : decode cX6_mostLeftBy 58 = .ok (.iload 4, 2) := by decide +kernel
theorem dX6_mostLeftBy_60 : decode cX6_mostLeftBy 60 = .ok (.aload_n 0, 1) := by decide +kernel
theorem dX6_mostLeftBy_61 : decode cX6_mostLeftBy 61 = .ok (.getfield 58, 3) := by decide +kernel
theorem dX6_mostLeftBy_64 : decode cX6_mostLeftBy 64 = .ok (.invokevirtual 255, 3) := by decide +kernel
theorem dX6_mostLeftBy_67 : decode cX6_mostLeftBy 67 = .ok (.iastore, 1) := by decide +kernel
theorem dX6_mostLeftBy_68 : decode cX6_mostLeftBy 68 = .ok (.iconst 0, 1) := by decide +kernel
theorem dX6_mostLeftBy_69 : decode cX6_mostLeftBy 69 = .ok (.istore 5, 2) := by decide +kernel
theorem dX6_mostLeftBy_71 : decode cX6_mostLeftBy 71 = .ok (.iconst 1, 1) := by decide +kernel
theorem dX6_mostLeftBy_72 : decode cX6_mostLeftBy 72 = .ok (.istore 6, 2) := by decide +kernel
theorem dX6_mostLeftBy_74 : decode cX6_mostLeftBy 74 = .ok (.iload 6, 2) := by decide +kernel
theorem dX6_mostLeftBy_76 : decode cX6_mostLeftBy 76 = .ok (.iload 4, 2) := by decide +kernel
theorem dX6_mostLeftBy_78 : decode cX6_mostLeftBy 78 = .ok (.if_icmp .gt 29, 3) := by decide +kernel
theorem dX6_mostLeftBy_81 : decode cX6_mostLeftBy 81 = .ok (.aload_n 0, 1) := by decide +kernel
theorem dX6_mostLeftBy_82 : decode cX6_mostLeftBy 82 = .ok (.getfield 62, 3) := by decide +kernel
theorem dX6_mostLeftBy_85 : decode cX6_mostLeftBy 85 = .ok (.iload 6, 2) := by decide +kernel
theorem dX6_mostLeftBy_87 : decode cX6_mostLeftBy 87 = .ok (.iaload, 1) := by decide +kernel
theorem dX6_mostLeftBy_88 : decode cX6_mostLeftBy 88 = .ok (.aload_n 0, 1) := by decide +kernel
theorem dX6_mostLeftBy_89 : decode cX6_mostLeftBy 89 = .ok (.getfield 62, 3) := by decide +kernel
theorem dX6_mostLeftBy_92 : decode cX6_mostLeftBy 92 = .ok (.iload 4, 2) := by decide +kernel
theorem dX6_mostLeftBy_94 : decode cX6_mostLeftBy 94 = .ok (.iaload, 1) := by decide +kernel
theorem dX6_mostLeftBy_95 : decode cX6_mostLeftBy 95 = .ok (.if_icmp .ne 6, 3) := by decide +kernel
theorem dX6_mostLeftBy_98 : decode cX6_mostLeftBy 98 = .ok (.iinc 5 1, 3) := by decide +kernel
theorem dX6_mostLeftBy_101 : decode cX6_mostLeftBy 101 = .ok (.iinc 6 1, 3) := by decide +kernel
theorem dX6_mostLeftBy_104 : decode cX6_mostLeftBy 104 = .ok (.goto (-30), 3) := by decide +kernel
theorem dX6_mostLeftBy_107 : decode cX6_mostLeftBy 107 = .ok (.iload_n 3, 1) := by decide +kernel
theorem dX6_mostLeftBy_108 : decode cX6_mostLeftBy 108 = .ok (.iload 5, 2) := by decide +kernel
theorem dX6_mostLeftBy_110 : decode cX6_mostLeftBy 110 = .ok (.invokestatic 355, 3) := by decide +kernel
theorem dX6_mostLeftBy_113 : decode cX6_mostLeftBy 113 = .ok (.istore_n 3, 1) := by decide +kernel
theorem dX6_mostLeftBy_114 : decode cX6_mostLeftBy 114 = .ok (.iinc 4 1, 3) := by decide +kernel
theorem dX6_mostLeftBy_117 : decode cX6_mostLeftBy 117 = .ok (.goto (-98), 3) := by decide +kernel
theorem dX6_mostLeftBy_120 : decode cX6_mostLeftBy 120 = .ok (.iload_n 3, 1) := by decide +kernel
theorem dX6_mostLeftBy_121 : decode cX6_mostLeftBy 121 = .ok (.ireturn, 1) := by decide +kernel
