theorem dJ6_bitCount_0f7a4_0 : decode cJ6_bitCount_0f7a4 0 = .ok (.iload_n 0, 1) := by decide +kernel
theorem dJ6_bitCount_0f7a4_1 : decode cJ6_bitCount_0f7a4 1 = .ok (.iload_n 0, 1) := by decide +kernel
theorem dJ6_bitCount_0f7a4_2 : decode cJ6_bitCount_0f7a4 2 = .ok (.iconst 1, 1) := by decide +kernel
theorem dJ6_bitCount_0f7a4_3 : decode cJ6_bitCount_0f7a4 3 = .ok (.iushr, 1) := by decide +kernel
theorem dJ6_bitCount_0f7a4_4 : decode cJ6_bitCount_0f7a4 4 = .ok (.ldc_w 265, 3) := by decide +kernel
theorem dJ6_bitCount_0f7a4_7 : decode cJ6_bitCount_0f7a4 7 = .ok (.iand, 1) := by decide +kernel
theorem dJ6_bitCount_0f7a4_8 : decode cJ6_bitCount_0f7a4 8 = .ok (.isub, 1) := by decide +kernel
theorem dJ6_bitCount_0f7a4_9 : decode cJ6_bitCount_0f7a4 9 = .ok (.istore_n 0, 1) := by decide +kernel
theorem dJ6_bitCount_0f7a4_10 : decode cJ6_bitCount_0f7a4 10 = .ok (.iload_n 0, 1) := by decide +kernel
theorem dJ6_bitCount_0f7a4_11 : decode cJ6_bitCount_0f7a4 11 = .ok (.ldc_w 266, 3) := by decide +kernel
theorem dJ6_bitCount_0f7a4_14 : decode cJ6_bitCount_0f7a4 14 = .ok (.iand, 1) := by decide +kernel
theorem dJ6_bitCount_0f7a4_15 : decode cJ6_bitCount_0f7a4 15 = .ok (.iload_n 0, 1) := by decide +kernel
theorem dJ6_bitCount_0f7a4_16 : decode cJ6_bitCount_0f7a4 16 = .ok (.iconst 2, 1) := by decide +kernel
theorem dJ6_bitCount_0f7a4_17 : decode cJ6_bitCount_0f7a4 17 = .ok (.iushr, 1) := by decide +kernel
theorem dJ6_bitCount_0f7a4_18 : decode cJ6_bitCount_0f7a4 18 = .ok (.ldc_w 266, 3) := by decide +kernel
theorem dJ6_bitCount_0f7a4_21 : decode cJ6_bitCount_0f7a4 21 = .ok (.iand, 1) := by decide +kernel
theorem dJ6_bitCount_0f7a4_22 : decode cJ6_bitCount_0f7a4 22 = .ok (.iadd, 1) := by decide +kernel
theorem dJ6_bitCount_0f7a4_23 : decode cJ6_bitCount_0f7a4 23 = .ok (.istore_n 0, 1) := by decide +kernel
theorem dJ6_bitCount_0f7a4_24 : decode cJ6_bitCount_0f7a4 24 = .ok (.iload_n 0, 1) := by decide +kernel
theorem dJ6_bitCount_0f7a4_25 : decode cJ6_bitCount_0f7a4 25 = .ok (.iload_n 0, 1) := by decide +kernel
theorem dJ6_bitCount_0f7a4_26 : decode cJ6_bitCount_0f7a4 26 = .ok (.iconst 4, 1) := by decide +kernel
theorem dJ6_bitCount_0f7a4_27 : decode cJ6_bitCount_0f7a4 27 = .ok (.iushr, 1) := by decide +kernel
theorem dJ6_bitCount_0f7a4_28 : decode cJ6_bitCount_0f7a4 28 = .ok (.iadd, 1) := by decide +kernel
theorem dJ6_bitCount_0f7a4_29 : decode cJ6_bitCount_0f7a4 29 = .ok (.ldc_w 267, 3) := by decide +kernel
theorem dJ6_bitCount_0f7a4_32 : decode cJ6_bitCount_0f7a4 32 = .ok (.iand, 1) := by decide +kernel
theorem dJ6_bitCount_0f7a4_33 : decode cJ6_bitCount_0f7a4 33 = .ok (.istore_n 0, 1) := by decide +kernel
theorem dJ6_bitCount_0f7a4_34 : decode cJ6_bitCount_0f7a4 34 = .ok (.iload_n 0, 1) := by decide +kernel
theorem dJ6_bitCount_0f7a4_35 : decode cJ6_bitCount_0f7a4 35 = .ok (.iload_n 0, 1) := by decide +kernel
theorem dJ6_bitCount_0f7a4_36 : decode cJ6_bitCount_0f7a4 36 = .ok (.bipush 8, 2) := by decide +kernel
theorem dJ6_bitCount_0f7a4_38 : decode cJ6_bitCount_0f7a4 38 = .ok (.iushr, 1) := by decide +kernel
theorem dJ6_bitCount_0f7a4_39 : decode cJ6_bitCount_0f7a4 39 = .ok (.iadd, 1) := by decide +kernel
theorem dJ6_bitCount_0f7a4_40 : decode cJ6_bitCount_0f7a4 40 = .ok (.istore_n 0, 1) := by decide +kernel
theorem dJ6_bitCount_0f7a4_41 : decode cJ6_bitCount_0f7a4 41 = .ok (.iload_n 0, 1) := by decide +kernel
theorem dJ6_bitCount_0f7a4_42 : decode cJ6_bitCount_0f7a4 42 = .ok (.iload_n 0, 1) := by decide +kernel
theorem dJ6_bitCount_0f7a4_43 : decode cJ6_bitCount_0f7a4 43 = .ok (.bipush 16, 2) := by decide +kernel
theorem dJ6_bitCount_0f7a4_45 : decode cJ6_bitCount_0f7a4 45 = .ok (.iushr, 1) := by decide +kernel
theorem dJ6_bitCount_0f7a4_46 : decode cJ6_bitCount_0f7a4 46 = .ok (.iadd, 1) := by decide +kernel
theorem dJ6_bitCount_0f7a4_47 : decode cJ6_bitCount_0f7a4 47 = .ok (.istore_n 0, 1) := by decide +kernel
theorem dJ6_bitCount_0f7a4_48 : decode cJ6_bitCount_0f7a4 48 = .ok (.iload_n 0, 1) := by decide +kernel
theorem dJ6_bitCount_0f7a4_49 : decode cJ6_bitCount_0f7a4 49 = .ok (.bipush 63, 2) := by decide +kernel
theorem dJ6_bitCount_0f7a4_51 : decode cJ6_bitCount_0f7a4 51 = .ok (.iand, 1) := by decide +kernel
theorem dJ6_bitCount_0f7a4_52 : decode cJ6_bitCount_0f7a4 52 = .ok (.ireturn, 1) := by decide +kernel
theorem dJ7_rangeCheck_23922_0 : decode cJ7_rangeCheck_23922 0 = .ok (.iload_n 1, 1) := by decide +kernel
theorem dJ7_rangeCheck_23922_1 : decode cJ7_rangeCheck_23922 1 = .ok (.iload_n 2, 1) := by decide +kernel
theorem dJ7_rangeCheck_23922_2 : decode cJ7_rangeCheck_23922 2 = .ok (.if_icmp .le 44, 3) := by decide +kernel
theorem dJ7_rangeCheck_23922_5 : decode cJ7_rangeCheck_23922 5 = .ok (.new 43, 3) := by decide +kernel
theorem dJ7_rangeCheck_23922_8 : decode cJ7_rangeCheck_23922 8 = .ok (.dup, 1) := by decide +kernel
theorem dJ7_rangeCheck_23922_9 : decode cJ7_rangeCheck_23922 9 = .ok (.new 45, 3) := by decide +kernel
theorem dJ7_rangeCheck_23922_12 : decode cJ7_rangeCheck_23922 12 = .ok (.dup, 1) := by decide +kernel
theorem dJ7_rangeCheck_23922_13 : decode cJ7_rangeCheck_23922 13 = .ok (.invokespecial 47, 3) := by decide +kernel
theorem dJ7_rangeCheck_23922_16 : decode cJ7_rangeCheck_23922 16 = .ok (.ldc 48, 2) := by decide +kernel
theorem dJ7_rangeCheck_23922_18 : decode cJ7_rangeCheck_23922 18 = .ok (.invokevirtual 50, 3) := by decide +kernel
theorem dJ7_rangeCheck_23922_21 : decode cJ7_rangeCheck_23922 21 = .ok (.iload_n 1, 1) := by decide +kernel
theorem dJ7_rangeCheck_23922_22 : decode cJ7_rangeCheck_23922 22 = .ok (.invokevirtual 54, 3) := by decide +kernel
theorem dJ7_rangeCheck_23922_25 : decode cJ7_rangeCheck_23922 25 = .ok (.ldc 57, 2) := by decide +kernel
theorem dJ7_rangeCheck_23922_27 : decode cJ7_rangeCheck_23922 27 = .ok (.invokevirtual 50, 3) := by decide +kernel
theorem dJ7_rangeCheck_23922_30 : decode cJ7_rangeCheck_23922 30 = .ok (.iload_n 2, 1) := by decide +kernel
theorem dJ7_rangeCheck_23922_31 : decode cJ7_rangeCheck_23922 31 = .ok (.invokevirtual 54, 3) := by decide +kernel
theorem dJ7_rangeCheck_23922_34 : decode cJ7_rangeCheck_23922 34 = .ok (.ldc 59, 2) := by decide +kernel
theorem dJ7_rangeCheck_23922_36 : decode cJ7_rangeCheck_23922 36 = .ok (.invokevirtual 50, 3) := by decide +kernel
theorem dJ7_rangeCheck_23922_39 : decode cJ7_rangeCheck_23922 39 = .ok (.invokevirtual 61, 3) := by decide +kernel
theorem dJ7_rangeCheck_23922_42 : decode cJ7_rangeCheck_23922 42 = .ok (.invokespecial 65, 3) := by decide +kernel
theorem dJ7_rangeCheck_23922_45 : decode cJ7_rangeCheck_23922 45 = .ok (.athrow, 1) := by decide +kernel
theorem dJ7_rangeCheck_23922_46 : decode cJ7_rangeCheck_23922 46 = .ok (.iload_n 1, 1) := by decide +kernel
theorem dJ7_rangeCheck_23922_47 : decode cJ7_rangeCheck_23922 47 = .ok (.ifCond .ge 12, 3) := by decide +kernel
theorem dJ7_rangeCheck_23922_50 : decode cJ7_rangeCheck_23922 50 = .ok (.new 68, 3) := by decide +kernel
theorem dJ7_rangeCheck_23922_53 : decode cJ7_rangeCheck_23922 53 = .ok (.dup, 1) := by decide +kernel
theorem dJ7_rangeCheck_23922_54 : decode cJ7_rangeCheck_23922 54 = .ok (.iload_n 1, 1) := by decide +kernel
theorem dJ7_rangeCheck_23922_55 : decode cJ7_rangeCheck_23922 55 = .ok (.invokespecial 70, 3) := by decide +kernel
theorem dJ7_rangeCheck_23922_58 : decode cJ7_rangeCheck_23922 58 = .ok (.athrow, 1) := by decide +kernel
theorem dJ7_rangeCheck_23922_59 : decode cJ7_rangeCheck_23922 59 = .ok (.iload_n 2, 1) := by decide +kernel
theorem dJ7_rangeCheck_23922_60 : decode cJ7_rangeCheck_23922 60 = .ok (.iload_n 0, 1) := by decide +kernel
theorem dJ7_rangeCheck_23922_61 : decode cJ7_rangeCheck_23922 61 = .ok (.if_icmp .le 12, 3) := by decide +kernel
theorem dJ7_rangeCheck_23922_64 : decode cJ7_rangeCheck_23922 64 = .ok (.new 68, 3) := by decide +kernel
theorem dJ7_rangeCheck_23922_67 : decode cJ7_rangeCheck_23922 67 = .ok (.dup, 1) := by decide +kernel
theorem dJ7_rangeCheck_23922_68 : decode cJ7_rangeCheck_23922 68 = .ok (.iload_n 2, 1) := by decide +kernel
theorem dJ7_rangeCheck_23922_69 : decode cJ7_rangeCheck_23922 69 = .ok (.invokespecial 70, 3) := by decide +kernel
theorem dJ7_rangeCheck_23922_72 : decode cJ7_rangeCheck_23922 72 = .ok (.athrow, 1) := by decide +kernel
theorem dJ7_rangeCheck_23922_73 : decode cJ7_rangeCheck_23922 73 = .ok (.return_, 1) := by decide +kernel
theorem dJ7_fill_53178_0 : decode cJ7_fill_53178 0 = .ok (.iconst 0, 1) := by decide +kernel
theorem dJ7_fill_53178_1 : decode cJ7_fill_53178 1 = .ok (.istore_n 2, 1) := by decide +kernel
theorem dJ7_fill_53178_2 : decode cJ7_fill_53178 2 = .ok (.aload_n 0, 1) := by decide +kernel
theorem dJ7_fill_53178_3 : decode cJ7_fill_53178 3 = .ok (.arraylength, 1) := by decide +kernel
theorem dJ7_fill_53178_4 : decode cJ7_fill_53178 4 = .ok (.istore_n 3, 1) := by decide +kernel
theorem dJ7_fill_53178_5 : decode cJ7_fill_53178 5 = .ok (.iload_n 2, 1) := by decide +kernel
theorem dJ7_fill_53178_6 : decode cJ7_fill_53178 6 = .ok (.iload_n 3, 1) := by decide +kernel
theorem dJ7_fill_53178_7 : decode cJ7_fill_53178 7 = .ok (.if_icmp .ge 13, 3) := by decide +kernel
theorem dJ7_fill_53178_10 : decode cJ7_fill_53178 10 = .ok (.aload_n 0, 1) := by decide +kernel
theorem dJ7_fill_53178_11 : decode cJ7_fill_53178 11 = .ok (.iload_n 2, 1) := by decide +kernel
theorem dJ7_fill_53178_12 : decode cJ7_fill_53178 12 = .ok (.iload_n 1, 1) := by decide +kernel
theorem dJ7_fill_53178_13 : decode cJ7_fill_53178 13 = .ok (.iastore, 1) := by decide +kernel
theorem dJ7_fill_53178_14 : decode cJ7_fill_53178 14 = .ok (.iinc 2 1, 3) := by decide +kernel
theorem dJ7_fill_53178_17 : decode cJ7_fill_53178 17 = .ok (.goto (-12), 3) := by decide +kernel
theorem dJ7_fill_53178_20 : decode cJ7_fill_53178 20 = .ok (.return_, 1) := by decide +kernel
theorem dJ7_fill_fda19_0 : decode cJ7_fill_fda19 0 = .ok (.aload_n 0, 1) := by decide +kernel
theorem dJ7_fill_fda19_1 : decode cJ7_fill_fda19 1 = .ok (.arraylength, 1) := by decide +kernel
theorem dJ7_fill_fda19_2 : decode cJ7_fill_fda19 2 = .ok (.iload_n 1, 1) := by decide +kernel
theorem dJ7_fill_fda19_3 : decode cJ7_fill_fda19 3 = .ok (.iload_n 2, 1) := by decide +kernel
theorem dJ7_fill_fda19_4 : decode cJ7_fill_fda19 4 = .ok (.invokestatic 13, 3) := by decide +kernel
theorem dJ7_fill_fda19_7 : decode cJ7_fill_fda19 7 = .ok (.iload_n 1, 1) := by decide +kernel
theorem dJ7_fill_fda19_8 : decode cJ7_fill_fda19 8 = .ok (.istore 4, 2) := by decide +kernel
theorem dJ7_fill_fda19_10 : decode cJ7_fill_fda19 10 = .ok (.iload 4, 2) := by decide +kernel
theorem dJ7_fill_fda19_12 : decode cJ7_fill_fda19 12 = .ok (.iload_n 2, 1) := by decide +kernel
theorem dJ7_fill_fda19_13 : decode cJ7_fill_fda19 13 = .ok (.if_icmp .ge 14, 3) := by decide +kernel
theorem dJ7_fill_fda19_16 : decode cJ7_fill_fda19 16 = .ok (.aload_n 0, 1) := by decide +kernel
theorem dJ7_fill_fda19_17 : decode cJ7_fill_fda19 17 = .ok (.iload 4, 2) := by decide +kernel
theorem dJ7_fill_fda19_19 : decode cJ7_fill_fda19 19 = .ok (.iload_n 3, 1) := by decide +kernel
theorem dJ7_fill_fda19_20 : decode cJ7_fill_fda19 20 = .ok (.iastore, 1) := by decide +kernel
theorem dJ7_fill_fda19_21 : decode cJ7_fill_fda19 21 = .ok (.iinc 4 1, 3) := by decide +kernel
theorem dJ7_fill_fda19_24 : decode cJ7_fill_fda19 24 = .ok (.goto (-14), 3) := by decide +kernel
theorem dJ7_fill_fda19_27 : decode cJ7_fill_fda19 27 = .ok (.return_, 1) := by decide +kernel
theorem dJ9_max_7cf53_0 : decode cJ9_max_7cf53 0 = .ok (.iload_n 0, 1) := by decide +kernel
theorem dJ9_max_7cf53_1 : decode cJ9_max_7cf53 1 = .ok (.iload_n 1, 1) := by decide +kernel
theorem dJ9_max_7cf53_2 : decode cJ9_max_7cf53 2 = .ok (.if_icmp .lt 7, 3) := by decide +kernel
theorem dJ9_max_7cf53_5 : decode cJ9_max_7cf53 5 = .ok (.iload_n 0, 1) := by decide +kernel
theorem dJ9_max_7cf53_6 : decode cJ9_max_7cf53 6 = .ok (.goto 4, 3) := by decide +kernel
theorem dJ9_max_7cf53_9 : decode cJ9_max_7cf53 9 = .ok (.iload_n 1, 1) := by decide +kernel
theorem dJ9_max_7cf53_10 : decode cJ9_max_7cf53 10 = .ok (.ireturn, 1) := by decide +kernel
theorem dJ9_min_7cf53_0 : decode cJ9_min_7cf53 0 = .ok (.iload_n 0, 1) := by decide +kernel
theorem dJ9_min_7cf53_1 : decode cJ9_min_7cf53 1 = .ok (.iload_n 1, 1) := by decide +kernel
theorem dJ9_min_7cf53_2 : decode cJ9_min_7cf53 2 = .ok (.if_icmp .gt 7, 3) := by decide +kernel
theorem dJ9_min_7cf53_5 : decode cJ9_min_7cf53 5 = .ok (.iload_n 0, 1) := by decide +kernel
theorem dJ9_min_7cf53_6 : decode cJ9_min_7cf53 6 = .ok (.goto 4, 3) := by decide +kernel
theorem dJ9_min_7cf53_9 : decode cJ9_min_7cf53 9 = .ok (.iload_n 1, 1) := by decide +kernel
theorem dJ9_min_7cf53_10 : decode cJ9_min_7cf53 10 = .ok (.ireturn, 1) := by decide +kernel
theorem dX0_init_0 : decode cX0_init 0 = .ok (.aload_n 0, 1) := by decide +kernel
theorem dX0_init_1 : decode cX0_init 1 = .ok (.invokespecial 3, 3) := by decide +kernel
theorem dX0_init_4 : decode cX0_init 4 = .ok (.aload_n 0, 1) := by decide +kernel
theorem dX0_init_5 : decode cX0_init 5 = .ok (.iconst 0, 1) := by decide +kernel
theorem dX0_init_6 : decode cX0_init 6 = .ok (.putfield 9, 3) := by decide +kernel
theorem dX0_init_9 : decode cX0_init 9 = .ok (.aload_n 0, 1) := by decide +kernel
theorem dX0_init_10 : decode cX0_init 10 = .ok (.iconst 0, 1) := by decide +kernel
theorem dX0_init_11 : decode cX0_init 11 = .ok (.putfield 15, 3) := by decide +kernel
theorem dX0_init_14 : decode cX0_init 14 = .ok (.aload_n 0, 1) := by decide +kernel
theorem dX0_init_15 : decode cX0_init 15 = .ok (.iconst 0, 1) := by decide +kernel
theorem dX0_init_16 : decode cX0_init 16 = .ok (.putfield 18, 3) := by decide +kernel
theorem dX0_init_19 : decode cX0_init 19 = .ok (.aload_n 0, 1) := by decide +kernel
theorem dX0_init_20 : decode cX0_init 20 = .ok (.iconst 4, 1) := by decide +kernel
theorem dX0_init_21 : decode cX0_init 21 = .ok (.newarray .int, 2) := by decide +kernel
theorem dX0_init_23 : decode cX0_init 23 = .ok (.putfield 21, 3) := by decide +kernel
theorem dX0_init_26 : decode cX0_init 26 = .ok (.aload_n 0, 1) := by decide +kernel
theorem dX0_init_27 : decode cX0_init 27 = .ok (.iconst 4, 1) := by decide +kernel
theorem dX0_init_28 : decode cX0_init 28 = .ok (.newarray .int, 2) := by decide +kernel
theorem dX0_init_30 : decode cX0_init 30 = .ok (.putfield 25, 3) := by decide +kernel
theorem dX0_init_33 : decode cX0_init 33 = .ok (.aload_n 0, 1) := by decide +kernel
theorem dX0_init_34 : decode cX0_init 34 = .ok (.iconst 4, 1) := by decide +kernel
theorem dX0_init_35 : decode cX0_init 35 = .ok (.newarray .int, 2) := by decide +kernel
theorem dX0_init_37 : decode cX0_init 37 = .ok (.putfield 28, 3) := by decide +kernel
theorem dX0_init_40 : decode cX0_init 40 = .ok (.aload_n 0, 1) := by decide +kernel
theorem dX0_init_41 : decode cX0_init 41 = .ok (.iconst 4, 1) := by decide +kernel
theorem dX0_init_42 : decode cX0_init 42 = .ok (.newarray .int, 2) := by decide +kernel
theorem dX0_init_44 : decode cX0_init 44 = .ok (.putfield 31, 3) := by decide +kernel
theorem dX0_init_47 : decode cX0_init 47 = .ok (.aload_n 0, 1) := by decide +kernel
theorem dX0_init_48 : decode cX0_init 48 = .ok (.iconst 4, 1) := by decide +kernel
theorem dX0_init_49 : decode cX0_init 49 = .ok (.newarray .int, 2) := by decide +kernel
theorem dX0_init_51 : decode cX0_init 51 = .ok (.putfield 34, 3) := by decide +kernel
theorem dX0_init_54 : decode cX0_init 54 = .ok (.aload_n 0, 1) := by decide +kernel
theorem dX0_init_55 : decode cX0_init 55 = .ok (.iconst 4, 1) := by decide +kernel
theorem dX0_init_56 : decode cX0_init 56 = .ok (.newarray .int, 2) := by decide +kernel
theorem dX0_init_58 : decode cX0_init 58 = .ok (.putfield 37, 3) := by decide +kernel
theorem dX0_init_61 : decode cX0_init 61 = .ok (.aload_n 0, 1) := by decide +kernel
theorem dX0_init_62 : decode cX0_init 62 = .ok (.iconst 4, 1) := by decide +kernel
theorem dX0_init_63 : decode cX0_init 63 = .ok (.newarray .int, 2) := by decide +kernel
theorem dX0_init_65 : decode cX0_init 65 = .ok (.putfield 40, 3) := by decide +kernel
theorem dX0_init_68 : decode cX0_init 68 = .ok (.aload_n 0, 1) := by decide +kernel
theorem dX0_init_69 : decode cX0_init 69 = .ok (.iconst 4, 1) := by decide +kernel
theorem dX0_init_70 : decode cX0_init 70 = .ok (.newarray .int, 2) := by decide +kernel
theorem dX0_init_72 : decode cX0_init 72 = .ok (.putfield 43, 3) := by decide +kernel
theorem dX0_init_75 : decode cX0_init 75 = .ok (.aload_n 0, 1) := by decide +kernel
theorem dX0_init_76 : decode cX0_init 76 = .ok (.iconst 4, 1) := by decide +kernel
theorem dX0_init_77 : decode cX0_init 77 = .ok (.newarray .int, 2) := by decide +kernel
theorem dX0_init_79 : decode cX0_init 79 = .ok (.putfield 46, 3) := by decide +kernel
theorem dX0_init_82 : decode cX0_init 82 = .ok (.return_, 1) := by decide +kernel
theorem dX0_has_0 : decode cX0_has 0 = .ok (.iload_n 1, 1) := by decide +kernel
theorem dX0_has_1 : decode cX0_has 1 = .ok (.ifCond .lt 15, 3) := by decide +kernel
theorem dX0_has_4 : decode cX0_has 4 = .ok (.iload_n 1, 1) := by decide +kernel
theorem dX0_has_5 : decode cX0_has 5 = .ok (.aload_n 0, 1) := by decide +kernel
theorem dX0_has_6 : decode cX0_has 6 = .ok (.getfield 9, 3) := by decide +kernel
theorem dX0_has_9 : decode cX0_has 9 = .ok (.if_icmp .ge 7, 3) := by decide +kernel
theorem dX0_has_12 : decode cX0_has 12 = .ok (.iconst 1, 1) := by decide +kernel
theorem dX0_has_13 : decode cX0_has 13 = .ok (.goto 4, 3) := by decide +kernel
theorem dX0_has_16 : decode cX0_has 16 = .ok (.iconst 0, 1) := by decide +kernel
theorem dX0_has_17 : decode cX0_has 17 = .ok (.ireturn, 1) := by decide +kernel
theorem dX0_hasNumber_0 : decode cX0_hasNumber 0 = .ok (.iload_n 1, 1) := by decide +kernel
theorem dX0_hasNumber_1 : decode cX0_hasNumber 1 = .ok (.bipush 12, 2) := by decide +kernel
theorem dX0_hasNumber_3 : decode cX0_hasNumber 3 = .ok (.if_icmp .eq 17, 3) := by decide +kernel
theorem dX0_hasNumber_6 : decode cX0_hasNumber 6 = .ok (.iload_n 1, 1) := by decide +kernel
theorem dX0_hasNumber_7 : decode cX0_hasNumber 7 = .ok (.ifCond .lt 17, 3) := by decide +kernel
theorem dX0_hasNumber_10 : decode cX0_hasNumber 10 = .ok (.iload_n 1, 1) := by decide +kernel
theorem dX0_hasNumber_11 : decode cX0_hasNumber 11 = .ok (.iconst 3, 1) := by decide +kernel
theorem dX0_hasNumber_12 : decode cX0_hasNumber 12 = .ok (.aload_n 0, 1) := by decide +kernel
theorem dX0_hasNumber_13 : decode cX0_hasNumber 13 = .ok (.getfield 9, 3) := by decide +kernel
theorem dX0_hasNumber_16 : decode cX0_hasNumber 16 = .ok (.imul, 1) := by decide +kernel
theorem dX0_hasNumber_17 : decode cX0_hasNumber 17 = .ok (.if_icmp .ge 7, 3) := by decide +kernel
theorem dX0_hasNumber_20 : decode cX0_hasNumber 20 = .ok (.iconst 1, 1) := by decide +kernel
theorem dX0_hasNumber_21 : decode cX0_hasNumber 21 = .ok (.goto 4, 3) := by decide +kernel
theorem dX0_hasNumber_24 : decode cX0_hasNumber 24 = .ok (.iconst 0, 1) := by decide +kernel
theorem dX0_hasNumber_25 : decode cX0_hasNumber 25 = .ok (.ireturn, 1) := by decide +kernel
theorem dX0_isOfKind_0 : decode cX0_isOfKind 0 = .ok (.aload_n 0, 1) := by decide +kernel
theorem dX0_isOfKind_1 : decode cX0_isOfKind 1 = .ok (.iload_n 1, 1) := by decide +kernel
theorem dX0_isOfKind_2 : decode cX0_isOfKind 2 = .ok (.invokevirtual 49, 3) := by decide +kernel
theorem dX0_isOfKind_5 : decode cX0_isOfKind 5 = .ok (.ifCond .ne 5, 3) := by decide +kernel
theorem dX0_isOfKind_8 : decode cX0_isOfKind 8 = .ok (.iconst 0, 1) := by decide +kernel
theorem dX0_isOfKind_9 : decode cX0_isOfKind 9 = .ok (.ireturn, 1) := by decide +kernel
theorem dX0_isOfKind_10 : decode cX0_isOfKind 10 = .ok (.aload_n 0, 1) := by decide +kernel
theorem dX0_isOfKind_11 : decode cX0_isOfKind 11 = .ok (.getfield 21, 3) := by decide +kernel
theorem dX0_isOfKind_14 : decode cX0_isOfKind 14 = .ok (.iload_n 1, 1) := by decide +kernel
theorem dX0_isOfKind_15 : decode cX0_isOfKind 15 = .ok (.iaload, 1) := by decide +kernel
theorem dX0_isOfKind_16 : decode cX0_isOfKind 16 = .ok (.istore_n 3, 1) := by decide +kernel
theorem dX0_isOfKind_17 : decode cX0_isOfKind 17 = .ok (.iload_n 3, 1) := by decide +kernel
theorem dX0_isOfKind_18 : decode cX0_isOfKind 18 = .ok (.iload_n 2, 1) := by decide +kernel
theorem dX0_isOfKind_19 : decode cX0_isOfKind 19 = .ok (.if_icmp .eq 23, 3) := by decide +kernel
theorem dX0_isOfKind_22 : decode cX0_isOfKind 22 = .ok (.iload_n 3, 1) := by decide +kernel
theorem dX0_isOfKind_23 : decode cX0_isOfKind 23 = .ok (.iconst 4, 1) := by decide +kernel
theorem dX0_isOfKind_24 : decode cX0_isOfKind 24 = .ok (.if_icmp .ne 8, 3) := by decide +kernel
theorem dX0_isOfKind_27 : decode cX0_isOfKind 27 = .ok (.iload_n 2, 1) := by decide +kernel
theorem dX0_isOfKind_28 : decode cX0_isOfKind 28 = .ok (.iconst 2, 1) := by decide +kernel
theorem dX0_isOfKind_29 : decode cX0_isOfKind 29 = .ok (.if_icmp .eq 13, 3) := by decide +kernel
theorem dX0_isOfKind_32 : decode cX0_isOfKind 32 = .ok (.iload_n 3, 1) := by decide +kernel
theorem dX0_isOfKind_33 : decode cX0_isOfKind 33 = .ok (.iconst 5, 1) := by decide +kernel
theorem dX0_isOfKind_34 : decode cX0_isOfKind 34 = .ok (.if_icmp .ne 12, 3) := by decide +kernel
theorem dX0_isOfKind_37 : decode cX0_isOfKind 37 = .ok (.iload_n 2, 1) := by decide +kernel
theorem dX0_isOfKind_38 : decode cX0_isOfKind 38 = .ok (.iconst 3, 1) := by decide +kernel
theorem dX0_isOfKind_39 : decode cX0_isOfKind 39 = .ok (.if_icmp .ne 7, 3) := by decide +kernel
theorem dX0_isOfKind_42 : decode cX0_isOfKind 42 = .ok (.iconst 1, 1) := by decide +kernel
theorem dX0_isOfKind_43 : decode cX0_isOfKind 43 = .ok (.goto 4, 3) := by decide +kernel
theorem dX0_isOfKind_46 : decode cX0_isOfKind 46 = .ok (.iconst 0, 1) := by decide +kernel
theorem dX0_isOfKind_47 : decode cX0_isOfKind 47 = .ok (.ireturn, 1) := by decide +kernel
theorem dX0_howManyOfKind_0 : decode cX0_howManyOfKind 0 = .ok (.iconst 0, 1) := by decide +kernel
theorem dX0_howManyOfKind_1 : decode cX0_howManyOfKind 1 = .ok (.istore_n 2, 1) := by decide +kernel
theorem dX0_howManyOfKind_2 : decode cX0_howManyOfKind 2 = .ok (.iconst 0, 1) := by decide +kernel
theorem dX0_howManyOfKind_3 : decode cX0_howManyOfKind 3 = .ok (.istore_n 3, 1) := by decide +kernel
theorem dX0_howManyOfKind_4 : decode cX0_howManyOfKind 4 = .ok (.iload_n 3, 1) := by decide +kernel
theorem dX0_howManyOfKind_5 : decode cX0_howManyOfKind 5 = .ok (.aload_n 0, 1) := by decide +kernel
theorem dX0_howManyOfKind_6 : decode cX0_howManyOfKind 6 = .ok (.getfield 9, 3) := by decide +kernel
theorem dX0_howManyOfKind_9 : decode cX0_howManyOfKind 9 = .ok (.if_icmp .ge 21, 3) := by decide +kernel
theorem dX0_howManyOfKind_12 : decode cX0_howManyOfKind 12 = .ok (.aload_n 0, 1) := by decide +kernel
theorem dX0_howManyOfKind_13 : decode cX0_howManyOfKind 13 = .ok (.iload_n 3, 1) := by decide +kernel
theorem dX0_howManyOfKind_14 : decode cX0_howManyOfKind 14 = .ok (.iload_n 1, 1) := by decide +kernel
theorem dX0_howManyOfKind_15 : decode cX0_howManyOfKind 15 = .ok (.invokevirtual 53, 3) := by decide +kernel
theorem dX0_howManyOfKind_18 : decode cX0_howManyOfKind 18 = .ok (.ifCond .eq 6, 3) := by decide +kernel
theorem dX0_howManyOfKind_21 : decode cX0_howManyOfKind 21 = .ok (.iinc 2 1, 3) := by decide +kernel
theorem dX0_howManyOfKind_24 : decode cX0_howManyOfKind 24 = .ok (.iinc 3 1, 3) := by decide +kernel
theorem dX0_howManyOfKind_27 : decode cX0_howManyOfKind 27 = .ok (.goto (-23), 3) := by decide +kernel
theorem dX0_howManyOfKind_30 : decode cX0_howManyOfKind 30 = .ok (.iload_n 2, 1) := by decide +kernel
theorem dX0_howManyOfKind_31 : decode cX0_howManyOfKind 31 = .ok (.ireturn, 1) := by decide +kernel
theorem dX0_leavingHunger_0 : decode cX0_leavingHunger 0 = .ok (.aload_n 0, 1) := by decide +kernel
theorem dX0_leavingHunger_1 : decode cX0_leavingHunger 1 = .ok (.getfield 28, 3) := by decide +kernel
theorem dX0_leavingHunger_4 : decode cX0_leavingHunger 4 = .ok (.iload_n 1, 1) := by decide +kernel
theorem dX0_leavingHunger_5 : decode cX0_leavingHunger 5 = .ok (.iaload, 1) := by decide +kernel
theorem dX0_leavingHunger_6 : decode cX0_leavingHunger 6 = .ok (.iconst 2, 1) := by decide +kernel
theorem dX0_leavingHunger_7 : decode cX0_leavingHunger 7 = .ok (.iadd, 1) := by decide +kernel
theorem dX0_leavingHunger_8 : decode cX0_leavingHunger 8 = .ok (.ireturn, 1) := by decide +kernel
theorem dX0_settle_0 : decode cX0_settle 0 = .ok (.aload_n 0, 1) := by decide +kernel
theorem dX0_settle_1 : decode cX0_settle 1 = .ok (.iconst 1, 1) := by decide +kernel
theorem dX0_settle_2 : decode cX0_settle 2 = .ok (.aload_n 0, 1) := by decide +kernel
theorem dX0_settle_3 : decode cX0_settle 3 = .ok (.getfield 9, 3) := by decide +kernel
theorem dX0_settle_6 : decode cX0_settle 6 = .ok (.ishl, 1) := by decide +kernel
theorem dX0_settle_7 : decode cX0_settle 7 = .ok (.iconst 1, 1) := by decide +kernel
theorem dX0_settle_8 : decode cX0_settle 8 = .ok (.isub, 1) := by decide +kernel
theorem dX0_settle_9 : decode cX0_settle 9 = .ok (.putfield 15, 3) := by decide +kernel
theorem dX0_settle_12 : decode cX0_settle 12 = .ok (.aload_n 0, 1) := by decide +kernel
theorem dX0_settle_13 : decode cX0_settle 13 = .ok (.iconst 0, 1) := by decide +kernel
theorem dX0_settle_14 : decode cX0_settle 14 = .ok (.putfield 18, 3) := by decide +kernel
theorem dX0_settle_17 : decode cX0_settle 17 = .ok (.iconst 0, 1) := by decide +kernel
theorem dX0_settle_18 : decode cX0_settle 18 = .ok (.istore_n 1, 1) := by decide +kernel
theorem dX0_settle_19 : decode cX0_settle 19 = .ok (.iload_n 1, 1) := by decide +kernel
theorem dX0_settle_20 : decode cX0_settle 20 = .ok (.aload_n 0, 1) := by decide +kernel
theorem dX0_settle_21 : decode cX0_settle 21 = .ok (.getfield 9, 3) := by decide +kernel
theorem dX0_settle_24 : decode cX0_settle 24 = .ok (.if_icmp .ge 66, 3) := by decide +kernel
theorem dX0_settle_27 : decode cX0_settle 27 = .ok (.aload_n 0, 1) := by decide +kernel
theorem dX0_settle_28 : decode cX0_settle 28 = .ok (.getfield 40, 3) := by decide +kernel
theorem dX0_settle_31 : decode cX0_settle 31 = .ok (.iload_n 1, 1) := by decide +kernel
theorem dX0_settle_32 : decode cX0_settle 32 = .ok (.iconst 1, 1) := by decide +kernel
theorem dX0_settle_33 : decode cX0_settle 33 = .ok (.iload_n 1, 1) := by decide +kernel
theorem dX0_settle_34 : decode cX0_settle 34 = .ok (.ishl, 1) := by decide +kernel
theorem dX0_settle_35 : decode cX0_settle 35 = .ok (.iastore, 1) := by decide +kernel
theorem dX0_settle_36 : decode cX0_settle 36 = .ok (.aload_n 0, 1) := by decide +kernel
theorem dX0_settle_37 : decode cX0_settle 37 = .ok (.getfield 43, 3) := by decide +kernel
theorem dX0_settle_40 : decode cX0_settle 40 = .ok (.iload_n 1, 1) := by decide +kernel
theorem dX0_settle_41 : decode cX0_settle 41 = .ok (.iconst 0, 1) := by decide +kernel
theorem dX0_settle_42 : decode cX0_settle 42 = .ok (.iastore, 1) := by decide +kernel
theorem dX0_settle_43 : decode cX0_settle 43 = .ok (.aload_n 0, 1) := by decide +kernel
theorem dX0_settle_44 : decode cX0_settle 44 = .ok (.getfield 46, 3) := by decide +kernel
theorem dX0_settle_47 : decode cX0_settle 47 = .ok (.iload_n 1, 1) := by decide +kernel
theorem dX0_settle_48 : decode cX0_settle 48 = .ok (.aload_n 0, 1) := by decide +kernel
theorem dX0_settle_49 : decode cX0_settle 49 = .ok (.iload_n 1, 1) := by decide +kernel
theorem dX0_settle_50 : decode cX0_settle 50 = .ok (.iconst 2, 1) := by decide +kernel
theorem dX0_settle_51 : decode cX0_settle 51 = .ok (.invokevirtual 53, 3) := by decide +kernel
theorem dX0_settle_54 : decode cX0_settle 54 = .ok (.ifCond .eq 7, 3) := by decide +kernel
theorem dX0_settle_57 : decode cX0_settle 57 = .ok (.iconst 2, 1) := by decide +kernel
theorem dX0_settle_58 : decode cX0_settle 58 = .ok (.goto 4, 3) := by decide +kernel
theorem dX0_settle_61 : decode cX0_settle 61 = .ok (.iconst 1, 1) := by decide +kernel
theorem dX0_settle_62 : decode cX0_settle 62 = .ok (.iastore, 1) := by decide +kernel
theorem dX0_settle_63 : decode cX0_settle 63 = .ok (.aload_n 0, 1) := by decide +kernel
theorem dX0_settle_64 : decode cX0_settle 64 = .ok (.iload_n 1, 1) := by decide +kernel
theorem dX0_settle_65 : decode cX0_settle 65 = .ok (.iconst 3, 1) := by decide +kernel
theorem dX0_settle_66 : decode cX0_settle 66 = .ok (.invokevirtual 53, 3) := by decide +kernel
theorem dX0_settle_69 : decode cX0_settle 69 = .ok (.ifCond .eq 15, 3) := by decide +kernel
theorem dX0_settle_72 : decode cX0_settle 72 = .ok (.aload_n 0, 1) := by decide +kernel
theorem dX0_settle_73 : decode cX0_settle 73 = .ok (.dup, 1) := by decide +kernel
theorem dX0_settle_74 : decode cX0_settle 74 = .ok (.getfield 18, 3) := by decide +kernel
theorem dX0_settle_77 : decode cX0_settle 77 = .ok (.iconst 1, 1) := by decide +kernel
theorem dX0_settle_78 : decode cX0_settle 78 = .ok (.iload_n 1, 1) := by decide +kernel
theorem dX0_settle_79 : decode cX0_settle 79 = .ok (.ishl, 1) := by decide +kernel
theorem dX0_settle_80 : decode cX0_settle 80 = .ok (.ior, 1) := by decide +kernel
theorem dX0_settle_81 : decode cX0_settle 81 = .ok (.putfield 18, 3) := by decide +kernel
theorem dX0_settle_84 : decode cX0_settle 84 = .ok (.iinc 1 1, 3) := by decide +kernel
theorem dX0_settle_87 : decode cX0_settle 87 = .ok (.goto (-68), 3) := by decide +kernel
theorem dX0_settle_90 : decode cX0_settle 90 = .ok (.iconst 0, 1) := by decide +kernel
theorem dX0_settle_91 : decode cX0_settle 91 = .ok (.istore_n 1, 1) := by decide +kernel
theorem dX0_settle_92 : decode cX0_settle 92 = .ok (.iload_n 1, 1) := by decide +kernel
theorem dX0_settle_93 : decode cX0_settle 93 = .ok (.aload_n 0, 1) := by decide +kernel
theorem dX0_settle_94 : decode cX0_settle 94 = .ok (.getfield 9, 3) := by decide +kernel
theorem dX0_settle_97 : decode cX0_settle 97 = .ok (.if_icmp .ge 73, 3) := by decide +kernel
theorem dX0_settle_100 : decode cX0_settle 100 = .ok (.aload_n 0, 1) := by decide +kernel
theorem dX0_settle_101 : decode cX0_settle 101 = .ok (.getfield 37, 3) := by decide +kernel
theorem dX0_settle_104 : decode cX0_settle 104 = .ok (.iload_n 1, 1) := by decide +kernel
theorem dX0_settle_105 : decode cX0_settle 105 = .ok (.iaload, 1) := by decide +kernel
theorem dX0_settle_106 : decode cX0_settle 106 = .ok (.istore_n 2, 1) := by decide +kernel
theorem dX0_settle_107 : decode cX0_settle 107 = .ok (.aload_n 0, 1) := by decide +kernel
theorem dX0_settle_108 : decode cX0_settle 108 = .ok (.iload_n 2, 1) := by decide +kernel
theorem dX0_settle_109 : decode cX0_settle 109 = .ok (.invokevirtual 49, 3) := by decide +kernel
theorem dX0_settle_112 : decode cX0_settle 112 = .ok (.ifCond .ne 6, 3) := by decide +kernel
theorem dX0_settle_115 : decode cX0_settle 115 = .ok (.goto 49, 3) := by decide +kernel
theorem dX0_settle_118 : decode cX0_settle 118 = .ok (.aload_n 0, 1) := by decide +kernel
theorem dX0_settle_119 : decode cX0_settle 119 = .ok (.getfield 21, 3) := by decide +kernel
theorem dX0_settle_122 : decode cX0_settle 122 = .ok (.iload_n 1, 1) := by decide +kernel
theorem dX0_settle_123 : decode cX0_settle 123 = .ok (.iaload, 1) := by decide +kernel
theorem dX0_settle_124 : decode cX0_settle 124 = .ok (.iconst 1, 1) := by decide +kernel
theorem dX0_settle_125 : decode cX0_settle 125 = .ok (.if_icmp .ne 30, 3) := by decide +kernel
theorem dX0_settle_128 : decode cX0_settle 128 = .ok (.aload_n 0, 1) := by decide +kernel
theorem dX0_settle_129 : decode cX0_settle 129 = .ok (.getfield 40, 3) := by decide +kernel
theorem dX0_settle_132 : decode cX0_settle 132 = .ok (.iload_n 1, 1) := by decide +kernel
theorem dX0_settle_133 : decode cX0_settle 133 = .ok (.dup2, 1) := by decide +kernel
theorem dX0_settle_134 : decode cX0_settle 134 = .ok (.iaload, 1) := by decide +kernel
theorem dX0_settle_135 : decode cX0_settle 135 = .ok (.iconst 1, 1) := by decide +kernel
theorem dX0_settle_136 : decode cX0_settle 136 = .ok (.iload_n 2, 1) := by decide +kernel
theorem dX0_settle_137 : decode cX0_settle 137 = .ok (.ishl, 1) := by decide +kernel
theorem dX0_settle_138 : decode cX0_settle 138 = .ok (.ior, 1) := by decide +kernel
theorem dX0_settle_139 : decode cX0_settle 139 = .ok (.iastore, 1) := by decide +kernel
theorem dX0_settle_140 : decode cX0_settle 140 = .ok (.aload_n 0, 1) := by decide +kernel
theorem dX0_settle_141 : decode cX0_settle 141 = .ok (.getfield 40, 3) := by decide +kernel
theorem dX0_settle_144 : decode cX0_settle 144 = .ok (.iload_n 2, 1) := by decide +kernel
theorem dX0_settle_145 : decode cX0_settle 145 = .ok (.dup2, 1) := by decide +kernel
theorem dX0_settle_146 : decode cX0_settle 146 = .ok (.iaload, 1) := by decide +kernel
theorem dX0_settle_147 : decode cX0_settle 147 = .ok (.iconst 1, 1) := by decide +kernel
theorem dX0_settle_148 : decode cX0_settle 148 = .ok (.iload_n 1, 1) := by decide +kernel
theorem dX0_settle_149 : decode cX0_settle 149 = .ok (.ishl, 1) := by decide +kernel
theorem dX0_settle_150 : decode cX0_settle 150 = .ok (.ior, 1) := by decide +kernel
theorem dX0_settle_151 : decode cX0_settle 151 = .ok (.iastore, 1) := by decide +kernel
theorem dX0_settle_152 : decode cX0_settle 152 = .ok (.goto 12, 3) := by decide +kernel
theorem dX0_settle_155 : decode cX0_settle 155 = .ok (.aload_n 0, 1) := by decide +kernel
theorem dX0_settle_156 : decode cX0_settle 156 = .ok (.getfield 43, 3) := by decide +kernel
theorem dX0_settle_159 : decode cX0_settle 159 = .ok (.iload_n 1, 1) := by decide +kernel
theorem dX0_settle_160 : decode cX0_settle 160 = .ok (.iconst 1, 1) := by decide +kernel
theorem dX0_settle_161 : decode cX0_settle 161 = .ok (.iload_n 2, 1) := by decide +kernel
theorem dX0_settle_162 : decode cX0_settle 162 = .ok (.ishl, 1) := by decide +kernel
theorem dX0_settle_163 : decode cX0_settle 163 = .ok (.iastore, 1) := by decide +kernel
theorem dX0_settle_164 : decode cX0_settle 164 = .ok (.iinc 1 1, 3) := by decide +kernel
theorem dX0_settle_167 : decode cX0_settle 167 = .ok (.goto (-75), 3) := by decide +kernel
theorem dX0_settle_170 : decode cX0_settle 170 = .ok (.return_, 1) := by decide +kernel
theorem dX0_take_0 : decode cX0_take 0 = .ok (.aload_n 0, 1) := by decide +kernel
theorem dX0_take_1 : decode cX0_take 1 = .ok (.aload_n 1, 1) := by decide +kernel
theorem dX0_take_2 : decode cX0_take 2 = .ok (.getfield 9, 3) := by decide +kernel
theorem dX0_take_5 : decode cX0_take 5 = .ok (.putfield 9, 3) := by decide +kernel
theorem dX0_take_8 : decode cX0_take 8 = .ok (.aload_n 0, 1) := by decide +kernel
theorem dX0_take_9 : decode cX0_take 9 = .ok (.aload_n 1, 1) := by decide +kernel
theorem dX0_take_10 : decode cX0_take 10 = .ok (.getfield 15, 3) := by decide +kernel
theorem dX0_take_13 : decode cX0_take 13 = .ok (.putfield 15, 3) := by decide +kernel
theorem dX0_take_16 : decode cX0_take 16 = .ok (.aload_n 0, 1) := by decide +kernel
theorem dX0_take_17 : decode cX0_take 17 = .ok (.aload_n 1, 1) := by decide +kernel
theorem dX0_take_18 : decode cX0_take 18 = .ok (.getfield 18, 3) := by decide +kernel
theorem dX0_take_21 : decode cX0_take 21 = .ok (.putfield 18, 3) := by decide +kernel
theorem dX0_take_24 : decode cX0_take 24 = .ok (.iconst 0, 1) := by decide +kernel
theorem dX0_take_25 : decode cX0_take 25 = .ok (.istore_n 2, 1) := by decide +kernel
theorem dX0_take_26 : decode cX0_take 26 = .ok (.iload_n 2, 1) := by decide +kernel
theorem dX0_take_27 : decode cX0_take 27 = .ok (.iconst 4, 1) := by decide +kernel
theorem dX0_take_28 : decode cX0_take 28 = .ok (.if_icmp .ge 117, 3) := by decide +kernel
theorem dX0_take_31 : decode cX0_take 31 = .ok (.aload_n 0, 1) := by decide +kernel
theorem dX0_take_32 : decode cX0_take 32 = .ok (.getfield 21, 3) := by decide +kernel
theorem dX0_take_35 : decode cX0_take 35 = .ok (.iload_n 2, 1) := by decide +kernel
theorem dX0_take_36 : decode cX0_take 36 = .ok (.aload_n 1, 1) := by decide +kernel
theorem dX0_take_37 : decode cX0_take 37 = .ok (.getfield 21, 3) := by decide +kernel
theorem dX0_take_40 : decode cX0_take 40 = .ok (.iload_n 2, 1) := by decide +kernel
theorem dX0_take_41 : decode cX0_take 41 = .ok (.iaload, 1) := by decide +kernel
theorem dX0_take_42 : decode cX0_take 42 = .ok (.iastore, 1) := by decide +kernel
theorem dX0_take_43 : decode cX0_take 43 = .ok (.aload_n 0, 1) := by decide +kernel
theorem dX0_take_44 : decode cX0_take 44 = .ok (.getfield 25, 3) := by decide +kernel
theorem dX0_take_47 : decode cX0_take 47 = .ok (.iload_n 2, 1) := by decide +kernel
theorem dX0_take_48 : decode cX0_take 48 = .ok (.aload_n 1, 1) := by decide +kernel
theorem dX0_take_49 : decode cX0_take 49 = .ok (.getfield 25, 3) := by decide +kernel
theorem dX0_take_52 : decode cX0_take 52 = .ok (.iload_n 2, 1) := by decide +kernel
theorem dX0_take_53 : decode cX0_take 53 = .ok (.iaload, 1) := by decide +kernel
theorem dX0_take_54 : decode cX0_take 54 = .ok (.iastore, 1) := by decide +kernel
theorem dX0_take_55 : decode cX0_take 55 = .ok (.aload_n 0, 1) := by decide +kernel
theorem dX0_take_56 : decode cX0_take 56 = .ok (.getfield 28, 3) := by decide +kernel
theorem dX0_take_59 : decode cX0_take 59 = .ok (.iload_n 2, 1) := by decide +kernel
theorem dX0_take_60 : decode cX0_take 60 = .ok (.aload_n 1, 1) := by decide +kernel
theorem dX0_take_61 : decode cX0_take 61 = .ok (.getfield 28, 3) := by decide +kernel
theorem dX0_take_64 : decode cX0_take 64 = .ok (.iload_n 2, 1) := by decide +kernel
theorem dX0_take_65 : decode cX0_take 65 = .ok (.iaload, 1) := by decide +kernel
theorem dX0_take_66 : decode cX0_take 66 = .ok (.iastore, 1) := by decide +kernel
theorem dX0_take_67 : decode cX0_take 67 = .ok (.aload_n 0, 1) := by decide +kernel
theorem dX0_take_68 : decode cX0_take 68 = .ok (.getfield 31, 3) := by decide +kernel
theorem dX0_take_71 : decode cX0_take 71 = .ok (.iload_n 2, 1) := by decide +kernel
theorem dX0_take_72 : decode cX0_take 72 = .ok (.aload_n 1, 1) := by decide +kernel
theorem dX0_take_73 : decode cX0_take 73 = .ok (.getfield 31, 3) := by decide +kernel
theorem dX0_take_76 : decode cX0_take 76 = .ok (.iload_n 2, 1) := by decide +kernel
theorem dX0_take_77 : decode cX0_take 77 = .ok (.iaload, 1) := by decide +kernel
theorem dX0_take_78 : decode cX0_take 78 = .ok (.iastore, 1) := by decide +kernel
theorem dX0_take_79 : decode cX0_take 79 = .ok (.aload_n 0, 1) := by decide +kernel
theorem dX0_take_80 : decode cX0_take 80 = .ok (.getfield 34, 3) := by decide +kernel
theorem dX0_take_83 : decode cX0_take 83 = .ok (.iload_n 2, 1) := by decide +kernel
theorem dX0_take_84 : decode cX0_take 84 = .ok (.aload_n 1, 1) := by decide +kernel
theorem dX0_take_85 : decode cX0_take 85 = .ok (.getfield 34, 3) := by decide +kernel
theorem dX0_take_88 : decode cX0_take 88 = .ok (.iload_n 2, 1) := by decide +kernel
theorem dX0_take_89 : decode cX0_take 89 = .ok (.iaload, 1) := by decide +kernel
theorem dX0_take_90 : decode cX0_take 90 = .ok (.iastore, 1) := by decide +kernel
theorem dX0_take_91 : decode cX0_take 91 = .ok (.aload_n 0, 1) := by decide +kernel
theorem dX0_take_92 : decode cX0_take 92 = .ok (.getfield 37, 3) := by decide +kernel
theorem dX0_take_95 : decode cX0_take 95 = .ok (.iload_n 2, 1) := by decide +kernel
theorem dX0_take_96 : decode cX0_take 96 = .ok (.aload_n 1, 1) := by decide +kernel
theorem dX0_take_97 : decode cX0_take 97 = .ok (.getfield 37, 3) := by decide +kernel
theorem dX0_take_100 : decode cX0_take 100 = .ok (.iload_n 2, 1) := by decide +kernel
theorem dX0_take_101 : decode cX0_take 101 = .ok (.iaload, 1) := by decide +kernel
theorem dX0_take_102 : decode cX0_take 102 = .ok (.iastore, 1) := by decide +kernel
theorem dX0_take_103 : decode cX0_take 103 = .ok (.aload_n 0, 1) := by decide +kernel
theorem dX0_take_104 : decode cX0_take 104 = .ok (.getfield 40, 3) := by decide +kernel
theorem dX0_take_107 : decode cX0_take 107 = .ok (.iload_n 2, 1) := by decide +kernel
theorem dX0_take_108 : decode cX0_take 108 = .ok (.aload_n 1, 1) := by decide +kernel
theorem dX0_take_109 : decode cX0_take 109 = .ok (.getfield 40, 3) := by decide +kernel
theorem dX0_take_112 : decode cX0_take 112 = .ok (.iload_n 2, 1) := by decide +kernel
theorem dX0_take_113 : decode cX0_take 113 = .ok (.iaload, 1) := by decide +kernel
theorem dX0_take_114 : decode cX0_take 114 = .ok (.iastore, 1) := by decide +kernel
theorem dX0_take_115 : decode cX0_take 115 = .ok (.aload_n 0, 1) := by decide +kernel
theorem dX0_take_116 : decode cX0_take 116 = .ok (.getfield 43, 3) := by decide +kernel
theorem dX0_take_119 : decode cX0_take 119 = .ok (.iload_n 2, 1) := by decide +kernel
theorem dX0_take_120 : decode cX0_take 120 = .ok (.aload_n 1, 1) := by decide +kernel
theorem dX0_take_121 : decode cX0_take 121 = .ok (.getfield 43, 3) := by decide +kernel
theorem dX0_take_124 : decode cX0_take 124 = .ok (.iload_n 2, 1) := by decide +kernel
theorem dX0_take_125 : decode cX0_take 125 = .ok (.iaload, 1) := by decide +kernel
theorem dX0_take_126 : decode cX0_take 126 = .ok (.iastore, 1) := by decide +kernel
theorem dX0_take_127 : decode cX0_take 127 = .ok (.aload_n 0, 1) := by decide +kernel
theorem dX0_take_128 : decode cX0_take 128 = .ok (.getfield 46, 3) := by decide +kernel
theorem dX0_take_131 : decode cX0_take 131 = .ok (.iload_n 2, 1) := by decide +kernel
theorem dX0_take_132 : decode cX0_take 132 = .ok (.aload_n 1, 1) := by decide +kernel
theorem dX0_take_133 : decode cX0_take 133 = .ok (.getfield 46, 3) := by decide +kernel
theorem dX0_take_136 : decode cX0_take 136 = .ok (.iload_n 2, 1) := by decide +kernel
theorem dX0_take_137 : decode cX0_take 137 = .ok (.iaload, 1) := by decide +kernel
theorem dX0_take_138 : decode cX0_take 138 = .ok (.iastore, 1) := by decide +kernel
theorem dX0_take_139 : decode cX0_take 139 = .ok (.iinc 2 1, 3) := by decide +kernel
theorem dX0_take_142 : decode cX0_take 142 = .ok (.goto (-116), 3) := by decide +kernel
theorem dX0_take_145 : decode cX0_take 145 = .ok (.return_, 1) := by decide +kernel
theorem dX1_init_0 : decode cX1_init 0 = .ok (.aload_n 0, 1) := by decide +kernel
theorem dX1_init_1 : decode cX1_init 1 = .ok (.invokespecial 3, 3) := by decide +kernel
theorem dX1_init_4 : decode cX1_init 4 = .ok (.aload_n 0, 1) := by decide +kernel
theorem dX1_init_5 : decode cX1_init 5 = .ok (.iconst 5, 1) := by decide +kernel
theorem dX1_init_6 : decode cX1_init 6 = .ok (.anewarray 9, 3) := by decide +kernel
theorem dX1_init_9 : decode cX1_init 9 = .ok (.dup, 1) := by decide +kernel
theorem dX1_init_10 : decode cX1_init 10 = .ok (.iconst 0, 1) := by decide +kernel
theorem dX1_init_11 : decode cX1_init 11 = .ok (.new 9, 3) := by decide +kernel
theorem dX1_init_14 : decode cX1_init 14 = .ok (.dup, 1) := by decide +kernel
theorem dX1_init_15 : decode cX1_init 15 = .ok (.invokespecial 11, 3) := by decide +kernel
theorem dX1_init_18 : decode cX1_init 18 = .ok (.aastore, 1) := by decide +kernel
theorem dX1_init_19 : decode cX1_init 19 = .ok (.dup, 1) := by decide +kernel
theorem dX1_init_20 : decode cX1_init 20 = .ok (.iconst 1, 1) := by decide +kernel
theorem dX1_init_21 : decode cX1_init 21 = .ok (.new 9, 3) := by decide +kernel
theorem dX1_init_24 : decode cX1_init 24 = .ok (.dup, 1) := by decide +kernel
theorem dX1_init_25 : decode cX1_init 25 = .ok (.invokespecial 11, 3) := by decide +kernel
theorem dX1_init_28 : decode cX1_init 28 = .ok (.aastore, 1) := by decide +kernel
theorem dX1_init_29 : decode cX1_init 29 = .ok (.dup, 1) := by decide +kernel
theorem dX1_init_30 : decode cX1_init 30 = .ok (.iconst 2, 1) := by decide +kernel
theorem dX1_init_31 : decode cX1_init 31 = .ok (.new 9, 3) := by decide +kernel
theorem dX1_init_34 : decode cX1_init 34 = .ok (.dup, 1) := by decide +kernel
theorem dX1_init_35 : decode cX1_init 35 = .ok (.invokespecial 11, 3) := by decide +kernel
theorem dX1_init_38 : decode cX1_init 38 = .ok (.aastore, 1) := by decide +kernel
theorem dX1_init_39 : decode cX1_init 39 = .ok (.dup, 1) := by decide +kernel
theorem dX1_init_40 : decode cX1_init 40 = .ok (.iconst 3, 1) := by decide +kernel
theorem dX1_init_41 : decode cX1_init 41 = .ok (.new 9, 3) := by decide +kernel
theorem dX1_init_44 : decode cX1_init 44 = .ok (.dup, 1) := by decide +kernel
theorem dX1_init_45 : decode cX1_init 45 = .ok (.invokespecial 11, 3) := by decide +kernel
theorem dX1_init_48 : decode cX1_init 48 = .ok (.aastore, 1) := by decide +kernel
theorem dX1_init_49 : decode cX1_init 49 = .ok (.dup, 1) := by decide +kernel
theorem dX1_init_50 : decode cX1_init 50 = .ok (.iconst 4, 1) := by decide +kernel
theorem dX1_init_51 : decode cX1_init 51 = .ok (.new 9, 3) := by decide +kernel
theorem dX1_init_54 : decode cX1_init 54 = .ok (.dup, 1) := by decide +kernel
theorem dX1_init_55 : decode cX1_init 55 = .ok (.invokespecial 11, 3) := by decide +kernel
theorem dX1_init_58 : decode cX1_init 58 = .ok (.aastore, 1) := by decide +kernel
theorem dX1_init_59 : decode cX1_init 59 = .ok (.putfield 12, 3) := by decide +kernel
theorem dX1_init_62 : decode cX1_init 62 = .ok (.aload_n 0, 1) := by decide +kernel
theorem dX1_init_63 : decode cX1_init 63 = .ok (.iconst 4, 1) := by decide +kernel
theorem dX1_init_64 : decode cX1_init 64 = .ok (.newarray .int, 2) := by decide +kernel
theorem dX1_init_66 : decode cX1_init 66 = .ok (.putfield 18, 3) := by decide +kernel
theorem dX1_init_69 : decode cX1_init 69 = .ok (.aload_n 0, 1) := by decide +kernel
theorem dX1_init_70 : decode cX1_init 70 = .ok (.iconst 0, 1) := by decide +kernel
theorem dX1_init_71 : decode cX1_init 71 = .ok (.putfield 22, 3) := by decide +kernel
theorem dX1_init_74 : decode cX1_init 74 = .ok (.aload_n 0, 1) := by decide +kernel
theorem dX1_init_75 : decode cX1_init 75 = .ok (.iconst 0, 1) := by decide +kernel
theorem dX1_init_76 : decode cX1_init 76 = .ok (.putfield 26, 3) := by decide +kernel
theorem dX1_init_79 : decode cX1_init 79 = .ok (.aload_n 0, 1) := by decide +kernel
theorem dX1_init_80 : decode cX1_init 80 = .ok (.iconst 0, 1) := by decide +kernel
theorem dX1_init_81 : decode cX1_init 81 = .ok (.putfield 29, 3) := by decide +kernel
theorem dX1_init_84 : decode cX1_init 84 = .ok (.aload_n 0, 1) := by decide +kernel
theorem dX1_init_85 : decode cX1_init 85 = .ok (.iconst 0, 1) := by decide +kernel
theorem dX1_init_86 : decode cX1_init 86 = .ok (.putfield 33, 3) := by decide +kernel
theorem dX1_init_89 : decode cX1_init 89 = .ok (.aload_n 0, 1) := by decide +kernel
theorem dX1_init_90 : decode cX1_init 90 = .ok (.iconst 0, 1) := by decide +kernel
theorem dX1_init_91 : decode cX1_init 91 = .ok (.putfield 36, 3) := by decide +kernel
theorem dX1_init_94 : decode cX1_init 94 = .ok (.aload_n 0, 1) := by decide +kernel
theorem dX1_init_95 : decode cX1_init 95 = .ok (.iconst 0, 1) := by decide +kernel
theorem dX1_init_96 : decode cX1_init 96 = .ok (.putfield 39, 3) := by decide +kernel
theorem dX1_init_99 : decode cX1_init 99 = .ok (.aload_n 0, 1) := by decide +kernel
theorem dX1_init_100 : decode cX1_init 100 = .ok (.iconst 0, 1) := by decide +kernel
theorem dX1_init_101 : decode cX1_init 101 = .ok (.putfield 42, 3) := by decide +kernel
theorem dX1_init_104 : decode cX1_init 104 = .ok (.aload_n 0, 1) := by decide +kernel
theorem dX1_init_105 : decode cX1_init 105 = .ok (.iconst 0, 1) := by decide +kernel
theorem dX1_init_106 : decode cX1_init 106 = .ok (.putfield 45, 3) := by decide +kernel
theorem dX1_init_109 : decode cX1_init 109 = .ok (.aload_n 0, 1) := by decide +kernel
theorem dX1_init_110 : decode cX1_init 110 = .ok (.iconst 0, 1) := by decide +kernel
theorem dX1_init_111 : decode cX1_init 111 = .ok (.putfield 48, 3) := by decide +kernel
theorem dX1_init_114 : decode cX1_init 114 = .ok (.aload_n 0, 1) := by decide +kernel
theorem dX1_init_115 : decode cX1_init 115 = .ok (.iconst 0, 1) := by decide +kernel
theorem dX1_init_116 : decode cX1_init 116 = .ok (.putfield 51, 3) := by decide +kernel
theorem dX1_init_119 : decode cX1_init 119 = .ok (.aload_n 0, 1) := by decide +kernel
theorem dX1_init_120 : decode cX1_init 120 = .ok (.iconst 4, 1) := by decide +kernel
theorem dX1_init_121 : decode cX1_init 121 = .ok (.newarray .int, 2) := by decide +kernel
theorem dX1_init_123 : decode cX1_init 123 = .ok (.putfield 54, 3) := by decide +kernel
theorem dX1_init_126 : decode cX1_init 126 = .ok (.return_, 1) := by decide +kernel
theorem dX1_seekAll_0 : decode cX1_seekAll 0 = .ok (.aload_n 0, 1) := by decide +kernel
theorem dX1_seekAll_1 : decode cX1_seekAll 1 = .ok (.aload_n 2, 1) := by decide +kernel
theorem dX1_seekAll_2 : decode cX1_seekAll 2 = .ok (.iload_n 3, 1) := by decide +kernel
theorem dX1_seekAll_3 : decode cX1_seekAll 3 = .ok (.invokevirtual 57, 3) := by decide +kernel
theorem dX1_seekAll_6 : decode cX1_seekAll 6 = .ok (.aload_n 0, 1) := by decide +kernel
theorem dX1_seekAll_7 : decode cX1_seekAll 7 = .ok (.aload_n 1, 1) := by decide +kernel
theorem dX1_seekAll_8 : decode cX1_seekAll 8 = .ok (.iconst 0, 1) := by decide +kernel
theorem dX1_seekAll_9 : decode cX1_seekAll 9 = .ok (.invokestatic 61, 3) := by decide +kernel
theorem dX1_seekAll_12 : decode cX1_seekAll 12 = .ok (.return_, 1) := by decide +kernel
theorem dX1_seekHarmless_0 : decode cX1_seekHarmless 0 = .ok (.aload_n 0, 1) := by decide +kernel
theorem dX1_seekHarmless_1 : decode cX1_seekHarmless 1 = .ok (.aload_n 2, 1) := by decide +kernel
theorem dX1_seekHarmless_2 : decode cX1_seekHarmless 2 = .ok (.iload_n 3, 1) := by decide +kernel
theorem dX1_seekHarmless_3 : decode cX1_seekHarmless 3 = .ok (.invokevirtual 57, 3) := by decide +kernel
theorem dX1_seekHarmless_6 : decode cX1_seekHarmless 6 = .ok (.aload_n 0, 1) := by decide +kernel
theorem dX1_seekHarmless_7 : decode cX1_seekHarmless 7 = .ok (.iconst 1, 1) := by decide +kernel
theorem dX1_seekHarmless_8 : decode cX1_seekHarmless 8 = .ok (.putfield 29, 3) := by decide +kernel
theorem dX1_seekHarmless_11 : decode cX1_seekHarmless 11 = .ok (.aload_n 0, 1) := by decide +kernel
theorem dX1_seekHarmless_12 : decode cX1_seekHarmless 12 = .ok (.iload 4, 2) := by decide +kernel
theorem dX1_seekHarmless_14 : decode cX1_seekHarmless 14 = .ok (.putfield 33, 3) := by decide +kernel
theorem dX1_seekHarmless_17 : decode cX1_seekHarmless 17 = .ok (.aload_n 0, 1) := by decide +kernel
theorem dX1_seekHarmless_18 : decode cX1_seekHarmless 18 = .ok (.aload_n 1, 1) := by decide +kernel
theorem dX1_seekHarmless_19 : decode cX1_seekHarmless 19 = .ok (.iconst 0, 1) := by decide +kernel
theorem dX1_seekHarmless_20 : decode cX1_seekHarmless 20 = .ok (.invokestatic 61, 3) := by decide +kernel
theorem dX1_seekHarmless_23 : decode cX1_seekHarmless 23 = .ok (.return_, 1) := by decide +kernel
theorem dX1_seekUnfed_0 : decode cX1_seekUnfed 0 = .ok (.aload_n 0, 1) := by decide +kernel
theorem dX1_seekUnfed_1 : decode cX1_seekUnfed 1 = .ok (.aload_n 2, 1) := by decide +kernel
theorem dX1_seekUnfed_2 : decode cX1_seekUnfed 2 = .ok (.iload_n 3, 1) := by decide +kernel
theorem dX1_seekUnfed_3 : decode cX1_seekUnfed 3 = .ok (.invokevirtual 57, 3) := by decide +kernel
theorem dX1_seekUnfed_6 : decode cX1_seekUnfed 6 = .ok (.aload_n 0, 1) := by decide +kernel
theorem dX1_seekUnfed_7 : decode cX1_seekUnfed 7 = .ok (.iconst 1, 1) := by decide +kernel
theorem dX1_seekUnfed_8 : decode cX1_seekUnfed 8 = .ok (.iload 4, 2) := by decide +kernel
theorem dX1_seekUnfed_10 : decode cX1_seekUnfed 10 = .ok (.ishl, 1) := by decide +kernel
theorem dX1_seekUnfed_11 : decode cX1_seekUnfed 11 = .ok (.putfield 26, 3) := by decide +kernel
theorem dX1_seekUnfed_14 : decode cX1_seekUnfed 14 = .ok (.aload_n 0, 1) := by decide +kernel
theorem dX1_seekUnfed_15 : decode cX1_seekUnfed 15 = .ok (.aload_n 1, 1) := by decide +kernel
theorem dX1_seekUnfed_16 : decode cX1_seekUnfed 16 = .ok (.iconst 0, 1) := by decide +kernel
theorem dX1_seekUnfed_17 : decode cX1_seekUnfed 17 = .ok (.invokestatic 61, 3) := by decide +kernel
theorem dX1_seekUnfed_20 : decode cX1_seekUnfed 20 = .ok (.return_, 1) := by decide +kernel
theorem dX1_duel_0 : decode cX1_duel 0 = .ok (.aload_n 0, 1) := by decide +kernel
theorem dX1_duel_1 : decode cX1_duel 1 = .ok (.aload_n 2, 1) := by decide +kernel
theorem dX1_duel_2 : decode cX1_duel 2 = .ok (.iload_n 3, 1) := by decide +kernel
theorem dX1_duel_3 : decode cX1_duel 3 = .ok (.invokevirtual 57, 3) := by decide +kernel
theorem dX1_duel_6 : decode cX1_duel 6 = .ok (.aload_n 0, 1) := by decide +kernel
theorem dX1_duel_7 : decode cX1_duel 7 = .ok (.aload_n 1, 1) := by decide +kernel
theorem dX1_duel_8 : decode cX1_duel 8 = .ok (.iload 4, 2) := by decide +kernel
theorem dX1_duel_10 : decode cX1_duel 10 = .ok (.iconst 0, 1) := by decide +kernel
theorem dX1_duel_11 : decode cX1_duel 11 = .ok (.invokestatic 65, 3) := by decide +kernel
theorem dX1_duel_14 : decode cX1_duel 14 = .ok (.ireturn, 1) := by decide +kernel
theorem dX1_firstOfDuel_0 : decode cX1_firstOfDuel 0 = .ok (.aload_n 0, 1) := by decide +kernel
theorem dX1_firstOfDuel_1 : decode cX1_firstOfDuel 1 = .ok (.getfield 18, 3) := by decide +kernel
theorem dX1_firstOfDuel_4 : decode cX1_firstOfDuel 4 = .ok (.iconst 0, 1) := by decide +kernel
theorem dX1_firstOfDuel_5 : decode cX1_firstOfDuel 5 = .ok (.iaload, 1) := by decide +kernel
theorem dX1_firstOfDuel_6 : decode cX1_firstOfDuel 6 = .ok (.ireturn, 1) := by decide +kernel
theorem dX1_start_0 : decode cX1_start 0 = .ok (.aload_n 0, 1) := by decide +kernel
theorem dX1_start_1 : decode cX1_start 1 = .ok (.getfield 12, 3) := by decide +kernel
theorem dX1_start_4 : decode cX1_start 4 = .ok (.iconst 0, 1) := by decide +kernel
theorem dX1_start_5 : decode cX1_start 5 = .ok (.aaload, 1) := by decide +kernel
theorem dX1_start_6 : decode cX1_start 6 = .ok (.aload_n 1, 1) := by decide +kernel
theorem dX1_start_7 : decode cX1_start 7 = .ok (.invokevirtual 69, 3) := by decide +kernel
theorem dX1_start_10 : decode cX1_start 10 = .ok (.aload_n 0, 1) := by decide +kernel
theorem dX1_start_11 : decode cX1_start 11 = .ok (.getfield 12, 3) := by decide +kernel
theorem dX1_start_14 : decode cX1_start 14 = .ok (.iconst 0, 1) := by decide +kernel
theorem dX1_start_15 : decode cX1_start 15 = .ok (.aaload, 1) := by decide +kernel
theorem dX1_start_16 : decode cX1_start 16 = .ok (.invokevirtual 73, 3) := by decide +kernel
theorem dX1_start_19 : decode cX1_start 19 = .ok (.aload_n 0, 1) := by decide +kernel
theorem dX1_start_20 : decode cX1_start 20 = .ok (.iconst 0, 1) := by decide +kernel
theorem dX1_start_21 : decode cX1_start 21 = .ok (.iload_n 2, 1) := by decide +kernel
theorem dX1_start_22 : decode cX1_start 22 = .ok (.iconst 4, 1) := by decide +kernel
theorem dX1_start_23 : decode cX1_start 23 = .ok (.invokestatic 76, 3) := by decide +kernel
theorem dX1_start_26 : decode cX1_start 26 = .ok (.invokestatic 82, 3) := by decide +kernel
theorem dX1_start_29 : decode cX1_start 29 = .ok (.putfield 22, 3) := by decide +kernel
theorem dX1_start_32 : decode cX1_start 32 = .ok (.aload_n 0, 1) := by decide +kernel
theorem dX1_start_33 : decode cX1_start 33 = .ok (.iconst 0, 1) := by decide +kernel
theorem dX1_start_34 : decode cX1_start 34 = .ok (.putfield 26, 3) := by decide +kernel
theorem dX1_start_37 : decode cX1_start 37 = .ok (.aload_n 0, 1) := by decide +kernel
theorem dX1_start_38 : decode cX1_start 38 = .ok (.iconst 0, 1) := by decide +kernel
theorem dX1_start_39 : decode cX1_start 39 = .ok (.putfield 29, 3) := by decide +kernel
theorem dX1_start_42 : decode cX1_start 42 = .ok (.aload_n 0, 1) := by decide +kernel
theorem dX1_start_43 : decode cX1_start 43 = .ok (.iconst 0, 1) := by decide +kernel
theorem dX1_start_44 : decode cX1_start 44 = .ok (.putfield 33, 3) := by decide +kernel
theorem dX1_start_47 : decode cX1_start 47 = .ok (.aload_n 0, 1) := by decide +kernel
theorem dX1_start_48 : decode cX1_start 48 = .ok (.iconst 0, 1) := by decide +kernel
theorem dX1_start_49 : decode cX1_start 49 = .ok (.putfield 36, 3) := by decide +kernel
theorem dX1_start_52 : decode cX1_start 52 = .ok (.aload_n 0, 1) := by decide +kernel
theorem dX1_start_53 : decode cX1_start 53 = .ok (.iconst 0, 1) := by decide +kernel
theorem dX1_start_54 : decode cX1_start 54 = .ok (.putfield 39, 3) := by decide +kernel
theorem dX1_start_57 : decode cX1_start 57 = .ok (.return_, 1) := by decide +kernel
theorem dX1_walk_0 : decode cX1_walk 0 = .ok (.iload_n 2, 1) := by decide +kernel
theorem dX1_walk_1 : decode cX1_walk 1 = .ok (.aload_n 0, 1) := by decide +kernel
theorem dX1_walk_2 : decode cX1_walk 2 = .ok (.getfield 22, 3) := by decide +kernel
theorem dX1_walk_5 : decode cX1_walk 5 = .ok (.if_icmp .lt 17, 3) := by decide +kernel
theorem dX1_walk_8 : decode cX1_walk 8 = .ok (.aload_n 0, 1) := by decide +kernel
theorem dX1_walk_9 : decode cX1_walk 9 = .ok (.aload_n 0, 1) := by decide +kernel
theorem dX1_walk_10 : decode cX1_walk 10 = .ok (.getfield 12, 3) := by decide +kernel
theorem dX1_walk_13 : decode cX1_walk 13 = .ok (.aload_n 0, 1) := by decide +kernel
theorem dX1_walk_14 : decode cX1_walk 14 = .ok (.getfield 22, 3) := by decide +kernel
theorem dX1_walk_17 : decode cX1_walk 17 = .ok (.aaload, 1) := by decide +kernel
theorem dX1_walk_18 : decode cX1_walk 18 = .ok (.invokevirtual 85, 3) := by decide +kernel
theorem dX1_walk_21 : decode cX1_walk 21 = .ok (.return_, 1) := by decide +kernel
theorem dX1_walk_22 : decode cX1_walk 22 = .ok (.iconst 0, 1) := by decide +kernel
theorem dX1_walk_23 : decode cX1_walk 23 = .ok (.istore_n 3, 1) := by decide +kernel
theorem dX1_walk_24 : decode cX1_walk 24 = .ok (.iload_n 3, 1) := by decide +kernel
theorem dX1_walk_25 : decode cX1_walk 25 = .ok (.bipush 12, 2) := by decide +kernel
theorem dX1_walk_27 : decode cX1_walk 27 = .ok (.if_icmp .gt 52, 3) := by decide +kernel
theorem dX1_walk_30 : decode cX1_walk 30 = .ok (.aload_n 0, 1) := by decide +kernel
theorem dX1_walk_31 : decode cX1_walk 31 = .ok (.getfield 33, 3) := by decide +kernel
theorem dX1_walk_34 : decode cX1_walk 34 = .ok (.ifCond .eq 11, 3) := by decide +kernel
theorem dX1_walk_37 : decode cX1_walk 37 = .ok (.aload_n 0, 1) := by decide +kernel
theorem dX1_walk_38 : decode cX1_walk 38 = .ok (.getfield 36, 3) := by decide +kernel
theorem dX1_walk_41 : decode cX1_walk 41 = .ok (.ifCond .le 4, 3) := by decide +kernel
theorem dX1_walk_44 : decode cX1_walk 44 = .ok (.return_, 1) := by decide +kernel
theorem dX1_walk_45 : decode cX1_walk 45 = .ok (.aload_n 0, 1) := by decide +kernel
theorem dX1_walk_46 : decode cX1_walk 46 = .ok (.aload_n 1, 1) := by decide +kernel
theorem dX1_walk_47 : decode cX1_walk 47 = .ok (.iload_n 2, 1) := by decide +kernel
theorem dX1_walk_48 : decode cX1_walk 48 = .ok (.iload_n 3, 1) := by decide +kernel
theorem dX1_walk_49 : decode cX1_walk 49 = .ok (.invokevirtual 88, 3) := by decide +kernel
theorem dX1_walk_52 : decode cX1_walk 52 = .ok (.ifCond .eq 21, 3) := by decide +kernel
theorem dX1_walk_55 : decode cX1_walk 55 = .ok (.aload_n 0, 1) := by decide +kernel
theorem dX1_walk_56 : decode cX1_walk 56 = .ok (.iload_n 2, 1) := by decide +kernel
theorem dX1_walk_57 : decode cX1_walk 57 = .ok (.iconst 1, 1) := by decide +kernel
theorem dX1_walk_58 : decode cX1_walk 58 = .ok (.iadd, 1) := by decide +kernel
theorem dX1_walk_59 : decode cX1_walk 59 = .ok (.invokevirtual 92, 3) := by decide +kernel
theorem dX1_walk_62 : decode cX1_walk 62 = .ok (.ifCond .eq 11, 3) := by decide +kernel
theorem dX1_walk_65 : decode cX1_walk 65 = .ok (.aload_n 0, 1) := by decide +kernel
theorem dX1_walk_66 : decode cX1_walk 66 = .ok (.aload_n 1, 1) := by decide +kernel
theorem dX1_walk_67 : decode cX1_walk 67 = .ok (.iload_n 2, 1) := by decide +kernel
theorem dX1_walk_68 : decode cX1_walk 68 = .ok (.iconst 1, 1) := by decide +kernel
theorem dX1_walk_69 : decode cX1_walk 69 = .ok (.iadd, 1) := by decide +kernel
theorem dX1_walk_70 : decode cX1_walk 70 = .ok (.invokestatic 61, 3) := by decide +kernel
theorem dX1_walk_73 : decode cX1_walk 73 = .ok (.iinc 3 1, 3) := by decide +kernel
theorem dX1_walk_76 : decode cX1_walk 76 = .ok (.goto (-52), 3) := by decide +kernel
theorem dX1_walk_79 : decode cX1_walk 79 = .ok (.return_, 1) := by decide +kernel
theorem dX1_goOn_0 : decode cX1_goOn 0 = .ok (.iload_n 2, 1) := by decide +kernel
theorem dX1_goOn_1 : decode cX1_goOn 1 = .ok (.ifCond .lt 12, 3) := by decide +kernel
theorem dX1_goOn_4 : decode cX1_goOn 4 = .ok (.iload_n 2, 1) := by decide +kernel
theorem dX1_goOn_5 : decode cX1_goOn 5 = .ok (.aload_n 0, 1) := by decide +kernel
theorem dX1_goOn_6 : decode cX1_goOn 6 = .ok (.getfield 18, 3) := by decide +kernel
theorem dX1_goOn_9 : decode cX1_goOn 9 = .ok (.arraylength, 1) := by decide +kernel
theorem dX1_goOn_10 : decode cX1_goOn 10 = .ok (.if_icmp .lt 5, 3) := by decide +kernel
theorem dX1_goOn_13 : decode cX1_goOn 13 = .ok (.iconst 0, 1) := by decide +kernel
theorem dX1_goOn_14 : decode cX1_goOn 14 = .ok (.ireturn, 1) := by decide +kernel
theorem dX1_goOn_15 : decode cX1_goOn 15 = .ok (.aload_n 0, 1) := by decide +kernel
theorem dX1_goOn_16 : decode cX1_goOn 16 = .ok (.getfield 12, 3) := by decide +kernel
theorem dX1_goOn_19 : decode cX1_goOn 19 = .ok (.iload_n 2, 1) := by decide +kernel
theorem dX1_goOn_20 : decode cX1_goOn 20 = .ok (.aaload, 1) := by decide +kernel
theorem dX1_goOn_21 : decode cX1_goOn 21 = .ok (.aload_n 1, 1) := by decide +kernel
theorem dX1_goOn_22 : decode cX1_goOn 22 = .ok (.iload_n 3, 1) := by decide +kernel
theorem dX1_goOn_23 : decode cX1_goOn 23 = .ok (.invokevirtual 96, 3) := by decide +kernel
theorem dX1_goOn_26 : decode cX1_goOn 26 = .ok (.istore 4, 2) := by decide +kernel
theorem dX1_goOn_28 : decode cX1_goOn 28 = .ok (.iload 4, 2) := by decide +kernel
theorem dX1_goOn_30 : decode cX1_goOn 30 = .ok (.bipush (-9), 2) := by decide +kernel
theorem dX1_goOn_32 : decode cX1_goOn 32 = .ok (.if_icmp .ne 5, 3) := by decide +kernel
theorem dX1_goOn_35 : decode cX1_goOn 35 = .ok (.iconst 0, 1) := by decide +kernel
theorem dX1_goOn_36 : decode cX1_goOn 36 = .ok (.ireturn, 1) := by decide +kernel
theorem dX1_goOn_37 : decode cX1_goOn 37 = .ok (.aload_n 0, 1) := by decide +kernel
theorem dX1_goOn_38 : decode cX1_goOn 38 = .ok (.getfield 12, 3) := by decide +kernel
theorem dX1_goOn_41 : decode cX1_goOn 41 = .ok (.iload_n 2, 1) := by decide +kernel
theorem dX1_goOn_42 : decode cX1_goOn 42 = .ok (.iconst 1, 1) := by decide +kernel
theorem dX1_goOn_43 : decode cX1_goOn 43 = .ok (.iadd, 1) := by decide +kernel
theorem dX1_goOn_44 : decode cX1_goOn 44 = .ok (.aaload, 1) := by decide +kernel
theorem dX1_goOn_45 : decode cX1_goOn 45 = .ok (.aload_n 0, 1) := by decide +kernel
theorem dX1_goOn_46 : decode cX1_goOn 46 = .ok (.getfield 12, 3) := by decide +kernel
theorem dX1_goOn_49 : decode cX1_goOn 49 = .ok (.iload_n 2, 1) := by decide +kernel
theorem dX1_goOn_50 : decode cX1_goOn 50 = .ok (.aaload, 1) := by decide +kernel
theorem dX1_goOn_51 : decode cX1_goOn 51 = .ok (.invokevirtual 69, 3) := by decide +kernel
theorem dX1_goOn_54 : decode cX1_goOn 54 = .ok (.aload_n 0, 1) := by decide +kernel
theorem dX1_goOn_55 : decode cX1_goOn 55 = .ok (.getfield 12, 3) := by decide +kernel
theorem dX1_goOn_58 : decode cX1_goOn 58 = .ok (.iload_n 2, 1) := by decide +kernel
theorem dX1_goOn_59 : decode cX1_goOn 59 = .ok (.iconst 1, 1) := by decide +kernel
theorem dX1_goOn_60 : decode cX1_goOn 60 = .ok (.iadd, 1) := by decide +kernel
theorem dX1_goOn_61 : decode cX1_goOn 61 = .ok (.aaload, 1) := by decide +kernel
theorem dX1_goOn_62 : decode cX1_goOn 62 = .ok (.aload_n 1, 1) := by decide +kernel
theorem dX1_goOn_63 : decode cX1_goOn 63 = .ok (.iload_n 3, 1) := by decide +kernel
theorem dX1_goOn_64 : decode cX1_goOn 64 = .ok (.iload 4, 2) := by decide +kernel
theorem dX1_goOn_66 : decode cX1_goOn 66 = .ok (.invokevirtual 100, 3) := by decide +kernel
theorem dX1_goOn_69 : decode cX1_goOn 69 = .ok (.aload_n 0, 1) := by decide +kernel
theorem dX1_goOn_70 : decode cX1_goOn 70 = .ok (.getfield 18, 3) := by decide +kernel
theorem dX1_goOn_73 : decode cX1_goOn 73 = .ok (.iload_n 2, 1) := by decide +kernel
theorem dX1_goOn_74 : decode cX1_goOn 74 = .ok (.iload_n 3, 1) := by decide +kernel
theorem dX1_goOn_75 : decode cX1_goOn 75 = .ok (.iastore, 1) := by decide +kernel
theorem dX1_goOn_76 : decode cX1_goOn 76 = .ok (.iconst 1, 1) := by decide +kernel
theorem dX1_goOn_77 : decode cX1_goOn 77 = .ok (.ireturn, 1) := by decide +kernel
theorem dX1_isWanted_0 : decode cX1_isWanted 0 = .ok (.iload_n 1, 1) := by decide +kernel
theorem dX1_isWanted_1 : decode cX1_isWanted 1 = .ok (.ifCond .lt 12, 3) := by decide +kernel
theorem dX1_isWanted_4 : decode cX1_isWanted 4 = .ok (.iload_n 1, 1) := by decide +kernel
theorem dX1_isWanted_5 : decode cX1_isWanted 5 = .ok (.aload_n 0, 1) := by decide +kernel
theorem dX1_isWanted_6 : decode cX1_isWanted 6 = .ok (.getfield 12, 3) := by decide +kernel
theorem dX1_isWanted_9 : decode cX1_isWanted 9 = .ok (.arraylength, 1) := by decide +kernel
theorem dX1_isWanted_10 : decode cX1_isWanted 10 = .ok (.if_icmp .lt 5, 3) := by decide +kernel
theorem dX1_isWanted_13 : decode cX1_isWanted 13 = .ok (.iconst 0, 1) := by decide +kernel
theorem dX1_isWanted_14 : decode cX1_isWanted 14 = .ok (.ireturn, 1) := by decide +kernel
theorem dX1_isWanted_15 : decode cX1_isWanted 15 = .ok (.aload_n 0, 1) := by decide +kernel
theorem dX1_isWanted_16 : decode cX1_isWanted 16 = .ok (.getfield 12, 3) := by decide +kernel
theorem dX1_isWanted_19 : decode cX1_isWanted 19 = .ok (.iload_n 1, 1) := by decide +kernel
theorem dX1_isWanted_20 : decode cX1_isWanted 20 = .ok (.aaload, 1) := by decide +kernel
theorem dX1_isWanted_21 : decode cX1_isWanted 21 = .ok (.getfield 104, 3) := by decide +kernel
theorem dX1_isWanted_24 : decode cX1_isWanted 24 = .ok (.aload_n 0, 1) := by decide +kernel
theorem dX1_isWanted_25 : decode cX1_isWanted 25 = .ok (.getfield 26, 3) := by decide +kernel
theorem dX1_isWanted_28 : decode cX1_isWanted 28 = .ok (.iand, 1) := by decide +kernel
theorem dX1_isWanted_29 : decode cX1_isWanted 29 = .ok (.ifCond .ne 26, 3) := by decide +kernel
theorem dX1_isWanted_32 : decode cX1_isWanted 32 = .ok (.aload_n 0, 1) := by decide +kernel
theorem dX1_isWanted_33 : decode cX1_isWanted 33 = .ok (.getfield 29, 3) := by decide +kernel
theorem dX1_isWanted_36 : decode cX1_isWanted 36 = .ok (.ifCond .eq 15, 3) := by decide +kernel
theorem dX1_isWanted_39 : decode cX1_isWanted 39 = .ok (.aload_n 0, 1) := by decide +kernel
theorem dX1_isWanted_40 : decode cX1_isWanted 40 = .ok (.getfield 12, 3) := by decide +kernel
theorem dX1_isWanted_43 : decode cX1_isWanted 43 = .ok (.iload_n 1, 1) := by decide +kernel
theorem dX1_isWanted_44 : decode cX1_isWanted 44 = .ok (.aaload, 1) := by decide +kernel
theorem dX1_isWanted_45 : decode cX1_isWanted 45 = .ok (.getfield 107, 3) := by decide +kernel
theorem dX1_isWanted_48 : decode cX1_isWanted 48 = .ok (.ifCond .ne 7, 3) := by decide +kernel
theorem dX1_isWanted_51 : decode cX1_isWanted 51 = .ok (.iconst 1, 1) := by decide +kernel
theorem dX1_isWanted_52 : decode cX1_isWanted 52 = .ok (.goto 4, 3) := by decide +kernel
theorem dX1_isWanted_55 : decode cX1_isWanted 55 = .ok (.iconst 0, 1) := by decide +kernel
theorem dX1_isWanted_56 : decode cX1_isWanted 56 = .ok (.ireturn, 1) := by decide +kernel
theorem dX1_weigh_0 : decode cX1_weigh 0 = .ok (.aload_n 0, 1) := by decide +kernel
theorem dX1_weigh_1 : decode cX1_weigh 1 = .ok (.getfield 36, 3) := by decide +kernel
theorem dX1_weigh_4 : decode cX1_weigh 4 = .ok (.ifCond .ne 7, 3) := by decide +kernel
theorem dX1_weigh_7 : decode cX1_weigh 7 = .ok (.iconst 1, 1) := by decide +kernel
theorem dX1_weigh_8 : decode cX1_weigh 8 = .ok (.goto 4, 3) := by decide +kernel
theorem dX1_weigh_11 : decode cX1_weigh 11 = .ok (.iconst 0, 1) := by decide +kernel
theorem dX1_weigh_12 : decode cX1_weigh 12 = .ok (.istore_n 2, 1) := by decide +kernel
theorem dX1_weigh_13 : decode cX1_weigh 13 = .ok (.aload_n 0, 1) := by decide +kernel
theorem dX1_weigh_14 : decode cX1_weigh 14 = .ok (.dup, 1) := by decide +kernel
theorem dX1_weigh_15 : decode cX1_weigh 15 = .ok (.getfield 36, 3) := by decide +kernel
theorem dX1_weigh_18 : decode cX1_weigh 18 = .ok (.iconst 1, 1) := by decide +kernel
theorem dX1_weigh_19 : decode cX1_weigh 19 = .ok (.iadd, 1) := by decide +kernel
theorem dX1_weigh_20 : decode cX1_weigh 20 = .ok (.putfield 36, 3) := by decide +kernel
theorem dX1_weigh_23 : decode cX1_weigh 23 = .ok (.aload_n 1, 1) := by decide +kernel
theorem dX1_weigh_24 : decode cX1_weigh 24 = .ok (.getfield 107, 3) := by decide +kernel
theorem dX1_weigh_27 : decode cX1_weigh 27 = .ok (.ifCond .ne 13, 3) := by decide +kernel
theorem dX1_weigh_30 : decode cX1_weigh 30 = .ok (.aload_n 0, 1) := by decide +kernel
theorem dX1_weigh_31 : decode cX1_weigh 31 = .ok (.dup, 1) := by decide +kernel
theorem dX1_weigh_32 : decode cX1_weigh 32 = .ok (.getfield 39, 3) := by decide +kernel
theorem dX1_weigh_35 : decode cX1_weigh 35 = .ok (.iconst 1, 1) := by decide +kernel
theorem dX1_weigh_36 : decode cX1_weigh 36 = .ok (.iadd, 1) := by decide +kernel
theorem dX1_weigh_37 : decode cX1_weigh 37 = .ok (.putfield 39, 3) := by decide +kernel
theorem dX1_weigh_40 : decode cX1_weigh 40 = .ok (.iload_n 2, 1) := by decide +kernel
theorem dX1_weigh_41 : decode cX1_weigh 41 = .ok (.ifCond .ne 14, 3) := by decide +kernel
theorem dX1_weigh_44 : decode cX1_weigh 44 = .ok (.aload_n 1, 1) := by decide +kernel
theorem dX1_weigh_45 : decode cX1_weigh 45 = .ok (.getfield 110, 3) := by decide +kernel
theorem dX1_weigh_48 : decode cX1_weigh 48 = .ok (.aload_n 0, 1) := by decide +kernel
theorem dX1_weigh_49 : decode cX1_weigh 49 = .ok (.getfield 51, 3) := by decide +kernel
theorem dX1_weigh_52 : decode cX1_weigh 52 = .ok (.if_icmp .ge 11, 3) := by decide +kernel
theorem dX1_weigh_55 : decode cX1_weigh 55 = .ok (.aload_n 0, 1) := by decide +kernel
theorem dX1_weigh_56 : decode cX1_weigh 56 = .ok (.aload_n 1, 1) := by decide +kernel
theorem dX1_weigh_57 : decode cX1_weigh 57 = .ok (.getfield 110, 3) := by decide +kernel
theorem dX1_weigh_60 : decode cX1_weigh 60 = .ok (.putfield 51, 3) := by decide +kernel
theorem dX1_weigh_63 : decode cX1_weigh 63 = .ok (.iload_n 2, 1) := by decide +kernel
theorem dX1_weigh_64 : decode cX1_weigh 64 = .ok (.ifCond .ne 36, 3) := by decide +kernel
theorem dX1_weigh_67 : decode cX1_weigh 67 = .ok (.aload_n 1, 1) := by decide +kernel
theorem dX1_weigh_68 : decode cX1_weigh 68 = .ok (.getfield 107, 3) := by decide +kernel
theorem dX1_weigh_71 : decode cX1_weigh 71 = .ok (.aload_n 0, 1) := by decide +kernel
theorem dX1_weigh_72 : decode cX1_weigh 72 = .ok (.getfield 45, 3) := by decide +kernel
theorem dX1_weigh_75 : decode cX1_weigh 75 = .ok (.if_icmp .lt 25, 3) := by decide +kernel
theorem dX1_weigh_78 : decode cX1_weigh 78 = .ok (.aload_n 1, 1) := by decide +kernel
theorem dX1_weigh_79 : decode cX1_weigh 79 = .ok (.getfield 107, 3) := by decide +kernel
theorem dX1_weigh_82 : decode cX1_weigh 82 = .ok (.aload_n 0, 1) := by decide +kernel
theorem dX1_weigh_83 : decode cX1_weigh 83 = .ok (.getfield 45, 3) := by decide +kernel
theorem dX1_weigh_86 : decode cX1_weigh 86 = .ok (.if_icmp .ne 30, 3) := by decide +kernel
theorem dX1_weigh_89 : decode cX1_weigh 89 = .ok (.aload_n 1, 1) := by decide +kernel
theorem dX1_weigh_90 : decode cX1_weigh 90 = .ok (.getfield 113, 3) := by decide +kernel
theorem dX1_weigh_93 : decode cX1_weigh 93 = .ok (.aload_n 0, 1) := by decide +kernel
theorem dX1_weigh_94 : decode cX1_weigh 94 = .ok (.getfield 48, 3) := by decide +kernel
theorem dX1_weigh_97 : decode cX1_weigh 97 = .ok (.if_icmp .le 19, 3) := by decide +kernel
theorem dX1_weigh_100 : decode cX1_weigh 100 = .ok (.aload_n 0, 1) := by decide +kernel
theorem dX1_weigh_101 : decode cX1_weigh 101 = .ok (.aload_n 1, 1) := by decide +kernel
theorem dX1_weigh_102 : decode cX1_weigh 102 = .ok (.getfield 107, 3) := by decide +kernel
theorem dX1_weigh_105 : decode cX1_weigh 105 = .ok (.putfield 45, 3) := by decide +kernel
theorem dX1_weigh_108 : decode cX1_weigh 108 = .ok (.aload_n 0, 1) := by decide +kernel
theorem dX1_weigh_109 : decode cX1_weigh 109 = .ok (.aload_n 1, 1) := by decide +kernel
theorem dX1_weigh_110 : decode cX1_weigh 110 = .ok (.getfield 113, 3) := by decide +kernel
theorem dX1_weigh_113 : decode cX1_weigh 113 = .ok (.putfield 48, 3) := by decide +kernel
theorem dX1_weigh_116 : decode cX1_weigh 116 = .ok (.iload_n 2, 1) := by decide +kernel
theorem dX1_weigh_117 : decode cX1_weigh 117 = .ok (.ifCond .ne 14, 3) := by decide +kernel
theorem dX1_weigh_120 : decode cX1_weigh 120 = .ok (.aload_n 1, 1) := by decide +kernel
theorem dX1_weigh_121 : decode cX1_weigh 121 = .ok (.invokevirtual 116, 3) := by decide +kernel
theorem dX1_weigh_124 : decode cX1_weigh 124 = .ok (.aload_n 0, 1) := by decide +kernel
theorem dX1_weigh_125 : decode cX1_weigh 125 = .ok (.getfield 42, 3) := by decide +kernel
theorem dX1_weigh_128 : decode cX1_weigh 128 = .ok (.if_icmp .le 29, 3) := by decide +kernel
theorem dX1_weigh_131 : decode cX1_weigh 131 = .ok (.aload_n 0, 1) := by decide +kernel
theorem dX1_weigh_132 : decode cX1_weigh 132 = .ok (.aload_n 1, 1) := by decide +kernel
theorem dX1_weigh_133 : decode cX1_weigh 133 = .ok (.invokevirtual 116, 3) := by decide +kernel
theorem dX1_weigh_136 : decode cX1_weigh 136 = .ok (.putfield 42, 3) := by decide +kernel
theorem dX1_weigh_139 : decode cX1_weigh 139 = .ok (.aload_n 0, 1) := by decide +kernel
theorem dX1_weigh_140 : decode cX1_weigh 140 = .ok (.getfield 18, 3) := by decide +kernel
theorem dX1_weigh_143 : decode cX1_weigh 143 = .ok (.iconst 0, 1) := by decide +kernel
theorem dX1_weigh_144 : decode cX1_weigh 144 = .ok (.aload_n 0, 1) := by decide +kernel
theorem dX1_weigh_145 : decode cX1_weigh 145 = .ok (.getfield 54, 3) := by decide +kernel
theorem dX1_weigh_148 : decode cX1_weigh 148 = .ok (.iconst 0, 1) := by decide +kernel
theorem dX1_weigh_149 : decode cX1_weigh 149 = .ok (.aload_n 0, 1) := by decide +kernel
theorem dX1_weigh_150 : decode cX1_weigh 150 = .ok (.getfield 54, 3) := by decide +kernel
theorem dX1_weigh_153 : decode cX1_weigh 153 = .ok (.arraylength, 1) := by decide +kernel
theorem dX1_weigh_154 : decode cX1_weigh 154 = .ok (.invokestatic 120, 3) := by decide +kernel
theorem dX1_weigh_157 : decode cX1_weigh 157 = .ok (.return_, 1) := by decide +kernel
theorem dX1_valueOfDuel_0 : decode cX1_valueOfDuel 0 = .ok (.iload_n 3, 1) := by decide +kernel
theorem dX1_valueOfDuel_1 : decode cX1_valueOfDuel 1 = .ok (.ifCond .lt 20, 3) := by decide +kernel
theorem dX1_valueOfDuel_4 : decode cX1_valueOfDuel 4 = .ok (.iload_n 3, 1) := by decide +kernel
theorem dX1_valueOfDuel_5 : decode cX1_valueOfDuel 5 = .ok (.aload_n 0, 1) := by decide +kernel
theorem dX1_valueOfDuel_6 : decode cX1_valueOfDuel 6 = .ok (.getfield 22, 3) := by decide +kernel
theorem dX1_valueOfDuel_9 : decode cX1_valueOfDuel 9 = .ok (.if_icmp .ge 12, 3) := by decide +kernel
theorem dX1_valueOfDuel_12 : decode cX1_valueOfDuel 12 = .ok (.iload_n 3, 1) := by decide +kernel
theorem dX1_valueOfDuel_13 : decode cX1_valueOfDuel 13 = .ok (.aload_n 0, 1) := by decide +kernel
theorem dX1_valueOfDuel_14 : decode cX1_valueOfDuel 14 = .ok (.getfield 18, 3) := by decide +kernel
theorem dX1_valueOfDuel_17 : decode cX1_valueOfDuel 17 = .ok (.arraylength, 1) := by decide +kernel
theorem dX1_valueOfDuel_18 : decode cX1_valueOfDuel 18 = .ok (.if_icmp .lt 5, 3) := by decide +kernel
theorem dX1_valueOfDuel_21 : decode cX1_valueOfDuel 21 = .ok (.iconst 0, 1) := by decide +kernel
theorem dX1_valueOfDuel_22 : decode cX1_valueOfDuel 22 = .ok (.ireturn, 1) := by decide +kernel
theorem dX1_valueOfDuel_23 : decode cX1_valueOfDuel 23 = .ok (.iload_n 3, 1) := by decide +kernel
theorem dX1_valueOfDuel_24 : decode cX1_valueOfDuel 24 = .ok (.iconst 1, 1) := by decide +kernel
theorem dX1_valueOfDuel_25 : decode cX1_valueOfDuel 25 = .ok (.iand, 1) := by decide +kernel
theorem dX1_valueOfDuel_26 : decode cX1_valueOfDuel 26 = .ok (.ifCond .ne 7, 3) := by decide +kernel
theorem dX1_valueOfDuel_29 : decode cX1_valueOfDuel 29 = .ok (.iconst 1, 1) := by decide +kernel
theorem dX1_valueOfDuel_30 : decode cX1_valueOfDuel 30 = .ok (.goto 4, 3) := by decide +kernel
theorem dX1_valueOfDuel_33 : decode cX1_valueOfDuel 33 = .ok (.iconst 0, 1) := by decide +kernel
theorem dX1_valueOfDuel_34 : decode cX1_valueOfDuel 34 = .ok (.istore 4, 2) := by decide +kernel
theorem dX1_valueOfDuel_36 : decode cX1_valueOfDuel 36 = .ok (.bipush (-9), 2) := by decide +kernel
theorem dX1_valueOfDuel_38 : decode cX1_valueOfDuel 38 = .ok (.istore 5, 2) := by decide +kernel
theorem dX1_valueOfDuel_40 : decode cX1_valueOfDuel 40 = .ok (.iconst 0, 1) := by decide +kernel
theorem dX1_valueOfDuel_41 : decode cX1_valueOfDuel 41 = .ok (.istore 6, 2) := by decide +kernel
theorem dX1_valueOfDuel_43 : decode cX1_valueOfDuel 43 = .ok (.iconst 0, 1) := by decide +kernel
theorem dX1_valueOfDuel_44 : decode cX1_valueOfDuel 44 = .ok (.istore 7, 2) := by decide +kernel
theorem dX1_valueOfDuel_46 : decode cX1_valueOfDuel 46 = .ok (.iload 7, 2) := by decide +kernel
theorem dX1_valueOfDuel_48 : decode cX1_valueOfDuel 48 = .ok (.bipush 12, 2) := by decide +kernel
theorem dX1_valueOfDuel_50 : decode cX1_valueOfDuel 50 = .ok (.if_icmp .gt 84, 3) := by decide +kernel
theorem dX1_valueOfDuel_53 : decode cX1_valueOfDuel 53 = .ok (.aload_n 0, 1) := by decide +kernel
theorem dX1_valueOfDuel_54 : decode cX1_valueOfDuel 54 = .ok (.aload_n 1, 1) := by decide +kernel
theorem dX1_valueOfDuel_55 : decode cX1_valueOfDuel 55 = .ok (.iload_n 3, 1) := by decide +kernel
theorem dX1_valueOfDuel_56 : decode cX1_valueOfDuel 56 = .ok (.iload 7, 2) := by decide +kernel
theorem dX1_valueOfDuel_58 : decode cX1_valueOfDuel 58 = .ok (.invokevirtual 88, 3) := by decide +kernel
theorem dX1_valueOfDuel_61 : decode cX1_valueOfDuel 61 = .ok (.ifCond .ne 6, 3) := by decide +kernel
theorem dX1_valueOfDuel_64 : decode cX1_valueOfDuel 64 = .ok (.goto 64, 3) := by decide +kernel
theorem dX1_valueOfDuel_67 : decode cX1_valueOfDuel 67 = .ok (.aload_n 0, 1) := by decide +kernel
theorem dX1_valueOfDuel_68 : decode cX1_valueOfDuel 68 = .ok (.getfield 12, 3) := by decide +kernel
theorem dX1_valueOfDuel_71 : decode cX1_valueOfDuel 71 = .ok (.iload_n 3, 1) := by decide +kernel
theorem dX1_valueOfDuel_72 : decode cX1_valueOfDuel 72 = .ok (.iconst 1, 1) := by decide +kernel
theorem dX1_valueOfDuel_73 : decode cX1_valueOfDuel 73 = .ok (.iadd, 1) := by decide +kernel
theorem dX1_valueOfDuel_74 : decode cX1_valueOfDuel 74 = .ok (.aaload, 1) := by decide +kernel
theorem dX1_valueOfDuel_75 : decode cX1_valueOfDuel 75 = .ok (.iload_n 2, 1) := by decide +kernel
theorem dX1_valueOfDuel_76 : decode cX1_valueOfDuel 76 = .ok (.invokevirtual 126, 3) := by decide +kernel
theorem dX1_valueOfDuel_79 : decode cX1_valueOfDuel 79 = .ok (.aload_n 0, 1) := by decide +kernel
theorem dX1_valueOfDuel_80 : decode cX1_valueOfDuel 80 = .ok (.aload_n 1, 1) := by decide +kernel
theorem dX1_valueOfDuel_81 : decode cX1_valueOfDuel 81 = .ok (.iload_n 2, 1) := by decide +kernel
theorem dX1_valueOfDuel_82 : decode cX1_valueOfDuel 82 = .ok (.iload_n 3, 1) := by decide +kernel
theorem dX1_valueOfDuel_83 : decode cX1_valueOfDuel 83 = .ok (.iconst 1, 1) := by decide +kernel
theorem dX1_valueOfDuel_84 : decode cX1_valueOfDuel 84 = .ok (.iadd, 1) := by decide +kernel
theorem dX1_valueOfDuel_85 : decode cX1_valueOfDuel 85 = .ok (.invokestatic 65, 3) := by decide +kernel
theorem dX1_valueOfDuel_88 : decode cX1_valueOfDuel 88 = .ok (.iadd, 1) := by decide +kernel
theorem dX1_valueOfDuel_89 : decode cX1_valueOfDuel 89 = .ok (.istore 8, 2) := by decide +kernel
theorem dX1_valueOfDuel_91 : decode cX1_valueOfDuel 91 = .ok (.iload 5, 2) := by decide +kernel
theorem dX1_valueOfDuel_93 : decode cX1_valueOfDuel 93 = .ok (.bipush (-9), 2) := by decide +kernel
theorem dX1_valueOfDuel_95 : decode cX1_valueOfDuel 95 = .ok (.if_icmp .eq 25, 3) := by decide +kernel
theorem dX1_valueOfDuel_98 : decode cX1_valueOfDuel 98 = .ok (.iload 4, 2) := by decide +kernel
theorem dX1_valueOfDuel_100 : decode cX1_valueOfDuel 100 = .ok (.ifCond .eq 13, 3) := by decide +kernel
theorem dX1_valueOfDuel_103 : decode cX1_valueOfDuel 103 = .ok (.iload 8, 2) := by decide +kernel
theorem dX1_valueOfDuel_105 : decode cX1_valueOfDuel 105 = .ok (.iload 6, 2) := by decide +kernel
theorem dX1_valueOfDuel_107 : decode cX1_valueOfDuel 107 = .ok (.if_icmp .le 21, 3) := by decide +kernel
theorem dX1_valueOfDuel_110 : decode cX1_valueOfDuel 110 = .ok (.goto 10, 3) := by decide +kernel
theorem dX1_valueOfDuel_113 : decode cX1_valueOfDuel 113 = .ok (.iload 8, 2) := by decide +kernel
theorem dX1_valueOfDuel_115 : decode cX1_valueOfDuel 115 = .ok (.iload 6, 2) := by decide +kernel
theorem dX1_valueOfDuel_117 : decode cX1_valueOfDuel 117 = .ok (.if_icmp .ge 11, 3) := by decide +kernel
theorem dX1_valueOfDuel_120 : decode cX1_valueOfDuel 120 = .ok (.iload 7, 2) := by decide +kernel
theorem dX1_valueOfDuel_122 : decode cX1_valueOfDuel 122 = .ok (.istore 5, 2) := by decide +kernel
theorem dX1_valueOfDuel_124 : decode cX1_valueOfDuel 124 = .ok (.iload 8, 2) := by decide +kernel
theorem dX1_valueOfDuel_126 : decode cX1_valueOfDuel 126 = .ok (.istore 6, 2) := by decide +kernel
theorem dX1_valueOfDuel_128 : decode cX1_valueOfDuel 128 = .ok (.iinc 7 1, 3) := by decide +kernel
theorem dX1_valueOfDuel_131 : decode cX1_valueOfDuel 131 = .ok (.goto (-85), 3) := by decide +kernel
theorem dX1_valueOfDuel_134 : decode cX1_valueOfDuel 134 = .ok (.aload_n 0, 1) := by decide +kernel
theorem dX1_valueOfDuel_135 : decode cX1_valueOfDuel 135 = .ok (.getfield 18, 3) := by decide +kernel
theorem dX1_valueOfDuel_138 : decode cX1_valueOfDuel 138 = .ok (.iload_n 3, 1) := by decide +kernel
theorem dX1_valueOfDuel_139 : decode cX1_valueOfDuel 139 = .ok (.iload 5, 2) := by decide +kernel
theorem dX1_valueOfDuel_141 : decode cX1_valueOfDuel 141 = .ok (.iastore, 1) := by decide +kernel
theorem dX1_valueOfDuel_142 : decode cX1_valueOfDuel 142 = .ok (.iload 6, 2) := by decide +kernel
theorem dX1_valueOfDuel_144 : decode cX1_valueOfDuel 144 = .ok (.ireturn, 1) := by decide +kernel
theorem dX2_init_0 : decode cX2_init 0 = .ok (.aload_n 0, 1) := by decide +kernel
theorem dX2_init_1 : decode cX2_init 1 = .ok (.invokespecial 3, 3) := by decide +kernel
theorem dX2_init_4 : decode cX2_init 4 = .ok (.aload_n 0, 1) := by decide +kernel
theorem dX2_init_5 : decode cX2_init 5 = .ok (.new 9, 3) := by decide +kernel
theorem dX2_init_8 : decode cX2_init 8 = .ok (.dup, 1) := by decide +kernel
theorem dX2_init_9 : decode cX2_init 9 = .ok (.invokespecial 11, 3) := by decide +kernel
theorem dX2_init_12 : decode cX2_init 12 = .ok (.putfield 12, 3) := by decide +kernel
theorem dX2_init_15 : decode cX2_init 15 = .ok (.aload_n 0, 1) := by decide +kernel
theorem dX2_init_16 : decode cX2_init 16 = .ok (.iconst 3, 1) := by decide +kernel
theorem dX2_init_17 : decode cX2_init 17 = .ok (.newarray .int, 2) := by decide +kernel
theorem dX2_init_19 : decode cX2_init 19 = .ok (.putfield 18, 3) := by decide +kernel
theorem dX2_init_22 : decode cX2_init 22 = .ok (.aload_n 0, 1) := by decide +kernel
theorem dX2_init_23 : decode cX2_init 23 = .ok (.bipush 60, 2) := by decide +kernel
theorem dX2_init_25 : decode cX2_init 25 = .ok (.newarray .int, 2) := by decide +kernel
theorem dX2_init_27 : decode cX2_init 27 = .ok (.putfield 22, 3) := by decide +kernel
theorem dX2_init_30 : decode cX2_init 30 = .ok (.aload_n 0, 1) := by decide +kernel
theorem dX2_init_31 : decode cX2_init 31 = .ok (.iconst 0, 1) := by decide +kernel
theorem dX2_init_32 : decode cX2_init 32 = .ok (.putfield 25, 3) := by decide +kernel
theorem dX2_init_35 : decode cX2_init 35 = .ok (.aload_n 0, 1) := by decide +kernel
theorem dX2_init_36 : decode cX2_init 36 = .ok (.iconst 0, 1) := by decide +kernel
theorem dX2_init_37 : decode cX2_init 37 = .ok (.putfield 29, 3) := by decide +kernel
theorem dX2_init_40 : decode cX2_init 40 = .ok (.aload_n 0, 1) := by decide +kernel
theorem dX2_init_41 : decode cX2_init 41 = .ok (.bipush (-9), 2) := by decide +kernel
theorem dX2_init_43 : decode cX2_init 43 = .ok (.putfield 32, 3) := by decide +kernel
theorem dX2_init_46 : decode cX2_init 46 = .ok (.return_, 1) := by decide +kernel
theorem dX2_firstFault_0 : decode cX2_firstFault 0 = .ok (.aload_n 0, 1) := by decide +kernel
theorem dX2_firstFault_1 : decode cX2_firstFault 1 = .ok (.aload_n 1, 1) := by decide +kernel
theorem dX2_firstFault_2 : decode cX2_firstFault 2 = .ok (.iload_n 2, 1) := by decide +kernel
theorem dX2_firstFault_3 : decode cX2_firstFault 3 = .ok (.invokevirtual 35, 3) := by decide +kernel
theorem dX2_firstFault_6 : decode cX2_firstFault 6 = .ok (.bipush 60, 2) := by decide +kernel
theorem dX2_firstFault_8 : decode cX2_firstFault 8 = .ok (.invokestatic 40, 3) := by decide +kernel
theorem dX2_firstFault_11 : decode cX2_firstFault 11 = .ok (.putfield 25, 3) := by decide +kernel
theorem dX2_firstFault_14 : decode cX2_firstFault 14 = .ok (.iconst 0, 1) := by decide +kernel
theorem dX2_firstFault_15 : decode cX2_firstFault 15 = .ok (.istore_n 3, 1) := by decide +kernel
theorem dX2_firstFault_16 : decode cX2_firstFault 16 = .ok (.iload_n 3, 1) := by decide +kernel
theorem dX2_firstFault_17 : decode cX2_firstFault 17 = .ok (.aload_n 0, 1) := by decide +kernel
theorem dX2_firstFault_18 : decode cX2_firstFault 18 = .ok (.getfield 25, 3) := by decide +kernel
theorem dX2_firstFault_21 : decode cX2_firstFault 21 = .ok (.if_icmp .ge 21, 3) := by decide +kernel
theorem dX2_firstFault_24 : decode cX2_firstFault 24 = .ok (.aload_n 0, 1) := by decide +kernel
theorem dX2_firstFault_25 : decode cX2_firstFault 25 = .ok (.getfield 22, 3) := by decide +kernel
theorem dX2_firstFault_28 : decode cX2_firstFault 28 = .ok (.iload_n 3, 1) := by decide +kernel
theorem dX2_firstFault_29 : decode cX2_firstFault 29 = .ok (.aload_n 1, 1) := by decide +kernel
theorem dX2_firstFault_30 : decode cX2_firstFault 30 = .ok (.iload_n 2, 1) := by decide +kernel
theorem dX2_firstFault_31 : decode cX2_firstFault 31 = .ok (.iload_n 3, 1) := by decide +kernel
theorem dX2_firstFault_32 : decode cX2_firstFault 32 = .ok (.invokevirtual 46, 3) := by decide +kernel
theorem dX2_firstFault_35 : decode cX2_firstFault 35 = .ok (.iastore, 1) := by decide +kernel
theorem dX2_firstFault_36 : decode cX2_firstFault 36 = .ok (.iinc 3 1, 3) := by decide +kernel
theorem dX2_firstFault_39 : decode cX2_firstFault 39 = .ok (.goto (-23), 3) := by decide +kernel
theorem dX2_firstFault_42 : decode cX2_firstFault 42 = .ok (.aload_n 0, 1) := by decide +kernel
theorem dX2_firstFault_43 : decode cX2_firstFault 43 = .ok (.iconst 0, 1) := by decide +kernel
theorem dX2_firstFault_44 : decode cX2_firstFault 44 = .ok (.putfield 29, 3) := by decide +kernel
theorem dX2_firstFault_47 : decode cX2_firstFault 47 = .ok (.aload_n 0, 1) := by decide +kernel
theorem dX2_firstFault_48 : decode cX2_firstFault 48 = .ok (.bipush (-9), 2) := by decide +kernel
theorem dX2_firstFault_50 : decode cX2_firstFault 50 = .ok (.putfield 32, 3) := by decide +kernel
theorem dX2_firstFault_53 : decode cX2_firstFault 53 = .ok (.aload_n 0, 1) := by decide +kernel
theorem dX2_firstFault_54 : decode cX2_firstFault 54 = .ok (.getfield 12, 3) := by decide +kernel
theorem dX2_firstFault_57 : decode cX2_firstFault 57 = .ok (.iconst 0, 1) := by decide +kernel
theorem dX2_firstFault_58 : decode cX2_firstFault 58 = .ok (.putfield 49, 3) := by decide +kernel
theorem dX2_firstFault_61 : decode cX2_firstFault 61 = .ok (.aload_n 0, 1) := by decide +kernel
theorem dX2_firstFault_62 : decode cX2_firstFault 62 = .ok (.invokevirtual 52, 3) := by decide +kernel
theorem dX2_firstFault_65 : decode cX2_firstFault 65 = .ok (.aload_n 0, 1) := by decide +kernel
theorem dX2_firstFault_66 : decode cX2_firstFault 66 = .ok (.invokevirtual 55, 3) := by decide +kernel
theorem dX2_firstFault_69 : decode cX2_firstFault 69 = .ok (.aload_n 0, 1) := by decide +kernel
theorem dX2_firstFault_70 : decode cX2_firstFault 70 = .ok (.getfield 12, 3) := by decide +kernel
theorem dX2_firstFault_73 : decode cX2_firstFault 73 = .ok (.invokevirtual 58, 3) := by decide +kernel
theorem dX2_firstFault_76 : decode cX2_firstFault 76 = .ok (.aload_n 0, 1) := by decide +kernel
theorem dX2_firstFault_77 : decode cX2_firstFault 77 = .ok (.getfield 32, 3) := by decide +kernel
theorem dX2_firstFault_80 : decode cX2_firstFault 80 = .ok (.ireturn, 1) := by decide +kernel
theorem dX2_readStores_0 : decode cX2_readStores 0 = .ok (.aload_n 0, 1) := by decide +kernel
theorem dX2_readStores_1 : decode cX2_readStores 1 = .ok (.invokevirtual 61, 3) := by decide +kernel
theorem dX2_readStores_4 : decode cX2_readStores 4 = .ok (.aload_n 0, 1) := by decide +kernel
theorem dX2_readStores_5 : decode cX2_readStores 5 = .ok (.invokevirtual 64, 3) := by decide +kernel
theorem dX2_readStores_8 : decode cX2_readStores 8 = .ok (.bipush 102, 2) := by decide +kernel
theorem dX2_readStores_10 : decode cX2_readStores 10 = .ok (.if_icmp .eq 12, 3) := by decide +kernel
theorem dX2_readStores_13 : decode cX2_readStores 13 = .ok (.aload_n 0, 1) := by decide +kernel
theorem dX2_readStores_14 : decode cX2_readStores 14 = .ok (.aload_n 0, 1) := by decide +kernel
theorem dX2_readStores_15 : decode cX2_readStores 15 = .ok (.getfield 29, 3) := by decide +kernel
theorem dX2_readStores_18 : decode cX2_readStores 18 = .ok (.putfield 32, 3) := by decide +kernel
theorem dX2_readStores_21 : decode cX2_readStores 21 = .ok (.return_, 1) := by decide +kernel
theorem dX2_readStores_22 : decode cX2_readStores 22 = .ok (.aload_n 0, 1) := by decide +kernel
theorem dX2_readStores_23 : decode cX2_readStores 23 = .ok (.dup, 1) := by decide +kernel
theorem dX2_readStores_24 : decode cX2_readStores 24 = .ok (.getfield 29, 3) := by decide +kernel
theorem dX2_readStores_27 : decode cX2_readStores 27 = .ok (.iconst 1, 1) := by decide +kernel
theorem dX2_readStores_28 : decode cX2_readStores 28 = .ok (.iadd, 1) := by decide +kernel
theorem dX2_readStores_29 : decode cX2_readStores 29 = .ok (.putfield 29, 3) := by decide +kernel
theorem dX2_readStores_32 : decode cX2_readStores 32 = .ok (.iconst 0, 1) := by decide +kernel
theorem dX2_readStores_33 : decode cX2_readStores 33 = .ok (.istore_n 1, 1) := by decide +kernel
theorem dX2_readStores_34 : decode cX2_readStores 34 = .ok (.iload_n 1, 1) := by decide +kernel
theorem dX2_readStores_35 : decode cX2_readStores 35 = .ok (.iconst 3, 1) := by decide +kernel
theorem dX2_readStores_36 : decode cX2_readStores 36 = .ok (.if_icmp .ge 22, 3) := by decide +kernel
theorem dX2_readStores_39 : decode cX2_readStores 39 = .ok (.aload_n 0, 1) := by decide +kernel
theorem dX2_readStores_40 : decode cX2_readStores 40 = .ok (.getfield 18, 3) := by decide +kernel
theorem dX2_readStores_43 : decode cX2_readStores 43 = .ok (.iload_n 1, 1) := by decide +kernel
theorem dX2_readStores_44 : decode cX2_readStores 44 = .ok (.aload_n 0, 1) := by decide +kernel
theorem dX2_readStores_45 : decode cX2_readStores 45 = .ok (.iconst 0, 1) := by decide +kernel
theorem dX2_readStores_46 : decode cX2_readStores 46 = .ok (.bipush 9, 2) := by decide +kernel
theorem dX2_readStores_48 : decode cX2_readStores 48 = .ok (.invokevirtual 68, 3) := by decide +kernel
theorem dX2_readStores_51 : decode cX2_readStores 51 = .ok (.iastore, 1) := by decide +kernel
theorem dX2_readStores_52 : decode cX2_readStores 52 = .ok (.iinc 1 1, 3) := by decide +kernel
theorem dX2_readStores_55 : decode cX2_readStores 55 = .ok (.goto (-21), 3) := by decide +kernel
theorem dX2_readStores_58 : decode cX2_readStores 58 = .ok (.return_, 1) := by decide +kernel
theorem dX2_readGods_0 : decode cX2_readGods 0 = .ok (.iconst 0, 1) := by decide +kernel
theorem dX2_readGods_1 : decode cX2_readGods 1 = .ok (.istore_n 1, 1) := by decide +kernel
theorem dX2_readGods_2 : decode cX2_readGods 2 = .ok (.iload_n 1, 1) := by decide +kernel
theorem dX2_readGods_3 : decode cX2_readGods 3 = .ok (.iconst 4, 1) := by decide +kernel
theorem dX2_readGods_4 : decode cX2_readGods 4 = .ok (.if_icmp .gt 53, 3) := by decide +kernel
theorem dX2_readGods_7 : decode cX2_readGods 7 = .ok (.aload_n 0, 1) := by decide +kernel
theorem dX2_readGods_8 : decode cX2_readGods 8 = .ok (.invokevirtual 61, 3) := by decide +kernel
theorem dX2_readGods_11 : decode cX2_readGods 11 = .ok (.aload_n 0, 1) := by decide +kernel
theorem dX2_readGods_12 : decode cX2_readGods 12 = .ok (.getfield 32, 3) := by decide +kernel
theorem dX2_readGods_15 : decode cX2_readGods 15 = .ok (.bipush (-9), 2) := by decide +kernel
theorem dX2_readGods_17 : decode cX2_readGods 17 = .ok (.if_icmp .ne 14, 3) := by decide +kernel
theorem dX2_readGods_20 : decode cX2_readGods 20 = .ok (.aload_n 0, 1) := by decide +kernel
theorem dX2_readGods_21 : decode cX2_readGods 21 = .ok (.getfield 29, 3) := by decide +kernel
theorem dX2_readGods_24 : decode cX2_readGods 24 = .ok (.aload_n 0, 1) := by decide +kernel
theorem dX2_readGods_25 : decode cX2_readGods 25 = .ok (.getfield 25, 3) := by decide +kernel
theorem dX2_readGods_28 : decode cX2_readGods 28 = .ok (.if_icmp .lt 4, 3) := by decide +kernel
theorem dX2_readGods_31 : decode cX2_readGods 31 = .ok (.return_, 1) := by decide +kernel
theorem dX2_readGods_32 : decode cX2_readGods 32 = .ok (.iload_n 1, 1) := by decide +kernel
theorem dX2_readGods_33 : decode cX2_readGods 33 = .ok (.iconst 4, 1) := by decide +kernel
theorem dX2_readGods_34 : decode cX2_readGods 34 = .ok (.if_icmp .ne 12, 3) := by decide +kernel
theorem dX2_readGods_37 : decode cX2_readGods 37 = .ok (.aload_n 0, 1) := by decide +kernel
theorem dX2_readGods_38 : decode cX2_readGods 38 = .ok (.aload_n 0, 1) := by decide +kernel
theorem dX2_readGods_39 : decode cX2_readGods 39 = .ok (.getfield 29, 3) := by decide +kernel
theorem dX2_readGods_42 : decode cX2_readGods 42 = .ok (.putfield 32, 3) := by decide +kernel
theorem dX2_readGods_45 : decode cX2_readGods 45 = .ok (.return_, 1) := by decide +kernel
theorem dX2_readGods_46 : decode cX2_readGods 46 = .ok (.aload_n 0, 1) := by decide +kernel
theorem dX2_readGods_47 : decode cX2_readGods 47 = .ok (.iload_n 1, 1) := by decide +kernel
theorem dX2_readGods_48 : decode cX2_readGods 48 = .ok (.invokevirtual 71, 3) := by decide +kernel
theorem dX2_readGods_51 : decode cX2_readGods 51 = .ok (.iinc 1 1, 3) := by decide +kernel
theorem dX2_readGods_54 : decode cX2_readGods 54 = .ok (.goto (-52), 3) := by decide +kernel
theorem dX2_readGods_57 : decode cX2_readGods 57 = .ok (.return_, 1) := by decide +kernel
theorem dX2_readGod_0 : decode cX2_readGod 0 = .ok (.iload_n 1, 1) := by decide +kernel
theorem dX2_readGod_1 : decode cX2_readGod 1 = .ok (.ifCond .lt 8, 3) := by decide +kernel
theorem dX2_readGod_4 : decode cX2_readGod 4 = .ok (.iload_n 1, 1) := by decide +kernel
theorem dX2_readGod_5 : decode cX2_readGod 5 = .ok (.iconst 4, 1) := by decide +kernel
theorem dX2_readGod_6 : decode cX2_readGod 6 = .ok (.if_icmp .lt 4, 3) := by decide +kernel
theorem dX2_readGod_9 : decode cX2_readGod 9 = .ok (.return_, 1) := by decide +kernel
theorem dX2_readGod_10 : decode cX2_readGod 10 = .ok (.aload_n 0, 1) := by decide +kernel
theorem dX2_readGod_11 : decode cX2_readGod 11 = .ok (.getfield 12, 3) := by decide +kernel
theorem dX2_readGod_14 : decode cX2_readGod 14 = .ok (.getfield 75, 3) := by decide +kernel
theorem dX2_readGod_17 : decode cX2_readGod 17 = .ok (.iload_n 1, 1) := by decide +kernel
theorem dX2_readGod_18 : decode cX2_readGod 18 = .ok (.aload_n 0, 1) := by decide +kernel
theorem dX2_readGod_19 : decode cX2_readGod 19 = .ok (.invokevirtual 78, 3) := by decide +kernel
theorem dX2_readGod_22 : decode cX2_readGod 22 = .ok (.iastore, 1) := by decide +kernel
theorem dX2_readGod_23 : decode cX2_readGod 23 = .ok (.aload_n 0, 1) := by decide +kernel
theorem dX2_readGod_24 : decode cX2_readGod 24 = .ok (.getfield 12, 3) := by decide +kernel
theorem dX2_readGod_27 : decode cX2_readGod 27 = .ok (.getfield 81, 3) := by decide +kernel
theorem dX2_readGod_30 : decode cX2_readGod 30 = .ok (.iload_n 1, 1) := by decide +kernel
theorem dX2_readGod_31 : decode cX2_readGod 31 = .ok (.aload_n 0, 1) := by decide +kernel
theorem dX2_readGod_32 : decode cX2_readGod 32 = .ok (.iconst 0, 1) := by decide +kernel
theorem dX2_readGod_33 : decode cX2_readGod 33 = .ok (.iconst 2, 1) := by decide +kernel
theorem dX2_readGod_34 : decode cX2_readGod 34 = .ok (.invokevirtual 68, 3) := by decide +kernel
theorem dX2_readGod_37 : decode cX2_readGod 37 = .ok (.iastore, 1) := by decide +kernel
theorem dX2_readGod_38 : decode cX2_readGod 38 = .ok (.aload_n 0, 1) := by decide +kernel
theorem dX2_readGod_39 : decode cX2_readGod 39 = .ok (.getfield 12, 3) := by decide +kernel
theorem dX2_readGod_42 : decode cX2_readGod 42 = .ok (.getfield 84, 3) := by decide +kernel
theorem dX2_readGod_45 : decode cX2_readGod 45 = .ok (.iload_n 1, 1) := by decide +kernel
theorem dX2_readGod_46 : decode cX2_readGod 46 = .ok (.aload_n 0, 1) := by decide +kernel
theorem dX2_readGod_47 : decode cX2_readGod 47 = .ok (.iconst 1, 1) := by decide +kernel
theorem dX2_readGod_48 : decode cX2_readGod 48 = .ok (.bipush 6, 2) := by decide +kernel
theorem dX2_readGod_50 : decode cX2_readGod 50 = .ok (.invokevirtual 68, 3) := by decide +kernel
theorem dX2_readGod_53 : decode cX2_readGod 53 = .ok (.iastore, 1) := by decide +kernel
theorem dX2_readGod_54 : decode cX2_readGod 54 = .ok (.aload_n 0, 1) := by decide +kernel
theorem dX2_readGod_55 : decode cX2_readGod 55 = .ok (.getfield 12, 3) := by decide +kernel
theorem dX2_readGod_58 : decode cX2_readGod 58 = .ok (.getfield 87, 3) := by decide +kernel
theorem dX2_readGod_61 : decode cX2_readGod 61 = .ok (.iload_n 1, 1) := by decide +kernel
theorem dX2_readGod_62 : decode cX2_readGod 62 = .ok (.aload_n 0, 1) := by decide +kernel
theorem dX2_readGod_63 : decode cX2_readGod 63 = .ok (.iconst 0, 1) := by decide +kernel
theorem dX2_readGod_64 : decode cX2_readGod 64 = .ok (.bipush 9, 2) := by decide +kernel
theorem dX2_readGod_66 : decode cX2_readGod 66 = .ok (.invokevirtual 68, 3) := by decide +kernel
theorem dX2_readGod_69 : decode cX2_readGod 69 = .ok (.iastore, 1) := by decide +kernel
theorem dX2_readGod_70 : decode cX2_readGod 70 = .ok (.aload_n 0, 1) := by decide +kernel
theorem dX2_readGod_71 : decode cX2_readGod 71 = .ok (.getfield 12, 3) := by decide +kernel
theorem dX2_readGod_74 : decode cX2_readGod 74 = .ok (.getfield 90, 3) := by decide +kernel
theorem dX2_readGod_77 : decode cX2_readGod 77 = .ok (.iload_n 1, 1) := by decide +kernel
theorem dX2_readGod_78 : decode cX2_readGod 78 = .ok (.aload_n 0, 1) := by decide +kernel
theorem dX2_readGod_79 : decode cX2_readGod 79 = .ok (.iconst 0, 1) := by decide +kernel
theorem dX2_readGod_80 : decode cX2_readGod 80 = .ok (.bipush 9, 2) := by decide +kernel
theorem dX2_readGod_82 : decode cX2_readGod 82 = .ok (.invokevirtual 68, 3) := by decide +kernel
theorem dX2_readGod_85 : decode cX2_readGod 85 = .ok (.iastore, 1) := by decide +kernel
theorem dX2_readGod_86 : decode cX2_readGod 86 = .ok (.aload_n 0, 1) := by decide +kernel
theorem dX2_readGod_87 : decode cX2_readGod 87 = .ok (.getfield 12, 3) := by decide +kernel
theorem dX2_readGod_90 : decode cX2_readGod 90 = .ok (.getfield 93, 3) := by decide +kernel
theorem dX2_readGod_93 : decode cX2_readGod 93 = .ok (.iload_n 1, 1) := by decide +kernel
theorem dX2_readGod_94 : decode cX2_readGod 94 = .ok (.aload_n 0, 1) := by decide +kernel
theorem dX2_readGod_95 : decode cX2_readGod 95 = .ok (.iload_n 1, 1) := by decide +kernel
theorem dX2_readGod_96 : decode cX2_readGod 96 = .ok (.aload_n 0, 1) := by decide +kernel
theorem dX2_readGod_97 : decode cX2_readGod 97 = .ok (.getfield 12, 3) := by decide +kernel
theorem dX2_readGod_100 : decode cX2_readGod 100 = .ok (.getfield 75, 3) := by decide +kernel
theorem dX2_readGod_103 : decode cX2_readGod 103 = .ok (.iload_n 1, 1) := by decide +kernel
theorem dX2_readGod_104 : decode cX2_readGod 104 = .ok (.iaload, 1) := by decide +kernel
theorem dX2_readGod_105 : decode cX2_readGod 105 = .ok (.iconst 1, 1) := by decide +kernel
theorem dX2_readGod_106 : decode cX2_readGod 106 = .ok (.if_icmp .ne 7, 3) := by decide +kernel
theorem dX2_readGod_109 : decode cX2_readGod 109 = .ok (.iconst 1, 1) := by decide +kernel
theorem dX2_readGod_110 : decode cX2_readGod 110 = .ok (.goto 4, 3) := by decide +kernel
theorem dX2_readGod_113 : decode cX2_readGod 113 = .ok (.iconst 0, 1) := by decide +kernel
theorem dX2_readGod_114 : decode cX2_readGod 114 = .ok (.invokevirtual 96, 3) := by decide +kernel
theorem dX2_readGod_117 : decode cX2_readGod 117 = .ok (.iastore, 1) := by decide +kernel
theorem dX2_readGod_118 : decode cX2_readGod 118 = .ok (.aload_n 0, 1) := by decide +kernel
theorem dX2_readGod_119 : decode cX2_readGod 119 = .ok (.getfield 12, 3) := by decide +kernel
theorem dX2_readGod_122 : decode cX2_readGod 122 = .ok (.iload_n 1, 1) := by decide +kernel
theorem dX2_readGod_123 : decode cX2_readGod 123 = .ok (.iconst 1, 1) := by decide +kernel
theorem dX2_readGod_124 : decode cX2_readGod 124 = .ok (.iadd, 1) := by decide +kernel
theorem dX2_readGod_125 : decode cX2_readGod 125 = .ok (.putfield 49, 3) := by decide +kernel
theorem dX2_readGod_128 : decode cX2_readGod 128 = .ok (.return_, 1) := by decide +kernel
theorem dX2_sign_0 : decode cX2_sign 0 = .ok (.aload_n 0, 1) := by decide +kernel
theorem dX2_sign_1 : decode cX2_sign 1 = .ok (.getfield 29, 3) := by decide +kernel
theorem dX2_sign_4 : decode cX2_sign 4 = .ok (.ifCond .lt 26, 3) := by decide +kernel
theorem dX2_sign_7 : decode cX2_sign 7 = .ok (.aload_n 0, 1) := by decide +kernel
theorem dX2_sign_8 : decode cX2_sign 8 = .ok (.getfield 29, 3) := by decide +kernel
theorem dX2_sign_11 : decode cX2_sign 11 = .ok (.aload_n 0, 1) := by decide +kernel
theorem dX2_sign_12 : decode cX2_sign 12 = .ok (.getfield 25, 3) := by decide +kernel
theorem dX2_sign_15 : decode cX2_sign 15 = .ok (.if_icmp .ge 15, 3) := by decide +kernel
theorem dX2_sign_18 : decode cX2_sign 18 = .ok (.aload_n 0, 1) := by decide +kernel
theorem dX2_sign_19 : decode cX2_sign 19 = .ok (.getfield 22, 3) := by decide +kernel
theorem dX2_sign_22 : decode cX2_sign 22 = .ok (.aload_n 0, 1) := by decide +kernel
theorem dX2_sign_23 : decode cX2_sign 23 = .ok (.getfield 29, 3) := by decide +kernel
theorem dX2_sign_26 : decode cX2_sign 26 = .ok (.iaload, 1) := by decide +kernel
theorem dX2_sign_27 : decode cX2_sign 27 = .ok (.goto 6, 3) := by decide +kernel
theorem dX2_sign_30 : decode cX2_sign 30 = .ok (.sipush (-1000), 3) := by decide +kernel
theorem dX2_sign_33 : decode cX2_sign 33 = .ok (.ireturn, 1) := by decide +kernel
theorem dX2_skipBlanks_0 : decode cX2_skipBlanks 0 = .ok (.aload_n 0, 1) := by decide +kernel
theorem dX2_skipBlanks_1 : decode cX2_skipBlanks 1 = .ok (.getfield 32, 3) := by decide +kernel
theorem dX2_skipBlanks_4 : decode cX2_skipBlanks 4 = .ok (.bipush (-9), 2) := by decide +kernel
theorem dX2_skipBlanks_6 : decode cX2_skipBlanks 6 = .ok (.if_icmp .ne 36, 3) := by decide +kernel
theorem dX2_skipBlanks_9 : decode cX2_skipBlanks 9 = .ok (.aload_n 0, 1) := by decide +kernel
theorem dX2_skipBlanks_10 : decode cX2_skipBlanks 10 = .ok (.getfield 29, 3) := by decide +kernel
theorem dX2_skipBlanks_13 : decode cX2_skipBlanks 13 = .ok (.aload_n 0, 1) := by decide +kernel
theorem dX2_skipBlanks_14 : decode cX2_skipBlanks 14 = .ok (.getfield 25, 3) := by decide +kernel
theorem dX2_skipBlanks_17 : decode cX2_skipBlanks 17 = .ok (.if_icmp .ge 25, 3) := by decide +kernel
theorem dX2_skipBlanks_20 : decode cX2_skipBlanks 20 = .ok (.aload_n 0, 1) := by decide +kernel
theorem dX2_skipBlanks_21 : decode cX2_skipBlanks 21 = .ok (.invokevirtual 64, 3) := by decide +kernel
theorem dX2_skipBlanks_24 : decode cX2_skipBlanks 24 = .ok (.bipush 32, 2) := by decide +kernel
theorem dX2_skipBlanks_26 : decode cX2_skipBlanks 26 = .ok (.if_icmp .ne 16, 3) := by decide +kernel
theorem dX2_skipBlanks_29 : decode cX2_skipBlanks 29 = .ok (.aload_n 0, 1) := by decide +kernel
theorem dX2_skipBlanks_30 : decode cX2_skipBlanks 30 = .ok (.dup, 1) := by decide +kernel
theorem dX2_skipBlanks_31 : decode cX2_skipBlanks 31 = .ok (.getfield 29, 3) := by decide +kernel
theorem dX2_skipBlanks_34 : decode cX2_skipBlanks 34 = .ok (.iconst 1, 1) := by decide +kernel
theorem dX2_skipBlanks_35 : decode cX2_skipBlanks 35 = .ok (.iadd, 1) := by decide +kernel
theorem dX2_skipBlanks_36 : decode cX2_skipBlanks 36 = .ok (.putfield 29, 3) := by decide +kernel
theorem dX2_skipBlanks_39 : decode cX2_skipBlanks 39 = .ok (.goto (-39), 3) := by decide +kernel
theorem dX2_skipBlanks_42 : decode cX2_skipBlanks 42 = .ok (.return_, 1) := by decide +kernel
theorem dX2_kind_0 : decode cX2_kind 0 = .ok (.iconst 0, 1) := by decide +kernel
theorem dX2_kind_1 : decode cX2_kind 1 = .ok (.istore_n 1, 1) := by decide +kernel
theorem dX2_kind_2 : decode cX2_kind 2 = .ok (.iload_n 1, 1) := by decide +kernel
theorem dX2_kind_3 : decode cX2_kind 3 = .ok (.getstatic 100, 3) := by decide +kernel
theorem dX2_kind_6 : decode cX2_kind 6 = .ok (.arraylength, 1) := by decide +kernel
theorem dX2_kind_7 : decode cX2_kind 7 = .ok (.if_icmp .ge 33, 3) := by decide +kernel
theorem dX2_kind_10 : decode cX2_kind 10 = .ok (.aload_n 0, 1) := by decide +kernel
theorem dX2_kind_11 : decode cX2_kind 11 = .ok (.invokevirtual 64, 3) := by decide +kernel
theorem dX2_kind_14 : decode cX2_kind 14 = .ok (.getstatic 100, 3) := by decide +kernel
theorem dX2_kind_17 : decode cX2_kind 17 = .ok (.iload_n 1, 1) := by decide +kernel
theorem dX2_kind_18 : decode cX2_kind 18 = .ok (.iaload, 1) := by decide +kernel
theorem dX2_kind_19 : decode cX2_kind 19 = .ok (.if_icmp .ne 15, 3) := by decide +kernel
theorem dX2_kind_22 : decode cX2_kind 22 = .ok (.aload_n 0, 1) := by decide +kernel
theorem dX2_kind_23 : decode cX2_kind 23 = .ok (.dup, 1) := by decide +kernel
theorem dX2_kind_24 : decode cX2_kind 24 = .ok (.getfield 29, 3) := by decide +kernel
theorem dX2_kind_27 : decode cX2_kind 27 = .ok (.iconst 1, 1) := by decide +kernel
theorem dX2_kind_28 : decode cX2_kind 28 = .ok (.iadd, 1) := by decide +kernel
theorem dX2_kind_29 : decode cX2_kind 29 = .ok (.putfield 29, 3) := by decide +kernel
theorem dX2_kind_32 : decode cX2_kind 32 = .ok (.iload_n 1, 1) := by decide +kernel
theorem dX2_kind_33 : decode cX2_kind 33 = .ok (.ireturn, 1) := by decide +kernel
theorem dX2_kind_34 : decode cX2_kind 34 = .ok (.iinc 1 1, 3) := by decide +kernel
theorem dX2_kind_37 : decode cX2_kind 37 = .ok (.goto (-35), 3) := by decide +kernel
theorem dX2_kind_40 : decode cX2_kind 40 = .ok (.aload_n 0, 1) := by decide +kernel
theorem dX2_kind_41 : decode cX2_kind 41 = .ok (.aload_n 0, 1) := by decide +kernel
theorem dX2_kind_42 : decode cX2_kind 42 = .ok (.getfield 29, 3) := by decide +kernel
theorem dX2_kind_45 : decode cX2_kind 45 = .ok (.putfield 32, 3) := by decide +kernel
theorem dX2_kind_48 : decode cX2_kind 48 = .ok (.iconst 0, 1) := by decide +kernel
theorem dX2_kind_49 : decode cX2_kind 49 = .ok (.ireturn, 1) := by decide +kernel
theorem dX2_figure_0 : decode cX2_figure 0 = .ok (.aload_n 0, 1) := by decide +kernel
theorem dX2_figure_1 : decode cX2_figure 1 = .ok (.getfield 32, 3) := by decide +kernel
theorem dX2_figure_4 : decode cX2_figure 4 = .ok (.bipush (-9), 2) := by decide +kernel
theorem dX2_figure_6 : decode cX2_figure 6 = .ok (.if_icmp .eq 5, 3) := by decide +kernel
theorem dX2_figure_9 : decode cX2_figure 9 = .ok (.iload_n 1, 1) := by decide +kernel
theorem dX2_figure_10 : decode cX2_figure 10 = .ok (.ireturn, 1) := by decide +kernel
theorem dX2_figure_11 : decode cX2_figure 11 = .ok (.aload_n 0, 1) := by decide +kernel
theorem dX2_figure_12 : decode cX2_figure 12 = .ok (.invokevirtual 64, 3) := by decide +kernel
theorem dX2_figure_15 : decode cX2_figure 15 = .ok (.bipush 48, 2) := by decide +kernel
theorem dX2_figure_17 : decode cX2_figure 17 = .ok (.isub, 1) := by decide +kernel
theorem dX2_figure_18 : decode cX2_figure 18 = .ok (.istore_n 3, 1) := by decide +kernel
theorem dX2_figure_19 : decode cX2_figure 19 = .ok (.iload_n 3, 1) := by decide +kernel
theorem dX2_figure_20 : decode cX2_figure 20 = .ok (.iload_n 1, 1) := by decide +kernel
theorem dX2_figure_21 : decode cX2_figure 21 = .ok (.if_icmp .lt 8, 3) := by decide +kernel
theorem dX2_figure_24 : decode cX2_figure 24 = .ok (.iload_n 3, 1) := by decide +kernel
theorem dX2_figure_25 : decode cX2_figure 25 = .ok (.iload_n 2, 1) := by decide +kernel
theorem dX2_figure_26 : decode cX2_figure 26 = .ok (.if_icmp .le 13, 3) := by decide +kernel
theorem dX2_figure_29 : decode cX2_figure 29 = .ok (.aload_n 0, 1) := by decide +kernel
theorem dX2_figure_30 : decode cX2_figure 30 = .ok (.aload_n 0, 1) := by decide +kernel
theorem dX2_figure_31 : decode cX2_figure 31 = .ok (.getfield 29, 3) := by decide +kernel
theorem dX2_figure_34 : decode cX2_figure 34 = .ok (.putfield 32, 3) := by decide +kernel
theorem dX2_figure_37 : decode cX2_figure 37 = .ok (.iload_n 1, 1) := by decide +kernel
theorem dX2_figure_38 : decode cX2_figure 38 = .ok (.ireturn, 1) := by decide +kernel
theorem dX2_figure_39 : decode cX2_figure 39 = .ok (.aload_n 0, 1) := by decide +kernel
theorem dX2_figure_40 : decode cX2_figure 40 = .ok (.dup, 1) := by decide +kernel
theorem dX2_figure_41 : decode cX2_figure 41 = .ok (.getfield 29, 3) := by decide +kernel
theorem dX2_figure_44 : decode cX2_figure 44 = .ok (.iconst 1, 1) := by decide +kernel
theorem dX2_figure_45 : decode cX2_figure 45 = .ok (.iadd, 1) := by decide +kernel
theorem dX2_figure_46 : decode cX2_figure 46 = .ok (.putfield 29, 3) := by decide +kernel
theorem dX2_figure_49 : decode cX2_figure 49 = .ok (.iload_n 3, 1) := by decide +kernel
theorem dX2_figure_50 : decode cX2_figure 50 = .ok (.ireturn, 1) := by decide +kernel
theorem dX2_neighbour_0 : decode cX2_neighbour 0 = .ok (.aload_n 0, 1) := by decide +kernel
theorem dX2_neighbour_1 : decode cX2_neighbour 1 = .ok (.getfield 32, 3) := by decide +kernel
theorem dX2_neighbour_4 : decode cX2_neighbour 4 = .ok (.bipush (-9), 2) := by decide +kernel
theorem dX2_neighbour_6 : decode cX2_neighbour 6 = .ok (.if_icmp .eq 6, 3) := by decide +kernel
theorem dX2_neighbour_9 : decode cX2_neighbour 9 = .ok (.bipush (-9), 2) := by decide +kernel
theorem dX2_neighbour_11 : decode cX2_neighbour 11 = .ok (.ireturn, 1) := by decide +kernel
theorem dX2_neighbour_12 : decode cX2_neighbour 12 = .ok (.aload_n 0, 1) := by decide +kernel
theorem dX2_neighbour_13 : decode cX2_neighbour 13 = .ok (.invokevirtual 64, 3) := by decide +kernel
theorem dX2_neighbour_16 : decode cX2_neighbour 16 = .ok (.bipush 65, 2) := by decide +kernel
theorem dX2_neighbour_18 : decode cX2_neighbour 18 = .ok (.isub, 1) := by decide +kernel
theorem dX2_neighbour_19 : decode cX2_neighbour 19 = .ok (.istore_n 3, 1) := by decide +kernel
theorem dX2_neighbour_20 : decode cX2_neighbour 20 = .ok (.iload_n 3, 1) := by decide +kernel
theorem dX2_neighbour_21 : decode cX2_neighbour 21 = .ok (.ifCond .lt 12, 3) := by decide +kernel
theorem dX2_neighbour_24 : decode cX2_neighbour 24 = .ok (.iload_n 3, 1) := by decide +kernel
theorem dX2_neighbour_25 : decode cX2_neighbour 25 = .ok (.iload_n 1, 1) := by decide +kernel
theorem dX2_neighbour_26 : decode cX2_neighbour 26 = .ok (.if_icmp .ge 7, 3) := by decide +kernel
theorem dX2_neighbour_29 : decode cX2_neighbour 29 = .ok (.iconst 1, 1) := by decide +kernel
theorem dX2_neighbour_30 : decode cX2_neighbour 30 = .ok (.goto 4, 3) := by decide +kernel
theorem dX2_neighbour_33 : decode cX2_neighbour 33 = .ok (.iconst 0, 1) := by decide +kernel
theorem dX2_neighbour_34 : decode cX2_neighbour 34 = .ok (.istore 4, 2) := by decide +kernel
theorem dX2_neighbour_36 : decode cX2_neighbour 36 = .ok (.iload 4, 2) := by decide +kernel
theorem dX2_neighbour_38 : decode cX2_neighbour 38 = .ok (.ifCond .ne 27, 3) := by decide +kernel
theorem dX2_neighbour_41 : decode cX2_neighbour 41 = .ok (.iload_n 2, 1) := by decide +kernel
theorem dX2_neighbour_42 : decode cX2_neighbour 42 = .ok (.ifCond .ne 12, 3) := by decide +kernel
theorem dX2_neighbour_45 : decode cX2_neighbour 45 = .ok (.aload_n 0, 1) := by decide +kernel
theorem dX2_neighbour_46 : decode cX2_neighbour 46 = .ok (.invokevirtual 64, 3) := by decide +kernel
theorem dX2_neighbour_49 : decode cX2_neighbour 49 = .ok (.bipush 45, 2) := by decide +kernel
theorem dX2_neighbour_51 : decode cX2_neighbour 51 = .ok (.if_icmp .eq 14, 3) := by decide +kernel
theorem dX2_neighbour_54 : decode cX2_neighbour 54 = .ok (.aload_n 0, 1) := by decide +kernel
theorem dX2_neighbour_55 : decode cX2_neighbour 55 = .ok (.aload_n 0, 1) := by decide +kernel
theorem dX2_neighbour_56 : decode cX2_neighbour 56 = .ok (.getfield 29, 3) := by decide +kernel
theorem dX2_neighbour_59 : decode cX2_neighbour 59 = .ok (.putfield 32, 3) := by decide +kernel
theorem dX2_neighbour_62 : decode cX2_neighbour 62 = .ok (.bipush (-9), 2) := by decide +kernel
theorem dX2_neighbour_64 : decode cX2_neighbour 64 = .ok (.ireturn, 1) := by decide +kernel
theorem dX2_neighbour_65 : decode cX2_neighbour 65 = .ok (.aload_n 0, 1) := by decide +kernel
theorem dX2_neighbour_66 : decode cX2_neighbour 66 = .ok (.dup, 1) := by decide +kernel
theorem dX2_neighbour_67 : decode cX2_neighbour 67 = .ok (.getfield 29, 3) := by decide +kernel
theorem dX2_neighbour_70 : decode cX2_neighbour 70 = .ok (.iconst 1, 1) := by decide +kernel
theorem dX2_neighbour_71 : decode cX2_neighbour 71 = .ok (.iadd, 1) := by decide +kernel
theorem dX2_neighbour_72 : decode cX2_neighbour 72 = .ok (.putfield 29, 3) := by decide +kernel
theorem dX2_neighbour_75 : decode cX2_neighbour 75 = .ok (.iload 4, 2) := by decide +kernel
theorem dX2_neighbour_77 : decode cX2_neighbour 77 = .ok (.ifCond .eq 7, 3) := by decide +kernel
theorem dX2_neighbour_80 : decode cX2_neighbour 80 = .ok (.iload_n 3, 1) := by decide +kernel
theorem dX2_neighbour_81 : decode cX2_neighbour 81 = .ok (.goto 5, 3) := by decide +kernel
theorem dX2_neighbour_84 : decode cX2_neighbour 84 = .ok (.bipush (-9), 2) := by decide +kernel
theorem dX2_neighbour_86 : decode cX2_neighbour 86 = .ok (.ireturn, 1) := by decide +kernel
theorem dX3_init_0 : decode cX3_init 0 = .ok (.aload_n 0, 1) := by decide +kernel
theorem dX3_init_1 : decode cX3_init 1 = .ok (.invokespecial 3, 3) := by decide +kernel
theorem dX3_init_4 : decode cX3_init 4 = .ok (.aload_n 0, 1) := by decide +kernel
theorem dX3_init_5 : decode cX3_init 5 = .ok (.iconst 0, 1) := by decide +kernel
theorem dX3_init_6 : decode cX3_init 6 = .ok (.putfield 9, 3) := by decide +kernel
theorem dX3_init_9 : decode cX3_init 9 = .ok (.aload_n 0, 1) := by decide +kernel
theorem dX3_init_10 : decode cX3_init 10 = .ok (.iconst 0, 1) := by decide +kernel
theorem dX3_init_11 : decode cX3_init 11 = .ok (.putfield 15, 3) := by decide +kernel
theorem dX3_init_14 : decode cX3_init 14 = .ok (.aload_n 0, 1) := by decide +kernel
theorem dX3_init_15 : decode cX3_init 15 = .ok (.iconst 0, 1) := by decide +kernel
theorem dX3_init_16 : decode cX3_init 16 = .ok (.putfield 18, 3) := by decide +kernel
theorem dX3_init_19 : decode cX3_init 19 = .ok (.aload_n 0, 1) := by decide +kernel
theorem dX3_init_20 : decode cX3_init 20 = .ok (.iconst 0, 1) := by decide +kernel
theorem dX3_init_21 : decode cX3_init 21 = .ok (.putfield 21, 3) := by decide +kernel
theorem dX3_init_24 : decode cX3_init 24 = .ok (.aload_n 0, 1) := by decide +kernel
theorem dX3_init_25 : decode cX3_init 25 = .ok (.iconst 0, 1) := by decide +kernel
theorem dX3_init_26 : decode cX3_init 26 = .ok (.putfield 24, 3) := by decide +kernel
theorem dX3_init_29 : decode cX3_init 29 = .ok (.aload_n 0, 1) := by decide +kernel
theorem dX3_init_30 : decode cX3_init 30 = .ok (.iconst 0, 1) := by decide +kernel
theorem dX3_init_31 : decode cX3_init 31 = .ok (.putfield 27, 3) := by decide +kernel
theorem dX3_init_34 : decode cX3_init 34 = .ok (.aload_n 0, 1) := by decide +kernel
theorem dX3_init_35 : decode cX3_init 35 = .ok (.iconst 3, 1) := by decide +kernel
theorem dX3_init_36 : decode cX3_init 36 = .ok (.newarray .int, 2) := by decide +kernel
theorem dX3_init_38 : decode cX3_init 38 = .ok (.putfield 30, 3) := by decide +kernel
theorem dX3_init_41 : decode cX3_init 41 = .ok (.aload_n 0, 1) := by decide +kernel
theorem dX3_init_42 : decode cX3_init 42 = .ok (.iconst 4, 1) := by decide +kernel
theorem dX3_init_43 : decode cX3_init 43 = .ok (.newarray .int, 2) := by decide +kernel
theorem dX3_init_45 : decode cX3_init 45 = .ok (.putfield 34, 3) := by decide +kernel
theorem dX3_init_48 : decode cX3_init 48 = .ok (.aload_n 0, 1) := by decide +kernel
theorem dX3_init_49 : decode cX3_init 49 = .ok (.iconst 0, 1) := by decide +kernel
theorem dX3_init_50 : decode cX3_init 50 = .ok (.putfield 37, 3) := by decide +kernel
theorem dX3_init_53 : decode cX3_init 53 = .ok (.aload_n 0, 1) := by decide +kernel
theorem dX3_init_54 : decode cX3_init 54 = .ok (.iconst 4, 1) := by decide +kernel
theorem dX3_init_55 : decode cX3_init 55 = .ok (.newarray .int, 2) := by decide +kernel
theorem dX3_init_57 : decode cX3_init 57 = .ok (.putfield 40, 3) := by decide +kernel
theorem dX3_init_60 : decode cX3_init 60 = .ok (.return_, 1) := by decide +kernel
theorem dX3_begin_0 : decode cX3_begin 0 = .ok (.aload_n 0, 1) := by decide +kernel
theorem dX3_begin_1 : decode cX3_begin 1 = .ok (.iconst 0, 1) := by decide +kernel
theorem dX3_begin_2 : decode cX3_begin 2 = .ok (.putfield 9, 3) := by decide +kernel
theorem dX3_begin_5 : decode cX3_begin 5 = .ok (.aload_n 0, 1) := by decide +kernel
theorem dX3_begin_6 : decode cX3_begin 6 = .ok (.iconst 0, 1) := by decide +kernel
theorem dX3_begin_7 : decode cX3_begin 7 = .ok (.putfield 15, 3) := by decide +kernel
theorem dX3_begin_10 : decode cX3_begin 10 = .ok (.aload_n 0, 1) := by decide +kernel
theorem dX3_begin_11 : decode cX3_begin 11 = .ok (.iconst 0, 1) := by decide +kernel
theorem dX3_begin_12 : decode cX3_begin 12 = .ok (.putfield 18, 3) := by decide +kernel
theorem dX3_begin_15 : decode cX3_begin 15 = .ok (.aload_n 0, 1) := by decide +kernel
theorem dX3_begin_16 : decode cX3_begin 16 = .ok (.iconst 0, 1) := by decide +kernel
theorem dX3_begin_17 : decode cX3_begin 17 = .ok (.putfield 37, 3) := by decide +kernel
theorem dX3_begin_20 : decode cX3_begin 20 = .ok (.aload_n 0, 1) := by decide +kernel
theorem dX3_begin_21 : decode cX3_begin 21 = .ok (.invokevirtual 43, 3) := by decide +kernel
theorem dX3_begin_24 : decode cX3_begin 24 = .ok (.aload_n 0, 1) := by decide +kernel
theorem dX3_begin_25 : decode cX3_begin 25 = .ok (.getfield 34, 3) := by decide +kernel
theorem dX3_begin_28 : decode cX3_begin 28 = .ok (.iconst 0, 1) := by decide +kernel
theorem dX3_begin_29 : decode cX3_begin 29 = .ok (.invokestatic 46, 3) := by decide +kernel
theorem dX3_begin_32 : decode cX3_begin 32 = .ok (.aload_n 0, 1) := by decide +kernel
theorem dX3_begin_33 : decode cX3_begin 33 = .ok (.getfield 40, 3) := by decide +kernel
theorem dX3_begin_36 : decode cX3_begin 36 = .ok (.iconst 0, 1) := by decide +kernel
theorem dX3_begin_37 : decode cX3_begin 37 = .ok (.invokestatic 46, 3) := by decide +kernel
theorem dX3_begin_40 : decode cX3_begin 40 = .ok (.iconst 0, 1) := by decide +kernel
theorem dX3_begin_41 : decode cX3_begin 41 = .ok (.istore_n 2, 1) := by decide +kernel
theorem dX3_begin_42 : decode cX3_begin 42 = .ok (.iload_n 2, 1) := by decide +kernel
theorem dX3_begin_43 : decode cX3_begin 43 = .ok (.iconst 3, 1) := by decide +kernel
theorem dX3_begin_44 : decode cX3_begin 44 = .ok (.if_icmp .ge 24, 3) := by decide +kernel
theorem dX3_begin_47 : decode cX3_begin 47 = .ok (.iload_n 2, 1) := by decide +kernel
theorem dX3_begin_48 : decode cX3_begin 48 = .ok (.aload_n 1, 1) := by decide +kernel
theorem dX3_begin_49 : decode cX3_begin 49 = .ok (.arraylength, 1) := by decide +kernel
theorem dX3_begin_50 : decode cX3_begin 50 = .ok (.if_icmp .ge 18, 3) := by decide +kernel
theorem dX3_begin_53 : decode cX3_begin 53 = .ok (.aload_n 0, 1) := by decide +kernel
theorem dX3_begin_54 : decode cX3_begin 54 = .ok (.getfield 30, 3) := by decide +kernel
theorem dX3_begin_57 : decode cX3_begin 57 = .ok (.iload_n 2, 1) := by decide +kernel
theorem dX3_begin_58 : decode cX3_begin 58 = .ok (.aload_n 1, 1) := by decide +kernel
theorem dX3_begin_59 : decode cX3_begin 59 = .ok (.iload_n 2, 1) := by decide +kernel
theorem dX3_begin_60 : decode cX3_begin 60 = .ok (.iaload, 1) := by decide +kernel
theorem dX3_begin_61 : decode cX3_begin 61 = .ok (.iastore, 1) := by decide +kernel
theorem dX3_begin_62 : decode cX3_begin 62 = .ok (.iinc 2 1, 3) := by decide +kernel
theorem dX3_begin_65 : decode cX3_begin 65 = .ok (.goto (-23), 3) := by decide +kernel
theorem dX3_begin_68 : decode cX3_begin 68 = .ok (.return_, 1) := by decide +kernel
theorem dX3_forgetSums_0 : decode cX3_forgetSums 0 = .ok (.aload_n 0, 1) := by decide +kernel
theorem dX3_forgetSums_1 : decode cX3_forgetSums 1 = .ok (.iconst 0, 1) := by decide +kernel
theorem dX3_forgetSums_2 : decode cX3_forgetSums 2 = .ok (.putfield 21, 3) := by decide +kernel
theorem dX3_forgetSums_5 : decode cX3_forgetSums 5 = .ok (.aload_n 0, 1) := by decide +kernel
theorem dX3_forgetSums_6 : decode cX3_forgetSums 6 = .ok (.iconst 0, 1) := by decide +kernel
theorem dX3_forgetSums_7 : decode cX3_forgetSums 7 = .ok (.putfield 24, 3) := by decide +kernel
theorem dX3_forgetSums_10 : decode cX3_forgetSums 10 = .ok (.aload_n 0, 1) := by decide +kernel
theorem dX3_forgetSums_11 : decode cX3_forgetSums 11 = .ok (.iconst 0, 1) := by decide +kernel
theorem dX3_forgetSums_12 : decode cX3_forgetSums 12 = .ok (.putfield 27, 3) := by decide +kernel
theorem dX3_forgetSums_15 : decode cX3_forgetSums 15 = .ok (.return_, 1) := by decide +kernel
theorem dX3_take_0 : decode cX3_take 0 = .ok (.aload_n 0, 1) := by decide +kernel
theorem dX3_take_1 : decode cX3_take 1 = .ok (.aload_n 1, 1) := by decide +kernel
theorem dX3_take_2 : decode cX3_take 2 = .ok (.getfield 9, 3) := by decide +kernel
theorem dX3_take_5 : decode cX3_take 5 = .ok (.putfield 9, 3) := by decide +kernel
theorem dX3_take_8 : decode cX3_take 8 = .ok (.aload_n 0, 1) := by decide +kernel
theorem dX3_take_9 : decode cX3_take 9 = .ok (.aload_n 1, 1) := by decide +kernel
theorem dX3_take_10 : decode cX3_take 10 = .ok (.getfield 15, 3) := by decide +kernel
theorem dX3_take_13 : decode cX3_take 13 = .ok (.putfield 15, 3) := by decide +kernel
theorem dX3_take_16 : decode cX3_take 16 = .ok (.aload_n 0, 1) := by decide +kernel
theorem dX3_take_17 : decode cX3_take 17 = .ok (.aload_n 1, 1) := by decide +kernel
theorem dX3_take_18 : decode cX3_take 18 = .ok (.getfield 18, 3) := by decide +kernel
theorem dX3_take_21 : decode cX3_take 21 = .ok (.putfield 18, 3) := by decide +kernel
theorem dX3_take_24 : decode cX3_take 24 = .ok (.aload_n 0, 1) := by decide +kernel
theorem dX3_take_25 : decode cX3_take 25 = .ok (.aload_n 1, 1) := by decide +kernel
theorem dX3_take_26 : decode cX3_take 26 = .ok (.getfield 21, 3) := by decide +kernel
theorem dX3_take_29 : decode cX3_take 29 = .ok (.putfield 21, 3) := by decide +kernel
theorem dX3_take_32 : decode cX3_take 32 = .ok (.aload_n 0, 1) := by decide +kernel
theorem dX3_take_33 : decode cX3_take 33 = .ok (.aload_n 1, 1) := by decide +kernel
theorem dX3_take_34 : decode cX3_take 34 = .ok (.getfield 24, 3) := by decide +kernel
theorem dX3_take_37 : decode cX3_take 37 = .ok (.putfield 24, 3) := by decide +kernel
theorem dX3_take_40 : decode cX3_take 40 = .ok (.aload_n 0, 1) := by decide +kernel
theorem dX3_take_41 : decode cX3_take 41 = .ok (.aload_n 1, 1) := by decide +kernel
theorem dX3_take_42 : decode cX3_take 42 = .ok (.getfield 27, 3) := by decide +kernel
theorem dX3_take_45 : decode cX3_take 45 = .ok (.putfield 27, 3) := by decide +kernel
theorem dX3_take_48 : decode cX3_take 48 = .ok (.iconst 0, 1) := by decide +kernel
theorem dX3_take_49 : decode cX3_take 49 = .ok (.istore_n 2, 1) := by decide +kernel
theorem dX3_take_50 : decode cX3_take 50 = .ok (.iload_n 2, 1) := by decide +kernel
theorem dX3_take_51 : decode cX3_take 51 = .ok (.iconst 3, 1) := by decide +kernel
theorem dX3_take_52 : decode cX3_take 52 = .ok (.if_icmp .ge 21, 3) := by decide +kernel
theorem dX3_take_55 : decode cX3_take 55 = .ok (.aload_n 0, 1) := by decide +kernel
theorem dX3_take_56 : decode cX3_take 56 = .ok (.getfield 30, 3) := by decide +kernel
theorem dX3_take_59 : decode cX3_take 59 = .ok (.iload_n 2, 1) := by decide +kernel
theorem dX3_take_60 : decode cX3_take 60 = .ok (.aload_n 1, 1) := by decide +kernel
theorem dX3_take_61 : decode cX3_take 61 = .ok (.getfield 30, 3) := by decide +kernel
theorem dX3_take_64 : decode cX3_take 64 = .ok (.iload_n 2, 1) := by decide +kernel
theorem dX3_take_65 : decode cX3_take 65 = .ok (.iaload, 1) := by decide +kernel
theorem dX3_take_66 : decode cX3_take 66 = .ok (.iastore, 1) := by decide +kernel
theorem dX3_take_67 : decode cX3_take 67 = .ok (.iinc 2 1, 3) := by decide +kernel
theorem dX3_take_70 : decode cX3_take 70 = .ok (.goto (-20), 3) := by decide +kernel
theorem dX3_take_73 : decode cX3_take 73 = .ok (.iconst 0, 1) := by decide +kernel
theorem dX3_take_74 : decode cX3_take 74 = .ok (.istore_n 2, 1) := by decide +kernel
theorem dX3_take_75 : decode cX3_take 75 = .ok (.iload_n 2, 1) := by decide +kernel
theorem dX3_take_76 : decode cX3_take 76 = .ok (.iconst 4, 1) := by decide +kernel
theorem dX3_take_77 : decode cX3_take 77 = .ok (.if_icmp .ge 21, 3) := by decide +kernel
theorem dX3_take_80 : decode cX3_take 80 = .ok (.aload_n 0, 1) := by decide +kernel
theorem dX3_take_81 : decode cX3_take 81 = .ok (.getfield 34, 3) := by decide +kernel
theorem dX3_take_84 : decode cX3_take 84 = .ok (.iload_n 2, 1) := by decide +kernel
theorem dX3_take_85 : decode cX3_take 85 = .ok (.aload_n 1, 1) := by decide +kernel
theorem dX3_take_86 : decode cX3_take 86 = .ok (.getfield 34, 3) := by decide +kernel
theorem dX3_take_89 : decode cX3_take 89 = .ok (.iload_n 2, 1) := by decide +kernel
theorem dX3_take_90 : decode cX3_take 90 = .ok (.iaload, 1) := by decide +kernel
theorem dX3_take_91 : decode cX3_take 91 = .ok (.iastore, 1) := by decide +kernel
theorem dX3_take_92 : decode cX3_take 92 = .ok (.iinc 2 1, 3) := by decide +kernel
theorem dX3_take_95 : decode cX3_take 95 = .ok (.goto (-20), 3) := by decide +kernel
theorem dX3_take_98 : decode cX3_take 98 = .ok (.return_, 1) := by decide +kernel
theorem dX3_save_0 : decode cX3_save 0 = .ok (.iload_n 2, 1) := by decide +kernel
theorem dX3_save_1 : decode cX3_save 1 = .ok (.ifCond .lt 12, 3) := by decide +kernel
theorem dX3_save_4 : decode cX3_save 4 = .ok (.iload_n 2, 1) := by decide +kernel
theorem dX3_save_5 : decode cX3_save 5 = .ok (.aload_n 1, 1) := by decide +kernel
theorem dX3_save_6 : decode cX3_save 6 = .ok (.arraylength, 1) := by decide +kernel
theorem dX3_save_7 : decode cX3_save 7 = .ok (.bipush 11, 2) := by decide +kernel
theorem dX3_save_9 : decode cX3_save 9 = .ok (.isub, 1) := by decide +kernel
theorem dX3_save_10 : decode cX3_save 10 = .ok (.if_icmp .le 4, 3) := by decide +kernel
theorem dX3_save_13 : decode cX3_save 13 = .ok (.return_, 1) := by decide +kernel
theorem dX3_save_14 : decode cX3_save 14 = .ok (.aload_n 1, 1) := by decide +kernel
theorem dX3_save_15 : decode cX3_save 15 = .ok (.iload_n 2, 1) := by decide +kernel
theorem dX3_save_16 : decode cX3_save 16 = .ok (.aload_n 0, 1) := by decide +kernel
theorem dX3_save_17 : decode cX3_save 17 = .ok (.getfield 15, 3) := by decide +kernel
theorem dX3_save_20 : decode cX3_save 20 = .ok (.iastore, 1) := by decide +kernel
theorem dX3_save_21 : decode cX3_save 21 = .ok (.aload_n 1, 1) := by decide +kernel
theorem dX3_save_22 : decode cX3_save 22 = .ok (.iload_n 2, 1) := by decide +kernel
theorem dX3_save_23 : decode cX3_save 23 = .ok (.iconst 1, 1) := by decide +kernel
theorem dX3_save_24 : decode cX3_save 24 = .ok (.iadd, 1) := by decide +kernel
theorem dX3_save_25 : decode cX3_save 25 = .ok (.aload_n 0, 1) := by decide +kernel
theorem dX3_save_26 : decode cX3_save 26 = .ok (.getfield 18, 3) := by decide +kernel
theorem dX3_save_29 : decode cX3_save 29 = .ok (.iastore, 1) := by decide +kernel
theorem dX3_save_30 : decode cX3_save 30 = .ok (.aload_n 1, 1) := by decide +kernel
theorem dX3_save_31 : decode cX3_save 31 = .ok (.iload_n 2, 1) := by decide +kernel
theorem dX3_save_32 : decode cX3_save 32 = .ok (.iconst 2, 1) := by decide +kernel
theorem dX3_save_33 : decode cX3_save 33 = .ok (.iadd, 1) := by decide +kernel
theorem dX3_save_34 : decode cX3_save 34 = .ok (.aload_n 0, 1) := by decide +kernel
theorem dX3_save_35 : decode cX3_save 35 = .ok (.getfield 21, 3) := by decide +kernel
theorem dX3_save_38 : decode cX3_save 38 = .ok (.iastore, 1) := by decide +kernel
theorem dX3_save_39 : decode cX3_save 39 = .ok (.aload_n 1, 1) := by decide +kernel
theorem dX3_save_40 : decode cX3_save 40 = .ok (.iload_n 2, 1) := by decide +kernel
theorem dX3_save_41 : decode cX3_save 41 = .ok (.iconst 3, 1) := by decide +kernel
theorem dX3_save_42 : decode cX3_save 42 = .ok (.iadd, 1) := by decide +kernel
theorem dX3_save_43 : decode cX3_save 43 = .ok (.aload_n 0, 1) := by decide +kernel
theorem dX3_save_44 : decode cX3_save 44 = .ok (.getfield 24, 3) := by decide +kernel
theorem dX3_save_47 : decode cX3_save 47 = .ok (.iastore, 1) := by decide +kernel
theorem dX3_save_48 : decode cX3_save 48 = .ok (.aload_n 0, 1) := by decide +kernel
theorem dX3_save_49 : decode cX3_save 49 = .ok (.getfield 30, 3) := by decide +kernel
theorem dX3_save_52 : decode cX3_save 52 = .ok (.iconst 0, 1) := by decide +kernel
theorem dX3_save_53 : decode cX3_save 53 = .ok (.aload_n 1, 1) := by decide +kernel
theorem dX3_save_54 : decode cX3_save 54 = .ok (.iload_n 2, 1) := by decide +kernel
theorem dX3_save_55 : decode cX3_save 55 = .ok (.iconst 4, 1) := by decide +kernel
theorem dX3_save_56 : decode cX3_save 56 = .ok (.iadd, 1) := by decide +kernel
theorem dX3_save_57 : decode cX3_save 57 = .ok (.iconst 3, 1) := by decide +kernel
theorem dX3_save_58 : decode cX3_save 58 = .ok (.invokestatic 52, 3) := by decide +kernel
theorem dX3_save_61 : decode cX3_save 61 = .ok (.aload_n 0, 1) := by decide +kernel
theorem dX3_save_62 : decode cX3_save 62 = .ok (.getfield 34, 3) := by decide +kernel
theorem dX3_save_65 : decode cX3_save 65 = .ok (.iconst 0, 1) := by decide +kernel
theorem dX3_save_66 : decode cX3_save 66 = .ok (.aload_n 1, 1) := by decide +kernel
theorem dX3_save_67 : decode cX3_save 67 = .ok (.iload_n 2, 1) := by decide +kernel
theorem dX3_save_68 : decode cX3_save 68 = .ok (.iconst 4, 1) := by decide +kernel
theorem dX3_save_69 : decode cX3_save 69 = .ok (.iadd, 1) := by decide +kernel
theorem dX3_save_70 : decode cX3_save 70 = .ok (.iconst 3, 1) := by decide +kernel
theorem dX3_save_71 : decode cX3_save 71 = .ok (.iadd, 1) := by decide +kernel
theorem dX3_save_72 : decode cX3_save 72 = .ok (.iconst 4, 1) := by decide +kernel
theorem dX3_save_73 : decode cX3_save 73 = .ok (.invokestatic 52, 3) := by decide +kernel
theorem dX3_save_76 : decode cX3_save 76 = .ok (.return_, 1) := by decide +kernel
theorem dX3_load_0 : decode cX3_load 0 = .ok (.iload_n 2, 1) := by decide +kernel
theorem dX3_load_1 : decode cX3_load 1 = .ok (.ifCond .lt 12, 3) := by decide +kernel
theorem dX3_load_4 : decode cX3_load 4 = .ok (.iload_n 2, 1) := by decide +kernel
theorem dX3_load_5 : decode cX3_load 5 = .ok (.aload_n 1, 1) := by decide +kernel
theorem dX3_load_6 : decode cX3_load 6 = .ok (.arraylength, 1) := by decide +kernel
theorem dX3_load_7 : decode cX3_load 7 = .ok (.bipush 11, 2) := by decide +kernel
theorem dX3_load_9 : decode cX3_load 9 = .ok (.isub, 1) := by decide +kernel
theorem dX3_load_10 : decode cX3_load 10 = .ok (.if_icmp .le 4, 3) := by decide +kernel
theorem dX3_load_13 : decode cX3_load 13 = .ok (.return_, 1) := by decide +kernel
theorem dX3_load_14 : decode cX3_load 14 = .ok (.aload_n 0, 1) := by decide +kernel
theorem dX3_load_15 : decode cX3_load 15 = .ok (.aload_n 1, 1) := by decide +kernel
theorem dX3_load_16 : decode cX3_load 16 = .ok (.iload_n 2, 1) := by decide +kernel
theorem dX3_load_17 : decode cX3_load 17 = .ok (.iaload, 1) := by decide +kernel
theorem dX3_load_18 : decode cX3_load 18 = .ok (.putfield 15, 3) := by decide +kernel
theorem dX3_load_21 : decode cX3_load 21 = .ok (.aload_n 0, 1) := by decide +kernel
theorem dX3_load_22 : decode cX3_load 22 = .ok (.aload_n 1, 1) := by decide +kernel
theorem dX3_load_23 : decode cX3_load 23 = .ok (.iload_n 2, 1) := by decide +kernel
theorem dX3_load_24 : decode cX3_load 24 = .ok (.iconst 1, 1) := by decide +kernel
theorem dX3_load_25 : decode cX3_load 25 = .ok (.iadd, 1) := by decide +kernel
theorem dX3_load_26 : decode cX3_load 26 = .ok (.iaload, 1) := by decide +kernel
theorem dX3_load_27 : decode cX3_load 27 = .ok (.putfield 18, 3) := by decide +kernel
theorem dX3_load_30 : decode cX3_load 30 = .ok (.aload_n 0, 1) := by decide +kernel
theorem dX3_load_31 : decode cX3_load 31 = .ok (.aload_n 1, 1) := by decide +kernel
theorem dX3_load_32 : decode cX3_load 32 = .ok (.iload_n 2, 1) := by decide +kernel
theorem dX3_load_33 : decode cX3_load 33 = .ok (.iconst 2, 1) := by decide +kernel
theorem dX3_load_34 : decode cX3_load 34 = .ok (.iadd, 1) := by decide +kernel
theorem dX3_load_35 : decode cX3_load 35 = .ok (.iaload, 1) := by decide +kernel
theorem dX3_load_36 : decode cX3_load 36 = .ok (.putfield 21, 3) := by decide +kernel
theorem dX3_load_39 : decode cX3_load 39 = .ok (.aload_n 0, 1) := by decide +kernel
theorem dX3_load_40 : decode cX3_load 40 = .ok (.aload_n 1, 1) := by decide +kernel
theorem dX3_load_41 : decode cX3_load 41 = .ok (.iload_n 2, 1) := by decide +kernel
theorem dX3_load_42 : decode cX3_load 42 = .ok (.iconst 3, 1) := by decide +kernel
theorem dX3_load_43 : decode cX3_load 43 = .ok (.iadd, 1) := by decide +kernel
theorem dX3_load_44 : decode cX3_load 44 = .ok (.iaload, 1) := by decide +kernel
theorem dX3_load_45 : decode cX3_load 45 = .ok (.putfield 24, 3) := by decide +kernel
theorem dX3_load_48 : decode cX3_load 48 = .ok (.aload_n 1, 1) := by decide +kernel
theorem dX3_load_49 : decode cX3_load 49 = .ok (.iload_n 2, 1) := by decide +kernel
theorem dX3_load_50 : decode cX3_load 50 = .ok (.iconst 4, 1) := by decide +kernel
theorem dX3_load_51 : decode cX3_load 51 = .ok (.iadd, 1) := by decide +kernel
theorem dX3_load_52 : decode cX3_load 52 = .ok (.aload_n 0, 1) := by decide +kernel
theorem dX3_load_53 : decode cX3_load 53 = .ok (.getfield 30, 3) := by decide +kernel
theorem dX3_load_56 : decode cX3_load 56 = .ok (.iconst 0, 1) := by decide +kernel
theorem dX3_load_57 : decode cX3_load 57 = .ok (.iconst 3, 1) := by decide +kernel
theorem dX3_load_58 : decode cX3_load 58 = .ok (.invokestatic 52, 3) := by decide +kernel
theorem dX3_load_61 : decode cX3_load 61 = .ok (.aload_n 1, 1) := by decide +kernel
theorem dX3_load_62 : decode cX3_load 62 = .ok (.iload_n 2, 1) := by decide +kernel
theorem dX3_load_63 : decode cX3_load 63 = .ok (.iconst 4, 1) := by decide +kernel
theorem dX3_load_64 : decode cX3_load 64 = .ok (.iadd, 1) := by decide +kernel
theorem dX3_load_65 : decode cX3_load 65 = .ok (.iconst 3, 1) := by decide +kernel
theorem dX3_load_66 : decode cX3_load 66 = .ok (.iadd, 1) := by decide +kernel
theorem dX3_load_67 : decode cX3_load 67 = .ok (.aload_n 0, 1) := by decide +kernel
theorem dX3_load_68 : decode cX3_load 68 = .ok (.getfield 34, 3) := by decide +kernel
theorem dX3_load_71 : decode cX3_load 71 = .ok (.iconst 0, 1) := by decide +kernel
theorem dX3_load_72 : decode cX3_load 72 = .ok (.iconst 4, 1) := by decide +kernel
theorem dX3_load_73 : decode cX3_load 73 = .ok (.invokestatic 52, 3) := by decide +kernel
theorem dX3_load_76 : decode cX3_load 76 = .ok (.return_, 1) := by decide +kernel
theorem dX3_isGone_0 : decode cX3_isGone 0 = .ok (.aload_n 0, 1) := by decide +kernel
theorem dX3_isGone_1 : decode cX3_isGone 1 = .ok (.getfield 15, 3) := by decide +kernel
theorem dX3_isGone_4 : decode cX3_isGone 4 = .ok (.iload_n 1, 1) := by decide +kernel
theorem dX3_isGone_5 : decode cX3_isGone 5 = .ok (.ishr, 1) := by decide +kernel
theorem dX3_isGone_6 : decode cX3_isGone 6 = .ok (.iconst 1, 1) := by decide +kernel
theorem dX3_isGone_7 : decode cX3_isGone 7 = .ok (.iand, 1) := by decide +kernel
theorem dX3_isGone_8 : decode cX3_isGone 8 = .ok (.ifCond .eq 7, 3) := by decide +kernel
theorem dX3_isGone_11 : decode cX3_isGone 11 = .ok (.iconst 1, 1) := by decide +kernel
theorem dX3_isGone_12 : decode cX3_isGone 12 = .ok (.goto 4, 3) := by decide +kernel
theorem dX3_isGone_15 : decode cX3_isGone 15 = .ok (.iconst 0, 1) := by decide +kernel
theorem dX3_isGone_16 : decode cX3_isGone 16 = .ok (.ireturn, 1) := by decide +kernel
theorem dX3_wasEverFed_0 : decode cX3_wasEverFed 0 = .ok (.aload_n 0, 1) := by decide +kernel
theorem dX3_wasEverFed_1 : decode cX3_wasEverFed 1 = .ok (.getfield 18, 3) := by decide +kernel
theorem dX3_wasEverFed_4 : decode cX3_wasEverFed 4 = .ok (.iload_n 1, 1) := by decide +kernel
theorem dX3_wasEverFed_5 : decode cX3_wasEverFed 5 = .ok (.ishr, 1) := by decide +kernel
theorem dX3_wasEverFed_6 : decode cX3_wasEverFed 6 = .ok (.iconst 1, 1) := by decide +kernel
theorem dX3_wasEverFed_7 : decode cX3_wasEverFed 7 = .ok (.iand, 1) := by decide +kernel
theorem dX3_wasEverFed_8 : decode cX3_wasEverFed 8 = .ok (.ifCond .eq 7, 3) := by decide +kernel
theorem dX3_wasEverFed_11 : decode cX3_wasEverFed 11 = .ok (.iconst 1, 1) := by decide +kernel
theorem dX3_wasEverFed_12 : decode cX3_wasEverFed 12 = .ok (.goto 4, 3) := by decide +kernel
theorem dX3_wasEverFed_15 : decode cX3_wasEverFed 15 = .ok (.iconst 0, 1) := by decide +kernel
theorem dX3_wasEverFed_16 : decode cX3_wasEverFed 16 = .ok (.ireturn, 1) := by decide +kernel
theorem dX3_isOddDay_0 : decode cX3_isOddDay 0 = .ok (.aload_n 0, 1) := by decide +kernel
theorem dX3_isOddDay_1 : decode cX3_isOddDay 1 = .ok (.getfield 9, 3) := by decide +kernel
theorem dX3_isOddDay_4 : decode cX3_isOddDay 4 = .ok (.iconst 1, 1) := by decide +kernel
theorem dX3_isOddDay_5 : decode cX3_isOddDay 5 = .ok (.iand, 1) := by decide +kernel
theorem dX3_isOddDay_6 : decode cX3_isOddDay 6 = .ok (.ifCond .eq 7, 3) := by decide +kernel
theorem dX3_isOddDay_9 : decode cX3_isOddDay 9 = .ok (.iconst 1, 1) := by decide +kernel
theorem dX3_isOddDay_10 : decode cX3_isOddDay 10 = .ok (.goto 4, 3) := by decide +kernel
theorem dX3_isOddDay_13 : decode cX3_isOddDay 13 = .ok (.iconst 0, 1) := by decide +kernel
theorem dX3_isOddDay_14 : decode cX3_isOddDay 14 = .ok (.ireturn, 1) := by decide +kernel
theorem dX3_sendAway_0 : decode cX3_sendAway 0 = .ok (.aload_n 0, 1) := by decide +kernel
theorem dX3_sendAway_1 : decode cX3_sendAway 1 = .ok (.dup, 1) := by decide +kernel
theorem dX3_sendAway_2 : decode cX3_sendAway 2 = .ok (.getfield 15, 3) := by decide +kernel
theorem dX3_sendAway_5 : decode cX3_sendAway 5 = .ok (.iconst 1, 1) := by decide +kernel
theorem dX3_sendAway_6 : decode cX3_sendAway 6 = .ok (.iload_n 1, 1) := by decide +kernel
theorem dX3_sendAway_7 : decode cX3_sendAway 7 = .ok (.ishl, 1) := by decide +kernel
theorem dX3_sendAway_8 : decode cX3_sendAway 8 = .ok (.ior, 1) := by decide +kernel
theorem dX3_sendAway_9 : decode cX3_sendAway 9 = .ok (.putfield 15, 3) := by decide +kernel
theorem dX3_sendAway_12 : decode cX3_sendAway 12 = .ok (.return_, 1) := by decide +kernel
theorem dX3_worth_0 : decode cX3_worth 0 = .ok (.aload_n 0, 1) := by decide +kernel
theorem dX3_worth_1 : decode cX3_worth 1 = .ok (.getfield 21, 3) := by decide +kernel
theorem dX3_worth_4 : decode cX3_worth 4 = .ok (.aload_n 0, 1) := by decide +kernel
theorem dX3_worth_5 : decode cX3_worth 5 = .ok (.getfield 24, 3) := by decide +kernel
theorem dX3_worth_8 : decode cX3_worth 8 = .ok (.isub, 1) := by decide +kernel
theorem dX3_worth_9 : decode cX3_worth 9 = .ok (.ireturn, 1) := by decide +kernel
theorem dX3_sentBy_0 : decode cX3_sentBy 0 = .ok (.iconst 0, 1) := by decide +kernel
theorem dX3_sentBy_1 : decode cX3_sentBy 1 = .ok (.istore_n 2, 1) := by decide +kernel
theorem dX3_sentBy_2 : decode cX3_sentBy 2 = .ok (.iconst 0, 1) := by decide +kernel
theorem dX3_sentBy_3 : decode cX3_sentBy 3 = .ok (.istore_n 3, 1) := by decide +kernel
theorem dX3_sentBy_4 : decode cX3_sentBy 4 = .ok (.iload_n 3, 1) := by decide +kernel
theorem dX3_sentBy_5 : decode cX3_sentBy 5 = .ok (.iconst 4, 1) := by decide +kernel
theorem dX3_sentBy_6 : decode cX3_sentBy 6 = .ok (.if_icmp .ge 26, 3) := by decide +kernel
theorem dX3_sentBy_9 : decode cX3_sentBy 9 = .ok (.iload_n 1, 1) := by decide +kernel
theorem dX3_sentBy_10 : decode cX3_sentBy 10 = .ok (.iload_n 3, 1) := by decide +kernel
theorem dX3_sentBy_11 : decode cX3_sentBy 11 = .ok (.ishr, 1) := by decide +kernel
theorem dX3_sentBy_12 : decode cX3_sentBy 12 = .ok (.iconst 1, 1) := by decide +kernel
theorem dX3_sentBy_13 : decode cX3_sentBy 13 = .ok (.iand, 1) := by decide +kernel
theorem dX3_sentBy_14 : decode cX3_sentBy 14 = .ok (.ifCond .eq 12, 3) := by decide +kernel
theorem dX3_sentBy_17 : decode cX3_sentBy 17 = .ok (.iload_n 2, 1) := by decide +kernel
theorem dX3_sentBy_18 : decode cX3_sentBy 18 = .ok (.aload_n 0, 1) := by decide +kernel
theorem dX3_sentBy_19 : decode cX3_sentBy 19 = .ok (.getfield 40, 3) := by decide +kernel
theorem dX3_sentBy_22 : decode cX3_sentBy 22 = .ok (.iload_n 3, 1) := by decide +kernel
theorem dX3_sentBy_23 : decode cX3_sentBy 23 = .ok (.iaload, 1) := by decide +kernel
theorem dX3_sentBy_24 : decode cX3_sentBy 24 = .ok (.iadd, 1) := by decide +kernel
theorem dX3_sentBy_25 : decode cX3_sentBy 25 = .ok (.istore_n 2, 1) := by decide +kernel
theorem dX3_sentBy_26 : decode cX3_sentBy 26 = .ok (.iinc 3 1, 3) := by decide +kernel
theorem dX3_sentBy_29 : decode cX3_sentBy 29 = .ok (.goto (-25), 3) := by decide +kernel
theorem dX3_sentBy_32 : decode cX3_sentBy 32 = .ok (.iload_n 2, 1) := by decide +kernel
theorem dX3_sentBy_33 : decode cX3_sentBy 33 = .ok (.ireturn, 1) := by decide +kernel
theorem dX3_awake_0 : decode cX3_awake 0 = .ok (.aload_n 0, 1) := by decide +kernel
theorem dX3_awake_1 : decode cX3_awake 1 = .ok (.getfield 9, 3) := by decide +kernel
theorem dX3_awake_4 : decode cX3_awake 4 = .ok (.iconst 1, 1) := by decide +kernel
theorem dX3_awake_5 : decode cX3_awake 5 = .ok (.iand, 1) := by decide +kernel
theorem dX3_awake_6 : decode cX3_awake 6 = .ok (.ifCond .eq 10, 3) := by decide +kernel
theorem dX3_awake_9 : decode cX3_awake 9 = .ok (.aload_n 1, 1) := by decide +kernel
theorem dX3_awake_10 : decode cX3_awake 10 = .ok (.getfield 58, 3) := by decide +kernel
theorem dX3_awake_13 : decode cX3_awake 13 = .ok (.goto 4, 3) := by decide +kernel
theorem dX3_awake_16 : decode cX3_awake 16 = .ok (.iconst 0, 1) := by decide +kernel
theorem dX3_awake_17 : decode cX3_awake 17 = .ok (.istore_n 2, 1) := by decide +kernel
theorem dX3_awake_18 : decode cX3_awake 18 = .ok (.aload_n 1, 1) := by decide +kernel
theorem dX3_awake_19 : decode cX3_awake 19 = .ok (.getfield 63, 3) := by decide +kernel
theorem dX3_awake_22 : decode cX3_awake 22 = .ok (.aload_n 0, 1) := by decide +kernel
theorem dX3_awake_23 : decode cX3_awake 23 = .ok (.getfield 15, 3) := by decide +kernel
theorem dX3_awake_26 : decode cX3_awake 26 = .ok (.iconst (-1), 1) := by decide +kernel
theorem dX3_awake_27 : decode cX3_awake 27 = .ok (.ixor, 1) := by decide +kernel
theorem dX3_awake_28 : decode cX3_awake 28 = .ok (.iand, 1) := by decide +kernel
theorem dX3_awake_29 : decode cX3_awake 29 = .ok (.iload_n 2, 1) := by decide +kernel
theorem dX3_awake_30 : decode cX3_awake 30 = .ok (.iconst (-1), 1) := by decide +kernel
theorem dX3_awake_31 : decode cX3_awake 31 = .ok (.ixor, 1) := by decide +kernel
theorem dX3_awake_32 : decode cX3_awake 32 = .ok (.iand, 1) := by decide +kernel
theorem dX3_awake_33 : decode cX3_awake 33 = .ok (.ireturn, 1) := by decide +kernel
theorem dX3_fedBy_0 : decode cX3_fedBy 0 = .ok (.iload_n 2, 1) := by decide +kernel
theorem dX3_fedBy_1 : decode cX3_fedBy 1 = .ok (.iconst 3, 1) := by decide +kernel
theorem dX3_fedBy_2 : decode cX3_fedBy 2 = .ok (.idiv, 1) := by decide +kernel
theorem dX3_fedBy_3 : decode cX3_fedBy 3 = .ok (.istore_n 3, 1) := by decide +kernel
theorem dX3_fedBy_4 : decode cX3_fedBy 4 = .ok (.iload_n 2, 1) := by decide +kernel
theorem dX3_fedBy_5 : decode cX3_fedBy 5 = .ok (.ifCond .lt 17, 3) := by decide +kernel
theorem dX3_fedBy_8 : decode cX3_fedBy 8 = .ok (.iload_n 2, 1) := by decide +kernel
theorem dX3_fedBy_9 : decode cX3_fedBy 9 = .ok (.bipush 12, 2) := by decide +kernel
theorem dX3_fedBy_11 : decode cX3_fedBy 11 = .ok (.if_icmp .eq 11, 3) := by decide +kernel
theorem dX3_fedBy_14 : decode cX3_fedBy 14 = .ok (.aload_n 1, 1) := by decide +kernel
theorem dX3_fedBy_15 : decode cX3_fedBy 15 = .ok (.iload_n 3, 1) := by decide +kernel
theorem dX3_fedBy_16 : decode cX3_fedBy 16 = .ok (.invokevirtual 66, 3) := by decide +kernel
theorem dX3_fedBy_19 : decode cX3_fedBy 19 = .ok (.ifCond .ne 5, 3) := by decide +kernel
theorem dX3_fedBy_22 : decode cX3_fedBy 22 = .ok (.iconst 0, 1) := by decide +kernel
theorem dX3_fedBy_23 : decode cX3_fedBy 23 = .ok (.ireturn, 1) := by decide +kernel
theorem dX3_fedBy_24 : decode cX3_fedBy 24 = .ok (.aload_n 0, 1) := by decide +kernel
theorem dX3_fedBy_25 : decode cX3_fedBy 25 = .ok (.aload_n 1, 1) := by decide +kernel
theorem dX3_fedBy_26 : decode cX3_fedBy 26 = .ok (.invokevirtual 70, 3) := by decide +kernel
theorem dX3_fedBy_29 : decode cX3_fedBy 29 = .ok (.istore 4, 2) := by decide +kernel
theorem dX3_fedBy_31 : decode cX3_fedBy 31 = .ok (.iload 4, 2) := by decide +kernel
theorem dX3_fedBy_33 : decode cX3_fedBy 33 = .ok (.iload_n 3, 1) := by decide +kernel
theorem dX3_fedBy_34 : decode cX3_fedBy 34 = .ok (.ishr, 1) := by decide +kernel
theorem dX3_fedBy_35 : decode cX3_fedBy 35 = .ok (.iconst 1, 1) := by decide +kernel
theorem dX3_fedBy_36 : decode cX3_fedBy 36 = .ok (.iand, 1) := by decide +kernel
theorem dX3_fedBy_37 : decode cX3_fedBy 37 = .ok (.ifCond .eq 15, 3) := by decide +kernel
theorem dX3_fedBy_40 : decode cX3_fedBy 40 = .ok (.aload_n 1, 1) := by decide +kernel
theorem dX3_fedBy_41 : decode cX3_fedBy 41 = .ok (.getfield 74, 3) := by decide +kernel
theorem dX3_fedBy_44 : decode cX3_fedBy 44 = .ok (.iload_n 3, 1) := by decide +kernel
theorem dX3_fedBy_45 : decode cX3_fedBy 45 = .ok (.iaload, 1) := by decide +kernel
theorem dX3_fedBy_46 : decode cX3_fedBy 46 = .ok (.iload 4, 2) := by decide +kernel
theorem dX3_fedBy_48 : decode cX3_fedBy 48 = .ok (.iand, 1) := by decide +kernel
theorem dX3_fedBy_49 : decode cX3_fedBy 49 = .ok (.goto 4, 3) := by decide +kernel
theorem dX3_fedBy_52 : decode cX3_fedBy 52 = .ok (.iconst 0, 1) := by decide +kernel
theorem dX3_fedBy_53 : decode cX3_fedBy 53 = .ok (.ireturn, 1) := by decide +kernel
theorem dX3_costOf_0 : decode cX3_costOf 0 = .ok (.iload_n 2, 1) := by decide +kernel
theorem dX3_costOf_1 : decode cX3_costOf 1 = .ok (.bipush 12, 2) := by decide +kernel
theorem dX3_costOf_3 : decode cX3_costOf 3 = .ok (.if_icmp .ne 5, 3) := by decide +kernel
theorem dX3_costOf_6 : decode cX3_costOf 6 = .ok (.iconst 0, 1) := by decide +kernel
theorem dX3_costOf_7 : decode cX3_costOf 7 = .ok (.ireturn, 1) := by decide +kernel
theorem dX3_costOf_8 : decode cX3_costOf 8 = .ok (.aload_n 0, 1) := by decide +kernel
theorem dX3_costOf_9 : decode cX3_costOf 9 = .ok (.aload_n 1, 1) := by decide +kernel
theorem dX3_costOf_10 : decode cX3_costOf 10 = .ok (.iload_n 2, 1) := by decide +kernel
theorem dX3_costOf_11 : decode cX3_costOf 11 = .ok (.invokevirtual 77, 3) := by decide +kernel
theorem dX3_costOf_14 : decode cX3_costOf 14 = .ok (.invokestatic 81, 3) := by decide +kernel
theorem dX3_costOf_17 : decode cX3_costOf 17 = .ok (.istore_n 3, 1) := by decide +kernel
theorem dX3_costOf_18 : decode cX3_costOf 18 = .ok (.iload_n 3, 1) := by decide +kernel
theorem dX3_costOf_19 : decode cX3_costOf 19 = .ok (.ifCond .eq 15, 3) := by decide +kernel
theorem dX3_costOf_22 : decode cX3_costOf 22 = .ok (.iload_n 3, 1) := by decide +kernel
theorem dX3_costOf_23 : decode cX3_costOf 23 = .ok (.aload_n 0, 1) := by decide +kernel
theorem dX3_costOf_24 : decode cX3_costOf 24 = .ok (.getfield 30, 3) := by decide +kernel
theorem dX3_costOf_27 : decode cX3_costOf 27 = .ok (.iload_n 2, 1) := by decide +kernel
theorem dX3_costOf_28 : decode cX3_costOf 28 = .ok (.iconst 3, 1) := by decide +kernel
theorem dX3_costOf_29 : decode cX3_costOf 29 = .ok (.irem, 1) := by decide +kernel
theorem dX3_costOf_30 : decode cX3_costOf 30 = .ok (.iaload, 1) := by decide +kernel
theorem dX3_costOf_31 : decode cX3_costOf 31 = .ok (.if_icmp .le 8, 3) := by decide +kernel
theorem dX3_costOf_34 : decode cX3_costOf 34 = .ok (.bipush (-9), 2) := by decide +kernel
theorem dX3_costOf_36 : decode cX3_costOf 36 = .ok (.goto 4, 3) := by decide +kernel
theorem dX3_costOf_39 : decode cX3_costOf 39 = .ok (.iload_n 3, 1) := by decide +kernel
theorem dX3_costOf_40 : decode cX3_costOf 40 = .ok (.ireturn, 1) := by decide +kernel
theorem dX3_goOn_0 : decode cX3_goOn 0 = .ok (.aload_n 0, 1) := by decide +kernel
theorem dX3_goOn_1 : decode cX3_goOn 1 = .ok (.aload_n 1, 1) := by decide +kernel
theorem dX3_goOn_2 : decode cX3_goOn 2 = .ok (.iload_n 2, 1) := by decide +kernel
theorem dX3_goOn_3 : decode cX3_goOn 3 = .ok (.invokevirtual 87, 3) := by decide +kernel
theorem dX3_goOn_6 : decode cX3_goOn 6 = .ok (.istore_n 3, 1) := by decide +kernel
theorem dX3_goOn_7 : decode cX3_goOn 7 = .ok (.iload_n 3, 1) := by decide +kernel
theorem dX3_goOn_8 : decode cX3_goOn 8 = .ok (.bipush (-9), 2) := by decide +kernel
theorem dX3_goOn_10 : decode cX3_goOn 10 = .ok (.if_icmp .ne 5, 3) := by decide +kernel
theorem dX3_goOn_13 : decode cX3_goOn 13 = .ok (.iconst 0, 1) := by decide +kernel
theorem dX3_goOn_14 : decode cX3_goOn 14 = .ok (.ireturn, 1) := by decide +kernel
theorem dX3_goOn_15 : decode cX3_goOn 15 = .ok (.aload_n 0, 1) := by decide +kernel
theorem dX3_goOn_16 : decode cX3_goOn 16 = .ok (.aload_n 1, 1) := by decide +kernel
theorem dX3_goOn_17 : decode cX3_goOn 17 = .ok (.iload_n 2, 1) := by decide +kernel
theorem dX3_goOn_18 : decode cX3_goOn 18 = .ok (.iload_n 3, 1) := by decide +kernel
theorem dX3_goOn_19 : decode cX3_goOn 19 = .ok (.invokevirtual 90, 3) := by decide +kernel
theorem dX3_goOn_22 : decode cX3_goOn 22 = .ok (.iconst 1, 1) := by decide +kernel
theorem dX3_goOn_23 : decode cX3_goOn 23 = .ok (.ireturn, 1) := by decide +kernel
theorem dX3_spendDay_0 : decode cX3_spendDay 0 = .ok (.iconst 0, 1) := by decide +kernel
theorem dX3_spendDay_1 : decode cX3_spendDay 1 = .ok (.iload_n 2, 1) := by decide +kernel
theorem dX3_spendDay_2 : decode cX3_spendDay 2 = .ok (.iconst 3, 1) := by decide +kernel
theorem dX3_spendDay_3 : decode cX3_spendDay 3 = .ok (.irem, 1) := by decide +kernel
theorem dX3_spendDay_4 : decode cX3_spendDay 4 = .ok (.invokestatic 94, 3) := by decide +kernel
theorem dX3_spendDay_7 : decode cX3_spendDay 7 = .ok (.istore 4, 2) := by decide +kernel
theorem dX3_spendDay_9 : decode cX3_spendDay 9 = .ok (.aload_n 0, 1) := by decide +kernel
theorem dX3_spendDay_10 : decode cX3_spendDay 10 = .ok (.aload_n 1, 1) := by decide +kernel
theorem dX3_spendDay_11 : decode cX3_spendDay 11 = .ok (.invokevirtual 70, 3) := by decide +kernel
theorem dX3_spendDay_14 : decode cX3_spendDay 14 = .ok (.istore 5, 2) := by decide +kernel
theorem dX3_spendDay_16 : decode cX3_spendDay 16 = .ok (.aload_n 0, 1) := by decide +kernel
theorem dX3_spendDay_17 : decode cX3_spendDay 17 = .ok (.aload_n 0, 1) := by decide +kernel
theorem dX3_spendDay_18 : decode cX3_spendDay 18 = .ok (.aload_n 1, 1) := by decide +kernel
theorem dX3_spendDay_19 : decode cX3_spendDay 19 = .ok (.iload_n 2, 1) := by decide +kernel
theorem dX3_spendDay_20 : decode cX3_spendDay 20 = .ok (.invokevirtual 77, 3) := by decide +kernel
theorem dX3_spendDay_23 : decode cX3_spendDay 23 = .ok (.putfield 37, 3) := by decide +kernel
theorem dX3_spendDay_26 : decode cX3_spendDay 26 = .ok (.aload_n 0, 1) := by decide +kernel
theorem dX3_spendDay_27 : decode cX3_spendDay 27 = .ok (.getfield 30, 3) := by decide +kernel
theorem dX3_spendDay_30 : decode cX3_spendDay 30 = .ok (.iload 4, 2) := by decide +kernel
theorem dX3_spendDay_32 : decode cX3_spendDay 32 = .ok (.dup2, 1) := by decide +kernel
theorem dX3_spendDay_33 : decode cX3_spendDay 33 = .ok (.iaload, 1) := by decide +kernel
theorem dX3_spendDay_34 : decode cX3_spendDay 34 = .ok (.iload_n 3, 1) := by decide +kernel
theorem dX3_spendDay_35 : decode cX3_spendDay 35 = .ok (.isub, 1) := by decide +kernel
theorem dX3_spendDay_36 : decode cX3_spendDay 36 = .ok (.iastore, 1) := by decide +kernel
theorem dX3_spendDay_37 : decode cX3_spendDay 37 = .ok (.aload_n 0, 1) := by decide +kernel
theorem dX3_spendDay_38 : decode cX3_spendDay 38 = .ok (.dup, 1) := by decide +kernel
theorem dX3_spendDay_39 : decode cX3_spendDay 39 = .ok (.getfield 27, 3) := by decide +kernel
theorem dX3_spendDay_42 : decode cX3_spendDay 42 = .ok (.iload_n 3, 1) := by decide +kernel
theorem dX3_spendDay_43 : decode cX3_spendDay 43 = .ok (.iadd, 1) := by decide +kernel
theorem dX3_spendDay_44 : decode cX3_spendDay 44 = .ok (.putfield 27, 3) := by decide +kernel
theorem dX3_spendDay_47 : decode cX3_spendDay 47 = .ok (.aload_n 0, 1) := by decide +kernel
theorem dX3_spendDay_48 : decode cX3_spendDay 48 = .ok (.dup, 1) := by decide +kernel
theorem dX3_spendDay_49 : decode cX3_spendDay 49 = .ok (.getfield 18, 3) := by decide +kernel
theorem dX3_spendDay_52 : decode cX3_spendDay 52 = .ok (.aload_n 0, 1) := by decide +kernel
theorem dX3_spendDay_53 : decode cX3_spendDay 53 = .ok (.getfield 37, 3) := by decide +kernel
theorem dX3_spendDay_56 : decode cX3_spendDay 56 = .ok (.ior, 1) := by decide +kernel
theorem dX3_spendDay_57 : decode cX3_spendDay 57 = .ok (.putfield 18, 3) := by decide +kernel
theorem dX3_spendDay_60 : decode cX3_spendDay 60 = .ok (.iconst 0, 1) := by decide +kernel
theorem dX3_spendDay_61 : decode cX3_spendDay 61 = .ok (.istore 6, 2) := by decide +kernel
theorem dX3_spendDay_63 : decode cX3_spendDay 63 = .ok (.iload 6, 2) := by decide +kernel
theorem dX3_spendDay_65 : decode cX3_spendDay 65 = .ok (.aload_n 1, 1) := by decide +kernel
theorem dX3_spendDay_66 : decode cX3_spendDay 66 = .ok (.getfield 100, 3) := by decide +kernel
theorem dX3_spendDay_69 : decode cX3_spendDay 69 = .ok (.if_icmp .ge 86, 3) := by decide +kernel
theorem dX3_spendDay_72 : decode cX3_spendDay 72 = .ok (.aload_n 0, 1) := by decide +kernel
theorem dX3_spendDay_73 : decode cX3_spendDay 73 = .ok (.getfield 40, 3) := by decide +kernel
theorem dX3_spendDay_76 : decode cX3_spendDay 76 = .ok (.iload 6, 2) := by decide +kernel
theorem dX3_spendDay_78 : decode cX3_spendDay 78 = .ok (.iconst 0, 1) := by decide +kernel
theorem dX3_spendDay_79 : decode cX3_spendDay 79 = .ok (.iastore, 1) := by decide +kernel
theorem dX3_spendDay_80 : decode cX3_spendDay 80 = .ok (.iload 5, 2) := by decide +kernel
theorem dX3_spendDay_82 : decode cX3_spendDay 82 = .ok (.iload 6, 2) := by decide +kernel
theorem dX3_spendDay_84 : decode cX3_spendDay 84 = .ok (.ishr, 1) := by decide +kernel
theorem dX3_spendDay_85 : decode cX3_spendDay 85 = .ok (.iconst 1, 1) := by decide +kernel
theorem dX3_spendDay_86 : decode cX3_spendDay 86 = .ok (.iand, 1) := by decide +kernel
theorem dX3_spendDay_87 : decode cX3_spendDay 87 = .ok (.ifCond .ne 6, 3) := by decide +kernel
theorem dX3_spendDay_90 : decode cX3_spendDay 90 = .ok (.goto 59, 3) := by decide +kernel
theorem dX3_spendDay_93 : decode cX3_spendDay 93 = .ok (.aload_n 0, 1) := by decide +kernel
theorem dX3_spendDay_94 : decode cX3_spendDay 94 = .ok (.getfield 34, 3) := by decide +kernel
theorem dX3_spendDay_97 : decode cX3_spendDay 97 = .ok (.iload 6, 2) := by decide +kernel
theorem dX3_spendDay_99 : decode cX3_spendDay 99 = .ok (.aload_n 0, 1) := by decide +kernel
theorem dX3_spendDay_100 : decode cX3_spendDay 100 = .ok (.aload_n 1, 1) := by decide +kernel
theorem dX3_spendDay_101 : decode cX3_spendDay 101 = .ok (.iload 6, 2) := by decide +kernel
theorem dX3_spendDay_103 : decode cX3_spendDay 103 = .ok (.iload 4, 2) := by decide +kernel
theorem dX3_spendDay_105 : decode cX3_spendDay 105 = .ok (.invokevirtual 103, 3) := by decide +kernel
theorem dX3_spendDay_108 : decode cX3_spendDay 108 = .ok (.iastore, 1) := by decide +kernel
theorem dX3_spendDay_109 : decode cX3_spendDay 109 = .ok (.aload_n 0, 1) := by decide +kernel
theorem dX3_spendDay_110 : decode cX3_spendDay 110 = .ok (.aload_n 1, 1) := by decide +kernel
theorem dX3_spendDay_111 : decode cX3_spendDay 111 = .ok (.iload 6, 2) := by decide +kernel
theorem dX3_spendDay_113 : decode cX3_spendDay 113 = .ok (.invokevirtual 107, 3) := by decide +kernel
theorem dX3_spendDay_116 : decode cX3_spendDay 116 = .ok (.aload_n 1, 1) := by decide +kernel
theorem dX3_spendDay_117 : decode cX3_spendDay 117 = .ok (.getfield 111, 3) := by decide +kernel
theorem dX3_spendDay_120 : decode cX3_spendDay 120 = .ok (.iload 6, 2) := by decide +kernel
theorem dX3_spendDay_122 : decode cX3_spendDay 122 = .ok (.iaload, 1) := by decide +kernel
theorem dX3_spendDay_123 : decode cX3_spendDay 123 = .ok (.iconst 4, 1) := by decide +kernel
theorem dX3_spendDay_124 : decode cX3_spendDay 124 = .ok (.if_icmp .ne 25, 3) := by decide +kernel
theorem dX3_spendDay_127 : decode cX3_spendDay 127 = .ok (.aload_n 0, 1) := by decide +kernel
theorem dX3_spendDay_128 : decode cX3_spendDay 128 = .ok (.getfield 34, 3) := by decide +kernel
theorem dX3_spendDay_131 : decode cX3_spendDay 131 = .ok (.iload 6, 2) := by decide +kernel
theorem dX3_spendDay_133 : decode cX3_spendDay 133 = .ok (.iaload, 1) := by decide +kernel
theorem dX3_spendDay_134 : decode cX3_spendDay 134 = .ok (.aload_n 1, 1) := by decide +kernel
theorem dX3_spendDay_135 : decode cX3_spendDay 135 = .ok (.iload 6, 2) := by decide +kernel
theorem dX3_spendDay_137 : decode cX3_spendDay 137 = .ok (.invokevirtual 114, 3) := by decide +kernel
theorem dX3_spendDay_140 : decode cX3_spendDay 140 = .ok (.if_icmp .lt 9, 3) := by decide +kernel
theorem dX3_spendDay_143 : decode cX3_spendDay 143 = .ok (.aload_n 0, 1) := by decide +kernel
theorem dX3_spendDay_144 : decode cX3_spendDay 144 = .ok (.iload 6, 2) := by decide +kernel
theorem dX3_spendDay_146 : decode cX3_spendDay 146 = .ok (.invokevirtual 117, 3) := by decide +kernel
theorem dX3_spendDay_149 : decode cX3_spendDay 149 = .ok (.iinc 6 1, 3) := by decide +kernel
theorem dX3_spendDay_152 : decode cX3_spendDay 152 = .ok (.goto (-89), 3) := by decide +kernel
theorem dX3_spendDay_155 : decode cX3_spendDay 155 = .ok (.aload_n 0, 1) := by decide +kernel
theorem dX3_spendDay_156 : decode cX3_spendDay 156 = .ok (.dup, 1) := by decide +kernel
theorem dX3_spendDay_157 : decode cX3_spendDay 157 = .ok (.getfield 9, 3) := by decide +kernel
theorem dX3_spendDay_160 : decode cX3_spendDay 160 = .ok (.iconst 1, 1) := by decide +kernel
theorem dX3_spendDay_161 : decode cX3_spendDay 161 = .ok (.iadd, 1) := by decide +kernel
theorem dX3_spendDay_162 : decode cX3_spendDay 162 = .ok (.putfield 9, 3) := by decide +kernel
theorem dX3_spendDay_165 : decode cX3_spendDay 165 = .ok (.return_, 1) := by decide +kernel
theorem dX3_hungerAfter_0 : decode cX3_hungerAfter 0 = .ok (.aload_n 0, 1) := by decide +kernel
theorem dX3_hungerAfter_1 : decode cX3_hungerAfter 1 = .ok (.getfield 37, 3) := by decide +kernel
theorem dX3_hungerAfter_4 : decode cX3_hungerAfter 4 = .ok (.iload_n 2, 1) := by decide +kernel
theorem dX3_hungerAfter_5 : decode cX3_hungerAfter 5 = .ok (.ishr, 1) := by decide +kernel
theorem dX3_hungerAfter_6 : decode cX3_hungerAfter 6 = .ok (.iconst 1, 1) := by decide +kernel
theorem dX3_hungerAfter_7 : decode cX3_hungerAfter 7 = .ok (.iand, 1) := by decide +kernel
theorem dX3_hungerAfter_8 : decode cX3_hungerAfter 8 = .ok (.ifCond .eq 30, 3) := by decide +kernel
theorem dX3_hungerAfter_11 : decode cX3_hungerAfter 11 = .ok (.iload_n 3, 1) := by decide +kernel
theorem dX3_hungerAfter_12 : decode cX3_hungerAfter 12 = .ok (.aload_n 1, 1) := by decide +kernel
theorem dX3_hungerAfter_13 : decode cX3_hungerAfter 13 = .ok (.getfield 121, 3) := by decide +kernel
theorem dX3_hungerAfter_16 : decode cX3_hungerAfter 16 = .ok (.iload_n 2, 1) := by decide +kernel
theorem dX3_hungerAfter_17 : decode cX3_hungerAfter 17 = .ok (.iaload, 1) := by decide +kernel
theorem dX3_hungerAfter_18 : decode cX3_hungerAfter 18 = .ok (.if_icmp .ne 7, 3) := by decide +kernel
theorem dX3_hungerAfter_21 : decode cX3_hungerAfter 21 = .ok (.iconst 0, 1) := by decide +kernel
theorem dX3_hungerAfter_22 : decode cX3_hungerAfter 22 = .ok (.goto 15, 3) := by decide +kernel
theorem dX3_hungerAfter_25 : decode cX3_hungerAfter 25 = .ok (.iconst 0, 1) := by decide +kernel
theorem dX3_hungerAfter_26 : decode cX3_hungerAfter 26 = .ok (.aload_n 0, 1) := by decide +kernel
theorem dX3_hungerAfter_27 : decode cX3_hungerAfter 27 = .ok (.getfield 34, 3) := by decide +kernel
theorem dX3_hungerAfter_30 : decode cX3_hungerAfter 30 = .ok (.iload_n 2, 1) := by decide +kernel
theorem dX3_hungerAfter_31 : decode cX3_hungerAfter 31 = .ok (.iaload, 1) := by decide +kernel
theorem dX3_hungerAfter_32 : decode cX3_hungerAfter 32 = .ok (.iconst 2, 1) := by decide +kernel
theorem dX3_hungerAfter_33 : decode cX3_hungerAfter 33 = .ok (.isub, 1) := by decide +kernel
theorem dX3_hungerAfter_34 : decode cX3_hungerAfter 34 = .ok (.invokestatic 94, 3) := by decide +kernel
theorem dX3_hungerAfter_37 : decode cX3_hungerAfter 37 = .ok (.ireturn, 1) := by decide +kernel
theorem dX3_hungerAfter_38 : decode cX3_hungerAfter 38 = .ok (.aload_n 1, 1) := by decide +kernel
theorem dX3_hungerAfter_39 : decode cX3_hungerAfter 39 = .ok (.getfield 124, 3) := by decide +kernel
theorem dX3_hungerAfter_42 : decode cX3_hungerAfter 42 = .ok (.iload_n 2, 1) := by decide +kernel
theorem dX3_hungerAfter_43 : decode cX3_hungerAfter 43 = .ok (.iaload, 1) := by decide +kernel
theorem dX3_hungerAfter_44 : decode cX3_hungerAfter 44 = .ok (.aload_n 0, 1) := by decide +kernel
theorem dX3_hungerAfter_45 : decode cX3_hungerAfter 45 = .ok (.getfield 37, 3) := by decide +kernel
theorem dX3_hungerAfter_48 : decode cX3_hungerAfter 48 = .ok (.iand, 1) := by decide +kernel
theorem dX3_hungerAfter_49 : decode cX3_hungerAfter 49 = .ok (.ifCond .eq 14, 3) := by decide +kernel
theorem dX3_hungerAfter_52 : decode cX3_hungerAfter 52 = .ok (.iconst 1, 1) := by decide +kernel
theorem dX3_hungerAfter_53 : decode cX3_hungerAfter 53 = .ok (.aload_n 1, 1) := by decide +kernel
theorem dX3_hungerAfter_54 : decode cX3_hungerAfter 54 = .ok (.getfield 127, 3) := by decide +kernel
theorem dX3_hungerAfter_57 : decode cX3_hungerAfter 57 = .ok (.iload_n 2, 1) := by decide +kernel
theorem dX3_hungerAfter_58 : decode cX3_hungerAfter 58 = .ok (.iaload, 1) := by decide +kernel
theorem dX3_hungerAfter_59 : decode cX3_hungerAfter 59 = .ok (.iadd, 1) := by decide +kernel
theorem dX3_hungerAfter_60 : decode cX3_hungerAfter 60 = .ok (.goto 4, 3) := by decide +kernel
theorem dX3_hungerAfter_63 : decode cX3_hungerAfter 63 = .ok (.iconst 1, 1) := by decide +kernel
theorem dX3_hungerAfter_64 : decode cX3_hungerAfter 64 = .ok (.istore 4, 2) := by decide +kernel
theorem dX3_hungerAfter_66 : decode cX3_hungerAfter 66 = .ok (.bipush 9, 2) := by decide +kernel
theorem dX3_hungerAfter_68 : decode cX3_hungerAfter 68 = .ok (.aload_n 0, 1) := by decide +kernel
theorem dX3_hungerAfter_69 : decode cX3_hungerAfter 69 = .ok (.getfield 34, 3) := by decide +kernel
theorem dX3_hungerAfter_72 : decode cX3_hungerAfter 72 = .ok (.iload_n 2, 1) := by decide +kernel
theorem dX3_hungerAfter_73 : decode cX3_hungerAfter 73 = .ok (.iaload, 1) := by decide +kernel
theorem dX3_hungerAfter_74 : decode cX3_hungerAfter 74 = .ok (.iload 4, 2) := by decide +kernel
theorem dX3_hungerAfter_76 : decode cX3_hungerAfter 76 = .ok (.iadd, 1) := by decide +kernel
theorem dX3_hungerAfter_77 : decode cX3_hungerAfter 77 = .ok (.invokestatic 130, 3) := by decide +kernel
theorem dX3_hungerAfter_80 : decode cX3_hungerAfter 80 = .ok (.ireturn, 1) := by decide +kernel
theorem dX3_send_0 : decode cX3_send 0 = .ok (.aload_n 1, 1) := by decide +kernel
theorem dX3_send_1 : decode cX3_send 1 = .ok (.getfield 111, 3) := by decide +kernel
theorem dX3_send_4 : decode cX3_send 4 = .ok (.iload_n 2, 1) := by decide +kernel
theorem dX3_send_5 : decode cX3_send 5 = .ok (.iaload, 1) := by decide +kernel
theorem dX3_send_6 : decode cX3_send 6 = .ok (.iconst 5, 1) := by decide +kernel
theorem dX3_send_7 : decode cX3_send 7 = .ok (.if_icmp .ne 12, 3) := by decide +kernel
theorem dX3_send_10 : decode cX3_send 10 = .ok (.aload_n 0, 1) := by decide +kernel
theorem dX3_send_11 : decode cX3_send 11 = .ok (.iload_n 2, 1) := by decide +kernel
theorem dX3_send_12 : decode cX3_send 12 = .ok (.invokevirtual 133, 3) := by decide +kernel
theorem dX3_send_15 : decode cX3_send 15 = .ok (.ifCond .ne 4, 3) := by decide +kernel
theorem dX3_send_18 : decode cX3_send 18 = .ok (.return_, 1) := by decide +kernel
theorem dX3_send_19 : decode cX3_send 19 = .ok (.aload_n 0, 1) := by decide +kernel
theorem dX3_send_20 : decode cX3_send 20 = .ok (.getfield 34, 3) := by decide +kernel
theorem dX3_send_23 : decode cX3_send 23 = .ok (.iload_n 2, 1) := by decide +kernel
theorem dX3_send_24 : decode cX3_send 24 = .ok (.iaload, 1) := by decide +kernel
theorem dX3_send_25 : decode cX3_send 25 = .ok (.aload_n 1, 1) := by decide +kernel
theorem dX3_send_26 : decode cX3_send 26 = .ok (.getfield 136, 3) := by decide +kernel
theorem dX3_send_29 : decode cX3_send 29 = .ok (.iload_n 2, 1) := by decide +kernel
theorem dX3_send_30 : decode cX3_send 30 = .ok (.iaload, 1) := by decide +kernel
theorem dX3_send_31 : decode cX3_send 31 = .ok (.if_icmp .gt 33, 3) := by decide +kernel
theorem dX3_send_34 : decode cX3_send 34 = .ok (.aload_n 0, 1) := by decide +kernel
theorem dX3_send_35 : decode cX3_send 35 = .ok (.getfield 40, 3) := by decide +kernel
theorem dX3_send_38 : decode cX3_send 38 = .ok (.iload_n 2, 1) := by decide +kernel
theorem dX3_send_39 : decode cX3_send 39 = .ok (.aload_n 1, 1) := by decide +kernel
theorem dX3_send_40 : decode cX3_send 40 = .ok (.getfield 139, 3) := by decide +kernel
theorem dX3_send_43 : decode cX3_send 43 = .ok (.iload_n 2, 1) := by decide +kernel
theorem dX3_send_44 : decode cX3_send 44 = .ok (.iaload, 1) := by decide +kernel
theorem dX3_send_45 : decode cX3_send 45 = .ok (.iastore, 1) := by decide +kernel
theorem dX3_send_46 : decode cX3_send 46 = .ok (.aload_n 0, 1) := by decide +kernel
theorem dX3_send_47 : decode cX3_send 47 = .ok (.dup, 1) := by decide +kernel
theorem dX3_send_48 : decode cX3_send 48 = .ok (.getfield 21, 3) := by decide +kernel
theorem dX3_send_51 : decode cX3_send 51 = .ok (.aload_n 1, 1) := by decide +kernel
theorem dX3_send_52 : decode cX3_send 52 = .ok (.getfield 139, 3) := by decide +kernel
theorem dX3_send_55 : decode cX3_send 55 = .ok (.iload_n 2, 1) := by decide +kernel
theorem dX3_send_56 : decode cX3_send 56 = .ok (.iaload, 1) := by decide +kernel
theorem dX3_send_57 : decode cX3_send 57 = .ok (.iadd, 1) := by decide +kernel
theorem dX3_send_58 : decode cX3_send 58 = .ok (.putfield 21, 3) := by decide +kernel
theorem dX3_send_61 : decode cX3_send 61 = .ok (.goto 31, 3) := by decide +kernel
theorem dX3_send_64 : decode cX3_send 64 = .ok (.aload_n 0, 1) := by decide +kernel
theorem dX3_send_65 : decode cX3_send 65 = .ok (.getfield 40, 3) := by decide +kernel
theorem dX3_send_68 : decode cX3_send 68 = .ok (.iload_n 2, 1) := by decide +kernel
theorem dX3_send_69 : decode cX3_send 69 = .ok (.aload_n 1, 1) := by decide +kernel
theorem dX3_send_70 : decode cX3_send 70 = .ok (.getfield 142, 3) := by decide +kernel
theorem dX3_send_73 : decode cX3_send 73 = .ok (.iload_n 2, 1) := by decide +kernel
theorem dX3_send_74 : decode cX3_send 74 = .ok (.iaload, 1) := by decide +kernel
theorem dX3_send_75 : decode cX3_send 75 = .ok (.ineg, 1) := by decide +kernel
theorem dX3_send_76 : decode cX3_send 76 = .ok (.iastore, 1) := by decide +kernel
theorem dX3_send_77 : decode cX3_send 77 = .ok (.aload_n 0, 1) := by decide +kernel
theorem dX3_send_78 : decode cX3_send 78 = .ok (.dup, 1) := by decide +kernel
theorem dX3_send_79 : decode cX3_send 79 = .ok (.getfield 24, 3) := by decide +kernel
theorem dX3_send_82 : decode cX3_send 82 = .ok (.aload_n 1, 1) := by decide +kernel
theorem dX3_send_83 : decode cX3_send 83 = .ok (.getfield 142, 3) := by decide +kernel
theorem dX3_send_86 : decode cX3_send 86 = .ok (.iload_n 2, 1) := by decide +kernel
theorem dX3_send_87 : decode cX3_send 87 = .ok (.iaload, 1) := by decide +kernel
theorem dX3_send_88 : decode cX3_send 88 = .ok (.iadd, 1) := by decide +kernel
theorem dX3_send_89 : decode cX3_send 89 = .ok (.putfield 24, 3) := by decide +kernel
theorem dX3_send_92 : decode cX3_send 92 = .ok (.return_, 1) := by decide +kernel
theorem dX4_init_0 : decode cX4_init 0 = .ok (.aload_n 0, 1) := by decide +kernel
theorem dX4_init_1 : decode cX4_init 1 = .ok (.invokespecial 3, 3) := by decide +kernel
theorem dX4_init_4 : decode cX4_init 4 = .ok (.aload_n 0, 1) := by decide +kernel
theorem dX4_init_5 : decode cX4_init 5 = .ok (.aload_n 1, 1) := by decide +kernel
theorem dX4_init_6 : decode cX4_init 6 = .ok (.putfield 9, 3) := by decide +kernel
theorem dX4_init_9 : decode cX4_init 9 = .ok (.aload_n 0, 1) := by decide +kernel
theorem dX4_init_10 : decode cX4_init 10 = .ok (.aload_n 1, 1) := by decide +kernel
theorem dX4_init_11 : decode cX4_init 11 = .ok (.arraylength, 1) := by decide +kernel
theorem dX4_init_12 : decode cX4_init 12 = .ok (.newarray .int, 2) := by decide +kernel
theorem dX4_init_14 : decode cX4_init 14 = .ok (.putfield 15, 3) := by decide +kernel
theorem dX4_init_17 : decode cX4_init 17 = .ok (.aload_n 0, 1) := by decide +kernel
theorem dX4_init_18 : decode cX4_init 18 = .ok (.getfield 15, 3) := by decide +kernel
theorem dX4_init_21 : decode cX4_init 21 = .ok (.iconst (-1), 1) := by decide +kernel
theorem dX4_init_22 : decode cX4_init 22 = .ok (.invokestatic 19, 3) := by decide +kernel
theorem dX4_init_25 : decode cX4_init 25 = .ok (.return_, 1) := by decide +kernel
theorem dX4_has_0 : decode cX4_has 0 = .ok (.iload_n 1, 1) := by decide +kernel
theorem dX4_has_1 : decode cX4_has 1 = .ok (.ifCond .lt 16, 3) := by decide +kernel
theorem dX4_has_4 : decode cX4_has 4 = .ok (.iload_n 1, 1) := by decide +kernel
theorem dX4_has_5 : decode cX4_has 5 = .ok (.aload_n 0, 1) := by decide +kernel
theorem dX4_has_6 : decode cX4_has 6 = .ok (.getfield 15, 3) := by decide +kernel
theorem dX4_has_9 : decode cX4_has 9 = .ok (.arraylength, 1) := by decide +kernel
theorem dX4_has_10 : decode cX4_has 10 = .ok (.if_icmp .ge 7, 3) := by decide +kernel
theorem dX4_has_13 : decode cX4_has 13 = .ok (.iconst 1, 1) := by decide +kernel
theorem dX4_has_14 : decode cX4_has 14 = .ok (.goto 4, 3) := by decide +kernel
theorem dX4_has_17 : decode cX4_has 17 = .ok (.iconst 0, 1) := by decide +kernel
theorem dX4_has_18 : decode cX4_has 18 = .ok (.ireturn, 1) := by decide +kernel
theorem dX4_isThere_0 : decode cX4_isThere 0 = .ok (.aload_n 0, 1) := by decide +kernel
theorem dX4_isThere_1 : decode cX4_isThere 1 = .ok (.iload_n 1, 1) := by decide +kernel
theorem dX4_isThere_2 : decode cX4_isThere 2 = .ok (.invokevirtual 25, 3) := by decide +kernel
theorem dX4_isThere_5 : decode cX4_isThere 5 = .ok (.ifCond .eq 17, 3) := by decide +kernel
theorem dX4_isThere_8 : decode cX4_isThere 8 = .ok (.aload_n 0, 1) := by decide +kernel
theorem dX4_isThere_9 : decode cX4_isThere 9 = .ok (.getfield 15, 3) := by decide +kernel
theorem dX4_isThere_12 : decode cX4_isThere 12 = .ok (.iload_n 1, 1) := by decide +kernel
theorem dX4_isThere_13 : decode cX4_isThere 13 = .ok (.iaload, 1) := by decide +kernel
theorem dX4_isThere_14 : decode cX4_isThere 14 = .ok (.iconst (-1), 1) := by decide +kernel
theorem dX4_isThere_15 : decode cX4_isThere 15 = .ok (.if_icmp .eq 7, 3) := by decide +kernel
theorem dX4_isThere_18 : decode cX4_isThere 18 = .ok (.iconst 1, 1) := by decide +kernel
theorem dX4_isThere_19 : decode cX4_isThere 19 = .ok (.goto 4, 3) := by decide +kernel
theorem dX4_isThere_22 : decode cX4_isThere 22 = .ok (.iconst 0, 1) := by decide +kernel
theorem dX4_isThere_23 : decode cX4_isThere 23 = .ok (.ireturn, 1) := by decide +kernel
theorem dX4_size_0 : decode cX4_size 0 = .ok (.aload_n 0, 1) := by decide +kernel
theorem dX4_size_1 : decode cX4_size 1 = .ok (.iload_n 1, 1) := by decide +kernel
theorem dX4_size_2 : decode cX4_size 2 = .ok (.invokevirtual 29, 3) := by decide +kernel
theorem dX4_size_5 : decode cX4_size 5 = .ok (.ifCond .eq 12, 3) := by decide +kernel
theorem dX4_size_8 : decode cX4_size 8 = .ok (.aload_n 0, 1) := by decide +kernel
theorem dX4_size_9 : decode cX4_size 9 = .ok (.getfield 15, 3) := by decide +kernel
theorem dX4_size_12 : decode cX4_size 12 = .ok (.iload_n 1, 1) := by decide +kernel
theorem dX4_size_13 : decode cX4_size 13 = .ok (.iaload, 1) := by decide +kernel
theorem dX4_size_14 : decode cX4_size 14 = .ok (.goto 4, 3) := by decide +kernel
theorem dX4_size_17 : decode cX4_size 17 = .ok (.iconst 0, 1) := by decide +kernel
theorem dX4_size_18 : decode cX4_size 18 = .ok (.ireturn, 1) := by decide +kernel
theorem dX4_holds_0 : decode cX4_holds 0 = .ok (.aload_n 0, 1) := by decide +kernel
theorem dX4_holds_1 : decode cX4_holds 1 = .ok (.iload_n 1, 1) := by decide +kernel
theorem dX4_holds_2 : decode cX4_holds 2 = .ok (.invokevirtual 29, 3) := by decide +kernel
theorem dX4_holds_5 : decode cX4_holds 5 = .ok (.ifCond .eq 37, 3) := by decide +kernel
theorem dX4_holds_8 : decode cX4_holds 8 = .ok (.iload_n 2, 1) := by decide +kernel
theorem dX4_holds_9 : decode cX4_holds 9 = .ok (.ifCond .lt 33, 3) := by decide +kernel
theorem dX4_holds_12 : decode cX4_holds 12 = .ok (.iload_n 2, 1) := by decide +kernel
theorem dX4_holds_13 : decode cX4_holds 13 = .ok (.aload_n 0, 1) := by decide +kernel
theorem dX4_holds_14 : decode cX4_holds 14 = .ok (.getfield 15, 3) := by decide +kernel
theorem dX4_holds_17 : decode cX4_holds 17 = .ok (.iload_n 1, 1) := by decide +kernel
theorem dX4_holds_18 : decode cX4_holds 18 = .ok (.iaload, 1) := by decide +kernel
theorem dX4_holds_19 : decode cX4_holds 19 = .ok (.if_icmp .gt 23, 3) := by decide +kernel
theorem dX4_holds_22 : decode cX4_holds 22 = .ok (.iload_n 3, 1) := by decide +kernel
theorem dX4_holds_23 : decode cX4_holds 23 = .ok (.ifCond .lt 19, 3) := by decide +kernel
theorem dX4_holds_26 : decode cX4_holds 26 = .ok (.iload_n 3, 1) := by decide +kernel
theorem dX4_holds_27 : decode cX4_holds 27 = .ok (.aload_n 0, 1) := by decide +kernel
theorem dX4_holds_28 : decode cX4_holds 28 = .ok (.getfield 15, 3) := by decide +kernel
theorem dX4_holds_31 : decode cX4_holds 31 = .ok (.iload_n 1, 1) := by decide +kernel
theorem dX4_holds_32 : decode cX4_holds 32 = .ok (.iaload, 1) := by decide +kernel
theorem dX4_holds_33 : decode cX4_holds 33 = .ok (.iload_n 2, 1) := by decide +kernel
theorem dX4_holds_34 : decode cX4_holds 34 = .ok (.isub, 1) := by decide +kernel
theorem dX4_holds_35 : decode cX4_holds 35 = .ok (.if_icmp .gt 7, 3) := by decide +kernel
theorem dX4_holds_38 : decode cX4_holds 38 = .ok (.iconst 1, 1) := by decide +kernel
theorem dX4_holds_39 : decode cX4_holds 39 = .ok (.goto 4, 3) := by decide +kernel
theorem dX4_holds_42 : decode cX4_holds 42 = .ok (.iconst 0, 1) := by decide +kernel
theorem dX4_holds_43 : decode cX4_holds 43 = .ok (.ireturn, 1) := by decide +kernel
theorem dX4_read_0 : decode cX4_read 0 = .ok (.aload_n 0, 1) := by decide +kernel
theorem dX4_read_1 : decode cX4_read 1 = .ok (.iload_n 1, 1) := by decide +kernel
theorem dX4_read_2 : decode cX4_read 2 = .ok (.iload_n 2, 1) := by decide +kernel
theorem dX4_read_3 : decode cX4_read 3 = .ok (.iconst 1, 1) := by decide +kernel
theorem dX4_read_4 : decode cX4_read 4 = .ok (.invokevirtual 32, 3) := by decide +kernel
theorem dX4_read_7 : decode cX4_read 7 = .ok (.ifCond .eq 14, 3) := by decide +kernel
theorem dX4_read_10 : decode cX4_read 10 = .ok (.aload_n 0, 1) := by decide +kernel
theorem dX4_read_11 : decode cX4_read 11 = .ok (.getfield 9, 3) := by decide +kernel
theorem dX4_read_14 : decode cX4_read 14 = .ok (.iload_n 1, 1) := by decide +kernel
theorem dX4_read_15 : decode cX4_read 15 = .ok (.aaload, 1) := by decide +kernel
theorem dX4_read_16 : decode cX4_read 16 = .ok (.iload_n 2, 1) := by decide +kernel
theorem dX4_read_17 : decode cX4_read 17 = .ok (.iaload, 1) := by decide +kernel
theorem dX4_read_18 : decode cX4_read 18 = .ok (.goto 4, 3) := by decide +kernel
theorem dX4_read_21 : decode cX4_read 21 = .ok (.iconst 0, 1) := by decide +kernel
theorem dX4_read_22 : decode cX4_read 22 = .ok (.ireturn, 1) := by decide +kernel
theorem dX4_write_0 : decode cX4_write 0 = .ok (.aload_n 0, 1) := by decide +kernel
theorem dX4_write_1 : decode cX4_write 1 = .ok (.iload_n 1, 1) := by decide +kernel
theorem dX4_write_2 : decode cX4_write 2 = .ok (.iload_n 2, 1) := by decide +kernel
theorem dX4_write_3 : decode cX4_write 3 = .ok (.iconst 1, 1) := by decide +kernel
theorem dX4_write_4 : decode cX4_write 4 = .ok (.invokevirtual 32, 3) := by decide +kernel
theorem dX4_write_7 : decode cX4_write 7 = .ok (.ifCond .eq 12, 3) := by decide +kernel
theorem dX4_write_10 : decode cX4_write 10 = .ok (.aload_n 0, 1) := by decide +kernel
theorem dX4_write_11 : decode cX4_write 11 = .ok (.getfield 9, 3) := by decide +kernel
theorem dX4_write_14 : decode cX4_write 14 = .ok (.iload_n 1, 1) := by decide +kernel
theorem dX4_write_15 : decode cX4_write 15 = .ok (.aaload, 1) := by decide +kernel
theorem dX4_write_16 : decode cX4_write 16 = .ok (.iload_n 2, 1) := by decide +kernel
theorem dX4_write_17 : decode cX4_write 17 = .ok (.iload_n 3, 1) := by decide +kernel
theorem dX4_write_18 : decode cX4_write 18 = .ok (.iastore, 1) := by decide +kernel
theorem dX4_write_19 : decode cX4_write 19 = .ok (.return_, 1) := by decide +kernel
theorem dX4_make_0 : decode cX4_make 0 = .ok (.aload_n 0, 1) := by decide +kernel
theorem dX4_make_1 : decode cX4_make 1 = .ok (.iload_n 1, 1) := by decide +kernel
theorem dX4_make_2 : decode cX4_make 2 = .ok (.invokevirtual 25, 3) := by decide +kernel
theorem dX4_make_5 : decode cX4_make 5 = .ok (.ifCond .eq 18, 3) := by decide +kernel
theorem dX4_make_8 : decode cX4_make 8 = .ok (.iload_n 2, 1) := by decide +kernel
theorem dX4_make_9 : decode cX4_make 9 = .ok (.ifCond .lt 14, 3) := by decide +kernel
theorem dX4_make_12 : decode cX4_make 12 = .ok (.iload_n 2, 1) := by decide +kernel
theorem dX4_make_13 : decode cX4_make 13 = .ok (.aload_n 0, 1) := by decide +kernel
theorem dX4_make_14 : decode cX4_make 14 = .ok (.getfield 9, 3) := by decide +kernel
theorem dX4_make_17 : decode cX4_make 17 = .ok (.iload_n 1, 1) := by decide +kernel
theorem dX4_make_18 : decode cX4_make 18 = .ok (.aaload, 1) := by decide +kernel
theorem dX4_make_19 : decode cX4_make 19 = .ok (.arraylength, 1) := by decide +kernel
theorem dX4_make_20 : decode cX4_make 20 = .ok (.if_icmp .le 4, 3) := by decide +kernel
theorem dX4_make_23 : decode cX4_make 23 = .ok (.return_, 1) := by decide +kernel
theorem dX4_make_24 : decode cX4_make 24 = .ok (.aload_n 0, 1) := by decide +kernel
theorem dX4_make_25 : decode cX4_make 25 = .ok (.getfield 15, 3) := by decide +kernel
theorem dX4_make_28 : decode cX4_make 28 = .ok (.iload_n 1, 1) := by decide +kernel
theorem dX4_make_29 : decode cX4_make 29 = .ok (.iload_n 2, 1) := by decide +kernel
theorem dX4_make_30 : decode cX4_make 30 = .ok (.iastore, 1) := by decide +kernel
theorem dX4_make_31 : decode cX4_make 31 = .ok (.aload_n 0, 1) := by decide +kernel
theorem dX4_make_32 : decode cX4_make 32 = .ok (.getfield 9, 3) := by decide +kernel
theorem dX4_make_35 : decode cX4_make 35 = .ok (.iload_n 1, 1) := by decide +kernel
theorem dX4_make_36 : decode cX4_make 36 = .ok (.aaload, 1) := by decide +kernel
theorem dX4_make_37 : decode cX4_make 37 = .ok (.iconst 0, 1) := by decide +kernel
theorem dX4_make_38 : decode cX4_make 38 = .ok (.iload_n 2, 1) := by decide +kernel
theorem dX4_make_39 : decode cX4_make 39 = .ok (.iload_n 3, 1) := by decide +kernel
theorem dX4_make_40 : decode cX4_make 40 = .ok (.invokestatic 36, 3) := by decide +kernel
theorem dX4_make_43 : decode cX4_make 43 = .ok (.return_, 1) := by decide +kernel
theorem dX4_fill_0 : decode cX4_fill 0 = .ok (.iload_n 3, 1) := by decide +kernel
theorem dX4_fill_1 : decode cX4_fill 1 = .ok (.ifCond .lt 9, 3) := by decide +kernel
theorem dX4_fill_4 : decode cX4_fill 4 = .ok (.iload_n 3, 1) := by decide +kernel
theorem dX4_fill_5 : decode cX4_fill 5 = .ok (.aload_n 2, 1) := by decide +kernel
theorem dX4_fill_6 : decode cX4_fill 6 = .ok (.arraylength, 1) := by decide +kernel
theorem dX4_fill_7 : decode cX4_fill 7 = .ok (.if_icmp .le 4, 3) := by decide +kernel
theorem dX4_fill_10 : decode cX4_fill 10 = .ok (.return_, 1) := by decide +kernel
theorem dX4_fill_11 : decode cX4_fill 11 = .ok (.aload_n 0, 1) := by decide +kernel
theorem dX4_fill_12 : decode cX4_fill 12 = .ok (.iload_n 1, 1) := by decide +kernel
theorem dX4_fill_13 : decode cX4_fill 13 = .ok (.iload_n 3, 1) := by decide +kernel
theorem dX4_fill_14 : decode cX4_fill 14 = .ok (.iconst 0, 1) := by decide +kernel
theorem dX4_fill_15 : decode cX4_fill 15 = .ok (.invokevirtual 39, 3) := by decide +kernel
theorem dX4_fill_18 : decode cX4_fill 18 = .ok (.iconst 0, 1) := by decide +kernel
theorem dX4_fill_19 : decode cX4_fill 19 = .ok (.istore 4, 2) := by decide +kernel
theorem dX4_fill_21 : decode cX4_fill 21 = .ok (.iload 4, 2) := by decide +kernel
theorem dX4_fill_23 : decode cX4_fill 23 = .ok (.iload_n 3, 1) := by decide +kernel
theorem dX4_fill_24 : decode cX4_fill 24 = .ok (.if_icmp .ge 20, 3) := by decide +kernel
theorem dX4_fill_27 : decode cX4_fill 27 = .ok (.aload_n 0, 1) := by decide +kernel
theorem dX4_fill_28 : decode cX4_fill 28 = .ok (.iload_n 1, 1) := by decide +kernel
theorem dX4_fill_29 : decode cX4_fill 29 = .ok (.iload 4, 2) := by decide +kernel
theorem dX4_fill_31 : decode cX4_fill 31 = .ok (.aload_n 2, 1) := by decide +kernel
theorem dX4_fill_32 : decode cX4_fill 32 = .ok (.iload 4, 2) := by decide +kernel
theorem dX4_fill_34 : decode cX4_fill 34 = .ok (.iaload, 1) := by decide +kernel
theorem dX4_fill_35 : decode cX4_fill 35 = .ok (.invokevirtual 43, 3) := by decide +kernel
theorem dX4_fill_38 : decode cX4_fill 38 = .ok (.iinc 4 1, 3) := by decide +kernel
theorem dX4_fill_41 : decode cX4_fill 41 = .ok (.goto (-20), 3) := by decide +kernel
theorem dX4_fill_44 : decode cX4_fill 44 = .ok (.return_, 1) := by decide +kernel
theorem dX4_drop_0 : decode cX4_drop 0 = .ok (.aload_n 0, 1) := by decide +kernel
theorem dX4_drop_1 : decode cX4_drop 1 = .ok (.iload_n 1, 1) := by decide +kernel
theorem dX4_drop_2 : decode cX4_drop 2 = .ok (.invokevirtual 25, 3) := by decide +kernel
theorem dX4_drop_5 : decode cX4_drop 5 = .ok (.ifCond .eq 10, 3) := by decide +kernel
theorem dX4_drop_8 : decode cX4_drop 8 = .ok (.aload_n 0, 1) := by decide +kernel
theorem dX4_drop_9 : decode cX4_drop 9 = .ok (.getfield 15, 3) := by decide +kernel
theorem dX4_drop_12 : decode cX4_drop 12 = .ok (.iload_n 1, 1) := by decide +kernel
theorem dX4_drop_13 : decode cX4_drop 13 = .ok (.iconst (-1), 1) := by decide +kernel
theorem dX4_drop_14 : decode cX4_drop 14 = .ok (.iastore, 1) := by decide +kernel
theorem dX4_drop_15 : decode cX4_drop 15 = .ok (.return_, 1) := by decide +kernel
theorem dX4_carry_0 : decode cX4_carry 0 = .ok (.aload_n 0, 1) := by decide +kernel
theorem dX4_carry_1 : decode cX4_carry 1 = .ok (.iload_n 1, 1) := by decide +kernel
theorem dX4_carry_2 : decode cX4_carry 2 = .ok (.iload_n 2, 1) := by decide +kernel
theorem dX4_carry_3 : decode cX4_carry 3 = .ok (.iload 5, 2) := by decide +kernel
theorem dX4_carry_5 : decode cX4_carry 5 = .ok (.invokevirtual 32, 3) := by decide +kernel
theorem dX4_carry_8 : decode cX4_carry 8 = .ok (.ifCond .eq 35, 3) := by decide +kernel
theorem dX4_carry_11 : decode cX4_carry 11 = .ok (.aload_n 0, 1) := by decide +kernel
theorem dX4_carry_12 : decode cX4_carry 12 = .ok (.iload_n 3, 1) := by decide +kernel
theorem dX4_carry_13 : decode cX4_carry 13 = .ok (.iload 4, 2) := by decide +kernel
theorem dX4_carry_15 : decode cX4_carry 15 = .ok (.iload 5, 2) := by decide +kernel
theorem dX4_carry_17 : decode cX4_carry 17 = .ok (.invokevirtual 32, 3) := by decide +kernel
theorem dX4_carry_20 : decode cX4_carry 20 = .ok (.ifCond .eq 23, 3) := by decide +kernel
theorem dX4_carry_23 : decode cX4_carry 23 = .ok (.aload_n 0, 1) := by decide +kernel
theorem dX4_carry_24 : decode cX4_carry 24 = .ok (.getfield 9, 3) := by decide +kernel
theorem dX4_carry_27 : decode cX4_carry 27 = .ok (.iload_n 1, 1) := by decide +kernel
theorem dX4_carry_28 : decode cX4_carry 28 = .ok (.aaload, 1) := by decide +kernel
theorem dX4_carry_29 : decode cX4_carry 29 = .ok (.iload_n 2, 1) := by decide +kernel
theorem dX4_carry_30 : decode cX4_carry 30 = .ok (.aload_n 0, 1) := by decide +kernel
theorem dX4_carry_31 : decode cX4_carry 31 = .ok (.getfield 9, 3) := by decide +kernel
theorem dX4_carry_34 : decode cX4_carry 34 = .ok (.iload_n 3, 1) := by decide +kernel
theorem dX4_carry_35 : decode cX4_carry 35 = .ok (.aaload, 1) := by decide +kernel
theorem dX4_carry_36 : decode cX4_carry 36 = .ok (.iload 4, 2) := by decide +kernel
theorem dX4_carry_38 : decode cX4_carry 38 = .ok (.iload 5, 2) := by decide +kernel
theorem dX4_carry_40 : decode cX4_carry 40 = .ok (.invokestatic 46, 3) := by decide +kernel
theorem dX4_carry_43 : decode cX4_carry 43 = .ok (.return_, 1) := by decide +kernel
theorem dX4_total_0 : decode cX4_total 0 = .ok (.lconst 0, 1) := by decide +kernel
theorem dX4_total_1 : decode cX4_total 1 = .ok (.lstore_n 2, 1) := by decide +kernel
theorem dX4_total_2 : decode cX4_total 2 = .ok (.iconst 0, 1) := by decide +kernel
theorem dX4_total_3 : decode cX4_total 3 = .ok (.istore 4, 2) := by decide +kernel
theorem dX4_total_5 : decode cX4_total 5 = .ok (.iload 4, 2) := by decide +kernel
theorem dX4_total_7 : decode cX4_total 7 = .ok (.aload_n 0, 1) := by decide +kernel
theorem dX4_total_8 : decode cX4_total 8 = .ok (.iload_n 1, 1) := by decide +kernel
theorem dX4_total_9 : decode cX4_total 9 = .ok (.invokevirtual 52, 3) := by decide +kernel
theorem dX4_total_12 : decode cX4_total 12 = .ok (.if_icmp .ge 20, 3) := by decide +kernel
theorem dX4_total_15 : decode cX4_total 15 = .ok (.lload_n 2, 1) := by decide +kernel
theorem dX4_total_16 : decode cX4_total 16 = .ok (.aload_n 0, 1) := by decide +kernel
theorem dX4_total_17 : decode cX4_total 17 = .ok (.iload_n 1, 1) := by decide +kernel
theorem dX4_total_18 : decode cX4_total 18 = .ok (.iload 4, 2) := by decide +kernel
theorem dX4_total_20 : decode cX4_total 20 = .ok (.invokevirtual 56, 3) := by decide +kernel
theorem dX4_total_23 : decode cX4_total 23 = .ok (.i2l, 1) := by decide +kernel
theorem dX4_total_24 : decode cX4_total 24 = .ok (.ladd, 1) := by decide +kernel
theorem dX4_total_25 : decode cX4_total 25 = .ok (.lstore_n 2, 1) := by decide +kernel
theorem dX4_total_26 : decode cX4_total 26 = .ok (.iinc 4 1, 3) := by decide +kernel
theorem dX4_total_29 : decode cX4_total 29 = .ok (.goto (-24), 3) := by decide +kernel
theorem dX4_total_32 : decode cX4_total 32 = .ok (.lload_n 2, 1) := by decide +kernel
theorem dX4_total_33 : decode cX4_total 33 = .ok (.lreturn, 1) := by decide +kernel
theorem dX4_howManyThere_0 : decode cX4_howManyThere 0 = .ok (.iconst 0, 1) := by decide +kernel
theorem dX4_howManyThere_1 : decode cX4_howManyThere 1 = .ok (.istore_n 1, 1) := by decide +kernel
theorem dX4_howManyThere_2 : decode cX4_howManyThere 2 = .ok (.iconst 0, 1) := by decide +kernel
theorem dX4_howManyThere_3 : decode cX4_howManyThere 3 = .ok (.istore_n 2, 1) := by decide +kernel
theorem dX4_howManyThere_4 : decode cX4_howManyThere 4 = .ok (.iload_n 2, 1) := by decide +kernel
theorem dX4_howManyThere_5 : decode cX4_howManyThere 5 = .ok (.aload_n 0, 1) := by decide +kernel
theorem dX4_howManyThere_6 : decode cX4_howManyThere 6 = .ok (.getfield 15, 3) := by decide +kernel
theorem dX4_howManyThere_9 : decode cX4_howManyThere 9 = .ok (.arraylength, 1) := by decide +kernel
theorem dX4_howManyThere_10 : decode cX4_howManyThere 10 = .ok (.if_icmp .ge 20, 3) := by decide +kernel
theorem dX4_howManyThere_13 : decode cX4_howManyThere 13 = .ok (.aload_n 0, 1) := by decide +kernel
theorem dX4_howManyThere_14 : decode cX4_howManyThere 14 = .ok (.iload_n 2, 1) := by decide +kernel
theorem dX4_howManyThere_15 : decode cX4_howManyThere 15 = .ok (.invokevirtual 29, 3) := by decide +kernel
theorem dX4_howManyThere_18 : decode cX4_howManyThere 18 = .ok (.ifCond .eq 6, 3) := by decide +kernel
theorem dX4_howManyThere_21 : decode cX4_howManyThere 21 = .ok (.iinc 1 1, 3) := by decide +kernel
theorem dX4_howManyThere_24 : decode cX4_howManyThere 24 = .ok (.iinc 2 1, 3) := by decide +kernel
theorem dX4_howManyThere_27 : decode cX4_howManyThere 27 = .ok (.goto (-23), 3) := by decide +kernel
theorem dX4_howManyThere_30 : decode cX4_howManyThere 30 = .ok (.iload_n 1, 1) := by decide +kernel
theorem dX4_howManyThere_31 : decode cX4_howManyThere 31 = .ok (.ireturn, 1) := by decide +kernel
theorem dX4_digestOnto_0 : decode cX4_digestOnto 0 = .ok (.lload_n 1, 1) := by decide +kernel
theorem dX4_digestOnto_1 : decode cX4_digestOnto 1 = .ok (.lstore_n 3, 1) := by decide +kernel
theorem dX4_digestOnto_2 : decode cX4_digestOnto 2 = .ok (.iconst 0, 1) := by decide +kernel
theorem dX4_digestOnto_3 : decode cX4_digestOnto 3 = .ok (.istore 5, 2) := by decide +kernel
theorem dX4_digestOnto_5 : decode cX4_digestOnto 5 = .ok (.iload 5, 2) := by decide +kernel
theorem dX4_digestOnto_7 : decode cX4_digestOnto 7 = .ok (.aload_n 0, 1) := by decide +kernel
theorem dX4_digestOnto_8 : decode cX4_digestOnto 8 = .ok (.getfield 15, 3) := by decide +kernel
theorem dX4_digestOnto_11 : decode cX4_digestOnto 11 = .ok (.arraylength, 1) := by decide +kernel
theorem dX4_digestOnto_12 : decode cX4_digestOnto 12 = .ok (.if_icmp .ge 60, 3) := by decide +kernel
theorem dX4_digestOnto_15 : decode cX4_digestOnto 15 = .ok (.ldc2_w 60, 3) := by decide +kernel
theorem dX4_digestOnto_18 : decode cX4_digestOnto 18 = .ok (.lload_n 3, 1) := by decide +kernel
theorem dX4_digestOnto_19 : decode cX4_digestOnto 19 = .ok (.lmul, 1) := by decide +kernel
theorem dX4_digestOnto_20 : decode cX4_digestOnto 20 = .ok (.aload_n 0, 1) := by decide +kernel
theorem dX4_digestOnto_21 : decode cX4_digestOnto 21 = .ok (.getfield 15, 3) := by decide +kernel
theorem dX4_digestOnto_24 : decode cX4_digestOnto 24 = .ok (.iload 5, 2) := by decide +kernel
theorem dX4_digestOnto_26 : decode cX4_digestOnto 26 = .ok (.iaload, 1) := by decide +kernel
theorem dX4_digestOnto_27 : decode cX4_digestOnto 27 = .ok (.i2l, 1) := by decide +kernel
theorem dX4_digestOnto_28 : decode cX4_digestOnto 28 = .ok (.ladd, 1) := by decide +kernel
theorem dX4_digestOnto_29 : decode cX4_digestOnto 29 = .ok (.lstore_n 3, 1) := by decide +kernel
theorem dX4_digestOnto_30 : decode cX4_digestOnto 30 = .ok (.iconst 0, 1) := by decide +kernel
theorem dX4_digestOnto_31 : decode cX4_digestOnto 31 = .ok (.istore 6, 2) := by decide +kernel
theorem dX4_digestOnto_33 : decode cX4_digestOnto 33 = .ok (.iload 6, 2) := by decide +kernel
theorem dX4_digestOnto_35 : decode cX4_digestOnto 35 = .ok (.aload_n 0, 1) := by decide +kernel
theorem dX4_digestOnto_36 : decode cX4_digestOnto 36 = .ok (.iload 5, 2) := by decide +kernel
theorem dX4_digestOnto_38 : decode cX4_digestOnto 38 = .ok (.invokevirtual 52, 3) := by decide +kernel
theorem dX4_digestOnto_41 : decode cX4_digestOnto 41 = .ok (.if_icmp .ge 25, 3) := by decide +kernel
theorem dX4_digestOnto_44 : decode cX4_digestOnto 44 = .ok (.ldc2_w 60, 3) := by decide +kernel
theorem dX4_digestOnto_47 : decode cX4_digestOnto 47 = .ok (.lload_n 3, 1) := by decide +kernel
theorem dX4_digestOnto_48 : decode cX4_digestOnto 48 = .ok (.lmul, 1) := by decide +kernel
theorem dX4_digestOnto_49 : decode cX4_digestOnto 49 = .ok (.aload_n 0, 1) := by decide +kernel
theorem dX4_digestOnto_50 : decode cX4_digestOnto 50 = .ok (.iload 5, 2) := by decide +kernel
theorem dX4_digestOnto_52 : decode cX4_digestOnto 52 = .ok (.iload 6, 2) := by decide +kernel
theorem dX4_digestOnto_54 : decode cX4_digestOnto 54 = .ok (.invokevirtual 56, 3) := by decide +kernel
theorem dX4_digestOnto_57 : decode cX4_digestOnto 57 = .ok (.i2l, 1) := by decide +kernel
theorem dX4_digestOnto_58 : decode cX4_digestOnto 58 = .ok (.ladd, 1) := by decide +kernel
theorem dX4_digestOnto_59 : decode cX4_digestOnto 59 = .ok (.lstore_n 3, 1) := by decide +kernel
theorem dX4_digestOnto_60 : decode cX4_digestOnto 60 = .ok (.iinc 6 1, 3) := by decide +kernel
theorem dX4_digestOnto_63 : decode cX4_digestOnto 63 = .ok (.goto (-30), 3) := by decide +kernel
theorem dX4_digestOnto_66 : decode cX4_digestOnto 66 = .ok (.iinc 5 1, 3) := by decide +kernel
theorem dX4_digestOnto_69 : decode cX4_digestOnto 69 = .ok (.goto (-64), 3) := by decide +kernel
theorem dX4_digestOnto_72 : decode cX4_digestOnto 72 = .ok (.lload_n 3, 1) := by decide +kernel
theorem dX4_digestOnto_73 : decode cX4_digestOnto 73 = .ok (.lreturn, 1) := by decide +kernel
theorem dX5_init_0 : decode cX5_init 0 = .ok (.aload_n 0, 1) := by decide +kernel
theorem dX5_init_1 : decode cX5_init 1 = .ok (.invokespecial 7, 3) := by decide +kernel
theorem dX5_init_4 : decode cX5_init 4 = .ok (.aload_n 0, 1) := by decide +kernel
theorem dX5_init_5 : decode cX5_init 5 = .ok (.new 13, 3) := by decide +kernel
theorem dX5_init_8 : decode cX5_init 8 = .ok (.dup, 1) := by decide +kernel
theorem dX5_init_9 : decode cX5_init 9 = .ok (.invokespecial 15, 3) := by decide +kernel
theorem dX5_init_12 : decode cX5_init 12 = .ok (.putfield 16, 3) := by decide +kernel
theorem dX5_init_15 : decode cX5_init 15 = .ok (.aload_n 0, 1) := by decide +kernel
theorem dX5_init_16 : decode cX5_init 16 = .ok (.new 3, 3) := by decide +kernel
theorem dX5_init_19 : decode cX5_init 19 = .ok (.dup, 1) := by decide +kernel
theorem dX5_init_20 : decode cX5_init 20 = .ok (.invokespecial 20, 3) := by decide +kernel
theorem dX5_init_23 : decode cX5_init 23 = .ok (.putfield 21, 3) := by decide +kernel
theorem dX5_init_26 : decode cX5_init 26 = .ok (.aload_n 0, 1) := by decide +kernel
theorem dX5_init_27 : decode cX5_init 27 = .ok (.iconst 0, 1) := by decide +kernel
theorem dX5_init_28 : decode cX5_init 28 = .ok (.putfield 25, 3) := by decide +kernel
theorem dX5_init_31 : decode cX5_init 31 = .ok (.aload_n 0, 1) := by decide +kernel
theorem dX5_init_32 : decode cX5_init 32 = .ok (.sipush 3400, 3) := by decide +kernel
theorem dX5_init_35 : decode cX5_init 35 = .ok (.newarray .int, 2) := by decide +kernel
theorem dX5_init_37 : decode cX5_init 37 = .ok (.putfield 29, 3) := by decide +kernel
theorem dX5_init_40 : decode cX5_init 40 = .ok (.return_, 1) := by decide +kernel
theorem dX5_begin_0 : decode cX5_begin 0 = .ok (.aload_n 0, 1) := by decide +kernel
theorem dX5_begin_1 : decode cX5_begin 1 = .ok (.getfield 16, 3) := by decide +kernel
theorem dX5_begin_4 : decode cX5_begin 4 = .ok (.aload_n 1, 1) := by decide +kernel
theorem dX5_begin_5 : decode cX5_begin 5 = .ok (.invokevirtual 33, 3) := by decide +kernel
theorem dX5_begin_8 : decode cX5_begin 8 = .ok (.aload_n 0, 1) := by decide +kernel
theorem dX5_begin_9 : decode cX5_begin 9 = .ok (.getfield 21, 3) := by decide +kernel
theorem dX5_begin_12 : decode cX5_begin 12 = .ok (.aload_n 2, 1) := by decide +kernel
theorem dX5_begin_13 : decode cX5_begin 13 = .ok (.invokevirtual 37, 3) := by decide +kernel
theorem dX5_begin_16 : decode cX5_begin 16 = .ok (.return_, 1) := by decide +kernel
theorem dX5_take_0 : decode cX5_take 0 = .ok (.aload_n 0, 1) := by decide +kernel
theorem dX5_take_1 : decode cX5_take 1 = .ok (.getfield 16, 3) := by decide +kernel
theorem dX5_take_4 : decode cX5_take 4 = .ok (.aload_n 1, 1) := by decide +kernel
theorem dX5_take_5 : decode cX5_take 5 = .ok (.getfield 16, 3) := by decide +kernel
theorem dX5_take_8 : decode cX5_take 8 = .ok (.invokevirtual 33, 3) := by decide +kernel
theorem dX5_take_11 : decode cX5_take 11 = .ok (.aload_n 0, 1) := by decide +kernel
theorem dX5_take_12 : decode cX5_take 12 = .ok (.getfield 21, 3) := by decide +kernel
theorem dX5_take_15 : decode cX5_take 15 = .ok (.aload_n 1, 1) := by decide +kernel
theorem dX5_take_16 : decode cX5_take 16 = .ok (.getfield 21, 3) := by decide +kernel
theorem dX5_take_19 : decode cX5_take 19 = .ok (.invokevirtual 41, 3) := by decide +kernel
theorem dX5_take_22 : decode cX5_take 22 = .ok (.aload_n 1, 1) := by decide +kernel
theorem dX5_take_23 : decode cX5_take 23 = .ok (.getfield 21, 3) := by decide +kernel
theorem dX5_take_26 : decode cX5_take 26 = .ok (.getfield 44, 3) := by decide +kernel
theorem dX5_take_29 : decode cX5_take 29 = .ok (.bipush 17, 2) := by decide +kernel
theorem dX5_take_31 : decode cX5_take 31 = .ok (.imul, 1) := by decide +kernel
theorem dX5_take_32 : decode cX5_take 32 = .ok (.istore_n 2, 1) := by decide +kernel
theorem dX5_take_33 : decode cX5_take 33 = .ok (.iload_n 2, 1) := by decide +kernel
theorem dX5_take_34 : decode cX5_take 34 = .ok (.ifCond .lt 26, 3) := by decide +kernel
theorem dX5_take_37 : decode cX5_take 37 = .ok (.iload_n 2, 1) := by decide +kernel
theorem dX5_take_38 : decode cX5_take 38 = .ok (.aload_n 0, 1) := by decide +kernel
theorem dX5_take_39 : decode cX5_take 39 = .ok (.getfield 29, 3) := by decide +kernel
theorem dX5_take_42 : decode cX5_take 42 = .ok (.arraylength, 1) := by decide +kernel
theorem dX5_take_43 : decode cX5_take 43 = .ok (.if_icmp .gt 17, 3) := by decide +kernel
theorem dX5_take_46 : decode cX5_take 46 = .ok (.aload_n 1, 1) := by decide +kernel
theorem dX5_take_47 : decode cX5_take 47 = .ok (.getfield 29, 3) := by decide +kernel
theorem dX5_take_50 : decode cX5_take 50 = .ok (.iconst 0, 1) := by decide +kernel
theorem dX5_take_51 : decode cX5_take 51 = .ok (.aload_n 0, 1) := by decide +kernel
theorem dX5_take_52 : decode cX5_take 52 = .ok (.getfield 29, 3) := by decide +kernel
theorem dX5_take_55 : decode cX5_take 55 = .ok (.iconst 0, 1) := by decide +kernel
theorem dX5_take_56 : decode cX5_take 56 = .ok (.iload_n 2, 1) := by decide +kernel
theorem dX5_take_57 : decode cX5_take 57 = .ok (.invokestatic 48, 3) := by decide +kernel
theorem dX5_take_60 : decode cX5_take 60 = .ok (.return_, 1) := by decide +kernel
theorem dX5_spendDay_0 : decode cX5_spendDay 0 = .ok (.aload_n 0, 1) := by decide +kernel
theorem dX5_spendDay_1 : decode cX5_spendDay 1 = .ok (.getfield 21, 3) := by decide +kernel
theorem dX5_spendDay_4 : decode cX5_spendDay 4 = .ok (.getfield 44, 3) := by decide +kernel
theorem dX5_spendDay_7 : decode cX5_spendDay 7 = .ok (.ifCond .lt 16, 3) := by decide +kernel
theorem dX5_spendDay_10 : decode cX5_spendDay 10 = .ok (.aload_n 0, 1) := by decide +kernel
theorem dX5_spendDay_11 : decode cX5_spendDay 11 = .ok (.getfield 21, 3) := by decide +kernel
theorem dX5_spendDay_14 : decode cX5_spendDay 14 = .ok (.getfield 44, 3) := by decide +kernel
theorem dX5_spendDay_17 : decode cX5_spendDay 17 = .ok (.sipush 200, 3) := by decide +kernel
theorem dX5_spendDay_20 : decode cX5_spendDay 20 = .ok (.if_icmp .lt 5, 3) := by decide +kernel
theorem dX5_spendDay_23 : decode cX5_spendDay 23 = .ok (.iconst 0, 1) := by decide +kernel
theorem dX5_spendDay_24 : decode cX5_spendDay 24 = .ok (.ireturn, 1) := by decide +kernel
theorem dX5_spendDay_25 : decode cX5_spendDay 25 = .ok (.aload_n 0, 1) := by decide +kernel
theorem dX5_spendDay_26 : decode cX5_spendDay 26 = .ok (.getfield 21, 3) := by decide +kernel
theorem dX5_spendDay_29 : decode cX5_spendDay 29 = .ok (.getfield 44, 3) := by decide +kernel
theorem dX5_spendDay_32 : decode cX5_spendDay 32 = .ok (.bipush 17, 2) := by decide +kernel
theorem dX5_spendDay_34 : decode cX5_spendDay 34 = .ok (.imul, 1) := by decide +kernel
theorem dX5_spendDay_35 : decode cX5_spendDay 35 = .ok (.istore_n 2, 1) := by decide +kernel
theorem dX5_spendDay_36 : decode cX5_spendDay 36 = .ok (.aload_n 0, 1) := by decide +kernel
theorem dX5_spendDay_37 : decode cX5_spendDay 37 = .ok (.getfield 21, 3) := by decide +kernel
theorem dX5_spendDay_40 : decode cX5_spendDay 40 = .ok (.invokevirtual 54, 3) := by decide +kernel
theorem dX5_spendDay_43 : decode cX5_spendDay 43 = .ok (.istore_n 3, 1) := by decide +kernel
theorem dX5_spendDay_44 : decode cX5_spendDay 44 = .ok (.aload_n 0, 1) := by decide +kernel
theorem dX5_spendDay_45 : decode cX5_spendDay 45 = .ok (.getfield 21, 3) := by decide +kernel
theorem dX5_spendDay_48 : decode cX5_spendDay 48 = .ok (.aload_n 0, 1) := by decide +kernel
theorem dX5_spendDay_49 : decode cX5_spendDay 49 = .ok (.getfield 29, 3) := by decide +kernel
theorem dX5_spendDay_52 : decode cX5_spendDay 52 = .ok (.iload_n 2, 1) := by decide +kernel
theorem dX5_spendDay_53 : decode cX5_spendDay 53 = .ok (.bipush 6, 2) := by decide +kernel
theorem dX5_spendDay_55 : decode cX5_spendDay 55 = .ok (.iadd, 1) := by decide +kernel
theorem dX5_spendDay_56 : decode cX5_spendDay 56 = .ok (.invokevirtual 58, 3) := by decide +kernel
theorem dX5_spendDay_59 : decode cX5_spendDay 59 = .ok (.aload_n 0, 1) := by decide +kernel
theorem dX5_spendDay_60 : decode cX5_spendDay 60 = .ok (.getfield 21, 3) := by decide +kernel
theorem dX5_spendDay_63 : decode cX5_spendDay 63 = .ok (.aload_n 0, 1) := by decide +kernel
theorem dX5_spendDay_64 : decode cX5_spendDay 64 = .ok (.getfield 16, 3) := by decide +kernel
theorem dX5_spendDay_67 : decode cX5_spendDay 67 = .ok (.iload_n 1, 1) := by decide +kernel
theorem dX5_spendDay_68 : decode cX5_spendDay 68 = .ok (.invokevirtual 62, 3) := by decide +kernel
theorem dX5_spendDay_71 : decode cX5_spendDay 71 = .ok (.ifCond .ne 5, 3) := by decide +kernel
theorem dX5_spendDay_74 : decode cX5_spendDay 74 = .ok (.iconst 0, 1) := by decide +kernel
theorem dX5_spendDay_75 : decode cX5_spendDay 75 = .ok (.ireturn, 1) := by decide +kernel
theorem dX5_spendDay_76 : decode cX5_spendDay 76 = .ok (.aload_n 0, 1) := by decide +kernel
theorem dX5_spendDay_77 : decode cX5_spendDay 77 = .ok (.getfield 29, 3) := by decide +kernel
theorem dX5_spendDay_80 : decode cX5_spendDay 80 = .ok (.iload_n 2, 1) := by decide +kernel
theorem dX5_spendDay_81 : decode cX5_spendDay 81 = .ok (.iconst 0, 1) := by decide +kernel
theorem dX5_spendDay_82 : decode cX5_spendDay 82 = .ok (.iadd, 1) := by decide +kernel
theorem dX5_spendDay_83 : decode cX5_spendDay 83 = .ok (.iload_n 1, 1) := by decide +kernel
theorem dX5_spendDay_84 : decode cX5_spendDay 84 = .ok (.iastore, 1) := by decide +kernel
theorem dX5_spendDay_85 : decode cX5_spendDay 85 = .ok (.aload_n 0, 1) := by decide +kernel
theorem dX5_spendDay_86 : decode cX5_spendDay 86 = .ok (.getfield 29, 3) := by decide +kernel
theorem dX5_spendDay_89 : decode cX5_spendDay 89 = .ok (.iload_n 2, 1) := by decide +kernel
theorem dX5_spendDay_90 : decode cX5_spendDay 90 = .ok (.iconst 1, 1) := by decide +kernel
theorem dX5_spendDay_91 : decode cX5_spendDay 91 = .ok (.iadd, 1) := by decide +kernel
theorem dX5_spendDay_92 : decode cX5_spendDay 92 = .ok (.aload_n 0, 1) := by decide +kernel
theorem dX5_spendDay_93 : decode cX5_spendDay 93 = .ok (.getfield 21, 3) := by decide +kernel
theorem dX5_spendDay_96 : decode cX5_spendDay 96 = .ok (.getfield 66, 3) := by decide +kernel
theorem dX5_spendDay_99 : decode cX5_spendDay 99 = .ok (.iastore, 1) := by decide +kernel
theorem dX5_spendDay_100 : decode cX5_spendDay 100 = .ok (.aload_n 0, 1) := by decide +kernel
theorem dX5_spendDay_101 : decode cX5_spendDay 101 = .ok (.getfield 21, 3) := by decide +kernel
theorem dX5_spendDay_104 : decode cX5_spendDay 104 = .ok (.getfield 69, 3) := by decide +kernel
theorem dX5_spendDay_107 : decode cX5_spendDay 107 = .ok (.iconst 0, 1) := by decide +kernel
theorem dX5_spendDay_108 : decode cX5_spendDay 108 = .ok (.aload_n 0, 1) := by decide +kernel
theorem dX5_spendDay_109 : decode cX5_spendDay 109 = .ok (.getfield 29, 3) := by decide +kernel
theorem dX5_spendDay_112 : decode cX5_spendDay 112 = .ok (.iload_n 2, 1) := by decide +kernel
theorem dX5_spendDay_113 : decode cX5_spendDay 113 = .ok (.iconst 2, 1) := by decide +kernel
theorem dX5_spendDay_114 : decode cX5_spendDay 114 = .ok (.iadd, 1) := by decide +kernel
theorem dX5_spendDay_115 : decode cX5_spendDay 115 = .ok (.iconst 4, 1) := by decide +kernel
theorem dX5_spendDay_116 : decode cX5_spendDay 116 = .ok (.invokestatic 48, 3) := by decide +kernel
theorem dX5_spendDay_119 : decode cX5_spendDay 119 = .ok (.aload_n 0, 1) := by decide +kernel
theorem dX5_spendDay_120 : decode cX5_spendDay 120 = .ok (.getfield 21, 3) := by decide +kernel
theorem dX5_spendDay_123 : decode cX5_spendDay 123 = .ok (.invokevirtual 54, 3) := by decide +kernel
theorem dX5_spendDay_126 : decode cX5_spendDay 126 = .ok (.iload_n 3, 1) := by decide +kernel
theorem dX5_spendDay_127 : decode cX5_spendDay 127 = .ok (.isub, 1) := by decide +kernel
theorem dX5_spendDay_128 : decode cX5_spendDay 128 = .ok (.ireturn, 1) := by decide +kernel
theorem dX5_goBackTo_0 : decode cX5_goBackTo 0 = .ok (.iload_n 1, 1) := by decide +kernel
theorem dX5_goBackTo_1 : decode cX5_goBackTo 1 = .ok (.ifCond .lt 14, 3) := by decide +kernel
theorem dX5_goBackTo_4 : decode cX5_goBackTo 4 = .ok (.iload_n 1, 1) := by decide +kernel
theorem dX5_goBackTo_5 : decode cX5_goBackTo 5 = .ok (.aload_n 0, 1) := by decide +kernel
theorem dX5_goBackTo_6 : decode cX5_goBackTo 6 = .ok (.getfield 21, 3) := by decide +kernel
theorem dX5_goBackTo_9 : decode cX5_goBackTo 9 = .ok (.getfield 44, 3) := by decide +kernel
theorem dX5_goBackTo_12 : decode cX5_goBackTo 12 = .ok (.if_icmp .lt 4, 3) := by decide +kernel
theorem dX5_goBackTo_15 : decode cX5_goBackTo 15 = .ok (.return_, 1) := by decide +kernel
theorem dX5_goBackTo_16 : decode cX5_goBackTo 16 = .ok (.aload_n 0, 1) := by decide +kernel
theorem dX5_goBackTo_17 : decode cX5_goBackTo 17 = .ok (.getfield 21, 3) := by decide +kernel
theorem dX5_goBackTo_20 : decode cX5_goBackTo 20 = .ok (.aload_n 0, 1) := by decide +kernel
theorem dX5_goBackTo_21 : decode cX5_goBackTo 21 = .ok (.getfield 29, 3) := by decide +kernel
theorem dX5_goBackTo_24 : decode cX5_goBackTo 24 = .ok (.iload_n 1, 1) := by decide +kernel
theorem dX5_goBackTo_25 : decode cX5_goBackTo 25 = .ok (.bipush 17, 2) := by decide +kernel
theorem dX5_goBackTo_27 : decode cX5_goBackTo 27 = .ok (.imul, 1) := by decide +kernel
theorem dX5_goBackTo_28 : decode cX5_goBackTo 28 = .ok (.bipush 6, 2) := by decide +kernel
theorem dX5_goBackTo_30 : decode cX5_goBackTo 30 = .ok (.iadd, 1) := by decide +kernel
theorem dX5_goBackTo_31 : decode cX5_goBackTo 31 = .ok (.invokevirtual 72, 3) := by decide +kernel
theorem dX5_goBackTo_34 : decode cX5_goBackTo 34 = .ok (.aload_n 0, 1) := by decide +kernel
theorem dX5_goBackTo_35 : decode cX5_goBackTo 35 = .ok (.getfield 21, 3) := by decide +kernel
theorem dX5_goBackTo_38 : decode cX5_goBackTo 38 = .ok (.iload_n 1, 1) := by decide +kernel
theorem dX5_goBackTo_39 : decode cX5_goBackTo 39 = .ok (.putfield 44, 3) := by decide +kernel
theorem dX5_goBackTo_42 : decode cX5_goBackTo 42 = .ok (.return_, 1) := by decide +kernel
theorem dX5_offeringOn_0 : decode cX5_offeringOn 0 = .ok (.aload_n 0, 1) := by decide +kernel
theorem dX5_offeringOn_1 : decode cX5_offeringOn 1 = .ok (.iload_n 1, 1) := by decide +kernel
theorem dX5_offeringOn_2 : decode cX5_offeringOn 2 = .ok (.iconst 0, 1) := by decide +kernel
theorem dX5_offeringOn_3 : decode cX5_offeringOn 3 = .ok (.invokevirtual 75, 3) := by decide +kernel
theorem dX5_offeringOn_6 : decode cX5_offeringOn 6 = .ok (.ireturn, 1) := by decide +kernel
theorem dX5_sentOn_0 : decode cX5_sentOn 0 = .ok (.aload_n 0, 1) := by decide +kernel
theorem dX5_sentOn_1 : decode cX5_sentOn 1 = .ok (.getfield 16, 3) := by decide +kernel
theorem dX5_sentOn_4 : decode cX5_sentOn 4 = .ok (.iload_n 2, 1) := by decide +kernel
theorem dX5_sentOn_5 : decode cX5_sentOn 5 = .ok (.invokevirtual 79, 3) := by decide +kernel
theorem dX5_sentOn_8 : decode cX5_sentOn 8 = .ok (.ifCond .eq 14, 3) := by decide +kernel
theorem dX5_sentOn_11 : decode cX5_sentOn 11 = .ok (.aload_n 0, 1) := by decide +kernel
theorem dX5_sentOn_12 : decode cX5_sentOn 12 = .ok (.iload_n 1, 1) := by decide +kernel
theorem dX5_sentOn_13 : decode cX5_sentOn 13 = .ok (.iconst 2, 1) := by decide +kernel
theorem dX5_sentOn_14 : decode cX5_sentOn 14 = .ok (.iload_n 2, 1) := by decide +kernel
theorem dX5_sentOn_15 : decode cX5_sentOn 15 = .ok (.iadd, 1) := by decide +kernel
theorem dX5_sentOn_16 : decode cX5_sentOn 16 = .ok (.invokevirtual 75, 3) := by decide +kernel
theorem dX5_sentOn_19 : decode cX5_sentOn 19 = .ok (.goto 4, 3) := by decide +kernel
theorem dX5_sentOn_22 : decode cX5_sentOn 22 = .ok (.iconst 0, 1) := by decide +kernel
theorem dX5_sentOn_23 : decode cX5_sentOn 23 = .ok (.ireturn, 1) := by decide +kernel
theorem dX5_daysSinceFed_0 : decode cX5_daysSinceFed 0 = .ok (.aload_n 0, 1) := by decide +kernel
theorem dX5_daysSinceFed_1 : decode cX5_daysSinceFed 1 = .ok (.getfield 16, 3) := by decide +kernel
theorem dX5_daysSinceFed_4 : decode cX5_daysSinceFed 4 = .ok (.iload_n 1, 1) := by decide +kernel
theorem dX5_daysSinceFed_5 : decode cX5_daysSinceFed 5 = .ok (.invokevirtual 79, 3) := by decide +kernel
theorem dX5_daysSinceFed_8 : decode cX5_daysSinceFed 8 = .ok (.ifCond .ne 6, 3) := by decide +kernel
theorem dX5_daysSinceFed_11 : decode cX5_daysSinceFed 11 = .ok (.bipush (-9), 2) := by decide +kernel
theorem dX5_daysSinceFed_13 : decode cX5_daysSinceFed 13 = .ok (.ireturn, 1) := by decide +kernel
theorem dX5_daysSinceFed_14 : decode cX5_daysSinceFed 14 = .ok (.aload_n 0, 1) := by decide +kernel
theorem dX5_daysSinceFed_15 : decode cX5_daysSinceFed 15 = .ok (.getfield 21, 3) := by decide +kernel
theorem dX5_daysSinceFed_18 : decode cX5_daysSinceFed 18 = .ok (.getfield 44, 3) := by decide +kernel
theorem dX5_daysSinceFed_21 : decode cX5_daysSinceFed 21 = .ok (.iconst 1, 1) := by decide +kernel
theorem dX5_daysSinceFed_22 : decode cX5_daysSinceFed 22 = .ok (.isub, 1) := by decide +kernel
theorem dX5_daysSinceFed_23 : decode cX5_daysSinceFed 23 = .ok (.istore_n 2, 1) := by decide +kernel
theorem dX5_daysSinceFed_24 : decode cX5_daysSinceFed 24 = .ok (.iload_n 2, 1) := by decide +kernel
theorem dX5_daysSinceFed_25 : decode cX5_daysSinceFed 25 = .ok (.istore_n 3, 1) := by decide +kernel
theorem dX5_daysSinceFed_26 : decode cX5_daysSinceFed 26 = .ok (.iload_n 3, 1) := by decide +kernel
theorem dX5_daysSinceFed_27 : decode cX5_daysSinceFed 27 = .ok (.ifCond .lt 26, 3) := by decide +kernel
theorem dX5_daysSinceFed_30 : decode cX5_daysSinceFed 30 = .ok (.aload_n 0, 1) := by decide +kernel
theorem dX5_daysSinceFed_31 : decode cX5_daysSinceFed 31 = .ok (.iload_n 3, 1) := by decide +kernel
theorem dX5_daysSinceFed_32 : decode cX5_daysSinceFed 32 = .ok (.iconst 1, 1) := by decide +kernel
theorem dX5_daysSinceFed_33 : decode cX5_daysSinceFed 33 = .ok (.invokevirtual 75, 3) := by decide +kernel
theorem dX5_daysSinceFed_36 : decode cX5_daysSinceFed 36 = .ok (.iload_n 1, 1) := by decide +kernel
theorem dX5_daysSinceFed_37 : decode cX5_daysSinceFed 37 = .ok (.ishr, 1) := by decide +kernel
theorem dX5_daysSinceFed_38 : decode cX5_daysSinceFed 38 = .ok (.iconst 1, 1) := by decide +kernel
theorem dX5_daysSinceFed_39 : decode cX5_daysSinceFed 39 = .ok (.iand, 1) := by decide +kernel
theorem dX5_daysSinceFed_40 : decode cX5_daysSinceFed 40 = .ok (.ifCond .eq 7, 3) := by decide +kernel
theorem dX5_daysSinceFed_43 : decode cX5_daysSinceFed 43 = .ok (.iload_n 2, 1) := by decide +kernel
theorem dX5_daysSinceFed_44 : decode cX5_daysSinceFed 44 = .ok (.iload_n 3, 1) := by decide +kernel
theorem dX5_daysSinceFed_45 : decode cX5_daysSinceFed 45 = .ok (.isub, 1) := by decide +kernel
theorem dX5_daysSinceFed_46 : decode cX5_daysSinceFed 46 = .ok (.ireturn, 1) := by decide +kernel
theorem dX5_daysSinceFed_47 : decode cX5_daysSinceFed 47 = .ok (.iinc 3 (-1), 3) := by decide +kernel
theorem dX5_daysSinceFed_50 : decode cX5_daysSinceFed 50 = .ok (.goto (-24), 3) := by decide +kernel
theorem dX5_daysSinceFed_53 : decode cX5_daysSinceFed 53 = .ok (.bipush (-9), 2) := by decide +kernel
theorem dX5_daysSinceFed_55 : decode cX5_daysSinceFed 55 = .ok (.ireturn, 1) := by decide +kernel
theorem dX5_noted_0 : decode cX5_noted 0 = .ok (.iload_n 1, 1) := by decide +kernel
theorem dX5_noted_1 : decode cX5_noted 1 = .ok (.ifCond .lt 35, 3) := by decide +kernel
theorem dX5_noted_4 : decode cX5_noted 4 = .ok (.iload_n 1, 1) := by decide +kernel
theorem dX5_noted_5 : decode cX5_noted 5 = .ok (.aload_n 0, 1) := by decide +kernel
theorem dX5_noted_6 : decode cX5_noted 6 = .ok (.getfield 21, 3) := by decide +kernel
theorem dX5_noted_9 : decode cX5_noted 9 = .ok (.getfield 44, 3) := by decide +kernel
theorem dX5_noted_12 : decode cX5_noted 12 = .ok (.if_icmp .ge 24, 3) := by decide +kernel
theorem dX5_noted_15 : decode cX5_noted 15 = .ok (.iload_n 1, 1) := by decide +kernel
theorem dX5_noted_16 : decode cX5_noted 16 = .ok (.sipush 200, 3) := by decide +kernel
theorem dX5_noted_19 : decode cX5_noted 19 = .ok (.if_icmp .ge 17, 3) := by decide +kernel
theorem dX5_noted_22 : decode cX5_noted 22 = .ok (.aload_n 0, 1) := by decide +kernel
theorem dX5_noted_23 : decode cX5_noted 23 = .ok (.getfield 29, 3) := by decide +kernel
theorem dX5_noted_26 : decode cX5_noted 26 = .ok (.iload_n 1, 1) := by decide +kernel
theorem dX5_noted_27 : decode cX5_noted 27 = .ok (.bipush 17, 2) := by decide +kernel
theorem dX5_noted_29 : decode cX5_noted 29 = .ok (.imul, 1) := by decide +kernel
theorem dX5_noted_30 : decode cX5_noted 30 = .ok (.iload_n 2, 1) := by decide +kernel
theorem dX5_noted_31 : decode cX5_noted 31 = .ok (.iadd, 1) := by decide +kernel
theorem dX5_noted_32 : decode cX5_noted 32 = .ok (.iaload, 1) := by decide +kernel
theorem dX5_noted_33 : decode cX5_noted 33 = .ok (.goto 4, 3) := by decide +kernel
theorem dX5_noted_36 : decode cX5_noted 36 = .ok (.iconst 0, 1) := by decide +kernel
theorem dX5_noted_37 : decode cX5_noted 37 = .ok (.ireturn, 1) := by decide +kernel
