theorem dX7_offered_17 : decode cX7_offered 17 = .ok (.aload_n 0, 1) := by decide +kernel
theorem dX7_offered_18 : decode cX7_offered 18 = .ok (.getfield 44, 3) := by decide +kernel
theorem dX7_offered_21 : decode cX7_offered 21 = .ok (.bipush 20, 2) := by decide +kernel
theorem dX7_offered_23 : decode cX7_offered 23 = .ok (.iload_n 1, 1) := by decide +kernel
theorem dX7_offered_24 : decode cX7_offered 24 = .ok (.imul, 1) := by decide +kernel
theorem dX7_offered_25 : decode cX7_offered 25 = .ok (.bipush 15, 2) := by decide +kernel
theorem dX7_offered_27 : decode cX7_offered 27 = .ok (.iadd, 1) := by decide +kernel
theorem dX7_offered_28 : decode cX7_offered 28 = .ok (.iaload, 1) := by decide +kernel
theorem dX7_offered_29 : decode cX7_offered 29 = .ok (.goto 8, 3) := by decide +kernel
theorem dX7_offered_32 : decode cX7_offered 32 = .ok (.aload_n 0, 1) := by decide +kernel
theorem dX7_offered_33 : decode cX7_offered 33 = .ok (.iconst 2, 1) := by decide +kernel
theorem dX7_offered_34 : decode cX7_offered 34 = .ok (.invokevirtual 94, 3) := by decide +kernel
theorem dX7_offered_37 : decode cX7_offered 37 = .ok (.ireturn, 1) := by decide +kernel
theorem dX7_undo_0 : decode cX7_undo 0 = .ok (.iload_n 1, 1) := by decide +kernel
theorem dX7_undo_1 : decode cX7_undo 1 = .ok (.iconst 0, 1) := by decide +kernel
theorem dX7_undo_2 : decode cX7_undo 2 = .ok (.aload_n 0, 1) := by decide +kernel
theorem dX7_undo_3 : decode cX7_undo 3 = .ok (.iconst 0, 1) := by decide +kernel
theorem dX7_undo_4 : decode cX7_undo 4 = .ok (.bipush 14, 2) := by decide +kernel
theorem dX7_undo_6 : decode cX7_undo 6 = .ok (.invokevirtual 149, 3) := by decide +kernel
theorem dX7_undo_9 : decode cX7_undo 9 = .ok (.invokestatic 80, 3) := by decide +kernel
theorem dX7_undo_12 : decode cX7_undo 12 = .ok (.ifCond .ne 5, 3) := by decide +kernel
theorem dX7_undo_15 : decode cX7_undo 15 = .ok (.iconst (-1), 1) := by decide +kernel
theorem dX7_undo_16 : decode cX7_undo 16 = .ok (.ireturn, 1) := by decide +kernel
theorem dX7_undo_17 : decode cX7_undo 17 = .ok (.aload_n 0, 1) := by decide +kernel
theorem dX7_undo_18 : decode cX7_undo 18 = .ok (.iconst 0, 1) := by decide +kernel
theorem dX7_undo_19 : decode cX7_undo 19 = .ok (.bipush 14, 2) := by decide +kernel
theorem dX7_undo_21 : decode cX7_undo 21 = .ok (.invokevirtual 149, 3) := by decide +kernel
theorem dX7_undo_24 : decode cX7_undo 24 = .ok (.iload_n 1, 1) := by decide +kernel
theorem dX7_undo_25 : decode cX7_undo 25 = .ok (.isub, 1) := by decide +kernel
theorem dX7_undo_26 : decode cX7_undo 26 = .ok (.istore_n 2, 1) := by decide +kernel
theorem dX7_undo_27 : decode cX7_undo 27 = .ok (.iconst 0, 1) := by decide +kernel
theorem dX7_undo_28 : decode cX7_undo 28 = .ok (.istore_n 3, 1) := by decide +kernel
theorem dX7_undo_29 : decode cX7_undo 29 = .ok (.iload_n 3, 1) := by decide +kernel
theorem dX7_undo_30 : decode cX7_undo 30 = .ok (.bipush 15, 2) := by decide +kernel
theorem dX7_undo_32 : decode cX7_undo 32 = .ok (.if_icmp .ge 30, 3) := by decide +kernel
theorem dX7_undo_35 : decode cX7_undo 35 = .ok (.iload_n 2, 1) := by decide +kernel
theorem dX7_undo_36 : decode cX7_undo 36 = .ok (.ifCond .le 26, 3) := by decide +kernel
theorem dX7_undo_39 : decode cX7_undo 39 = .ok (.aload_n 0, 1) := by decide +kernel
theorem dX7_undo_40 : decode cX7_undo 40 = .ok (.iconst 0, 1) := by decide +kernel
theorem dX7_undo_41 : decode cX7_undo 41 = .ok (.iload_n 3, 1) := by decide +kernel
theorem dX7_undo_42 : decode cX7_undo 42 = .ok (.aload_n 0, 1) := by decide +kernel
theorem dX7_undo_43 : decode cX7_undo 43 = .ok (.getfield 44, 3) := by decide +kernel
theorem dX7_undo_46 : decode cX7_undo 46 = .ok (.bipush 20, 2) := by decide +kernel
theorem dX7_undo_48 : decode cX7_undo 48 = .ok (.iload_n 1, 1) := by decide +kernel
theorem dX7_undo_49 : decode cX7_undo 49 = .ok (.imul, 1) := by decide +kernel
theorem dX7_undo_50 : decode cX7_undo 50 = .ok (.iload_n 3, 1) := by decide +kernel
theorem dX7_undo_51 : decode cX7_undo 51 = .ok (.iadd, 1) := by decide +kernel
theorem dX7_undo_52 : decode cX7_undo 52 = .ok (.iaload, 1) := by decide +kernel
theorem dX7_undo_53 : decode cX7_undo 53 = .ok (.invokevirtual 142, 3) := by decide +kernel
theorem dX7_undo_56 : decode cX7_undo 56 = .ok (.iinc 3 1, 3) := by decide +kernel
theorem dX7_undo_59 : decode cX7_undo 59 = .ok (.goto (-30), 3) := by decide +kernel
theorem dX7_undo_62 : decode cX7_undo 62 = .ok (.iload_n 2, 1) := by decide +kernel
theorem dX7_undo_63 : decode cX7_undo 63 = .ok (.ireturn, 1) := by decide +kernel
theorem dX7_sums_0 : decode cX7_sums 0 = .ok (.aload_n 0, 1) := by decide +kernel
theorem dX7_sums_1 : decode cX7_sums 1 = .ok (.aload_n 0, 1) := by decide +kernel
theorem dX7_sums_2 : decode cX7_sums 2 = .ok (.iconst 0, 1) := by decide +kernel
theorem dX7_sums_3 : decode cX7_sums 3 = .ok (.bipush 13, 2) := by decide +kernel
theorem dX7_sums_5 : decode cX7_sums 5 = .ok (.invokevirtual 149, 3) := by decide +kernel
theorem dX7_sums_8 : decode cX7_sums 8 = .ok (.aload_n 0, 1) := by decide +kernel
theorem dX7_sums_9 : decode cX7_sums 9 = .ok (.iconst 0, 1) := by decide +kernel
theorem dX7_sums_10 : decode cX7_sums 10 = .ok (.bipush 12, 2) := by decide +kernel
theorem dX7_sums_12 : decode cX7_sums 12 = .ok (.invokevirtual 149, 3) := by decide +kernel
theorem dX7_sums_15 : decode cX7_sums 15 = .ok (.invokevirtual 102, 3) := by decide +kernel
theorem dX7_sums_18 : decode cX7_sums 18 = .ok (.ireturn, 1) := by decide +kernel
theorem dX7_keep_0 : decode cX7_keep 0 = .ok (.iload_n 1, 1) := by decide +kernel
theorem dX7_keep_1 : decode cX7_keep 1 = .ok (.iconst 0, 1) := by decide +kernel
theorem dX7_keep_2 : decode cX7_keep 2 = .ok (.iconst 2, 1) := by decide +kernel
theorem dX7_keep_3 : decode cX7_keep 3 = .ok (.invokestatic 80, 3) := by decide +kernel
theorem dX7_keep_6 : decode cX7_keep 6 = .ok (.ifCond .ne 5, 3) := by decide +kernel
theorem dX7_keep_9 : decode cX7_keep 9 = .ok (.iconst (-1), 1) := by decide +kernel
theorem dX7_keep_10 : decode cX7_keep 10 = .ok (.ireturn, 1) := by decide +kernel
theorem dX7_keep_11 : decode cX7_keep 11 = .ok (.aload_n 0, 1) := by decide +kernel
theorem dX7_keep_12 : decode cX7_keep 12 = .ok (.getfield 139, 3) := by decide +kernel
theorem dX7_keep_15 : decode cX7_keep 15 = .ok (.ifCond .ne 6, 3) := by decide +kernel
theorem dX7_keep_18 : decode cX7_keep 18 = .ok (.bipush (-4), 2) := by decide +kernel
theorem dX7_keep_20 : decode cX7_keep 20 = .ok (.ireturn, 1) := by decide +kernel
theorem dX7_keep_21 : decode cX7_keep 21 = .ok (.iconst 0, 1) := by decide +kernel
theorem dX7_keep_22 : decode cX7_keep 22 = .ok (.istore_n 2, 1) := by decide +kernel
theorem dX7_keep_23 : decode cX7_keep 23 = .ok (.iload_n 2, 1) := by decide +kernel
theorem dX7_keep_24 : decode cX7_keep 24 = .ok (.bipush 15, 2) := by decide +kernel
theorem dX7_keep_26 : decode cX7_keep 26 = .ok (.if_icmp .ge 26, 3) := by decide +kernel
theorem dX7_keep_29 : decode cX7_keep 29 = .ok (.aload_n 0, 1) := by decide +kernel
theorem dX7_keep_30 : decode cX7_keep 30 = .ok (.getfield 51, 3) := by decide +kernel
theorem dX7_keep_33 : decode cX7_keep 33 = .ok (.bipush 15, 2) := by decide +kernel
theorem dX7_keep_35 : decode cX7_keep 35 = .ok (.iload_n 1, 1) := by decide +kernel
theorem dX7_keep_36 : decode cX7_keep 36 = .ok (.imul, 1) := by decide +kernel
theorem dX7_keep_37 : decode cX7_keep 37 = .ok (.iload_n 2, 1) := by decide +kernel
theorem dX7_keep_38 : decode cX7_keep 38 = .ok (.iadd, 1) := by decide +kernel
theorem dX7_keep_39 : decode cX7_keep 39 = .ok (.aload_n 0, 1) := by decide +kernel
theorem dX7_keep_40 : decode cX7_keep 40 = .ok (.iconst 0, 1) := by decide +kernel
theorem dX7_keep_41 : decode cX7_keep 41 = .ok (.iload_n 2, 1) := by decide +kernel
theorem dX7_keep_42 : decode cX7_keep 42 = .ok (.invokevirtual 149, 3) := by decide +kernel
theorem dX7_keep_45 : decode cX7_keep 45 = .ok (.iastore, 1) := by decide +kernel
theorem dX7_keep_46 : decode cX7_keep 46 = .ok (.iinc 2 1, 3) := by decide +kernel
theorem dX7_keep_49 : decode cX7_keep 49 = .ok (.goto (-26), 3) := by decide +kernel
theorem dX7_keep_52 : decode cX7_keep 52 = .ok (.iconst 0, 1) := by decide +kernel
theorem dX7_keep_53 : decode cX7_keep 53 = .ok (.istore_n 2, 1) := by decide +kernel
theorem dX7_keep_54 : decode cX7_keep 54 = .ok (.iload_n 2, 1) := by decide +kernel
theorem dX7_keep_55 : decode cX7_keep 55 = .ok (.aload_n 0, 1) := by decide +kernel
theorem dX7_keep_56 : decode cX7_keep 56 = .ok (.getfield 139, 3) := by decide +kernel
theorem dX7_keep_59 : decode cX7_keep 59 = .ok (.if_icmp .ge 24, 3) := by decide +kernel
theorem dX7_keep_62 : decode cX7_keep 62 = .ok (.aload_n 0, 1) := by decide +kernel
theorem dX7_keep_63 : decode cX7_keep 63 = .ok (.getfield 54, 3) := by decide +kernel
theorem dX7_keep_66 : decode cX7_keep 66 = .ok (.iconst 4, 1) := by decide +kernel
theorem dX7_keep_67 : decode cX7_keep 67 = .ok (.iload_n 1, 1) := by decide +kernel
theorem dX7_keep_68 : decode cX7_keep 68 = .ok (.imul, 1) := by decide +kernel
theorem dX7_keep_69 : decode cX7_keep 69 = .ok (.iload_n 2, 1) := by decide +kernel
theorem dX7_keep_70 : decode cX7_keep 70 = .ok (.iadd, 1) := by decide +kernel
theorem dX7_keep_71 : decode cX7_keep 71 = .ok (.aload_n 0, 1) := by decide +kernel
theorem dX7_keep_72 : decode cX7_keep 72 = .ok (.iload_n 2, 1) := by decide +kernel
theorem dX7_keep_73 : decode cX7_keep 73 = .ok (.invokevirtual 192, 3) := by decide +kernel
theorem dX7_keep_76 : decode cX7_keep 76 = .ok (.iastore, 1) := by decide +kernel
theorem dX7_keep_77 : decode cX7_keep 77 = .ok (.iinc 2 1, 3) := by decide +kernel
theorem dX7_keep_80 : decode cX7_keep 80 = .ok (.goto (-26), 3) := by decide +kernel
theorem dX7_keep_83 : decode cX7_keep 83 = .ok (.iconst 0, 1) := by decide +kernel
theorem dX7_keep_84 : decode cX7_keep 84 = .ok (.istore_n 2, 1) := by decide +kernel
theorem dX7_keep_85 : decode cX7_keep 85 = .ok (.iload_n 2, 1) := by decide +kernel
theorem dX7_keep_86 : decode cX7_keep 86 = .ok (.bipush 20, 2) := by decide +kernel
theorem dX7_keep_88 : decode cX7_keep 88 = .ok (.aload_n 0, 1) := by decide +kernel
theorem dX7_keep_89 : decode cX7_keep 89 = .ok (.iconst 0, 1) := by decide +kernel
theorem dX7_keep_90 : decode cX7_keep 90 = .ok (.bipush 14, 2) := by decide +kernel
theorem dX7_keep_92 : decode cX7_keep 92 = .ok (.invokevirtual 149, 3) := by decide +kernel
theorem dX7_keep_95 : decode cX7_keep 95 = .ok (.imul, 1) := by decide +kernel
theorem dX7_keep_96 : decode cX7_keep 96 = .ok (.if_icmp .ge 27, 3) := by decide +kernel
theorem dX7_keep_99 : decode cX7_keep 99 = .ok (.aload_n 0, 1) := by decide +kernel
theorem dX7_keep_100 : decode cX7_keep 100 = .ok (.getfield 57, 3) := by decide +kernel
theorem dX7_keep_103 : decode cX7_keep 103 = .ok (.sipush 4000, 3) := by decide +kernel
theorem dX7_keep_106 : decode cX7_keep 106 = .ok (.iload_n 1, 1) := by decide +kernel
theorem dX7_keep_107 : decode cX7_keep 107 = .ok (.imul, 1) := by decide +kernel
theorem dX7_keep_108 : decode cX7_keep 108 = .ok (.iload_n 2, 1) := by decide +kernel
theorem dX7_keep_109 : decode cX7_keep 109 = .ok (.iadd, 1) := by decide +kernel
theorem dX7_keep_110 : decode cX7_keep 110 = .ok (.aload_n 0, 1) := by decide +kernel
theorem dX7_keep_111 : decode cX7_keep 111 = .ok (.getfield 44, 3) := by decide +kernel
theorem dX7_keep_114 : decode cX7_keep 114 = .ok (.iload_n 2, 1) := by decide +kernel
theorem dX7_keep_115 : decode cX7_keep 115 = .ok (.iaload, 1) := by decide +kernel
theorem dX7_keep_116 : decode cX7_keep 116 = .ok (.iastore, 1) := by decide +kernel
theorem dX7_keep_117 : decode cX7_keep 117 = .ok (.iinc 2 1, 3) := by decide +kernel
theorem dX7_keep_120 : decode cX7_keep 120 = .ok (.goto (-35), 3) := by decide +kernel
theorem dX7_keep_123 : decode cX7_keep 123 = .ok (.aload_n 0, 1) := by decide +kernel
theorem dX7_keep_124 : decode cX7_keep 124 = .ok (.getfield 47, 3) := by decide +kernel
theorem dX7_keep_127 : decode cX7_keep 127 = .ok (.iload_n 1, 1) := by decide +kernel
theorem dX7_keep_128 : decode cX7_keep 128 = .ok (.iconst 1, 1) := by decide +kernel
theorem dX7_keep_129 : decode cX7_keep 129 = .ok (.bastore, 1) := by decide +kernel
theorem dX7_keep_130 : decode cX7_keep 130 = .ok (.aload_n 0, 1) := by decide +kernel
theorem dX7_keep_131 : decode cX7_keep 131 = .ok (.iconst 0, 1) := by decide +kernel
theorem dX7_keep_132 : decode cX7_keep 132 = .ok (.bipush 14, 2) := by decide +kernel
theorem dX7_keep_134 : decode cX7_keep 134 = .ok (.invokevirtual 149, 3) := by decide +kernel
theorem dX7_keep_137 : decode cX7_keep 137 = .ok (.ireturn, 1) := by decide +kernel
theorem dX7_on_0 : decode cX7_on 0 = .ok (.iload_n 1, 1) := by decide +kernel
theorem dX7_on_1 : decode cX7_on 1 = .ok (.iconst 0, 1) := by decide +kernel
theorem dX7_on_2 : decode cX7_on 2 = .ok (.iconst 2, 1) := by decide +kernel
theorem dX7_on_3 : decode cX7_on 3 = .ok (.invokestatic 80, 3) := by decide +kernel
theorem dX7_on_6 : decode cX7_on 6 = .ok (.ifCond .ne 5, 3) := by decide +kernel
theorem dX7_on_9 : decode cX7_on 9 = .ok (.iconst (-1), 1) := by decide +kernel
theorem dX7_on_10 : decode cX7_on 10 = .ok (.ireturn, 1) := by decide +kernel
theorem dX7_on_11 : decode cX7_on 11 = .ok (.aload_n 0, 1) := by decide +kernel
theorem dX7_on_12 : decode cX7_on 12 = .ok (.getfield 47, 3) := by decide +kernel
theorem dX7_on_15 : decode cX7_on 15 = .ok (.iload_n 1, 1) := by decide +kernel
theorem dX7_on_16 : decode cX7_on 16 = .ok (.baload, 1) := by decide +kernel
theorem dX7_on_17 : decode cX7_on 17 = .ok (.ifCond .ne 9, 3) := by decide +kernel
theorem dX7_on_20 : decode cX7_on 20 = .ok (.aload_n 0, 1) := by decide +kernel
theorem dX7_on_21 : decode cX7_on 21 = .ok (.iconst 1, 1) := by decide +kernel
theorem dX7_on_22 : decode cX7_on 22 = .ok (.invokevirtual 94, 3) := by decide +kernel
theorem dX7_on_25 : decode cX7_on 25 = .ok (.ireturn, 1) := by decide +kernel
theorem dX7_on_26 : decode cX7_on 26 = .ok (.iconst 0, 1) := by decide +kernel
theorem dX7_on_27 : decode cX7_on 27 = .ok (.istore_n 2, 1) := by decide +kernel
theorem dX7_on_28 : decode cX7_on 28 = .ok (.iload_n 2, 1) := by decide +kernel
theorem dX7_on_29 : decode cX7_on 29 = .ok (.bipush 15, 2) := by decide +kernel
theorem dX7_on_31 : decode cX7_on 31 = .ok (.if_icmp .ge 26, 3) := by decide +kernel
theorem dX7_on_34 : decode cX7_on 34 = .ok (.aload_n 0, 1) := by decide +kernel
theorem dX7_on_35 : decode cX7_on 35 = .ok (.iconst 0, 1) := by decide +kernel
theorem dX7_on_36 : decode cX7_on 36 = .ok (.iload_n 2, 1) := by decide +kernel
theorem dX7_on_37 : decode cX7_on 37 = .ok (.aload_n 0, 1) := by decide +kernel
theorem dX7_on_38 : decode cX7_on 38 = .ok (.getfield 51, 3) := by decide +kernel
theorem dX7_on_41 : decode cX7_on 41 = .ok (.bipush 15, 2) := by decide +kernel
theorem dX7_on_43 : decode cX7_on 43 = .ok (.iload_n 1, 1) := by decide +kernel
theorem dX7_on_44 : decode cX7_on 44 = .ok (.imul, 1) := by decide +kernel
theorem dX7_on_45 : decode cX7_on 45 = .ok (.iload_n 2, 1) := by decide +kernel
theorem dX7_on_46 : decode cX7_on 46 = .ok (.iadd, 1) := by decide +kernel
theorem dX7_on_47 : decode cX7_on 47 = .ok (.iaload, 1) := by decide +kernel
theorem dX7_on_48 : decode cX7_on 48 = .ok (.invokevirtual 142, 3) := by decide +kernel
theorem dX7_on_51 : decode cX7_on 51 = .ok (.iinc 2 1, 3) := by decide +kernel
theorem dX7_on_54 : decode cX7_on 54 = .ok (.goto (-26), 3) := by decide +kernel
theorem dX7_on_57 : decode cX7_on 57 = .ok (.iconst 0, 1) := by decide +kernel
theorem dX7_on_58 : decode cX7_on 58 = .ok (.istore_n 2, 1) := by decide +kernel
theorem dX7_on_59 : decode cX7_on 59 = .ok (.iload_n 2, 1) := by decide +kernel
theorem dX7_on_60 : decode cX7_on 60 = .ok (.aload_n 0, 1) := by decide +kernel
theorem dX7_on_61 : decode cX7_on 61 = .ok (.getfield 139, 3) := by decide +kernel
theorem dX7_on_64 : decode cX7_on 64 = .ok (.if_icmp .ge 30, 3) := by decide +kernel
theorem dX7_on_67 : decode cX7_on 67 = .ok (.aload_n 0, 1) := by decide +kernel
theorem dX7_on_68 : decode cX7_on 68 = .ok (.getfield 29, 3) := by decide +kernel
theorem dX7_on_71 : decode cX7_on 71 = .ok (.bipush 6, 2) := by decide +kernel
theorem dX7_on_73 : decode cX7_on 73 = .ok (.iload_n 2, 1) := by decide +kernel
theorem dX7_on_74 : decode cX7_on 74 = .ok (.imul, 1) := by decide +kernel
theorem dX7_on_75 : decode cX7_on 75 = .ok (.iconst 2, 1) := by decide +kernel
theorem dX7_on_76 : decode cX7_on 76 = .ok (.iadd, 1) := by decide +kernel
theorem dX7_on_77 : decode cX7_on 77 = .ok (.aload_n 0, 1) := by decide +kernel
theorem dX7_on_78 : decode cX7_on 78 = .ok (.getfield 54, 3) := by decide +kernel
theorem dX7_on_81 : decode cX7_on 81 = .ok (.iconst 4, 1) := by decide +kernel
theorem dX7_on_82 : decode cX7_on 82 = .ok (.iload_n 1, 1) := by decide +kernel
theorem dX7_on_83 : decode cX7_on 83 = .ok (.imul, 1) := by decide +kernel
theorem dX7_on_84 : decode cX7_on 84 = .ok (.iload_n 2, 1) := by decide +kernel
theorem dX7_on_85 : decode cX7_on 85 = .ok (.iadd, 1) := by decide +kernel
theorem dX7_on_86 : decode cX7_on 86 = .ok (.iaload, 1) := by decide +kernel
theorem dX7_on_87 : decode cX7_on 87 = .ok (.iastore, 1) := by decide +kernel
theorem dX7_on_88 : decode cX7_on 88 = .ok (.iinc 2 1, 3) := by decide +kernel
theorem dX7_on_91 : decode cX7_on 91 = .ok (.goto (-32), 3) := by decide +kernel
theorem dX7_on_94 : decode cX7_on 94 = .ok (.iconst 0, 1) := by decide +kernel
theorem dX7_on_95 : decode cX7_on 95 = .ok (.istore_n 2, 1) := by decide +kernel
theorem dX7_on_96 : decode cX7_on 96 = .ok (.iload_n 2, 1) := by decide +kernel
theorem dX7_on_97 : decode cX7_on 97 = .ok (.bipush 20, 2) := by decide +kernel
theorem dX7_on_99 : decode cX7_on 99 = .ok (.aload_n 0, 1) := by decide +kernel
theorem dX7_on_100 : decode cX7_on 100 = .ok (.iconst 0, 1) := by decide +kernel
theorem dX7_on_101 : decode cX7_on 101 = .ok (.bipush 14, 2) := by decide +kernel
theorem dX7_on_103 : decode cX7_on 103 = .ok (.invokevirtual 149, 3) := by decide +kernel
theorem dX7_on_106 : decode cX7_on 106 = .ok (.imul, 1) := by decide +kernel
theorem dX7_on_107 : decode cX7_on 107 = .ok (.if_icmp .ge 27, 3) := by decide +kernel
theorem dX7_on_110 : decode cX7_on 110 = .ok (.aload_n 0, 1) := by decide +kernel
theorem dX7_on_111 : decode cX7_on 111 = .ok (.getfield 44, 3) := by decide +kernel
theorem dX7_on_114 : decode cX7_on 114 = .ok (.iload_n 2, 1) := by decide +kernel
theorem dX7_on_115 : decode cX7_on 115 = .ok (.aload_n 0, 1) := by decide +kernel
theorem dX7_on_116 : decode cX7_on 116 = .ok (.getfield 57, 3) := by decide +kernel
theorem dX7_on_119 : decode cX7_on 119 = .ok (.sipush 4000, 3) := by decide +kernel
theorem dX7_on_122 : decode cX7_on 122 = .ok (.iload_n 1, 1) := by decide +kernel
theorem dX7_on_123 : decode cX7_on 123 = .ok (.imul, 1) := by decide +kernel
theorem dX7_on_124 : decode cX7_on 124 = .ok (.iload_n 2, 1) := by decide +kernel
theorem dX7_on_125 : decode cX7_on 125 = .ok (.iadd, 1) := by decide +kernel
theorem dX7_on_126 : decode cX7_on 126 = .ok (.iaload, 1) := by decide +kernel
theorem dX7_on_127 : decode cX7_on 127 = .ok (.iastore, 1) := by decide +kernel
theorem dX7_on_128 : decode cX7_on 128 = .ok (.iinc 2 1, 3) := by decide +kernel
theorem dX7_on_131 : decode cX7_on 131 = .ok (.goto (-35), 3) := by decide +kernel
theorem dX7_on_134 : decode cX7_on 134 = .ok (.aload_n 0, 1) := by decide +kernel
theorem dX7_on_135 : decode cX7_on 135 = .ok (.iconst 0, 1) := by decide +kernel
theorem dX7_on_136 : decode cX7_on 136 = .ok (.bipush 14, 2) := by decide +kernel
theorem dX7_on_138 : decode cX7_on 138 = .ok (.invokevirtual 149, 3) := by decide +kernel
theorem dX7_on_141 : decode cX7_on 141 = .ok (.ireturn, 1) := by decide +kernel
theorem dX7_noPlan_0 : decode cX7_noPlan 0 = .ok (.aload_n 0, 1) := by decide +kernel
theorem dX7_noPlan_1 : decode cX7_noPlan 1 = .ok (.iload_n 1, 1) := by decide +kernel
theorem dX7_noPlan_2 : decode cX7_noPlan 2 = .ok (.putfield 226, 3) := by decide +kernel
theorem dX7_noPlan_5 : decode cX7_noPlan 5 = .ok (.iconst 0, 1) := by decide +kernel
theorem dX7_noPlan_6 : decode cX7_noPlan 6 = .ok (.istore_n 2, 1) := by decide +kernel
theorem dX7_noPlan_7 : decode cX7_noPlan 7 = .ok (.iload_n 2, 1) := by decide +kernel
theorem dX7_noPlan_8 : decode cX7_noPlan 8 = .ok (.iload_n 1, 1) := by decide +kernel
theorem dX7_noPlan_9 : decode cX7_noPlan 9 = .ok (.if_icmp .ge 27, 3) := by decide +kernel
theorem dX7_noPlan_12 : decode cX7_noPlan 12 = .ok (.aload_n 0, 1) := by decide +kernel
theorem dX7_noPlan_13 : decode cX7_noPlan 13 = .ok (.getfield 60, 3) := by decide +kernel
theorem dX7_noPlan_16 : decode cX7_noPlan 16 = .ok (.iload_n 2, 1) := by decide +kernel
theorem dX7_noPlan_17 : decode cX7_noPlan 17 = .ok (.iload_n 2, 1) := by decide +kernel
theorem dX7_noPlan_18 : decode cX7_noPlan 18 = .ok (.iload_n 1, 1) := by decide +kernel
theorem dX7_noPlan_19 : decode cX7_noPlan 19 = .ok (.iconst 1, 1) := by decide +kernel
theorem dX7_noPlan_20 : decode cX7_noPlan 20 = .ok (.isub, 1) := by decide +kernel
theorem dX7_noPlan_21 : decode cX7_noPlan 21 = .ok (.if_icmp .ne 7, 3) := by decide +kernel
theorem dX7_noPlan_24 : decode cX7_noPlan 24 = .ok (.iconst (-1), 1) := by decide +kernel
theorem dX7_noPlan_25 : decode cX7_noPlan 25 = .ok (.goto 4, 3) := by decide +kernel
theorem dX7_noPlan_28 : decode cX7_noPlan 28 = .ok (.iconst 0, 1) := by decide +kernel
theorem dX7_noPlan_29 : decode cX7_noPlan 29 = .ok (.iastore, 1) := by decide +kernel
theorem dX7_noPlan_30 : decode cX7_noPlan 30 = .ok (.iinc 2 1, 3) := by decide +kernel
theorem dX7_noPlan_33 : decode cX7_noPlan 33 = .ok (.goto (-26), 3) := by decide +kernel
theorem dX7_noPlan_36 : decode cX7_noPlan 36 = .ok (.return_, 1) := by decide +kernel
theorem dX7_nextPlan_0 : decode cX7_nextPlan 0 = .ok (.aload_n 0, 1) := by decide +kernel
theorem dX7_nextPlan_1 : decode cX7_nextPlan 1 = .ok (.getfield 226, 3) := by decide +kernel
theorem dX7_nextPlan_4 : decode cX7_nextPlan 4 = .ok (.iconst 1, 1) := by decide +kernel
theorem dX7_nextPlan_5 : decode cX7_nextPlan 5 = .ok (.isub, 1) := by decide +kernel
theorem dX7_nextPlan_6 : decode cX7_nextPlan 6 = .ok (.istore_n 1, 1) := by decide +kernel
theorem dX7_nextPlan_7 : decode cX7_nextPlan 7 = .ok (.iload_n 1, 1) := by decide +kernel
theorem dX7_nextPlan_8 : decode cX7_nextPlan 8 = .ok (.ifCond .lt 106, 3) := by decide +kernel
theorem dX7_nextPlan_11 : decode cX7_nextPlan 11 = .ok (.aload_n 0, 1) := by decide +kernel
theorem dX7_nextPlan_12 : decode cX7_nextPlan 12 = .ok (.getfield 60, 3) := by decide +kernel
theorem dX7_nextPlan_15 : decode cX7_nextPlan 15 = .ok (.iload_n 1, 1) := by decide +kernel
theorem dX7_nextPlan_16 : decode cX7_nextPlan 16 = .ok (.dup2, 1) := by decide +kernel
theorem dX7_nextPlan_17 : decode cX7_nextPlan 17 = .ok (.iaload, 1) := by decide +kernel
theorem dX7_nextPlan_18 : decode cX7_nextPlan 18 = .ok (.iconst 1, 1) := by decide +kernel
theorem dX7_nextPlan_19 : decode cX7_nextPlan 19 = .ok (.iadd, 1) := by decide +kernel
theorem dX7_nextPlan_20 : decode cX7_nextPlan 20 = .ok (.iastore, 1) := by decide +kernel
theorem dX7_nextPlan_21 : decode cX7_nextPlan 21 = .ok (.aload_n 0, 1) := by decide +kernel
theorem dX7_nextPlan_22 : decode cX7_nextPlan 22 = .ok (.getfield 60, 3) := by decide +kernel
theorem dX7_nextPlan_25 : decode cX7_nextPlan 25 = .ok (.iload_n 1, 1) := by decide +kernel
theorem dX7_nextPlan_26 : decode cX7_nextPlan 26 = .ok (.iaload, 1) := by decide +kernel
theorem dX7_nextPlan_27 : decode cX7_nextPlan 27 = .ok (.bipush 12, 2) := by decide +kernel
theorem dX7_nextPlan_29 : decode cX7_nextPlan 29 = .ok (.if_icmp .le 9, 3) := by decide +kernel
theorem dX7_nextPlan_32 : decode cX7_nextPlan 32 = .ok (.iinc 1 (-1), 3) := by decide +kernel
theorem dX7_nextPlan_35 : decode cX7_nextPlan 35 = .ok (.goto (-28), 3) := by decide +kernel
theorem dX7_nextPlan_38 : decode cX7_nextPlan 38 = .ok (.iload_n 1, 1) := by decide +kernel
theorem dX7_nextPlan_39 : decode cX7_nextPlan 39 = .ok (.iconst 1, 1) := by decide +kernel
theorem dX7_nextPlan_40 : decode cX7_nextPlan 40 = .ok (.iadd, 1) := by decide +kernel
theorem dX7_nextPlan_41 : decode cX7_nextPlan 41 = .ok (.istore_n 2, 1) := by decide +kernel
theorem dX7_nextPlan_42 : decode cX7_nextPlan 42 = .ok (.iload_n 2, 1) := by decide +kernel
theorem dX7_nextPlan_43 : decode cX7_nextPlan 43 = .ok (.aload_n 0, 1) := by decide +kernel
theorem dX7_nextPlan_44 : decode cX7_nextPlan 44 = .ok (.getfield 226, 3) := by decide +kernel
theorem dX7_nextPlan_47 : decode cX7_nextPlan 47 = .ok (.if_icmp .ge 16, 3) := by decide +kernel
theorem dX7_nextPlan_50 : decode cX7_nextPlan 50 = .ok (.aload_n 0, 1) := by decide +kernel
theorem dX7_nextPlan_51 : decode cX7_nextPlan 51 = .ok (.getfield 60, 3) := by decide +kernel
theorem dX7_nextPlan_54 : decode cX7_nextPlan 54 = .ok (.iload_n 2, 1) := by decide +kernel
theorem dX7_nextPlan_55 : decode cX7_nextPlan 55 = .ok (.iconst 0, 1) := by decide +kernel
theorem dX7_nextPlan_56 : decode cX7_nextPlan 56 = .ok (.iastore, 1) := by decide +kernel
theorem dX7_nextPlan_57 : decode cX7_nextPlan 57 = .ok (.iinc 2 1, 3) := by decide +kernel
theorem dX7_nextPlan_60 : decode cX7_nextPlan 60 = .ok (.goto (-18), 3) := by decide +kernel
theorem dX7_nextPlan_63 : decode cX7_nextPlan 63 = .ok (.aload_n 0, 1) := by decide +kernel
theorem dX7_nextPlan_64 : decode cX7_nextPlan 64 = .ok (.invokevirtual 229, 3) := by decide +kernel
theorem dX7_nextPlan_67 : decode cX7_nextPlan 67 = .ok (.istore_n 2, 1) := by decide +kernel
theorem dX7_nextPlan_68 : decode cX7_nextPlan 68 = .ok (.iload_n 2, 1) := by decide +kernel
theorem dX7_nextPlan_69 : decode cX7_nextPlan 69 = .ok (.aload_n 0, 1) := by decide +kernel
theorem dX7_nextPlan_70 : decode cX7_nextPlan 70 = .ok (.getfield 226, 3) := by decide +kernel
theorem dX7_nextPlan_73 : decode cX7_nextPlan 73 = .ok (.if_icmp .ne 5, 3) := by decide +kernel
theorem dX7_nextPlan_76 : decode cX7_nextPlan 76 = .ok (.iconst 1, 1) := by decide +kernel
theorem dX7_nextPlan_77 : decode cX7_nextPlan 77 = .ok (.ireturn, 1) := by decide +kernel
theorem dX7_nextPlan_78 : decode cX7_nextPlan 78 = .ok (.iload_n 2, 1) := by decide +kernel
theorem dX7_nextPlan_79 : decode cX7_nextPlan 79 = .ok (.iconst 1, 1) := by decide +kernel
theorem dX7_nextPlan_80 : decode cX7_nextPlan 80 = .ok (.iadd, 1) := by decide +kernel
theorem dX7_nextPlan_81 : decode cX7_nextPlan 81 = .ok (.istore_n 3, 1) := by decide +kernel
theorem dX7_nextPlan_82 : decode cX7_nextPlan 82 = .ok (.iload_n 3, 1) := by decide +kernel
theorem dX7_nextPlan_83 : decode cX7_nextPlan 83 = .ok (.aload_n 0, 1) := by decide +kernel
theorem dX7_nextPlan_84 : decode cX7_nextPlan 84 = .ok (.getfield 226, 3) := by decide +kernel
theorem dX7_nextPlan_87 : decode cX7_nextPlan 87 = .ok (.if_icmp .ge 17, 3) := by decide +kernel
theorem dX7_nextPlan_90 : decode cX7_nextPlan 90 = .ok (.aload_n 0, 1) := by decide +kernel
theorem dX7_nextPlan_91 : decode cX7_nextPlan 91 = .ok (.getfield 60, 3) := by decide +kernel
theorem dX7_nextPlan_94 : decode cX7_nextPlan 94 = .ok (.iload_n 3, 1) := by decide +kernel
theorem dX7_nextPlan_95 : decode cX7_nextPlan 95 = .ok (.bipush 12, 2) := by decide +kernel
theorem dX7_nextPlan_97 : decode cX7_nextPlan 97 = .ok (.iastore, 1) := by decide +kernel
theorem dX7_nextPlan_98 : decode cX7_nextPlan 98 = .ok (.iinc 3 1, 3) := by decide +kernel
theorem dX7_nextPlan_101 : decode cX7_nextPlan 101 = .ok (.goto (-19), 3) := by decide +kernel
theorem dX7_nextPlan_104 : decode cX7_nextPlan 104 = .ok (.aload_n 0, 1) := by decide +kernel
theorem dX7_nextPlan_105 : decode cX7_nextPlan 105 = .ok (.getfield 226, 3) := by decide +kernel
theorem dX7_nextPlan_108 : decode cX7_nextPlan 108 = .ok (.iconst 1, 1) := by decide +kernel
theorem dX7_nextPlan_109 : decode cX7_nextPlan 109 = .ok (.isub, 1) := by decide +kernel
theorem dX7_nextPlan_110 : decode cX7_nextPlan 110 = .ok (.istore_n 1, 1) := by decide +kernel
theorem dX7_nextPlan_111 : decode cX7_nextPlan 111 = .ok (.goto (-104), 3) := by decide +kernel
theorem dX7_nextPlan_114 : decode cX7_nextPlan 114 = .ok (.iconst 0, 1) := by decide +kernel
theorem dX7_nextPlan_115 : decode cX7_nextPlan 115 = .ok (.ireturn, 1) := by decide +kernel
theorem dX7_isStarved_0 : decode cX7_isStarved 0 = .ok (.aload_n 0, 1) := by decide +kernel
theorem dX7_isStarved_1 : decode cX7_isStarved 1 = .ok (.getfield 63, 3) := by decide +kernel
theorem dX7_isStarved_4 : decode cX7_isStarved 4 = .ok (.bipush (-9), 2) := by decide +kernel
theorem dX7_isStarved_6 : decode cX7_isStarved 6 = .ok (.if_icmp .eq 31, 3) := by decide +kernel
theorem dX7_isStarved_9 : decode cX7_isStarved 9 = .ok (.iload_n 2, 1) := by decide +kernel
theorem dX7_isStarved_10 : decode cX7_isStarved 10 = .ok (.bipush 12, 2) := by decide +kernel
theorem dX7_isStarved_12 : decode cX7_isStarved 12 = .ok (.if_icmp .eq 25, 3) := by decide +kernel
theorem dX7_isStarved_15 : decode cX7_isStarved 15 = .ok (.aload_n 0, 1) := by decide +kernel
theorem dX7_isStarved_16 : decode cX7_isStarved 16 = .ok (.iload_n 1, 1) := by decide +kernel
theorem dX7_isStarved_17 : decode cX7_isStarved 17 = .ok (.iload_n 2, 1) := by decide +kernel
theorem dX7_isStarved_18 : decode cX7_isStarved 18 = .ok (.iconst 3, 1) := by decide +kernel
theorem dX7_isStarved_19 : decode cX7_isStarved 19 = .ok (.idiv, 1) := by decide +kernel
theorem dX7_isStarved_20 : decode cX7_isStarved 20 = .ok (.invokevirtual 168, 3) := by decide +kernel
theorem dX7_isStarved_23 : decode cX7_isStarved 23 = .ok (.aload_n 0, 1) := by decide +kernel
theorem dX7_isStarved_24 : decode cX7_isStarved 24 = .ok (.getfield 63, 3) := by decide +kernel
theorem dX7_isStarved_27 : decode cX7_isStarved 27 = .ok (.invokestatic 174, 3) := by decide +kernel
theorem dX7_isStarved_30 : decode cX7_isStarved 30 = .ok (.ifCond .eq 7, 3) := by decide +kernel
theorem dX7_isStarved_33 : decode cX7_isStarved 33 = .ok (.iconst 1, 1) := by decide +kernel
theorem dX7_isStarved_34 : decode cX7_isStarved 34 = .ok (.goto 4, 3) := by decide +kernel
theorem dX7_isStarved_37 : decode cX7_isStarved 37 = .ok (.iconst 0, 1) := by decide +kernel
theorem dX7_isStarved_38 : decode cX7_isStarved 38 = .ok (.ireturn, 1) := by decide +kernel
theorem dX7_layPlan_0 : decode cX7_layPlan 0 = .ok (.aload_n 0, 1) := by decide +kernel
theorem dX7_layPlan_1 : decode cX7_layPlan 1 = .ok (.iconst 0, 1) := by decide +kernel
theorem dX7_layPlan_2 : decode cX7_layPlan 2 = .ok (.iconst 1, 1) := by decide +kernel
theorem dX7_layPlan_3 : decode cX7_layPlan 3 = .ok (.invokevirtual 233, 3) := by decide +kernel
theorem dX7_layPlan_6 : decode cX7_layPlan 6 = .ok (.aload_n 0, 1) := by decide +kernel
theorem dX7_layPlan_7 : decode cX7_layPlan 7 = .ok (.iconst 0, 1) := by decide +kernel
theorem dX7_layPlan_8 : decode cX7_layPlan 8 = .ok (.putfield 237, 3) := by decide +kernel
theorem dX7_layPlan_11 : decode cX7_layPlan 11 = .ok (.aload_n 0, 1) := by decide +kernel
theorem dX7_layPlan_12 : decode cX7_layPlan 12 = .ok (.iconst 0, 1) := by decide +kernel
theorem dX7_layPlan_13 : decode cX7_layPlan 13 = .ok (.putfield 240, 3) := by decide +kernel
theorem dX7_layPlan_16 : decode cX7_layPlan 16 = .ok (.aload_n 0, 1) := by decide +kernel
theorem dX7_layPlan_17 : decode cX7_layPlan 17 = .ok (.iconst 0, 1) := by decide +kernel
theorem dX7_layPlan_18 : decode cX7_layPlan 18 = .ok (.putfield 243, 3) := by decide +kernel
theorem dX7_layPlan_21 : decode cX7_layPlan 21 = .ok (.iconst 0, 1) := by decide +kernel
theorem dX7_layPlan_22 : decode cX7_layPlan 22 = .ok (.istore_n 1, 1) := by decide +kernel
theorem dX7_layPlan_23 : decode cX7_layPlan 23 = .ok (.iload_n 1, 1) := by decide +kernel
theorem dX7_layPlan_24 : decode cX7_layPlan 24 = .ok (.aload_n 0, 1) := by decide +kernel
theorem dX7_layPlan_25 : decode cX7_layPlan 25 = .ok (.getfield 226, 3) := by decide +kernel
theorem dX7_layPlan_28 : decode cX7_layPlan 28 = .ok (.if_icmp .ge 105, 3) := by decide +kernel
theorem dX7_layPlan_31 : decode cX7_layPlan 31 = .ok (.aload_n 0, 1) := by decide +kernel
theorem dX7_layPlan_32 : decode cX7_layPlan 32 = .ok (.aload_n 0, 1) := by decide +kernel
theorem dX7_layPlan_33 : decode cX7_layPlan 33 = .ok (.getfield 60, 3) := by decide +kernel
theorem dX7_layPlan_36 : decode cX7_layPlan 36 = .ok (.iload_n 1, 1) := by decide +kernel
theorem dX7_layPlan_37 : decode cX7_layPlan 37 = .ok (.iaload, 1) := by decide +kernel
theorem dX7_layPlan_38 : decode cX7_layPlan 38 = .ok (.invokevirtual 217, 3) := by decide +kernel
theorem dX7_layPlan_41 : decode cX7_layPlan 41 = .ok (.ifCond .eq 33, 3) := by decide +kernel
theorem dX7_layPlan_44 : decode cX7_layPlan 44 = .ok (.aload_n 0, 1) := by decide +kernel
theorem dX7_layPlan_45 : decode cX7_layPlan 45 = .ok (.iconst 1, 1) := by decide +kernel
theorem dX7_layPlan_46 : decode cX7_layPlan 46 = .ok (.aload_n 0, 1) := by decide +kernel
theorem dX7_layPlan_47 : decode cX7_layPlan 47 = .ok (.getfield 60, 3) := by decide +kernel
theorem dX7_layPlan_50 : decode cX7_layPlan 50 = .ok (.iload_n 1, 1) := by decide +kernel
theorem dX7_layPlan_51 : decode cX7_layPlan 51 = .ok (.iaload, 1) := by decide +kernel
theorem dX7_layPlan_52 : decode cX7_layPlan 52 = .ok (.invokevirtual 195, 3) := by decide +kernel
theorem dX7_layPlan_55 : decode cX7_layPlan 55 = .ok (.bipush (-9), 2) := by decide +kernel
theorem dX7_layPlan_57 : decode cX7_layPlan 57 = .ok (.if_icmp .eq 17, 3) := by decide +kernel
theorem dX7_layPlan_60 : decode cX7_layPlan 60 = .ok (.aload_n 0, 1) := by decide +kernel
theorem dX7_layPlan_61 : decode cX7_layPlan 61 = .ok (.iconst 1, 1) := by decide +kernel
theorem dX7_layPlan_62 : decode cX7_layPlan 62 = .ok (.aload_n 0, 1) := by decide +kernel
theorem dX7_layPlan_63 : decode cX7_layPlan 63 = .ok (.getfield 60, 3) := by decide +kernel
theorem dX7_layPlan_66 : decode cX7_layPlan 66 = .ok (.iload_n 1, 1) := by decide +kernel
theorem dX7_layPlan_67 : decode cX7_layPlan 67 = .ok (.iaload, 1) := by decide +kernel
theorem dX7_layPlan_68 : decode cX7_layPlan 68 = .ok (.invokevirtual 246, 3) := by decide +kernel
theorem dX7_layPlan_71 : decode cX7_layPlan 71 = .ok (.ifCond .eq 5, 3) := by decide +kernel
theorem dX7_layPlan_74 : decode cX7_layPlan 74 = .ok (.iload_n 1, 1) := by decide +kernel
theorem dX7_layPlan_75 : decode cX7_layPlan 75 = .ok (.ireturn, 1) := by decide +kernel
theorem dX7_layPlan_76 : decode cX7_layPlan 76 = .ok (.aload_n 0, 1) := by decide +kernel
theorem dX7_layPlan_77 : decode cX7_layPlan 77 = .ok (.iconst 1, 1) := by decide +kernel
theorem dX7_layPlan_78 : decode cX7_layPlan 78 = .ok (.aload_n 0, 1) := by decide +kernel
theorem dX7_layPlan_79 : decode cX7_layPlan 79 = .ok (.getfield 60, 3) := by decide +kernel
theorem dX7_layPlan_82 : decode cX7_layPlan 82 = .ok (.iload_n 1, 1) := by decide +kernel
theorem dX7_layPlan_83 : decode cX7_layPlan 83 = .ok (.iaload, 1) := by decide +kernel
theorem dX7_layPlan_84 : decode cX7_layPlan 84 = .ok (.invokevirtual 214, 3) := by decide +kernel
theorem dX7_layPlan_87 : decode cX7_layPlan 87 = .ok (.pop, 1) := by decide +kernel
theorem dX7_layPlan_88 : decode cX7_layPlan 88 = .ok (.aload_n 0, 1) := by decide +kernel
theorem dX7_layPlan_89 : decode cX7_layPlan 89 = .ok (.dup, 1) := by decide +kernel
theorem dX7_layPlan_90 : decode cX7_layPlan 90 = .ok (.getfield 237, 3) := by decide +kernel
theorem dX7_layPlan_93 : decode cX7_layPlan 93 = .ok (.aload_n 0, 1) := by decide +kernel
theorem dX7_layPlan_94 : decode cX7_layPlan 94 = .ok (.getfield 186, 3) := by decide +kernel
theorem dX7_layPlan_97 : decode cX7_layPlan 97 = .ok (.iadd, 1) := by decide +kernel
theorem dX7_layPlan_98 : decode cX7_layPlan 98 = .ok (.putfield 237, 3) := by decide +kernel
theorem dX7_layPlan_101 : decode cX7_layPlan 101 = .ok (.aload_n 0, 1) := by decide +kernel
theorem dX7_layPlan_102 : decode cX7_layPlan 102 = .ok (.dup, 1) := by decide +kernel
theorem dX7_layPlan_103 : decode cX7_layPlan 103 = .ok (.getfield 240, 3) := by decide +kernel
theorem dX7_layPlan_106 : decode cX7_layPlan 106 = .ok (.aload_n 0, 1) := by decide +kernel
theorem dX7_layPlan_107 : decode cX7_layPlan 107 = .ok (.getfield 189, 3) := by decide +kernel
theorem dX7_layPlan_110 : decode cX7_layPlan 110 = .ok (.iadd, 1) := by decide +kernel
theorem dX7_layPlan_111 : decode cX7_layPlan 111 = .ok (.putfield 240, 3) := by decide +kernel
theorem dX7_layPlan_114 : decode cX7_layPlan 114 = .ok (.aload_n 0, 1) := by decide +kernel
theorem dX7_layPlan_115 : decode cX7_layPlan 115 = .ok (.dup, 1) := by decide +kernel
theorem dX7_layPlan_116 : decode cX7_layPlan 116 = .ok (.getfield 243, 3) := by decide +kernel
theorem dX7_layPlan_119 : decode cX7_layPlan 119 = .ok (.aload_n 0, 1) := by decide +kernel
theorem dX7_layPlan_120 : decode cX7_layPlan 120 = .ok (.getfield 198, 3) := by decide +kernel
theorem dX7_layPlan_123 : decode cX7_layPlan 123 = .ok (.iadd, 1) := by decide +kernel
theorem dX7_layPlan_124 : decode cX7_layPlan 124 = .ok (.putfield 243, 3) := by decide +kernel
theorem dX7_layPlan_127 : decode cX7_layPlan 127 = .ok (.iinc 1 1, 3) := by decide +kernel
theorem dX7_layPlan_130 : decode cX7_layPlan 130 = .ok (.goto (-107), 3) := by decide +kernel
theorem dX7_layPlan_133 : decode cX7_layPlan 133 = .ok (.aload_n 0, 1) := by decide +kernel
theorem dX7_layPlan_134 : decode cX7_layPlan 134 = .ok (.aload_n 0, 1) := by decide +kernel
theorem dX7_layPlan_135 : decode cX7_layPlan 135 = .ok (.getfield 237, 3) := by decide +kernel
theorem dX7_layPlan_138 : decode cX7_layPlan 138 = .ok (.aload_n 0, 1) := by decide +kernel
theorem dX7_layPlan_139 : decode cX7_layPlan 139 = .ok (.getfield 240, 3) := by decide +kernel
theorem dX7_layPlan_142 : decode cX7_layPlan 142 = .ok (.iadd, 1) := by decide +kernel
theorem dX7_layPlan_143 : decode cX7_layPlan 143 = .ok (.putfield 249, 3) := by decide +kernel
theorem dX7_layPlan_146 : decode cX7_layPlan 146 = .ok (.aload_n 0, 1) := by decide +kernel
theorem dX7_layPlan_147 : decode cX7_layPlan 147 = .ok (.getfield 226, 3) := by decide +kernel
theorem dX7_layPlan_150 : decode cX7_layPlan 150 = .ok (.ireturn, 1) := by decide +kernel
theorem dX7_keepPlan_0 : decode cX7_keepPlan 0 = .ok (.iconst 0, 1) := by decide +kernel
theorem dX7_keepPlan_1 : decode cX7_keepPlan 1 = .ok (.istore_n 1, 1) := by decide +kernel
theorem dX7_keepPlan_2 : decode cX7_keepPlan 2 = .ok (.iload_n 1, 1) := by decide +kernel
theorem dX7_keepPlan_3 : decode cX7_keepPlan 3 = .ok (.aload_n 0, 1) := by decide +kernel
theorem dX7_keepPlan_4 : decode cX7_keepPlan 4 = .ok (.getfield 226, 3) := by decide +kernel
theorem dX7_keepPlan_7 : decode cX7_keepPlan 7 = .ok (.if_icmp .ge 21, 3) := by decide +kernel
theorem dX7_keepPlan_10 : decode cX7_keepPlan 10 = .ok (.aload_n 0, 1) := by decide +kernel
theorem dX7_keepPlan_11 : decode cX7_keepPlan 11 = .ok (.getfield 67, 3) := by decide +kernel
theorem dX7_keepPlan_14 : decode cX7_keepPlan 14 = .ok (.iload_n 1, 1) := by decide +kernel
theorem dX7_keepPlan_15 : decode cX7_keepPlan 15 = .ok (.aload_n 0, 1) := by decide +kernel
theorem dX7_keepPlan_16 : decode cX7_keepPlan 16 = .ok (.getfield 60, 3) := by decide +kernel
theorem dX7_keepPlan_19 : decode cX7_keepPlan 19 = .ok (.iload_n 1, 1) := by decide +kernel
theorem dX7_keepPlan_20 : decode cX7_keepPlan 20 = .ok (.iaload, 1) := by decide +kernel
theorem dX7_keepPlan_21 : decode cX7_keepPlan 21 = .ok (.iastore, 1) := by decide +kernel
theorem dX7_keepPlan_22 : decode cX7_keepPlan 22 = .ok (.iinc 1 1, 3) := by decide +kernel
theorem dX7_keepPlan_25 : decode cX7_keepPlan 25 = .ok (.goto (-23), 3) := by decide +kernel
theorem dX7_keepPlan_28 : decode cX7_keepPlan 28 = .ok (.return_, 1) := by decide +kernel
theorem dX7_mostOf_0 : decode cX7_mostOf 0 = .ok (.ldc 252, 2) := by decide +kernel
theorem dX7_mostOf_2 : decode cX7_mostOf 2 = .ok (.istore_n 2, 1) := by decide +kernel
theorem dX7_mostOf_3 : decode cX7_mostOf 3 = .ok (.aload_n 0, 1) := by decide +kernel
theorem dX7_mostOf_4 : decode cX7_mostOf 4 = .ok (.iload_n 1, 1) := by decide +kernel
theorem dX7_mostOf_5 : decode cX7_mostOf 5 = .ok (.invokevirtual 253, 3) := by decide +kernel
theorem dX7_mostOf_8 : decode cX7_mostOf 8 = .ok (.aload_n 0, 1) := by decide +kernel
theorem dX7_mostOf_9 : decode cX7_mostOf 9 = .ok (.invokevirtual 256, 3) := by decide +kernel
theorem dX7_mostOf_12 : decode cX7_mostOf 12 = .ok (.ifCond .eq 23, 3) := by decide +kernel
theorem dX7_mostOf_15 : decode cX7_mostOf 15 = .ok (.aload_n 0, 1) := by decide +kernel
theorem dX7_mostOf_16 : decode cX7_mostOf 16 = .ok (.getfield 237, 3) := by decide +kernel
theorem dX7_mostOf_19 : decode cX7_mostOf 19 = .ok (.iload_n 2, 1) := by decide +kernel
theorem dX7_mostOf_20 : decode cX7_mostOf 20 = .ok (.if_icmp .le (-12), 3) := by decide +kernel
theorem dX7_mostOf_23 : decode cX7_mostOf 23 = .ok (.aload_n 0, 1) := by decide +kernel
theorem dX7_mostOf_24 : decode cX7_mostOf 24 = .ok (.getfield 237, 3) := by decide +kernel
theorem dX7_mostOf_27 : decode cX7_mostOf 27 = .ok (.istore_n 2, 1) := by decide +kernel
theorem dX7_mostOf_28 : decode cX7_mostOf 28 = .ok (.aload_n 0, 1) := by decide +kernel
theorem dX7_mostOf_29 : decode cX7_mostOf 29 = .ok (.invokevirtual 260, 3) := by decide +kernel
theorem dX7_mostOf_32 : decode cX7_mostOf 32 = .ok (.goto (-24), 3) := by decide +kernel
theorem dX7_mostOf_35 : decode cX7_mostOf 35 = .ok (.iload_n 2, 1) := by decide +kernel
theorem dX7_mostOf_36 : decode cX7_mostOf 36 = .ok (.ireturn, 1) := by decide +kernel
theorem dX7_planToRow_0 : decode cX7_planToRow 0 = .ok (.aload_n 0, 1) := by decide +kernel
theorem dX7_planToRow_1 : decode cX7_planToRow 1 = .ok (.getfield 13, 3) := by decide +kernel
theorem dX7_planToRow_4 : decode cX7_planToRow 4 = .ok (.iload_n 1, 1) := by decide +kernel
theorem dX7_planToRow_5 : decode cX7_planToRow 5 = .ok (.aload_n 0, 1) := by decide +kernel
theorem dX7_planToRow_6 : decode cX7_planToRow 6 = .ok (.getfield 226, 3) := by decide +kernel
theorem dX7_planToRow_9 : decode cX7_planToRow 9 = .ok (.iastore, 1) := by decide +kernel
theorem dX7_planToRow_10 : decode cX7_planToRow 10 = .ok (.iconst 0, 1) := by decide +kernel
theorem dX7_planToRow_11 : decode cX7_planToRow 11 = .ok (.istore_n 2, 1) := by decide +kernel
theorem dX7_planToRow_12 : decode cX7_planToRow 12 = .ok (.iload_n 2, 1) := by decide +kernel
theorem dX7_planToRow_13 : decode cX7_planToRow 13 = .ok (.bipush 60, 2) := by decide +kernel
theorem dX7_planToRow_15 : decode cX7_planToRow 15 = .ok (.if_icmp .ge 38, 3) := by decide +kernel
theorem dX7_planToRow_18 : decode cX7_planToRow 18 = .ok (.aload_n 0, 1) := by decide +kernel
theorem dX7_planToRow_19 : decode cX7_planToRow 19 = .ok (.getfield 16, 3) := by decide +kernel
theorem dX7_planToRow_22 : decode cX7_planToRow 22 = .ok (.bipush 60, 2) := by decide +kernel
theorem dX7_planToRow_24 : decode cX7_planToRow 24 = .ok (.iload_n 1, 1) := by decide +kernel
theorem dX7_planToRow_25 : decode cX7_planToRow 25 = .ok (.imul, 1) := by decide +kernel
theorem dX7_planToRow_26 : decode cX7_planToRow 26 = .ok (.iload_n 2, 1) := by decide +kernel
theorem dX7_planToRow_27 : decode cX7_planToRow 27 = .ok (.iadd, 1) := by decide +kernel
theorem dX7_planToRow_28 : decode cX7_planToRow 28 = .ok (.iload_n 2, 1) := by decide +kernel
theorem dX7_planToRow_29 : decode cX7_planToRow 29 = .ok (.aload_n 0, 1) := by decide +kernel
theorem dX7_planToRow_30 : decode cX7_planToRow 30 = .ok (.getfield 226, 3) := by decide +kernel
theorem dX7_planToRow_33 : decode cX7_planToRow 33 = .ok (.if_icmp .ge 12, 3) := by decide +kernel
theorem dX7_planToRow_36 : decode cX7_planToRow 36 = .ok (.aload_n 0, 1) := by decide +kernel
theorem dX7_planToRow_37 : decode cX7_planToRow 37 = .ok (.getfield 67, 3) := by decide +kernel
theorem dX7_planToRow_40 : decode cX7_planToRow 40 = .ok (.iload_n 2, 1) := by decide +kernel
theorem dX7_planToRow_41 : decode cX7_planToRow 41 = .ok (.iaload, 1) := by decide +kernel
theorem dX7_planToRow_42 : decode cX7_planToRow 42 = .ok (.goto 4, 3) := by decide +kernel
theorem dX7_planToRow_45 : decode cX7_planToRow 45 = .ok (.iconst 0, 1) := by decide +kernel
theorem dX7_planToRow_46 : decode cX7_planToRow 46 = .ok (.iastore, 1) := by decide +kernel
theorem dX7_planToRow_47 : decode cX7_planToRow 47 = .ok (.iinc 2 1, 3) := by decide +kernel
theorem dX7_planToRow_50 : decode cX7_planToRow 50 = .ok (.goto (-38), 3) := by decide +kernel
theorem dX7_planToRow_53 : decode cX7_planToRow 53 = .ok (.return_, 1) := by decide +kernel
theorem dX7_needDays_0 : decode cX7_needDays 0 = .ok (.iload_n 1, 1) := by decide +kernel
theorem dX7_needDays_1 : decode cX7_needDays 1 = .ok (.ifCond .eq 12, 3) := by decide +kernel
theorem dX7_needDays_4 : decode cX7_needDays 4 = .ok (.iload_n 2, 1) := by decide +kernel
theorem dX7_needDays_5 : decode cX7_needDays 5 = .ok (.iconst 1, 1) := by decide +kernel
theorem dX7_needDays_6 : decode cX7_needDays 6 = .ok (.iload_n 3, 1) := by decide +kernel
theorem dX7_needDays_7 : decode cX7_needDays 7 = .ok (.invokestatic 80, 3) := by decide +kernel
theorem dX7_needDays_10 : decode cX7_needDays 10 = .ok (.ifCond .ne 7, 3) := by decide +kernel
theorem dX7_needDays_13 : decode cX7_needDays 13 = .ok (.iconst (-1), 1) := by decide +kernel
theorem dX7_needDays_14 : decode cX7_needDays 14 = .ok (.goto 16, 3) := by decide +kernel
theorem dX7_needDays_17 : decode cX7_needDays 17 = .ok (.aload_n 0, 1) := by decide +kernel
theorem dX7_needDays_18 : decode cX7_needDays 18 = .ok (.getfield 139, 3) := by decide +kernel
theorem dX7_needDays_21 : decode cX7_needDays 21 = .ok (.ifCond .ne 8, 3) := by decide +kernel
theorem dX7_needDays_24 : decode cX7_needDays 24 = .ok (.bipush (-4), 2) := by decide +kernel
theorem dX7_needDays_26 : decode cX7_needDays 26 = .ok (.goto 4, 3) := by decide +kernel
theorem dX7_needDays_29 : decode cX7_needDays 29 = .ok (.iconst 0, 1) := by decide +kernel
theorem dX7_needDays_30 : decode cX7_needDays 30 = .ok (.ireturn, 1) := by decide +kernel
theorem dX7_best_0 : decode cX7_best 0 = .ok (.aload_n 0, 1) := by decide +kernel
theorem dX7_best_1 : decode cX7_best 1 = .ok (.iload_n 2, 1) := by decide +kernel
theorem dX7_best_2 : decode cX7_best 2 = .ok (.invokestatic 90, 3) := by decide +kernel
theorem dX7_best_5 : decode cX7_best 5 = .ok (.iload_n 1, 1) := by decide +kernel
theorem dX7_best_6 : decode cX7_best 6 = .ok (.iconst 3, 1) := by decide +kernel
theorem dX7_best_7 : decode cX7_best 7 = .ok (.invokevirtual 263, 3) := by decide +kernel
theorem dX7_best_10 : decode cX7_best 10 = .ok (.istore_n 3, 1) := by decide +kernel
theorem dX7_best_11 : decode cX7_best 11 = .ok (.iload_n 3, 1) := by decide +kernel
theorem dX7_best_12 : decode cX7_best 12 = .ok (.ifCond .ge 5, 3) := by decide +kernel
theorem dX7_best_15 : decode cX7_best 15 = .ok (.iload_n 3, 1) := by decide +kernel
theorem dX7_best_16 : decode cX7_best 16 = .ok (.ireturn, 1) := by decide +kernel
theorem dX7_best_17 : decode cX7_best 17 = .ok (.aload_n 0, 1) := by decide +kernel
theorem dX7_best_18 : decode cX7_best 18 = .ok (.iload_n 1, 1) := by decide +kernel
theorem dX7_best_19 : decode cX7_best 19 = .ok (.invokevirtual 267, 3) := by decide +kernel
theorem dX7_best_22 : decode cX7_best 22 = .ok (.istore 4, 2) := by decide +kernel
theorem dX7_best_24 : decode cX7_best 24 = .ok (.aload_n 0, 1) := by decide +kernel
theorem dX7_best_25 : decode cX7_best 25 = .ok (.iload_n 2, 1) := by decide +kernel
theorem dX7_best_26 : decode cX7_best 26 = .ok (.invokevirtual 270, 3) := by decide +kernel
theorem dX7_best_29 : decode cX7_best 29 = .ok (.aload_n 0, 1) := by decide +kernel
theorem dX7_best_30 : decode cX7_best 30 = .ok (.iload 4, 2) := by decide +kernel
theorem dX7_best_32 : decode cX7_best 32 = .ok (.iconst 1, 1) := by decide +kernel
theorem dX7_best_33 : decode cX7_best 33 = .ok (.invokevirtual 102, 3) := by decide +kernel
theorem dX7_best_36 : decode cX7_best 36 = .ok (.ireturn, 1) := by decide +kernel
theorem dX7_needPlan_0 : decode cX7_needPlan 0 = .ok (.aload_n 0, 1) := by decide +kernel
theorem dX7_needPlan_1 : decode cX7_needPlan 1 = .ok (.getfield 13, 3) := by decide +kernel
theorem dX7_needPlan_4 : decode cX7_needPlan 4 = .ok (.iload_n 1, 1) := by decide +kernel
theorem dX7_needPlan_5 : decode cX7_needPlan 5 = .ok (.iaload, 1) := by decide +kernel
theorem dX7_needPlan_6 : decode cX7_needPlan 6 = .ok (.ifCond .ge 9, 3) := by decide +kernel
theorem dX7_needPlan_9 : decode cX7_needPlan 9 = .ok (.aload_n 0, 1) := by decide +kernel
theorem dX7_needPlan_10 : decode cX7_needPlan 10 = .ok (.iconst 1, 1) := by decide +kernel
theorem dX7_needPlan_11 : decode cX7_needPlan 11 = .ok (.invokevirtual 94, 3) := by decide +kernel
theorem dX7_needPlan_14 : decode cX7_needPlan 14 = .ok (.ireturn, 1) := by decide +kernel
theorem dX7_needPlan_15 : decode cX7_needPlan 15 = .ok (.aload_n 0, 1) := by decide +kernel
theorem dX7_needPlan_16 : decode cX7_needPlan 16 = .ok (.getfield 13, 3) := by decide +kernel
theorem dX7_needPlan_19 : decode cX7_needPlan 19 = .ok (.iload_n 1, 1) := by decide +kernel
theorem dX7_needPlan_20 : decode cX7_needPlan 20 = .ok (.iaload, 1) := by decide +kernel
theorem dX7_needPlan_21 : decode cX7_needPlan 21 = .ok (.bipush 30, 2) := by decide +kernel
theorem dX7_needPlan_23 : decode cX7_needPlan 23 = .ok (.if_icmp .le 9, 3) := by decide +kernel
theorem dX7_needPlan_26 : decode cX7_needPlan 26 = .ok (.aload_n 0, 1) := by decide +kernel
theorem dX7_needPlan_27 : decode cX7_needPlan 27 = .ok (.iconst 5, 1) := by decide +kernel
theorem dX7_needPlan_28 : decode cX7_needPlan 28 = .ok (.invokevirtual 94, 3) := by decide +kernel
theorem dX7_needPlan_31 : decode cX7_needPlan 31 = .ok (.ireturn, 1) := by decide +kernel
theorem dX7_needPlan_32 : decode cX7_needPlan 32 = .ok (.iconst 1, 1) := by decide +kernel
theorem dX7_needPlan_33 : decode cX7_needPlan 33 = .ok (.istore_n 2, 1) := by decide +kernel
theorem dX7_needPlan_34 : decode cX7_needPlan 34 = .ok (.iconst 0, 1) := by decide +kernel
theorem dX7_needPlan_35 : decode cX7_needPlan 35 = .ok (.istore_n 3, 1) := by decide +kernel
theorem dX7_needPlan_36 : decode cX7_needPlan 36 = .ok (.iload_n 3, 1) := by decide +kernel
theorem dX7_needPlan_37 : decode cX7_needPlan 37 = .ok (.aload_n 0, 1) := by decide +kernel
theorem dX7_needPlan_38 : decode cX7_needPlan 38 = .ok (.getfield 13, 3) := by decide +kernel
theorem dX7_needPlan_41 : decode cX7_needPlan 41 = .ok (.iload_n 1, 1) := by decide +kernel
theorem dX7_needPlan_42 : decode cX7_needPlan 42 = .ok (.iaload, 1) := by decide +kernel
theorem dX7_needPlan_43 : decode cX7_needPlan 43 = .ok (.if_icmp .ge 32, 3) := by decide +kernel
theorem dX7_needPlan_46 : decode cX7_needPlan 46 = .ok (.iload_n 2, 1) := by decide +kernel
theorem dX7_needPlan_47 : decode cX7_needPlan 47 = .ok (.ifCond .eq 20, 3) := by decide +kernel
theorem dX7_needPlan_50 : decode cX7_needPlan 50 = .ok (.aload_n 0, 1) := by decide +kernel
theorem dX7_needPlan_51 : decode cX7_needPlan 51 = .ok (.aload_n 0, 1) := by decide +kernel
theorem dX7_needPlan_52 : decode cX7_needPlan 52 = .ok (.iload_n 1, 1) := by decide +kernel
theorem dX7_needPlan_53 : decode cX7_needPlan 53 = .ok (.iload_n 3, 1) := by decide +kernel
theorem dX7_needPlan_54 : decode cX7_needPlan 54 = .ok (.invokevirtual 98, 3) := by decide +kernel
theorem dX7_needPlan_57 : decode cX7_needPlan 57 = .ok (.invokevirtual 217, 3) := by decide +kernel
theorem dX7_needPlan_60 : decode cX7_needPlan 60 = .ok (.ifCond .eq 7, 3) := by decide +kernel
theorem dX7_needPlan_63 : decode cX7_needPlan 63 = .ok (.iconst 1, 1) := by decide +kernel
theorem dX7_needPlan_64 : decode cX7_needPlan 64 = .ok (.goto 4, 3) := by decide +kernel
theorem dX7_needPlan_67 : decode cX7_needPlan 67 = .ok (.iconst 0, 1) := by decide +kernel
theorem dX7_needPlan_68 : decode cX7_needPlan 68 = .ok (.istore_n 2, 1) := by decide +kernel
theorem dX7_needPlan_69 : decode cX7_needPlan 69 = .ok (.iinc 3 1, 3) := by decide +kernel
theorem dX7_needPlan_72 : decode cX7_needPlan 72 = .ok (.goto (-36), 3) := by decide +kernel
theorem dX7_needPlan_75 : decode cX7_needPlan 75 = .ok (.iload_n 2, 1) := by decide +kernel
theorem dX7_needPlan_76 : decode cX7_needPlan 76 = .ok (.ifCond .eq 7, 3) := by decide +kernel
theorem dX7_needPlan_79 : decode cX7_needPlan 79 = .ok (.iconst 0, 1) := by decide +kernel
theorem dX7_needPlan_80 : decode cX7_needPlan 80 = .ok (.goto 8, 3) := by decide +kernel
theorem dX7_needPlan_83 : decode cX7_needPlan 83 = .ok (.aload_n 0, 1) := by decide +kernel
theorem dX7_needPlan_84 : decode cX7_needPlan 84 = .ok (.iconst 3, 1) := by decide +kernel
theorem dX7_needPlan_85 : decode cX7_needPlan 85 = .ok (.invokevirtual 94, 3) := by decide +kernel
theorem dX7_needPlan_88 : decode cX7_needPlan 88 = .ok (.ireturn, 1) := by decide +kernel
theorem dX7_tries_0 : decode cX7_tries 0 = .ok (.iload_n 1, 1) := by decide +kernel
theorem dX7_tries_1 : decode cX7_tries 1 = .ok (.invokestatic 90, 3) := by decide +kernel
theorem dX7_tries_4 : decode cX7_tries 4 = .ok (.ifCond .ne 5, 3) := by decide +kernel
theorem dX7_tries_7 : decode cX7_tries 7 = .ok (.iconst (-1), 1) := by decide +kernel
theorem dX7_tries_8 : decode cX7_tries 8 = .ok (.ireturn, 1) := by decide +kernel
theorem dX7_tries_9 : decode cX7_tries 9 = .ok (.aload_n 0, 1) := by decide +kernel
theorem dX7_tries_10 : decode cX7_tries 10 = .ok (.getfield 139, 3) := by decide +kernel
theorem dX7_tries_13 : decode cX7_tries 13 = .ok (.ifCond .ne 6, 3) := by decide +kernel
theorem dX7_tries_16 : decode cX7_tries 16 = .ok (.bipush (-4), 2) := by decide +kernel
theorem dX7_tries_18 : decode cX7_tries 18 = .ok (.ireturn, 1) := by decide +kernel
theorem dX7_tries_19 : decode cX7_tries 19 = .ok (.aload_n 0, 1) := by decide +kernel
theorem dX7_tries_20 : decode cX7_tries 20 = .ok (.iload_n 1, 1) := by decide +kernel
theorem dX7_tries_21 : decode cX7_tries 21 = .ok (.invokevirtual 273, 3) := by decide +kernel
theorem dX7_tries_24 : decode cX7_tries 24 = .ok (.istore_n 2, 1) := by decide +kernel
theorem dX7_tries_25 : decode cX7_tries 25 = .ok (.iload_n 2, 1) := by decide +kernel
theorem dX7_tries_26 : decode cX7_tries 26 = .ok (.ifCond .ge 5, 3) := by decide +kernel
theorem dX7_tries_29 : decode cX7_tries 29 = .ok (.iload_n 2, 1) := by decide +kernel
theorem dX7_tries_30 : decode cX7_tries 30 = .ok (.ireturn, 1) := by decide +kernel
theorem dX7_tries_31 : decode cX7_tries 31 = .ok (.aload_n 0, 1) := by decide +kernel
theorem dX7_tries_32 : decode cX7_tries 32 = .ok (.iconst 0, 1) := by decide +kernel
theorem dX7_tries_33 : decode cX7_tries 33 = .ok (.iconst 1, 1) := by decide +kernel
theorem dX7_tries_34 : decode cX7_tries 34 = .ok (.invokevirtual 233, 3) := by decide +kernel
theorem dX7_tries_37 : decode cX7_tries 37 = .ok (.iconst 0, 1) := by decide +kernel
theorem dX7_tries_38 : decode cX7_tries 38 = .ok (.istore_n 3, 1) := by decide +kernel
theorem dX7_tries_39 : decode cX7_tries 39 = .ok (.iconst 0, 1) := by decide +kernel
theorem dX7_tries_40 : decode cX7_tries 40 = .ok (.istore 4, 2) := by decide +kernel
theorem dX7_tries_42 : decode cX7_tries 42 = .ok (.iload_n 3, 1) := by decide +kernel
theorem dX7_tries_43 : decode cX7_tries 43 = .ok (.aload_n 0, 1) := by decide +kernel
theorem dX7_tries_44 : decode cX7_tries 44 = .ok (.getfield 13, 3) := by decide +kernel
theorem dX7_tries_47 : decode cX7_tries 47 = .ok (.iload_n 1, 1) := by decide +kernel
theorem dX7_tries_48 : decode cX7_tries 48 = .ok (.iaload, 1) := by decide +kernel
theorem dX7_tries_49 : decode cX7_tries 49 = .ok (.if_icmp .ge 32, 3) := by decide +kernel
theorem dX7_tries_52 : decode cX7_tries 52 = .ok (.aload_n 0, 1) := by decide +kernel
theorem dX7_tries_53 : decode cX7_tries 53 = .ok (.iconst 1, 1) := by decide +kernel
theorem dX7_tries_54 : decode cX7_tries 54 = .ok (.aload_n 0, 1) := by decide +kernel
theorem dX7_tries_55 : decode cX7_tries 55 = .ok (.iload_n 1, 1) := by decide +kernel
theorem dX7_tries_56 : decode cX7_tries 56 = .ok (.iload_n 3, 1) := by decide +kernel
theorem dX7_tries_57 : decode cX7_tries 57 = .ok (.invokevirtual 98, 3) := by decide +kernel
theorem dX7_tries_60 : decode cX7_tries 60 = .ok (.invokevirtual 214, 3) := by decide +kernel
theorem dX7_tries_63 : decode cX7_tries 63 = .ok (.ifCond .eq 18, 3) := by decide +kernel
theorem dX7_tries_66 : decode cX7_tries 66 = .ok (.iload 4, 2) := by decide +kernel
theorem dX7_tries_68 : decode cX7_tries 68 = .ok (.aload_n 0, 1) := by decide +kernel
theorem dX7_tries_69 : decode cX7_tries 69 = .ok (.getfield 186, 3) := by decide +kernel
theorem dX7_tries_72 : decode cX7_tries 72 = .ok (.iadd, 1) := by decide +kernel
theorem dX7_tries_73 : decode cX7_tries 73 = .ok (.istore 4, 2) := by decide +kernel
theorem dX7_tries_75 : decode cX7_tries 75 = .ok (.iinc 3 1, 3) := by decide +kernel
theorem dX7_tries_78 : decode cX7_tries 78 = .ok (.goto (-36), 3) := by decide +kernel
theorem dX7_tries_81 : decode cX7_tries 81 = .ok (.aload_n 0, 1) := by decide +kernel
theorem dX7_tries_82 : decode cX7_tries 82 = .ok (.iload 4, 2) := by decide +kernel
theorem dX7_tries_84 : decode cX7_tries 84 = .ok (.iload_n 3, 1) := by decide +kernel
theorem dX7_tries_85 : decode cX7_tries 85 = .ok (.invokevirtual 102, 3) := by decide +kernel
theorem dX7_tries_88 : decode cX7_tries 88 = .ok (.ireturn, 1) := by decide +kernel
theorem dX7_safe_0 : decode cX7_safe 0 = .ok (.aload_n 0, 1) := by decide +kernel
theorem dX7_safe_1 : decode cX7_safe 1 = .ok (.iload_n 2, 1) := by decide +kernel
theorem dX7_safe_2 : decode cX7_safe 2 = .ok (.invokestatic 90, 3) := by decide +kernel
theorem dX7_safe_5 : decode cX7_safe 5 = .ok (.iload_n 1, 1) := by decide +kernel
theorem dX7_safe_6 : decode cX7_safe 6 = .ok (.iconst 4, 1) := by decide +kernel
theorem dX7_safe_7 : decode cX7_safe 7 = .ok (.invokevirtual 263, 3) := by decide +kernel
theorem dX7_safe_10 : decode cX7_safe 10 = .ok (.istore_n 3, 1) := by decide +kernel
theorem dX7_safe_11 : decode cX7_safe 11 = .ok (.iload_n 3, 1) := by decide +kernel
theorem dX7_safe_12 : decode cX7_safe 12 = .ok (.ifCond .ge 5, 3) := by decide +kernel
theorem dX7_safe_15 : decode cX7_safe 15 = .ok (.iload_n 3, 1) := by decide +kernel
theorem dX7_safe_16 : decode cX7_safe 16 = .ok (.ireturn, 1) := by decide +kernel
theorem dX7_safe_17 : decode cX7_safe 17 = .ok (.aload_n 0, 1) := by decide +kernel
theorem dX7_safe_18 : decode cX7_safe 18 = .ok (.iload_n 1, 1) := by decide +kernel
theorem dX7_safe_19 : decode cX7_safe 19 = .ok (.invokevirtual 253, 3) := by decide +kernel
theorem dX7_safe_22 : decode cX7_safe 22 = .ok (.aload_n 0, 1) := by decide +kernel
theorem dX7_safe_23 : decode cX7_safe 23 = .ok (.invokevirtual 256, 3) := by decide +kernel
theorem dX7_safe_26 : decode cX7_safe 26 = .ok (.ifCond .eq 21, 3) := by decide +kernel
theorem dX7_safe_29 : decode cX7_safe 29 = .ok (.aload_n 0, 1) := by decide +kernel
theorem dX7_safe_30 : decode cX7_safe 30 = .ok (.getfield 240, 3) := by decide +kernel
theorem dX7_safe_33 : decode cX7_safe 33 = .ok (.ifCond .ne (-11), 3) := by decide +kernel
theorem dX7_safe_36 : decode cX7_safe 36 = .ok (.aload_n 0, 1) := by decide +kernel
theorem dX7_safe_37 : decode cX7_safe 37 = .ok (.invokevirtual 260, 3) := by decide +kernel
theorem dX7_safe_40 : decode cX7_safe 40 = .ok (.aload_n 0, 1) := by decide +kernel
theorem dX7_safe_41 : decode cX7_safe 41 = .ok (.iload_n 2, 1) := by decide +kernel
theorem dX7_safe_42 : decode cX7_safe 42 = .ok (.invokevirtual 270, 3) := by decide +kernel
theorem dX7_safe_45 : decode cX7_safe 45 = .ok (.iconst 1, 1) := by decide +kernel
theorem dX7_safe_46 : decode cX7_safe 46 = .ok (.ireturn, 1) := by decide +kernel
theorem dX7_safe_47 : decode cX7_safe 47 = .ok (.bipush (-9), 2) := by decide +kernel
theorem dX7_safe_49 : decode cX7_safe 49 = .ok (.ireturn, 1) := by decide +kernel
theorem dX7_share_0 : decode cX7_share 0 = .ok (.aload_n 0, 1) := by decide +kernel
theorem dX7_share_1 : decode cX7_share 1 = .ok (.iconst 1, 1) := by decide +kernel
theorem dX7_share_2 : decode cX7_share 2 = .ok (.iload_n 1, 1) := by decide +kernel
theorem dX7_share_3 : decode cX7_share 3 = .ok (.iconst 3, 1) := by decide +kernel
theorem dX7_share_4 : decode cX7_share 4 = .ok (.invokevirtual 263, 3) := by decide +kernel
theorem dX7_share_7 : decode cX7_share 7 = .ok (.istore_n 2, 1) := by decide +kernel
theorem dX7_share_8 : decode cX7_share 8 = .ok (.iload_n 2, 1) := by decide +kernel
theorem dX7_share_9 : decode cX7_share 9 = .ok (.ifCond .ge 5, 3) := by decide +kernel
theorem dX7_share_12 : decode cX7_share 12 = .ok (.iload_n 2, 1) := by decide +kernel
theorem dX7_share_13 : decode cX7_share 13 = .ok (.ireturn, 1) := by decide +kernel
theorem dX7_share_14 : decode cX7_share 14 = .ok (.iconst 0, 1) := by decide +kernel
theorem dX7_share_15 : decode cX7_share 15 = .ok (.istore_n 3, 1) := by decide +kernel
theorem dX7_share_16 : decode cX7_share 16 = .ok (.iconst 0, 1) := by decide +kernel
theorem dX7_share_17 : decode cX7_share 17 = .ok (.istore 4, 2) := by decide +kernel
theorem dX7_share_19 : decode cX7_share 19 = .ok (.aload_n 0, 1) := by decide +kernel
theorem dX7_share_20 : decode cX7_share 20 = .ok (.iload_n 1, 1) := by decide +kernel
theorem dX7_share_21 : decode cX7_share 21 = .ok (.invokevirtual 253, 3) := by decide +kernel
theorem dX7_share_24 : decode cX7_share 24 = .ok (.aload_n 0, 1) := by decide +kernel
theorem dX7_share_25 : decode cX7_share 25 = .ok (.invokevirtual 256, 3) := by decide +kernel
theorem dX7_share_28 : decode cX7_share 28 = .ok (.ifCond .eq 26, 3) := by decide +kernel
theorem dX7_share_31 : decode cX7_share 31 = .ok (.iinc 3 1, 3) := by decide +kernel
theorem dX7_share_34 : decode cX7_share 34 = .ok (.iload 4, 2) := by decide +kernel
theorem dX7_share_36 : decode cX7_share 36 = .ok (.aload_n 0, 1) := by decide +kernel
theorem dX7_share_37 : decode cX7_share 37 = .ok (.getfield 240, 3) := by decide +kernel
theorem dX7_share_40 : decode cX7_share 40 = .ok (.ifCond .ne 7, 3) := by decide +kernel
theorem dX7_share_43 : decode cX7_share 43 = .ok (.iconst 1, 1) := by decide +kernel
theorem dX7_share_44 : decode cX7_share 44 = .ok (.goto 4, 3) := by decide +kernel
theorem dX7_share_47 : decode cX7_share 47 = .ok (.iconst 0, 1) := by decide +kernel
theorem dX7_share_48 : decode cX7_share 48 = .ok (.iadd, 1) := by decide +kernel
theorem dX7_share_49 : decode cX7_share 49 = .ok (.istore 4, 2) := by decide +kernel
theorem dX7_share_51 : decode cX7_share 51 = .ok (.goto (-27), 3) := by decide +kernel
theorem dX7_share_54 : decode cX7_share 54 = .ok (.aload_n 0, 1) := by decide +kernel
theorem dX7_share_55 : decode cX7_share 55 = .ok (.iload 4, 2) := by decide +kernel
theorem dX7_share_57 : decode cX7_share 57 = .ok (.i2l, 1) := by decide +kernel
theorem dX7_share_58 : decode cX7_share 58 = .ok (.iload_n 3, 1) := by decide +kernel
theorem dX7_share_59 : decode cX7_share 59 = .ok (.i2l, 1) := by decide +kernel
theorem dX7_share_60 : decode cX7_share 60 = .ok (.iload 4, 2) := by decide +kernel
theorem dX7_share_62 : decode cX7_share 62 = .ok (.invokevirtual 276, 3) := by decide +kernel
theorem dX7_share_65 : decode cX7_share 65 = .ok (.ireturn, 1) := by decide +kernel
theorem dX7_food_0 : decode cX7_food 0 = .ok (.aload_n 0, 1) := by decide +kernel
theorem dX7_food_1 : decode cX7_food 1 = .ok (.iconst 1, 1) := by decide +kernel
theorem dX7_food_2 : decode cX7_food 2 = .ok (.iload_n 1, 1) := by decide +kernel
theorem dX7_food_3 : decode cX7_food 3 = .ok (.iconst 3, 1) := by decide +kernel
theorem dX7_food_4 : decode cX7_food 4 = .ok (.invokevirtual 263, 3) := by decide +kernel
theorem dX7_food_7 : decode cX7_food 7 = .ok (.istore_n 2, 1) := by decide +kernel
theorem dX7_food_8 : decode cX7_food 8 = .ok (.iload_n 2, 1) := by decide +kernel
theorem dX7_food_9 : decode cX7_food 9 = .ok (.ifCond .ge 5, 3) := by decide +kernel
theorem dX7_food_12 : decode cX7_food 12 = .ok (.iload_n 2, 1) := by decide +kernel
theorem dX7_food_13 : decode cX7_food 13 = .ok (.ireturn, 1) := by decide +kernel
theorem dX7_food_14 : decode cX7_food 14 = .ok (.bipush (-9), 2) := by decide +kernel
theorem dX7_food_16 : decode cX7_food 16 = .ok (.istore_n 3, 1) := by decide +kernel
theorem dX7_food_17 : decode cX7_food 17 = .ok (.aload_n 0, 1) := by decide +kernel
theorem dX7_food_18 : decode cX7_food 18 = .ok (.iload_n 1, 1) := by decide +kernel
theorem dX7_food_19 : decode cX7_food 19 = .ok (.invokevirtual 253, 3) := by decide +kernel
theorem dX7_food_22 : decode cX7_food 22 = .ok (.aload_n 0, 1) := by decide +kernel
theorem dX7_food_23 : decode cX7_food 23 = .ok (.invokevirtual 256, 3) := by decide +kernel
theorem dX7_food_26 : decode cX7_food 26 = .ok (.ifCond .eq 36, 3) := by decide +kernel
theorem dX7_food_29 : decode cX7_food 29 = .ok (.aload_n 0, 1) := by decide +kernel
theorem dX7_food_30 : decode cX7_food 30 = .ok (.getfield 240, 3) := by decide +kernel
theorem dX7_food_33 : decode cX7_food 33 = .ok (.ifCond .ne 24, 3) := by decide +kernel
theorem dX7_food_36 : decode cX7_food 36 = .ok (.iload_n 3, 1) := by decide +kernel
theorem dX7_food_37 : decode cX7_food 37 = .ok (.bipush (-9), 2) := by decide +kernel
theorem dX7_food_39 : decode cX7_food 39 = .ok (.if_icmp .eq 11, 3) := by decide +kernel
theorem dX7_food_42 : decode cX7_food 42 = .ok (.aload_n 0, 1) := by decide +kernel
theorem dX7_food_43 : decode cX7_food 43 = .ok (.getfield 243, 3) := by decide +kernel
theorem dX7_food_46 : decode cX7_food 46 = .ok (.iload_n 3, 1) := by decide +kernel
theorem dX7_food_47 : decode cX7_food 47 = .ok (.if_icmp .ge 10, 3) := by decide +kernel
theorem dX7_food_50 : decode cX7_food 50 = .ok (.aload_n 0, 1) := by decide +kernel
theorem dX7_food_51 : decode cX7_food 51 = .ok (.getfield 243, 3) := by decide +kernel
theorem dX7_food_54 : decode cX7_food 54 = .ok (.goto 4, 3) := by decide +kernel
theorem dX7_food_57 : decode cX7_food 57 = .ok (.iload_n 3, 1) := by decide +kernel
theorem dX7_food_58 : decode cX7_food 58 = .ok (.istore_n 3, 1) := by decide +kernel
theorem dX7_food_59 : decode cX7_food 59 = .ok (.goto (-37), 3) := by decide +kernel
theorem dX7_food_62 : decode cX7_food 62 = .ok (.iload_n 3, 1) := by decide +kernel
theorem dX7_food_63 : decode cX7_food 63 = .ok (.ireturn, 1) := by decide +kernel
theorem dX7_harm_0 : decode cX7_harm 0 = .ok (.aload_n 0, 1) := by decide +kernel
theorem dX7_harm_1 : decode cX7_harm 1 = .ok (.iconst 1, 1) := by decide +kernel
theorem dX7_harm_2 : decode cX7_harm 2 = .ok (.iload_n 1, 1) := by decide +kernel
theorem dX7_harm_3 : decode cX7_harm 3 = .ok (.iconst 3, 1) := by decide +kernel
theorem dX7_harm_4 : decode cX7_harm 4 = .ok (.invokevirtual 263, 3) := by decide +kernel
theorem dX7_harm_7 : decode cX7_harm 7 = .ok (.istore_n 2, 1) := by decide +kernel
theorem dX7_harm_8 : decode cX7_harm 8 = .ok (.iload_n 2, 1) := by decide +kernel
theorem dX7_harm_9 : decode cX7_harm 9 = .ok (.ifCond .ge 5, 3) := by decide +kernel
theorem dX7_harm_12 : decode cX7_harm 12 = .ok (.iload_n 2, 1) := by decide +kernel
theorem dX7_harm_13 : decode cX7_harm 13 = .ok (.ireturn, 1) := by decide +kernel
theorem dX7_harm_14 : decode cX7_harm 14 = .ok (.iconst (-1), 1) := by decide +kernel
theorem dX7_harm_15 : decode cX7_harm 15 = .ok (.istore_n 3, 1) := by decide +kernel
theorem dX7_harm_16 : decode cX7_harm 16 = .ok (.iconst 0, 1) := by decide +kernel
theorem dX7_harm_17 : decode cX7_harm 17 = .ok (.istore 4, 2) := by decide +kernel
theorem dX7_harm_19 : decode cX7_harm 19 = .ok (.aload_n 0, 1) := by decide +kernel
theorem dX7_harm_20 : decode cX7_harm 20 = .ok (.iload_n 1, 1) := by decide +kernel
theorem dX7_harm_21 : decode cX7_harm 21 = .ok (.invokevirtual 253, 3) := by decide +kernel
theorem dX7_harm_24 : decode cX7_harm 24 = .ok (.aload_n 0, 1) := by decide +kernel
theorem dX7_harm_25 : decode cX7_harm 25 = .ok (.invokevirtual 256, 3) := by decide +kernel
theorem dX7_harm_28 : decode cX7_harm 28 = .ok (.ifCond .eq 46, 3) := by decide +kernel
theorem dX7_harm_31 : decode cX7_harm 31 = .ok (.iload_n 3, 1) := by decide +kernel
theorem dX7_harm_32 : decode cX7_harm 32 = .ok (.ifCond .lt 28, 3) := by decide +kernel
theorem dX7_harm_35 : decode cX7_harm 35 = .ok (.aload_n 0, 1) := by decide +kernel
theorem dX7_harm_36 : decode cX7_harm 36 = .ok (.getfield 240, 3) := by decide +kernel
theorem dX7_harm_39 : decode cX7_harm 39 = .ok (.iload_n 3, 1) := by decide +kernel
theorem dX7_harm_40 : decode cX7_harm 40 = .ok (.if_icmp .lt 20, 3) := by decide +kernel
theorem dX7_harm_43 : decode cX7_harm 43 = .ok (.aload_n 0, 1) := by decide +kernel
theorem dX7_harm_44 : decode cX7_harm 44 = .ok (.getfield 240, 3) := by decide +kernel
theorem dX7_harm_47 : decode cX7_harm 47 = .ok (.iload_n 3, 1) := by decide +kernel
theorem dX7_harm_48 : decode cX7_harm 48 = .ok (.if_icmp .ne (-24), 3) := by decide +kernel
theorem dX7_harm_51 : decode cX7_harm 51 = .ok (.aload_n 0, 1) := by decide +kernel
theorem dX7_harm_52 : decode cX7_harm 52 = .ok (.getfield 249, 3) := by decide +kernel
theorem dX7_harm_55 : decode cX7_harm 55 = .ok (.iload 4, 2) := by decide +kernel
theorem dX7_harm_57 : decode cX7_harm 57 = .ok (.if_icmp .le (-33), 3) := by decide +kernel
theorem dX7_harm_60 : decode cX7_harm 60 = .ok (.aload_n 0, 1) := by decide +kernel
theorem dX7_harm_61 : decode cX7_harm 61 = .ok (.getfield 240, 3) := by decide +kernel
theorem dX7_harm_64 : decode cX7_harm 64 = .ok (.istore_n 3, 1) := by decide +kernel
theorem dX7_harm_65 : decode cX7_harm 65 = .ok (.aload_n 0, 1) := by decide +kernel
theorem dX7_harm_66 : decode cX7_harm 66 = .ok (.getfield 249, 3) := by decide +kernel
theorem dX7_harm_69 : decode cX7_harm 69 = .ok (.istore 4, 2) := by decide +kernel
theorem dX7_harm_71 : decode cX7_harm 71 = .ok (.goto (-47), 3) := by decide +kernel
theorem dX7_harm_74 : decode cX7_harm 74 = .ok (.aload_n 0, 1) := by decide +kernel
theorem dX7_harm_75 : decode cX7_harm 75 = .ok (.iload 4, 2) := by decide +kernel
theorem dX7_harm_77 : decode cX7_harm 77 = .ok (.iload_n 3, 1) := by decide +kernel
theorem dX7_harm_78 : decode cX7_harm 78 = .ok (.invokevirtual 102, 3) := by decide +kernel
theorem dX7_harm_81 : decode cX7_harm 81 = .ok (.ireturn, 1) := by decide +kernel
theorem dX7_starve_0 : decode cX7_starve 0 = .ok (.aload_n 0, 1) := by decide +kernel
theorem dX7_starve_1 : decode cX7_starve 1 = .ok (.iconst 1, 1) := by decide +kernel
theorem dX7_starve_2 : decode cX7_starve 2 = .ok (.iload_n 1, 1) := by decide +kernel
theorem dX7_starve_3 : decode cX7_starve 3 = .ok (.iconst 3, 1) := by decide +kernel
theorem dX7_starve_4 : decode cX7_starve 4 = .ok (.invokevirtual 263, 3) := by decide +kernel
theorem dX7_starve_7 : decode cX7_starve 7 = .ok (.istore_n 2, 1) := by decide +kernel
theorem dX7_starve_8 : decode cX7_starve 8 = .ok (.iload_n 2, 1) := by decide +kernel
theorem dX7_starve_9 : decode cX7_starve 9 = .ok (.ifCond .ge 5, 3) := by decide +kernel
theorem dX7_starve_12 : decode cX7_starve 12 = .ok (.iload_n 2, 1) := by decide +kernel
theorem dX7_starve_13 : decode cX7_starve 13 = .ok (.ireturn, 1) := by decide +kernel
theorem dX7_starve_14 : decode cX7_starve 14 = .ok (.aload_n 0, 1) := by decide +kernel
theorem dX7_starve_15 : decode cX7_starve 15 = .ok (.iload_n 1, 1) := by decide +kernel
theorem dX7_starve_16 : decode cX7_starve 16 = .ok (.invokevirtual 267, 3) := by decide +kernel
theorem dX7_starve_19 : decode cX7_starve 19 = .ok (.istore_n 3, 1) := by decide +kernel
theorem dX7_starve_20 : decode cX7_starve 20 = .ok (.bipush (-9), 2) := by decide +kernel
theorem dX7_starve_22 : decode cX7_starve 22 = .ok (.istore 4, 2) := by decide +kernel
theorem dX7_starve_24 : decode cX7_starve 24 = .ok (.iconst 0, 1) := by decide +kernel
theorem dX7_starve_25 : decode cX7_starve 25 = .ok (.istore 5, 2) := by decide +kernel
theorem dX7_starve_27 : decode cX7_starve 27 = .ok (.iconst 0, 1) := by decide +kernel
theorem dX7_starve_28 : decode cX7_starve 28 = .ok (.istore 6, 2) := by decide +kernel
theorem dX7_starve_30 : decode cX7_starve 30 = .ok (.iload 6, 2) := by decide +kernel
theorem dX7_starve_32 : decode cX7_starve 32 = .ok (.aload_n 0, 1) := by decide +kernel
theorem dX7_starve_33 : decode cX7_starve 33 = .ok (.getfield 139, 3) := by decide +kernel
theorem dX7_starve_36 : decode cX7_starve 36 = .ok (.if_icmp .ge 56, 3) := by decide +kernel
theorem dX7_starve_39 : decode cX7_starve 39 = .ok (.aload_n 0, 1) := by decide +kernel
theorem dX7_starve_40 : decode cX7_starve 40 = .ok (.iconst 0, 1) := by decide +kernel
theorem dX7_starve_41 : decode cX7_starve 41 = .ok (.iload 6, 2) := by decide +kernel
theorem dX7_starve_43 : decode cX7_starve 43 = .ok (.invokevirtual 155, 3) := by decide +kernel
theorem dX7_starve_46 : decode cX7_starve 46 = .ok (.ifCond .ne 40, 3) := by decide +kernel
theorem dX7_starve_49 : decode cX7_starve 49 = .ok (.aload_n 0, 1) := by decide +kernel
theorem dX7_starve_50 : decode cX7_starve 50 = .ok (.iload 6, 2) := by decide +kernel
theorem dX7_starve_52 : decode cX7_starve 52 = .ok (.putfield 63, 3) := by decide +kernel
theorem dX7_starve_55 : decode cX7_starve 55 = .ok (.iload_n 3, 1) := by decide +kernel
theorem dX7_starve_56 : decode cX7_starve 56 = .ok (.aload_n 0, 1) := by decide +kernel
theorem dX7_starve_57 : decode cX7_starve 57 = .ok (.iload_n 1, 1) := by decide +kernel
theorem dX7_starve_58 : decode cX7_starve 58 = .ok (.invokevirtual 267, 3) := by decide +kernel
theorem dX7_starve_61 : decode cX7_starve 61 = .ok (.isub, 1) := by decide +kernel
theorem dX7_starve_62 : decode cX7_starve 62 = .ok (.istore 7, 2) := by decide +kernel
theorem dX7_starve_64 : decode cX7_starve 64 = .ok (.iload 4, 2) := by decide +kernel
theorem dX7_starve_66 : decode cX7_starve 66 = .ok (.bipush (-9), 2) := by decide +kernel
theorem dX7_starve_68 : decode cX7_starve 68 = .ok (.if_icmp .eq 10, 3) := by decide +kernel
theorem dX7_starve_71 : decode cX7_starve 71 = .ok (.iload 7, 2) := by decide +kernel
theorem dX7_starve_73 : decode cX7_starve 73 = .ok (.iload 5, 2) := by decide +kernel
theorem dX7_starve_75 : decode cX7_starve 75 = .ok (.if_icmp .ge 11, 3) := by decide +kernel
theorem dX7_starve_78 : decode cX7_starve 78 = .ok (.iload 6, 2) := by decide +kernel
theorem dX7_starve_80 : decode cX7_starve 80 = .ok (.istore 4, 2) := by decide +kernel
theorem dX7_starve_82 : decode cX7_starve 82 = .ok (.iload 7, 2) := by decide +kernel
theorem dX7_starve_84 : decode cX7_starve 84 = .ok (.istore 5, 2) := by decide +kernel
theorem dX7_starve_86 : decode cX7_starve 86 = .ok (.iinc 6 1, 3) := by decide +kernel
theorem dX7_starve_89 : decode cX7_starve 89 = .ok (.goto (-59), 3) := by decide +kernel
theorem dX7_starve_92 : decode cX7_starve 92 = .ok (.aload_n 0, 1) := by decide +kernel
theorem dX7_starve_93 : decode cX7_starve 93 = .ok (.bipush (-9), 2) := by decide +kernel
theorem dX7_starve_95 : decode cX7_starve 95 = .ok (.putfield 63, 3) := by decide +kernel
theorem dX7_starve_98 : decode cX7_starve 98 = .ok (.iload 4, 2) := by decide +kernel
theorem dX7_starve_100 : decode cX7_starve 100 = .ok (.bipush (-9), 2) := by decide +kernel
theorem dX7_starve_102 : decode cX7_starve 102 = .ok (.if_icmp .ne 8, 3) := by decide +kernel
theorem dX7_starve_105 : decode cX7_starve 105 = .ok (.bipush (-9), 2) := by decide +kernel
theorem dX7_starve_107 : decode cX7_starve 107 = .ok (.goto 11, 3) := by decide +kernel
theorem dX7_starve_110 : decode cX7_starve 110 = .ok (.aload_n 0, 1) := by decide +kernel
theorem dX7_starve_111 : decode cX7_starve 111 = .ok (.iload 5, 2) := by decide +kernel
theorem dX7_starve_113 : decode cX7_starve 113 = .ok (.iload 4, 2) := by decide +kernel
theorem dX7_starve_115 : decode cX7_starve 115 = .ok (.invokevirtual 102, 3) := by decide +kernel
theorem dX7_starve_118 : decode cX7_starve 118 = .ok (.ireturn, 1) := by decide +kernel
theorem dX7_price_0 : decode cX7_price 0 = .ok (.aload_n 0, 1) := by decide +kernel
theorem dX7_price_1 : decode cX7_price 1 = .ok (.iload_n 1, 1) := by decide +kernel
theorem dX7_price_2 : decode cX7_price 2 = .ok (.invokevirtual 208, 3) := by decide +kernel
theorem dX7_price_5 : decode cX7_price 5 = .ok (.ifCond .eq 12, 3) := by decide +kernel
theorem dX7_price_8 : decode cX7_price 8 = .ok (.iload_n 2, 1) := by decide +kernel
theorem dX7_price_9 : decode cX7_price 9 = .ok (.iconst 1, 1) := by decide +kernel
theorem dX7_price_10 : decode cX7_price 10 = .ok (.iconst 3, 1) := by decide +kernel
theorem dX7_price_11 : decode cX7_price 11 = .ok (.invokestatic 80, 3) := by decide +kernel
theorem dX7_price_14 : decode cX7_price 14 = .ok (.ifCond .ne 5, 3) := by decide +kernel
theorem dX7_price_17 : decode cX7_price 17 = .ok (.iconst (-1), 1) := by decide +kernel
theorem dX7_price_18 : decode cX7_price 18 = .ok (.ireturn, 1) := by decide +kernel
theorem dX7_price_19 : decode cX7_price 19 = .ok (.aload_n 0, 1) := by decide +kernel
theorem dX7_price_20 : decode cX7_price 20 = .ok (.iconst 0, 1) := by decide +kernel
theorem dX7_price_21 : decode cX7_price 21 = .ok (.iload_n 1, 1) := by decide +kernel
theorem dX7_price_22 : decode cX7_price 22 = .ok (.invokevirtual 155, 3) := by decide +kernel
theorem dX7_price_25 : decode cX7_price 25 = .ok (.ifCond .eq 6, 3) := by decide +kernel
theorem dX7_price_28 : decode cX7_price 28 = .ok (.bipush (-4), 2) := by decide +kernel
theorem dX7_price_30 : decode cX7_price 30 = .ok (.ireturn, 1) := by decide +kernel
theorem dX7_price_31 : decode cX7_price 31 = .ok (.aload_n 0, 1) := by decide +kernel
theorem dX7_price_32 : decode cX7_price 32 = .ok (.iload_n 2, 1) := by decide +kernel
theorem dX7_price_33 : decode cX7_price 33 = .ok (.invokevirtual 267, 3) := by decide +kernel
theorem dX7_price_36 : decode cX7_price 36 = .ok (.istore_n 3, 1) := by decide +kernel
theorem dX7_price_37 : decode cX7_price 37 = .ok (.aload_n 0, 1) := by decide +kernel
theorem dX7_price_38 : decode cX7_price 38 = .ok (.iconst 0, 1) := by decide +kernel
theorem dX7_price_39 : decode cX7_price 39 = .ok (.iconst 3, 1) := by decide +kernel
theorem dX7_price_40 : decode cX7_price 40 = .ok (.iload_n 1, 1) := by decide +kernel
theorem dX7_price_41 : decode cX7_price 41 = .ok (.iadd, 1) := by decide +kernel
theorem dX7_price_42 : decode cX7_price 42 = .ok (.invokevirtual 149, 3) := by decide +kernel
theorem dX7_price_45 : decode cX7_price 45 = .ok (.istore 4, 2) := by decide +kernel
theorem dX7_price_47 : decode cX7_price 47 = .ok (.aload_n 0, 1) := by decide +kernel
theorem dX7_price_48 : decode cX7_price 48 = .ok (.iconst 0, 1) := by decide +kernel
theorem dX7_price_49 : decode cX7_price 49 = .ok (.iconst 3, 1) := by decide +kernel
theorem dX7_price_50 : decode cX7_price 50 = .ok (.iload_n 1, 1) := by decide +kernel
theorem dX7_price_51 : decode cX7_price 51 = .ok (.iadd, 1) := by decide +kernel
theorem dX7_price_52 : decode cX7_price 52 = .ok (.bipush (-9), 2) := by decide +kernel
theorem dX7_price_54 : decode cX7_price 54 = .ok (.invokevirtual 142, 3) := by decide +kernel
theorem dX7_price_57 : decode cX7_price 57 = .ok (.aload_n 0, 1) := by decide +kernel
theorem dX7_price_58 : decode cX7_price 58 = .ok (.iload_n 2, 1) := by decide +kernel
theorem dX7_price_59 : decode cX7_price 59 = .ok (.invokevirtual 267, 3) := by decide +kernel
theorem dX7_price_62 : decode cX7_price 62 = .ok (.istore 5, 2) := by decide +kernel
theorem dX7_price_64 : decode cX7_price 64 = .ok (.aload_n 0, 1) := by decide +kernel
theorem dX7_price_65 : decode cX7_price 65 = .ok (.iconst 0, 1) := by decide +kernel
theorem dX7_price_66 : decode cX7_price 66 = .ok (.iconst 3, 1) := by decide +kernel
theorem dX7_price_67 : decode cX7_price 67 = .ok (.iload_n 1, 1) := by decide +kernel
theorem dX7_price_68 : decode cX7_price 68 = .ok (.iadd, 1) := by decide +kernel
theorem dX7_price_69 : decode cX7_price 69 = .ok (.iload 4, 2) := by decide +kernel
theorem dX7_price_71 : decode cX7_price 71 = .ok (.invokevirtual 142, 3) := by decide +kernel
theorem dX7_price_74 : decode cX7_price 74 = .ok (.aload_n 0, 1) := by decide +kernel
theorem dX7_price_75 : decode cX7_price 75 = .ok (.iload_n 3, 1) := by decide +kernel
theorem dX7_price_76 : decode cX7_price 76 = .ok (.iload 5, 2) := by decide +kernel
theorem dX7_price_78 : decode cX7_price 78 = .ok (.isub, 1) := by decide +kernel
theorem dX7_price_79 : decode cX7_price 79 = .ok (.iconst 1, 1) := by decide +kernel
theorem dX7_price_80 : decode cX7_price 80 = .ok (.invokevirtual 102, 3) := by decide +kernel
theorem dX7_price_83 : decode cX7_price 83 = .ok (.ireturn, 1) := by decide +kernel
theorem dX7_altar_0 : decode cX7_altar 0 = .ok (.aload_n 0, 1) := by decide +kernel
theorem dX7_altar_1 : decode cX7_altar 1 = .ok (.iload_n 1, 1) := by decide +kernel
theorem dX7_altar_2 : decode cX7_altar 2 = .ok (.invokevirtual 208, 3) := by decide +kernel
theorem dX7_altar_5 : decode cX7_altar 5 = .ok (.ifCond .eq 32, 3) := by decide +kernel
theorem dX7_altar_8 : decode cX7_altar 8 = .ok (.iload_n 2, 1) := by decide +kernel
theorem dX7_altar_9 : decode cX7_altar 9 = .ok (.iconst 0, 1) := by decide +kernel
theorem dX7_altar_10 : decode cX7_altar 10 = .ok (.iconst 2, 1) := by decide +kernel
theorem dX7_altar_11 : decode cX7_altar 11 = .ok (.invokestatic 80, 3) := by decide +kernel
theorem dX7_altar_14 : decode cX7_altar 14 = .ok (.ifCond .eq 23, 3) := by decide +kernel
theorem dX7_altar_17 : decode cX7_altar 17 = .ok (.iload_n 3, 1) := by decide +kernel
theorem dX7_altar_18 : decode cX7_altar 18 = .ok (.iconst 1, 1) := by decide +kernel
theorem dX7_altar_19 : decode cX7_altar 19 = .ok (.bipush 6, 2) := by decide +kernel
theorem dX7_altar_21 : decode cX7_altar 21 = .ok (.invokestatic 80, 3) := by decide +kernel
theorem dX7_altar_24 : decode cX7_altar 24 = .ok (.ifCond .eq 13, 3) := by decide +kernel
theorem dX7_altar_27 : decode cX7_altar 27 = .ok (.iload 4, 2) := by decide +kernel
theorem dX7_altar_29 : decode cX7_altar 29 = .ok (.iconst 1, 1) := by decide +kernel
theorem dX7_altar_30 : decode cX7_altar 30 = .ok (.iconst 3, 1) := by decide +kernel
theorem dX7_altar_31 : decode cX7_altar 31 = .ok (.invokestatic 80, 3) := by decide +kernel
theorem dX7_altar_34 : decode cX7_altar 34 = .ok (.ifCond .ne 5, 3) := by decide +kernel
theorem dX7_altar_37 : decode cX7_altar 37 = .ok (.iconst (-1), 1) := by decide +kernel
theorem dX7_altar_38 : decode cX7_altar 38 = .ok (.ireturn, 1) := by decide +kernel
theorem dX7_altar_39 : decode cX7_altar 39 = .ok (.aload_n 0, 1) := by decide +kernel
theorem dX7_altar_40 : decode cX7_altar 40 = .ok (.iconst 0, 1) := by decide +kernel
theorem dX7_altar_41 : decode cX7_altar 41 = .ok (.iload_n 1, 1) := by decide +kernel
theorem dX7_altar_42 : decode cX7_altar 42 = .ok (.invokevirtual 155, 3) := by decide +kernel
theorem dX7_altar_45 : decode cX7_altar 45 = .ok (.ifCond .eq 6, 3) := by decide +kernel
theorem dX7_altar_48 : decode cX7_altar 48 = .ok (.bipush (-4), 2) := by decide +kernel
theorem dX7_altar_50 : decode cX7_altar 50 = .ok (.ireturn, 1) := by decide +kernel
theorem dX7_altar_51 : decode cX7_altar 51 = .ok (.aload_n 0, 1) := by decide +kernel
theorem dX7_altar_52 : decode cX7_altar 52 = .ok (.getfield 29, 3) := by decide +kernel
theorem dX7_altar_55 : decode cX7_altar 55 = .ok (.bipush 6, 2) := by decide +kernel
theorem dX7_altar_57 : decode cX7_altar 57 = .ok (.iload_n 1, 1) := by decide +kernel
theorem dX7_altar_58 : decode cX7_altar 58 = .ok (.imul, 1) := by decide +kernel
theorem dX7_altar_59 : decode cX7_altar 59 = .ok (.iconst 1, 1) := by decide +kernel
theorem dX7_altar_60 : decode cX7_altar 60 = .ok (.iadd, 1) := by decide +kernel
theorem dX7_altar_61 : decode cX7_altar 61 = .ok (.iaload, 1) := by decide +kernel
theorem dX7_altar_62 : decode cX7_altar 62 = .ok (.istore 5, 2) := by decide +kernel
theorem dX7_altar_64 : decode cX7_altar 64 = .ok (.aload_n 0, 1) := by decide +kernel
theorem dX7_altar_65 : decode cX7_altar 65 = .ok (.iload_n 1, 1) := by decide +kernel
theorem dX7_altar_66 : decode cX7_altar 66 = .ok (.invokevirtual 192, 3) := by decide +kernel
theorem dX7_altar_69 : decode cX7_altar 69 = .ok (.istore 6, 2) := by decide +kernel
theorem dX7_altar_71 : decode cX7_altar 71 = .ok (.aload_n 0, 1) := by decide +kernel
theorem dX7_altar_72 : decode cX7_altar 72 = .ok (.getfield 29, 3) := by decide +kernel
theorem dX7_altar_75 : decode cX7_altar 75 = .ok (.bipush 6, 2) := by decide +kernel
theorem dX7_altar_77 : decode cX7_altar 77 = .ok (.iload_n 1, 1) := by decide +kernel
theorem dX7_altar_78 : decode cX7_altar 78 = .ok (.imul, 1) := by decide +kernel
theorem dX7_altar_79 : decode cX7_altar 79 = .ok (.iconst 1, 1) := by decide +kernel
theorem dX7_altar_80 : decode cX7_altar 80 = .ok (.iadd, 1) := by decide +kernel
theorem dX7_altar_81 : decode cX7_altar 81 = .ok (.iload_n 2, 1) := by decide +kernel
theorem dX7_altar_82 : decode cX7_altar 82 = .ok (.iastore, 1) := by decide +kernel
theorem dX7_altar_83 : decode cX7_altar 83 = .ok (.aload_n 0, 1) := by decide +kernel
theorem dX7_altar_84 : decode cX7_altar 84 = .ok (.getfield 29, 3) := by decide +kernel
theorem dX7_altar_87 : decode cX7_altar 87 = .ok (.bipush 6, 2) := by decide +kernel
theorem dX7_altar_89 : decode cX7_altar 89 = .ok (.iload_n 1, 1) := by decide +kernel
theorem dX7_altar_90 : decode cX7_altar 90 = .ok (.imul, 1) := by decide +kernel
theorem dX7_altar_91 : decode cX7_altar 91 = .ok (.iconst 2, 1) := by decide +kernel
theorem dX7_altar_92 : decode cX7_altar 92 = .ok (.iadd, 1) := by decide +kernel
theorem dX7_altar_93 : decode cX7_altar 93 = .ok (.iload_n 3, 1) := by decide +kernel
theorem dX7_altar_94 : decode cX7_altar 94 = .ok (.iastore, 1) := by decide +kernel
theorem dX7_altar_95 : decode cX7_altar 95 = .ok (.aload_n 0, 1) := by decide +kernel
theorem dX7_altar_96 : decode cX7_altar 96 = .ok (.iload 4, 2) := by decide +kernel
theorem dX7_altar_98 : decode cX7_altar 98 = .ok (.invokevirtual 267, 3) := by decide +kernel
theorem dX7_altar_101 : decode cX7_altar 101 = .ok (.istore 7, 2) := by decide +kernel
theorem dX7_altar_103 : decode cX7_altar 103 = .ok (.aload_n 0, 1) := by decide +kernel
theorem dX7_altar_104 : decode cX7_altar 104 = .ok (.getfield 29, 3) := by decide +kernel
theorem dX7_altar_107 : decode cX7_altar 107 = .ok (.bipush 6, 2) := by decide +kernel
theorem dX7_altar_109 : decode cX7_altar 109 = .ok (.iload_n 1, 1) := by decide +kernel
theorem dX7_altar_110 : decode cX7_altar 110 = .ok (.imul, 1) := by decide +kernel
theorem dX7_altar_111 : decode cX7_altar 111 = .ok (.iconst 1, 1) := by decide +kernel
theorem dX7_altar_112 : decode cX7_altar 112 = .ok (.iadd, 1) := by decide +kernel
theorem dX7_altar_113 : decode cX7_altar 113 = .ok (.iload 5, 2) := by decide +kernel
theorem dX7_altar_115 : decode cX7_altar 115 = .ok (.iastore, 1) := by decide +kernel
theorem dX7_altar_116 : decode cX7_altar 116 = .ok (.aload_n 0, 1) := by decide +kernel
theorem dX7_altar_117 : decode cX7_altar 117 = .ok (.getfield 29, 3) := by decide +kernel
theorem dX7_altar_120 : decode cX7_altar 120 = .ok (.bipush 6, 2) := by decide +kernel
theorem dX7_altar_122 : decode cX7_altar 122 = .ok (.iload_n 1, 1) := by decide +kernel
theorem dX7_altar_123 : decode cX7_altar 123 = .ok (.imul, 1) := by decide +kernel
theorem dX7_altar_124 : decode cX7_altar 124 = .ok (.iconst 2, 1) := by decide +kernel
theorem dX7_altar_125 : decode cX7_altar 125 = .ok (.iadd, 1) := by decide +kernel
theorem dX7_altar_126 : decode cX7_altar 126 = .ok (.iload 6, 2) := by decide +kernel
theorem dX7_altar_128 : decode cX7_altar 128 = .ok (.iastore, 1) := by decide +kernel
theorem dX7_altar_129 : decode cX7_altar 129 = .ok (.aload_n 0, 1) := by decide +kernel
theorem dX7_altar_130 : decode cX7_altar 130 = .ok (.iload 7, 2) := by decide +kernel
theorem dX7_altar_132 : decode cX7_altar 132 = .ok (.iconst 1, 1) := by decide +kernel
theorem dX7_altar_133 : decode cX7_altar 133 = .ok (.invokevirtual 102, 3) := by decide +kernel
theorem dX7_altar_136 : decode cX7_altar 136 = .ok (.ireturn, 1) := by decide +kernel
theorem dX7_sentOf_0 : decode cX7_sentOf 0 = .ok (.iconst 0, 1) := by decide +kernel
theorem dX7_sentOf_1 : decode cX7_sentOf 1 = .ok (.istore_n 2, 1) := by decide +kernel
theorem dX7_sentOf_2 : decode cX7_sentOf 2 = .ok (.iconst 0, 1) := by decide +kernel
theorem dX7_sentOf_3 : decode cX7_sentOf 3 = .ok (.istore_n 3, 1) := by decide +kernel
theorem dX7_sentOf_4 : decode cX7_sentOf 4 = .ok (.iload_n 3, 1) := by decide +kernel
theorem dX7_sentOf_5 : decode cX7_sentOf 5 = .ok (.aload_n 0, 1) := by decide +kernel
theorem dX7_sentOf_6 : decode cX7_sentOf 6 = .ok (.getfield 139, 3) := by decide +kernel
theorem dX7_sentOf_9 : decode cX7_sentOf 9 = .ok (.if_icmp .ge 30, 3) := by decide +kernel
theorem dX7_sentOf_12 : decode cX7_sentOf 12 = .ok (.iload_n 2, 1) := by decide +kernel
theorem dX7_sentOf_13 : decode cX7_sentOf 13 = .ok (.iload_n 1, 1) := by decide +kernel
theorem dX7_sentOf_14 : decode cX7_sentOf 14 = .ok (.iload_n 3, 1) := by decide +kernel
theorem dX7_sentOf_15 : decode cX7_sentOf 15 = .ok (.invokestatic 174, 3) := by decide +kernel
theorem dX7_sentOf_18 : decode cX7_sentOf 18 = .ok (.ifCond .eq 12, 3) := by decide +kernel
theorem dX7_sentOf_21 : decode cX7_sentOf 21 = .ok (.aload_n 0, 1) := by decide +kernel
theorem dX7_sentOf_22 : decode cX7_sentOf 22 = .ok (.getfield 41, 3) := by decide +kernel
theorem dX7_sentOf_25 : decode cX7_sentOf 25 = .ok (.iload_n 3, 1) := by decide +kernel
theorem dX7_sentOf_26 : decode cX7_sentOf 26 = .ok (.iaload, 1) := by decide +kernel
theorem dX7_sentOf_27 : decode cX7_sentOf 27 = .ok (.goto 4, 3) := by decide +kernel
theorem dX7_sentOf_30 : decode cX7_sentOf 30 = .ok (.iconst 0, 1) := by decide +kernel
theorem dX7_sentOf_31 : decode cX7_sentOf 31 = .ok (.iadd, 1) := by decide +kernel
theorem dX7_sentOf_32 : decode cX7_sentOf 32 = .ok (.istore_n 2, 1) := by decide +kernel
theorem dX7_sentOf_33 : decode cX7_sentOf 33 = .ok (.iinc 3 1, 3) := by decide +kernel
theorem dX7_sentOf_36 : decode cX7_sentOf 36 = .ok (.goto (-32), 3) := by decide +kernel
theorem dX7_sentOf_39 : decode cX7_sentOf 39 = .ok (.iload_n 2, 1) := by decide +kernel
theorem dX7_sentOf_40 : decode cX7_sentOf 40 = .ok (.ireturn, 1) := by decide +kernel
theorem dX7_lastTurn_0 : decode cX7_lastTurn 0 = .ok (.iconst 0, 1) := by decide +kernel
theorem dX7_lastTurn_1 : decode cX7_lastTurn 1 = .ok (.istore 4, 2) := by decide +kernel
theorem dX7_lastTurn_3 : decode cX7_lastTurn 3 = .ok (.iconst 0, 1) := by decide +kernel
theorem dX7_lastTurn_4 : decode cX7_lastTurn 4 = .ok (.istore 5, 2) := by decide +kernel
theorem dX7_lastTurn_6 : decode cX7_lastTurn 6 = .ok (.aload_n 0, 1) := by decide +kernel
theorem dX7_lastTurn_7 : decode cX7_lastTurn 7 = .ok (.bipush 12, 2) := by decide +kernel
theorem dX7_lastTurn_9 : decode cX7_lastTurn 9 = .ok (.putfield 280, 3) := by decide +kernel
theorem dX7_lastTurn_12 : decode cX7_lastTurn 12 = .ok (.iconst 0, 1) := by decide +kernel
theorem dX7_lastTurn_13 : decode cX7_lastTurn 13 = .ok (.istore 6, 2) := by decide +kernel
theorem dX7_lastTurn_15 : decode cX7_lastTurn 15 = .ok (.iload 6, 2) := by decide +kernel
theorem dX7_lastTurn_17 : decode cX7_lastTurn 17 = .ok (.bipush 12, 2) := by decide +kernel
theorem dX7_lastTurn_19 : decode cX7_lastTurn 19 = .ok (.if_icmp .gt 84, 3) := by decide +kernel
theorem dX7_lastTurn_22 : decode cX7_lastTurn 22 = .ok (.aload_n 0, 1) := by decide +kernel
theorem dX7_lastTurn_23 : decode cX7_lastTurn 23 = .ok (.iload_n 1, 1) := by decide +kernel
theorem dX7_lastTurn_24 : decode cX7_lastTurn 24 = .ok (.iload_n 1, 1) := by decide +kernel
theorem dX7_lastTurn_25 : decode cX7_lastTurn 25 = .ok (.iconst 1, 1) := by decide +kernel
theorem dX7_lastTurn_26 : decode cX7_lastTurn 26 = .ok (.iadd, 1) := by decide +kernel
theorem dX7_lastTurn_27 : decode cX7_lastTurn 27 = .ok (.invokevirtual 233, 3) := by decide +kernel
theorem dX7_lastTurn_30 : decode cX7_lastTurn 30 = .ok (.aload_n 0, 1) := by decide +kernel
theorem dX7_lastTurn_31 : decode cX7_lastTurn 31 = .ok (.iload 6, 2) := by decide +kernel
theorem dX7_lastTurn_33 : decode cX7_lastTurn 33 = .ok (.invokevirtual 217, 3) := by decide +kernel
theorem dX7_lastTurn_36 : decode cX7_lastTurn 36 = .ok (.ifCond .eq 61, 3) := by decide +kernel
theorem dX7_lastTurn_39 : decode cX7_lastTurn 39 = .ok (.aload_n 0, 1) := by decide +kernel
theorem dX7_lastTurn_40 : decode cX7_lastTurn 40 = .ok (.iload_n 1, 1) := by decide +kernel
theorem dX7_lastTurn_41 : decode cX7_lastTurn 41 = .ok (.iconst 1, 1) := by decide +kernel
theorem dX7_lastTurn_42 : decode cX7_lastTurn 42 = .ok (.iadd, 1) := by decide +kernel
theorem dX7_lastTurn_43 : decode cX7_lastTurn 43 = .ok (.iload 6, 2) := by decide +kernel
theorem dX7_lastTurn_45 : decode cX7_lastTurn 45 = .ok (.invokevirtual 214, 3) := by decide +kernel
theorem dX7_lastTurn_48 : decode cX7_lastTurn 48 = .ok (.ifCond .eq 49, 3) := by decide +kernel
theorem dX7_lastTurn_51 : decode cX7_lastTurn 51 = .ok (.aload_n 0, 1) := by decide +kernel
theorem dX7_lastTurn_52 : decode cX7_lastTurn 52 = .ok (.iload_n 2, 1) := by decide +kernel
theorem dX7_lastTurn_53 : decode cX7_lastTurn 53 = .ok (.invokevirtual 283, 3) := by decide +kernel
theorem dX7_lastTurn_56 : decode cX7_lastTurn 56 = .ok (.istore 7, 2) := by decide +kernel
theorem dX7_lastTurn_58 : decode cX7_lastTurn 58 = .ok (.iload 5, 2) := by decide +kernel
theorem dX7_lastTurn_60 : decode cX7_lastTurn 60 = .ok (.ifCond .eq 24, 3) := by decide +kernel
theorem dX7_lastTurn_63 : decode cX7_lastTurn 63 = .ok (.iload_n 3, 1) := by decide +kernel
theorem dX7_lastTurn_64 : decode cX7_lastTurn 64 = .ok (.ifCond .eq 13, 3) := by decide +kernel
theorem dX7_lastTurn_67 : decode cX7_lastTurn 67 = .ok (.iload 7, 2) := by decide +kernel
theorem dX7_lastTurn_69 : decode cX7_lastTurn 69 = .ok (.iload 4, 2) := by decide +kernel
theorem dX7_lastTurn_71 : decode cX7_lastTurn 71 = .ok (.if_icmp .le 23, 3) := by decide +kernel
theorem dX7_lastTurn_74 : decode cX7_lastTurn 74 = .ok (.goto 10, 3) := by decide +kernel
theorem dX7_lastTurn_77 : decode cX7_lastTurn 77 = .ok (.iload 7, 2) := by decide +kernel
theorem dX7_lastTurn_79 : decode cX7_lastTurn 79 = .ok (.iload 4, 2) := by decide +kernel
theorem dX7_lastTurn_81 : decode cX7_lastTurn 81 = .ok (.if_icmp .ge 13, 3) := by decide +kernel
theorem dX7_lastTurn_84 : decode cX7_lastTurn 84 = .ok (.iload 7, 2) := by decide +kernel
theorem dX7_lastTurn_86 : decode cX7_lastTurn 86 = .ok (.istore 4, 2) := by decide +kernel
theorem dX7_lastTurn_88 : decode cX7_lastTurn 88 = .ok (.aload_n 0, 1) := by decide +kernel
theorem dX7_lastTurn_89 : decode cX7_lastTurn 89 = .ok (.iload 6, 2) := by decide +kernel
theorem dX7_lastTurn_91 : decode cX7_lastTurn 91 = .ok (.putfield 280, 3) := by decide +kernel
theorem dX7_lastTurn_94 : decode cX7_lastTurn 94 = .ok (.iconst 1, 1) := by decide +kernel
theorem dX7_lastTurn_95 : decode cX7_lastTurn 95 = .ok (.istore 5, 2) := by decide +kernel
theorem dX7_lastTurn_97 : decode cX7_lastTurn 97 = .ok (.iinc 6 1, 3) := by decide +kernel
theorem dX7_lastTurn_100 : decode cX7_lastTurn 100 = .ok (.goto (-85), 3) := by decide +kernel
theorem dX7_lastTurn_103 : decode cX7_lastTurn 103 = .ok (.iload 4, 2) := by decide +kernel
theorem dX7_lastTurn_105 : decode cX7_lastTurn 105 = .ok (.ireturn, 1) := by decide +kernel
theorem dX7_twoTurns_0 : decode cX7_twoTurns 0 = .ok (.iconst 0, 1) := by decide +kernel
theorem dX7_twoTurns_1 : decode cX7_twoTurns 1 = .ok (.istore 4, 2) := by decide +kernel
theorem dX7_twoTurns_3 : decode cX7_twoTurns 3 = .ok (.iconst 0, 1) := by decide +kernel
theorem dX7_twoTurns_4 : decode cX7_twoTurns 4 = .ok (.istore 5, 2) := by decide +kernel
theorem dX7_twoTurns_6 : decode cX7_twoTurns 6 = .ok (.bipush 12, 2) := by decide +kernel
theorem dX7_twoTurns_8 : decode cX7_twoTurns 8 = .ok (.istore 6, 2) := by decide +kernel
theorem dX7_twoTurns_10 : decode cX7_twoTurns 10 = .ok (.iconst 0, 1) := by decide +kernel
theorem dX7_twoTurns_11 : decode cX7_twoTurns 11 = .ok (.istore 7, 2) := by decide +kernel
theorem dX7_twoTurns_13 : decode cX7_twoTurns 13 = .ok (.iload 7, 2) := by decide +kernel
theorem dX7_twoTurns_15 : decode cX7_twoTurns 15 = .ok (.bipush 12, 2) := by decide +kernel
theorem dX7_twoTurns_17 : decode cX7_twoTurns 17 = .ok (.if_icmp .gt 104, 3) := by decide +kernel
theorem dX7_twoTurns_20 : decode cX7_twoTurns 20 = .ok (.aload_n 0, 1) := by decide +kernel
theorem dX7_twoTurns_21 : decode cX7_twoTurns 21 = .ok (.iload_n 1, 1) := by decide +kernel
theorem dX7_twoTurns_22 : decode cX7_twoTurns 22 = .ok (.iload_n 1, 1) := by decide +kernel
theorem dX7_twoTurns_23 : decode cX7_twoTurns 23 = .ok (.iconst 1, 1) := by decide +kernel
theorem dX7_twoTurns_24 : decode cX7_twoTurns 24 = .ok (.iadd, 1) := by decide +kernel
theorem dX7_twoTurns_25 : decode cX7_twoTurns 25 = .ok (.invokevirtual 233, 3) := by decide +kernel
theorem dX7_twoTurns_28 : decode cX7_twoTurns 28 = .ok (.aload_n 0, 1) := by decide +kernel
theorem dX7_twoTurns_29 : decode cX7_twoTurns 29 = .ok (.iload 7, 2) := by decide +kernel
theorem dX7_twoTurns_31 : decode cX7_twoTurns 31 = .ok (.invokevirtual 217, 3) := by decide +kernel
theorem dX7_twoTurns_34 : decode cX7_twoTurns 34 = .ok (.ifCond .eq 81, 3) := by decide +kernel
theorem dX7_twoTurns_37 : decode cX7_twoTurns 37 = .ok (.aload_n 0, 1) := by decide +kernel
theorem dX7_twoTurns_38 : decode cX7_twoTurns 38 = .ok (.iload_n 1, 1) := by decide +kernel
theorem dX7_twoTurns_39 : decode cX7_twoTurns 39 = .ok (.iconst 1, 1) := by decide +kernel
theorem dX7_twoTurns_40 : decode cX7_twoTurns 40 = .ok (.iadd, 1) := by decide +kernel
theorem dX7_twoTurns_41 : decode cX7_twoTurns 41 = .ok (.iload 7, 2) := by decide +kernel
theorem dX7_twoTurns_43 : decode cX7_twoTurns 43 = .ok (.invokevirtual 214, 3) := by decide +kernel
theorem dX7_twoTurns_46 : decode cX7_twoTurns 46 = .ok (.ifCond .eq 69, 3) := by decide +kernel
theorem dX7_twoTurns_49 : decode cX7_twoTurns 49 = .ok (.aload_n 0, 1) := by decide +kernel
theorem dX7_twoTurns_50 : decode cX7_twoTurns 50 = .ok (.iload_n 2, 1) := by decide +kernel
theorem dX7_twoTurns_51 : decode cX7_twoTurns 51 = .ok (.invokevirtual 283, 3) := by decide +kernel
theorem dX7_twoTurns_54 : decode cX7_twoTurns 54 = .ok (.istore 8, 2) := by decide +kernel
theorem dX7_twoTurns_56 : decode cX7_twoTurns 56 = .ok (.iload 8, 2) := by decide +kernel
theorem dX7_twoTurns_58 : decode cX7_twoTurns 58 = .ok (.aload_n 0, 1) := by decide +kernel
theorem dX7_twoTurns_59 : decode cX7_twoTurns 59 = .ok (.iload_n 1, 1) := by decide +kernel
theorem dX7_twoTurns_60 : decode cX7_twoTurns 60 = .ok (.iconst 1, 1) := by decide +kernel
theorem dX7_twoTurns_61 : decode cX7_twoTurns 61 = .ok (.iadd, 1) := by decide +kernel
theorem dX7_twoTurns_62 : decode cX7_twoTurns 62 = .ok (.iload_n 2, 1) := by decide +kernel
theorem dX7_twoTurns_63 : decode cX7_twoTurns 63 = .ok (.iload_n 3, 1) := by decide +kernel
theorem dX7_twoTurns_64 : decode cX7_twoTurns 64 = .ok (.ifCond .ne 7, 3) := by decide +kernel
theorem dX7_twoTurns_67 : decode cX7_twoTurns 67 = .ok (.iconst 1, 1) := by decide +kernel
theorem dX7_twoTurns_68 : decode cX7_twoTurns 68 = .ok (.goto 4, 3) := by decide +kernel
theorem dX7_twoTurns_71 : decode cX7_twoTurns 71 = .ok (.iconst 0, 1) := by decide +kernel
theorem dX7_twoTurns_72 : decode cX7_twoTurns 72 = .ok (.invokevirtual 286, 3) := by decide +kernel
theorem dX7_twoTurns_75 : decode cX7_twoTurns 75 = .ok (.iadd, 1) := by decide +kernel
theorem dX7_twoTurns_76 : decode cX7_twoTurns 76 = .ok (.istore 8, 2) := by decide +kernel
theorem dX7_twoTurns_78 : decode cX7_twoTurns 78 = .ok (.iload 5, 2) := by decide +kernel
theorem dX7_twoTurns_80 : decode cX7_twoTurns 80 = .ok (.ifCond .eq 24, 3) := by decide +kernel
theorem dX7_twoTurns_83 : decode cX7_twoTurns 83 = .ok (.iload_n 3, 1) := by decide +kernel
theorem dX7_twoTurns_84 : decode cX7_twoTurns 84 = .ok (.ifCond .eq 13, 3) := by decide +kernel
theorem dX7_twoTurns_87 : decode cX7_twoTurns 87 = .ok (.iload 8, 2) := by decide +kernel
theorem dX7_twoTurns_89 : decode cX7_twoTurns 89 = .ok (.iload 4, 2) := by decide +kernel
theorem dX7_twoTurns_91 : decode cX7_twoTurns 91 = .ok (.if_icmp .le 21, 3) := by decide +kernel
theorem dX7_twoTurns_94 : decode cX7_twoTurns 94 = .ok (.goto 10, 3) := by decide +kernel
theorem dX7_twoTurns_97 : decode cX7_twoTurns 97 = .ok (.iload 8, 2) := by decide +kernel
theorem dX7_twoTurns_99 : decode cX7_twoTurns 99 = .ok (.iload 4, 2) := by decide +kernel
theorem dX7_twoTurns_101 : decode cX7_twoTurns 101 = .ok (.if_icmp .ge 11, 3) := by decide +kernel
theorem dX7_twoTurns_104 : decode cX7_twoTurns 104 = .ok (.iload 8, 2) := by decide +kernel
theorem dX7_twoTurns_106 : decode cX7_twoTurns 106 = .ok (.istore 4, 2) := by decide +kernel
theorem dX7_twoTurns_108 : decode cX7_twoTurns 108 = .ok (.iload 7, 2) := by decide +kernel
theorem dX7_twoTurns_110 : decode cX7_twoTurns 110 = .ok (.istore 6, 2) := by decide +kernel
theorem dX7_twoTurns_112 : decode cX7_twoTurns 112 = .ok (.iconst 1, 1) := by decide +kernel
theorem dX7_twoTurns_113 : decode cX7_twoTurns 113 = .ok (.istore 5, 2) := by decide +kernel
theorem dX7_twoTurns_115 : decode cX7_twoTurns 115 = .ok (.iinc 7 1, 3) := by decide +kernel
theorem dX7_twoTurns_118 : decode cX7_twoTurns 118 = .ok (.goto (-105), 3) := by decide +kernel
theorem dX7_twoTurns_121 : decode cX7_twoTurns 121 = .ok (.aload_n 0, 1) := by decide +kernel
theorem dX7_twoTurns_122 : decode cX7_twoTurns 122 = .ok (.iload 6, 2) := by decide +kernel
theorem dX7_twoTurns_124 : decode cX7_twoTurns 124 = .ok (.putfield 280, 3) := by decide +kernel
theorem dX7_twoTurns_127 : decode cX7_twoTurns 127 = .ok (.iload 4, 2) := by decide +kernel
theorem dX7_twoTurns_129 : decode cX7_twoTurns 129 = .ok (.ireturn, 1) := by decide +kernel
theorem dX7_threeTurns_0 : decode cX7_threeTurns 0 = .ok (.iconst 0, 1) := by decide +kernel
theorem dX7_threeTurns_1 : decode cX7_threeTurns 1 = .ok (.istore_n 3, 1) := by decide +kernel
theorem dX7_threeTurns_2 : decode cX7_threeTurns 2 = .ok (.iconst 0, 1) := by decide +kernel
theorem dX7_threeTurns_3 : decode cX7_threeTurns 3 = .ok (.istore 4, 2) := by decide +kernel
theorem dX7_threeTurns_5 : decode cX7_threeTurns 5 = .ok (.bipush 12, 2) := by decide +kernel
theorem dX7_threeTurns_7 : decode cX7_threeTurns 7 = .ok (.istore 5, 2) := by decide +kernel
theorem dX7_threeTurns_9 : decode cX7_threeTurns 9 = .ok (.iconst 0, 1) := by decide +kernel
theorem dX7_threeTurns_10 : decode cX7_threeTurns 10 = .ok (.istore 6, 2) := by decide +kernel
theorem dX7_threeTurns_12 : decode cX7_threeTurns 12 = .ok (.iload 6, 2) := by decide +kernel
theorem dX7_threeTurns_14 : decode cX7_threeTurns 14 = .ok (.bipush 12, 2) := by decide +kernel
theorem dX7_threeTurns_16 : decode cX7_threeTurns 16 = .ok (.if_icmp .gt 80, 3) := by decide +kernel
theorem dX7_threeTurns_19 : decode cX7_threeTurns 19 = .ok (.aload_n 0, 1) := by decide +kernel
theorem dX7_threeTurns_20 : decode cX7_threeTurns 20 = .ok (.iload_n 1, 1) := by decide +kernel
theorem dX7_threeTurns_21 : decode cX7_threeTurns 21 = .ok (.iload_n 1, 1) := by decide +kernel
theorem dX7_threeTurns_22 : decode cX7_threeTurns 22 = .ok (.iconst 1, 1) := by decide +kernel
theorem dX7_threeTurns_23 : decode cX7_threeTurns 23 = .ok (.iadd, 1) := by decide +kernel
theorem dX7_threeTurns_24 : decode cX7_threeTurns 24 = .ok (.invokevirtual 233, 3) := by decide +kernel
theorem dX7_threeTurns_27 : decode cX7_threeTurns 27 = .ok (.aload_n 0, 1) := by decide +kernel
theorem dX7_threeTurns_28 : decode cX7_threeTurns 28 = .ok (.iload 6, 2) := by decide +kernel
theorem dX7_threeTurns_30 : decode cX7_threeTurns 30 = .ok (.invokevirtual 217, 3) := by decide +kernel
theorem dX7_threeTurns_33 : decode cX7_threeTurns 33 = .ok (.ifCond .eq 57, 3) := by decide +kernel
theorem dX7_threeTurns_36 : decode cX7_threeTurns 36 = .ok (.aload_n 0, 1) := by decide +kernel
theorem dX7_threeTurns_37 : decode cX7_threeTurns 37 = .ok (.iload_n 1, 1) := by decide +kernel
theorem dX7_threeTurns_38 : decode cX7_threeTurns 38 = .ok (.iconst 1, 1) := by decide +kernel
theorem dX7_threeTurns_39 : decode cX7_threeTurns 39 = .ok (.iadd, 1) := by decide +kernel
theorem dX7_threeTurns_40 : decode cX7_threeTurns 40 = .ok (.iload 6, 2) := by decide +kernel
theorem dX7_threeTurns_42 : decode cX7_threeTurns 42 = .ok (.invokevirtual 214, 3) := by decide +kernel
theorem dX7_threeTurns_45 : decode cX7_threeTurns 45 = .ok (.ifCond .eq 45, 3) := by decide +kernel
theorem dX7_threeTurns_48 : decode cX7_threeTurns 48 = .ok (.aload_n 0, 1) := by decide +kernel
theorem dX7_threeTurns_49 : decode cX7_threeTurns 49 = .ok (.iload_n 2, 1) := by decide +kernel
theorem dX7_threeTurns_50 : decode cX7_threeTurns 50 = .ok (.invokevirtual 283, 3) := by decide +kernel
theorem dX7_threeTurns_53 : decode cX7_threeTurns 53 = .ok (.istore 7, 2) := by decide +kernel
theorem dX7_threeTurns_55 : decode cX7_threeTurns 55 = .ok (.iload 7, 2) := by decide +kernel
theorem dX7_threeTurns_57 : decode cX7_threeTurns 57 = .ok (.aload_n 0, 1) := by decide +kernel
theorem dX7_threeTurns_58 : decode cX7_threeTurns 58 = .ok (.iload_n 1, 1) := by decide +kernel
theorem dX7_threeTurns_59 : decode cX7_threeTurns 59 = .ok (.iconst 1, 1) := by decide +kernel
theorem dX7_threeTurns_60 : decode cX7_threeTurns 60 = .ok (.iadd, 1) := by decide +kernel
theorem dX7_threeTurns_61 : decode cX7_threeTurns 61 = .ok (.iload_n 2, 1) := by decide +kernel
theorem dX7_threeTurns_62 : decode cX7_threeTurns 62 = .ok (.iconst 0, 1) := by decide +kernel
theorem dX7_threeTurns_63 : decode cX7_threeTurns 63 = .ok (.invokevirtual 290, 3) := by decide +kernel
theorem dX7_threeTurns_66 : decode cX7_threeTurns 66 = .ok (.iadd, 1) := by decide +kernel
theorem dX7_threeTurns_67 : decode cX7_threeTurns 67 = .ok (.istore 7, 2) := by decide +kernel
theorem dX7_threeTurns_69 : decode cX7_threeTurns 69 = .ok (.iload 4, 2) := by decide +kernel
theorem dX7_threeTurns_71 : decode cX7_threeTurns 71 = .ok (.ifCond .eq 9, 3) := by decide +kernel
theorem dX7_threeTurns_74 : decode cX7_threeTurns 74 = .ok (.iload 7, 2) := by decide +kernel
theorem dX7_threeTurns_76 : decode cX7_threeTurns 76 = .ok (.iload_n 3, 1) := by decide +kernel
theorem dX7_threeTurns_77 : decode cX7_threeTurns 77 = .ok (.if_icmp .le 10, 3) := by decide +kernel
theorem dX7_threeTurns_80 : decode cX7_threeTurns 80 = .ok (.iload 7, 2) := by decide +kernel
theorem dX7_threeTurns_82 : decode cX7_threeTurns 82 = .ok (.istore_n 3, 1) := by decide +kernel
theorem dX7_threeTurns_83 : decode cX7_threeTurns 83 = .ok (.iload 6, 2) := by decide +kernel
theorem dX7_threeTurns_85 : decode cX7_threeTurns 85 = .ok (.istore 5, 2) := by decide +kernel
theorem dX7_threeTurns_87 : decode cX7_threeTurns 87 = .ok (.iconst 1, 1) := by decide +kernel
theorem dX7_threeTurns_88 : decode cX7_threeTurns 88 = .ok (.istore 4, 2) := by decide +kernel
theorem dX7_threeTurns_90 : decode cX7_threeTurns 90 = .ok (.iinc 6 1, 3) := by decide +kernel
theorem dX7_threeTurns_93 : decode cX7_threeTurns 93 = .ok (.goto (-81), 3) := by decide +kernel
theorem dX7_threeTurns_96 : decode cX7_threeTurns 96 = .ok (.aload_n 0, 1) := by decide +kernel
theorem dX7_threeTurns_97 : decode cX7_threeTurns 97 = .ok (.iload 5, 2) := by decide +kernel
theorem dX7_threeTurns_99 : decode cX7_threeTurns 99 = .ok (.putfield 280, 3) := by decide +kernel
theorem dX7_threeTurns_102 : decode cX7_threeTurns 102 = .ok (.iload_n 3, 1) := by decide +kernel
theorem dX7_threeTurns_103 : decode cX7_threeTurns 103 = .ok (.ireturn, 1) := by decide +kernel
theorem dX7_turns_0 : decode cX7_turns 0 = .ok (.iload_n 1, 1) := by decide +kernel
theorem dX7_turns_1 : decode cX7_turns 1 = .ok (.iconst 0, 1) := by decide +kernel
theorem dX7_turns_2 : decode cX7_turns 2 = .ok (.iconst 1, 1) := by decide +kernel
theorem dX7_turns_3 : decode cX7_turns 3 = .ok (.aload_n 0, 1) := by decide +kernel
theorem dX7_turns_4 : decode cX7_turns 4 = .ok (.getfield 139, 3) := by decide +kernel
theorem dX7_turns_7 : decode cX7_turns 7 = .ok (.ishl, 1) := by decide +kernel
theorem dX7_turns_8 : decode cX7_turns 8 = .ok (.iconst 1, 1) := by decide +kernel
theorem dX7_turns_9 : decode cX7_turns 9 = .ok (.isub, 1) := by decide +kernel
theorem dX7_turns_10 : decode cX7_turns 10 = .ok (.invokestatic 80, 3) := by decide +kernel
theorem dX7_turns_13 : decode cX7_turns 13 = .ok (.ifCond .eq 12, 3) := by decide +kernel
theorem dX7_turns_16 : decode cX7_turns 16 = .ok (.iload_n 2, 1) := by decide +kernel
theorem dX7_turns_17 : decode cX7_turns 17 = .ok (.iconst 0, 1) := by decide +kernel
theorem dX7_turns_18 : decode cX7_turns 18 = .ok (.iconst 3, 1) := by decide +kernel
theorem dX7_turns_19 : decode cX7_turns 19 = .ok (.invokestatic 80, 3) := by decide +kernel
theorem dX7_turns_22 : decode cX7_turns 22 = .ok (.ifCond .ne 5, 3) := by decide +kernel
theorem dX7_turns_25 : decode cX7_turns 25 = .ok (.iconst (-1), 1) := by decide +kernel
theorem dX7_turns_26 : decode cX7_turns 26 = .ok (.ireturn, 1) := by decide +kernel
theorem dX7_turns_27 : decode cX7_turns 27 = .ok (.aload_n 0, 1) := by decide +kernel
theorem dX7_turns_28 : decode cX7_turns 28 = .ok (.getfield 139, 3) := by decide +kernel
theorem dX7_turns_31 : decode cX7_turns 31 = .ok (.ifCond .ne 6, 3) := by decide +kernel
theorem dX7_turns_34 : decode cX7_turns 34 = .ok (.bipush (-4), 2) := by decide +kernel
theorem dX7_turns_36 : decode cX7_turns 36 = .ok (.ireturn, 1) := by decide +kernel
theorem dX7_turns_37 : decode cX7_turns 37 = .ok (.aload_n 0, 1) := by decide +kernel
theorem dX7_turns_38 : decode cX7_turns 38 = .ok (.bipush 12, 2) := by decide +kernel
theorem dX7_turns_40 : decode cX7_turns 40 = .ok (.putfield 280, 3) := by decide +kernel
theorem dX7_turns_43 : decode cX7_turns 43 = .ok (.iload_n 2, 1) := by decide +kernel
theorem dX7_turns_44 : decode cX7_turns 44 = .ok (.ifCond .ne 7, 3) := by decide +kernel
theorem dX7_turns_47 : decode cX7_turns 47 = .ok (.iconst 0, 1) := by decide +kernel
theorem dX7_turns_48 : decode cX7_turns 48 = .ok (.goto 39, 3) := by decide +kernel
theorem dX7_turns_51 : decode cX7_turns 51 = .ok (.iload_n 2, 1) := by decide +kernel
theorem dX7_turns_52 : decode cX7_turns 52 = .ok (.iconst 1, 1) := by decide +kernel
theorem dX7_turns_53 : decode cX7_turns 53 = .ok (.if_icmp .ne 13, 3) := by decide +kernel
theorem dX7_turns_56 : decode cX7_turns 56 = .ok (.aload_n 0, 1) := by decide +kernel
theorem dX7_turns_57 : decode cX7_turns 57 = .ok (.iconst 0, 1) := by decide +kernel
theorem dX7_turns_58 : decode cX7_turns 58 = .ok (.iload_n 1, 1) := by decide +kernel
theorem dX7_turns_59 : decode cX7_turns 59 = .ok (.iconst 1, 1) := by decide +kernel
theorem dX7_turns_60 : decode cX7_turns 60 = .ok (.invokevirtual 286, 3) := by decide +kernel
theorem dX7_turns_63 : decode cX7_turns 63 = .ok (.goto 24, 3) := by decide +kernel
theorem dX7_turns_66 : decode cX7_turns 66 = .ok (.iload_n 2, 1) := by decide +kernel
theorem dX7_turns_67 : decode cX7_turns 67 = .ok (.iconst 2, 1) := by decide +kernel
theorem dX7_turns_68 : decode cX7_turns 68 = .ok (.if_icmp .ne 13, 3) := by decide +kernel
theorem dX7_turns_71 : decode cX7_turns 71 = .ok (.aload_n 0, 1) := by decide +kernel
theorem dX7_turns_72 : decode cX7_turns 72 = .ok (.iconst 0, 1) := by decide +kernel
theorem dX7_turns_73 : decode cX7_turns 73 = .ok (.iload_n 1, 1) := by decide +kernel
theorem dX7_turns_74 : decode cX7_turns 74 = .ok (.iconst 1, 1) := by decide +kernel
theorem dX7_turns_75 : decode cX7_turns 75 = .ok (.invokevirtual 290, 3) := by decide +kernel
theorem dX7_turns_78 : decode cX7_turns 78 = .ok (.goto 9, 3) := by decide +kernel
theorem dX7_turns_81 : decode cX7_turns 81 = .ok (.aload_n 0, 1) := by decide +kernel
theorem dX7_turns_82 : decode cX7_turns 82 = .ok (.iconst 0, 1) := by decide +kernel
theorem dX7_turns_83 : decode cX7_turns 83 = .ok (.iload_n 1, 1) := by decide +kernel
theorem dX7_turns_84 : decode cX7_turns 84 = .ok (.invokevirtual 293, 3) := by decide +kernel
theorem dX7_turns_87 : decode cX7_turns 87 = .ok (.istore_n 3, 1) := by decide +kernel
theorem dX7_turns_88 : decode cX7_turns 88 = .ok (.aload_n 0, 1) := by decide +kernel
theorem dX7_turns_89 : decode cX7_turns 89 = .ok (.aload_n 0, 1) := by decide +kernel
theorem dX7_turns_90 : decode cX7_turns 90 = .ok (.getfield 280, 3) := by decide +kernel
theorem dX7_turns_93 : decode cX7_turns 93 = .ok (.iconst 1, 1) := by decide +kernel
theorem dX7_turns_94 : decode cX7_turns 94 = .ok (.invokevirtual 296, 3) := by decide +kernel
theorem dX7_turns_97 : decode cX7_turns 97 = .ok (.pop, 1) := by decide +kernel
theorem dX7_turns_98 : decode cX7_turns 98 = .ok (.aload_n 0, 1) := by decide +kernel
theorem dX7_turns_99 : decode cX7_turns 99 = .ok (.iload_n 3, 1) := by decide +kernel
theorem dX7_turns_100 : decode cX7_turns 100 = .ok (.iconst 1, 1) := by decide +kernel
theorem dX7_turns_101 : decode cX7_turns 101 = .ok (.invokevirtual 102, 3) := by decide +kernel
theorem dX7_turns_104 : decode cX7_turns 104 = .ok (.ireturn, 1) := by decide +kernel
theorem dX7_needBook_0 : decode cX7_needBook 0 = .ok (.aload_n 0, 1) := by decide +kernel
theorem dX7_needBook_1 : decode cX7_needBook 1 = .ok (.getfield 13, 3) := by decide +kernel
theorem dX7_needBook_4 : decode cX7_needBook 4 = .ok (.iload_n 1, 1) := by decide +kernel
theorem dX7_needBook_5 : decode cX7_needBook 5 = .ok (.iaload, 1) := by decide +kernel
theorem dX7_needBook_6 : decode cX7_needBook 6 = .ok (.ifCond .lt 12, 3) := by decide +kernel
theorem dX7_needBook_9 : decode cX7_needBook 9 = .ok (.aload_n 0, 1) := by decide +kernel
theorem dX7_needBook_10 : decode cX7_needBook 10 = .ok (.getfield 13, 3) := by decide +kernel
theorem dX7_needBook_13 : decode cX7_needBook 13 = .ok (.iload_n 2, 1) := by decide +kernel
theorem dX7_needBook_14 : decode cX7_needBook 14 = .ok (.iaload, 1) := by decide +kernel
theorem dX7_needBook_15 : decode cX7_needBook 15 = .ok (.ifCond .ge 9, 3) := by decide +kernel
theorem dX7_needBook_18 : decode cX7_needBook 18 = .ok (.aload_n 0, 1) := by decide +kernel
theorem dX7_needBook_19 : decode cX7_needBook 19 = .ok (.iconst 1, 1) := by decide +kernel
theorem dX7_needBook_20 : decode cX7_needBook 20 = .ok (.invokevirtual 94, 3) := by decide +kernel
theorem dX7_needBook_23 : decode cX7_needBook 23 = .ok (.ireturn, 1) := by decide +kernel
theorem dX7_needBook_24 : decode cX7_needBook 24 = .ok (.aload_n 0, 1) := by decide +kernel
theorem dX7_needBook_25 : decode cX7_needBook 25 = .ok (.getfield 13, 3) := by decide +kernel
theorem dX7_needBook_28 : decode cX7_needBook 28 = .ok (.iload_n 1, 1) := by decide +kernel
theorem dX7_needBook_29 : decode cX7_needBook 29 = .ok (.iaload, 1) := by decide +kernel
theorem dX7_needBook_30 : decode cX7_needBook 30 = .ok (.bipush 30, 2) := by decide +kernel
theorem dX7_needBook_32 : decode cX7_needBook 32 = .ok (.if_icmp .gt 18, 3) := by decide +kernel
theorem dX7_needBook_35 : decode cX7_needBook 35 = .ok (.aload_n 0, 1) := by decide +kernel
theorem dX7_needBook_36 : decode cX7_needBook 36 = .ok (.getfield 13, 3) := by decide +kernel
theorem dX7_needBook_39 : decode cX7_needBook 39 = .ok (.iload_n 1, 1) := by decide +kernel
theorem dX7_needBook_40 : decode cX7_needBook 40 = .ok (.iaload, 1) := by decide +kernel
theorem dX7_needBook_41 : decode cX7_needBook 41 = .ok (.aload_n 0, 1) := by decide +kernel
theorem dX7_needBook_42 : decode cX7_needBook 42 = .ok (.getfield 13, 3) := by decide +kernel
theorem dX7_needBook_45 : decode cX7_needBook 45 = .ok (.iload_n 2, 1) := by decide +kernel
theorem dX7_needBook_46 : decode cX7_needBook 46 = .ok (.iaload, 1) := by decide +kernel
theorem dX7_needBook_47 : decode cX7_needBook 47 = .ok (.if_icmp .eq 9, 3) := by decide +kernel
theorem dX7_needBook_50 : decode cX7_needBook 50 = .ok (.aload_n 0, 1) := by decide +kernel
theorem dX7_needBook_51 : decode cX7_needBook 51 = .ok (.iconst 5, 1) := by decide +kernel
theorem dX7_needBook_52 : decode cX7_needBook 52 = .ok (.invokevirtual 94, 3) := by decide +kernel
theorem dX7_needBook_55 : decode cX7_needBook 55 = .ok (.ireturn, 1) := by decide +kernel
theorem dX7_needBook_56 : decode cX7_needBook 56 = .ok (.aload_n 0, 1) := by decide +kernel
theorem dX7_needBook_57 : decode cX7_needBook 57 = .ok (.iload_n 1, 1) := by decide +kernel
theorem dX7_needBook_58 : decode cX7_needBook 58 = .ok (.invokevirtual 273, 3) := by decide +kernel
theorem dX7_needBook_61 : decode cX7_needBook 61 = .ok (.ireturn, 1) := by decide +kernel
theorem dX7_fitting_0 : decode cX7_fitting 0 = .ok (.aload_n 0, 1) := by decide +kernel
theorem dX7_fitting_1 : decode cX7_fitting 1 = .ok (.iload_n 1, 1) := by decide +kernel
theorem dX7_fitting_2 : decode cX7_fitting 2 = .ok (.invokevirtual 192, 3) := by decide +kernel
theorem dX7_fitting_5 : decode cX7_fitting 5 = .ok (.istore 4, 2) := by decide +kernel
theorem dX7_fitting_7 : decode cX7_fitting 7 = .ok (.iconst 0, 1) := by decide +kernel
theorem dX7_fitting_8 : decode cX7_fitting 8 = .ok (.istore 5, 2) := by decide +kernel
theorem dX7_fitting_10 : decode cX7_fitting 10 = .ok (.iconst 1, 1) := by decide +kernel
theorem dX7_fitting_11 : decode cX7_fitting 11 = .ok (.istore 6, 2) := by decide +kernel
theorem dX7_fitting_13 : decode cX7_fitting 13 = .ok (.iload 6, 2) := by decide +kernel
theorem dX7_fitting_15 : decode cX7_fitting 15 = .ok (.bipush 6, 2) := by decide +kernel
theorem dX7_fitting_17 : decode cX7_fitting 17 = .ok (.if_icmp .gt 110, 3) := by decide +kernel
theorem dX7_fitting_20 : decode cX7_fitting 20 = .ok (.aload_n 0, 1) := by decide +kernel
theorem dX7_fitting_21 : decode cX7_fitting 21 = .ok (.getfield 29, 3) := by decide +kernel
theorem dX7_fitting_24 : decode cX7_fitting 24 = .ok (.bipush 6, 2) := by decide +kernel
theorem dX7_fitting_26 : decode cX7_fitting 26 = .ok (.iload_n 1, 1) := by decide +kernel
theorem dX7_fitting_27 : decode cX7_fitting 27 = .ok (.imul, 1) := by decide +kernel
theorem dX7_fitting_28 : decode cX7_fitting 28 = .ok (.iconst 2, 1) := by decide +kernel
theorem dX7_fitting_29 : decode cX7_fitting 29 = .ok (.iadd, 1) := by decide +kernel
theorem dX7_fitting_30 : decode cX7_fitting 30 = .ok (.iload 6, 2) := by decide +kernel
theorem dX7_fitting_32 : decode cX7_fitting 32 = .ok (.iastore, 1) := by decide +kernel
theorem dX7_fitting_33 : decode cX7_fitting 33 = .ok (.aload_n 0, 1) := by decide +kernel
theorem dX7_fitting_34 : decode cX7_fitting 34 = .ok (.iconst 0, 1) := by decide +kernel
theorem dX7_fitting_35 : decode cX7_fitting 35 = .ok (.iconst 1, 1) := by decide +kernel
theorem dX7_fitting_36 : decode cX7_fitting 36 = .ok (.invokevirtual 233, 3) := by decide +kernel
theorem dX7_fitting_39 : decode cX7_fitting 39 = .ok (.iconst 1, 1) := by decide +kernel
theorem dX7_fitting_40 : decode cX7_fitting 40 = .ok (.istore 7, 2) := by decide +kernel
theorem dX7_fitting_42 : decode cX7_fitting 42 = .ok (.iconst 0, 1) := by decide +kernel
theorem dX7_fitting_43 : decode cX7_fitting 43 = .ok (.istore 8, 2) := by decide +kernel
theorem dX7_fitting_45 : decode cX7_fitting 45 = .ok (.iload 8, 2) := by decide +kernel
theorem dX7_fitting_47 : decode cX7_fitting 47 = .ok (.aload_n 0, 1) := by decide +kernel
theorem dX7_fitting_48 : decode cX7_fitting 48 = .ok (.getfield 13, 3) := by decide +kernel
theorem dX7_fitting_51 : decode cX7_fitting 51 = .ok (.iload_n 2, 1) := by decide +kernel
theorem dX7_fitting_52 : decode cX7_fitting 52 = .ok (.iaload, 1) := by decide +kernel
theorem dX7_fitting_53 : decode cX7_fitting 53 = .ok (.if_icmp .ge 50, 3) := by decide +kernel
theorem dX7_fitting_56 : decode cX7_fitting 56 = .ok (.iload 7, 2) := by decide +kernel
theorem dX7_fitting_58 : decode cX7_fitting 58 = .ok (.ifCond .eq 45, 3) := by decide +kernel
theorem dX7_fitting_61 : decode cX7_fitting 61 = .ok (.aload_n 0, 1) := by decide +kernel
theorem dX7_fitting_62 : decode cX7_fitting 62 = .ok (.iconst 1, 1) := by decide +kernel
theorem dX7_fitting_63 : decode cX7_fitting 63 = .ok (.aload_n 0, 1) := by decide +kernel
theorem dX7_fitting_64 : decode cX7_fitting 64 = .ok (.iload_n 2, 1) := by decide +kernel
theorem dX7_fitting_65 : decode cX7_fitting 65 = .ok (.iload 8, 2) := by decide +kernel
theorem dX7_fitting_67 : decode cX7_fitting 67 = .ok (.invokevirtual 98, 3) := by decide +kernel
theorem dX7_fitting_70 : decode cX7_fitting 70 = .ok (.invokevirtual 214, 3) := by decide +kernel
theorem dX7_fitting_73 : decode cX7_fitting 73 = .ok (.ifCond .eq 21, 3) := by decide +kernel
theorem dX7_fitting_76 : decode cX7_fitting 76 = .ok (.aload_n 0, 1) := by decide +kernel
theorem dX7_fitting_77 : decode cX7_fitting 77 = .ok (.getfield 186, 3) := by decide +kernel
theorem dX7_fitting_80 : decode cX7_fitting 80 = .ok (.aload_n 0, 1) := by decide +kernel
theorem dX7_fitting_81 : decode cX7_fitting 81 = .ok (.iload_n 3, 1) := by decide +kernel
theorem dX7_fitting_82 : decode cX7_fitting 82 = .ok (.iload 8, 2) := by decide +kernel
theorem dX7_fitting_84 : decode cX7_fitting 84 = .ok (.invokevirtual 98, 3) := by decide +kernel
theorem dX7_fitting_87 : decode cX7_fitting 87 = .ok (.if_icmp .ne 7, 3) := by decide +kernel
theorem dX7_fitting_90 : decode cX7_fitting 90 = .ok (.iconst 1, 1) := by decide +kernel
theorem dX7_fitting_91 : decode cX7_fitting 91 = .ok (.goto 4, 3) := by decide +kernel
theorem dX7_fitting_94 : decode cX7_fitting 94 = .ok (.iconst 0, 1) := by decide +kernel
theorem dX7_fitting_95 : decode cX7_fitting 95 = .ok (.istore 7, 2) := by decide +kernel
theorem dX7_fitting_97 : decode cX7_fitting 97 = .ok (.iinc 8 1, 3) := by decide +kernel
theorem dX7_fitting_100 : decode cX7_fitting 100 = .ok (.goto (-55), 3) := by decide +kernel
theorem dX7_fitting_103 : decode cX7_fitting 103 = .ok (.iload 5, 2) := by decide +kernel
theorem dX7_fitting_105 : decode cX7_fitting 105 = .ok (.iload 7, 2) := by decide +kernel
theorem dX7_fitting_107 : decode cX7_fitting 107 = .ok (.ifCond .eq 10, 3) := by decide +kernel
theorem dX7_fitting_110 : decode cX7_fitting 110 = .ok (.iconst 1, 1) := by decide +kernel
theorem dX7_fitting_111 : decode cX7_fitting 111 = .ok (.iload 6, 2) := by decide +kernel
theorem dX7_fitting_113 : decode cX7_fitting 113 = .ok (.ishl, 1) := by decide +kernel
theorem dX7_fitting_114 : decode cX7_fitting 114 = .ok (.goto 4, 3) := by decide +kernel
theorem dX7_fitting_117 : decode cX7_fitting 117 = .ok (.iconst 0, 1) := by decide +kernel
theorem dX7_fitting_118 : decode cX7_fitting 118 = .ok (.ior, 1) := by decide +kernel
theorem dX7_fitting_119 : decode cX7_fitting 119 = .ok (.istore 5, 2) := by decide +kernel
theorem dX7_fitting_121 : decode cX7_fitting 121 = .ok (.iinc 6 1, 3) := by decide +kernel
theorem dX7_fitting_124 : decode cX7_fitting 124 = .ok (.goto (-111), 3) := by decide +kernel
theorem dX7_fitting_127 : decode cX7_fitting 127 = .ok (.aload_n 0, 1) := by decide +kernel
theorem dX7_fitting_128 : decode cX7_fitting 128 = .ok (.getfield 29, 3) := by decide +kernel
theorem dX7_fitting_131 : decode cX7_fitting 131 = .ok (.bipush 6, 2) := by decide +kernel
theorem dX7_fitting_133 : decode cX7_fitting 133 = .ok (.iload_n 1, 1) := by decide +kernel
theorem dX7_fitting_134 : decode cX7_fitting 134 = .ok (.imul, 1) := by decide +kernel
theorem dX7_fitting_135 : decode cX7_fitting 135 = .ok (.iconst 2, 1) := by decide +kernel
theorem dX7_fitting_136 : decode cX7_fitting 136 = .ok (.iadd, 1) := by decide +kernel
theorem dX7_fitting_137 : decode cX7_fitting 137 = .ok (.iload 4, 2) := by decide +kernel
theorem dX7_fitting_139 : decode cX7_fitting 139 = .ok (.iastore, 1) := by decide +kernel
theorem dX7_fitting_140 : decode cX7_fitting 140 = .ok (.iload 5, 2) := by decide +kernel
theorem dX7_fitting_142 : decode cX7_fitting 142 = .ok (.ireturn, 1) := by decide +kernel
theorem dX7_fits_0 : decode cX7_fits 0 = .ok (.aload_n 0, 1) := by decide +kernel
theorem dX7_fits_1 : decode cX7_fits 1 = .ok (.iload_n 1, 1) := by decide +kernel
theorem dX7_fits_2 : decode cX7_fits 2 = .ok (.invokevirtual 208, 3) := by decide +kernel
theorem dX7_fits_5 : decode cX7_fits 5 = .ok (.ifCond .eq 17, 3) := by decide +kernel
theorem dX7_fits_8 : decode cX7_fits 8 = .ok (.iload_n 2, 1) := by decide +kernel
theorem dX7_fits_9 : decode cX7_fits 9 = .ok (.invokestatic 90, 3) := by decide +kernel
theorem dX7_fits_12 : decode cX7_fits 12 = .ok (.ifCond .eq 10, 3) := by decide +kernel
theorem dX7_fits_15 : decode cX7_fits 15 = .ok (.iload_n 3, 1) := by decide +kernel
theorem dX7_fits_16 : decode cX7_fits 16 = .ok (.invokestatic 90, 3) := by decide +kernel
theorem dX7_fits_19 : decode cX7_fits 19 = .ok (.ifCond .ne 5, 3) := by decide +kernel
theorem dX7_fits_22 : decode cX7_fits 22 = .ok (.iconst (-1), 1) := by decide +kernel
theorem dX7_fits_23 : decode cX7_fits 23 = .ok (.ireturn, 1) := by decide +kernel
theorem dX7_fits_24 : decode cX7_fits 24 = .ok (.aload_n 0, 1) := by decide +kernel
theorem dX7_fits_25 : decode cX7_fits 25 = .ok (.iload_n 2, 1) := by decide +kernel
theorem dX7_fits_26 : decode cX7_fits 26 = .ok (.iload_n 3, 1) := by decide +kernel
theorem dX7_fits_27 : decode cX7_fits 27 = .ok (.invokevirtual 299, 3) := by decide +kernel
theorem dX7_fits_30 : decode cX7_fits 30 = .ok (.istore 4, 2) := by decide +kernel
theorem dX7_fits_32 : decode cX7_fits 32 = .ok (.iload 4, 2) := by decide +kernel
theorem dX7_fits_34 : decode cX7_fits 34 = .ok (.ifCond .ge 8, 3) := by decide +kernel
theorem dX7_fits_37 : decode cX7_fits 37 = .ok (.iload 4, 2) := by decide +kernel
theorem dX7_fits_39 : decode cX7_fits 39 = .ok (.goto 10, 3) := by decide +kernel
theorem dX7_fits_42 : decode cX7_fits 42 = .ok (.aload_n 0, 1) := by decide +kernel
theorem dX7_fits_43 : decode cX7_fits 43 = .ok (.iload_n 1, 1) := by decide +kernel
theorem dX7_fits_44 : decode cX7_fits 44 = .ok (.iload_n 2, 1) := by decide +kernel
theorem dX7_fits_45 : decode cX7_fits 45 = .ok (.iload_n 3, 1) := by decide +kernel
theorem dX7_fits_46 : decode cX7_fits 46 = .ok (.invokevirtual 302, 3) := by decide +kernel
theorem dX7_fits_49 : decode cX7_fits 49 = .ok (.ireturn, 1) := by decide +kernel
theorem dX7_whose_0 : decode cX7_whose 0 = .ok (.iload_n 1, 1) := by decide +kernel
theorem dX7_whose_1 : decode cX7_whose 1 = .ok (.invokestatic 90, 3) := by decide +kernel
theorem dX7_whose_4 : decode cX7_whose 4 = .ok (.ifCond .eq 10, 3) := by decide +kernel
theorem dX7_whose_7 : decode cX7_whose 7 = .ok (.iload_n 2, 1) := by decide +kernel
theorem dX7_whose_8 : decode cX7_whose 8 = .ok (.invokestatic 90, 3) := by decide +kernel
theorem dX7_whose_11 : decode cX7_whose 11 = .ok (.ifCond .ne 5, 3) := by decide +kernel
theorem dX7_whose_14 : decode cX7_whose 14 = .ok (.iconst (-1), 1) := by decide +kernel
theorem dX7_whose_15 : decode cX7_whose 15 = .ok (.ireturn, 1) := by decide +kernel
theorem dX7_whose_16 : decode cX7_whose 16 = .ok (.aload_n 0, 1) := by decide +kernel
theorem dX7_whose_17 : decode cX7_whose 17 = .ok (.getfield 139, 3) := by decide +kernel
theorem dX7_whose_20 : decode cX7_whose 20 = .ok (.ifCond .ne 6, 3) := by decide +kernel
theorem dX7_whose_23 : decode cX7_whose 23 = .ok (.bipush (-4), 2) := by decide +kernel
theorem dX7_whose_25 : decode cX7_whose 25 = .ok (.ireturn, 1) := by decide +kernel
theorem dX7_whose_26 : decode cX7_whose 26 = .ok (.aload_n 0, 1) := by decide +kernel
theorem dX7_whose_27 : decode cX7_whose 27 = .ok (.iload_n 1, 1) := by decide +kernel
theorem dX7_whose_28 : decode cX7_whose 28 = .ok (.iload_n 2, 1) := by decide +kernel
theorem dX7_whose_29 : decode cX7_whose 29 = .ok (.invokevirtual 299, 3) := by decide +kernel
theorem dX7_whose_32 : decode cX7_whose 32 = .ok (.istore_n 3, 1) := by decide +kernel
theorem dX7_whose_33 : decode cX7_whose 33 = .ok (.iload_n 3, 1) := by decide +kernel
theorem dX7_whose_34 : decode cX7_whose 34 = .ok (.ifCond .ge 5, 3) := by decide +kernel
theorem dX7_whose_37 : decode cX7_whose 37 = .ok (.iload_n 3, 1) := by decide +kernel
theorem dX7_whose_38 : decode cX7_whose 38 = .ok (.ireturn, 1) := by decide +kernel
theorem dX7_whose_39 : decode cX7_whose 39 = .ok (.iconst 0, 1) := by decide +kernel
theorem dX7_whose_40 : decode cX7_whose 40 = .ok (.istore 4, 2) := by decide +kernel
theorem dX7_whose_42 : decode cX7_whose 42 = .ok (.iconst 0, 1) := by decide +kernel
theorem dX7_whose_43 : decode cX7_whose 43 = .ok (.istore 5, 2) := by decide +kernel
theorem dX7_whose_45 : decode cX7_whose 45 = .ok (.iconst 0, 1) := by decide +kernel
theorem dX7_whose_46 : decode cX7_whose 46 = .ok (.istore 6, 2) := by decide +kernel
theorem dX7_whose_48 : decode cX7_whose 48 = .ok (.iload 6, 2) := by decide +kernel
theorem dX7_whose_50 : decode cX7_whose 50 = .ok (.aload_n 0, 1) := by decide +kernel
theorem dX7_whose_51 : decode cX7_whose 51 = .ok (.getfield 139, 3) := by decide +kernel
theorem dX7_whose_54 : decode cX7_whose 54 = .ok (.if_icmp .ge 58, 3) := by decide +kernel
theorem dX7_whose_57 : decode cX7_whose 57 = .ok (.aload_n 0, 1) := by decide +kernel
theorem dX7_whose_58 : decode cX7_whose 58 = .ok (.iload 6, 2) := by decide +kernel
theorem dX7_whose_60 : decode cX7_whose 60 = .ok (.iload_n 1, 1) := by decide +kernel
theorem dX7_whose_61 : decode cX7_whose 61 = .ok (.iload_n 2, 1) := by decide +kernel
theorem dX7_whose_62 : decode cX7_whose 62 = .ok (.invokevirtual 302, 3) := by decide +kernel
theorem dX7_whose_65 : decode cX7_whose 65 = .ok (.iconst 1, 1) := by decide +kernel
theorem dX7_whose_66 : decode cX7_whose 66 = .ok (.aload_n 0, 1) := by decide +kernel
theorem dX7_whose_67 : decode cX7_whose 67 = .ok (.iload 6, 2) := by decide +kernel
theorem dX7_whose_69 : decode cX7_whose 69 = .ok (.invokevirtual 192, 3) := by decide +kernel
theorem dX7_whose_72 : decode cX7_whose 72 = .ok (.ishl, 1) := by decide +kernel
theorem dX7_whose_73 : decode cX7_whose 73 = .ok (.iconst (-1), 1) := by decide +kernel
theorem dX7_whose_74 : decode cX7_whose 74 = .ok (.ixor, 1) := by decide +kernel
theorem dX7_whose_75 : decode cX7_whose 75 = .ok (.iand, 1) := by decide +kernel
theorem dX7_whose_76 : decode cX7_whose 76 = .ok (.istore 7, 2) := by decide +kernel
theorem dX7_whose_78 : decode cX7_whose 78 = .ok (.iload 4, 2) := by decide +kernel
theorem dX7_whose_80 : decode cX7_whose 80 = .ok (.iload 7, 2) := by decide +kernel
theorem dX7_whose_82 : decode cX7_whose 82 = .ok (.ifCond .eq 10, 3) := by decide +kernel
theorem dX7_whose_85 : decode cX7_whose 85 = .ok (.iconst 1, 1) := by decide +kernel
theorem dX7_whose_86 : decode cX7_whose 86 = .ok (.iload 6, 2) := by decide +kernel
theorem dX7_whose_88 : decode cX7_whose 88 = .ok (.ishl, 1) := by decide +kernel
theorem dX7_whose_89 : decode cX7_whose 89 = .ok (.goto 4, 3) := by decide +kernel
theorem dX7_whose_92 : decode cX7_whose 92 = .ok (.iconst 0, 1) := by decide +kernel
theorem dX7_whose_93 : decode cX7_whose 93 = .ok (.ior, 1) := by decide +kernel
theorem dX7_whose_94 : decode cX7_whose 94 = .ok (.istore 4, 2) := by decide +kernel
theorem dX7_whose_96 : decode cX7_whose 96 = .ok (.iload 5, 2) := by decide +kernel
theorem dX7_whose_98 : decode cX7_whose 98 = .ok (.iload 7, 2) := by decide +kernel
theorem dX7_whose_100 : decode cX7_whose 100 = .ok (.invokestatic 171, 3) := by decide +kernel
theorem dX7_whose_103 : decode cX7_whose 103 = .ok (.iadd, 1) := by decide +kernel
theorem dX7_whose_104 : decode cX7_whose 104 = .ok (.istore 5, 2) := by decide +kernel
theorem dX7_whose_106 : decode cX7_whose 106 = .ok (.iinc 6 1, 3) := by decide +kernel
theorem dX7_whose_109 : decode cX7_whose 109 = .ok (.goto (-61), 3) := by decide +kernel
theorem dX7_whose_112 : decode cX7_whose 112 = .ok (.aload_n 0, 1) := by decide +kernel
theorem dX7_whose_113 : decode cX7_whose 113 = .ok (.iload 5, 2) := by decide +kernel
theorem dX7_whose_115 : decode cX7_whose 115 = .ok (.iload 4, 2) := by decide +kernel
theorem dX7_whose_117 : decode cX7_whose 117 = .ok (.invokevirtual 102, 3) := by decide +kernel
theorem dX7_whose_120 : decode cX7_whose 120 = .ok (.ireturn, 1) := by decide +kernel
theorem dX7_leftBy_0 : decode cX7_leftBy 0 = .ok (.aload_n 0, 1) := by decide +kernel
theorem dX7_leftBy_1 : decode cX7_leftBy 1 = .ok (.iload_n 1, 1) := by decide +kernel
theorem dX7_leftBy_2 : decode cX7_leftBy 2 = .ok (.invokevirtual 192, 3) := by decide +kernel
theorem dX7_leftBy_5 : decode cX7_leftBy 5 = .ok (.istore_n 3, 1) := by decide +kernel
theorem dX7_leftBy_6 : decode cX7_leftBy 6 = .ok (.iconst 1, 1) := by decide +kernel
theorem dX7_leftBy_7 : decode cX7_leftBy 7 = .ok (.istore 4, 2) := by decide +kernel
theorem dX7_leftBy_9 : decode cX7_leftBy 9 = .ok (.iload 4, 2) := by decide +kernel
theorem dX7_leftBy_11 : decode cX7_leftBy 11 = .ok (.bipush 6, 2) := by decide +kernel
theorem dX7_leftBy_13 : decode cX7_leftBy 13 = .ok (.if_icmp .gt 46, 3) := by decide +kernel
theorem dX7_leftBy_16 : decode cX7_leftBy 16 = .ok (.aload_n 0, 1) := by decide +kernel
theorem dX7_leftBy_17 : decode cX7_leftBy 17 = .ok (.getfield 29, 3) := by decide +kernel
theorem dX7_leftBy_20 : decode cX7_leftBy 20 = .ok (.bipush 6, 2) := by decide +kernel
theorem dX7_leftBy_22 : decode cX7_leftBy 22 = .ok (.iload_n 1, 1) := by decide +kernel
theorem dX7_leftBy_23 : decode cX7_leftBy 23 = .ok (.imul, 1) := by decide +kernel
theorem dX7_leftBy_24 : decode cX7_leftBy 24 = .ok (.iconst 2, 1) := by decide +kernel
theorem dX7_leftBy_25 : decode cX7_leftBy 25 = .ok (.iadd, 1) := by decide +kernel
theorem dX7_leftBy_26 : decode cX7_leftBy 26 = .ok (.iload 4, 2) := by decide +kernel
theorem dX7_leftBy_28 : decode cX7_leftBy 28 = .ok (.iastore, 1) := by decide +kernel
theorem dX7_leftBy_29 : decode cX7_leftBy 29 = .ok (.aload_n 0, 1) := by decide +kernel
theorem dX7_leftBy_30 : decode cX7_leftBy 30 = .ok (.iconst 0, 1) := by decide +kernel
theorem dX7_leftBy_31 : decode cX7_leftBy 31 = .ok (.iconst 1, 1) := by decide +kernel
theorem dX7_leftBy_32 : decode cX7_leftBy 32 = .ok (.invokevirtual 233, 3) := by decide +kernel
theorem dX7_leftBy_35 : decode cX7_leftBy 35 = .ok (.aload_n 0, 1) := by decide +kernel
theorem dX7_leftBy_36 : decode cX7_leftBy 36 = .ok (.iconst 1, 1) := by decide +kernel
theorem dX7_leftBy_37 : decode cX7_leftBy 37 = .ok (.iload_n 2, 1) := by decide +kernel
theorem dX7_leftBy_38 : decode cX7_leftBy 38 = .ok (.invokevirtual 214, 3) := by decide +kernel
theorem dX7_leftBy_41 : decode cX7_leftBy 41 = .ok (.pop, 1) := by decide +kernel
theorem dX7_leftBy_42 : decode cX7_leftBy 42 = .ok (.aload_n 0, 1) := by decide +kernel
theorem dX7_leftBy_43 : decode cX7_leftBy 43 = .ok (.getfield 70, 3) := by decide +kernel
theorem dX7_leftBy_46 : decode cX7_leftBy 46 = .ok (.iload 4, 2) := by decide +kernel
theorem dX7_leftBy_48 : decode cX7_leftBy 48 = .ok (.aload_n 0, 1) := by decide +kernel
theorem dX7_leftBy_49 : decode cX7_leftBy 49 = .ok (.getfield 186, 3) := by decide +kernel
theorem dX7_leftBy_52 : decode cX7_leftBy 52 = .ok (.iastore, 1) := by decide +kernel
theorem dX7_leftBy_53 : decode cX7_leftBy 53 = .ok (.iinc 4 1, 3) := by decide +kernel
theorem dX7_leftBy_56 : decode cX7_leftBy 56 = .ok (.goto (-47), 3) := by decide +kernel
theorem dX7_leftBy_59 : decode cX7_leftBy 59 = .ok (.aload_n 0, 1) := by decide +kernel
theorem dX7_leftBy_60 : decode cX7_leftBy 60 = .ok (.getfield 29, 3) := by decide +kernel
theorem dX7_leftBy_63 : decode cX7_leftBy 63 = .ok (.bipush 6, 2) := by decide +kernel
theorem dX7_leftBy_65 : decode cX7_leftBy 65 = .ok (.iload_n 1, 1) := by decide +kernel
theorem dX7_leftBy_66 : decode cX7_leftBy 66 = .ok (.imul, 1) := by decide +kernel
theorem dX7_leftBy_67 : decode cX7_leftBy 67 = .ok (.iconst 2, 1) := by decide +kernel
theorem dX7_leftBy_68 : decode cX7_leftBy 68 = .ok (.iadd, 1) := by decide +kernel
theorem dX7_leftBy_69 : decode cX7_leftBy 69 = .ok (.iload_n 3, 1) := by decide +kernel
theorem dX7_leftBy_70 : decode cX7_leftBy 70 = .ok (.iastore, 1) := by decide +kernel
theorem dX7_leftBy_71 : decode cX7_leftBy 71 = .ok (.iconst 0, 1) := by decide +kernel
theorem dX7_leftBy_72 : decode cX7_leftBy 72 = .ok (.istore 4, 2) := by decide +kernel
theorem dX7_leftBy_74 : decode cX7_leftBy 74 = .ok (.iconst 1, 1) := by decide +kernel
theorem dX7_leftBy_75 : decode cX7_leftBy 75 = .ok (.istore 5, 2) := by decide +kernel
theorem dX7_leftBy_77 : decode cX7_leftBy 77 = .ok (.iload 5, 2) := by decide +kernel
theorem dX7_leftBy_79 : decode cX7_leftBy 79 = .ok (.bipush 6, 2) := by decide +kernel
theorem dX7_leftBy_81 : decode cX7_leftBy 81 = .ok (.if_icmp .gt 64, 3) := by decide +kernel
theorem dX7_leftBy_84 : decode cX7_leftBy 84 = .ok (.iconst 0, 1) := by decide +kernel
theorem dX7_leftBy_85 : decode cX7_leftBy 85 = .ok (.istore 6, 2) := by decide +kernel
theorem dX7_leftBy_87 : decode cX7_leftBy 87 = .ok (.iconst 1, 1) := by decide +kernel
theorem dX7_leftBy_88 : decode cX7_leftBy 88 = .ok (.istore 7, 2) := by decide +kernel
theorem dX7_leftBy_90 : decode cX7_leftBy 90 = .ok (.iload 7, 2) := by decide +kernel
theorem dX7_leftBy_92 : decode cX7_leftBy 92 = .ok (.bipush 6, 2) := by decide +kernel
theorem dX7_leftBy_94 : decode cX7_leftBy 94 = .ok (.if_icmp .gt 36, 3) := by decide +kernel
theorem dX7_leftBy_97 : decode cX7_leftBy 97 = .ok (.iload 6, 2) := by decide +kernel
theorem dX7_leftBy_99 : decode cX7_leftBy 99 = .ok (.aload_n 0, 1) := by decide +kernel
theorem dX7_leftBy_100 : decode cX7_leftBy 100 = .ok (.getfield 70, 3) := by decide +kernel
theorem dX7_leftBy_103 : decode cX7_leftBy 103 = .ok (.iload 7, 2) := by decide +kernel
theorem dX7_leftBy_105 : decode cX7_leftBy 105 = .ok (.iaload, 1) := by decide +kernel
theorem dX7_leftBy_106 : decode cX7_leftBy 106 = .ok (.aload_n 0, 1) := by decide +kernel
theorem dX7_leftBy_107 : decode cX7_leftBy 107 = .ok (.getfield 70, 3) := by decide +kernel
theorem dX7_leftBy_110 : decode cX7_leftBy 110 = .ok (.iload 5, 2) := by decide +kernel
theorem dX7_leftBy_112 : decode cX7_leftBy 112 = .ok (.iaload, 1) := by decide +kernel
theorem dX7_leftBy_113 : decode cX7_leftBy 113 = .ok (.if_icmp .ne 7, 3) := by decide +kernel
theorem dX7_leftBy_116 : decode cX7_leftBy 116 = .ok (.iconst 1, 1) := by decide +kernel
theorem dX7_leftBy_117 : decode cX7_leftBy 117 = .ok (.goto 4, 3) := by decide +kernel
theorem dX7_leftBy_120 : decode cX7_leftBy 120 = .ok (.iconst 0, 1) := by decide +kernel
theorem dX7_leftBy_121 : decode cX7_leftBy 121 = .ok (.iadd, 1) := by decide +kernel
theorem dX7_leftBy_122 : decode cX7_leftBy 122 = .ok (.istore 6, 2) := by decide +kernel
theorem dX7_leftBy_124 : decode cX7_leftBy 124 = .ok (.iinc 7 1, 3) := by decide +kernel
theorem dX7_leftBy_127 : decode cX7_leftBy 127 = .ok (.goto (-37), 3) := by decide +kernel
theorem dX7_leftBy_130 : decode cX7_leftBy 130 = .ok (.iload 4, 2) := by decide +kernel
theorem dX7_leftBy_132 : decode cX7_leftBy 132 = .ok (.iload 6, 2) := by decide +kernel
theorem dX7_leftBy_134 : decode cX7_leftBy 134 = .ok (.invokestatic 177, 3) := by decide +kernel
theorem dX7_leftBy_137 : decode cX7_leftBy 137 = .ok (.istore 4, 2) := by decide +kernel
theorem dX7_leftBy_139 : decode cX7_leftBy 139 = .ok (.iinc 5 1, 3) := by decide +kernel
theorem dX7_leftBy_142 : decode cX7_leftBy 142 = .ok (.goto (-65), 3) := by decide +kernel
theorem dX7_leftBy_145 : decode cX7_leftBy 145 = .ok (.iload 4, 2) := by decide +kernel
theorem dX7_leftBy_147 : decode cX7_leftBy 147 = .ok (.ireturn, 1) := by decide +kernel
theorem dX7_ask_0 : decode cX7_ask 0 = .ok (.aload_n 0, 1) := by decide +kernel
theorem dX7_ask_1 : decode cX7_ask 1 = .ok (.iload_n 1, 1) := by decide +kernel
theorem dX7_ask_2 : decode cX7_ask 2 = .ok (.invokevirtual 208, 3) := by decide +kernel
theorem dX7_ask_5 : decode cX7_ask 5 = .ok (.ifCond .ne 5, 3) := by decide +kernel
theorem dX7_ask_8 : decode cX7_ask 8 = .ok (.iconst (-1), 1) := by decide +kernel
theorem dX7_ask_9 : decode cX7_ask 9 = .ok (.ireturn, 1) := by decide +kernel
theorem dX7_ask_10 : decode cX7_ask 10 = .ok (.aload_n 0, 1) := by decide +kernel
theorem dX7_ask_11 : decode cX7_ask 11 = .ok (.iconst 0, 1) := by decide +kernel
theorem dX7_ask_12 : decode cX7_ask 12 = .ok (.iload_n 1, 1) := by decide +kernel
theorem dX7_ask_13 : decode cX7_ask 13 = .ok (.invokevirtual 155, 3) := by decide +kernel
theorem dX7_ask_16 : decode cX7_ask 16 = .ok (.ifCond .eq 6, 3) := by decide +kernel
theorem dX7_ask_19 : decode cX7_ask 19 = .ok (.bipush (-4), 2) := by decide +kernel
theorem dX7_ask_21 : decode cX7_ask 21 = .ok (.ireturn, 1) := by decide +kernel
theorem dX7_ask_22 : decode cX7_ask 22 = .ok (.bipush (-9), 2) := by decide +kernel
theorem dX7_ask_24 : decode cX7_ask 24 = .ok (.istore_n 2, 1) := by decide +kernel
theorem dX7_ask_25 : decode cX7_ask 25 = .ok (.iconst 0, 1) := by decide +kernel
theorem dX7_ask_26 : decode cX7_ask 26 = .ok (.istore_n 3, 1) := by decide +kernel
theorem dX7_ask_27 : decode cX7_ask 27 = .ok (.iconst 0, 1) := by decide +kernel
theorem dX7_ask_28 : decode cX7_ask 28 = .ok (.istore 4, 2) := by decide +kernel
theorem dX7_ask_30 : decode cX7_ask 30 = .ok (.iload 4, 2) := by decide +kernel
theorem dX7_ask_32 : decode cX7_ask 32 = .ok (.bipush 12, 2) := by decide +kernel
theorem dX7_ask_34 : decode cX7_ask 34 = .ok (.if_icmp .gt 57, 3) := by decide +kernel
theorem dX7_ask_37 : decode cX7_ask 37 = .ok (.aload_n 0, 1) := by decide +kernel
theorem dX7_ask_38 : decode cX7_ask 38 = .ok (.iload 4, 2) := by decide +kernel
theorem dX7_ask_40 : decode cX7_ask 40 = .ok (.invokevirtual 217, 3) := by decide +kernel
theorem dX7_ask_43 : decode cX7_ask 43 = .ok (.ifCond .eq 42, 3) := by decide +kernel
theorem dX7_ask_46 : decode cX7_ask 46 = .ok (.aload_n 0, 1) := by decide +kernel
theorem dX7_ask_47 : decode cX7_ask 47 = .ok (.iconst 0, 1) := by decide +kernel
theorem dX7_ask_48 : decode cX7_ask 48 = .ok (.iload 4, 2) := by decide +kernel
theorem dX7_ask_50 : decode cX7_ask 50 = .ok (.invokevirtual 195, 3) := by decide +kernel
theorem dX7_ask_53 : decode cX7_ask 53 = .ok (.bipush (-9), 2) := by decide +kernel
theorem dX7_ask_55 : decode cX7_ask 55 = .ok (.if_icmp .eq 30, 3) := by decide +kernel
theorem dX7_ask_58 : decode cX7_ask 58 = .ok (.aload_n 0, 1) := by decide +kernel
theorem dX7_ask_59 : decode cX7_ask 59 = .ok (.iload_n 1, 1) := by decide +kernel
theorem dX7_ask_60 : decode cX7_ask 60 = .ok (.iload 4, 2) := by decide +kernel
theorem dX7_ask_62 : decode cX7_ask 62 = .ok (.invokevirtual 306, 3) := by decide +kernel
theorem dX7_ask_65 : decode cX7_ask 65 = .ok (.istore 5, 2) := by decide +kernel
theorem dX7_ask_67 : decode cX7_ask 67 = .ok (.iload_n 2, 1) := by decide +kernel
theorem dX7_ask_68 : decode cX7_ask 68 = .ok (.bipush (-9), 2) := by decide +kernel
theorem dX7_ask_70 : decode cX7_ask 70 = .ok (.if_icmp .eq 9, 3) := by decide +kernel
theorem dX7_ask_73 : decode cX7_ask 73 = .ok (.iload 5, 2) := by decide +kernel
theorem dX7_ask_75 : decode cX7_ask 75 = .ok (.iload_n 3, 1) := by decide +kernel
theorem dX7_ask_76 : decode cX7_ask 76 = .ok (.if_icmp .ge 9, 3) := by decide +kernel
theorem dX7_ask_79 : decode cX7_ask 79 = .ok (.iload 4, 2) := by decide +kernel
theorem dX7_ask_81 : decode cX7_ask 81 = .ok (.istore_n 2, 1) := by decide +kernel
theorem dX7_ask_82 : decode cX7_ask 82 = .ok (.iload 5, 2) := by decide +kernel
theorem dX7_ask_84 : decode cX7_ask 84 = .ok (.istore_n 3, 1) := by decide +kernel
theorem dX7_ask_85 : decode cX7_ask 85 = .ok (.iinc 4 1, 3) := by decide +kernel
theorem dX7_ask_88 : decode cX7_ask 88 = .ok (.goto (-58), 3) := by decide +kernel
theorem dX7_ask_91 : decode cX7_ask 91 = .ok (.aload_n 0, 1) := by decide +kernel
theorem dX7_ask_92 : decode cX7_ask 92 = .ok (.iload_n 3, 1) := by decide +kernel
theorem dX7_ask_93 : decode cX7_ask 93 = .ok (.iload_n 2, 1) := by decide +kernel
theorem dX7_ask_94 : decode cX7_ask 94 = .ok (.invokevirtual 102, 3) := by decide +kernel
theorem dX7_ask_97 : decode cX7_ask 97 = .ok (.ireturn, 1) := by decide +kernel
theorem dX7_year_0 : decode cX7_year 0 = .ok (.iload_n 1, 1) := by decide +kernel
theorem dX7_year_1 : decode cX7_year 1 = .ok (.iconst 1, 1) := by decide +kernel
theorem dX7_year_2 : decode cX7_year 2 = .ok (.ldc_w 309, 3) := by decide +kernel
theorem dX7_year_5 : decode cX7_year 5 = .ok (.invokestatic 80, 3) := by decide +kernel
theorem dX7_year_8 : decode cX7_year 8 = .ok (.ifCond .eq 13, 3) := by decide +kernel
theorem dX7_year_11 : decode cX7_year 11 = .ok (.iload_n 2, 1) := by decide +kernel
theorem dX7_year_12 : decode cX7_year 12 = .ok (.iconst 1, 1) := by decide +kernel
theorem dX7_year_13 : decode cX7_year 13 = .ok (.bipush 100, 2) := by decide +kernel
theorem dX7_year_15 : decode cX7_year 15 = .ok (.invokestatic 80, 3) := by decide +kernel
theorem dX7_year_18 : decode cX7_year 18 = .ok (.ifCond .ne 5, 3) := by decide +kernel
theorem dX7_year_21 : decode cX7_year 21 = .ok (.iconst (-1), 1) := by decide +kernel
theorem dX7_year_22 : decode cX7_year 22 = .ok (.ireturn, 1) := by decide +kernel
theorem dX7_year_23 : decode cX7_year 23 = .ok (.aload_n 0, 1) := by decide +kernel
theorem dX7_year_24 : decode cX7_year 24 = .ok (.getfield 139, 3) := by decide +kernel
theorem dX7_year_27 : decode cX7_year 27 = .ok (.ifCond .ne 6, 3) := by decide +kernel
theorem dX7_year_30 : decode cX7_year 30 = .ok (.bipush (-4), 2) := by decide +kernel
theorem dX7_year_32 : decode cX7_year 32 = .ok (.ireturn, 1) := by decide +kernel
theorem dX7_year_33 : decode cX7_year 33 = .ok (.iload_n 1, 1) := by decide +kernel
theorem dX7_year_34 : decode cX7_year 34 = .ok (.i2l, 1) := by decide +kernel
theorem dX7_year_35 : decode cX7_year 35 = .ok (.lstore_n 3, 1) := by decide +kernel
theorem dX7_year_36 : decode cX7_year 36 = .ok (.iconst 0, 1) := by decide +kernel
theorem dX7_year_37 : decode cX7_year 37 = .ok (.istore 5, 2) := by decide +kernel
theorem dX7_year_39 : decode cX7_year 39 = .ok (.iconst 0, 1) := by decide +kernel
theorem dX7_year_40 : decode cX7_year 40 = .ok (.istore 6, 2) := by decide +kernel
theorem dX7_year_42 : decode cX7_year 42 = .ok (.aload_n 0, 1) := by decide +kernel
theorem dX7_year_43 : decode cX7_year 43 = .ok (.iconst 0, 1) := by decide +kernel
theorem dX7_year_44 : decode cX7_year 44 = .ok (.iconst 1, 1) := by decide +kernel
theorem dX7_year_45 : decode cX7_year 45 = .ok (.invokevirtual 233, 3) := by decide +kernel
theorem dX7_year_48 : decode cX7_year 48 = .ok (.iconst 0, 1) := by decide +kernel
theorem dX7_year_49 : decode cX7_year 49 = .ok (.istore 7, 2) := by decide +kernel
theorem dX7_year_51 : decode cX7_year 51 = .ok (.iload 7, 2) := by decide +kernel
theorem dX7_year_53 : decode cX7_year 53 = .ok (.iload_n 2, 1) := by decide +kernel
theorem dX7_year_54 : decode cX7_year 54 = .ok (.if_icmp .ge 99, 3) := by decide +kernel
theorem dX7_year_57 : decode cX7_year 57 = .ok (.ldc2_w 310, 3) := by decide +kernel
theorem dX7_year_60 : decode cX7_year 60 = .ok (.lload_n 3, 1) := by decide +kernel
theorem dX7_year_61 : decode cX7_year 61 = .ok (.lmul, 1) := by decide +kernel
theorem dX7_year_62 : decode cX7_year 62 = .ok (.ldc2_w 312, 3) := by decide +kernel
theorem dX7_year_65 : decode cX7_year 65 = .ok (.lrem, 1) := by decide +kernel
theorem dX7_year_66 : decode cX7_year 66 = .ok (.lstore_n 3, 1) := by decide +kernel
theorem dX7_year_67 : decode cX7_year 67 = .ok (.lload_n 3, 1) := by decide +kernel
theorem dX7_year_68 : decode cX7_year 68 = .ok (.ldc2_w 314, 3) := by decide +kernel
theorem dX7_year_71 : decode cX7_year 71 = .ok (.lrem, 1) := by decide +kernel
theorem dX7_year_72 : decode cX7_year 72 = .ok (.l2i, 1) := by decide +kernel
theorem dX7_year_73 : decode cX7_year 73 = .ok (.istore 8, 2) := by decide +kernel
theorem dX7_year_75 : decode cX7_year 75 = .ok (.aload_n 0, 1) := by decide +kernel
theorem dX7_year_76 : decode cX7_year 76 = .ok (.iload 8, 2) := by decide +kernel
theorem dX7_year_78 : decode cX7_year 78 = .ok (.invokevirtual 217, 3) := by decide +kernel
theorem dX7_year_81 : decode cX7_year 81 = .ok (.ifCond .eq 19, 3) := by decide +kernel
theorem dX7_year_84 : decode cX7_year 84 = .ok (.aload_n 0, 1) := by decide +kernel
theorem dX7_year_85 : decode cX7_year 85 = .ok (.iconst 1, 1) := by decide +kernel
theorem dX7_year_86 : decode cX7_year 86 = .ok (.iload 8, 2) := by decide +kernel
theorem dX7_year_88 : decode cX7_year 88 = .ok (.invokevirtual 195, 3) := by decide +kernel
theorem dX7_year_91 : decode cX7_year 91 = .ok (.bipush (-9), 2) := by decide +kernel
theorem dX7_year_93 : decode cX7_year 93 = .ok (.if_icmp .eq 7, 3) := by decide +kernel
theorem dX7_year_96 : decode cX7_year 96 = .ok (.iconst 1, 1) := by decide +kernel
theorem dX7_year_97 : decode cX7_year 97 = .ok (.goto 4, 3) := by decide +kernel
theorem dX7_year_100 : decode cX7_year 100 = .ok (.iconst 0, 1) := by decide +kernel
theorem dX7_year_101 : decode cX7_year 101 = .ok (.istore 9, 2) := by decide +kernel
theorem dX7_year_103 : decode cX7_year 103 = .ok (.aload_n 0, 1) := by decide +kernel
theorem dX7_year_104 : decode cX7_year 104 = .ok (.iconst 1, 1) := by decide +kernel
theorem dX7_year_105 : decode cX7_year 105 = .ok (.iload 9, 2) := by decide +kernel
theorem dX7_year_107 : decode cX7_year 107 = .ok (.ifCond .eq 8, 3) := by decide +kernel
theorem dX7_year_110 : decode cX7_year 110 = .ok (.iload 8, 2) := by decide +kernel
theorem dX7_year_112 : decode cX7_year 112 = .ok (.goto 5, 3) := by decide +kernel
theorem dX7_year_115 : decode cX7_year 115 = .ok (.bipush 12, 2) := by decide +kernel
theorem dX7_year_117 : decode cX7_year 117 = .ok (.invokevirtual 214, 3) := by decide +kernel
theorem dX7_year_120 : decode cX7_year 120 = .ok (.pop, 1) := by decide +kernel
theorem dX7_year_121 : decode cX7_year 121 = .ok (.iload 5, 2) := by decide +kernel
theorem dX7_year_123 : decode cX7_year 123 = .ok (.aload_n 0, 1) := by decide +kernel
theorem dX7_year_124 : decode cX7_year 124 = .ok (.getfield 186, 3) := by decide +kernel
theorem dX7_year_127 : decode cX7_year 127 = .ok (.iadd, 1) := by decide +kernel
theorem dX7_year_128 : decode cX7_year 128 = .ok (.istore 5, 2) := by decide +kernel
theorem dX7_year_130 : decode cX7_year 130 = .ok (.iload 6, 2) := by decide +kernel
theorem dX7_year_132 : decode cX7_year 132 = .ok (.aload_n 0, 1) := by decide +kernel
theorem dX7_year_133 : decode cX7_year 133 = .ok (.getfield 189, 3) := by decide +kernel
theorem dX7_year_136 : decode cX7_year 136 = .ok (.ifCond .le 7, 3) := by decide +kernel
theorem dX7_year_139 : decode cX7_year 139 = .ok (.iconst 1, 1) := by decide +kernel
theorem dX7_year_140 : decode cX7_year 140 = .ok (.goto 4, 3) := by decide +kernel
theorem dX7_year_143 : decode cX7_year 143 = .ok (.iconst 0, 1) := by decide +kernel
theorem dX7_year_144 : decode cX7_year 144 = .ok (.iadd, 1) := by decide +kernel
theorem dX7_year_145 : decode cX7_year 145 = .ok (.istore 6, 2) := by decide +kernel
theorem dX7_year_147 : decode cX7_year 147 = .ok (.iinc 7 1, 3) := by decide +kernel
theorem dX7_year_150 : decode cX7_year 150 = .ok (.goto (-99), 3) := by decide +kernel
theorem dX7_year_153 : decode cX7_year 153 = .ok (.aload_n 0, 1) := by decide +kernel
theorem dX7_year_154 : decode cX7_year 154 = .ok (.iload 6, 2) := by decide +kernel
theorem dX7_year_156 : decode cX7_year 156 = .ok (.iconst 1, 1) := by decide +kernel
theorem dX7_year_157 : decode cX7_year 157 = .ok (.invokevirtual 296, 3) := by decide +kernel
theorem dX7_year_160 : decode cX7_year 160 = .ok (.pop, 1) := by decide +kernel
theorem dX7_year_161 : decode cX7_year 161 = .ok (.aload_n 0, 1) := by decide +kernel
theorem dX7_year_162 : decode cX7_year 162 = .ok (.iload 5, 2) := by decide +kernel
theorem dX7_year_164 : decode cX7_year 164 = .ok (.iconst 1, 1) := by decide +kernel
theorem dX7_year_165 : decode cX7_year 165 = .ok (.invokevirtual 102, 3) := by decide +kernel
theorem dX7_year_168 : decode cX7_year 168 = .ok (.ireturn, 1) := by decide +kernel
theorem dX7_counted_0 : decode cX7_counted 0 = .ok (.iconst 0, 1) := by decide +kernel
theorem dX7_counted_1 : decode cX7_counted 1 = .ok (.istore_n 2, 1) := by decide +kernel
theorem dX7_counted_2 : decode cX7_counted 2 = .ok (.iconst 0, 1) := by decide +kernel
theorem dX7_counted_3 : decode cX7_counted 3 = .ok (.istore_n 3, 1) := by decide +kernel
theorem dX7_counted_4 : decode cX7_counted 4 = .ok (.iload_n 3, 1) := by decide +kernel
theorem dX7_counted_5 : decode cX7_counted 5 = .ok (.aload_n 0, 1) := by decide +kernel
theorem dX7_counted_6 : decode cX7_counted 6 = .ok (.getfield 139, 3) := by decide +kernel
theorem dX7_counted_9 : decode cX7_counted 9 = .ok (.if_icmp .ge 57, 3) := by decide +kernel
theorem dX7_counted_12 : decode cX7_counted 12 = .ok (.iload_n 2, 1) := by decide +kernel
theorem dX7_counted_13 : decode cX7_counted 13 = .ok (.iload_n 1, 1) := by decide +kernel
theorem dX7_counted_14 : decode cX7_counted 14 = .ok (.iconst 2, 1) := by decide +kernel
theorem dX7_counted_15 : decode cX7_counted 15 = .ok (.if_icmp .ne 12, 3) := by decide +kernel
theorem dX7_counted_18 : decode cX7_counted 18 = .ok (.aload_n 0, 1) := by decide +kernel
theorem dX7_counted_19 : decode cX7_counted 19 = .ok (.iconst 0, 1) := by decide +kernel
theorem dX7_counted_20 : decode cX7_counted 20 = .ok (.iload_n 3, 1) := by decide +kernel
theorem dX7_counted_21 : decode cX7_counted 21 = .ok (.invokevirtual 155, 3) := by decide +kernel
theorem dX7_counted_24 : decode cX7_counted 24 = .ok (.ifCond .ne 29, 3) := by decide +kernel
theorem dX7_counted_27 : decode cX7_counted 27 = .ok (.iload_n 1, 1) := by decide +kernel
theorem dX7_counted_28 : decode cX7_counted 28 = .ok (.iconst 3, 1) := by decide +kernel
theorem dX7_counted_29 : decode cX7_counted 29 = .ok (.if_icmp .ne 11, 3) := by decide +kernel
theorem dX7_counted_32 : decode cX7_counted 32 = .ok (.aload_n 0, 1) := by decide +kernel
theorem dX7_counted_33 : decode cX7_counted 33 = .ok (.iload_n 3, 1) := by decide +kernel
theorem dX7_counted_34 : decode cX7_counted 34 = .ok (.invokevirtual 180, 3) := by decide +kernel
theorem dX7_counted_37 : decode cX7_counted 37 = .ok (.ifCond .ne 16, 3) := by decide +kernel
theorem dX7_counted_40 : decode cX7_counted 40 = .ok (.iload_n 1, 1) := by decide +kernel
theorem dX7_counted_41 : decode cX7_counted 41 = .ok (.iconst 4, 1) := by decide +kernel
theorem dX7_counted_42 : decode cX7_counted 42 = .ok (.if_icmp .ne 15, 3) := by decide +kernel
theorem dX7_counted_45 : decode cX7_counted 45 = .ok (.aload_n 0, 1) := by decide +kernel
theorem dX7_counted_46 : decode cX7_counted 46 = .ok (.iload_n 3, 1) := by decide +kernel
theorem dX7_counted_47 : decode cX7_counted 47 = .ok (.invokevirtual 152, 3) := by decide +kernel
theorem dX7_counted_50 : decode cX7_counted 50 = .ok (.ifCond .eq 7, 3) := by decide +kernel
theorem dX7_counted_53 : decode cX7_counted 53 = .ok (.iconst 1, 1) := by decide +kernel
theorem dX7_counted_54 : decode cX7_counted 54 = .ok (.goto 4, 3) := by decide +kernel
theorem dX7_counted_57 : decode cX7_counted 57 = .ok (.iconst 0, 1) := by decide +kernel
theorem dX7_counted_58 : decode cX7_counted 58 = .ok (.iadd, 1) := by decide +kernel
theorem dX7_counted_59 : decode cX7_counted 59 = .ok (.istore_n 2, 1) := by decide +kernel
theorem dX7_counted_60 : decode cX7_counted 60 = .ok (.iinc 3 1, 3) := by decide +kernel
theorem dX7_counted_63 : decode cX7_counted 63 = .ok (.goto (-59), 3) := by decide +kernel
theorem dX7_counted_66 : decode cX7_counted 66 = .ok (.iconst 0, 1) := by decide +kernel
theorem dX7_counted_67 : decode cX7_counted 67 = .ok (.istore_n 3, 1) := by decide +kernel
theorem dX7_counted_68 : decode cX7_counted 68 = .ok (.iload_n 3, 1) := by decide +kernel
theorem dX7_counted_69 : decode cX7_counted 69 = .ok (.iconst 3, 1) := by decide +kernel
theorem dX7_counted_70 : decode cX7_counted 70 = .ok (.if_icmp .ge 31, 3) := by decide +kernel
theorem dX7_counted_73 : decode cX7_counted 73 = .ok (.iload_n 2, 1) := by decide +kernel
theorem dX7_counted_74 : decode cX7_counted 74 = .ok (.iload_n 1, 1) := by decide +kernel
theorem dX7_counted_75 : decode cX7_counted 75 = .ok (.iconst 5, 1) := by decide +kernel
theorem dX7_counted_76 : decode cX7_counted 76 = .ok (.if_icmp .ne 16, 3) := by decide +kernel
theorem dX7_counted_79 : decode cX7_counted 79 = .ok (.aload_n 0, 1) := by decide +kernel
theorem dX7_counted_80 : decode cX7_counted 80 = .ok (.getfield 47, 3) := by decide +kernel
theorem dX7_counted_83 : decode cX7_counted 83 = .ok (.iload_n 3, 1) := by decide +kernel
theorem dX7_counted_84 : decode cX7_counted 84 = .ok (.baload, 1) := by decide +kernel
theorem dX7_counted_85 : decode cX7_counted 85 = .ok (.ifCond .eq 7, 3) := by decide +kernel
theorem dX7_counted_88 : decode cX7_counted 88 = .ok (.iconst 1, 1) := by decide +kernel
theorem dX7_counted_89 : decode cX7_counted 89 = .ok (.goto 4, 3) := by decide +kernel
theorem dX7_counted_92 : decode cX7_counted 92 = .ok (.iconst 0, 1) := by decide +kernel
theorem dX7_counted_93 : decode cX7_counted 93 = .ok (.iadd, 1) := by decide +kernel
theorem dX7_counted_94 : decode cX7_counted 94 = .ok (.istore_n 2, 1) := by decide +kernel
theorem dX7_counted_95 : decode cX7_counted 95 = .ok (.iinc 3 1, 3) := by decide +kernel
theorem dX7_counted_98 : decode cX7_counted 98 = .ok (.goto (-30), 3) := by decide +kernel
theorem dX7_counted_101 : decode cX7_counted 101 = .ok (.iconst 0, 1) := by decide +kernel
theorem dX7_counted_102 : decode cX7_counted 102 = .ok (.istore_n 3, 1) := by decide +kernel
theorem dX7_counted_103 : decode cX7_counted 103 = .ok (.iload_n 3, 1) := by decide +kernel
theorem dX7_counted_104 : decode cX7_counted 104 = .ok (.bipush 6, 2) := by decide +kernel
theorem dX7_counted_106 : decode cX7_counted 106 = .ok (.if_icmp .ge 32, 3) := by decide +kernel
theorem dX7_counted_109 : decode cX7_counted 109 = .ok (.iload_n 2, 1) := by decide +kernel
theorem dX7_counted_110 : decode cX7_counted 110 = .ok (.iload_n 1, 1) := by decide +kernel
theorem dX7_counted_111 : decode cX7_counted 111 = .ok (.bipush 6, 2) := by decide +kernel
theorem dX7_counted_113 : decode cX7_counted 113 = .ok (.if_icmp .ne 16, 3) := by decide +kernel
theorem dX7_counted_116 : decode cX7_counted 116 = .ok (.aload_n 0, 1) := by decide +kernel
theorem dX7_counted_117 : decode cX7_counted 117 = .ok (.getfield 13, 3) := by decide +kernel
theorem dX7_counted_120 : decode cX7_counted 120 = .ok (.iload_n 3, 1) := by decide +kernel
theorem dX7_counted_121 : decode cX7_counted 121 = .ok (.iaload, 1) := by decide +kernel
theorem dX7_counted_122 : decode cX7_counted 122 = .ok (.ifCond .lt 7, 3) := by decide +kernel
theorem dX7_counted_125 : decode cX7_counted 125 = .ok (.iconst 1, 1) := by decide +kernel
theorem dX7_counted_126 : decode cX7_counted 126 = .ok (.goto 4, 3) := by decide +kernel
theorem dX7_counted_129 : decode cX7_counted 129 = .ok (.iconst 0, 1) := by decide +kernel
theorem dX7_counted_130 : decode cX7_counted 130 = .ok (.iadd, 1) := by decide +kernel
theorem dX7_counted_131 : decode cX7_counted 131 = .ok (.istore_n 2, 1) := by decide +kernel
theorem dX7_counted_132 : decode cX7_counted 132 = .ok (.iinc 3 1, 3) := by decide +kernel
theorem dX7_counted_135 : decode cX7_counted 135 = .ok (.goto (-32), 3) := by decide +kernel
theorem dX7_counted_138 : decode cX7_counted 138 = .ok (.iconst 0, 1) := by decide +kernel
theorem dX7_counted_139 : decode cX7_counted 139 = .ok (.istore_n 3, 1) := by decide +kernel
theorem dX7_counted_140 : decode cX7_counted 140 = .ok (.iload_n 3, 1) := by decide +kernel
theorem dX7_counted_141 : decode cX7_counted 141 = .ok (.iconst 4, 1) := by decide +kernel
theorem dX7_counted_142 : decode cX7_counted 142 = .ok (.if_icmp .ge 32, 3) := by decide +kernel
theorem dX7_counted_145 : decode cX7_counted 145 = .ok (.iload_n 2, 1) := by decide +kernel
theorem dX7_counted_146 : decode cX7_counted 146 = .ok (.iload_n 1, 1) := by decide +kernel
theorem dX7_counted_147 : decode cX7_counted 147 = .ok (.bipush 7, 2) := by decide +kernel
theorem dX7_counted_149 : decode cX7_counted 149 = .ok (.if_icmp .ne 16, 3) := by decide +kernel
theorem dX7_counted_152 : decode cX7_counted 152 = .ok (.aload_n 0, 1) := by decide +kernel
theorem dX7_counted_153 : decode cX7_counted 153 = .ok (.getfield 22, 3) := by decide +kernel
theorem dX7_counted_156 : decode cX7_counted 156 = .ok (.iload_n 3, 1) := by decide +kernel
theorem dX7_counted_157 : decode cX7_counted 157 = .ok (.iaload, 1) := by decide +kernel
theorem dX7_counted_158 : decode cX7_counted 158 = .ok (.ifCond .lt 7, 3) := by decide +kernel
theorem dX7_counted_161 : decode cX7_counted 161 = .ok (.iconst 1, 1) := by decide +kernel
theorem dX7_counted_162 : decode cX7_counted 162 = .ok (.goto 4, 3) := by decide +kernel
theorem dX7_counted_165 : decode cX7_counted 165 = .ok (.iconst 0, 1) := by decide +kernel
theorem dX7_counted_166 : decode cX7_counted 166 = .ok (.iadd, 1) := by decide +kernel
theorem dX7_counted_167 : decode cX7_counted 167 = .ok (.istore_n 2, 1) := by decide +kernel
theorem dX7_counted_168 : decode cX7_counted 168 = .ok (.iinc 3 1, 3) := by decide +kernel
theorem dX7_counted_171 : decode cX7_counted 171 = .ok (.goto (-31), 3) := by decide +kernel
theorem dX7_counted_174 : decode cX7_counted 174 = .ok (.iload_n 1, 1) := by decide +kernel
theorem dX7_counted_175 : decode cX7_counted 175 = .ok (.ifCond .ne 10, 3) := by decide +kernel
theorem dX7_counted_178 : decode cX7_counted 178 = .ok (.aload_n 0, 1) := by decide +kernel
theorem dX7_counted_179 : decode cX7_counted 179 = .ok (.getfield 139, 3) := by decide +kernel
theorem dX7_counted_182 : decode cX7_counted 182 = .ok (.goto 19, 3) := by decide +kernel
theorem dX7_counted_185 : decode cX7_counted 185 = .ok (.iload_n 1, 1) := by decide +kernel
theorem dX7_counted_186 : decode cX7_counted 186 = .ok (.iconst 1, 1) := by decide +kernel
theorem dX7_counted_187 : decode cX7_counted 187 = .ok (.if_icmp .ne 13, 3) := by decide +kernel
theorem dX7_counted_190 : decode cX7_counted 190 = .ok (.aload_n 0, 1) := by decide +kernel
theorem dX7_counted_191 : decode cX7_counted 191 = .ok (.iconst 0, 1) := by decide +kernel
theorem dX7_counted_192 : decode cX7_counted 192 = .ok (.bipush 14, 2) := by decide +kernel
theorem dX7_counted_194 : decode cX7_counted 194 = .ok (.invokevirtual 149, 3) := by decide +kernel
theorem dX7_counted_197 : decode cX7_counted 197 = .ok (.goto 4, 3) := by decide +kernel
theorem dX7_counted_200 : decode cX7_counted 200 = .ok (.iload_n 2, 1) := by decide +kernel
theorem dX7_counted_201 : decode cX7_counted 201 = .ok (.ireturn, 1) := by decide +kernel
theorem dX7_count_0 : decode cX7_count 0 = .ok (.iload_n 1, 1) := by decide +kernel
theorem dX7_count_1 : decode cX7_count 1 = .ok (.iconst 0, 1) := by decide +kernel
theorem dX7_count_2 : decode cX7_count 2 = .ok (.bipush 7, 2) := by decide +kernel
theorem dX7_count_4 : decode cX7_count 4 = .ok (.invokestatic 80, 3) := by decide +kernel
theorem dX7_count_7 : decode cX7_count 7 = .ok (.ifCond .eq 11, 3) := by decide +kernel
theorem dX7_count_10 : decode cX7_count 10 = .ok (.aload_n 0, 1) := by decide +kernel
theorem dX7_count_11 : decode cX7_count 11 = .ok (.iload_n 1, 1) := by decide +kernel
theorem dX7_count_12 : decode cX7_count 12 = .ok (.invokevirtual 316, 3) := by decide +kernel
theorem dX7_count_15 : decode cX7_count 15 = .ok (.goto 4, 3) := by decide +kernel
theorem dX7_count_18 : decode cX7_count 18 = .ok (.iconst (-1), 1) := by decide +kernel
theorem dX7_count_19 : decode cX7_count 19 = .ok (.ireturn, 1) := by decide +kernel
theorem dX7_mix_0 : decode cX7_mix 0 = .ok (.aload_n 0, 1) := by decide +kernel
theorem dX7_mix_1 : decode cX7_mix 1 = .ok (.ldc2_w 319, 3) := by decide +kernel
theorem dX7_mix_4 : decode cX7_mix 4 = .ok (.aload_n 0, 1) := by decide +kernel
theorem dX7_mix_5 : decode cX7_mix 5 = .ok (.getfield 321, 3) := by decide +kernel
theorem dX7_mix_8 : decode cX7_mix 8 = .ok (.lmul, 1) := by decide +kernel
theorem dX7_mix_9 : decode cX7_mix 9 = .ok (.lload_n 1, 1) := by decide +kernel
theorem dX7_mix_10 : decode cX7_mix 10 = .ok (.ladd, 1) := by decide +kernel
theorem dX7_mix_11 : decode cX7_mix 11 = .ok (.putfield 321, 3) := by decide +kernel
theorem dX7_mix_14 : decode cX7_mix 14 = .ok (.return_, 1) := by decide +kernel
theorem dX7_mixValley_0 : decode cX7_mixValley 0 = .ok (.iconst 0, 1) := by decide +kernel
theorem dX7_mixValley_1 : decode cX7_mixValley 1 = .ok (.istore_n 1, 1) := by decide +kernel
theorem dX7_mixValley_2 : decode cX7_mixValley 2 = .ok (.iload_n 1, 1) := by decide +kernel
theorem dX7_mixValley_3 : decode cX7_mixValley 3 = .ok (.iconst 3, 1) := by decide +kernel
theorem dX7_mixValley_4 : decode cX7_mixValley 4 = .ok (.if_icmp .ge 22, 3) := by decide +kernel
theorem dX7_mixValley_7 : decode cX7_mixValley 7 = .ok (.aload_n 0, 1) := by decide +kernel
theorem dX7_mixValley_8 : decode cX7_mixValley 8 = .ok (.aload_n 0, 1) := by decide +kernel
theorem dX7_mixValley_9 : decode cX7_mixValley 9 = .ok (.iconst 0, 1) := by decide +kernel
theorem dX7_mixValley_10 : decode cX7_mixValley 10 = .ok (.iconst 0, 1) := by decide +kernel
theorem dX7_mixValley_11 : decode cX7_mixValley 11 = .ok (.iload_n 1, 1) := by decide +kernel
theorem dX7_mixValley_12 : decode cX7_mixValley 12 = .ok (.iadd, 1) := by decide +kernel
theorem dX7_mixValley_13 : decode cX7_mixValley 13 = .ok (.invokevirtual 149, 3) := by decide +kernel
theorem dX7_mixValley_16 : decode cX7_mixValley 16 = .ok (.i2l, 1) := by decide +kernel
theorem dX7_mixValley_17 : decode cX7_mixValley 17 = .ok (.invokevirtual 324, 3) := by decide +kernel
theorem dX7_mixValley_20 : decode cX7_mixValley 20 = .ok (.iinc 1 1, 3) := by decide +kernel
theorem dX7_mixValley_23 : decode cX7_mixValley 23 = .ok (.goto (-21), 3) := by decide +kernel
theorem dX7_mixValley_26 : decode cX7_mixValley 26 = .ok (.iconst 0, 1) := by decide +kernel
theorem dX7_mixValley_27 : decode cX7_mixValley 27 = .ok (.istore_n 1, 1) := by decide +kernel
theorem dX7_mixValley_28 : decode cX7_mixValley 28 = .ok (.iload_n 1, 1) := by decide +kernel
theorem dX7_mixValley_29 : decode cX7_mixValley 29 = .ok (.aload_n 0, 1) := by decide +kernel
theorem dX7_mixValley_30 : decode cX7_mixValley 30 = .ok (.getfield 139, 3) := by decide +kernel
theorem dX7_mixValley_33 : decode cX7_mixValley 33 = .ok (.if_icmp .ge 57, 3) := by decide +kernel
theorem dX7_mixValley_36 : decode cX7_mixValley 36 = .ok (.iconst 0, 1) := by decide +kernel
theorem dX7_mixValley_37 : decode cX7_mixValley 37 = .ok (.istore_n 2, 1) := by decide +kernel
theorem dX7_mixValley_38 : decode cX7_mixValley 38 = .ok (.iload_n 2, 1) := by decide +kernel
theorem dX7_mixValley_39 : decode cX7_mixValley 39 = .ok (.bipush 7, 2) := by decide +kernel
theorem dX7_mixValley_41 : decode cX7_mixValley 41 = .ok (.if_icmp .ge 20, 3) := by decide +kernel
theorem dX7_mixValley_44 : decode cX7_mixValley 44 = .ok (.aload_n 0, 1) := by decide +kernel
theorem dX7_mixValley_45 : decode cX7_mixValley 45 = .ok (.aload_n 0, 1) := by decide +kernel
theorem dX7_mixValley_46 : decode cX7_mixValley 46 = .ok (.iload_n 1, 1) := by decide +kernel
theorem dX7_mixValley_47 : decode cX7_mixValley 47 = .ok (.iload_n 2, 1) := by decide +kernel
theorem dX7_mixValley_48 : decode cX7_mixValley 48 = .ok (.invokevirtual 211, 3) := by decide +kernel
theorem dX7_mixValley_51 : decode cX7_mixValley 51 = .ok (.i2l, 1) := by decide +kernel
theorem dX7_mixValley_52 : decode cX7_mixValley 52 = .ok (.invokevirtual 324, 3) := by decide +kernel
theorem dX7_mixValley_55 : decode cX7_mixValley 55 = .ok (.iinc 2 1, 3) := by decide +kernel
theorem dX7_mixValley_58 : decode cX7_mixValley 58 = .ok (.goto (-20), 3) := by decide +kernel
theorem dX7_mixValley_61 : decode cX7_mixValley 61 = .ok (.aload_n 0, 1) := by decide +kernel
theorem dX7_mixValley_62 : decode cX7_mixValley 62 = .ok (.aload_n 0, 1) := by decide +kernel
theorem dX7_mixValley_63 : decode cX7_mixValley 63 = .ok (.iconst 0, 1) := by decide +kernel
theorem dX7_mixValley_64 : decode cX7_mixValley 64 = .ok (.bipush 7, 2) := by decide +kernel
theorem dX7_mixValley_66 : decode cX7_mixValley 66 = .ok (.invokevirtual 149, 3) := by decide +kernel
theorem dX7_mixValley_69 : decode cX7_mixValley 69 = .ok (.iload_n 1, 1) := by decide +kernel
theorem dX7_mixValley_70 : decode cX7_mixValley 70 = .ok (.invokestatic 174, 3) := by decide +kernel
theorem dX7_mixValley_73 : decode cX7_mixValley 73 = .ok (.ifCond .eq 7, 3) := by decide +kernel
theorem dX7_mixValley_76 : decode cX7_mixValley 76 = .ok (.lconst 1, 1) := by decide +kernel
theorem dX7_mixValley_77 : decode cX7_mixValley 77 = .ok (.goto 4, 3) := by decide +kernel
theorem dX7_mixValley_80 : decode cX7_mixValley 80 = .ok (.lconst 0, 1) := by decide +kernel
theorem dX7_mixValley_81 : decode cX7_mixValley 81 = .ok (.invokevirtual 324, 3) := by decide +kernel
theorem dX7_mixValley_84 : decode cX7_mixValley 84 = .ok (.iinc 1 1, 3) := by decide +kernel
theorem dX7_mixValley_87 : decode cX7_mixValley 87 = .ok (.goto (-59), 3) := by decide +kernel
theorem dX7_mixValley_90 : decode cX7_mixValley 90 = .ok (.aload_n 0, 1) := by decide +kernel
theorem dX7_mixValley_91 : decode cX7_mixValley 91 = .ok (.aload_n 0, 1) := by decide +kernel
theorem dX7_mixValley_92 : decode cX7_mixValley 92 = .ok (.iconst 0, 1) := by decide +kernel
theorem dX7_mixValley_93 : decode cX7_mixValley 93 = .ok (.bipush 12, 2) := by decide +kernel
theorem dX7_mixValley_95 : decode cX7_mixValley 95 = .ok (.invokevirtual 149, 3) := by decide +kernel
theorem dX7_mixValley_98 : decode cX7_mixValley 98 = .ok (.i2l, 1) := by decide +kernel
theorem dX7_mixValley_99 : decode cX7_mixValley 99 = .ok (.invokevirtual 324, 3) := by decide +kernel
theorem dX7_mixValley_102 : decode cX7_mixValley 102 = .ok (.aload_n 0, 1) := by decide +kernel
theorem dX7_mixValley_103 : decode cX7_mixValley 103 = .ok (.aload_n 0, 1) := by decide +kernel
theorem dX7_mixValley_104 : decode cX7_mixValley 104 = .ok (.iconst 0, 1) := by decide +kernel
theorem dX7_mixValley_105 : decode cX7_mixValley 105 = .ok (.bipush 13, 2) := by decide +kernel
theorem dX7_mixValley_107 : decode cX7_mixValley 107 = .ok (.invokevirtual 149, 3) := by decide +kernel
theorem dX7_mixValley_110 : decode cX7_mixValley 110 = .ok (.i2l, 1) := by decide +kernel
theorem dX7_mixValley_111 : decode cX7_mixValley 111 = .ok (.invokevirtual 324, 3) := by decide +kernel
theorem dX7_mixValley_114 : decode cX7_mixValley 114 = .ok (.iconst 0, 1) := by decide +kernel
theorem dX7_mixValley_115 : decode cX7_mixValley 115 = .ok (.istore_n 1, 1) := by decide +kernel
theorem dX7_mixValley_116 : decode cX7_mixValley 116 = .ok (.iload_n 1, 1) := by decide +kernel
theorem dX7_mixValley_117 : decode cX7_mixValley 117 = .ok (.aload_n 0, 1) := by decide +kernel
theorem dX7_mixValley_118 : decode cX7_mixValley 118 = .ok (.iconst 0, 1) := by decide +kernel
theorem dX7_mixValley_119 : decode cX7_mixValley 119 = .ok (.bipush 14, 2) := by decide +kernel
theorem dX7_mixValley_121 : decode cX7_mixValley 121 = .ok (.invokevirtual 149, 3) := by decide +kernel
theorem dX7_mixValley_124 : decode cX7_mixValley 124 = .ok (.if_icmp .ge 26, 3) := by decide +kernel
theorem dX7_mixValley_127 : decode cX7_mixValley 127 = .ok (.aload_n 0, 1) := by decide +kernel
theorem dX7_mixValley_128 : decode cX7_mixValley 128 = .ok (.aload_n 0, 1) := by decide +kernel
theorem dX7_mixValley_129 : decode cX7_mixValley 129 = .ok (.getfield 44, 3) := by decide +kernel
theorem dX7_mixValley_132 : decode cX7_mixValley 132 = .ok (.bipush 20, 2) := by decide +kernel
theorem dX7_mixValley_134 : decode cX7_mixValley 134 = .ok (.iload_n 1, 1) := by decide +kernel
theorem dX7_mixValley_135 : decode cX7_mixValley 135 = .ok (.imul, 1) := by decide +kernel
theorem dX7_mixValley_136 : decode cX7_mixValley 136 = .ok (.bipush 15, 2) := by decide +kernel
theorem dX7_mixValley_138 : decode cX7_mixValley 138 = .ok (.iadd, 1) := by decide +kernel
theorem dX7_mixValley_139 : decode cX7_mixValley 139 = .ok (.iaload, 1) := by decide +kernel
theorem dX7_mixValley_140 : decode cX7_mixValley 140 = .ok (.i2l, 1) := by decide +kernel
theorem dX7_mixValley_141 : decode cX7_mixValley 141 = .ok (.invokevirtual 324, 3) := by decide +kernel
theorem dX7_mixValley_144 : decode cX7_mixValley 144 = .ok (.iinc 1 1, 3) := by decide +kernel
theorem dX7_mixValley_147 : decode cX7_mixValley 147 = .ok (.goto (-31), 3) := by decide +kernel
theorem dX7_mixValley_150 : decode cX7_mixValley 150 = .ok (.iconst 0, 1) := by decide +kernel
theorem dX7_mixValley_151 : decode cX7_mixValley 151 = .ok (.istore_n 1, 1) := by decide +kernel
theorem dX7_mixValley_152 : decode cX7_mixValley 152 = .ok (.iload_n 1, 1) := by decide +kernel
theorem dX7_mixValley_153 : decode cX7_mixValley 153 = .ok (.iconst 3, 1) := by decide +kernel
theorem dX7_mixValley_154 : decode cX7_mixValley 154 = .ok (.if_icmp .ge 41, 3) := by decide +kernel
theorem dX7_mixValley_157 : decode cX7_mixValley 157 = .ok (.aload_n 0, 1) := by decide +kernel
theorem dX7_mixValley_158 : decode cX7_mixValley 158 = .ok (.aload_n 0, 1) := by decide +kernel
theorem dX7_mixValley_159 : decode cX7_mixValley 159 = .ok (.getfield 47, 3) := by decide +kernel
theorem dX7_mixValley_162 : decode cX7_mixValley 162 = .ok (.iload_n 1, 1) := by decide +kernel
theorem dX7_mixValley_163 : decode cX7_mixValley 163 = .ok (.baload, 1) := by decide +kernel
theorem dX7_mixValley_164 : decode cX7_mixValley 164 = .ok (.ifCond .eq 19, 3) := by decide +kernel
theorem dX7_mixValley_167 : decode cX7_mixValley 167 = .ok (.aload_n 0, 1) := by decide +kernel
theorem dX7_mixValley_168 : decode cX7_mixValley 168 = .ok (.getfield 51, 3) := by decide +kernel
theorem dX7_mixValley_171 : decode cX7_mixValley 171 = .ok (.bipush 15, 2) := by decide +kernel
theorem dX7_mixValley_173 : decode cX7_mixValley 173 = .ok (.iload_n 1, 1) := by decide +kernel
theorem dX7_mixValley_174 : decode cX7_mixValley 174 = .ok (.imul, 1) := by decide +kernel
theorem dX7_mixValley_175 : decode cX7_mixValley 175 = .ok (.bipush 14, 2) := by decide +kernel
theorem dX7_mixValley_177 : decode cX7_mixValley 177 = .ok (.iadd, 1) := by decide +kernel
theorem dX7_mixValley_178 : decode cX7_mixValley 178 = .ok (.iaload, 1) := by decide +kernel
theorem dX7_mixValley_179 : decode cX7_mixValley 179 = .ok (.i2l, 1) := by decide +kernel
theorem dX7_mixValley_180 : decode cX7_mixValley 180 = .ok (.goto 6, 3) := by decide +kernel
theorem dX7_mixValley_183 : decode cX7_mixValley 183 = .ok (.ldc2_w 328, 3) := by decide +kernel
theorem dX7_mixValley_186 : decode cX7_mixValley 186 = .ok (.invokevirtual 324, 3) := by decide +kernel
theorem dX7_mixValley_189 : decode cX7_mixValley 189 = .ok (.iinc 1 1, 3) := by decide +kernel
theorem dX7_mixValley_192 : decode cX7_mixValley 192 = .ok (.goto (-40), 3) := by decide +kernel
theorem dX7_mixValley_195 : decode cX7_mixValley 195 = .ok (.return_, 1) := by decide +kernel
theorem dX7_digest_0 : decode cX7_digest 0 = .ok (.aload_n 0, 1) := by decide +kernel
theorem dX7_digest_1 : decode cX7_digest 1 = .ok (.ldc2_w 330, 3) := by decide +kernel
theorem dX7_digest_4 : decode cX7_digest 4 = .ok (.putfield 321, 3) := by decide +kernel
theorem dX7_digest_7 : decode cX7_digest 7 = .ok (.iconst 0, 1) := by decide +kernel
theorem dX7_digest_8 : decode cX7_digest 8 = .ok (.istore_n 1, 1) := by decide +kernel
theorem dX7_digest_9 : decode cX7_digest 9 = .ok (.iload_n 1, 1) := by decide +kernel
theorem dX7_digest_10 : decode cX7_digest 10 = .ok (.bipush 8, 2) := by decide +kernel
theorem dX7_digest_12 : decode cX7_digest 12 = .ok (.if_icmp .ge 19, 3) := by decide +kernel
theorem dX7_digest_15 : decode cX7_digest 15 = .ok (.aload_n 0, 1) := by decide +kernel
theorem dX7_digest_16 : decode cX7_digest 16 = .ok (.aload_n 0, 1) := by decide +kernel
theorem dX7_digest_17 : decode cX7_digest 17 = .ok (.iload_n 1, 1) := by decide +kernel
theorem dX7_digest_18 : decode cX7_digest 18 = .ok (.invokevirtual 316, 3) := by decide +kernel
theorem dX7_digest_21 : decode cX7_digest 21 = .ok (.i2l, 1) := by decide +kernel
theorem dX7_digest_22 : decode cX7_digest 22 = .ok (.invokevirtual 324, 3) := by decide +kernel
theorem dX7_digest_25 : decode cX7_digest 25 = .ok (.iinc 1 1, 3) := by decide +kernel
theorem dX7_digest_28 : decode cX7_digest 28 = .ok (.goto (-19), 3) := by decide +kernel
theorem dX7_digest_31 : decode cX7_digest 31 = .ok (.aload_n 0, 1) := by decide +kernel
theorem dX7_digest_32 : decode cX7_digest 32 = .ok (.invokevirtual 332, 3) := by decide +kernel
theorem dX7_digest_35 : decode cX7_digest 35 = .ok (.iconst 0, 1) := by decide +kernel
theorem dX7_digest_36 : decode cX7_digest 36 = .ok (.istore_n 1, 1) := by decide +kernel
theorem dX7_digest_37 : decode cX7_digest 37 = .ok (.iload_n 1, 1) := by decide +kernel
theorem dX7_digest_38 : decode cX7_digest 38 = .ok (.bipush 6, 2) := by decide +kernel
theorem dX7_digest_40 : decode cX7_digest 40 = .ok (.if_icmp .ge 49, 3) := by decide +kernel
theorem dX7_digest_43 : decode cX7_digest 43 = .ok (.aload_n 0, 1) := by decide +kernel
theorem dX7_digest_44 : decode cX7_digest 44 = .ok (.aload_n 0, 1) := by decide +kernel
theorem dX7_digest_45 : decode cX7_digest 45 = .ok (.getfield 13, 3) := by decide +kernel
theorem dX7_digest_48 : decode cX7_digest 48 = .ok (.iload_n 1, 1) := by decide +kernel
theorem dX7_digest_49 : decode cX7_digest 49 = .ok (.iaload, 1) := by decide +kernel
theorem dX7_digest_50 : decode cX7_digest 50 = .ok (.i2l, 1) := by decide +kernel
theorem dX7_digest_51 : decode cX7_digest 51 = .ok (.invokevirtual 324, 3) := by decide +kernel
theorem dX7_digest_54 : decode cX7_digest 54 = .ok (.iconst 0, 1) := by decide +kernel
theorem dX7_digest_55 : decode cX7_digest 55 = .ok (.istore_n 2, 1) := by decide +kernel
theorem dX7_digest_56 : decode cX7_digest 56 = .ok (.iload_n 2, 1) := by decide +kernel
theorem dX7_digest_57 : decode cX7_digest 57 = .ok (.aload_n 0, 1) := by decide +kernel
theorem dX7_digest_58 : decode cX7_digest 58 = .ok (.getfield 13, 3) := by decide +kernel
theorem dX7_digest_61 : decode cX7_digest 61 = .ok (.iload_n 1, 1) := by decide +kernel
theorem dX7_digest_62 : decode cX7_digest 62 = .ok (.iaload, 1) := by decide +kernel
theorem dX7_digest_63 : decode cX7_digest 63 = .ok (.if_icmp .ge 20, 3) := by decide +kernel
theorem dX7_digest_66 : decode cX7_digest 66 = .ok (.aload_n 0, 1) := by decide +kernel
theorem dX7_digest_67 : decode cX7_digest 67 = .ok (.aload_n 0, 1) := by decide +kernel
theorem dX7_digest_68 : decode cX7_digest 68 = .ok (.iload_n 1, 1) := by decide +kernel
theorem dX7_digest_69 : decode cX7_digest 69 = .ok (.iload_n 2, 1) := by decide +kernel
theorem dX7_digest_70 : decode cX7_digest 70 = .ok (.invokevirtual 98, 3) := by decide +kernel
theorem dX7_digest_73 : decode cX7_digest 73 = .ok (.i2l, 1) := by decide +kernel
theorem dX7_digest_74 : decode cX7_digest 74 = .ok (.invokevirtual 324, 3) := by decide +kernel
theorem dX7_digest_77 : decode cX7_digest 77 = .ok (.iinc 2 1, 3) := by decide +kernel
theorem dX7_digest_80 : decode cX7_digest 80 = .ok (.goto (-24), 3) := by decide +kernel
theorem dX7_digest_83 : decode cX7_digest 83 = .ok (.iinc 1 1, 3) := by decide +kernel
theorem dX7_digest_86 : decode cX7_digest 86 = .ok (.goto (-49), 3) := by decide +kernel
theorem dX7_digest_89 : decode cX7_digest 89 = .ok (.iconst 0, 1) := by decide +kernel
theorem dX7_digest_90 : decode cX7_digest 90 = .ok (.istore_n 1, 1) := by decide +kernel
theorem dX7_digest_91 : decode cX7_digest 91 = .ok (.iload_n 1, 1) := by decide +kernel
theorem dX7_digest_92 : decode cX7_digest 92 = .ok (.iconst 4, 1) := by decide +kernel
theorem dX7_digest_93 : decode cX7_digest 93 = .ok (.if_icmp .ge 49, 3) := by decide +kernel
theorem dX7_digest_96 : decode cX7_digest 96 = .ok (.aload_n 0, 1) := by decide +kernel
theorem dX7_digest_97 : decode cX7_digest 97 = .ok (.aload_n 0, 1) := by decide +kernel
theorem dX7_digest_98 : decode cX7_digest 98 = .ok (.getfield 22, 3) := by decide +kernel
theorem dX7_digest_101 : decode cX7_digest 101 = .ok (.iload_n 1, 1) := by decide +kernel
theorem dX7_digest_102 : decode cX7_digest 102 = .ok (.iaload, 1) := by decide +kernel
theorem dX7_digest_103 : decode cX7_digest 103 = .ok (.i2l, 1) := by decide +kernel
theorem dX7_digest_104 : decode cX7_digest 104 = .ok (.invokevirtual 324, 3) := by decide +kernel
theorem dX7_digest_107 : decode cX7_digest 107 = .ok (.iconst 0, 1) := by decide +kernel
theorem dX7_digest_108 : decode cX7_digest 108 = .ok (.istore_n 2, 1) := by decide +kernel
theorem dX7_digest_109 : decode cX7_digest 109 = .ok (.iload_n 2, 1) := by decide +kernel
theorem dX7_digest_110 : decode cX7_digest 110 = .ok (.aload_n 0, 1) := by decide +kernel
theorem dX7_digest_111 : decode cX7_digest 111 = .ok (.getfield 22, 3) := by decide +kernel
theorem dX7_digest_114 : decode cX7_digest 114 = .ok (.iload_n 1, 1) := by decide +kernel
theorem dX7_digest_115 : decode cX7_digest 115 = .ok (.iaload, 1) := by decide +kernel
theorem dX7_digest_116 : decode cX7_digest 116 = .ok (.if_icmp .ge 20, 3) := by decide +kernel
theorem dX7_digest_119 : decode cX7_digest 119 = .ok (.aload_n 0, 1) := by decide +kernel
theorem dX7_digest_120 : decode cX7_digest 120 = .ok (.aload_n 0, 1) := by decide +kernel
theorem dX7_digest_121 : decode cX7_digest 121 = .ok (.iload_n 1, 1) := by decide +kernel
theorem dX7_digest_122 : decode cX7_digest 122 = .ok (.iload_n 2, 1) := by decide +kernel
theorem dX7_digest_123 : decode cX7_digest 123 = .ok (.invokevirtual 111, 3) := by decide +kernel
theorem dX7_digest_126 : decode cX7_digest 126 = .ok (.i2l, 1) := by decide +kernel
theorem dX7_digest_127 : decode cX7_digest 127 = .ok (.invokevirtual 324, 3) := by decide +kernel
theorem dX7_digest_130 : decode cX7_digest 130 = .ok (.iinc 2 1, 3) := by decide +kernel
theorem dX7_digest_133 : decode cX7_digest 133 = .ok (.goto (-24), 3) := by decide +kernel
theorem dX7_digest_136 : decode cX7_digest 136 = .ok (.iinc 1 1, 3) := by decide +kernel
theorem dX7_digest_139 : decode cX7_digest 139 = .ok (.goto (-48), 3) := by decide +kernel
theorem dX7_digest_142 : decode cX7_digest 142 = .ok (.aload_n 0, 1) := by decide +kernel
theorem dX7_digest_143 : decode cX7_digest 143 = .ok (.getfield 321, 3) := by decide +kernel
theorem dX7_digest_146 : decode cX7_digest 146 = .ok (.lreturn, 1) := by decide +kernel
