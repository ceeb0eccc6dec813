theorem d_Mod_past_0 : decode prog_13_method_27_code 0 = .ok (.iload_n 1, 1) := by decide +kernel
theorem d_Mod_past_1 : decode prog_13_method_27_code 1 = .ok (.iconst 2, 1) := by decide +kernel
theorem d_Mod_past_2 : decode prog_13_method_27_code 2 = .ok (.iload_n 3, 1) := by decide +kernel
theorem d_Mod_past_3 : decode prog_13_method_27_code 3 = .ok (.imul, 1) := by decide +kernel
theorem d_Mod_past_4 : decode prog_13_method_27_code 4 = .ok (.iadd, 1) := by decide +kernel
theorem d_Mod_past_5 : decode prog_13_method_27_code 5 = .ok (.istore 7, 2) := by decide +kernel
theorem d_Mod_past_7 : decode prog_13_method_27_code 7 = .ok (.iload 7, 2) := by decide +kernel
theorem d_Mod_past_9 : decode prog_13_method_27_code 9 = .ok (.iload 6, 2) := by decide +kernel
theorem d_Mod_past_11 : decode prog_13_method_27_code 11 = .ok (.if_icmp .gt (5), 3) := by decide +kernel
theorem d_Mod_past_14 : decode prog_13_method_27_code 14 = .ok (.iconst 0, 1) := by decide +kernel
theorem d_Mod_past_15 : decode prog_13_method_27_code 15 = .ok (.ireturn, 1) := by decide +kernel
theorem d_Mod_past_16 : decode prog_13_method_27_code 16 = .ok (.iload_n 2, 1) := by decide +kernel
theorem d_Mod_past_17 : decode prog_13_method_27_code 17 = .ok (.aload_n 0, 1) := by decide +kernel
theorem d_Mod_past_18 : decode prog_13_method_27_code 18 = .ok (.iload 5, 2) := by decide +kernel
theorem d_Mod_past_20 : decode prog_13_method_27_code 20 = .ok (.invokevirtual 201, 3) := by decide +kernel
theorem d_Mod_past_23 : decode prog_13_method_27_code 23 = .ok (.isub, 1) := by decide +kernel
theorem d_Mod_past_24 : decode prog_13_method_27_code 24 = .ok (.istore 8, 2) := by decide +kernel
theorem d_Mod_past_26 : decode prog_13_method_27_code 26 = .ok (.iload 4, 2) := by decide +kernel
theorem d_Mod_past_28 : decode prog_13_method_27_code 28 = .ok (.iload_n 1, 1) := by decide +kernel
theorem d_Mod_past_29 : decode prog_13_method_27_code 29 = .ok (.imul, 1) := by decide +kernel
theorem d_Mod_past_30 : decode prog_13_method_27_code 30 = .ok (.iload 7, 2) := by decide +kernel
theorem d_Mod_past_32 : decode prog_13_method_27_code 32 = .ok (.iload 6, 2) := by decide +kernel
theorem d_Mod_past_34 : decode prog_13_method_27_code 34 = .ok (.iload 8, 2) := by decide +kernel
theorem d_Mod_past_36 : decode prog_13_method_27_code 36 = .ok (.iconst 1, 1) := by decide +kernel
theorem d_Mod_past_37 : decode prog_13_method_27_code 37 = .ok (.if_icmp .ge (7), 3) := by decide +kernel
theorem d_Mod_past_40 : decode prog_13_method_27_code 40 = .ok (.iconst 1, 1) := by decide +kernel
theorem d_Mod_past_41 : decode prog_13_method_27_code 41 = .ok (.goto (5), 3) := by decide +kernel
theorem d_Mod_past_44 : decode prog_13_method_27_code 44 = .ok (.iload 8, 2) := by decide +kernel
theorem d_Mod_past_46 : decode prog_13_method_27_code 46 = .ok (.invokestatic 198, 3) := by decide +kernel
theorem d_Mod_past_49 : decode prog_13_method_27_code 49 = .ok (.iadd, 1) := by decide +kernel
theorem d_Mod_past_50 : decode prog_13_method_27_code 50 = .ok (.istore 9, 2) := by decide +kernel
theorem d_Mod_past_52 : decode prog_13_method_27_code 52 = .ok (.iconst 1, 1) := by decide +kernel
theorem d_Mod_past_53 : decode prog_13_method_27_code 53 = .ok (.istore 10, 2) := by decide +kernel
theorem d_Mod_past_55 : decode prog_13_method_27_code 55 = .ok (.iload 10, 2) := by decide +kernel
theorem d_Mod_past_57 : decode prog_13_method_27_code 57 = .ok (.iload_n 3, 1) := by decide +kernel
theorem d_Mod_past_58 : decode prog_13_method_27_code 58 = .ok (.if_icmp .gt (20), 3) := by decide +kernel
theorem d_Mod_past_61 : decode prog_13_method_27_code 61 = .ok (.iload 9, 2) := by decide +kernel
theorem d_Mod_past_63 : decode prog_13_method_27_code 63 = .ok (.iload_n 1, 1) := by decide +kernel
theorem d_Mod_past_64 : decode prog_13_method_27_code 64 = .ok (.iconst 2, 1) := by decide +kernel
theorem d_Mod_past_65 : decode prog_13_method_27_code 65 = .ok (.iload 10, 2) := by decide +kernel
theorem d_Mod_past_67 : decode prog_13_method_27_code 67 = .ok (.imul, 1) := by decide +kernel
theorem d_Mod_past_68 : decode prog_13_method_27_code 68 = .ok (.iadd, 1) := by decide +kernel
theorem d_Mod_past_69 : decode prog_13_method_27_code 69 = .ok (.iadd, 1) := by decide +kernel
theorem d_Mod_past_70 : decode prog_13_method_27_code 70 = .ok (.istore 9, 2) := by decide +kernel
theorem d_Mod_past_72 : decode prog_13_method_27_code 72 = .ok (.iinc 10 (1), 3) := by decide +kernel
theorem d_Mod_past_75 : decode prog_13_method_27_code 75 = .ok (.goto (-20), 3) := by decide +kernel
theorem d_Mod_past_78 : decode prog_13_method_27_code 78 = .ok (.aload_n 0, 1) := by decide +kernel
theorem d_Mod_past_79 : decode prog_13_method_27_code 79 = .ok (.getfield 195, 3) := by decide +kernel
theorem d_Mod_past_82 : decode prog_13_method_27_code 82 = .ok (.iload 9, 2) := by decide +kernel
theorem d_Mod_past_84 : decode prog_13_method_27_code 84 = .ok (.iadd, 1) := by decide +kernel
theorem d_Mod_past_85 : decode prog_13_method_27_code 85 = .ok (.iload 5, 2) := by decide +kernel
theorem d_Mod_past_87 : decode prog_13_method_27_code 87 = .ok (.if_icmp .le (7), 3) := by decide +kernel
theorem d_Mod_past_90 : decode prog_13_method_27_code 90 = .ok (.iconst 1, 1) := by decide +kernel
theorem d_Mod_past_91 : decode prog_13_method_27_code 91 = .ok (.goto (4), 3) := by decide +kernel
theorem d_Mod_past_94 : decode prog_13_method_27_code 94 = .ok (.iconst 0, 1) := by decide +kernel
theorem d_Mod_past_95 : decode prog_13_method_27_code 95 = .ok (.ireturn, 1) := by decide +kernel
theorem d_Mod_over_0 : decode prog_13_method_28_code 0 = .ok (.aload_n 0, 1) := by decide +kernel
theorem d_Mod_over_1 : decode prog_13_method_28_code 1 = .ok (.invokevirtual 154, 3) := by decide +kernel
theorem d_Mod_over_4 : decode prog_13_method_28_code 4 = .ok (.ifCond .ne (5), 3) := by decide +kernel
theorem d_Mod_over_7 : decode prog_13_method_28_code 7 = .ok (.iconst 0, 1) := by decide +kernel
theorem d_Mod_over_8 : decode prog_13_method_28_code 8 = .ok (.ireturn, 1) := by decide +kernel
theorem d_Mod_over_9 : decode prog_13_method_28_code 9 = .ok (.aload_n 0, 1) := by decide +kernel
theorem d_Mod_over_10 : decode prog_13_method_28_code 10 = .ok (.iload_n 1, 1) := by decide +kernel
theorem d_Mod_over_11 : decode prog_13_method_28_code 11 = .ok (.iload_n 2, 1) := by decide +kernel
theorem d_Mod_over_12 : decode prog_13_method_28_code 12 = .ok (.iload_n 3, 1) := by decide +kernel
theorem d_Mod_over_13 : decode prog_13_method_28_code 13 = .ok (.iload 4, 2) := by decide +kernel
theorem d_Mod_over_15 : decode prog_13_method_28_code 15 = .ok (.iload 5, 2) := by decide +kernel
theorem d_Mod_over_17 : decode prog_13_method_28_code 17 = .ok (.iconst 0, 1) := by decide +kernel
theorem d_Mod_over_18 : decode prog_13_method_28_code 18 = .ok (.invokevirtual 204, 3) := by decide +kernel
theorem d_Mod_over_21 : decode prog_13_method_28_code 21 = .ok (.istore 6, 2) := by decide +kernel
theorem d_Mod_over_23 : decode prog_13_method_28_code 23 = .ok (.iconst 0, 1) := by decide +kernel
theorem d_Mod_over_24 : decode prog_13_method_28_code 24 = .ok (.istore 7, 2) := by decide +kernel
theorem d_Mod_over_26 : decode prog_13_method_28_code 26 = .ok (.iload 7, 2) := by decide +kernel
theorem d_Mod_over_28 : decode prog_13_method_28_code 28 = .ok (.aload_n 0, 1) := by decide +kernel
theorem d_Mod_over_29 : decode prog_13_method_28_code 29 = .ok (.getfield 92, 3) := by decide +kernel
theorem d_Mod_over_32 : decode prog_13_method_28_code 32 = .ok (.if_icmp .ge (61), 3) := by decide +kernel
theorem d_Mod_over_35 : decode prog_13_method_28_code 35 = .ok (.iload 6, 2) := by decide +kernel
theorem d_Mod_over_37 : decode prog_13_method_28_code 37 = .ok (.ifCond .ne (43), 3) := by decide +kernel
theorem d_Mod_over_40 : decode prog_13_method_28_code 40 = .ok (.aload_n 0, 1) := by decide +kernel
theorem d_Mod_over_41 : decode prog_13_method_28_code 41 = .ok (.getfield 7, 3) := by decide +kernel
theorem d_Mod_over_44 : decode prog_13_method_28_code 44 = .ok (.iload 7, 2) := by decide +kernel
theorem d_Mod_over_46 : decode prog_13_method_28_code 46 = .ok (.iaload, 1) := by decide +kernel
theorem d_Mod_over_47 : decode prog_13_method_28_code 47 = .ok (.aload_n 0, 1) := by decide +kernel
theorem d_Mod_over_48 : decode prog_13_method_28_code 48 = .ok (.getfield 195, 3) := by decide +kernel
theorem d_Mod_over_51 : decode prog_13_method_28_code 51 = .ok (.if_icmp .le (33), 3) := by decide +kernel
theorem d_Mod_over_54 : decode prog_13_method_28_code 54 = .ok (.aload_n 0, 1) := by decide +kernel
theorem d_Mod_over_55 : decode prog_13_method_28_code 55 = .ok (.iload_n 1, 1) := by decide +kernel
theorem d_Mod_over_56 : decode prog_13_method_28_code 56 = .ok (.iload_n 2, 1) := by decide +kernel
theorem d_Mod_over_57 : decode prog_13_method_28_code 57 = .ok (.iload_n 3, 1) := by decide +kernel
theorem d_Mod_over_58 : decode prog_13_method_28_code 58 = .ok (.iload 4, 2) := by decide +kernel
theorem d_Mod_over_60 : decode prog_13_method_28_code 60 = .ok (.aload_n 0, 1) := by decide +kernel
theorem d_Mod_over_61 : decode prog_13_method_28_code 61 = .ok (.getfield 7, 3) := by decide +kernel
theorem d_Mod_over_64 : decode prog_13_method_28_code 64 = .ok (.iload 7, 2) := by decide +kernel
theorem d_Mod_over_66 : decode prog_13_method_28_code 66 = .ok (.iaload, 1) := by decide +kernel
theorem d_Mod_over_67 : decode prog_13_method_28_code 67 = .ok (.aload_n 0, 1) := by decide +kernel
theorem d_Mod_over_68 : decode prog_13_method_28_code 68 = .ok (.getfield 13, 3) := by decide +kernel
theorem d_Mod_over_71 : decode prog_13_method_28_code 71 = .ok (.iload 7, 2) := by decide +kernel
theorem d_Mod_over_73 : decode prog_13_method_28_code 73 = .ok (.iaload, 1) := by decide +kernel
theorem d_Mod_over_74 : decode prog_13_method_28_code 74 = .ok (.invokevirtual 204, 3) := by decide +kernel
theorem d_Mod_over_77 : decode prog_13_method_28_code 77 = .ok (.ifCond .eq (7), 3) := by decide +kernel
theorem d_Mod_over_80 : decode prog_13_method_28_code 80 = .ok (.iconst 1, 1) := by decide +kernel
theorem d_Mod_over_81 : decode prog_13_method_28_code 81 = .ok (.goto (4), 3) := by decide +kernel
theorem d_Mod_over_84 : decode prog_13_method_28_code 84 = .ok (.iconst 0, 1) := by decide +kernel
theorem d_Mod_over_85 : decode prog_13_method_28_code 85 = .ok (.istore 6, 2) := by decide +kernel
theorem d_Mod_over_87 : decode prog_13_method_28_code 87 = .ok (.iinc 7 (1), 3) := by decide +kernel
theorem d_Mod_over_90 : decode prog_13_method_28_code 90 = .ok (.goto (-64), 3) := by decide +kernel
theorem d_Mod_over_93 : decode prog_13_method_28_code 93 = .ok (.iconst 0, 1) := by decide +kernel
theorem d_Mod_over_94 : decode prog_13_method_28_code 94 = .ok (.istore 7, 2) := by decide +kernel
theorem d_Mod_over_96 : decode prog_13_method_28_code 96 = .ok (.iload 7, 2) := by decide +kernel
theorem d_Mod_over_98 : decode prog_13_method_28_code 98 = .ok (.aload_n 0, 1) := by decide +kernel
theorem d_Mod_over_99 : decode prog_13_method_28_code 99 = .ok (.getfield 171, 3) := by decide +kernel
theorem d_Mod_over_102 : decode prog_13_method_28_code 102 = .ok (.if_icmp .ge (61), 3) := by decide +kernel
theorem d_Mod_over_105 : decode prog_13_method_28_code 105 = .ok (.iload 6, 2) := by decide +kernel
theorem d_Mod_over_107 : decode prog_13_method_28_code 107 = .ok (.ifCond .ne (43), 3) := by decide +kernel
theorem d_Mod_over_110 : decode prog_13_method_28_code 110 = .ok (.aload_n 0, 1) := by decide +kernel
theorem d_Mod_over_111 : decode prog_13_method_28_code 111 = .ok (.getfield 38, 3) := by decide +kernel
theorem d_Mod_over_114 : decode prog_13_method_28_code 114 = .ok (.iload 7, 2) := by decide +kernel
theorem d_Mod_over_116 : decode prog_13_method_28_code 116 = .ok (.iaload, 1) := by decide +kernel
theorem d_Mod_over_117 : decode prog_13_method_28_code 117 = .ok (.aload_n 0, 1) := by decide +kernel
theorem d_Mod_over_118 : decode prog_13_method_28_code 118 = .ok (.getfield 195, 3) := by decide +kernel
theorem d_Mod_over_121 : decode prog_13_method_28_code 121 = .ok (.if_icmp .le (33), 3) := by decide +kernel
theorem d_Mod_over_124 : decode prog_13_method_28_code 124 = .ok (.aload_n 0, 1) := by decide +kernel
theorem d_Mod_over_125 : decode prog_13_method_28_code 125 = .ok (.iload_n 1, 1) := by decide +kernel
theorem d_Mod_over_126 : decode prog_13_method_28_code 126 = .ok (.iload_n 2, 1) := by decide +kernel
theorem d_Mod_over_127 : decode prog_13_method_28_code 127 = .ok (.iload_n 3, 1) := by decide +kernel
theorem d_Mod_over_128 : decode prog_13_method_28_code 128 = .ok (.iload 4, 2) := by decide +kernel
theorem d_Mod_over_130 : decode prog_13_method_28_code 130 = .ok (.aload_n 0, 1) := by decide +kernel
theorem d_Mod_over_131 : decode prog_13_method_28_code 131 = .ok (.getfield 38, 3) := by decide +kernel
theorem d_Mod_over_134 : decode prog_13_method_28_code 134 = .ok (.iload 7, 2) := by decide +kernel
theorem d_Mod_over_136 : decode prog_13_method_28_code 136 = .ok (.iaload, 1) := by decide +kernel
theorem d_Mod_over_137 : decode prog_13_method_28_code 137 = .ok (.aload_n 0, 1) := by decide +kernel
theorem d_Mod_over_138 : decode prog_13_method_28_code 138 = .ok (.getfield 44, 3) := by decide +kernel
theorem d_Mod_over_141 : decode prog_13_method_28_code 141 = .ok (.iload 7, 2) := by decide +kernel
theorem d_Mod_over_143 : decode prog_13_method_28_code 143 = .ok (.iaload, 1) := by decide +kernel
theorem d_Mod_over_144 : decode prog_13_method_28_code 144 = .ok (.invokevirtual 204, 3) := by decide +kernel
theorem d_Mod_over_147 : decode prog_13_method_28_code 147 = .ok (.ifCond .eq (7), 3) := by decide +kernel
theorem d_Mod_over_150 : decode prog_13_method_28_code 150 = .ok (.iconst 1, 1) := by decide +kernel
theorem d_Mod_over_151 : decode prog_13_method_28_code 151 = .ok (.goto (4), 3) := by decide +kernel
theorem d_Mod_over_154 : decode prog_13_method_28_code 154 = .ok (.iconst 0, 1) := by decide +kernel
theorem d_Mod_over_155 : decode prog_13_method_28_code 155 = .ok (.istore 6, 2) := by decide +kernel
theorem d_Mod_over_157 : decode prog_13_method_28_code 157 = .ok (.iinc 7 (1), 3) := by decide +kernel
theorem d_Mod_over_160 : decode prog_13_method_28_code 160 = .ok (.goto (-64), 3) := by decide +kernel
theorem d_Mod_over_163 : decode prog_13_method_28_code 163 = .ok (.iload 6, 2) := by decide +kernel
theorem d_Mod_over_165 : decode prog_13_method_28_code 165 = .ok (.ireturn, 1) := by decide +kernel
theorem d_Mod_grade_0 : decode prog_13_method_29_code 0 = .ok (.aload_n 0, 1) := by decide +kernel
theorem d_Mod_grade_1 : decode prog_13_method_29_code 1 = .ok (.getfield 81, 3) := by decide +kernel
theorem d_Mod_grade_4 : decode prog_13_method_29_code 4 = .ok (.iconst 4, 1) := by decide +kernel
theorem d_Mod_grade_5 : decode prog_13_method_29_code 5 = .ok (.if_icmp .eq (12), 3) := by decide +kernel
theorem d_Mod_grade_8 : decode prog_13_method_29_code 8 = .ok (.aload_n 0, 1) := by decide +kernel
theorem d_Mod_grade_9 : decode prog_13_method_29_code 9 = .ok (.getfield 81, 3) := by decide +kernel
theorem d_Mod_grade_12 : decode prog_13_method_29_code 12 = .ok (.bipush (6), 2) := by decide +kernel
theorem d_Mod_grade_14 : decode prog_13_method_29_code 14 = .ok (.if_icmp .ne (5), 3) := by decide +kernel
theorem d_Mod_grade_17 : decode prog_13_method_29_code 17 = .ok (.iconst 4, 1) := by decide +kernel
theorem d_Mod_grade_18 : decode prog_13_method_29_code 18 = .ok (.ireturn, 1) := by decide +kernel
theorem d_Mod_grade_19 : decode prog_13_method_29_code 19 = .ok (.aload_n 0, 1) := by decide +kernel
theorem d_Mod_grade_20 : decode prog_13_method_29_code 20 = .ok (.invokevirtual 208, 3) := by decide +kernel
theorem d_Mod_grade_23 : decode prog_13_method_29_code 23 = .ok (.istore_n 3, 1) := by decide +kernel
theorem d_Mod_grade_24 : decode prog_13_method_29_code 24 = .ok (.iload_n 1, 1) := by decide +kernel
theorem d_Mod_grade_25 : decode prog_13_method_29_code 25 = .ok (.iload_n 3, 1) := by decide +kernel
theorem d_Mod_grade_26 : decode prog_13_method_29_code 26 = .ok (.bipush (8), 2) := by decide +kernel
theorem d_Mod_grade_28 : decode prog_13_method_29_code 28 = .ok (.iadd, 1) := by decide +kernel
theorem d_Mod_grade_29 : decode prog_13_method_29_code 29 = .ok (.if_icmp .gt (23), 3) := by decide +kernel
theorem d_Mod_grade_32 : decode prog_13_method_29_code 32 = .ok (.aload_n 0, 1) := by decide +kernel
theorem d_Mod_grade_33 : decode prog_13_method_29_code 33 = .ok (.iload_n 1, 1) := by decide +kernel
theorem d_Mod_grade_34 : decode prog_13_method_29_code 34 = .ok (.aload_n 0, 1) := by decide +kernel
theorem d_Mod_grade_35 : decode prog_13_method_29_code 35 = .ok (.getfield 66, 3) := by decide +kernel
theorem d_Mod_grade_38 : decode prog_13_method_29_code 38 = .ok (.iconst 2, 1) := by decide +kernel
theorem d_Mod_grade_39 : decode prog_13_method_29_code 39 = .ok (.iconst 0, 1) := by decide +kernel
theorem d_Mod_grade_40 : decode prog_13_method_29_code 40 = .ok (.iload_n 2, 1) := by decide +kernel
theorem d_Mod_grade_41 : decode prog_13_method_29_code 41 = .ok (.aload_n 0, 1) := by decide +kernel
theorem d_Mod_grade_42 : decode prog_13_method_29_code 42 = .ok (.getfield 183, 3) := by decide +kernel
theorem d_Mod_grade_45 : decode prog_13_method_29_code 45 = .ok (.iadd, 1) := by decide +kernel
theorem d_Mod_grade_46 : decode prog_13_method_29_code 46 = .ok (.invokevirtual 212, 3) := by decide +kernel
theorem d_Mod_grade_49 : decode prog_13_method_29_code 49 = .ok (.ifCond .eq (5), 3) := by decide +kernel
theorem d_Mod_grade_52 : decode prog_13_method_29_code 52 = .ok (.iconst 4, 1) := by decide +kernel
theorem d_Mod_grade_53 : decode prog_13_method_29_code 53 = .ok (.ireturn, 1) := by decide +kernel
theorem d_Mod_grade_54 : decode prog_13_method_29_code 54 = .ok (.iload_n 1, 1) := by decide +kernel
theorem d_Mod_grade_55 : decode prog_13_method_29_code 55 = .ok (.iload_n 3, 1) := by decide +kernel
theorem d_Mod_grade_56 : decode prog_13_method_29_code 56 = .ok (.iconst 5, 1) := by decide +kernel
theorem d_Mod_grade_57 : decode prog_13_method_29_code 57 = .ok (.iadd, 1) := by decide +kernel
theorem d_Mod_grade_58 : decode prog_13_method_29_code 58 = .ok (.if_icmp .gt (18), 3) := by decide +kernel
theorem d_Mod_grade_61 : decode prog_13_method_29_code 61 = .ok (.aload_n 0, 1) := by decide +kernel
theorem d_Mod_grade_62 : decode prog_13_method_29_code 62 = .ok (.iload_n 1, 1) := by decide +kernel
theorem d_Mod_grade_63 : decode prog_13_method_29_code 63 = .ok (.aload_n 0, 1) := by decide +kernel
theorem d_Mod_grade_64 : decode prog_13_method_29_code 64 = .ok (.getfield 69, 3) := by decide +kernel
theorem d_Mod_grade_67 : decode prog_13_method_29_code 67 = .ok (.iconst 3, 1) := by decide +kernel
theorem d_Mod_grade_68 : decode prog_13_method_29_code 68 = .ok (.iconst 0, 1) := by decide +kernel
theorem d_Mod_grade_69 : decode prog_13_method_29_code 69 = .ok (.iload_n 2, 1) := by decide +kernel
theorem d_Mod_grade_70 : decode prog_13_method_29_code 70 = .ok (.invokevirtual 212, 3) := by decide +kernel
theorem d_Mod_grade_73 : decode prog_13_method_29_code 73 = .ok (.ifCond .eq (5), 3) := by decide +kernel
theorem d_Mod_grade_76 : decode prog_13_method_29_code 76 = .ok (.iconst 3, 1) := by decide +kernel
theorem d_Mod_grade_77 : decode prog_13_method_29_code 77 = .ok (.ireturn, 1) := by decide +kernel
theorem d_Mod_grade_78 : decode prog_13_method_29_code 78 = .ok (.iload_n 1, 1) := by decide +kernel
theorem d_Mod_grade_79 : decode prog_13_method_29_code 79 = .ok (.iload_n 3, 1) := by decide +kernel
theorem d_Mod_grade_80 : decode prog_13_method_29_code 80 = .ok (.iconst 3, 1) := by decide +kernel
theorem d_Mod_grade_81 : decode prog_13_method_29_code 81 = .ok (.iadd, 1) := by decide +kernel
theorem d_Mod_grade_82 : decode prog_13_method_29_code 82 = .ok (.if_icmp .gt (18), 3) := by decide +kernel
theorem d_Mod_grade_85 : decode prog_13_method_29_code 85 = .ok (.aload_n 0, 1) := by decide +kernel
theorem d_Mod_grade_86 : decode prog_13_method_29_code 86 = .ok (.iload_n 1, 1) := by decide +kernel
theorem d_Mod_grade_87 : decode prog_13_method_29_code 87 = .ok (.aload_n 0, 1) := by decide +kernel
theorem d_Mod_grade_88 : decode prog_13_method_29_code 88 = .ok (.getfield 69, 3) := by decide +kernel
theorem d_Mod_grade_91 : decode prog_13_method_29_code 91 = .ok (.iconst 3, 1) := by decide +kernel
theorem d_Mod_grade_92 : decode prog_13_method_29_code 92 = .ok (.iconst 2, 1) := by decide +kernel
theorem d_Mod_grade_93 : decode prog_13_method_29_code 93 = .ok (.iload_n 2, 1) := by decide +kernel
theorem d_Mod_grade_94 : decode prog_13_method_29_code 94 = .ok (.invokevirtual 212, 3) := by decide +kernel
theorem d_Mod_grade_97 : decode prog_13_method_29_code 97 = .ok (.ifCond .eq (5), 3) := by decide +kernel
theorem d_Mod_grade_100 : decode prog_13_method_29_code 100 = .ok (.iconst 2, 1) := by decide +kernel
theorem d_Mod_grade_101 : decode prog_13_method_29_code 101 = .ok (.ireturn, 1) := by decide +kernel
theorem d_Mod_grade_102 : decode prog_13_method_29_code 102 = .ok (.iload_n 1, 1) := by decide +kernel
theorem d_Mod_grade_103 : decode prog_13_method_29_code 103 = .ok (.iload_n 3, 1) := by decide +kernel
theorem d_Mod_grade_104 : decode prog_13_method_29_code 104 = .ok (.if_icmp .gt (18), 3) := by decide +kernel
theorem d_Mod_grade_107 : decode prog_13_method_29_code 107 = .ok (.aload_n 0, 1) := by decide +kernel
theorem d_Mod_grade_108 : decode prog_13_method_29_code 108 = .ok (.iload_n 1, 1) := by decide +kernel
theorem d_Mod_grade_109 : decode prog_13_method_29_code 109 = .ok (.aload_n 0, 1) := by decide +kernel
theorem d_Mod_grade_110 : decode prog_13_method_29_code 110 = .ok (.getfield 69, 3) := by decide +kernel
theorem d_Mod_grade_113 : decode prog_13_method_29_code 113 = .ok (.iconst 3, 1) := by decide +kernel
theorem d_Mod_grade_114 : decode prog_13_method_29_code 114 = .ok (.iconst 4, 1) := by decide +kernel
theorem d_Mod_grade_115 : decode prog_13_method_29_code 115 = .ok (.iload_n 2, 1) := by decide +kernel
theorem d_Mod_grade_116 : decode prog_13_method_29_code 116 = .ok (.invokevirtual 212, 3) := by decide +kernel
theorem d_Mod_grade_119 : decode prog_13_method_29_code 119 = .ok (.ifCond .eq (7), 3) := by decide +kernel
theorem d_Mod_grade_122 : decode prog_13_method_29_code 122 = .ok (.iconst 1, 1) := by decide +kernel
theorem d_Mod_grade_123 : decode prog_13_method_29_code 123 = .ok (.goto (4), 3) := by decide +kernel
theorem d_Mod_grade_126 : decode prog_13_method_29_code 126 = .ok (.iconst 0, 1) := by decide +kernel
theorem d_Mod_grade_127 : decode prog_13_method_29_code 127 = .ok (.ireturn, 1) := by decide +kernel
theorem d_Mod_allowed_0 : decode prog_13_method_30_code 0 = .ok (.sipush (600), 3) := by decide +kernel
theorem d_Mod_allowed_3 : decode prog_13_method_30_code 3 = .ok (.istore_n 1, 1) := by decide +kernel
theorem d_Mod_allowed_4 : decode prog_13_method_30_code 4 = .ok (.iload_n 1, 1) := by decide +kernel
theorem d_Mod_allowed_5 : decode prog_13_method_30_code 5 = .ok (.ifCond .le (25), 3) := by decide +kernel
theorem d_Mod_allowed_8 : decode prog_13_method_30_code 8 = .ok (.aload_n 0, 1) := by decide +kernel
theorem d_Mod_allowed_9 : decode prog_13_method_30_code 9 = .ok (.iload_n 1, 1) := by decide +kernel
theorem d_Mod_allowed_10 : decode prog_13_method_30_code 10 = .ok (.aload_n 0, 1) := by decide +kernel
theorem d_Mod_allowed_11 : decode prog_13_method_30_code 11 = .ok (.getfield 151, 3) := by decide +kernel
theorem d_Mod_allowed_14 : decode prog_13_method_30_code 14 = .ok (.invokevirtual 161, 3) := by decide +kernel
theorem d_Mod_allowed_17 : decode prog_13_method_30_code 17 = .ok (.istore_n 2, 1) := by decide +kernel
theorem d_Mod_allowed_18 : decode prog_13_method_30_code 18 = .ok (.iload_n 2, 1) := by decide +kernel
theorem d_Mod_allowed_19 : decode prog_13_method_30_code 19 = .ok (.ifCond .ne (5), 3) := by decide +kernel
theorem d_Mod_allowed_22 : decode prog_13_method_30_code 22 = .ok (.iload_n 1, 1) := by decide +kernel
theorem d_Mod_allowed_23 : decode prog_13_method_30_code 23 = .ok (.ireturn, 1) := by decide +kernel
theorem d_Mod_allowed_24 : decode prog_13_method_30_code 24 = .ok (.iinc 1 (-1), 3) := by decide +kernel
theorem d_Mod_allowed_27 : decode prog_13_method_30_code 27 = .ok (.goto (-23), 3) := by decide +kernel
theorem d_Mod_allowed_30 : decode prog_13_method_30_code 30 = .ok (.iconst 0, 1) := by decide +kernel
theorem d_Mod_allowed_31 : decode prog_13_method_30_code 31 = .ok (.ireturn, 1) := by decide +kernel
theorem d_Mod_mark_0 : decode prog_13_method_31_code 0 = .ok (.iconst (-1), 1) := by decide +kernel
theorem d_Mod_mark_1 : decode prog_13_method_31_code 1 = .ok (.istore_n 2, 1) := by decide +kernel
theorem d_Mod_mark_2 : decode prog_13_method_31_code 2 = .ok (.aload_n 0, 1) := by decide +kernel
theorem d_Mod_mark_3 : decode prog_13_method_31_code 3 = .ok (.getfield 98, 3) := by decide +kernel
theorem d_Mod_mark_6 : decode prog_13_method_31_code 6 = .ok (.iconst 1, 1) := by decide +kernel
theorem d_Mod_mark_7 : decode prog_13_method_31_code 7 = .ok (.isub, 1) := by decide +kernel
theorem d_Mod_mark_8 : decode prog_13_method_31_code 8 = .ok (.istore_n 3, 1) := by decide +kernel
theorem d_Mod_mark_9 : decode prog_13_method_31_code 9 = .ok (.iload_n 3, 1) := by decide +kernel
theorem d_Mod_mark_10 : decode prog_13_method_31_code 10 = .ok (.ifCond .lt (34), 3) := by decide +kernel
theorem d_Mod_mark_13 : decode prog_13_method_31_code 13 = .ok (.aload_n 0, 1) := by decide +kernel
theorem d_Mod_mark_14 : decode prog_13_method_31_code 14 = .ok (.getfield 31, 3) := by decide +kernel
theorem d_Mod_mark_17 : decode prog_13_method_31_code 17 = .ok (.iload_n 3, 1) := by decide +kernel
theorem d_Mod_mark_18 : decode prog_13_method_31_code 18 = .ok (.baload, 1) := by decide +kernel
theorem d_Mod_mark_19 : decode prog_13_method_31_code 19 = .ok (.ifCond .ne (17), 3) := by decide +kernel
theorem d_Mod_mark_22 : decode prog_13_method_31_code 22 = .ok (.aload_n 0, 1) := by decide +kernel
theorem d_Mod_mark_23 : decode prog_13_method_31_code 23 = .ok (.getfield 25, 3) := by decide +kernel
theorem d_Mod_mark_26 : decode prog_13_method_31_code 26 = .ok (.iload_n 3, 1) := by decide +kernel
theorem d_Mod_mark_27 : decode prog_13_method_31_code 27 = .ok (.iaload, 1) := by decide +kernel
theorem d_Mod_mark_28 : decode prog_13_method_31_code 28 = .ok (.iload_n 1, 1) := by decide +kernel
theorem d_Mod_mark_29 : decode prog_13_method_31_code 29 = .ok (.if_icmp .ne (7), 3) := by decide +kernel
theorem d_Mod_mark_32 : decode prog_13_method_31_code 32 = .ok (.iload_n 3, 1) := by decide +kernel
theorem d_Mod_mark_33 : decode prog_13_method_31_code 33 = .ok (.goto (4), 3) := by decide +kernel
theorem d_Mod_mark_36 : decode prog_13_method_31_code 36 = .ok (.iload_n 2, 1) := by decide +kernel
theorem d_Mod_mark_37 : decode prog_13_method_31_code 37 = .ok (.istore_n 2, 1) := by decide +kernel
theorem d_Mod_mark_38 : decode prog_13_method_31_code 38 = .ok (.iinc 3 (-1), 3) := by decide +kernel
theorem d_Mod_mark_41 : decode prog_13_method_31_code 41 = .ok (.goto (-32), 3) := by decide +kernel
theorem d_Mod_mark_44 : decode prog_13_method_31_code 44 = .ok (.iload_n 2, 1) := by decide +kernel
theorem d_Mod_mark_45 : decode prog_13_method_31_code 45 = .ok (.ifCond .ge (5), 3) := by decide +kernel
theorem d_Mod_mark_48 : decode prog_13_method_31_code 48 = .ok (.iconst 0, 1) := by decide +kernel
theorem d_Mod_mark_49 : decode prog_13_method_31_code 49 = .ok (.ireturn, 1) := by decide +kernel
theorem d_Mod_mark_50 : decode prog_13_method_31_code 50 = .ok (.aload_n 0, 1) := by decide +kernel
theorem d_Mod_mark_51 : decode prog_13_method_31_code 51 = .ok (.getfield 195, 3) := by decide +kernel
theorem d_Mod_mark_54 : decode prog_13_method_31_code 54 = .ok (.aload_n 0, 1) := by decide +kernel
theorem d_Mod_mark_55 : decode prog_13_method_31_code 55 = .ok (.getfield 22, 3) := by decide +kernel
theorem d_Mod_mark_58 : decode prog_13_method_31_code 58 = .ok (.iload_n 2, 1) := by decide +kernel
theorem d_Mod_mark_59 : decode prog_13_method_31_code 59 = .ok (.iaload, 1) := by decide +kernel
theorem d_Mod_mark_60 : decode prog_13_method_31_code 60 = .ok (.aload_n 0, 1) := by decide +kernel
theorem d_Mod_mark_61 : decode prog_13_method_31_code 61 = .ok (.getfield 28, 3) := by decide +kernel
theorem d_Mod_mark_64 : decode prog_13_method_31_code 64 = .ok (.iload_n 2, 1) := by decide +kernel
theorem d_Mod_mark_65 : decode prog_13_method_31_code 65 = .ok (.iaload, 1) := by decide +kernel
theorem d_Mod_mark_66 : decode prog_13_method_31_code 66 = .ok (.isub, 1) := by decide +kernel
theorem d_Mod_mark_67 : decode prog_13_method_31_code 67 = .ok (.if_icmp .lt (23), 3) := by decide +kernel
theorem d_Mod_mark_70 : decode prog_13_method_31_code 70 = .ok (.aload_n 0, 1) := by decide +kernel
theorem d_Mod_mark_71 : decode prog_13_method_31_code 71 = .ok (.getfield 189, 3) := by decide +kernel
theorem d_Mod_mark_74 : decode prog_13_method_31_code 74 = .ok (.aload_n 0, 1) := by decide +kernel
theorem d_Mod_mark_75 : decode prog_13_method_31_code 75 = .ok (.getfield 22, 3) := by decide +kernel
theorem d_Mod_mark_78 : decode prog_13_method_31_code 78 = .ok (.iload_n 2, 1) := by decide +kernel
theorem d_Mod_mark_79 : decode prog_13_method_31_code 79 = .ok (.iaload, 1) := by decide +kernel
theorem d_Mod_mark_80 : decode prog_13_method_31_code 80 = .ok (.aload_n 0, 1) := by decide +kernel
theorem d_Mod_mark_81 : decode prog_13_method_31_code 81 = .ok (.getfield 28, 3) := by decide +kernel
theorem d_Mod_mark_84 : decode prog_13_method_31_code 84 = .ok (.iload_n 2, 1) := by decide +kernel
theorem d_Mod_mark_85 : decode prog_13_method_31_code 85 = .ok (.iaload, 1) := by decide +kernel
theorem d_Mod_mark_86 : decode prog_13_method_31_code 86 = .ok (.iadd, 1) := by decide +kernel
theorem d_Mod_mark_87 : decode prog_13_method_31_code 87 = .ok (.if_icmp .le (7), 3) := by decide +kernel
theorem d_Mod_mark_90 : decode prog_13_method_31_code 90 = .ok (.iconst 1, 1) := by decide +kernel
theorem d_Mod_mark_91 : decode prog_13_method_31_code 91 = .ok (.goto (4), 3) := by decide +kernel
theorem d_Mod_mark_94 : decode prog_13_method_31_code 94 = .ok (.iconst 0, 1) := by decide +kernel
theorem d_Mod_mark_95 : decode prog_13_method_31_code 95 = .ok (.istore_n 3, 1) := by decide +kernel
theorem d_Mod_mark_96 : decode prog_13_method_31_code 96 = .ok (.iconst 0, 1) := by decide +kernel
theorem d_Mod_mark_97 : decode prog_13_method_31_code 97 = .ok (.istore 4, 2) := by decide +kernel
theorem d_Mod_mark_99 : decode prog_13_method_31_code 99 = .ok (.iload 4, 2) := by decide +kernel
theorem d_Mod_mark_101 : decode prog_13_method_31_code 101 = .ok (.iload_n 2, 1) := by decide +kernel
theorem d_Mod_mark_102 : decode prog_13_method_31_code 102 = .ok (.if_icmp .ge (37), 3) := by decide +kernel
theorem d_Mod_mark_105 : decode prog_13_method_31_code 105 = .ok (.iload_n 3, 1) := by decide +kernel
theorem d_Mod_mark_106 : decode prog_13_method_31_code 106 = .ok (.ifCond .ne (13), 3) := by decide +kernel
theorem d_Mod_mark_109 : decode prog_13_method_31_code 109 = .ok (.aload_n 0, 1) := by decide +kernel
theorem d_Mod_mark_110 : decode prog_13_method_31_code 110 = .ok (.getfield 31, 3) := by decide +kernel
theorem d_Mod_mark_113 : decode prog_13_method_31_code 113 = .ok (.iload 4, 2) := by decide +kernel
theorem d_Mod_mark_115 : decode prog_13_method_31_code 115 = .ok (.baload, 1) := by decide +kernel
theorem d_Mod_mark_116 : decode prog_13_method_31_code 116 = .ok (.ifCond .ne (7), 3) := by decide +kernel
theorem d_Mod_mark_119 : decode prog_13_method_31_code 119 = .ok (.iconst 1, 1) := by decide +kernel
theorem d_Mod_mark_120 : decode prog_13_method_31_code 120 = .ok (.goto (4), 3) := by decide +kernel
theorem d_Mod_mark_123 : decode prog_13_method_31_code 123 = .ok (.iconst 0, 1) := by decide +kernel
theorem d_Mod_mark_124 : decode prog_13_method_31_code 124 = .ok (.istore_n 3, 1) := by decide +kernel
theorem d_Mod_mark_125 : decode prog_13_method_31_code 125 = .ok (.aload_n 0, 1) := by decide +kernel
theorem d_Mod_mark_126 : decode prog_13_method_31_code 126 = .ok (.getfield 31, 3) := by decide +kernel
theorem d_Mod_mark_129 : decode prog_13_method_31_code 129 = .ok (.iload 4, 2) := by decide +kernel
theorem d_Mod_mark_131 : decode prog_13_method_31_code 131 = .ok (.iconst 1, 1) := by decide +kernel
theorem d_Mod_mark_132 : decode prog_13_method_31_code 132 = .ok (.bastore, 1) := by decide +kernel
theorem d_Mod_mark_133 : decode prog_13_method_31_code 133 = .ok (.iinc 4 (1), 3) := by decide +kernel
theorem d_Mod_mark_136 : decode prog_13_method_31_code 136 = .ok (.goto (-37), 3) := by decide +kernel
theorem d_Mod_mark_139 : decode prog_13_method_31_code 139 = .ok (.aload_n 0, 1) := by decide +kernel
theorem d_Mod_mark_140 : decode prog_13_method_31_code 140 = .ok (.getfield 31, 3) := by decide +kernel
theorem d_Mod_mark_143 : decode prog_13_method_31_code 143 = .ok (.iload_n 2, 1) := by decide +kernel
theorem d_Mod_mark_144 : decode prog_13_method_31_code 144 = .ok (.iconst 1, 1) := by decide +kernel
theorem d_Mod_mark_145 : decode prog_13_method_31_code 145 = .ok (.bastore, 1) := by decide +kernel
theorem d_Mod_mark_146 : decode prog_13_method_31_code 146 = .ok (.aload_n 0, 1) := by decide +kernel
theorem d_Mod_mark_147 : decode prog_13_method_31_code 147 = .ok (.iconst 5, 1) := by decide +kernel
theorem d_Mod_mark_148 : decode prog_13_method_31_code 148 = .ok (.iload_n 1, 1) := by decide +kernel
theorem d_Mod_mark_149 : decode prog_13_method_31_code 149 = .ok (.bipush (100), 2) := by decide +kernel
theorem d_Mod_mark_151 : decode prog_13_method_31_code 151 = .ok (.irem, 1) := by decide +kernel
theorem d_Mod_mark_152 : decode prog_13_method_31_code 152 = .ok (.invokevirtual 84, 3) := by decide +kernel
theorem d_Mod_mark_155 : decode prog_13_method_31_code 155 = .ok (.iload_n 3, 1) := by decide +kernel
theorem d_Mod_mark_156 : decode prog_13_method_31_code 156 = .ok (.ifCond .eq (23), 3) := by decide +kernel
theorem d_Mod_mark_159 : decode prog_13_method_31_code 159 = .ok (.aload_n 0, 1) := by decide +kernel
theorem d_Mod_mark_160 : decode prog_13_method_31_code 160 = .ok (.bipush (6), 2) := by decide +kernel
theorem d_Mod_mark_162 : decode prog_13_method_31_code 162 = .ok (.iconst 0, 1) := by decide +kernel
theorem d_Mod_mark_163 : decode prog_13_method_31_code 163 = .ok (.invokevirtual 84, 3) := by decide +kernel
theorem d_Mod_mark_166 : decode prog_13_method_31_code 166 = .ok (.aload_n 0, 1) := by decide +kernel
theorem d_Mod_mark_167 : decode prog_13_method_31_code 167 = .ok (.invokevirtual 154, 3) := by decide +kernel
theorem d_Mod_mark_170 : decode prog_13_method_31_code 170 = .ok (.ifCond .eq (7), 3) := by decide +kernel
theorem d_Mod_mark_173 : decode prog_13_method_31_code 173 = .ok (.aload_n 0, 1) := by decide +kernel
theorem d_Mod_mark_174 : decode prog_13_method_31_code 174 = .ok (.invokevirtual 174, 3) := by decide +kernel
theorem d_Mod_mark_177 : decode prog_13_method_31_code 177 = .ok (.iconst 1, 1) := by decide +kernel
theorem d_Mod_mark_178 : decode prog_13_method_31_code 178 = .ok (.ireturn, 1) := by decide +kernel
theorem d_Mod_mark_179 : decode prog_13_method_31_code 179 = .ok (.aload_n 0, 1) := by decide +kernel
theorem d_Mod_mark_180 : decode prog_13_method_31_code 180 = .ok (.getfield 22, 3) := by decide +kernel
theorem d_Mod_mark_183 : decode prog_13_method_31_code 183 = .ok (.iload_n 2, 1) := by decide +kernel
theorem d_Mod_mark_184 : decode prog_13_method_31_code 184 = .ok (.iaload, 1) := by decide +kernel
theorem d_Mod_mark_185 : decode prog_13_method_31_code 185 = .ok (.aload_n 0, 1) := by decide +kernel
theorem d_Mod_mark_186 : decode prog_13_method_31_code 186 = .ok (.getfield 28, 3) := by decide +kernel
theorem d_Mod_mark_189 : decode prog_13_method_31_code 189 = .ok (.iload_n 2, 1) := by decide +kernel
theorem d_Mod_mark_190 : decode prog_13_method_31_code 190 = .ok (.iaload, 1) := by decide +kernel
theorem d_Mod_mark_191 : decode prog_13_method_31_code 191 = .ok (.isub, 1) := by decide +kernel
theorem d_Mod_mark_192 : decode prog_13_method_31_code 192 = .ok (.istore 4, 2) := by decide +kernel
theorem d_Mod_mark_194 : decode prog_13_method_31_code 194 = .ok (.aload_n 0, 1) := by decide +kernel
theorem d_Mod_mark_195 : decode prog_13_method_31_code 195 = .ok (.getfield 22, 3) := by decide +kernel
theorem d_Mod_mark_198 : decode prog_13_method_31_code 198 = .ok (.iload_n 2, 1) := by decide +kernel
theorem d_Mod_mark_199 : decode prog_13_method_31_code 199 = .ok (.iaload, 1) := by decide +kernel
theorem d_Mod_mark_200 : decode prog_13_method_31_code 200 = .ok (.aload_n 0, 1) := by decide +kernel
theorem d_Mod_mark_201 : decode prog_13_method_31_code 201 = .ok (.getfield 28, 3) := by decide +kernel
theorem d_Mod_mark_204 : decode prog_13_method_31_code 204 = .ok (.iload_n 2, 1) := by decide +kernel
theorem d_Mod_mark_205 : decode prog_13_method_31_code 205 = .ok (.iaload, 1) := by decide +kernel
theorem d_Mod_mark_206 : decode prog_13_method_31_code 206 = .ok (.iadd, 1) := by decide +kernel
theorem d_Mod_mark_207 : decode prog_13_method_31_code 207 = .ok (.istore 5, 2) := by decide +kernel
theorem d_Mod_mark_209 : decode prog_13_method_31_code 209 = .ok (.aload_n 0, 1) := by decide +kernel
theorem d_Mod_mark_210 : decode prog_13_method_31_code 210 = .ok (.aload_n 0, 1) := by decide +kernel
theorem d_Mod_mark_211 : decode prog_13_method_31_code 211 = .ok (.getfield 189, 3) := by decide +kernel
theorem d_Mod_mark_214 : decode prog_13_method_31_code 214 = .ok (.iload 4, 2) := by decide +kernel
theorem d_Mod_mark_216 : decode prog_13_method_31_code 216 = .ok (.if_icmp .ge (8), 3) := by decide +kernel
theorem d_Mod_mark_219 : decode prog_13_method_31_code 219 = .ok (.iload 4, 2) := by decide +kernel
theorem d_Mod_mark_221 : decode prog_13_method_31_code 221 = .ok (.goto (7), 3) := by decide +kernel
theorem d_Mod_mark_224 : decode prog_13_method_31_code 224 = .ok (.aload_n 0, 1) := by decide +kernel
theorem d_Mod_mark_225 : decode prog_13_method_31_code 225 = .ok (.getfield 189, 3) := by decide +kernel
theorem d_Mod_mark_228 : decode prog_13_method_31_code 228 = .ok (.putfield 189, 3) := by decide +kernel
theorem d_Mod_mark_231 : decode prog_13_method_31_code 231 = .ok (.aload_n 0, 1) := by decide +kernel
theorem d_Mod_mark_232 : decode prog_13_method_31_code 232 = .ok (.aload_n 0, 1) := by decide +kernel
theorem d_Mod_mark_233 : decode prog_13_method_31_code 233 = .ok (.getfield 195, 3) := by decide +kernel
theorem d_Mod_mark_236 : decode prog_13_method_31_code 236 = .ok (.iload 5, 2) := by decide +kernel
theorem d_Mod_mark_238 : decode prog_13_method_31_code 238 = .ok (.if_icmp .le (8), 3) := by decide +kernel
theorem d_Mod_mark_241 : decode prog_13_method_31_code 241 = .ok (.iload 5, 2) := by decide +kernel
theorem d_Mod_mark_243 : decode prog_13_method_31_code 243 = .ok (.goto (7), 3) := by decide +kernel
theorem d_Mod_mark_246 : decode prog_13_method_31_code 246 = .ok (.aload_n 0, 1) := by decide +kernel
theorem d_Mod_mark_247 : decode prog_13_method_31_code 247 = .ok (.getfield 195, 3) := by decide +kernel
theorem d_Mod_mark_250 : decode prog_13_method_31_code 250 = .ok (.putfield 195, 3) := by decide +kernel
theorem d_Mod_mark_253 : decode prog_13_method_31_code 253 = .ok (.iconst 1, 1) := by decide +kernel
theorem d_Mod_mark_254 : decode prog_13_method_31_code 254 = .ok (.ireturn, 1) := by decide +kernel
theorem d_Mod_moves_0 : decode prog_13_method_32_code 0 = .ok (.iload_n 1, 1) := by decide +kernel
theorem d_Mod_moves_1 : decode prog_13_method_32_code 1 = .ok (.ifCond .ne (7), 3) := by decide +kernel
theorem d_Mod_moves_4 : decode prog_13_method_32_code 4 = .ok (.iconst 0, 1) := by decide +kernel
theorem d_Mod_moves_5 : decode prog_13_method_32_code 5 = .ok (.goto (9), 3) := by decide +kernel
theorem d_Mod_moves_8 : decode prog_13_method_32_code 8 = .ok (.iconst 1, 1) := by decide +kernel
theorem d_Mod_moves_9 : decode prog_13_method_32_code 9 = .ok (.iload_n 1, 1) := by decide +kernel
theorem d_Mod_moves_10 : decode prog_13_method_32_code 10 = .ok (.bipush (16), 2) := by decide +kernel
theorem d_Mod_moves_12 : decode prog_13_method_32_code 12 = .ok (.idiv, 1) := by decide +kernel
theorem d_Mod_moves_13 : decode prog_13_method_32_code 13 = .ok (.iadd, 1) := by decide +kernel
theorem d_Mod_moves_14 : decode prog_13_method_32_code 14 = .ok (.istore_n 2, 1) := by decide +kernel
theorem d_Mod_moves_15 : decode prog_13_method_32_code 15 = .ok (.aload_n 0, 1) := by decide +kernel
theorem d_Mod_moves_16 : decode prog_13_method_32_code 16 = .ok (.dup, 1) := by decide +kernel
theorem d_Mod_moves_17 : decode prog_13_method_32_code 17 = .ok (.getfield 195, 3) := by decide +kernel
theorem d_Mod_moves_20 : decode prog_13_method_32_code 20 = .ok (.iload_n 1, 1) := by decide +kernel
theorem d_Mod_moves_21 : decode prog_13_method_32_code 21 = .ok (.iload_n 2, 1) := by decide +kernel
theorem d_Mod_moves_22 : decode prog_13_method_32_code 22 = .ok (.iadd, 1) := by decide +kernel
theorem d_Mod_moves_23 : decode prog_13_method_32_code 23 = .ok (.iadd, 1) := by decide +kernel
theorem d_Mod_moves_24 : decode prog_13_method_32_code 24 = .ok (.putfield 195, 3) := by decide +kernel
theorem d_Mod_moves_27 : decode prog_13_method_32_code 27 = .ok (.aload_n 0, 1) := by decide +kernel
theorem d_Mod_moves_28 : decode prog_13_method_32_code 28 = .ok (.dup, 1) := by decide +kernel
theorem d_Mod_moves_29 : decode prog_13_method_32_code 29 = .ok (.getfield 189, 3) := by decide +kernel
theorem d_Mod_moves_32 : decode prog_13_method_32_code 32 = .ok (.iload_n 1, 1) := by decide +kernel
theorem d_Mod_moves_33 : decode prog_13_method_32_code 33 = .ok (.iload_n 2, 1) := by decide +kernel
theorem d_Mod_moves_34 : decode prog_13_method_32_code 34 = .ok (.isub, 1) := by decide +kernel
theorem d_Mod_moves_35 : decode prog_13_method_32_code 35 = .ok (.iadd, 1) := by decide +kernel
theorem d_Mod_moves_36 : decode prog_13_method_32_code 36 = .ok (.putfield 189, 3) := by decide +kernel
theorem d_Mod_moves_39 : decode prog_13_method_32_code 39 = .ok (.aload_n 0, 1) := by decide +kernel
theorem d_Mod_moves_40 : decode prog_13_method_32_code 40 = .ok (.iload_n 1, 1) := by decide +kernel
theorem d_Mod_moves_41 : decode prog_13_method_32_code 41 = .ok (.iload_n 2, 1) := by decide +kernel
theorem d_Mod_moves_42 : decode prog_13_method_32_code 42 = .ok (.iadd, 1) := by decide +kernel
theorem d_Mod_moves_43 : decode prog_13_method_32_code 43 = .ok (.putfield 158, 3) := by decide +kernel
theorem d_Mod_moves_46 : decode prog_13_method_32_code 46 = .ok (.aload_n 0, 1) := by decide +kernel
theorem d_Mod_moves_47 : decode prog_13_method_32_code 47 = .ok (.invokevirtual 154, 3) := by decide +kernel
theorem d_Mod_moves_50 : decode prog_13_method_32_code 50 = .ok (.ifCond .eq (98), 3) := by decide +kernel
theorem d_Mod_moves_53 : decode prog_13_method_32_code 53 = .ok (.iconst 0, 1) := by decide +kernel
theorem d_Mod_moves_54 : decode prog_13_method_32_code 54 = .ok (.istore_n 3, 1) := by decide +kernel
theorem d_Mod_moves_55 : decode prog_13_method_32_code 55 = .ok (.iconst 0, 1) := by decide +kernel
theorem d_Mod_moves_56 : decode prog_13_method_32_code 56 = .ok (.istore 4, 2) := by decide +kernel
theorem d_Mod_moves_58 : decode prog_13_method_32_code 58 = .ok (.iload 4, 2) := by decide +kernel
theorem d_Mod_moves_60 : decode prog_13_method_32_code 60 = .ok (.aload_n 0, 1) := by decide +kernel
theorem d_Mod_moves_61 : decode prog_13_method_32_code 61 = .ok (.getfield 98, 3) := by decide +kernel
theorem d_Mod_moves_64 : decode prog_13_method_32_code 64 = .ok (.if_icmp .ge (51), 3) := by decide +kernel
theorem d_Mod_moves_67 : decode prog_13_method_32_code 67 = .ok (.iload_n 3, 1) := by decide +kernel
theorem d_Mod_moves_68 : decode prog_13_method_32_code 68 = .ok (.ifCond .ne (35), 3) := by decide +kernel
theorem d_Mod_moves_71 : decode prog_13_method_32_code 71 = .ok (.aload_n 0, 1) := by decide +kernel
theorem d_Mod_moves_72 : decode prog_13_method_32_code 72 = .ok (.getfield 31, 3) := by decide +kernel
theorem d_Mod_moves_75 : decode prog_13_method_32_code 75 = .ok (.iload 4, 2) := by decide +kernel
theorem d_Mod_moves_77 : decode prog_13_method_32_code 77 = .ok (.baload, 1) := by decide +kernel
theorem d_Mod_moves_78 : decode prog_13_method_32_code 78 = .ok (.ifCond .ne (29), 3) := by decide +kernel
theorem d_Mod_moves_81 : decode prog_13_method_32_code 81 = .ok (.aload_n 0, 1) := by decide +kernel
theorem d_Mod_moves_82 : decode prog_13_method_32_code 82 = .ok (.getfield 22, 3) := by decide +kernel
theorem d_Mod_moves_85 : decode prog_13_method_32_code 85 = .ok (.iload 4, 2) := by decide +kernel
theorem d_Mod_moves_87 : decode prog_13_method_32_code 87 = .ok (.iaload, 1) := by decide +kernel
theorem d_Mod_moves_88 : decode prog_13_method_32_code 88 = .ok (.aload_n 0, 1) := by decide +kernel
theorem d_Mod_moves_89 : decode prog_13_method_32_code 89 = .ok (.getfield 28, 3) := by decide +kernel
theorem d_Mod_moves_92 : decode prog_13_method_32_code 92 = .ok (.iload 4, 2) := by decide +kernel
theorem d_Mod_moves_94 : decode prog_13_method_32_code 94 = .ok (.iaload, 1) := by decide +kernel
theorem d_Mod_moves_95 : decode prog_13_method_32_code 95 = .ok (.iadd, 1) := by decide +kernel
theorem d_Mod_moves_96 : decode prog_13_method_32_code 96 = .ok (.aload_n 0, 1) := by decide +kernel
theorem d_Mod_moves_97 : decode prog_13_method_32_code 97 = .ok (.getfield 189, 3) := by decide +kernel
theorem d_Mod_moves_100 : decode prog_13_method_32_code 100 = .ok (.if_icmp .ge (7), 3) := by decide +kernel
theorem d_Mod_moves_103 : decode prog_13_method_32_code 103 = .ok (.iconst 1, 1) := by decide +kernel
theorem d_Mod_moves_104 : decode prog_13_method_32_code 104 = .ok (.goto (4), 3) := by decide +kernel
theorem d_Mod_moves_107 : decode prog_13_method_32_code 107 = .ok (.iconst 0, 1) := by decide +kernel
theorem d_Mod_moves_108 : decode prog_13_method_32_code 108 = .ok (.istore_n 3, 1) := by decide +kernel
theorem d_Mod_moves_109 : decode prog_13_method_32_code 109 = .ok (.iinc 4 (1), 3) := by decide +kernel
theorem d_Mod_moves_112 : decode prog_13_method_32_code 112 = .ok (.goto (-54), 3) := by decide +kernel
theorem d_Mod_moves_115 : decode prog_13_method_32_code 115 = .ok (.iload_n 3, 1) := by decide +kernel
theorem d_Mod_moves_116 : decode prog_13_method_32_code 116 = .ok (.ifCond .eq (10), 3) := by decide +kernel
theorem d_Mod_moves_119 : decode prog_13_method_32_code 119 = .ok (.aload_n 0, 1) := by decide +kernel
theorem d_Mod_moves_120 : decode prog_13_method_32_code 120 = .ok (.bipush (6), 2) := by decide +kernel
theorem d_Mod_moves_122 : decode prog_13_method_32_code 122 = .ok (.iconst 0, 1) := by decide +kernel
theorem d_Mod_moves_123 : decode prog_13_method_32_code 123 = .ok (.invokevirtual 84, 3) := by decide +kernel
theorem d_Mod_moves_126 : decode prog_13_method_32_code 126 = .ok (.iload_n 3, 1) := by decide +kernel
theorem d_Mod_moves_127 : decode prog_13_method_32_code 127 = .ok (.ifCond .ne (14), 3) := by decide +kernel
theorem d_Mod_moves_130 : decode prog_13_method_32_code 130 = .ok (.aload_n 0, 1) := by decide +kernel
theorem d_Mod_moves_131 : decode prog_13_method_32_code 131 = .ok (.getfield 189, 3) := by decide +kernel
theorem d_Mod_moves_134 : decode prog_13_method_32_code 134 = .ok (.aload_n 0, 1) := by decide +kernel
theorem d_Mod_moves_135 : decode prog_13_method_32_code 135 = .ok (.getfield 151, 3) := by decide +kernel
theorem d_Mod_moves_138 : decode prog_13_method_32_code 138 = .ok (.if_icmp .le (7), 3) := by decide +kernel
theorem d_Mod_moves_141 : decode prog_13_method_32_code 141 = .ok (.aload_n 0, 1) := by decide +kernel
theorem d_Mod_moves_142 : decode prog_13_method_32_code 142 = .ok (.invokevirtual 174, 3) := by decide +kernel
theorem d_Mod_moves_145 : decode prog_13_method_32_code 145 = .ok (.goto (26), 3) := by decide +kernel
theorem d_Mod_moves_148 : decode prog_13_method_32_code 148 = .ok (.aload_n 0, 1) := by decide +kernel
theorem d_Mod_moves_149 : decode prog_13_method_32_code 149 = .ok (.getfield 81, 3) := by decide +kernel
theorem d_Mod_moves_152 : decode prog_13_method_32_code 152 = .ok (.iconst 1, 1) := by decide +kernel
theorem d_Mod_moves_153 : decode prog_13_method_32_code 153 = .ok (.if_icmp .ne (18), 3) := by decide +kernel
theorem d_Mod_moves_156 : decode prog_13_method_32_code 156 = .ok (.aload_n 0, 1) := by decide +kernel
theorem d_Mod_moves_157 : decode prog_13_method_32_code 157 = .ok (.getfield 189, 3) := by decide +kernel
theorem d_Mod_moves_160 : decode prog_13_method_32_code 160 = .ok (.aload_n 0, 1) := by decide +kernel
theorem d_Mod_moves_161 : decode prog_13_method_32_code 161 = .ok (.getfield 216, 3) := by decide +kernel
theorem d_Mod_moves_164 : decode prog_13_method_32_code 164 = .ok (.if_icmp .le (7), 3) := by decide +kernel
theorem d_Mod_moves_167 : decode prog_13_method_32_code 167 = .ok (.aload_n 0, 1) := by decide +kernel
theorem d_Mod_moves_168 : decode prog_13_method_32_code 168 = .ok (.invokevirtual 174, 3) := by decide +kernel
theorem d_Mod_moves_171 : decode prog_13_method_32_code 171 = .ok (.return_, 1) := by decide +kernel
theorem d_Mod_cycle_0 : decode prog_13_method_33_code 0 = .ok (.aload_n 0, 1) := by decide +kernel
theorem d_Mod_cycle_1 : decode prog_13_method_33_code 1 = .ok (.dup, 1) := by decide +kernel
theorem d_Mod_cycle_2 : decode prog_13_method_33_code 2 = .ok (.getfield 75, 3) := by decide +kernel
theorem d_Mod_cycle_5 : decode prog_13_method_33_code 5 = .ok (.iconst 1, 1) := by decide +kernel
theorem d_Mod_cycle_6 : decode prog_13_method_33_code 6 = .ok (.iadd, 1) := by decide +kernel
theorem d_Mod_cycle_7 : decode prog_13_method_33_code 7 = .ok (.putfield 75, 3) := by decide +kernel
theorem d_Mod_cycle_10 : decode prog_13_method_33_code 10 = .ok (.aload_n 0, 1) := by decide +kernel
theorem d_Mod_cycle_11 : decode prog_13_method_33_code 11 = .ok (.getfield 81, 3) := by decide +kernel
theorem d_Mod_cycle_14 : decode prog_13_method_33_code 14 = .ok (.bipush (6), 2) := by decide +kernel
theorem d_Mod_cycle_16 : decode prog_13_method_33_code 16 = .ok (.if_icmp .eq (14), 3) := by decide +kernel
theorem d_Mod_cycle_19 : decode prog_13_method_33_code 19 = .ok (.iload_n 1, 1) := by decide +kernel
theorem d_Mod_cycle_20 : decode prog_13_method_33_code 20 = .ok (.ifCond .lt (10), 3) := by decide +kernel
theorem d_Mod_cycle_23 : decode prog_13_method_33_code 23 = .ok (.iload_n 1, 1) := by decide +kernel
theorem d_Mod_cycle_24 : decode prog_13_method_33_code 24 = .ok (.sipush (500), 3) := by decide +kernel
theorem d_Mod_cycle_27 : decode prog_13_method_33_code 27 = .ok (.if_icmp .le (12), 3) := by decide +kernel
theorem d_Mod_cycle_30 : decode prog_13_method_33_code 30 = .ok (.aload_n 0, 1) := by decide +kernel
theorem d_Mod_cycle_31 : decode prog_13_method_33_code 31 = .ok (.bipush (6), 2) := by decide +kernel
theorem d_Mod_cycle_33 : decode prog_13_method_33_code 33 = .ok (.invokevirtual 104, 3) := by decide +kernel
theorem d_Mod_cycle_36 : decode prog_13_method_33_code 36 = .ok (.goto (8), 3) := by decide +kernel
theorem d_Mod_cycle_39 : decode prog_13_method_33_code 39 = .ok (.aload_n 0, 1) := by decide +kernel
theorem d_Mod_cycle_40 : decode prog_13_method_33_code 40 = .ok (.iload_n 1, 1) := by decide +kernel
theorem d_Mod_cycle_41 : decode prog_13_method_33_code 41 = .ok (.invokevirtual 219, 3) := by decide +kernel
theorem d_Mod_cycle_44 : decode prog_13_method_33_code 44 = .ok (.aload_n 0, 1) := by decide +kernel
theorem d_Mod_cycle_45 : decode prog_13_method_33_code 45 = .ok (.aload_n 0, 1) := by decide +kernel
theorem d_Mod_cycle_46 : decode prog_13_method_33_code 46 = .ok (.getfield 158, 3) := by decide +kernel
theorem d_Mod_cycle_49 : decode prog_13_method_33_code 49 = .ok (.aload_n 0, 1) := by decide +kernel
theorem d_Mod_cycle_50 : decode prog_13_method_33_code 50 = .ok (.getfield 151, 3) := by decide +kernel
theorem d_Mod_cycle_53 : decode prog_13_method_33_code 53 = .ok (.invokevirtual 161, 3) := by decide +kernel
theorem d_Mod_cycle_56 : decode prog_13_method_33_code 56 = .ok (.istore_n 2, 1) := by decide +kernel
theorem d_Mod_cycle_57 : decode prog_13_method_33_code 57 = .ok (.aload_n 0, 1) := by decide +kernel
theorem d_Mod_cycle_58 : decode prog_13_method_33_code 58 = .ok (.iload_n 2, 1) := by decide +kernel
theorem d_Mod_cycle_59 : decode prog_13_method_33_code 59 = .ok (.iconst 4, 1) := by decide +kernel
theorem d_Mod_cycle_60 : decode prog_13_method_33_code 60 = .ok (.if_icmp .eq (14), 3) := by decide +kernel
theorem d_Mod_cycle_63 : decode prog_13_method_33_code 63 = .ok (.aload_n 0, 1) := by decide +kernel
theorem d_Mod_cycle_64 : decode prog_13_method_33_code 64 = .ok (.getfield 222, 3) := by decide +kernel
theorem d_Mod_cycle_67 : decode prog_13_method_33_code 67 = .ok (.ifCond .eq (11), 3) := by decide +kernel
theorem d_Mod_cycle_70 : decode prog_13_method_33_code 70 = .ok (.iload_n 1, 1) := by decide +kernel
theorem d_Mod_cycle_71 : decode prog_13_method_33_code 71 = .ok (.ifCond .eq (7), 3) := by decide +kernel
theorem d_Mod_cycle_74 : decode prog_13_method_33_code 74 = .ok (.iconst 1, 1) := by decide +kernel
theorem d_Mod_cycle_75 : decode prog_13_method_33_code 75 = .ok (.goto (4), 3) := by decide +kernel
theorem d_Mod_cycle_78 : decode prog_13_method_33_code 78 = .ok (.iconst 0, 1) := by decide +kernel
theorem d_Mod_cycle_79 : decode prog_13_method_33_code 79 = .ok (.putfield 222, 3) := by decide +kernel
theorem d_Mod_cycle_82 : decode prog_13_method_33_code 82 = .ok (.aload_n 0, 1) := by decide +kernel
theorem d_Mod_cycle_83 : decode prog_13_method_33_code 83 = .ok (.iload_n 2, 1) := by decide +kernel
theorem d_Mod_cycle_84 : decode prog_13_method_33_code 84 = .ok (.iconst 3, 1) := by decide +kernel
theorem d_Mod_cycle_85 : decode prog_13_method_33_code 85 = .ok (.if_icmp .ge (18), 3) := by decide +kernel
theorem d_Mod_cycle_88 : decode prog_13_method_33_code 88 = .ok (.aload_n 0, 1) := by decide +kernel
theorem d_Mod_cycle_89 : decode prog_13_method_33_code 89 = .ok (.getfield 225, 3) := by decide +kernel
theorem d_Mod_cycle_92 : decode prog_13_method_33_code 92 = .ok (.ifCond .eq (15), 3) := by decide +kernel
theorem d_Mod_cycle_95 : decode prog_13_method_33_code 95 = .ok (.iload_n 2, 1) := by decide +kernel
theorem d_Mod_cycle_96 : decode prog_13_method_33_code 96 = .ok (.ifCond .eq (11), 3) := by decide +kernel
theorem d_Mod_cycle_99 : decode prog_13_method_33_code 99 = .ok (.iload_n 1, 1) := by decide +kernel
theorem d_Mod_cycle_100 : decode prog_13_method_33_code 100 = .ok (.ifCond .eq (7), 3) := by decide +kernel
theorem d_Mod_cycle_103 : decode prog_13_method_33_code 103 = .ok (.iconst 1, 1) := by decide +kernel
theorem d_Mod_cycle_104 : decode prog_13_method_33_code 104 = .ok (.goto (4), 3) := by decide +kernel
theorem d_Mod_cycle_107 : decode prog_13_method_33_code 107 = .ok (.iconst 0, 1) := by decide +kernel
theorem d_Mod_cycle_108 : decode prog_13_method_33_code 108 = .ok (.putfield 225, 3) := by decide +kernel
theorem d_Mod_cycle_111 : decode prog_13_method_33_code 111 = .ok (.aload_n 0, 1) := by decide +kernel
theorem d_Mod_cycle_112 : decode prog_13_method_33_code 112 = .ok (.dup, 1) := by decide +kernel
theorem d_Mod_cycle_113 : decode prog_13_method_33_code 113 = .ok (.getfield 111, 3) := by decide +kernel
theorem d_Mod_cycle_116 : decode prog_13_method_33_code 116 = .ok (.aload_n 0, 1) := by decide +kernel
theorem d_Mod_cycle_117 : decode prog_13_method_33_code 117 = .ok (.getfield 101, 3) := by decide +kernel
theorem d_Mod_cycle_120 : decode prog_13_method_33_code 120 = .ok (.ifCond .eq (7), 3) := by decide +kernel
theorem d_Mod_cycle_123 : decode prog_13_method_33_code 123 = .ok (.iconst 1, 1) := by decide +kernel
theorem d_Mod_cycle_124 : decode prog_13_method_33_code 124 = .ok (.goto (4), 3) := by decide +kernel
theorem d_Mod_cycle_127 : decode prog_13_method_33_code 127 = .ok (.iconst 0, 1) := by decide +kernel
theorem d_Mod_cycle_128 : decode prog_13_method_33_code 128 = .ok (.iadd, 1) := by decide +kernel
theorem d_Mod_cycle_129 : decode prog_13_method_33_code 129 = .ok (.putfield 111, 3) := by decide +kernel
theorem d_Mod_cycle_132 : decode prog_13_method_33_code 132 = .ok (.aload_n 0, 1) := by decide +kernel
theorem d_Mod_cycle_133 : decode prog_13_method_33_code 133 = .ok (.getfield 222, 3) := by decide +kernel
theorem d_Mod_cycle_136 : decode prog_13_method_33_code 136 = .ok (.ifCond .eq (7), 3) := by decide +kernel
theorem d_Mod_cycle_139 : decode prog_13_method_33_code 139 = .ok (.iconst 2, 1) := by decide +kernel
theorem d_Mod_cycle_140 : decode prog_13_method_33_code 140 = .ok (.goto (30), 3) := by decide +kernel
theorem d_Mod_cycle_143 : decode prog_13_method_33_code 143 = .ok (.aload_n 0, 1) := by decide +kernel
theorem d_Mod_cycle_144 : decode prog_13_method_33_code 144 = .ok (.getfield 225, 3) := by decide +kernel
theorem d_Mod_cycle_147 : decode prog_13_method_33_code 147 = .ok (.ifCond .ne (18), 3) := by decide +kernel
theorem d_Mod_cycle_150 : decode prog_13_method_33_code 150 = .ok (.aload_n 0, 1) := by decide +kernel
theorem d_Mod_cycle_151 : decode prog_13_method_33_code 151 = .ok (.getfield 101, 3) := by decide +kernel
theorem d_Mod_cycle_154 : decode prog_13_method_33_code 154 = .ok (.ifCond .eq (15), 3) := by decide +kernel
theorem d_Mod_cycle_157 : decode prog_13_method_33_code 157 = .ok (.aload_n 0, 1) := by decide +kernel
theorem d_Mod_cycle_158 : decode prog_13_method_33_code 158 = .ok (.getfield 111, 3) := by decide +kernel
theorem d_Mod_cycle_161 : decode prog_13_method_33_code 161 = .ok (.iconst 3, 1) := by decide +kernel
theorem d_Mod_cycle_162 : decode prog_13_method_33_code 162 = .ok (.if_icmp .lt (7), 3) := by decide +kernel
theorem d_Mod_cycle_165 : decode prog_13_method_33_code 165 = .ok (.iconst 1, 1) := by decide +kernel
theorem d_Mod_cycle_166 : decode prog_13_method_33_code 166 = .ok (.goto (4), 3) := by decide +kernel
theorem d_Mod_cycle_169 : decode prog_13_method_33_code 169 = .ok (.iconst 0, 1) := by decide +kernel
theorem d_Mod_cycle_170 : decode prog_13_method_33_code 170 = .ok (.istore_n 3, 1) := by decide +kernel
theorem d_Mod_cycle_171 : decode prog_13_method_33_code 171 = .ok (.iload_n 3, 1) := by decide +kernel
theorem d_Mod_cycle_172 : decode prog_13_method_33_code 172 = .ok (.aload_n 0, 1) := by decide +kernel
theorem d_Mod_cycle_173 : decode prog_13_method_33_code 173 = .ok (.getfield 228, 3) := by decide +kernel
theorem d_Mod_cycle_176 : decode prog_13_method_33_code 176 = .ok (.if_icmp .eq (14), 3) := by decide +kernel
theorem d_Mod_cycle_179 : decode prog_13_method_33_code 179 = .ok (.aload_n 0, 1) := by decide +kernel
theorem d_Mod_cycle_180 : decode prog_13_method_33_code 180 = .ok (.iload_n 3, 1) := by decide +kernel
theorem d_Mod_cycle_181 : decode prog_13_method_33_code 181 = .ok (.putfield 228, 3) := by decide +kernel
theorem d_Mod_cycle_184 : decode prog_13_method_33_code 184 = .ok (.aload_n 0, 1) := by decide +kernel
theorem d_Mod_cycle_185 : decode prog_13_method_33_code 185 = .ok (.iconst 2, 1) := by decide +kernel
theorem d_Mod_cycle_186 : decode prog_13_method_33_code 186 = .ok (.iload_n 3, 1) := by decide +kernel
theorem d_Mod_cycle_187 : decode prog_13_method_33_code 187 = .ok (.invokevirtual 84, 3) := by decide +kernel
theorem d_Mod_cycle_190 : decode prog_13_method_33_code 190 = .ok (.aload_n 0, 1) := by decide +kernel
theorem d_Mod_cycle_191 : decode prog_13_method_33_code 191 = .ok (.getfield 228, 3) := by decide +kernel
theorem d_Mod_cycle_194 : decode prog_13_method_33_code 194 = .ok (.ireturn, 1) := by decide +kernel
theorem d_Mod_driver_0 : decode prog_13_method_34_code 0 = .ok (.iload_n 1, 1) := by decide +kernel
theorem d_Mod_driver_1 : decode prog_13_method_34_code 1 = .ok (.ifCond .ne (29), 3) := by decide +kernel
theorem d_Mod_driver_4 : decode prog_13_method_34_code 4 = .ok (.aload_n 0, 1) := by decide +kernel
theorem d_Mod_driver_5 : decode prog_13_method_34_code 5 = .ok (.getfield 81, 3) := by decide +kernel
theorem d_Mod_driver_8 : decode prog_13_method_34_code 8 = .ok (.ifCond .eq (11), 3) := by decide +kernel
theorem d_Mod_driver_11 : decode prog_13_method_34_code 11 = .ok (.aload_n 0, 1) := by decide +kernel
theorem d_Mod_driver_12 : decode prog_13_method_34_code 12 = .ok (.getfield 81, 3) := by decide +kernel
theorem d_Mod_driver_15 : decode prog_13_method_34_code 15 = .ok (.iconst 5, 1) := by decide +kernel
theorem d_Mod_driver_16 : decode prog_13_method_34_code 16 = .ok (.if_icmp .ne (14), 3) := by decide +kernel
theorem d_Mod_driver_19 : decode prog_13_method_34_code 19 = .ok (.aload_n 0, 1) := by decide +kernel
theorem d_Mod_driver_20 : decode prog_13_method_34_code 20 = .ok (.getfield 158, 3) := by decide +kernel
theorem d_Mod_driver_23 : decode prog_13_method_34_code 23 = .ok (.ifCond .ne (7), 3) := by decide +kernel
theorem d_Mod_driver_26 : decode prog_13_method_34_code 26 = .ok (.iconst 1, 1) := by decide +kernel
theorem d_Mod_driver_27 : decode prog_13_method_34_code 27 = .ok (.goto (4), 3) := by decide +kernel
theorem d_Mod_driver_30 : decode prog_13_method_34_code 30 = .ok (.iconst 0, 1) := by decide +kernel
theorem d_Mod_driver_31 : decode prog_13_method_34_code 31 = .ok (.istore_n 2, 1) := by decide +kernel
theorem d_Mod_driver_32 : decode prog_13_method_34_code 32 = .ok (.iload_n 1, 1) := by decide +kernel
theorem d_Mod_driver_33 : decode prog_13_method_34_code 33 = .ok (.iconst 1, 1) := by decide +kernel
theorem d_Mod_driver_34 : decode prog_13_method_34_code 34 = .ok (.if_icmp .ne (14), 3) := by decide +kernel
theorem d_Mod_driver_37 : decode prog_13_method_34_code 37 = .ok (.aload_n 0, 1) := by decide +kernel
theorem d_Mod_driver_38 : decode prog_13_method_34_code 38 = .ok (.getfield 101, 3) := by decide +kernel
theorem d_Mod_driver_41 : decode prog_13_method_34_code 41 = .ok (.ifCond .eq (7), 3) := by decide +kernel
theorem d_Mod_driver_44 : decode prog_13_method_34_code 44 = .ok (.iconst 1, 1) := by decide +kernel
theorem d_Mod_driver_45 : decode prog_13_method_34_code 45 = .ok (.goto (4), 3) := by decide +kernel
theorem d_Mod_driver_48 : decode prog_13_method_34_code 48 = .ok (.iconst 0, 1) := by decide +kernel
theorem d_Mod_driver_49 : decode prog_13_method_34_code 49 = .ok (.istore_n 3, 1) := by decide +kernel
theorem d_Mod_driver_50 : decode prog_13_method_34_code 50 = .ok (.iload_n 1, 1) := by decide +kernel
theorem d_Mod_driver_51 : decode prog_13_method_34_code 51 = .ok (.iconst 2, 1) := by decide +kernel
theorem d_Mod_driver_52 : decode prog_13_method_34_code 52 = .ok (.if_icmp .ne (22), 3) := by decide +kernel
theorem d_Mod_driver_55 : decode prog_13_method_34_code 55 = .ok (.aload_n 0, 1) := by decide +kernel
theorem d_Mod_driver_56 : decode prog_13_method_34_code 56 = .ok (.getfield 81, 3) := by decide +kernel
theorem d_Mod_driver_59 : decode prog_13_method_34_code 59 = .ok (.iconst 4, 1) := by decide +kernel
theorem d_Mod_driver_60 : decode prog_13_method_34_code 60 = .ok (.if_icmp .ne (14), 3) := by decide +kernel
theorem d_Mod_driver_63 : decode prog_13_method_34_code 63 = .ok (.aload_n 0, 1) := by decide +kernel
theorem d_Mod_driver_64 : decode prog_13_method_34_code 64 = .ok (.getfield 158, 3) := by decide +kernel
theorem d_Mod_driver_67 : decode prog_13_method_34_code 67 = .ok (.ifCond .ne (7), 3) := by decide +kernel
theorem d_Mod_driver_70 : decode prog_13_method_34_code 70 = .ok (.iconst 1, 1) := by decide +kernel
theorem d_Mod_driver_71 : decode prog_13_method_34_code 71 = .ok (.goto (4), 3) := by decide +kernel
theorem d_Mod_driver_74 : decode prog_13_method_34_code 74 = .ok (.iconst 0, 1) := by decide +kernel
theorem d_Mod_driver_75 : decode prog_13_method_34_code 75 = .ok (.istore 4, 2) := by decide +kernel
theorem d_Mod_driver_77 : decode prog_13_method_34_code 77 = .ok (.iload_n 2, 1) := by decide +kernel
theorem d_Mod_driver_78 : decode prog_13_method_34_code 78 = .ok (.ifCond .ne (14), 3) := by decide +kernel
theorem d_Mod_driver_81 : decode prog_13_method_34_code 81 = .ok (.iload_n 3, 1) := by decide +kernel
theorem d_Mod_driver_82 : decode prog_13_method_34_code 82 = .ok (.ifCond .ne (10), 3) := by decide +kernel
theorem d_Mod_driver_85 : decode prog_13_method_34_code 85 = .ok (.iload 4, 2) := by decide +kernel
theorem d_Mod_driver_87 : decode prog_13_method_34_code 87 = .ok (.ifCond .ne (5), 3) := by decide +kernel
theorem d_Mod_driver_90 : decode prog_13_method_34_code 90 = .ok (.iconst 0, 1) := by decide +kernel
theorem d_Mod_driver_91 : decode prog_13_method_34_code 91 = .ok (.ireturn, 1) := by decide +kernel
theorem d_Mod_driver_92 : decode prog_13_method_34_code 92 = .ok (.aload_n 0, 1) := by decide +kernel
theorem d_Mod_driver_93 : decode prog_13_method_34_code 93 = .ok (.bipush (7), 2) := by decide +kernel
theorem d_Mod_driver_95 : decode prog_13_method_34_code 95 = .ok (.iload_n 1, 1) := by decide +kernel
theorem d_Mod_driver_96 : decode prog_13_method_34_code 96 = .ok (.invokevirtual 84, 3) := by decide +kernel
theorem d_Mod_driver_99 : decode prog_13_method_34_code 99 = .ok (.iload_n 3, 1) := by decide +kernel
theorem d_Mod_driver_100 : decode prog_13_method_34_code 100 = .ok (.ifCond .eq (11), 3) := by decide +kernel
theorem d_Mod_driver_103 : decode prog_13_method_34_code 103 = .ok (.aload_n 0, 1) := by decide +kernel
theorem d_Mod_driver_104 : decode prog_13_method_34_code 104 = .ok (.iconst 0, 1) := by decide +kernel
theorem d_Mod_driver_105 : decode prog_13_method_34_code 105 = .ok (.putfield 101, 3) := by decide +kernel
theorem d_Mod_driver_108 : decode prog_13_method_34_code 108 = .ok (.goto (54), 3) := by decide +kernel
theorem d_Mod_driver_111 : decode prog_13_method_34_code 111 = .ok (.iload 4, 2) := by decide +kernel
theorem d_Mod_driver_113 : decode prog_13_method_34_code 113 = .ok (.ifCond .eq (11), 3) := by decide +kernel
theorem d_Mod_driver_116 : decode prog_13_method_34_code 116 = .ok (.aload_n 0, 1) := by decide +kernel
theorem d_Mod_driver_117 : decode prog_13_method_34_code 117 = .ok (.iconst 5, 1) := by decide +kernel
theorem d_Mod_driver_118 : decode prog_13_method_34_code 118 = .ok (.invokevirtual 104, 3) := by decide +kernel
theorem d_Mod_driver_121 : decode prog_13_method_34_code 121 = .ok (.goto (41), 3) := by decide +kernel
theorem d_Mod_driver_124 : decode prog_13_method_34_code 124 = .ok (.aload_n 0, 1) := by decide +kernel
theorem d_Mod_driver_125 : decode prog_13_method_34_code 125 = .ok (.getfield 88, 3) := by decide +kernel
theorem d_Mod_driver_128 : decode prog_13_method_34_code 128 = .ok (.ifCond .eq (17), 3) := by decide +kernel
theorem d_Mod_driver_131 : decode prog_13_method_34_code 131 = .ok (.aload_n 0, 1) := by decide +kernel
theorem d_Mod_driver_132 : decode prog_13_method_34_code 132 = .ok (.getfield 92, 3) := by decide +kernel
theorem d_Mod_driver_135 : decode prog_13_method_34_code 135 = .ok (.ifCond .le (10), 3) := by decide +kernel
theorem d_Mod_driver_138 : decode prog_13_method_34_code 138 = .ok (.aload_n 0, 1) := by decide +kernel
theorem d_Mod_driver_139 : decode prog_13_method_34_code 139 = .ok (.invokevirtual 186, 3) := by decide +kernel
theorem d_Mod_driver_142 : decode prog_13_method_34_code 142 = .ok (.goto (20), 3) := by decide +kernel
theorem d_Mod_driver_145 : decode prog_13_method_34_code 145 = .ok (.aload_n 0, 1) := by decide +kernel
theorem d_Mod_driver_146 : decode prog_13_method_34_code 146 = .ok (.aload_n 0, 1) := by decide +kernel
theorem d_Mod_driver_147 : decode prog_13_method_34_code 147 = .ok (.getfield 195, 3) := by decide +kernel
theorem d_Mod_driver_150 : decode prog_13_method_34_code 150 = .ok (.sipush (3000), 3) := by decide +kernel
theorem d_Mod_driver_153 : decode prog_13_method_34_code 153 = .ok (.iadd, 1) := by decide +kernel
theorem d_Mod_driver_154 : decode prog_13_method_34_code 154 = .ok (.putfield 216, 3) := by decide +kernel
theorem d_Mod_driver_157 : decode prog_13_method_34_code 157 = .ok (.aload_n 0, 1) := by decide +kernel
theorem d_Mod_driver_158 : decode prog_13_method_34_code 158 = .ok (.iconst 1, 1) := by decide +kernel
theorem d_Mod_driver_159 : decode prog_13_method_34_code 159 = .ok (.invokevirtual 104, 3) := by decide +kernel
theorem d_Mod_driver_162 : decode prog_13_method_34_code 162 = .ok (.iconst 1, 1) := by decide +kernel
theorem d_Mod_driver_163 : decode prog_13_method_34_code 163 = .ok (.ireturn, 1) := by decide +kernel
theorem d_Mod_mode_0 : decode prog_13_method_35_code 0 = .ok (.aload_n 0, 1) := by decide +kernel
theorem d_Mod_mode_1 : decode prog_13_method_35_code 1 = .ok (.getfield 81, 3) := by decide +kernel
theorem d_Mod_mode_4 : decode prog_13_method_35_code 4 = .ok (.ireturn, 1) := by decide +kernel
theorem d_Mod_state_0 : decode prog_13_method_36_code 0 = .ok (.iload_n 1, 1) := by decide +kernel
theorem d_Mod_state_1 : decode prog_13_method_36_code 1 = .ok (.tableswitch (86) (0) (6) #[43, 48, 53, 58, 63, 76, 81], 43) := by decide +kernel
theorem d_Mod_state_44 : decode prog_13_method_36_code 44 = .ok (.aload_n 0, 1) := by decide +kernel
theorem d_Mod_state_45 : decode prog_13_method_36_code 45 = .ok (.getfield 189, 3) := by decide +kernel
theorem d_Mod_state_48 : decode prog_13_method_36_code 48 = .ok (.ireturn, 1) := by decide +kernel
theorem d_Mod_state_49 : decode prog_13_method_36_code 49 = .ok (.aload_n 0, 1) := by decide +kernel
theorem d_Mod_state_50 : decode prog_13_method_36_code 50 = .ok (.getfield 195, 3) := by decide +kernel
theorem d_Mod_state_53 : decode prog_13_method_36_code 53 = .ok (.ireturn, 1) := by decide +kernel
theorem d_Mod_state_54 : decode prog_13_method_36_code 54 = .ok (.aload_n 0, 1) := by decide +kernel
theorem d_Mod_state_55 : decode prog_13_method_36_code 55 = .ok (.getfield 158, 3) := by decide +kernel
theorem d_Mod_state_58 : decode prog_13_method_36_code 58 = .ok (.ireturn, 1) := by decide +kernel
theorem d_Mod_state_59 : decode prog_13_method_36_code 59 = .ok (.aload_n 0, 1) := by decide +kernel
theorem d_Mod_state_60 : decode prog_13_method_36_code 60 = .ok (.getfield 228, 3) := by decide +kernel
theorem d_Mod_state_63 : decode prog_13_method_36_code 63 = .ok (.ireturn, 1) := by decide +kernel
theorem d_Mod_state_64 : decode prog_13_method_36_code 64 = .ok (.aload_n 0, 1) := by decide +kernel
theorem d_Mod_state_65 : decode prog_13_method_36_code 65 = .ok (.getfield 101, 3) := by decide +kernel
theorem d_Mod_state_68 : decode prog_13_method_36_code 68 = .ok (.ifCond .eq (7), 3) := by decide +kernel
theorem d_Mod_state_71 : decode prog_13_method_36_code 71 = .ok (.iconst 1, 1) := by decide +kernel
theorem d_Mod_state_72 : decode prog_13_method_36_code 72 = .ok (.goto (4), 3) := by decide +kernel
theorem d_Mod_state_75 : decode prog_13_method_36_code 75 = .ok (.iconst 0, 1) := by decide +kernel
theorem d_Mod_state_76 : decode prog_13_method_36_code 76 = .ok (.ireturn, 1) := by decide +kernel
theorem d_Mod_state_77 : decode prog_13_method_36_code 77 = .ok (.aload_n 0, 1) := by decide +kernel
theorem d_Mod_state_78 : decode prog_13_method_36_code 78 = .ok (.getfield 75, 3) := by decide +kernel
theorem d_Mod_state_81 : decode prog_13_method_36_code 81 = .ok (.ireturn, 1) := by decide +kernel
theorem d_Mod_state_82 : decode prog_13_method_36_code 82 = .ok (.aload_n 0, 1) := by decide +kernel
theorem d_Mod_state_83 : decode prog_13_method_36_code 83 = .ok (.getfield 114, 3) := by decide +kernel
theorem d_Mod_state_86 : decode prog_13_method_36_code 86 = .ok (.ireturn, 1) := by decide +kernel
theorem d_Mod_state_87 : decode prog_13_method_36_code 87 = .ok (.iconst (-1), 1) := by decide +kernel
theorem d_Mod_state_88 : decode prog_13_method_36_code 88 = .ok (.ireturn, 1) := by decide +kernel
theorem d_Mod_display_0 : decode prog_13_method_37_code 0 = .ok (.aload_n 0, 1) := by decide +kernel
theorem d_Mod_display_1 : decode prog_13_method_37_code 1 = .ok (.getfield 81, 3) := by decide +kernel
theorem d_Mod_display_4 : decode prog_13_method_37_code 4 = .ok (.iconst 4, 1) := by decide +kernel
theorem d_Mod_display_5 : decode prog_13_method_37_code 5 = .ok (.if_icmp .eq (12), 3) := by decide +kernel
theorem d_Mod_display_8 : decode prog_13_method_37_code 8 = .ok (.aload_n 0, 1) := by decide +kernel
theorem d_Mod_display_9 : decode prog_13_method_37_code 9 = .ok (.getfield 81, 3) := by decide +kernel
theorem d_Mod_display_12 : decode prog_13_method_37_code 12 = .ok (.bipush (6), 2) := by decide +kernel
theorem d_Mod_display_14 : decode prog_13_method_37_code 14 = .ok (.if_icmp .ne (7), 3) := by decide +kernel
theorem d_Mod_display_17 : decode prog_13_method_37_code 17 = .ok (.iconst 1, 1) := by decide +kernel
theorem d_Mod_display_18 : decode prog_13_method_37_code 18 = .ok (.goto (4), 3) := by decide +kernel
theorem d_Mod_display_21 : decode prog_13_method_37_code 21 = .ok (.iconst 0, 1) := by decide +kernel
theorem d_Mod_display_22 : decode prog_13_method_37_code 22 = .ok (.istore_n 2, 1) := by decide +kernel
theorem d_Mod_display_23 : decode prog_13_method_37_code 23 = .ok (.iload_n 1, 1) := by decide +kernel
theorem d_Mod_display_24 : decode prog_13_method_37_code 24 = .ok (.tableswitch (107) (0) (3) #[32, 45, 58, 94], 32) := by decide +kernel
theorem d_Mod_display_56 : decode prog_13_method_37_code 56 = .ok (.iload_n 2, 1) := by decide +kernel
theorem d_Mod_display_57 : decode prog_13_method_37_code 57 = .ok (.ifCond .eq (7), 3) := by decide +kernel
theorem d_Mod_display_60 : decode prog_13_method_37_code 60 = .ok (.iconst 0, 1) := by decide +kernel
theorem d_Mod_display_61 : decode prog_13_method_37_code 61 = .ok (.goto (7), 3) := by decide +kernel
theorem d_Mod_display_64 : decode prog_13_method_37_code 64 = .ok (.aload_n 0, 1) := by decide +kernel
theorem d_Mod_display_65 : decode prog_13_method_37_code 65 = .ok (.invokevirtual 231, 3) := by decide +kernel
theorem d_Mod_display_68 : decode prog_13_method_37_code 68 = .ok (.ireturn, 1) := by decide +kernel
theorem d_Mod_display_69 : decode prog_13_method_37_code 69 = .ok (.aload_n 0, 1) := by decide +kernel
theorem d_Mod_display_70 : decode prog_13_method_37_code 70 = .ok (.aload_n 0, 1) := by decide +kernel
theorem d_Mod_display_71 : decode prog_13_method_37_code 71 = .ok (.getfield 158, 3) := by decide +kernel
theorem d_Mod_display_74 : decode prog_13_method_37_code 74 = .ok (.aload_n 0, 1) := by decide +kernel
theorem d_Mod_display_75 : decode prog_13_method_37_code 75 = .ok (.getfield 151, 3) := by decide +kernel
theorem d_Mod_display_78 : decode prog_13_method_37_code 78 = .ok (.invokevirtual 161, 3) := by decide +kernel
theorem d_Mod_display_81 : decode prog_13_method_37_code 81 = .ok (.ireturn, 1) := by decide +kernel
theorem d_Mod_display_82 : decode prog_13_method_37_code 82 = .ok (.aload_n 0, 1) := by decide +kernel
theorem d_Mod_display_83 : decode prog_13_method_37_code 83 = .ok (.getfield 88, 3) := by decide +kernel
theorem d_Mod_display_86 : decode prog_13_method_37_code 86 = .ok (.ifCond .ne (7), 3) := by decide +kernel
theorem d_Mod_display_89 : decode prog_13_method_37_code 89 = .ok (.iconst (-1), 1) := by decide +kernel
theorem d_Mod_display_90 : decode prog_13_method_37_code 90 = .ok (.goto (27), 3) := by decide +kernel
theorem d_Mod_display_93 : decode prog_13_method_37_code 93 = .ok (.aload_n 0, 1) := by decide +kernel
theorem d_Mod_display_94 : decode prog_13_method_37_code 94 = .ok (.getfield 151, 3) := by decide +kernel
theorem d_Mod_display_97 : decode prog_13_method_37_code 97 = .ok (.aload_n 0, 1) := by decide +kernel
theorem d_Mod_display_98 : decode prog_13_method_37_code 98 = .ok (.getfield 195, 3) := by decide +kernel
theorem d_Mod_display_101 : decode prog_13_method_37_code 101 = .ok (.if_icmp .le (15), 3) := by decide +kernel
theorem d_Mod_display_104 : decode prog_13_method_37_code 104 = .ok (.aload_n 0, 1) := by decide +kernel
theorem d_Mod_display_105 : decode prog_13_method_37_code 105 = .ok (.getfield 151, 3) := by decide +kernel
theorem d_Mod_display_108 : decode prog_13_method_37_code 108 = .ok (.aload_n 0, 1) := by decide +kernel
theorem d_Mod_display_109 : decode prog_13_method_37_code 109 = .ok (.getfield 195, 3) := by decide +kernel
theorem d_Mod_display_112 : decode prog_13_method_37_code 112 = .ok (.isub, 1) := by decide +kernel
theorem d_Mod_display_113 : decode prog_13_method_37_code 113 = .ok (.goto (4), 3) := by decide +kernel
theorem d_Mod_display_116 : decode prog_13_method_37_code 116 = .ok (.iconst 0, 1) := by decide +kernel
theorem d_Mod_display_117 : decode prog_13_method_37_code 117 = .ok (.ireturn, 1) := by decide +kernel
theorem d_Mod_display_118 : decode prog_13_method_37_code 118 = .ok (.iload_n 2, 1) := by decide +kernel
theorem d_Mod_display_119 : decode prog_13_method_37_code 119 = .ok (.ifCond .eq (7), 3) := by decide +kernel
theorem d_Mod_display_122 : decode prog_13_method_37_code 122 = .ok (.iconst (-1), 1) := by decide +kernel
theorem d_Mod_display_123 : decode prog_13_method_37_code 123 = .ok (.goto (7), 3) := by decide +kernel
theorem d_Mod_display_126 : decode prog_13_method_37_code 126 = .ok (.aload_n 0, 1) := by decide +kernel
theorem d_Mod_display_127 : decode prog_13_method_37_code 127 = .ok (.invokevirtual 208, 3) := by decide +kernel
theorem d_Mod_display_130 : decode prog_13_method_37_code 130 = .ok (.ireturn, 1) := by decide +kernel
theorem d_Mod_display_131 : decode prog_13_method_37_code 131 = .ok (.iconst (-1), 1) := by decide +kernel
theorem d_Mod_display_132 : decode prog_13_method_37_code 132 = .ok (.ireturn, 1) := by decide +kernel
theorem d_Mod_marks_0 : decode prog_13_method_38_code 0 = .ok (.iload_n 1, 1) := by decide +kernel
theorem d_Mod_marks_1 : decode prog_13_method_38_code 1 = .ok (.ifCond .lt (11), 3) := by decide +kernel
theorem d_Mod_marks_4 : decode prog_13_method_38_code 4 = .ok (.iload_n 1, 1) := by decide +kernel
theorem d_Mod_marks_5 : decode prog_13_method_38_code 5 = .ok (.aload_n 0, 1) := by decide +kernel
theorem d_Mod_marks_6 : decode prog_13_method_38_code 6 = .ok (.getfield 98, 3) := by decide +kernel
theorem d_Mod_marks_9 : decode prog_13_method_38_code 9 = .ok (.if_icmp .lt (7), 3) := by decide +kernel
theorem d_Mod_marks_12 : decode prog_13_method_38_code 12 = .ok (.iconst (-1), 1) := by decide +kernel
theorem d_Mod_marks_13 : decode prog_13_method_38_code 13 = .ok (.goto (37), 3) := by decide +kernel
theorem d_Mod_marks_16 : decode prog_13_method_38_code 16 = .ok (.sipush (1000), 3) := by decide +kernel
theorem d_Mod_marks_19 : decode prog_13_method_38_code 19 = .ok (.aload_n 0, 1) := by decide +kernel
theorem d_Mod_marks_20 : decode prog_13_method_38_code 20 = .ok (.getfield 22, 3) := by decide +kernel
theorem d_Mod_marks_23 : decode prog_13_method_38_code 23 = .ok (.iload_n 1, 1) := by decide +kernel
theorem d_Mod_marks_24 : decode prog_13_method_38_code 24 = .ok (.iaload, 1) := by decide +kernel
theorem d_Mod_marks_25 : decode prog_13_method_38_code 25 = .ok (.imul, 1) := by decide +kernel
theorem d_Mod_marks_26 : decode prog_13_method_38_code 26 = .ok (.iconst 4, 1) := by decide +kernel
theorem d_Mod_marks_27 : decode prog_13_method_38_code 27 = .ok (.aload_n 0, 1) := by decide +kernel
theorem d_Mod_marks_28 : decode prog_13_method_38_code 28 = .ok (.getfield 25, 3) := by decide +kernel
theorem d_Mod_marks_31 : decode prog_13_method_38_code 31 = .ok (.iload_n 1, 1) := by decide +kernel
theorem d_Mod_marks_32 : decode prog_13_method_38_code 32 = .ok (.iaload, 1) := by decide +kernel
theorem d_Mod_marks_33 : decode prog_13_method_38_code 33 = .ok (.imul, 1) := by decide +kernel
theorem d_Mod_marks_34 : decode prog_13_method_38_code 34 = .ok (.iadd, 1) := by decide +kernel
theorem d_Mod_marks_35 : decode prog_13_method_38_code 35 = .ok (.aload_n 0, 1) := by decide +kernel
theorem d_Mod_marks_36 : decode prog_13_method_38_code 36 = .ok (.getfield 31, 3) := by decide +kernel
theorem d_Mod_marks_39 : decode prog_13_method_38_code 39 = .ok (.iload_n 1, 1) := by decide +kernel
theorem d_Mod_marks_40 : decode prog_13_method_38_code 40 = .ok (.baload, 1) := by decide +kernel
theorem d_Mod_marks_41 : decode prog_13_method_38_code 41 = .ok (.ifCond .eq (7), 3) := by decide +kernel
theorem d_Mod_marks_44 : decode prog_13_method_38_code 44 = .ok (.iconst 1, 1) := by decide +kernel
theorem d_Mod_marks_45 : decode prog_13_method_38_code 45 = .ok (.goto (4), 3) := by decide +kernel
theorem d_Mod_marks_48 : decode prog_13_method_38_code 48 = .ok (.iconst 0, 1) := by decide +kernel
theorem d_Mod_marks_49 : decode prog_13_method_38_code 49 = .ok (.iadd, 1) := by decide +kernel
theorem d_Mod_marks_50 : decode prog_13_method_38_code 50 = .ok (.ireturn, 1) := by decide +kernel
theorem d_Mod_note_0 : decode prog_13_method_39_code 0 = .ok (.iload_n 1, 1) := by decide +kernel
theorem d_Mod_note_1 : decode prog_13_method_39_code 1 = .ok (.ifCond .lt (11), 3) := by decide +kernel
theorem d_Mod_note_4 : decode prog_13_method_39_code 4 = .ok (.iload_n 1, 1) := by decide +kernel
theorem d_Mod_note_5 : decode prog_13_method_39_code 5 = .ok (.aload_n 0, 1) := by decide +kernel
theorem d_Mod_note_6 : decode prog_13_method_39_code 6 = .ok (.getfield 78, 3) := by decide +kernel
theorem d_Mod_note_9 : decode prog_13_method_39_code 9 = .ok (.if_icmp .lt (7), 3) := by decide +kernel
theorem d_Mod_note_12 : decode prog_13_method_39_code 12 = .ok (.iconst (-1), 1) := by decide +kernel
theorem d_Mod_note_13 : decode prog_13_method_39_code 13 = .ok (.goto (9), 3) := by decide +kernel
theorem d_Mod_note_16 : decode prog_13_method_39_code 16 = .ok (.aload_n 0, 1) := by decide +kernel
theorem d_Mod_note_17 : decode prog_13_method_39_code 17 = .ok (.getfield 63, 3) := by decide +kernel
theorem d_Mod_note_20 : decode prog_13_method_39_code 20 = .ok (.iload_n 1, 1) := by decide +kernel
theorem d_Mod_note_21 : decode prog_13_method_39_code 21 = .ok (.iaload, 1) := by decide +kernel
theorem d_Mod_note_22 : decode prog_13_method_39_code 22 = .ok (.ireturn, 1) := by decide +kernel
theorem d_Bit_init_0 : decode prog_2_method_1_code 0 = .ok (.aload_n 0, 1) := by decide +kernel
theorem d_Bit_init_1 : decode prog_2_method_1_code 1 = .ok (.invokespecial 3, 3) := by decide +kernel
theorem d_Bit_init_4 : decode prog_2_method_1_code 4 = .ok (.aload_n 0, 1) := by decide +kernel
theorem d_Bit_init_5 : decode prog_2_method_1_code 5 = .ok (.sipush (600), 3) := by decide +kernel
theorem d_Bit_init_8 : decode prog_2_method_1_code 8 = .ok (.newarray .byte, 2) := by decide +kernel
theorem d_Bit_init_10 : decode prog_2_method_1_code 10 = .ok (.putfield 9, 3) := by decide +kernel
theorem d_Bit_init_13 : decode prog_2_method_1_code 13 = .ok (.return_, 1) := by decide +kernel
theorem d_Bit_put_0 : decode prog_2_method_2_code 0 = .ok (.iload_n 2, 1) := by decide +kernel
theorem d_Bit_put_1 : decode prog_2_method_2_code 1 = .ok (.iconst 1, 1) := by decide +kernel
theorem d_Bit_put_2 : decode prog_2_method_2_code 2 = .ok (.if_icmp .lt (21), 3) := by decide +kernel
theorem d_Bit_put_5 : decode prog_2_method_2_code 5 = .ok (.iload_n 2, 1) := by decide +kernel
theorem d_Bit_put_6 : decode prog_2_method_2_code 6 = .ok (.bipush (30), 2) := by decide +kernel
theorem d_Bit_put_8 : decode prog_2_method_2_code 8 = .ok (.if_icmp .gt (15), 3) := by decide +kernel
theorem d_Bit_put_11 : decode prog_2_method_2_code 11 = .ok (.aload_n 0, 1) := by decide +kernel
theorem d_Bit_put_12 : decode prog_2_method_2_code 12 = .ok (.getfield 15, 3) := by decide +kernel
theorem d_Bit_put_15 : decode prog_2_method_2_code 15 = .ok (.iload_n 2, 1) := by decide +kernel
theorem d_Bit_put_16 : decode prog_2_method_2_code 16 = .ok (.iadd, 1) := by decide +kernel
theorem d_Bit_put_17 : decode prog_2_method_2_code 17 = .ok (.sipush (600), 3) := by decide +kernel
theorem d_Bit_put_20 : decode prog_2_method_2_code 20 = .ok (.if_icmp .le (5), 3) := by decide +kernel
theorem d_Bit_put_23 : decode prog_2_method_2_code 23 = .ok (.iconst 0, 1) := by decide +kernel
theorem d_Bit_put_24 : decode prog_2_method_2_code 24 = .ok (.ireturn, 1) := by decide +kernel
theorem d_Bit_put_25 : decode prog_2_method_2_code 25 = .ok (.iload_n 2, 1) := by decide +kernel
theorem d_Bit_put_26 : decode prog_2_method_2_code 26 = .ok (.iconst 1, 1) := by decide +kernel
theorem d_Bit_put_27 : decode prog_2_method_2_code 27 = .ok (.isub, 1) := by decide +kernel
theorem d_Bit_put_28 : decode prog_2_method_2_code 28 = .ok (.istore_n 3, 1) := by decide +kernel
theorem d_Bit_put_29 : decode prog_2_method_2_code 29 = .ok (.iload_n 3, 1) := by decide +kernel
theorem d_Bit_put_30 : decode prog_2_method_2_code 30 = .ok (.ifCond .lt (34), 3) := by decide +kernel
theorem d_Bit_put_33 : decode prog_2_method_2_code 33 = .ok (.aload_n 0, 1) := by decide +kernel
theorem d_Bit_put_34 : decode prog_2_method_2_code 34 = .ok (.getfield 9, 3) := by decide +kernel
theorem d_Bit_put_37 : decode prog_2_method_2_code 37 = .ok (.aload_n 0, 1) := by decide +kernel
theorem d_Bit_put_38 : decode prog_2_method_2_code 38 = .ok (.getfield 15, 3) := by decide +kernel
theorem d_Bit_put_41 : decode prog_2_method_2_code 41 = .ok (.iload_n 1, 1) := by decide +kernel
theorem d_Bit_put_42 : decode prog_2_method_2_code 42 = .ok (.iload_n 3, 1) := by decide +kernel
theorem d_Bit_put_43 : decode prog_2_method_2_code 43 = .ok (.ishr, 1) := by decide +kernel
theorem d_Bit_put_44 : decode prog_2_method_2_code 44 = .ok (.iconst 1, 1) := by decide +kernel
theorem d_Bit_put_45 : decode prog_2_method_2_code 45 = .ok (.iand, 1) := by decide +kernel
theorem d_Bit_put_46 : decode prog_2_method_2_code 46 = .ok (.i2b, 1) := by decide +kernel
theorem d_Bit_put_47 : decode prog_2_method_2_code 47 = .ok (.bastore, 1) := by decide +kernel
theorem d_Bit_put_48 : decode prog_2_method_2_code 48 = .ok (.aload_n 0, 1) := by decide +kernel
theorem d_Bit_put_49 : decode prog_2_method_2_code 49 = .ok (.dup, 1) := by decide +kernel
theorem d_Bit_put_50 : decode prog_2_method_2_code 50 = .ok (.getfield 15, 3) := by decide +kernel
theorem d_Bit_put_53 : decode prog_2_method_2_code 53 = .ok (.iconst 1, 1) := by decide +kernel
theorem d_Bit_put_54 : decode prog_2_method_2_code 54 = .ok (.iadd, 1) := by decide +kernel
theorem d_Bit_put_55 : decode prog_2_method_2_code 55 = .ok (.putfield 15, 3) := by decide +kernel
theorem d_Bit_put_58 : decode prog_2_method_2_code 58 = .ok (.iinc 3 (-1), 3) := by decide +kernel
theorem d_Bit_put_61 : decode prog_2_method_2_code 61 = .ok (.goto (-32), 3) := by decide +kernel
theorem d_Bit_put_64 : decode prog_2_method_2_code 64 = .ok (.iconst 1, 1) := by decide +kernel
theorem d_Bit_put_65 : decode prog_2_method_2_code 65 = .ok (.ireturn, 1) := by decide +kernel
theorem d_Bit_clear_0 : decode prog_2_method_3_code 0 = .ok (.aload_n 0, 1) := by decide +kernel
theorem d_Bit_clear_1 : decode prog_2_method_3_code 1 = .ok (.iconst 0, 1) := by decide +kernel
theorem d_Bit_clear_2 : decode prog_2_method_3_code 2 = .ok (.putfield 15, 3) := by decide +kernel
theorem d_Bit_clear_5 : decode prog_2_method_3_code 5 = .ok (.return_, 1) := by decide +kernel
theorem d_Bit_begin_0 : decode prog_2_method_4_code 0 = .ok (.aload_n 0, 1) := by decide +kernel
theorem d_Bit_begin_1 : decode prog_2_method_4_code 1 = .ok (.iconst 0, 1) := by decide +kernel
theorem d_Bit_begin_2 : decode prog_2_method_4_code 2 = .ok (.putfield 19, 3) := by decide +kernel
theorem d_Bit_begin_5 : decode prog_2_method_4_code 5 = .ok (.aload_n 0, 1) := by decide +kernel
theorem d_Bit_begin_6 : decode prog_2_method_4_code 6 = .ok (.iconst 0, 1) := by decide +kernel
theorem d_Bit_begin_7 : decode prog_2_method_4_code 7 = .ok (.putfield 22, 3) := by decide +kernel
theorem d_Bit_begin_10 : decode prog_2_method_4_code 10 = .ok (.return_, 1) := by decide +kernel
theorem d_Bit_left_0 : decode prog_2_method_5_code 0 = .ok (.aload_n 0, 1) := by decide +kernel
theorem d_Bit_left_1 : decode prog_2_method_5_code 1 = .ok (.getfield 15, 3) := by decide +kernel
theorem d_Bit_left_4 : decode prog_2_method_5_code 4 = .ok (.aload_n 0, 1) := by decide +kernel
theorem d_Bit_left_5 : decode prog_2_method_5_code 5 = .ok (.getfield 19, 3) := by decide +kernel
theorem d_Bit_left_8 : decode prog_2_method_5_code 8 = .ok (.isub, 1) := by decide +kernel
theorem d_Bit_left_9 : decode prog_2_method_5_code 9 = .ok (.ireturn, 1) := by decide +kernel
theorem d_Bit_isSound_0 : decode prog_2_method_6_code 0 = .ok (.aload_n 0, 1) := by decide +kernel
theorem d_Bit_isSound_1 : decode prog_2_method_6_code 1 = .ok (.getfield 22, 3) := by decide +kernel
theorem d_Bit_isSound_4 : decode prog_2_method_6_code 4 = .ok (.ifCond .ne (7), 3) := by decide +kernel
theorem d_Bit_isSound_7 : decode prog_2_method_6_code 7 = .ok (.iconst 1, 1) := by decide +kernel
theorem d_Bit_isSound_8 : decode prog_2_method_6_code 8 = .ok (.goto (4), 3) := by decide +kernel
theorem d_Bit_isSound_11 : decode prog_2_method_6_code 11 = .ok (.iconst 0, 1) := by decide +kernel
theorem d_Bit_isSound_12 : decode prog_2_method_6_code 12 = .ok (.ireturn, 1) := by decide +kernel
theorem d_Bit_need_0 : decode prog_2_method_7_code 0 = .ok (.aload_n 0, 1) := by decide +kernel
theorem d_Bit_need_1 : decode prog_2_method_7_code 1 = .ok (.getfield 22, 3) := by decide +kernel
theorem d_Bit_need_4 : decode prog_2_method_7_code 4 = .ok (.ifCond .ne (12), 3) := by decide +kernel
theorem d_Bit_need_7 : decode prog_2_method_7_code 7 = .ok (.iload_n 1, 1) := by decide +kernel
theorem d_Bit_need_8 : decode prog_2_method_7_code 8 = .ok (.ifCond .ne (8), 3) := by decide +kernel
theorem d_Bit_need_11 : decode prog_2_method_7_code 11 = .ok (.aload_n 0, 1) := by decide +kernel
theorem d_Bit_need_12 : decode prog_2_method_7_code 12 = .ok (.iload_n 2, 1) := by decide +kernel
theorem d_Bit_need_13 : decode prog_2_method_7_code 13 = .ok (.putfield 22, 3) := by decide +kernel
theorem d_Bit_need_16 : decode prog_2_method_7_code 16 = .ok (.return_, 1) := by decide +kernel
