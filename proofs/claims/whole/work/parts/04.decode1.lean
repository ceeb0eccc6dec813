theorem d_G_addTargetsOf_0 : decode prog_1_method_33_code 0 = .ok (.iconst 0, 1) := by decide +kernel
theorem d_G_addTargetsOf_1 : decode prog_1_method_33_code 1 = .ok (.istore_n 2, 1) := by decide +kernel
theorem d_G_addTargetsOf_2 : decode prog_1_method_33_code 2 = .ok (.iload_n 2, 1) := by decide +kernel
theorem d_G_addTargetsOf_3 : decode prog_1_method_33_code 3 = .ok (.aload_n 1, 1) := by decide +kernel
theorem d_G_addTargetsOf_4 : decode prog_1_method_33_code 4 = .ok (.getfield 299, 3) := by decide +kernel
theorem d_G_addTargetsOf_7 : decode prog_1_method_33_code 7 = .ok (.if_icmp .ge (41), 3) := by decide +kernel
theorem d_G_addTargetsOf_10 : decode prog_1_method_33_code 10 = .ok (.aload_n 1, 1) := by decide +kernel
theorem d_G_addTargetsOf_11 : decode prog_1_method_33_code 11 = .ok (.getfield 300, 3) := by decide +kernel
theorem d_G_addTargetsOf_14 : decode prog_1_method_33_code 14 = .ok (.iload_n 2, 1) := by decide +kernel
theorem d_G_addTargetsOf_15 : decode prog_1_method_33_code 15 = .ok (.iaload, 1) := by decide +kernel
theorem d_G_addTargetsOf_16 : decode prog_1_method_33_code 16 = .ok (.aload_n 0, 1) := by decide +kernel
theorem d_G_addTargetsOf_17 : decode prog_1_method_33_code 17 = .ok (.getfield 10, 3) := by decide +kernel
theorem d_G_addTargetsOf_20 : decode prog_1_method_33_code 20 = .ok (.getfield 115, 3) := by decide +kernel
theorem d_G_addTargetsOf_23 : decode prog_1_method_33_code 23 = .ok (.if_icmp .le (19), 3) := by decide +kernel
theorem d_G_addTargetsOf_26 : decode prog_1_method_33_code 26 = .ok (.aload_n 0, 1) := by decide +kernel
theorem d_G_addTargetsOf_27 : decode prog_1_method_33_code 27 = .ok (.aload_n 1, 1) := by decide +kernel
theorem d_G_addTargetsOf_28 : decode prog_1_method_33_code 28 = .ok (.getfield 300, 3) := by decide +kernel
theorem d_G_addTargetsOf_31 : decode prog_1_method_33_code 31 = .ok (.iload_n 2, 1) := by decide +kernel
theorem d_G_addTargetsOf_32 : decode prog_1_method_33_code 32 = .ok (.iaload, 1) := by decide +kernel
theorem d_G_addTargetsOf_33 : decode prog_1_method_33_code 33 = .ok (.aload_n 1, 1) := by decide +kernel
theorem d_G_addTargetsOf_34 : decode prog_1_method_33_code 34 = .ok (.getfield 304, 3) := by decide +kernel
theorem d_G_addTargetsOf_37 : decode prog_1_method_33_code 37 = .ok (.iload_n 2, 1) := by decide +kernel
theorem d_G_addTargetsOf_38 : decode prog_1_method_33_code 38 = .ok (.iaload, 1) := by decide +kernel
theorem d_G_addTargetsOf_39 : decode prog_1_method_33_code 39 = .ok (.invokevirtual 286, 3) := by decide +kernel
theorem d_G_addTargetsOf_42 : decode prog_1_method_33_code 42 = .ok (.iinc 2 (1), 3) := by decide +kernel
theorem d_G_addTargetsOf_45 : decode prog_1_method_33_code 45 = .ok (.goto (-43), 3) := by decide +kernel
theorem d_G_addTargetsOf_48 : decode prog_1_method_33_code 48 = .ok (.return_, 1) := by decide +kernel
theorem d_G_addTarget_0 : decode prog_1_method_34_code 0 = .ok (.aload_n 0, 1) := by decide +kernel
theorem d_G_addTarget_1 : decode prog_1_method_34_code 1 = .ok (.getfield 67, 3) := by decide +kernel
theorem d_G_addTarget_4 : decode prog_1_method_34_code 4 = .ok (.iload_n 1, 1) := by decide +kernel
theorem d_G_addTarget_5 : decode prog_1_method_34_code 5 = .ok (.iload_n 2, 1) := by decide +kernel
theorem d_G_addTarget_6 : decode prog_1_method_34_code 6 = .ok (.aload_n 0, 1) := by decide +kernel
theorem d_G_addTarget_7 : decode prog_1_method_34_code 7 = .ok (.getfield 19, 3) := by decide +kernel
theorem d_G_addTarget_10 : decode prog_1_method_34_code 10 = .ok (.getfield 307, 3) := by decide +kernel
theorem d_G_addTarget_13 : decode prog_1_method_34_code 13 = .ok (.aload_n 0, 1) := by decide +kernel
theorem d_G_addTarget_14 : decode prog_1_method_34_code 14 = .ok (.getfield 10, 3) := by decide +kernel
theorem d_G_addTarget_17 : decode prog_1_method_34_code 17 = .ok (.getfield 121, 3) := by decide +kernel
theorem d_G_addTarget_20 : decode prog_1_method_34_code 20 = .ok (.aload_n 0, 1) := by decide +kernel
theorem d_G_addTarget_21 : decode prog_1_method_34_code 21 = .ok (.getfield 71, 3) := by decide +kernel
theorem d_G_addTarget_24 : decode prog_1_method_34_code 24 = .ok (.isub, 1) := by decide +kernel
theorem d_G_addTarget_25 : decode prog_1_method_34_code 25 = .ok (.iload_n 1, 1) := by decide +kernel
theorem d_G_addTarget_26 : decode prog_1_method_34_code 26 = .ok (.invokevirtual 310, 3) := by decide +kernel
theorem d_G_addTarget_29 : decode prog_1_method_34_code 29 = .ok (.invokevirtual 313, 3) := by decide +kernel
theorem d_G_addTarget_32 : decode prog_1_method_34_code 32 = .ok (.return_, 1) := by decide +kernel
theorem d_Mod_init_0 : decode prog_13_method_1_code 0 = .ok (.aload_n 0, 1) := by decide +kernel
theorem d_Mod_init_1 : decode prog_13_method_1_code 1 = .ok (.invokespecial 1, 3) := by decide +kernel
theorem d_Mod_init_4 : decode prog_13_method_1_code 4 = .ok (.aload_n 0, 1) := by decide +kernel
theorem d_Mod_init_5 : decode prog_13_method_1_code 5 = .ok (.bipush (7), 2) := by decide +kernel
theorem d_Mod_init_7 : decode prog_13_method_1_code 7 = .ok (.newarray .int, 2) := by decide +kernel
theorem d_Mod_init_9 : decode prog_13_method_1_code 9 = .ok (.putfield 7, 3) := by decide +kernel
theorem d_Mod_init_12 : decode prog_13_method_1_code 12 = .ok (.aload_n 0, 1) := by decide +kernel
theorem d_Mod_init_13 : decode prog_13_method_1_code 13 = .ok (.bipush (7), 2) := by decide +kernel
theorem d_Mod_init_15 : decode prog_13_method_1_code 15 = .ok (.newarray .int, 2) := by decide +kernel
theorem d_Mod_init_17 : decode prog_13_method_1_code 17 = .ok (.putfield 13, 3) := by decide +kernel
theorem d_Mod_init_20 : decode prog_13_method_1_code 20 = .ok (.aload_n 0, 1) := by decide +kernel
theorem d_Mod_init_21 : decode prog_13_method_1_code 21 = .ok (.bipush (7), 2) := by decide +kernel
theorem d_Mod_init_23 : decode prog_13_method_1_code 23 = .ok (.newarray .int, 2) := by decide +kernel
theorem d_Mod_init_25 : decode prog_13_method_1_code 25 = .ok (.putfield 16, 3) := by decide +kernel
theorem d_Mod_init_28 : decode prog_13_method_1_code 28 = .ok (.aload_n 0, 1) := by decide +kernel
theorem d_Mod_init_29 : decode prog_13_method_1_code 29 = .ok (.bipush (7), 2) := by decide +kernel
theorem d_Mod_init_31 : decode prog_13_method_1_code 31 = .ok (.newarray .int, 2) := by decide +kernel
theorem d_Mod_init_33 : decode prog_13_method_1_code 33 = .ok (.putfield 19, 3) := by decide +kernel
theorem d_Mod_init_36 : decode prog_13_method_1_code 36 = .ok (.aload_n 0, 1) := by decide +kernel
theorem d_Mod_init_37 : decode prog_13_method_1_code 37 = .ok (.bipush (7), 2) := by decide +kernel
theorem d_Mod_init_39 : decode prog_13_method_1_code 39 = .ok (.newarray .int, 2) := by decide +kernel
theorem d_Mod_init_41 : decode prog_13_method_1_code 41 = .ok (.putfield 22, 3) := by decide +kernel
theorem d_Mod_init_44 : decode prog_13_method_1_code 44 = .ok (.aload_n 0, 1) := by decide +kernel
theorem d_Mod_init_45 : decode prog_13_method_1_code 45 = .ok (.bipush (7), 2) := by decide +kernel
theorem d_Mod_init_47 : decode prog_13_method_1_code 47 = .ok (.newarray .int, 2) := by decide +kernel
theorem d_Mod_init_49 : decode prog_13_method_1_code 49 = .ok (.putfield 25, 3) := by decide +kernel
theorem d_Mod_init_52 : decode prog_13_method_1_code 52 = .ok (.aload_n 0, 1) := by decide +kernel
theorem d_Mod_init_53 : decode prog_13_method_1_code 53 = .ok (.bipush (7), 2) := by decide +kernel
theorem d_Mod_init_55 : decode prog_13_method_1_code 55 = .ok (.newarray .int, 2) := by decide +kernel
theorem d_Mod_init_57 : decode prog_13_method_1_code 57 = .ok (.putfield 28, 3) := by decide +kernel
theorem d_Mod_init_60 : decode prog_13_method_1_code 60 = .ok (.aload_n 0, 1) := by decide +kernel
theorem d_Mod_init_61 : decode prog_13_method_1_code 61 = .ok (.bipush (7), 2) := by decide +kernel
theorem d_Mod_init_63 : decode prog_13_method_1_code 63 = .ok (.newarray .boolean, 2) := by decide +kernel
theorem d_Mod_init_65 : decode prog_13_method_1_code 65 = .ok (.putfield 31, 3) := by decide +kernel
theorem d_Mod_init_68 : decode prog_13_method_1_code 68 = .ok (.aload_n 0, 1) := by decide +kernel
theorem d_Mod_init_69 : decode prog_13_method_1_code 69 = .ok (.bipush (6), 2) := by decide +kernel
theorem d_Mod_init_71 : decode prog_13_method_1_code 71 = .ok (.newarray .int, 2) := by decide +kernel
theorem d_Mod_init_73 : decode prog_13_method_1_code 73 = .ok (.putfield 35, 3) := by decide +kernel
theorem d_Mod_init_76 : decode prog_13_method_1_code 76 = .ok (.aload_n 0, 1) := by decide +kernel
theorem d_Mod_init_77 : decode prog_13_method_1_code 77 = .ok (.bipush (6), 2) := by decide +kernel
theorem d_Mod_init_79 : decode prog_13_method_1_code 79 = .ok (.newarray .int, 2) := by decide +kernel
theorem d_Mod_init_81 : decode prog_13_method_1_code 81 = .ok (.putfield 38, 3) := by decide +kernel
theorem d_Mod_init_84 : decode prog_13_method_1_code 84 = .ok (.aload_n 0, 1) := by decide +kernel
theorem d_Mod_init_85 : decode prog_13_method_1_code 85 = .ok (.bipush (6), 2) := by decide +kernel
theorem d_Mod_init_87 : decode prog_13_method_1_code 87 = .ok (.newarray .int, 2) := by decide +kernel
theorem d_Mod_init_89 : decode prog_13_method_1_code 89 = .ok (.putfield 41, 3) := by decide +kernel
theorem d_Mod_init_92 : decode prog_13_method_1_code 92 = .ok (.aload_n 0, 1) := by decide +kernel
theorem d_Mod_init_93 : decode prog_13_method_1_code 93 = .ok (.bipush (6), 2) := by decide +kernel
theorem d_Mod_init_95 : decode prog_13_method_1_code 95 = .ok (.newarray .int, 2) := by decide +kernel
theorem d_Mod_init_97 : decode prog_13_method_1_code 97 = .ok (.putfield 44, 3) := by decide +kernel
theorem d_Mod_init_100 : decode prog_13_method_1_code 100 = .ok (.aload_n 0, 1) := by decide +kernel
theorem d_Mod_init_101 : decode prog_13_method_1_code 101 = .ok (.iconst (-1), 1) := by decide +kernel
theorem d_Mod_init_102 : decode prog_13_method_1_code 102 = .ok (.putfield 47, 3) := by decide +kernel
theorem d_Mod_init_105 : decode prog_13_method_1_code 105 = .ok (.aload_n 0, 1) := by decide +kernel
theorem d_Mod_init_106 : decode prog_13_method_1_code 106 = .ok (.sipush (600), 3) := by decide +kernel
theorem d_Mod_init_109 : decode prog_13_method_1_code 109 = .ok (.newarray .int, 2) := by decide +kernel
theorem d_Mod_init_111 : decode prog_13_method_1_code 111 = .ok (.putfield 51, 3) := by decide +kernel
theorem d_Mod_init_114 : decode prog_13_method_1_code 114 = .ok (.aload_n 0, 1) := by decide +kernel
theorem d_Mod_init_115 : decode prog_13_method_1_code 115 = .ok (.bipush (6), 2) := by decide +kernel
theorem d_Mod_init_117 : decode prog_13_method_1_code 117 = .ok (.newarray .boolean, 2) := by decide +kernel
theorem d_Mod_init_119 : decode prog_13_method_1_code 119 = .ok (.putfield 54, 3) := by decide +kernel
theorem d_Mod_init_122 : decode prog_13_method_1_code 122 = .ok (.aload_n 0, 1) := by decide +kernel
theorem d_Mod_init_123 : decode prog_13_method_1_code 123 = .ok (.bipush (6), 2) := by decide +kernel
theorem d_Mod_init_125 : decode prog_13_method_1_code 125 = .ok (.newarray .int, 2) := by decide +kernel
theorem d_Mod_init_127 : decode prog_13_method_1_code 127 = .ok (.putfield 57, 3) := by decide +kernel
theorem d_Mod_init_130 : decode prog_13_method_1_code 130 = .ok (.aload_n 0, 1) := by decide +kernel
theorem d_Mod_init_131 : decode prog_13_method_1_code 131 = .ok (.bipush (126), 2) := by decide +kernel
theorem d_Mod_init_133 : decode prog_13_method_1_code 133 = .ok (.newarray .int, 2) := by decide +kernel
theorem d_Mod_init_135 : decode prog_13_method_1_code 135 = .ok (.putfield 60, 3) := by decide +kernel
theorem d_Mod_init_138 : decode prog_13_method_1_code 138 = .ok (.aload_n 0, 1) := by decide +kernel
theorem d_Mod_init_139 : decode prog_13_method_1_code 139 = .ok (.bipush (16), 2) := by decide +kernel
theorem d_Mod_init_141 : decode prog_13_method_1_code 141 = .ok (.newarray .int, 2) := by decide +kernel
theorem d_Mod_init_143 : decode prog_13_method_1_code 143 = .ok (.putfield 63, 3) := by decide +kernel
theorem d_Mod_init_146 : decode prog_13_method_1_code 146 = .ok (.iload_n 1, 1) := by decide +kernel
theorem d_Mod_init_147 : decode prog_13_method_1_code 147 = .ok (.iconst 4, 1) := by decide +kernel
theorem d_Mod_init_148 : decode prog_13_method_1_code 148 = .ok (.if_icmp .ge (7), 3) := by decide +kernel
theorem d_Mod_init_151 : decode prog_13_method_1_code 151 = .ok (.iconst 4, 1) := by decide +kernel
theorem d_Mod_init_152 : decode prog_13_method_1_code 152 = .ok (.goto (15), 3) := by decide +kernel
theorem d_Mod_init_155 : decode prog_13_method_1_code 155 = .ok (.iload_n 1, 1) := by decide +kernel
theorem d_Mod_init_156 : decode prog_13_method_1_code 156 = .ok (.bipush (40), 2) := by decide +kernel
theorem d_Mod_init_158 : decode prog_13_method_1_code 158 = .ok (.if_icmp .le (8), 3) := by decide +kernel
theorem d_Mod_init_161 : decode prog_13_method_1_code 161 = .ok (.bipush (40), 2) := by decide +kernel
theorem d_Mod_init_163 : decode prog_13_method_1_code 163 = .ok (.goto (4), 3) := by decide +kernel
theorem d_Mod_init_166 : decode prog_13_method_1_code 166 = .ok (.iload_n 1, 1) := by decide +kernel
theorem d_Mod_init_167 : decode prog_13_method_1_code 167 = .ok (.istore 4, 2) := by decide +kernel
theorem d_Mod_init_169 : decode prog_13_method_1_code 169 = .ok (.aload_n 0, 1) := by decide +kernel
theorem d_Mod_init_170 : decode prog_13_method_1_code 170 = .ok (.iload 4, 2) := by decide +kernel
theorem d_Mod_init_172 : decode prog_13_method_1_code 172 = .ok (.putfield 66, 3) := by decide +kernel
theorem d_Mod_init_175 : decode prog_13_method_1_code 175 = .ok (.aload_n 0, 1) := by decide +kernel
theorem d_Mod_init_176 : decode prog_13_method_1_code 176 = .ok (.iload_n 2, 1) := by decide +kernel
theorem d_Mod_init_177 : decode prog_13_method_1_code 177 = .ok (.iconst 2, 1) := by decide +kernel
theorem d_Mod_init_178 : decode prog_13_method_1_code 178 = .ok (.if_icmp .ge (7), 3) := by decide +kernel
theorem d_Mod_init_181 : decode prog_13_method_1_code 181 = .ok (.iconst 2, 1) := by decide +kernel
theorem d_Mod_init_182 : decode prog_13_method_1_code 182 = .ok (.goto (15), 3) := by decide +kernel
theorem d_Mod_init_185 : decode prog_13_method_1_code 185 = .ok (.iload_n 2, 1) := by decide +kernel
theorem d_Mod_init_186 : decode prog_13_method_1_code 186 = .ok (.iload 4, 2) := by decide +kernel
theorem d_Mod_init_188 : decode prog_13_method_1_code 188 = .ok (.if_icmp .le (8), 3) := by decide +kernel
theorem d_Mod_init_191 : decode prog_13_method_1_code 191 = .ok (.iload 4, 2) := by decide +kernel
theorem d_Mod_init_193 : decode prog_13_method_1_code 193 = .ok (.goto (4), 3) := by decide +kernel
theorem d_Mod_init_196 : decode prog_13_method_1_code 196 = .ok (.iload_n 2, 1) := by decide +kernel
theorem d_Mod_init_197 : decode prog_13_method_1_code 197 = .ok (.putfield 69, 3) := by decide +kernel
theorem d_Mod_init_200 : decode prog_13_method_1_code 200 = .ok (.aload_n 0, 1) := by decide +kernel
theorem d_Mod_init_201 : decode prog_13_method_1_code 201 = .ok (.iload_n 3, 1) := by decide +kernel
theorem d_Mod_init_202 : decode prog_13_method_1_code 202 = .ok (.ifCond .ge (7), 3) := by decide +kernel
theorem d_Mod_init_205 : decode prog_13_method_1_code 205 = .ok (.iconst 0, 1) := by decide +kernel
theorem d_Mod_init_206 : decode prog_13_method_1_code 206 = .ok (.goto (17), 3) := by decide +kernel
theorem d_Mod_init_209 : decode prog_13_method_1_code 209 = .ok (.iload_n 3, 1) := by decide +kernel
theorem d_Mod_init_210 : decode prog_13_method_1_code 210 = .ok (.sipush (4000), 3) := by decide +kernel
theorem d_Mod_init_213 : decode prog_13_method_1_code 213 = .ok (.if_icmp .le (9), 3) := by decide +kernel
theorem d_Mod_init_216 : decode prog_13_method_1_code 216 = .ok (.sipush (4000), 3) := by decide +kernel
theorem d_Mod_init_219 : decode prog_13_method_1_code 219 = .ok (.goto (4), 3) := by decide +kernel
theorem d_Mod_init_222 : decode prog_13_method_1_code 222 = .ok (.iload_n 3, 1) := by decide +kernel
theorem d_Mod_init_223 : decode prog_13_method_1_code 223 = .ok (.putfield 72, 3) := by decide +kernel
theorem d_Mod_init_226 : decode prog_13_method_1_code 226 = .ok (.return_, 1) := by decide +kernel
theorem d_Mod_write_0 : decode prog_13_method_2_code 0 = .ok (.bipush (15), 2) := by decide +kernel
theorem d_Mod_write_2 : decode prog_13_method_2_code 2 = .ok (.istore_n 3, 1) := by decide +kernel
theorem d_Mod_write_3 : decode prog_13_method_2_code 3 = .ok (.iload_n 3, 1) := by decide +kernel
theorem d_Mod_write_4 : decode prog_13_method_2_code 4 = .ok (.ifCond .le (23), 3) := by decide +kernel
theorem d_Mod_write_7 : decode prog_13_method_2_code 7 = .ok (.aload_n 0, 1) := by decide +kernel
theorem d_Mod_write_8 : decode prog_13_method_2_code 8 = .ok (.getfield 63, 3) := by decide +kernel
theorem d_Mod_write_11 : decode prog_13_method_2_code 11 = .ok (.iload_n 3, 1) := by decide +kernel
theorem d_Mod_write_12 : decode prog_13_method_2_code 12 = .ok (.aload_n 0, 1) := by decide +kernel
theorem d_Mod_write_13 : decode prog_13_method_2_code 13 = .ok (.getfield 63, 3) := by decide +kernel
theorem d_Mod_write_16 : decode prog_13_method_2_code 16 = .ok (.iload_n 3, 1) := by decide +kernel
theorem d_Mod_write_17 : decode prog_13_method_2_code 17 = .ok (.iconst 1, 1) := by decide +kernel
theorem d_Mod_write_18 : decode prog_13_method_2_code 18 = .ok (.isub, 1) := by decide +kernel
theorem d_Mod_write_19 : decode prog_13_method_2_code 19 = .ok (.iaload, 1) := by decide +kernel
theorem d_Mod_write_20 : decode prog_13_method_2_code 20 = .ok (.iastore, 1) := by decide +kernel
theorem d_Mod_write_21 : decode prog_13_method_2_code 21 = .ok (.iinc 3 (-1), 3) := by decide +kernel
theorem d_Mod_write_24 : decode prog_13_method_2_code 24 = .ok (.goto (-21), 3) := by decide +kernel
theorem d_Mod_write_27 : decode prog_13_method_2_code 27 = .ok (.aload_n 0, 1) := by decide +kernel
theorem d_Mod_write_28 : decode prog_13_method_2_code 28 = .ok (.getfield 63, 3) := by decide +kernel
theorem d_Mod_write_31 : decode prog_13_method_2_code 31 = .ok (.iconst 0, 1) := by decide +kernel
theorem d_Mod_write_32 : decode prog_13_method_2_code 32 = .ok (.sipush (10000), 3) := by decide +kernel
theorem d_Mod_write_35 : decode prog_13_method_2_code 35 = .ok (.aload_n 0, 1) := by decide +kernel
theorem d_Mod_write_36 : decode prog_13_method_2_code 36 = .ok (.getfield 75, 3) := by decide +kernel
theorem d_Mod_write_39 : decode prog_13_method_2_code 39 = .ok (.imul, 1) := by decide +kernel
theorem d_Mod_write_40 : decode prog_13_method_2_code 40 = .ok (.bipush (100), 2) := by decide +kernel
theorem d_Mod_write_42 : decode prog_13_method_2_code 42 = .ok (.iload_n 1, 1) := by decide +kernel
theorem d_Mod_write_43 : decode prog_13_method_2_code 43 = .ok (.imul, 1) := by decide +kernel
theorem d_Mod_write_44 : decode prog_13_method_2_code 44 = .ok (.iadd, 1) := by decide +kernel
theorem d_Mod_write_45 : decode prog_13_method_2_code 45 = .ok (.iload_n 2, 1) := by decide +kernel
theorem d_Mod_write_46 : decode prog_13_method_2_code 46 = .ok (.iadd, 1) := by decide +kernel
theorem d_Mod_write_47 : decode prog_13_method_2_code 47 = .ok (.iastore, 1) := by decide +kernel
theorem d_Mod_write_48 : decode prog_13_method_2_code 48 = .ok (.aload_n 0, 1) := by decide +kernel
theorem d_Mod_write_49 : decode prog_13_method_2_code 49 = .ok (.aload_n 0, 1) := by decide +kernel
theorem d_Mod_write_50 : decode prog_13_method_2_code 50 = .ok (.getfield 78, 3) := by decide +kernel
theorem d_Mod_write_53 : decode prog_13_method_2_code 53 = .ok (.bipush (16), 2) := by decide +kernel
theorem d_Mod_write_55 : decode prog_13_method_2_code 55 = .ok (.if_icmp .ge (12), 3) := by decide +kernel
theorem d_Mod_write_58 : decode prog_13_method_2_code 58 = .ok (.aload_n 0, 1) := by decide +kernel
theorem d_Mod_write_59 : decode prog_13_method_2_code 59 = .ok (.getfield 78, 3) := by decide +kernel
theorem d_Mod_write_62 : decode prog_13_method_2_code 62 = .ok (.iconst 1, 1) := by decide +kernel
theorem d_Mod_write_63 : decode prog_13_method_2_code 63 = .ok (.iadd, 1) := by decide +kernel
theorem d_Mod_write_64 : decode prog_13_method_2_code 64 = .ok (.goto (5), 3) := by decide +kernel
theorem d_Mod_write_67 : decode prog_13_method_2_code 67 = .ok (.bipush (16), 2) := by decide +kernel
theorem d_Mod_write_69 : decode prog_13_method_2_code 69 = .ok (.putfield 78, 3) := by decide +kernel
theorem d_Mod_write_72 : decode prog_13_method_2_code 72 = .ok (.return_, 1) := by decide +kernel
theorem d_Mod_become_0 : decode prog_13_method_3_code 0 = .ok (.iload_n 1, 1) := by decide +kernel
theorem d_Mod_become_1 : decode prog_13_method_3_code 1 = .ok (.aload_n 0, 1) := by decide +kernel
theorem d_Mod_become_2 : decode prog_13_method_3_code 2 = .ok (.getfield 81, 3) := by decide +kernel
theorem d_Mod_become_5 : decode prog_13_method_3_code 5 = .ok (.if_icmp .eq (14), 3) := by decide +kernel
theorem d_Mod_become_8 : decode prog_13_method_3_code 8 = .ok (.aload_n 0, 1) := by decide +kernel
theorem d_Mod_become_9 : decode prog_13_method_3_code 9 = .ok (.iload_n 1, 1) := by decide +kernel
theorem d_Mod_become_10 : decode prog_13_method_3_code 10 = .ok (.putfield 81, 3) := by decide +kernel
theorem d_Mod_become_13 : decode prog_13_method_3_code 13 = .ok (.aload_n 0, 1) := by decide +kernel
theorem d_Mod_become_14 : decode prog_13_method_3_code 14 = .ok (.iconst 1, 1) := by decide +kernel
theorem d_Mod_become_15 : decode prog_13_method_3_code 15 = .ok (.iload_n 1, 1) := by decide +kernel
theorem d_Mod_become_16 : decode prog_13_method_3_code 16 = .ok (.invokevirtual 84, 3) := by decide +kernel
theorem d_Mod_become_19 : decode prog_13_method_3_code 19 = .ok (.return_, 1) := by decide +kernel
theorem d_Mod_trips_0 : decode prog_13_method_4_code 0 = .ok (.aload_n 0, 1) := by decide +kernel
theorem d_Mod_trips_1 : decode prog_13_method_4_code 1 = .ok (.iconst 0, 1) := by decide +kernel
theorem d_Mod_trips_2 : decode prog_13_method_4_code 2 = .ok (.putfield 88, 3) := by decide +kernel
theorem d_Mod_trips_5 : decode prog_13_method_4_code 5 = .ok (.aload_n 0, 1) := by decide +kernel
theorem d_Mod_trips_6 : decode prog_13_method_4_code 6 = .ok (.iconst 0, 1) := by decide +kernel
theorem d_Mod_trips_7 : decode prog_13_method_4_code 7 = .ok (.putfield 92, 3) := by decide +kernel
theorem d_Mod_trips_10 : decode prog_13_method_4_code 10 = .ok (.aload_n 0, 1) := by decide +kernel
theorem d_Mod_trips_11 : decode prog_13_method_4_code 11 = .ok (.iconst 0, 1) := by decide +kernel
theorem d_Mod_trips_12 : decode prog_13_method_4_code 12 = .ok (.putfield 95, 3) := by decide +kernel
theorem d_Mod_trips_15 : decode prog_13_method_4_code 15 = .ok (.aload_n 0, 1) := by decide +kernel
theorem d_Mod_trips_16 : decode prog_13_method_4_code 16 = .ok (.iconst 0, 1) := by decide +kernel
theorem d_Mod_trips_17 : decode prog_13_method_4_code 17 = .ok (.putfield 98, 3) := by decide +kernel
theorem d_Mod_trips_20 : decode prog_13_method_4_code 20 = .ok (.aload_n 0, 1) := by decide +kernel
theorem d_Mod_trips_21 : decode prog_13_method_4_code 21 = .ok (.iconst 0, 1) := by decide +kernel
theorem d_Mod_trips_22 : decode prog_13_method_4_code 22 = .ok (.putfield 101, 3) := by decide +kernel
theorem d_Mod_trips_25 : decode prog_13_method_4_code 25 = .ok (.aload_n 0, 1) := by decide +kernel
theorem d_Mod_trips_26 : decode prog_13_method_4_code 26 = .ok (.iconst 4, 1) := by decide +kernel
theorem d_Mod_trips_27 : decode prog_13_method_4_code 27 = .ok (.invokevirtual 104, 3) := by decide +kernel
theorem d_Mod_trips_30 : decode prog_13_method_4_code 30 = .ok (.return_, 1) := by decide +kernel
theorem d_Mod_enters_0 : decode prog_13_method_5_code 0 = .ok (.aload_n 0, 1) := by decide +kernel
theorem d_Mod_enters_1 : decode prog_13_method_5_code 1 = .ok (.getfield 108, 3) := by decide +kernel
theorem d_Mod_enters_4 : decode prog_13_method_5_code 4 = .ok (.iconst 3, 1) := by decide +kernel
theorem d_Mod_enters_5 : decode prog_13_method_5_code 5 = .ok (.if_icmp .ne (21), 3) := by decide +kernel
theorem d_Mod_enters_8 : decode prog_13_method_5_code 8 = .ok (.aload_n 0, 1) := by decide +kernel
theorem d_Mod_enters_9 : decode prog_13_method_5_code 9 = .ok (.getfield 81, 3) := by decide +kernel
theorem d_Mod_enters_12 : decode prog_13_method_5_code 12 = .ok (.iconst 3, 1) := by decide +kernel
theorem d_Mod_enters_13 : decode prog_13_method_5_code 13 = .ok (.if_icmp .eq (13), 3) := by decide +kernel
theorem d_Mod_enters_16 : decode prog_13_method_5_code 16 = .ok (.aload_n 0, 1) := by decide +kernel
theorem d_Mod_enters_17 : decode prog_13_method_5_code 17 = .ok (.iconst 1, 1) := by decide +kernel
theorem d_Mod_enters_18 : decode prog_13_method_5_code 18 = .ok (.putfield 101, 3) := by decide +kernel
theorem d_Mod_enters_21 : decode prog_13_method_5_code 21 = .ok (.aload_n 0, 1) := by decide +kernel
theorem d_Mod_enters_22 : decode prog_13_method_5_code 22 = .ok (.iconst 0, 1) := by decide +kernel
theorem d_Mod_enters_23 : decode prog_13_method_5_code 23 = .ok (.putfield 111, 3) := by decide +kernel
theorem d_Mod_enters_26 : decode prog_13_method_5_code 26 = .ok (.aload_n 0, 1) := by decide +kernel
theorem d_Mod_enters_27 : decode prog_13_method_5_code 27 = .ok (.getfield 108, 3) := by decide +kernel
theorem d_Mod_enters_30 : decode prog_13_method_5_code 30 = .ok (.iconst 2, 1) := by decide +kernel
theorem d_Mod_enters_31 : decode prog_13_method_5_code 31 = .ok (.if_icmp .ne (8), 3) := by decide +kernel
theorem d_Mod_enters_34 : decode prog_13_method_5_code 34 = .ok (.aload_n 0, 1) := by decide +kernel
theorem d_Mod_enters_35 : decode prog_13_method_5_code 35 = .ok (.iconst 0, 1) := by decide +kernel
theorem d_Mod_enters_36 : decode prog_13_method_5_code 36 = .ok (.putfield 101, 3) := by decide +kernel
theorem d_Mod_enters_39 : decode prog_13_method_5_code 39 = .ok (.aload_n 0, 1) := by decide +kernel
theorem d_Mod_enters_40 : decode prog_13_method_5_code 40 = .ok (.aload_n 0, 1) := by decide +kernel
theorem d_Mod_enters_41 : decode prog_13_method_5_code 41 = .ok (.getfield 108, 3) := by decide +kernel
theorem d_Mod_enters_44 : decode prog_13_method_5_code 44 = .ok (.invokevirtual 104, 3) := by decide +kernel
theorem d_Mod_enters_47 : decode prog_13_method_5_code 47 = .ok (.return_, 1) := by decide +kernel
theorem d_Mod_watched_0 : decode prog_13_method_6_code 0 = .ok (.aload_n 0, 1) := by decide +kernel
theorem d_Mod_watched_1 : decode prog_13_method_6_code 1 = .ok (.getfield 81, 3) := by decide +kernel
theorem d_Mod_watched_4 : decode prog_13_method_6_code 4 = .ok (.iconst 2, 1) := by decide +kernel
theorem d_Mod_watched_5 : decode prog_13_method_6_code 5 = .ok (.if_icmp .eq (11), 3) := by decide +kernel
theorem d_Mod_watched_8 : decode prog_13_method_6_code 8 = .ok (.aload_n 0, 1) := by decide +kernel
theorem d_Mod_watched_9 : decode prog_13_method_6_code 9 = .ok (.getfield 81, 3) := by decide +kernel
theorem d_Mod_watched_12 : decode prog_13_method_6_code 12 = .ok (.iconst 3, 1) := by decide +kernel
theorem d_Mod_watched_13 : decode prog_13_method_6_code 13 = .ok (.if_icmp .ne (7), 3) := by decide +kernel
theorem d_Mod_watched_16 : decode prog_13_method_6_code 16 = .ok (.iconst 1, 1) := by decide +kernel
theorem d_Mod_watched_17 : decode prog_13_method_6_code 17 = .ok (.goto (4), 3) := by decide +kernel
theorem d_Mod_watched_20 : decode prog_13_method_6_code 20 = .ok (.iconst 0, 1) := by decide +kernel
theorem d_Mod_watched_21 : decode prog_13_method_6_code 21 = .ok (.ireturn, 1) := by decide +kernel
theorem d_Mod_bits_0 : decode prog_13_method_7_code 0 = .ok (.iload_n 2, 1) := by decide +kernel
theorem d_Mod_bits_1 : decode prog_13_method_7_code 1 = .ok (.iconst 1, 1) := by decide +kernel
theorem d_Mod_bits_2 : decode prog_13_method_7_code 2 = .ok (.if_icmp .lt (21), 3) := by decide +kernel
theorem d_Mod_bits_5 : decode prog_13_method_7_code 5 = .ok (.iload_n 2, 1) := by decide +kernel
theorem d_Mod_bits_6 : decode prog_13_method_7_code 6 = .ok (.bipush (30), 2) := by decide +kernel
theorem d_Mod_bits_8 : decode prog_13_method_7_code 8 = .ok (.if_icmp .gt (15), 3) := by decide +kernel
theorem d_Mod_bits_11 : decode prog_13_method_7_code 11 = .ok (.aload_n 0, 1) := by decide +kernel
theorem d_Mod_bits_12 : decode prog_13_method_7_code 12 = .ok (.getfield 114, 3) := by decide +kernel
theorem d_Mod_bits_15 : decode prog_13_method_7_code 15 = .ok (.iload_n 2, 1) := by decide +kernel
theorem d_Mod_bits_16 : decode prog_13_method_7_code 16 = .ok (.iadd, 1) := by decide +kernel
theorem d_Mod_bits_17 : decode prog_13_method_7_code 17 = .ok (.sipush (600), 3) := by decide +kernel
theorem d_Mod_bits_20 : decode prog_13_method_7_code 20 = .ok (.if_icmp .le (5), 3) := by decide +kernel
theorem d_Mod_bits_23 : decode prog_13_method_7_code 23 = .ok (.iconst 0, 1) := by decide +kernel
theorem d_Mod_bits_24 : decode prog_13_method_7_code 24 = .ok (.ireturn, 1) := by decide +kernel
theorem d_Mod_bits_25 : decode prog_13_method_7_code 25 = .ok (.iload_n 2, 1) := by decide +kernel
theorem d_Mod_bits_26 : decode prog_13_method_7_code 26 = .ok (.iconst 1, 1) := by decide +kernel
theorem d_Mod_bits_27 : decode prog_13_method_7_code 27 = .ok (.isub, 1) := by decide +kernel
theorem d_Mod_bits_28 : decode prog_13_method_7_code 28 = .ok (.istore_n 3, 1) := by decide +kernel
theorem d_Mod_bits_29 : decode prog_13_method_7_code 29 = .ok (.iload_n 3, 1) := by decide +kernel
theorem d_Mod_bits_30 : decode prog_13_method_7_code 30 = .ok (.ifCond .lt (33), 3) := by decide +kernel
theorem d_Mod_bits_33 : decode prog_13_method_7_code 33 = .ok (.aload_n 0, 1) := by decide +kernel
theorem d_Mod_bits_34 : decode prog_13_method_7_code 34 = .ok (.getfield 51, 3) := by decide +kernel
theorem d_Mod_bits_37 : decode prog_13_method_7_code 37 = .ok (.aload_n 0, 1) := by decide +kernel
theorem d_Mod_bits_38 : decode prog_13_method_7_code 38 = .ok (.getfield 114, 3) := by decide +kernel
theorem d_Mod_bits_41 : decode prog_13_method_7_code 41 = .ok (.iload_n 1, 1) := by decide +kernel
theorem d_Mod_bits_42 : decode prog_13_method_7_code 42 = .ok (.iload_n 3, 1) := by decide +kernel
theorem d_Mod_bits_43 : decode prog_13_method_7_code 43 = .ok (.ishr, 1) := by decide +kernel
theorem d_Mod_bits_44 : decode prog_13_method_7_code 44 = .ok (.iconst 1, 1) := by decide +kernel
theorem d_Mod_bits_45 : decode prog_13_method_7_code 45 = .ok (.iand, 1) := by decide +kernel
theorem d_Mod_bits_46 : decode prog_13_method_7_code 46 = .ok (.iastore, 1) := by decide +kernel
theorem d_Mod_bits_47 : decode prog_13_method_7_code 47 = .ok (.aload_n 0, 1) := by decide +kernel
theorem d_Mod_bits_48 : decode prog_13_method_7_code 48 = .ok (.dup, 1) := by decide +kernel
theorem d_Mod_bits_49 : decode prog_13_method_7_code 49 = .ok (.getfield 114, 3) := by decide +kernel
theorem d_Mod_bits_52 : decode prog_13_method_7_code 52 = .ok (.iconst 1, 1) := by decide +kernel
theorem d_Mod_bits_53 : decode prog_13_method_7_code 53 = .ok (.iadd, 1) := by decide +kernel
theorem d_Mod_bits_54 : decode prog_13_method_7_code 54 = .ok (.putfield 114, 3) := by decide +kernel
theorem d_Mod_bits_57 : decode prog_13_method_7_code 57 = .ok (.iinc 3 (-1), 3) := by decide +kernel
theorem d_Mod_bits_60 : decode prog_13_method_7_code 60 = .ok (.goto (-31), 3) := by decide +kernel
theorem d_Mod_bits_63 : decode prog_13_method_7_code 63 = .ok (.iconst 1, 1) := by decide +kernel
theorem d_Mod_bits_64 : decode prog_13_method_7_code 64 = .ok (.ireturn, 1) := by decide +kernel
theorem d_Mod_read_0 : decode prog_13_method_8_code 0 = .ok (.aload_n 0, 1) := by decide +kernel
theorem d_Mod_read_1 : decode prog_13_method_8_code 1 = .ok (.getfield 117, 3) := by decide +kernel
theorem d_Mod_read_4 : decode prog_13_method_8_code 4 = .ok (.ifCond .ne (21), 3) := by decide +kernel
theorem d_Mod_read_7 : decode prog_13_method_8_code 7 = .ok (.aload_n 0, 1) := by decide +kernel
theorem d_Mod_read_8 : decode prog_13_method_8_code 8 = .ok (.getfield 120, 3) := by decide +kernel
theorem d_Mod_read_11 : decode prog_13_method_8_code 11 = .ok (.iload_n 1, 1) := by decide +kernel
theorem d_Mod_read_12 : decode prog_13_method_8_code 12 = .ok (.iadd, 1) := by decide +kernel
theorem d_Mod_read_13 : decode prog_13_method_8_code 13 = .ok (.aload_n 0, 1) := by decide +kernel
theorem d_Mod_read_14 : decode prog_13_method_8_code 14 = .ok (.getfield 114, 3) := by decide +kernel
theorem d_Mod_read_17 : decode prog_13_method_8_code 17 = .ok (.if_icmp .le (8), 3) := by decide +kernel
theorem d_Mod_read_20 : decode prog_13_method_8_code 20 = .ok (.aload_n 0, 1) := by decide +kernel
theorem d_Mod_read_21 : decode prog_13_method_8_code 21 = .ok (.iconst 2, 1) := by decide +kernel
theorem d_Mod_read_22 : decode prog_13_method_8_code 22 = .ok (.putfield 117, 3) := by decide +kernel
theorem d_Mod_read_25 : decode prog_13_method_8_code 25 = .ok (.aload_n 0, 1) := by decide +kernel
theorem d_Mod_read_26 : decode prog_13_method_8_code 26 = .ok (.getfield 117, 3) := by decide +kernel
theorem d_Mod_read_29 : decode prog_13_method_8_code 29 = .ok (.ifCond .eq (5), 3) := by decide +kernel
theorem d_Mod_read_32 : decode prog_13_method_8_code 32 = .ok (.iconst 0, 1) := by decide +kernel
theorem d_Mod_read_33 : decode prog_13_method_8_code 33 = .ok (.ireturn, 1) := by decide +kernel
theorem d_Mod_read_34 : decode prog_13_method_8_code 34 = .ok (.iconst 0, 1) := by decide +kernel
theorem d_Mod_read_35 : decode prog_13_method_8_code 35 = .ok (.istore_n 2, 1) := by decide +kernel
theorem d_Mod_read_36 : decode prog_13_method_8_code 36 = .ok (.iconst 0, 1) := by decide +kernel
theorem d_Mod_read_37 : decode prog_13_method_8_code 37 = .ok (.istore_n 3, 1) := by decide +kernel
theorem d_Mod_read_38 : decode prog_13_method_8_code 38 = .ok (.iload_n 3, 1) := by decide +kernel
theorem d_Mod_read_39 : decode prog_13_method_8_code 39 = .ok (.iload_n 1, 1) := by decide +kernel
theorem d_Mod_read_40 : decode prog_13_method_8_code 40 = .ok (.if_icmp .ge (33), 3) := by decide +kernel
theorem d_Mod_read_43 : decode prog_13_method_8_code 43 = .ok (.iconst 2, 1) := by decide +kernel
theorem d_Mod_read_44 : decode prog_13_method_8_code 44 = .ok (.iload_n 2, 1) := by decide +kernel
theorem d_Mod_read_45 : decode prog_13_method_8_code 45 = .ok (.imul, 1) := by decide +kernel
theorem d_Mod_read_46 : decode prog_13_method_8_code 46 = .ok (.aload_n 0, 1) := by decide +kernel
theorem d_Mod_read_47 : decode prog_13_method_8_code 47 = .ok (.getfield 51, 3) := by decide +kernel
theorem d_Mod_read_50 : decode prog_13_method_8_code 50 = .ok (.aload_n 0, 1) := by decide +kernel
theorem d_Mod_read_51 : decode prog_13_method_8_code 51 = .ok (.getfield 120, 3) := by decide +kernel
theorem d_Mod_read_54 : decode prog_13_method_8_code 54 = .ok (.iaload, 1) := by decide +kernel
theorem d_Mod_read_55 : decode prog_13_method_8_code 55 = .ok (.iadd, 1) := by decide +kernel
theorem d_Mod_read_56 : decode prog_13_method_8_code 56 = .ok (.istore_n 2, 1) := by decide +kernel
theorem d_Mod_read_57 : decode prog_13_method_8_code 57 = .ok (.aload_n 0, 1) := by decide +kernel
theorem d_Mod_read_58 : decode prog_13_method_8_code 58 = .ok (.dup, 1) := by decide +kernel
theorem d_Mod_read_59 : decode prog_13_method_8_code 59 = .ok (.getfield 120, 3) := by decide +kernel
theorem d_Mod_read_62 : decode prog_13_method_8_code 62 = .ok (.iconst 1, 1) := by decide +kernel
theorem d_Mod_read_63 : decode prog_13_method_8_code 63 = .ok (.iadd, 1) := by decide +kernel
theorem d_Mod_read_64 : decode prog_13_method_8_code 64 = .ok (.putfield 120, 3) := by decide +kernel
theorem d_Mod_read_67 : decode prog_13_method_8_code 67 = .ok (.iinc 3 (1), 3) := by decide +kernel
theorem d_Mod_read_70 : decode prog_13_method_8_code 70 = .ok (.goto (-32), 3) := by decide +kernel
theorem d_Mod_read_73 : decode prog_13_method_8_code 73 = .ok (.iload_n 2, 1) := by decide +kernel
theorem d_Mod_read_74 : decode prog_13_method_8_code 74 = .ok (.ireturn, 1) := by decide +kernel
theorem d_Mod_check_0 : decode prog_13_method_9_code 0 = .ok (.aload_n 0, 1) := by decide +kernel
theorem d_Mod_check_1 : decode prog_13_method_9_code 1 = .ok (.getfield 117, 3) := by decide +kernel
theorem d_Mod_check_4 : decode prog_13_method_9_code 4 = .ok (.ifCond .ne (12), 3) := by decide +kernel
theorem d_Mod_check_7 : decode prog_13_method_9_code 7 = .ok (.iload_n 1, 1) := by decide +kernel
theorem d_Mod_check_8 : decode prog_13_method_9_code 8 = .ok (.ifCond .ne (8), 3) := by decide +kernel
theorem d_Mod_check_11 : decode prog_13_method_9_code 11 = .ok (.aload_n 0, 1) := by decide +kernel
theorem d_Mod_check_12 : decode prog_13_method_9_code 12 = .ok (.iload_n 2, 1) := by decide +kernel
theorem d_Mod_check_13 : decode prog_13_method_9_code 13 = .ok (.putfield 117, 3) := by decide +kernel
theorem d_Mod_check_16 : decode prog_13_method_9_code 16 = .ok (.return_, 1) := by decide +kernel
theorem d_Mod_slotOf_0 : decode prog_13_method_10_code 0 = .ok (.iload_n 0, 1) := by decide +kernel
theorem d_Mod_slotOf_1 : decode prog_13_method_10_code 1 = .ok (.iconst 5, 1) := by decide +kernel
theorem d_Mod_slotOf_2 : decode prog_13_method_10_code 2 = .ok (.if_icmp .ne (7), 3) := by decide +kernel
theorem d_Mod_slotOf_5 : decode prog_13_method_10_code 5 = .ok (.iconst 0, 1) := by decide +kernel
theorem d_Mod_slotOf_6 : decode prog_13_method_10_code 6 = .ok (.goto (54), 3) := by decide +kernel
theorem d_Mod_slotOf_9 : decode prog_13_method_10_code 9 = .ok (.iload_n 0, 1) := by decide +kernel
theorem d_Mod_slotOf_10 : decode prog_13_method_10_code 10 = .ok (.bipush (15), 2) := by decide +kernel
theorem d_Mod_slotOf_12 : decode prog_13_method_10_code 12 = .ok (.if_icmp .ne (7), 3) := by decide +kernel
theorem d_Mod_slotOf_15 : decode prog_13_method_10_code 15 = .ok (.iconst 1, 1) := by decide +kernel
theorem d_Mod_slotOf_16 : decode prog_13_method_10_code 16 = .ok (.goto (44), 3) := by decide +kernel
theorem d_Mod_slotOf_19 : decode prog_13_method_10_code 19 = .ok (.iload_n 0, 1) := by decide +kernel
theorem d_Mod_slotOf_20 : decode prog_13_method_10_code 20 = .ok (.bipush (21), 2) := by decide +kernel
theorem d_Mod_slotOf_22 : decode prog_13_method_10_code 22 = .ok (.if_icmp .ne (7), 3) := by decide +kernel
theorem d_Mod_slotOf_25 : decode prog_13_method_10_code 25 = .ok (.iconst 2, 1) := by decide +kernel
theorem d_Mod_slotOf_26 : decode prog_13_method_10_code 26 = .ok (.goto (34), 3) := by decide +kernel
theorem d_Mod_slotOf_29 : decode prog_13_method_10_code 29 = .ok (.iload_n 0, 1) := by decide +kernel
theorem d_Mod_slotOf_30 : decode prog_13_method_10_code 30 = .ok (.bipush (27), 2) := by decide +kernel
theorem d_Mod_slotOf_32 : decode prog_13_method_10_code 32 = .ok (.if_icmp .ne (7), 3) := by decide +kernel
theorem d_Mod_slotOf_35 : decode prog_13_method_10_code 35 = .ok (.iconst 3, 1) := by decide +kernel
theorem d_Mod_slotOf_36 : decode prog_13_method_10_code 36 = .ok (.goto (24), 3) := by decide +kernel
theorem d_Mod_slotOf_39 : decode prog_13_method_10_code 39 = .ok (.iload_n 0, 1) := by decide +kernel
theorem d_Mod_slotOf_40 : decode prog_13_method_10_code 40 = .ok (.bipush (65), 2) := by decide +kernel
theorem d_Mod_slotOf_42 : decode prog_13_method_10_code 42 = .ok (.if_icmp .ne (7), 3) := by decide +kernel
theorem d_Mod_slotOf_45 : decode prog_13_method_10_code 45 = .ok (.iconst 4, 1) := by decide +kernel
theorem d_Mod_slotOf_46 : decode prog_13_method_10_code 46 = .ok (.goto (14), 3) := by decide +kernel
theorem d_Mod_slotOf_49 : decode prog_13_method_10_code 49 = .ok (.iload_n 0, 1) := by decide +kernel
theorem d_Mod_slotOf_50 : decode prog_13_method_10_code 50 = .ok (.bipush (66), 2) := by decide +kernel
theorem d_Mod_slotOf_52 : decode prog_13_method_10_code 52 = .ok (.if_icmp .ne (7), 3) := by decide +kernel
theorem d_Mod_slotOf_55 : decode prog_13_method_10_code 55 = .ok (.iconst 5, 1) := by decide +kernel
theorem d_Mod_slotOf_56 : decode prog_13_method_10_code 56 = .ok (.goto (4), 3) := by decide +kernel
theorem d_Mod_slotOf_59 : decode prog_13_method_10_code 59 = .ok (.iconst (-1), 1) := by decide +kernel
theorem d_Mod_slotOf_60 : decode prog_13_method_10_code 60 = .ok (.ireturn, 1) := by decide +kernel
theorem d_Mod_told_0 : decode prog_13_method_11_code 0 = .ok (.aload_n 0, 1) := by decide +kernel
theorem d_Mod_told_1 : decode prog_13_method_11_code 1 = .ok (.getfield 60, 3) := by decide +kernel
theorem d_Mod_told_4 : decode prog_13_method_11_code 4 = .ok (.bipush (21), 2) := by decide +kernel
theorem d_Mod_told_6 : decode prog_13_method_11_code 6 = .ok (.iload_n 1, 1) := by decide +kernel
theorem d_Mod_told_7 : decode prog_13_method_11_code 7 = .ok (.imul, 1) := by decide +kernel
theorem d_Mod_told_8 : decode prog_13_method_11_code 8 = .ok (.iconst 3, 1) := by decide +kernel
theorem d_Mod_told_9 : decode prog_13_method_11_code 9 = .ok (.iload_n 2, 1) := by decide +kernel
theorem d_Mod_told_10 : decode prog_13_method_11_code 10 = .ok (.imul, 1) := by decide +kernel
theorem d_Mod_told_11 : decode prog_13_method_11_code 11 = .ok (.iadd, 1) := by decide +kernel
theorem d_Mod_told_12 : decode prog_13_method_11_code 12 = .ok (.iload_n 3, 1) := by decide +kernel
theorem d_Mod_told_13 : decode prog_13_method_11_code 13 = .ok (.iadd, 1) := by decide +kernel
theorem d_Mod_told_14 : decode prog_13_method_11_code 14 = .ok (.iaload, 1) := by decide +kernel
theorem d_Mod_told_15 : decode prog_13_method_11_code 15 = .ok (.ireturn, 1) := by decide +kernel
theorem d_Mod_tell_0 : decode prog_13_method_12_code 0 = .ok (.aload_n 0, 1) := by decide +kernel
theorem d_Mod_tell_1 : decode prog_13_method_12_code 1 = .ok (.getfield 60, 3) := by decide +kernel
theorem d_Mod_tell_4 : decode prog_13_method_12_code 4 = .ok (.bipush (21), 2) := by decide +kernel
theorem d_Mod_tell_6 : decode prog_13_method_12_code 6 = .ok (.iload_n 1, 1) := by decide +kernel
theorem d_Mod_tell_7 : decode prog_13_method_12_code 7 = .ok (.imul, 1) := by decide +kernel
theorem d_Mod_tell_8 : decode prog_13_method_12_code 8 = .ok (.iconst 3, 1) := by decide +kernel
theorem d_Mod_tell_9 : decode prog_13_method_12_code 9 = .ok (.iload_n 2, 1) := by decide +kernel
theorem d_Mod_tell_10 : decode prog_13_method_12_code 10 = .ok (.imul, 1) := by decide +kernel
theorem d_Mod_tell_11 : decode prog_13_method_12_code 11 = .ok (.iadd, 1) := by decide +kernel
theorem d_Mod_tell_12 : decode prog_13_method_12_code 12 = .ok (.iload_n 3, 1) := by decide +kernel
theorem d_Mod_tell_13 : decode prog_13_method_12_code 13 = .ok (.iadd, 1) := by decide +kernel
theorem d_Mod_tell_14 : decode prog_13_method_12_code 14 = .ok (.iload 4, 2) := by decide +kernel
theorem d_Mod_tell_16 : decode prog_13_method_12_code 16 = .ok (.iastore, 1) := by decide +kernel
theorem d_Mod_tell_17 : decode prog_13_method_12_code 17 = .ok (.return_, 1) := by decide +kernel
theorem d_Mod_limitOf_0 : decode prog_13_method_13_code 0 = .ok (.iconst 5, 1) := by decide +kernel
theorem d_Mod_limitOf_1 : decode prog_13_method_13_code 1 = .ok (.iload_n 0, 1) := by decide +kernel
theorem d_Mod_limitOf_2 : decode prog_13_method_13_code 2 = .ok (.imul, 1) := by decide +kernel
theorem d_Mod_limitOf_3 : decode prog_13_method_13_code 3 = .ok (.sipush (600), 3) := by decide +kernel
theorem d_Mod_limitOf_6 : decode prog_13_method_13_code 6 = .ok (.if_icmp .le (9), 3) := by decide +kernel
theorem d_Mod_limitOf_9 : decode prog_13_method_13_code 9 = .ok (.sipush (600), 3) := by decide +kernel
theorem d_Mod_limitOf_12 : decode prog_13_method_13_code 12 = .ok (.goto (6), 3) := by decide +kernel
theorem d_Mod_limitOf_15 : decode prog_13_method_13_code 15 = .ok (.iconst 5, 1) := by decide +kernel
theorem d_Mod_limitOf_16 : decode prog_13_method_13_code 16 = .ok (.iload_n 0, 1) := by decide +kernel
theorem d_Mod_limitOf_17 : decode prog_13_method_13_code 17 = .ok (.imul, 1) := by decide +kernel
theorem d_Mod_limitOf_18 : decode prog_13_method_13_code 18 = .ok (.ireturn, 1) := by decide +kernel
theorem d_Mod_packets_0 : decode prog_13_method_14_code 0 = .ok (.aload_n 0, 1) := by decide +kernel
theorem d_Mod_packets_1 : decode prog_13_method_14_code 1 = .ok (.getfield 117, 3) := by decide +kernel
theorem d_Mod_packets_4 : decode prog_13_method_14_code 4 = .ok (.ifCond .ne (142), 3) := by decide +kernel
theorem d_Mod_packets_7 : decode prog_13_method_14_code 7 = .ok (.aload_n 0, 1) := by decide +kernel
theorem d_Mod_packets_8 : decode prog_13_method_14_code 8 = .ok (.getfield 120, 3) := by decide +kernel
theorem d_Mod_packets_11 : decode prog_13_method_14_code 11 = .ok (.aload_n 0, 1) := by decide +kernel
theorem d_Mod_packets_12 : decode prog_13_method_14_code 12 = .ok (.getfield 114, 3) := by decide +kernel
theorem d_Mod_packets_15 : decode prog_13_method_14_code 15 = .ok (.if_icmp .ge (131), 3) := by decide +kernel
theorem d_Mod_packets_18 : decode prog_13_method_14_code 18 = .ok (.aload_n 0, 1) := by decide +kernel
theorem d_Mod_packets_19 : decode prog_13_method_14_code 19 = .ok (.getfield 120, 3) := by decide +kernel
theorem d_Mod_packets_22 : decode prog_13_method_14_code 22 = .ok (.istore_n 1, 1) := by decide +kernel
theorem d_Mod_packets_23 : decode prog_13_method_14_code 23 = .ok (.aload_n 0, 1) := by decide +kernel
theorem d_Mod_packets_24 : decode prog_13_method_14_code 24 = .ok (.bipush (8), 2) := by decide +kernel
theorem d_Mod_packets_26 : decode prog_13_method_14_code 26 = .ok (.invokevirtual 123, 3) := by decide +kernel
theorem d_Mod_packets_29 : decode prog_13_method_14_code 29 = .ok (.invokestatic 127, 3) := by decide +kernel
theorem d_Mod_packets_32 : decode prog_13_method_14_code 32 = .ok (.istore_n 2, 1) := by decide +kernel
theorem d_Mod_packets_33 : decode prog_13_method_14_code 33 = .ok (.aload_n 0, 1) := by decide +kernel
theorem d_Mod_packets_34 : decode prog_13_method_14_code 34 = .ok (.iload_n 2, 1) := by decide +kernel
theorem d_Mod_packets_35 : decode prog_13_method_14_code 35 = .ok (.ifCond .lt (7), 3) := by decide +kernel
theorem d_Mod_packets_38 : decode prog_13_method_14_code 38 = .ok (.iconst 1, 1) := by decide +kernel
theorem d_Mod_packets_39 : decode prog_13_method_14_code 39 = .ok (.goto (4), 3) := by decide +kernel
theorem d_Mod_packets_42 : decode prog_13_method_14_code 42 = .ok (.iconst 0, 1) := by decide +kernel
theorem d_Mod_packets_43 : decode prog_13_method_14_code 43 = .ok (.iconst 4, 1) := by decide +kernel
theorem d_Mod_packets_44 : decode prog_13_method_14_code 44 = .ok (.invokevirtual 130, 3) := by decide +kernel
theorem d_Mod_packets_47 : decode prog_13_method_14_code 47 = .ok (.aload_n 0, 1) := by decide +kernel
theorem d_Mod_packets_48 : decode prog_13_method_14_code 48 = .ok (.iload_n 2, 1) := by decide +kernel
theorem d_Mod_packets_49 : decode prog_13_method_14_code 49 = .ok (.ifCond .lt (12), 3) := by decide +kernel
theorem d_Mod_packets_52 : decode prog_13_method_14_code 52 = .ok (.aload_n 0, 1) := by decide +kernel
theorem d_Mod_packets_53 : decode prog_13_method_14_code 53 = .ok (.getfield 54, 3) := by decide +kernel
theorem d_Mod_packets_56 : decode prog_13_method_14_code 56 = .ok (.iload_n 2, 1) := by decide +kernel
theorem d_Mod_packets_57 : decode prog_13_method_14_code 57 = .ok (.baload, 1) := by decide +kernel
theorem d_Mod_packets_58 : decode prog_13_method_14_code 58 = .ok (.ifCond .ne (7), 3) := by decide +kernel
theorem d_Mod_packets_61 : decode prog_13_method_14_code 61 = .ok (.iconst 1, 1) := by decide +kernel
theorem d_Mod_packets_62 : decode prog_13_method_14_code 62 = .ok (.goto (4), 3) := by decide +kernel
theorem d_Mod_packets_65 : decode prog_13_method_14_code 65 = .ok (.iconst 0, 1) := by decide +kernel
theorem d_Mod_packets_66 : decode prog_13_method_14_code 66 = .ok (.bipush (7), 2) := by decide +kernel
theorem d_Mod_packets_68 : decode prog_13_method_14_code 68 = .ok (.invokevirtual 130, 3) := by decide +kernel
theorem d_Mod_packets_71 : decode prog_13_method_14_code 71 = .ok (.aload_n 0, 1) := by decide +kernel
theorem d_Mod_packets_72 : decode prog_13_method_14_code 72 = .ok (.bipush (13), 2) := by decide +kernel
theorem d_Mod_packets_74 : decode prog_13_method_14_code 74 = .ok (.invokevirtual 123, 3) := by decide +kernel
theorem d_Mod_packets_77 : decode prog_13_method_14_code 77 = .ok (.istore_n 3, 1) := by decide +kernel
theorem d_Mod_packets_78 : decode prog_13_method_14_code 78 = .ok (.aload_n 0, 1) := by decide +kernel
theorem d_Mod_packets_79 : decode prog_13_method_14_code 79 = .ok (.iload_n 3, 1) := by decide +kernel
theorem d_Mod_packets_80 : decode prog_13_method_14_code 80 = .ok (.bipush (21), 2) := by decide +kernel
theorem d_Mod_packets_82 : decode prog_13_method_14_code 82 = .ok (.if_icmp .lt (17), 3) := by decide +kernel
theorem d_Mod_packets_85 : decode prog_13_method_14_code 85 = .ok (.iload_n 1, 1) := by decide +kernel
theorem d_Mod_packets_86 : decode prog_13_method_14_code 86 = .ok (.iload_n 3, 1) := by decide +kernel
theorem d_Mod_packets_87 : decode prog_13_method_14_code 87 = .ok (.iadd, 1) := by decide +kernel
theorem d_Mod_packets_88 : decode prog_13_method_14_code 88 = .ok (.aload_n 0, 1) := by decide +kernel
theorem d_Mod_packets_89 : decode prog_13_method_14_code 89 = .ok (.getfield 114, 3) := by decide +kernel
theorem d_Mod_packets_92 : decode prog_13_method_14_code 92 = .ok (.if_icmp .gt (7), 3) := by decide +kernel
theorem d_Mod_packets_95 : decode prog_13_method_14_code 95 = .ok (.iconst 1, 1) := by decide +kernel
theorem d_Mod_packets_96 : decode prog_13_method_14_code 96 = .ok (.goto (4), 3) := by decide +kernel
theorem d_Mod_packets_99 : decode prog_13_method_14_code 99 = .ok (.iconst 0, 1) := by decide +kernel
theorem d_Mod_packets_100 : decode prog_13_method_14_code 100 = .ok (.iconst 2, 1) := by decide +kernel
theorem d_Mod_packets_101 : decode prog_13_method_14_code 101 = .ok (.invokevirtual 130, 3) := by decide +kernel
theorem d_Mod_packets_104 : decode prog_13_method_14_code 104 = .ok (.aload_n 0, 1) := by decide +kernel
theorem d_Mod_packets_105 : decode prog_13_method_14_code 105 = .ok (.getfield 117, 3) := by decide +kernel
theorem d_Mod_packets_108 : decode prog_13_method_14_code 108 = .ok (.ifCond .ne (15), 3) := by decide +kernel
theorem d_Mod_packets_111 : decode prog_13_method_14_code 111 = .ok (.aload_n 0, 1) := by decide +kernel
theorem d_Mod_packets_112 : decode prog_13_method_14_code 112 = .ok (.getfield 54, 3) := by decide +kernel
theorem d_Mod_packets_115 : decode prog_13_method_14_code 115 = .ok (.iload_n 2, 1) := by decide +kernel
theorem d_Mod_packets_116 : decode prog_13_method_14_code 116 = .ok (.iconst 1, 1) := by decide +kernel
theorem d_Mod_packets_117 : decode prog_13_method_14_code 117 = .ok (.bastore, 1) := by decide +kernel
theorem d_Mod_packets_118 : decode prog_13_method_14_code 118 = .ok (.aload_n 0, 1) := by decide +kernel
theorem d_Mod_packets_119 : decode prog_13_method_14_code 119 = .ok (.iload_n 2, 1) := by decide +kernel
theorem d_Mod_packets_120 : decode prog_13_method_14_code 120 = .ok (.invokevirtual 134, 3) := by decide +kernel
theorem d_Mod_packets_123 : decode prog_13_method_14_code 123 = .ok (.aload_n 0, 1) := by decide +kernel
theorem d_Mod_packets_124 : decode prog_13_method_14_code 124 = .ok (.aload_n 0, 1) := by decide +kernel
theorem d_Mod_packets_125 : decode prog_13_method_14_code 125 = .ok (.getfield 120, 3) := by decide +kernel
theorem d_Mod_packets_128 : decode prog_13_method_14_code 128 = .ok (.iload_n 1, 1) := by decide +kernel
theorem d_Mod_packets_129 : decode prog_13_method_14_code 129 = .ok (.iload_n 3, 1) := by decide +kernel
theorem d_Mod_packets_130 : decode prog_13_method_14_code 130 = .ok (.iadd, 1) := by decide +kernel
theorem d_Mod_packets_131 : decode prog_13_method_14_code 131 = .ok (.if_icmp .ne (7), 3) := by decide +kernel
theorem d_Mod_packets_134 : decode prog_13_method_14_code 134 = .ok (.iconst 1, 1) := by decide +kernel
theorem d_Mod_packets_135 : decode prog_13_method_14_code 135 = .ok (.goto (4), 3) := by decide +kernel
theorem d_Mod_packets_138 : decode prog_13_method_14_code 138 = .ok (.iconst 0, 1) := by decide +kernel
theorem d_Mod_packets_139 : decode prog_13_method_14_code 139 = .ok (.iconst 5, 1) := by decide +kernel
theorem d_Mod_packets_140 : decode prog_13_method_14_code 140 = .ok (.invokevirtual 130, 3) := by decide +kernel
theorem d_Mod_packets_143 : decode prog_13_method_14_code 143 = .ok (.goto (-143), 3) := by decide +kernel
theorem d_Mod_packets_146 : decode prog_13_method_14_code 146 = .ok (.return_, 1) := by decide +kernel
theorem d_Mod_numbers_0 : decode prog_13_method_15_code 0 = .ok (.aload_n 0, 1) := by decide +kernel
theorem d_Mod_numbers_1 : decode prog_13_method_15_code 1 = .ok (.getfield 57, 3) := by decide +kernel
theorem d_Mod_numbers_4 : decode prog_13_method_15_code 4 = .ok (.iload_n 1, 1) := by decide +kernel
theorem d_Mod_numbers_5 : decode prog_13_method_15_code 5 = .ok (.iconst 1, 1) := by decide +kernel
theorem d_Mod_numbers_6 : decode prog_13_method_15_code 6 = .ok (.iastore, 1) := by decide +kernel
theorem d_Mod_numbers_7 : decode prog_13_method_15_code 7 = .ok (.iload_n 1, 1) := by decide +kernel
theorem d_Mod_numbers_8 : decode prog_13_method_15_code 8 = .ok (.ifCond .eq (13), 3) := by decide +kernel
theorem d_Mod_numbers_11 : decode prog_13_method_15_code 11 = .ok (.iload_n 1, 1) := by decide +kernel
theorem d_Mod_numbers_12 : decode prog_13_method_15_code 12 = .ok (.iconst 2, 1) := by decide +kernel
theorem d_Mod_numbers_13 : decode prog_13_method_15_code 13 = .ok (.if_icmp .eq (8), 3) := by decide +kernel
theorem d_Mod_numbers_16 : decode prog_13_method_15_code 16 = .ok (.iload_n 1, 1) := by decide +kernel
theorem d_Mod_numbers_17 : decode prog_13_method_15_code 17 = .ok (.iconst 3, 1) := by decide +kernel
theorem d_Mod_numbers_18 : decode prog_13_method_15_code 18 = .ok (.if_icmp .ne (184), 3) := by decide +kernel
theorem d_Mod_numbers_21 : decode prog_13_method_15_code 21 = .ok (.aload_n 0, 1) := by decide +kernel
theorem d_Mod_numbers_22 : decode prog_13_method_15_code 22 = .ok (.getfield 57, 3) := by decide +kernel
theorem d_Mod_numbers_25 : decode prog_13_method_15_code 25 = .ok (.iload_n 1, 1) := by decide +kernel
theorem d_Mod_numbers_26 : decode prog_13_method_15_code 26 = .ok (.aload_n 0, 1) := by decide +kernel
theorem d_Mod_numbers_27 : decode prog_13_method_15_code 27 = .ok (.iconst 3, 1) := by decide +kernel
theorem d_Mod_numbers_28 : decode prog_13_method_15_code 28 = .ok (.invokevirtual 123, 3) := by decide +kernel
theorem d_Mod_numbers_31 : decode prog_13_method_15_code 31 = .ok (.iastore, 1) := by decide +kernel
theorem d_Mod_numbers_32 : decode prog_13_method_15_code 32 = .ok (.aload_n 0, 1) := by decide +kernel
theorem d_Mod_numbers_33 : decode prog_13_method_15_code 33 = .ok (.iload_n 1, 1) := by decide +kernel
theorem d_Mod_numbers_34 : decode prog_13_method_15_code 34 = .ok (.iconst 3, 1) := by decide +kernel
theorem d_Mod_numbers_35 : decode prog_13_method_15_code 35 = .ok (.if_icmp .ne (12), 3) := by decide +kernel
theorem d_Mod_numbers_38 : decode prog_13_method_15_code 38 = .ok (.aload_n 0, 1) := by decide +kernel
theorem d_Mod_numbers_39 : decode prog_13_method_15_code 39 = .ok (.getfield 57, 3) := by decide +kernel
theorem d_Mod_numbers_42 : decode prog_13_method_15_code 42 = .ok (.iload_n 1, 1) := by decide +kernel
theorem d_Mod_numbers_43 : decode prog_13_method_15_code 43 = .ok (.iaload, 1) := by decide +kernel
theorem d_Mod_numbers_44 : decode prog_13_method_15_code 44 = .ok (.ifCond .le (7), 3) := by decide +kernel
theorem d_Mod_numbers_47 : decode prog_13_method_15_code 47 = .ok (.iconst 1, 1) := by decide +kernel
theorem d_Mod_numbers_48 : decode prog_13_method_15_code 48 = .ok (.goto (4), 3) := by decide +kernel
theorem d_Mod_numbers_51 : decode prog_13_method_15_code 51 = .ok (.iconst 0, 1) := by decide +kernel
theorem d_Mod_numbers_52 : decode prog_13_method_15_code 52 = .ok (.bipush (6), 2) := by decide +kernel
theorem d_Mod_numbers_54 : decode prog_13_method_15_code 54 = .ok (.invokevirtual 130, 3) := by decide +kernel
theorem d_Mod_numbers_57 : decode prog_13_method_15_code 57 = .ok (.iconst 0, 1) := by decide +kernel
theorem d_Mod_numbers_58 : decode prog_13_method_15_code 58 = .ok (.istore_n 2, 1) := by decide +kernel
theorem d_Mod_numbers_59 : decode prog_13_method_15_code 59 = .ok (.iload_n 2, 1) := by decide +kernel
theorem d_Mod_numbers_60 : decode prog_13_method_15_code 60 = .ok (.aload_n 0, 1) := by decide +kernel
theorem d_Mod_numbers_61 : decode prog_13_method_15_code 61 = .ok (.getfield 57, 3) := by decide +kernel
theorem d_Mod_numbers_64 : decode prog_13_method_15_code 64 = .ok (.iload_n 1, 1) := by decide +kernel
theorem d_Mod_numbers_65 : decode prog_13_method_15_code 65 = .ok (.iaload, 1) := by decide +kernel
theorem d_Mod_numbers_66 : decode prog_13_method_15_code 66 = .ok (.if_icmp .ge (133), 3) := by decide +kernel
theorem d_Mod_numbers_69 : decode prog_13_method_15_code 69 = .ok (.aload_n 0, 1) := by decide +kernel
theorem d_Mod_numbers_70 : decode prog_13_method_15_code 70 = .ok (.getfield 117, 3) := by decide +kernel
theorem d_Mod_numbers_73 : decode prog_13_method_15_code 73 = .ok (.ifCond .ne (126), 3) := by decide +kernel
theorem d_Mod_numbers_76 : decode prog_13_method_15_code 76 = .ok (.aload_n 0, 1) := by decide +kernel
theorem d_Mod_numbers_77 : decode prog_13_method_15_code 77 = .ok (.iload_n 1, 1) := by decide +kernel
theorem d_Mod_numbers_78 : decode prog_13_method_15_code 78 = .ok (.iload_n 2, 1) := by decide +kernel
theorem d_Mod_numbers_79 : decode prog_13_method_15_code 79 = .ok (.iconst 0, 1) := by decide +kernel
theorem d_Mod_numbers_80 : decode prog_13_method_15_code 80 = .ok (.bipush (10), 2) := by decide +kernel
theorem d_Mod_numbers_82 : decode prog_13_method_15_code 82 = .ok (.aload_n 0, 1) := by decide +kernel
theorem d_Mod_numbers_83 : decode prog_13_method_15_code 83 = .ok (.bipush (15), 2) := by decide +kernel
theorem d_Mod_numbers_85 : decode prog_13_method_15_code 85 = .ok (.invokevirtual 123, 3) := by decide +kernel
theorem d_Mod_numbers_88 : decode prog_13_method_15_code 88 = .ok (.imul, 1) := by decide +kernel
theorem d_Mod_numbers_89 : decode prog_13_method_15_code 89 = .ok (.invokevirtual 137, 3) := by decide +kernel
theorem d_Mod_numbers_92 : decode prog_13_method_15_code 92 = .ok (.aload_n 0, 1) := by decide +kernel
theorem d_Mod_numbers_93 : decode prog_13_method_15_code 93 = .ok (.iload_n 2, 1) := by decide +kernel
theorem d_Mod_numbers_94 : decode prog_13_method_15_code 94 = .ok (.ifCond .eq (22), 3) := by decide +kernel
theorem d_Mod_numbers_97 : decode prog_13_method_15_code 97 = .ok (.aload_n 0, 1) := by decide +kernel
theorem d_Mod_numbers_98 : decode prog_13_method_15_code 98 = .ok (.iload_n 1, 1) := by decide +kernel
theorem d_Mod_numbers_99 : decode prog_13_method_15_code 99 = .ok (.iload_n 2, 1) := by decide +kernel
theorem d_Mod_numbers_100 : decode prog_13_method_15_code 100 = .ok (.iconst 0, 1) := by decide +kernel
theorem d_Mod_numbers_101 : decode prog_13_method_15_code 101 = .ok (.invokevirtual 141, 3) := by decide +kernel
theorem d_Mod_numbers_104 : decode prog_13_method_15_code 104 = .ok (.aload_n 0, 1) := by decide +kernel
theorem d_Mod_numbers_105 : decode prog_13_method_15_code 105 = .ok (.iload_n 1, 1) := by decide +kernel
theorem d_Mod_numbers_106 : decode prog_13_method_15_code 106 = .ok (.iload_n 2, 1) := by decide +kernel
theorem d_Mod_numbers_107 : decode prog_13_method_15_code 107 = .ok (.iconst 1, 1) := by decide +kernel
theorem d_Mod_numbers_108 : decode prog_13_method_15_code 108 = .ok (.isub, 1) := by decide +kernel
theorem d_Mod_numbers_109 : decode prog_13_method_15_code 109 = .ok (.iconst 0, 1) := by decide +kernel
theorem d_Mod_numbers_110 : decode prog_13_method_15_code 110 = .ok (.invokevirtual 141, 3) := by decide +kernel
theorem d_Mod_numbers_113 : decode prog_13_method_15_code 113 = .ok (.if_icmp .le (7), 3) := by decide +kernel
theorem d_Mod_numbers_116 : decode prog_13_method_15_code 116 = .ok (.iconst 1, 1) := by decide +kernel
theorem d_Mod_numbers_117 : decode prog_13_method_15_code 117 = .ok (.goto (4), 3) := by decide +kernel
theorem d_Mod_numbers_120 : decode prog_13_method_15_code 120 = .ok (.iconst 0, 1) := by decide +kernel
theorem d_Mod_numbers_121 : decode prog_13_method_15_code 121 = .ok (.bipush (6), 2) := by decide +kernel
theorem d_Mod_numbers_123 : decode prog_13_method_15_code 123 = .ok (.invokevirtual 130, 3) := by decide +kernel
theorem d_Mod_numbers_126 : decode prog_13_method_15_code 126 = .ok (.aload_n 0, 1) := by decide +kernel
theorem d_Mod_numbers_127 : decode prog_13_method_15_code 127 = .ok (.iload_n 1, 1) := by decide +kernel
theorem d_Mod_numbers_128 : decode prog_13_method_15_code 128 = .ok (.ifCond .ne (8), 3) := by decide +kernel
theorem d_Mod_numbers_131 : decode prog_13_method_15_code 131 = .ok (.bipush (8), 2) := by decide +kernel
theorem d_Mod_numbers_133 : decode prog_13_method_15_code 133 = .ok (.goto (15), 3) := by decide +kernel
theorem d_Mod_numbers_136 : decode prog_13_method_15_code 136 = .ok (.iload_n 1, 1) := by decide +kernel
theorem d_Mod_numbers_137 : decode prog_13_method_15_code 137 = .ok (.iconst 2, 1) := by decide +kernel
theorem d_Mod_numbers_138 : decode prog_13_method_15_code 138 = .ok (.if_icmp .ne (8), 3) := by decide +kernel
theorem d_Mod_numbers_141 : decode prog_13_method_15_code 141 = .ok (.bipush (6), 2) := by decide +kernel
theorem d_Mod_numbers_143 : decode prog_13_method_15_code 143 = .ok (.goto (5), 3) := by decide +kernel
theorem d_Mod_numbers_146 : decode prog_13_method_15_code 146 = .ok (.bipush (7), 2) := by decide +kernel
theorem d_Mod_numbers_148 : decode prog_13_method_15_code 148 = .ok (.invokevirtual 123, 3) := by decide +kernel
theorem d_Mod_numbers_151 : decode prog_13_method_15_code 151 = .ok (.istore_n 3, 1) := by decide +kernel
theorem d_Mod_numbers_152 : decode prog_13_method_15_code 152 = .ok (.aload_n 0, 1) := by decide +kernel
theorem d_Mod_numbers_153 : decode prog_13_method_15_code 153 = .ok (.iload_n 1, 1) := by decide +kernel
theorem d_Mod_numbers_154 : decode prog_13_method_15_code 154 = .ok (.iload_n 2, 1) := by decide +kernel
theorem d_Mod_numbers_155 : decode prog_13_method_15_code 155 = .ok (.iconst 1, 1) := by decide +kernel
theorem d_Mod_numbers_156 : decode prog_13_method_15_code 156 = .ok (.iload_n 1, 1) := by decide +kernel
theorem d_Mod_numbers_157 : decode prog_13_method_15_code 157 = .ok (.iconst 3, 1) := by decide +kernel
theorem d_Mod_numbers_158 : decode prog_13_method_15_code 158 = .ok (.if_icmp .ne (10), 3) := by decide +kernel
theorem d_Mod_numbers_161 : decode prog_13_method_15_code 161 = .ok (.iload_n 3, 1) := by decide +kernel
theorem d_Mod_numbers_162 : decode prog_13_method_15_code 162 = .ok (.invokestatic 145, 3) := by decide +kernel
theorem d_Mod_numbers_165 : decode prog_13_method_15_code 165 = .ok (.goto (4), 3) := by decide +kernel
theorem d_Mod_numbers_168 : decode prog_13_method_15_code 168 = .ok (.iload_n 3, 1) := by decide +kernel
theorem d_Mod_numbers_169 : decode prog_13_method_15_code 169 = .ok (.invokevirtual 137, 3) := by decide +kernel
theorem d_Mod_numbers_172 : decode prog_13_method_15_code 172 = .ok (.aload_n 0, 1) := by decide +kernel
theorem d_Mod_numbers_173 : decode prog_13_method_15_code 173 = .ok (.iload_n 1, 1) := by decide +kernel
theorem d_Mod_numbers_174 : decode prog_13_method_15_code 174 = .ok (.iload_n 2, 1) := by decide +kernel
theorem d_Mod_numbers_175 : decode prog_13_method_15_code 175 = .ok (.iconst 2, 1) := by decide +kernel
theorem d_Mod_numbers_176 : decode prog_13_method_15_code 176 = .ok (.iload_n 1, 1) := by decide +kernel
theorem d_Mod_numbers_177 : decode prog_13_method_15_code 177 = .ok (.ifCond .ne (12), 3) := by decide +kernel
theorem d_Mod_numbers_180 : decode prog_13_method_15_code 180 = .ok (.aload_n 0, 1) := by decide +kernel
theorem d_Mod_numbers_181 : decode prog_13_method_15_code 181 = .ok (.bipush (6), 2) := by decide +kernel
theorem d_Mod_numbers_183 : decode prog_13_method_15_code 183 = .ok (.invokevirtual 123, 3) := by decide +kernel
theorem d_Mod_numbers_186 : decode prog_13_method_15_code 186 = .ok (.goto (4), 3) := by decide +kernel
theorem d_Mod_numbers_189 : decode prog_13_method_15_code 189 = .ok (.iconst 0, 1) := by decide +kernel
theorem d_Mod_numbers_190 : decode prog_13_method_15_code 190 = .ok (.invokevirtual 137, 3) := by decide +kernel
theorem d_Mod_numbers_193 : decode prog_13_method_15_code 193 = .ok (.iinc 2 (1), 3) := by decide +kernel
theorem d_Mod_numbers_196 : decode prog_13_method_15_code 196 = .ok (.goto (-137), 3) := by decide +kernel
theorem d_Mod_numbers_199 : decode prog_13_method_15_code 199 = .ok (.goto (165), 3) := by decide +kernel
theorem d_Mod_numbers_202 : decode prog_13_method_15_code 202 = .ok (.iload_n 1, 1) := by decide +kernel
theorem d_Mod_numbers_203 : decode prog_13_method_15_code 203 = .ok (.iconst 1, 1) := by decide +kernel
theorem d_Mod_numbers_204 : decode prog_13_method_15_code 204 = .ok (.if_icmp .ne (73), 3) := by decide +kernel
theorem d_Mod_numbers_207 : decode prog_13_method_15_code 207 = .ok (.aload_n 0, 1) := by decide +kernel
theorem d_Mod_numbers_208 : decode prog_13_method_15_code 208 = .ok (.iload_n 1, 1) := by decide +kernel
theorem d_Mod_numbers_209 : decode prog_13_method_15_code 209 = .ok (.iconst 0, 1) := by decide +kernel
theorem d_Mod_numbers_210 : decode prog_13_method_15_code 210 = .ok (.iconst 0, 1) := by decide +kernel
theorem d_Mod_numbers_211 : decode prog_13_method_15_code 211 = .ok (.bipush (10), 2) := by decide +kernel
theorem d_Mod_numbers_213 : decode prog_13_method_15_code 213 = .ok (.aload_n 0, 1) := by decide +kernel
theorem d_Mod_numbers_214 : decode prog_13_method_15_code 214 = .ok (.bipush (15), 2) := by decide +kernel
theorem d_Mod_numbers_216 : decode prog_13_method_15_code 216 = .ok (.invokevirtual 123, 3) := by decide +kernel
theorem d_Mod_numbers_219 : decode prog_13_method_15_code 219 = .ok (.imul, 1) := by decide +kernel
theorem d_Mod_numbers_220 : decode prog_13_method_15_code 220 = .ok (.invokevirtual 137, 3) := by decide +kernel
theorem d_Mod_numbers_223 : decode prog_13_method_15_code 223 = .ok (.aload_n 0, 1) := by decide +kernel
theorem d_Mod_numbers_224 : decode prog_13_method_15_code 224 = .ok (.iload_n 1, 1) := by decide +kernel
theorem d_Mod_numbers_225 : decode prog_13_method_15_code 225 = .ok (.iconst 0, 1) := by decide +kernel
theorem d_Mod_numbers_226 : decode prog_13_method_15_code 226 = .ok (.iconst 1, 1) := by decide +kernel
theorem d_Mod_numbers_227 : decode prog_13_method_15_code 227 = .ok (.aload_n 0, 1) := by decide +kernel
theorem d_Mod_numbers_228 : decode prog_13_method_15_code 228 = .ok (.bipush (10), 2) := by decide +kernel
theorem d_Mod_numbers_230 : decode prog_13_method_15_code 230 = .ok (.invokevirtual 123, 3) := by decide +kernel
theorem d_Mod_numbers_233 : decode prog_13_method_15_code 233 = .ok (.invokevirtual 137, 3) := by decide +kernel
theorem d_Mod_numbers_236 : decode prog_13_method_15_code 236 = .ok (.aload_n 0, 1) := by decide +kernel
theorem d_Mod_numbers_237 : decode prog_13_method_15_code 237 = .ok (.iconst 2, 1) := by decide +kernel
theorem d_Mod_numbers_238 : decode prog_13_method_15_code 238 = .ok (.invokevirtual 123, 3) := by decide +kernel
theorem d_Mod_numbers_241 : decode prog_13_method_15_code 241 = .ok (.istore_n 2, 1) := by decide +kernel
theorem d_Mod_numbers_242 : decode prog_13_method_15_code 242 = .ok (.aload_n 0, 1) := by decide +kernel
theorem d_Mod_numbers_243 : decode prog_13_method_15_code 243 = .ok (.iload_n 2, 1) := by decide +kernel
theorem d_Mod_numbers_244 : decode prog_13_method_15_code 244 = .ok (.iconst 1, 1) := by decide +kernel
theorem d_Mod_numbers_245 : decode prog_13_method_15_code 245 = .ok (.if_icmp .gt (7), 3) := by decide +kernel
theorem d_Mod_numbers_248 : decode prog_13_method_15_code 248 = .ok (.iconst 1, 1) := by decide +kernel
theorem d_Mod_numbers_249 : decode prog_13_method_15_code 249 = .ok (.goto (4), 3) := by decide +kernel
theorem d_Mod_numbers_252 : decode prog_13_method_15_code 252 = .ok (.iconst 0, 1) := by decide +kernel
theorem d_Mod_numbers_253 : decode prog_13_method_15_code 253 = .ok (.bipush (6), 2) := by decide +kernel
theorem d_Mod_numbers_255 : decode prog_13_method_15_code 255 = .ok (.invokevirtual 130, 3) := by decide +kernel
theorem d_Mod_numbers_258 : decode prog_13_method_15_code 258 = .ok (.aload_n 0, 1) := by decide +kernel
theorem d_Mod_numbers_259 : decode prog_13_method_15_code 259 = .ok (.iload_n 1, 1) := by decide +kernel
theorem d_Mod_numbers_260 : decode prog_13_method_15_code 260 = .ok (.iconst 0, 1) := by decide +kernel
theorem d_Mod_numbers_261 : decode prog_13_method_15_code 261 = .ok (.iconst 2, 1) := by decide +kernel
theorem d_Mod_numbers_262 : decode prog_13_method_15_code 262 = .ok (.iload_n 2, 1) := by decide +kernel
theorem d_Mod_numbers_263 : decode prog_13_method_15_code 263 = .ok (.ifCond .ne (7), 3) := by decide +kernel
theorem d_Mod_numbers_266 : decode prog_13_method_15_code 266 = .ok (.iconst 2, 1) := by decide +kernel
theorem d_Mod_numbers_267 : decode prog_13_method_15_code 267 = .ok (.goto (4), 3) := by decide +kernel
theorem d_Mod_numbers_270 : decode prog_13_method_15_code 270 = .ok (.iconst 3, 1) := by decide +kernel
theorem d_Mod_numbers_271 : decode prog_13_method_15_code 271 = .ok (.invokevirtual 137, 3) := by decide +kernel
theorem d_Mod_numbers_274 : decode prog_13_method_15_code 274 = .ok (.goto (90), 3) := by decide +kernel
theorem d_Mod_numbers_277 : decode prog_13_method_15_code 277 = .ok (.aload_n 0, 1) := by decide +kernel
theorem d_Mod_numbers_278 : decode prog_13_method_15_code 278 = .ok (.iload_n 1, 1) := by decide +kernel
theorem d_Mod_numbers_279 : decode prog_13_method_15_code 279 = .ok (.iconst 0, 1) := by decide +kernel
theorem d_Mod_numbers_280 : decode prog_13_method_15_code 280 = .ok (.iconst 0, 1) := by decide +kernel
theorem d_Mod_numbers_281 : decode prog_13_method_15_code 281 = .ok (.aload_n 0, 1) := by decide +kernel
theorem d_Mod_numbers_282 : decode prog_13_method_15_code 282 = .ok (.bipush (8), 2) := by decide +kernel
theorem d_Mod_numbers_284 : decode prog_13_method_15_code 284 = .ok (.invokevirtual 123, 3) := by decide +kernel
theorem d_Mod_numbers_287 : decode prog_13_method_15_code 287 = .ok (.invokevirtual 137, 3) := by decide +kernel
theorem d_Mod_numbers_290 : decode prog_13_method_15_code 290 = .ok (.iload_n 1, 1) := by decide +kernel
theorem d_Mod_numbers_291 : decode prog_13_method_15_code 291 = .ok (.iconst 4, 1) := by decide +kernel
theorem d_Mod_numbers_292 : decode prog_13_method_15_code 292 = .ok (.if_icmp .ne (72), 3) := by decide +kernel
theorem d_Mod_numbers_295 : decode prog_13_method_15_code 295 = .ok (.aload_n 0, 1) := by decide +kernel
theorem d_Mod_numbers_296 : decode prog_13_method_15_code 296 = .ok (.iload_n 1, 1) := by decide +kernel
theorem d_Mod_numbers_297 : decode prog_13_method_15_code 297 = .ok (.iconst 0, 1) := by decide +kernel
theorem d_Mod_numbers_298 : decode prog_13_method_15_code 298 = .ok (.iconst 1, 1) := by decide +kernel
theorem d_Mod_numbers_299 : decode prog_13_method_15_code 299 = .ok (.bipush (10), 2) := by decide +kernel
theorem d_Mod_numbers_301 : decode prog_13_method_15_code 301 = .ok (.aload_n 0, 1) := by decide +kernel
theorem d_Mod_numbers_302 : decode prog_13_method_15_code 302 = .ok (.bipush (15), 2) := by decide +kernel
theorem d_Mod_numbers_304 : decode prog_13_method_15_code 304 = .ok (.invokevirtual 123, 3) := by decide +kernel
theorem d_Mod_numbers_307 : decode prog_13_method_15_code 307 = .ok (.imul, 1) := by decide +kernel
theorem d_Mod_numbers_308 : decode prog_13_method_15_code 308 = .ok (.invokevirtual 137, 3) := by decide +kernel
theorem d_Mod_numbers_311 : decode prog_13_method_15_code 311 = .ok (.aload_n 0, 1) := by decide +kernel
theorem d_Mod_numbers_312 : decode prog_13_method_15_code 312 = .ok (.iload_n 1, 1) := by decide +kernel
theorem d_Mod_numbers_313 : decode prog_13_method_15_code 313 = .ok (.iconst 0, 1) := by decide +kernel
theorem d_Mod_numbers_314 : decode prog_13_method_15_code 314 = .ok (.iconst 2, 1) := by decide +kernel
theorem d_Mod_numbers_315 : decode prog_13_method_15_code 315 = .ok (.bipush (10), 2) := by decide +kernel
theorem d_Mod_numbers_317 : decode prog_13_method_15_code 317 = .ok (.aload_n 0, 1) := by decide +kernel
theorem d_Mod_numbers_318 : decode prog_13_method_15_code 318 = .ok (.bipush (15), 2) := by decide +kernel
theorem d_Mod_numbers_320 : decode prog_13_method_15_code 320 = .ok (.invokevirtual 123, 3) := by decide +kernel
theorem d_Mod_numbers_323 : decode prog_13_method_15_code 323 = .ok (.imul, 1) := by decide +kernel
theorem d_Mod_numbers_324 : decode prog_13_method_15_code 324 = .ok (.invokevirtual 137, 3) := by decide +kernel
theorem d_Mod_numbers_327 : decode prog_13_method_15_code 327 = .ok (.aload_n 0, 1) := by decide +kernel
theorem d_Mod_numbers_328 : decode prog_13_method_15_code 328 = .ok (.aload_n 0, 1) := by decide +kernel
theorem d_Mod_numbers_329 : decode prog_13_method_15_code 329 = .ok (.iload_n 1, 1) := by decide +kernel
theorem d_Mod_numbers_330 : decode prog_13_method_15_code 330 = .ok (.iconst 0, 1) := by decide +kernel
theorem d_Mod_numbers_331 : decode prog_13_method_15_code 331 = .ok (.iconst 2, 1) := by decide +kernel
theorem d_Mod_numbers_332 : decode prog_13_method_15_code 332 = .ok (.invokevirtual 141, 3) := by decide +kernel
theorem d_Mod_numbers_335 : decode prog_13_method_15_code 335 = .ok (.ifCond .le (7), 3) := by decide +kernel
theorem d_Mod_numbers_338 : decode prog_13_method_15_code 338 = .ok (.iconst 1, 1) := by decide +kernel
theorem d_Mod_numbers_339 : decode prog_13_method_15_code 339 = .ok (.goto (4), 3) := by decide +kernel
theorem d_Mod_numbers_342 : decode prog_13_method_15_code 342 = .ok (.iconst 0, 1) := by decide +kernel
theorem d_Mod_numbers_343 : decode prog_13_method_15_code 343 = .ok (.bipush (6), 2) := by decide +kernel
theorem d_Mod_numbers_345 : decode prog_13_method_15_code 345 = .ok (.invokevirtual 130, 3) := by decide +kernel
theorem d_Mod_numbers_348 : decode prog_13_method_15_code 348 = .ok (.aload_n 0, 1) := by decide +kernel
theorem d_Mod_numbers_349 : decode prog_13_method_15_code 349 = .ok (.iload_n 1, 1) := by decide +kernel
theorem d_Mod_numbers_350 : decode prog_13_method_15_code 350 = .ok (.iconst 1, 1) := by decide +kernel
theorem d_Mod_numbers_351 : decode prog_13_method_15_code 351 = .ok (.iconst 0, 1) := by decide +kernel
theorem d_Mod_numbers_352 : decode prog_13_method_15_code 352 = .ok (.aload_n 0, 1) := by decide +kernel
theorem d_Mod_numbers_353 : decode prog_13_method_15_code 353 = .ok (.bipush (7), 2) := by decide +kernel
theorem d_Mod_numbers_355 : decode prog_13_method_15_code 355 = .ok (.invokevirtual 123, 3) := by decide +kernel
theorem d_Mod_numbers_358 : decode prog_13_method_15_code 358 = .ok (.invokestatic 145, 3) := by decide +kernel
theorem d_Mod_numbers_361 : decode prog_13_method_15_code 361 = .ok (.invokevirtual 137, 3) := by decide +kernel
theorem d_Mod_numbers_364 : decode prog_13_method_15_code 364 = .ok (.return_, 1) := by decide +kernel
