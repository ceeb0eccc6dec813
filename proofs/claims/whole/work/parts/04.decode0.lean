theorem d_G_init_0 : decode prog_1_method_1_code 0 = .ok (.aload_n 0, 1) := by decide +kernel
theorem d_G_init_1 : decode prog_1_method_1_code 1 = .ok (.invokespecial 1, 3) := by decide +kernel
theorem d_G_init_4 : decode prog_1_method_1_code 4 = .ok (.aload_n 0, 1) := by decide +kernel
theorem d_G_init_5 : decode prog_1_method_1_code 5 = .ok (.new 7, 3) := by decide +kernel
theorem d_G_init_8 : decode prog_1_method_1_code 8 = .ok (.dup, 1) := by decide +kernel
theorem d_G_init_9 : decode prog_1_method_1_code 9 = .ok (.invokespecial 9, 3) := by decide +kernel
theorem d_G_init_12 : decode prog_1_method_1_code 12 = .ok (.putfield 10, 3) := by decide +kernel
theorem d_G_init_15 : decode prog_1_method_1_code 15 = .ok (.aload_n 0, 1) := by decide +kernel
theorem d_G_init_16 : decode prog_1_method_1_code 16 = .ok (.new 16, 3) := by decide +kernel
theorem d_G_init_19 : decode prog_1_method_1_code 19 = .ok (.dup, 1) := by decide +kernel
theorem d_G_init_20 : decode prog_1_method_1_code 20 = .ok (.invokespecial 18, 3) := by decide +kernel
theorem d_G_init_23 : decode prog_1_method_1_code 23 = .ok (.putfield 19, 3) := by decide +kernel
theorem d_G_init_26 : decode prog_1_method_1_code 26 = .ok (.aload_n 0, 1) := by decide +kernel
theorem d_G_init_27 : decode prog_1_method_1_code 27 = .ok (.new 23, 3) := by decide +kernel
theorem d_G_init_30 : decode prog_1_method_1_code 30 = .ok (.dup, 1) := by decide +kernel
theorem d_G_init_31 : decode prog_1_method_1_code 31 = .ok (.invokespecial 25, 3) := by decide +kernel
theorem d_G_init_34 : decode prog_1_method_1_code 34 = .ok (.putfield 26, 3) := by decide +kernel
theorem d_G_init_37 : decode prog_1_method_1_code 37 = .ok (.aload_n 0, 1) := by decide +kernel
theorem d_G_init_38 : decode prog_1_method_1_code 38 = .ok (.new 30, 3) := by decide +kernel
theorem d_G_init_41 : decode prog_1_method_1_code 41 = .ok (.dup, 1) := by decide +kernel
theorem d_G_init_42 : decode prog_1_method_1_code 42 = .ok (.invokespecial 32, 3) := by decide +kernel
theorem d_G_init_45 : decode prog_1_method_1_code 45 = .ok (.putfield 33, 3) := by decide +kernel
theorem d_G_init_48 : decode prog_1_method_1_code 48 = .ok (.aload_n 0, 1) := by decide +kernel
theorem d_G_init_49 : decode prog_1_method_1_code 49 = .ok (.new 37, 3) := by decide +kernel
theorem d_G_init_52 : decode prog_1_method_1_code 52 = .ok (.dup, 1) := by decide +kernel
theorem d_G_init_53 : decode prog_1_method_1_code 53 = .ok (.invokespecial 39, 3) := by decide +kernel
theorem d_G_init_56 : decode prog_1_method_1_code 56 = .ok (.putfield 40, 3) := by decide +kernel
theorem d_G_init_59 : decode prog_1_method_1_code 59 = .ok (.aload_n 0, 1) := by decide +kernel
theorem d_G_init_60 : decode prog_1_method_1_code 60 = .ok (.new 44, 3) := by decide +kernel
theorem d_G_init_63 : decode prog_1_method_1_code 63 = .ok (.dup, 1) := by decide +kernel
theorem d_G_init_64 : decode prog_1_method_1_code 64 = .ok (.invokespecial 46, 3) := by decide +kernel
theorem d_G_init_67 : decode prog_1_method_1_code 67 = .ok (.putfield 47, 3) := by decide +kernel
theorem d_G_init_70 : decode prog_1_method_1_code 70 = .ok (.aload_n 0, 1) := by decide +kernel
theorem d_G_init_71 : decode prog_1_method_1_code 71 = .ok (.iconst 0, 1) := by decide +kernel
theorem d_G_init_72 : decode prog_1_method_1_code 72 = .ok (.putfield 51, 3) := by decide +kernel
theorem d_G_init_75 : decode prog_1_method_1_code 75 = .ok (.aload_n 0, 1) := by decide +kernel
theorem d_G_init_76 : decode prog_1_method_1_code 76 = .ok (.iconst (-1), 1) := by decide +kernel
theorem d_G_init_77 : decode prog_1_method_1_code 77 = .ok (.putfield 55, 3) := by decide +kernel
theorem d_G_init_80 : decode prog_1_method_1_code 80 = .ok (.iload_n 1, 1) := by decide +kernel
theorem d_G_init_81 : decode prog_1_method_1_code 81 = .ok (.iconst 4, 1) := by decide +kernel
theorem d_G_init_82 : decode prog_1_method_1_code 82 = .ok (.bipush (40), 2) := by decide +kernel
theorem d_G_init_84 : decode prog_1_method_1_code 84 = .ok (.invokestatic 58, 3) := by decide +kernel
theorem d_G_init_87 : decode prog_1_method_1_code 87 = .ok (.istore 4, 2) := by decide +kernel
theorem d_G_init_89 : decode prog_1_method_1_code 89 = .ok (.aload_n 0, 1) := by decide +kernel
theorem d_G_init_90 : decode prog_1_method_1_code 90 = .ok (.new 62, 3) := by decide +kernel
theorem d_G_init_93 : decode prog_1_method_1_code 93 = .ok (.dup, 1) := by decide +kernel
theorem d_G_init_94 : decode prog_1_method_1_code 94 = .ok (.iload 4, 2) := by decide +kernel
theorem d_G_init_96 : decode prog_1_method_1_code 96 = .ok (.iload_n 2, 1) := by decide +kernel
theorem d_G_init_97 : decode prog_1_method_1_code 97 = .ok (.iconst 2, 1) := by decide +kernel
theorem d_G_init_98 : decode prog_1_method_1_code 98 = .ok (.iload 4, 2) := by decide +kernel
theorem d_G_init_100 : decode prog_1_method_1_code 100 = .ok (.invokestatic 58, 3) := by decide +kernel
theorem d_G_init_103 : decode prog_1_method_1_code 103 = .ok (.invokespecial 64, 3) := by decide +kernel
theorem d_G_init_106 : decode prog_1_method_1_code 106 = .ok (.putfield 67, 3) := by decide +kernel
theorem d_G_init_109 : decode prog_1_method_1_code 109 = .ok (.aload_n 0, 1) := by decide +kernel
theorem d_G_init_110 : decode prog_1_method_1_code 110 = .ok (.iload_n 3, 1) := by decide +kernel
theorem d_G_init_111 : decode prog_1_method_1_code 111 = .ok (.iconst 0, 1) := by decide +kernel
theorem d_G_init_112 : decode prog_1_method_1_code 112 = .ok (.sipush (4000), 3) := by decide +kernel
theorem d_G_init_115 : decode prog_1_method_1_code 115 = .ok (.invokestatic 58, 3) := by decide +kernel
theorem d_G_init_118 : decode prog_1_method_1_code 118 = .ok (.putfield 71, 3) := by decide +kernel
theorem d_G_init_121 : decode prog_1_method_1_code 121 = .ok (.return_, 1) := by decide +kernel
theorem d_G_bits_0 : decode prog_1_method_2_code 0 = .ok (.aload_n 0, 1) := by decide +kernel
theorem d_G_bits_1 : decode prog_1_method_2_code 1 = .ok (.getfield 26, 3) := by decide +kernel
theorem d_G_bits_4 : decode prog_1_method_2_code 4 = .ok (.iload_n 1, 1) := by decide +kernel
theorem d_G_bits_5 : decode prog_1_method_2_code 5 = .ok (.iload_n 2, 1) := by decide +kernel
theorem d_G_bits_6 : decode prog_1_method_2_code 6 = .ok (.invokevirtual 74, 3) := by decide +kernel
theorem d_G_bits_9 : decode prog_1_method_2_code 9 = .ok (.ireturn, 1) := by decide +kernel
theorem d_G_message_0 : decode prog_1_method_3_code 0 = .ok (.aload_n 0, 1) := by decide +kernel
theorem d_G_message_1 : decode prog_1_method_3_code 1 = .ok (.getfield 33, 3) := by decide +kernel
theorem d_G_message_4 : decode prog_1_method_3_code 4 = .ok (.aload_n 0, 1) := by decide +kernel
theorem d_G_message_5 : decode prog_1_method_3_code 5 = .ok (.getfield 26, 3) := by decide +kernel
theorem d_G_message_8 : decode prog_1_method_3_code 8 = .ok (.aload_n 0, 1) := by decide +kernel
theorem d_G_message_9 : decode prog_1_method_3_code 9 = .ok (.getfield 55, 3) := by decide +kernel
theorem d_G_message_12 : decode prog_1_method_3_code 12 = .ok (.invokevirtual 78, 3) := by decide +kernel
theorem d_G_message_15 : decode prog_1_method_3_code 15 = .ok (.istore_n 1, 1) := by decide +kernel
theorem d_G_message_16 : decode prog_1_method_3_code 16 = .ok (.aload_n 0, 1) := by decide +kernel
theorem d_G_message_17 : decode prog_1_method_3_code 17 = .ok (.getfield 26, 3) := by decide +kernel
theorem d_G_message_20 : decode prog_1_method_3_code 20 = .ok (.invokevirtual 82, 3) := by decide +kernel
theorem d_G_message_23 : decode prog_1_method_3_code 23 = .ok (.iload_n 1, 1) := by decide +kernel
theorem d_G_message_24 : decode prog_1_method_3_code 24 = .ok (.ifCond .ne (8), 3) := by decide +kernel
theorem d_G_message_27 : decode prog_1_method_3_code 27 = .ok (.aload_n 0, 1) := by decide +kernel
theorem d_G_message_28 : decode prog_1_method_3_code 28 = .ok (.invokevirtual 85, 3) := by decide +kernel
theorem d_G_message_31 : decode prog_1_method_3_code 31 = .ok (.istore_n 1, 1) := by decide +kernel
theorem d_G_message_32 : decode prog_1_method_3_code 32 = .ok (.iload_n 1, 1) := by decide +kernel
theorem d_G_message_33 : decode prog_1_method_3_code 33 = .ok (.ifCond .eq (11), 3) := by decide +kernel
theorem d_G_message_36 : decode prog_1_method_3_code 36 = .ok (.aload_n 0, 1) := by decide +kernel
theorem d_G_message_37 : decode prog_1_method_3_code 37 = .ok (.iconst 4, 1) := by decide +kernel
theorem d_G_message_38 : decode prog_1_method_3_code 38 = .ok (.iload_n 1, 1) := by decide +kernel
theorem d_G_message_39 : decode prog_1_method_3_code 39 = .ok (.invokevirtual 89, 3) := by decide +kernel
theorem d_G_message_42 : decode prog_1_method_3_code 42 = .ok (.iload_n 1, 1) := by decide +kernel
theorem d_G_message_43 : decode prog_1_method_3_code 43 = .ok (.ireturn, 1) := by decide +kernel
theorem d_G_message_44 : decode prog_1_method_3_code 44 = .ok (.aload_n 0, 1) := by decide +kernel
theorem d_G_message_45 : decode prog_1_method_3_code 45 = .ok (.iconst 3, 1) := by decide +kernel
theorem d_G_message_46 : decode prog_1_method_3_code 46 = .ok (.aload_n 0, 1) := by decide +kernel
theorem d_G_message_47 : decode prog_1_method_3_code 47 = .ok (.getfield 33, 3) := by decide +kernel
theorem d_G_message_50 : decode prog_1_method_3_code 50 = .ok (.getfield 92, 3) := by decide +kernel
theorem d_G_message_53 : decode prog_1_method_3_code 53 = .ok (.invokevirtual 89, 3) := by decide +kernel
theorem d_G_message_56 : decode prog_1_method_3_code 56 = .ok (.aload_n 0, 1) := by decide +kernel
theorem d_G_message_57 : decode prog_1_method_3_code 57 = .ok (.aload_n 0, 1) := by decide +kernel
theorem d_G_message_58 : decode prog_1_method_3_code 58 = .ok (.getfield 33, 3) := by decide +kernel
theorem d_G_message_61 : decode prog_1_method_3_code 61 = .ok (.getfield 95, 3) := by decide +kernel
theorem d_G_message_64 : decode prog_1_method_3_code 64 = .ok (.putfield 55, 3) := by decide +kernel
theorem d_G_message_67 : decode prog_1_method_3_code 67 = .ok (.aload_n 0, 1) := by decide +kernel
theorem d_G_message_68 : decode prog_1_method_3_code 68 = .ok (.invokevirtual 98, 3) := by decide +kernel
theorem d_G_message_71 : decode prog_1_method_3_code 71 = .ok (.iconst 0, 1) := by decide +kernel
theorem d_G_message_72 : decode prog_1_method_3_code 72 = .ok (.ireturn, 1) := by decide +kernel
theorem d_G_mark_0 : decode prog_1_method_4_code 0 = .ok (.aload_n 0, 1) := by decide +kernel
theorem d_G_mark_1 : decode prog_1_method_4_code 1 = .ok (.getfield 19, 3) := by decide +kernel
theorem d_G_mark_4 : decode prog_1_method_4_code 4 = .ok (.getfield 101, 3) := by decide +kernel
theorem d_G_mark_7 : decode prog_1_method_4_code 7 = .ok (.astore_n 2, 1) := by decide +kernel
theorem d_G_mark_8 : decode prog_1_method_4_code 8 = .ok (.aload_n 2, 1) := by decide +kernel
theorem d_G_mark_9 : decode prog_1_method_4_code 9 = .ok (.iload_n 1, 1) := by decide +kernel
theorem d_G_mark_10 : decode prog_1_method_4_code 10 = .ok (.invokevirtual 105, 3) := by decide +kernel
theorem d_G_mark_13 : decode prog_1_method_4_code 13 = .ok (.istore_n 3, 1) := by decide +kernel
theorem d_G_mark_14 : decode prog_1_method_4_code 14 = .ok (.iload_n 3, 1) := by decide +kernel
theorem d_G_mark_15 : decode prog_1_method_4_code 15 = .ok (.ifCond .ge (5), 3) := by decide +kernel
theorem d_G_mark_18 : decode prog_1_method_4_code 18 = .ok (.iconst 0, 1) := by decide +kernel
theorem d_G_mark_19 : decode prog_1_method_4_code 19 = .ok (.ireturn, 1) := by decide +kernel
theorem d_G_mark_20 : decode prog_1_method_4_code 20 = .ok (.aload_n 2, 1) := by decide +kernel
theorem d_G_mark_21 : decode prog_1_method_4_code 21 = .ok (.iload_n 3, 1) := by decide +kernel
theorem d_G_mark_22 : decode prog_1_method_4_code 22 = .ok (.invokevirtual 111, 3) := by decide +kernel
theorem d_G_mark_25 : decode prog_1_method_4_code 25 = .ok (.ifCond .ne (33), 3) := by decide +kernel
theorem d_G_mark_28 : decode prog_1_method_4_code 28 = .ok (.aload_n 0, 1) := by decide +kernel
theorem d_G_mark_29 : decode prog_1_method_4_code 29 = .ok (.getfield 10, 3) := by decide +kernel
theorem d_G_mark_32 : decode prog_1_method_4_code 32 = .ok (.getfield 115, 3) := by decide +kernel
theorem d_G_mark_35 : decode prog_1_method_4_code 35 = .ok (.aload_n 2, 1) := by decide +kernel
theorem d_G_mark_36 : decode prog_1_method_4_code 36 = .ok (.iload_n 3, 1) := by decide +kernel
theorem d_G_mark_37 : decode prog_1_method_4_code 37 = .ok (.invokevirtual 118, 3) := by decide +kernel
theorem d_G_mark_40 : decode prog_1_method_4_code 40 = .ok (.if_icmp .lt (18), 3) := by decide +kernel
theorem d_G_mark_43 : decode prog_1_method_4_code 43 = .ok (.aload_n 0, 1) := by decide +kernel
theorem d_G_mark_44 : decode prog_1_method_4_code 44 = .ok (.getfield 10, 3) := by decide +kernel
theorem d_G_mark_47 : decode prog_1_method_4_code 47 = .ok (.getfield 121, 3) := by decide +kernel
theorem d_G_mark_50 : decode prog_1_method_4_code 50 = .ok (.aload_n 2, 1) := by decide +kernel
theorem d_G_mark_51 : decode prog_1_method_4_code 51 = .ok (.iload_n 3, 1) := by decide +kernel
theorem d_G_mark_52 : decode prog_1_method_4_code 52 = .ok (.invokevirtual 124, 3) := by decide +kernel
theorem d_G_mark_55 : decode prog_1_method_4_code 55 = .ok (.if_icmp .le (7), 3) := by decide +kernel
theorem d_G_mark_58 : decode prog_1_method_4_code 58 = .ok (.iconst 1, 1) := by decide +kernel
theorem d_G_mark_59 : decode prog_1_method_4_code 59 = .ok (.goto (4), 3) := by decide +kernel
theorem d_G_mark_62 : decode prog_1_method_4_code 62 = .ok (.iconst 0, 1) := by decide +kernel
theorem d_G_mark_63 : decode prog_1_method_4_code 63 = .ok (.istore 4, 2) := by decide +kernel
theorem d_G_mark_65 : decode prog_1_method_4_code 65 = .ok (.aload_n 2, 1) := by decide +kernel
theorem d_G_mark_66 : decode prog_1_method_4_code 66 = .ok (.iload_n 3, 1) := by decide +kernel
theorem d_G_mark_67 : decode prog_1_method_4_code 67 = .ok (.invokevirtual 127, 3) := by decide +kernel
theorem d_G_mark_70 : decode prog_1_method_4_code 70 = .ok (.aload_n 0, 1) := by decide +kernel
theorem d_G_mark_71 : decode prog_1_method_4_code 71 = .ok (.iconst 5, 1) := by decide +kernel
theorem d_G_mark_72 : decode prog_1_method_4_code 72 = .ok (.iload_n 1, 1) := by decide +kernel
theorem d_G_mark_73 : decode prog_1_method_4_code 73 = .ok (.bipush (100), 2) := by decide +kernel
theorem d_G_mark_75 : decode prog_1_method_4_code 75 = .ok (.irem, 1) := by decide +kernel
theorem d_G_mark_76 : decode prog_1_method_4_code 76 = .ok (.invokevirtual 89, 3) := by decide +kernel
theorem d_G_mark_79 : decode prog_1_method_4_code 79 = .ok (.iload 4, 2) := by decide +kernel
theorem d_G_mark_81 : decode prog_1_method_4_code 81 = .ok (.ifCond .eq (10), 3) := by decide +kernel
theorem d_G_mark_84 : decode prog_1_method_4_code 84 = .ok (.aload_n 0, 1) := by decide +kernel
theorem d_G_mark_85 : decode prog_1_method_4_code 85 = .ok (.invokevirtual 131, 3) := by decide +kernel
theorem d_G_mark_88 : decode prog_1_method_4_code 88 = .ok (.goto (20), 3) := by decide +kernel
theorem d_G_mark_91 : decode prog_1_method_4_code 91 = .ok (.aload_n 0, 1) := by decide +kernel
theorem d_G_mark_92 : decode prog_1_method_4_code 92 = .ok (.getfield 10, 3) := by decide +kernel
theorem d_G_mark_95 : decode prog_1_method_4_code 95 = .ok (.aload_n 2, 1) := by decide +kernel
theorem d_G_mark_96 : decode prog_1_method_4_code 96 = .ok (.iload_n 3, 1) := by decide +kernel
theorem d_G_mark_97 : decode prog_1_method_4_code 97 = .ok (.invokevirtual 118, 3) := by decide +kernel
theorem d_G_mark_100 : decode prog_1_method_4_code 100 = .ok (.aload_n 2, 1) := by decide +kernel
theorem d_G_mark_101 : decode prog_1_method_4_code 101 = .ok (.iload_n 3, 1) := by decide +kernel
theorem d_G_mark_102 : decode prog_1_method_4_code 102 = .ok (.invokevirtual 124, 3) := by decide +kernel
theorem d_G_mark_105 : decode prog_1_method_4_code 105 = .ok (.invokevirtual 134, 3) := by decide +kernel
theorem d_G_mark_108 : decode prog_1_method_4_code 108 = .ok (.iconst 1, 1) := by decide +kernel
theorem d_G_mark_109 : decode prog_1_method_4_code 109 = .ok (.ireturn, 1) := by decide +kernel
theorem d_G_cycle_0 : decode prog_1_method_5_code 0 = .ok (.aload_n 0, 1) := by decide +kernel
theorem d_G_cycle_1 : decode prog_1_method_5_code 1 = .ok (.dup, 1) := by decide +kernel
theorem d_G_cycle_2 : decode prog_1_method_5_code 2 = .ok (.getfield 137, 3) := by decide +kernel
theorem d_G_cycle_5 : decode prog_1_method_5_code 5 = .ok (.iconst 1, 1) := by decide +kernel
theorem d_G_cycle_6 : decode prog_1_method_5_code 6 = .ok (.iadd, 1) := by decide +kernel
theorem d_G_cycle_7 : decode prog_1_method_5_code 7 = .ok (.putfield 137, 3) := by decide +kernel
theorem d_G_cycle_10 : decode prog_1_method_5_code 10 = .ok (.aload_n 0, 1) := by decide +kernel
theorem d_G_cycle_11 : decode prog_1_method_5_code 11 = .ok (.getfield 51, 3) := by decide +kernel
theorem d_G_cycle_14 : decode prog_1_method_5_code 14 = .ok (.bipush (6), 2) := by decide +kernel
theorem d_G_cycle_16 : decode prog_1_method_5_code 16 = .ok (.if_icmp .eq (14), 3) := by decide +kernel
theorem d_G_cycle_19 : decode prog_1_method_5_code 19 = .ok (.iload_n 1, 1) := by decide +kernel
theorem d_G_cycle_20 : decode prog_1_method_5_code 20 = .ok (.ifCond .lt (10), 3) := by decide +kernel
theorem d_G_cycle_23 : decode prog_1_method_5_code 23 = .ok (.iload_n 1, 1) := by decide +kernel
theorem d_G_cycle_24 : decode prog_1_method_5_code 24 = .ok (.sipush (500), 3) := by decide +kernel
theorem d_G_cycle_27 : decode prog_1_method_5_code 27 = .ok (.if_icmp .le (12), 3) := by decide +kernel
theorem d_G_cycle_30 : decode prog_1_method_5_code 30 = .ok (.aload_n 0, 1) := by decide +kernel
theorem d_G_cycle_31 : decode prog_1_method_5_code 31 = .ok (.bipush (6), 2) := by decide +kernel
theorem d_G_cycle_33 : decode prog_1_method_5_code 33 = .ok (.invokevirtual 140, 3) := by decide +kernel
theorem d_G_cycle_36 : decode prog_1_method_5_code 36 = .ok (.goto (15), 3) := by decide +kernel
theorem d_G_cycle_39 : decode prog_1_method_5_code 39 = .ok (.aload_n 0, 1) := by decide +kernel
theorem d_G_cycle_40 : decode prog_1_method_5_code 40 = .ok (.getfield 10, 3) := by decide +kernel
theorem d_G_cycle_43 : decode prog_1_method_5_code 43 = .ok (.iload_n 1, 1) := by decide +kernel
theorem d_G_cycle_44 : decode prog_1_method_5_code 44 = .ok (.invokevirtual 143, 3) := by decide +kernel
theorem d_G_cycle_47 : decode prog_1_method_5_code 47 = .ok (.aload_n 0, 1) := by decide +kernel
theorem d_G_cycle_48 : decode prog_1_method_5_code 48 = .ok (.invokevirtual 146, 3) := by decide +kernel
theorem d_G_cycle_51 : decode prog_1_method_5_code 51 = .ok (.aload_n 0, 1) := by decide +kernel
theorem d_G_cycle_52 : decode prog_1_method_5_code 52 = .ok (.getfield 149, 3) := by decide +kernel
theorem d_G_cycle_55 : decode prog_1_method_5_code 55 = .ok (.ifCond .eq (13), 3) := by decide +kernel
theorem d_G_cycle_58 : decode prog_1_method_5_code 58 = .ok (.aload_n 0, 1) := by decide +kernel
theorem d_G_cycle_59 : decode prog_1_method_5_code 59 = .ok (.dup, 1) := by decide +kernel
theorem d_G_cycle_60 : decode prog_1_method_5_code 60 = .ok (.getfield 153, 3) := by decide +kernel
theorem d_G_cycle_63 : decode prog_1_method_5_code 63 = .ok (.iconst 1, 1) := by decide +kernel
theorem d_G_cycle_64 : decode prog_1_method_5_code 64 = .ok (.iadd, 1) := by decide +kernel
theorem d_G_cycle_65 : decode prog_1_method_5_code 65 = .ok (.putfield 153, 3) := by decide +kernel
theorem d_G_cycle_68 : decode prog_1_method_5_code 68 = .ok (.aload_n 0, 1) := by decide +kernel
theorem d_G_cycle_69 : decode prog_1_method_5_code 69 = .ok (.getfield 149, 3) := by decide +kernel
theorem d_G_cycle_72 : decode prog_1_method_5_code 72 = .ok (.ifCond .eq (15), 3) := by decide +kernel
theorem d_G_cycle_75 : decode prog_1_method_5_code 75 = .ok (.aload_n 0, 1) := by decide +kernel
theorem d_G_cycle_76 : decode prog_1_method_5_code 76 = .ok (.getfield 153, 3) := by decide +kernel
theorem d_G_cycle_79 : decode prog_1_method_5_code 79 = .ok (.iconst 3, 1) := by decide +kernel
theorem d_G_cycle_80 : decode prog_1_method_5_code 80 = .ok (.if_icmp .lt (7), 3) := by decide +kernel
theorem d_G_cycle_83 : decode prog_1_method_5_code 83 = .ok (.iconst 1, 1) := by decide +kernel
theorem d_G_cycle_84 : decode prog_1_method_5_code 84 = .ok (.goto (4), 3) := by decide +kernel
theorem d_G_cycle_87 : decode prog_1_method_5_code 87 = .ok (.iconst 0, 1) := by decide +kernel
theorem d_G_cycle_88 : decode prog_1_method_5_code 88 = .ok (.istore_n 2, 1) := by decide +kernel
theorem d_G_cycle_89 : decode prog_1_method_5_code 89 = .ok (.aload_n 0, 1) := by decide +kernel
theorem d_G_cycle_90 : decode prog_1_method_5_code 90 = .ok (.getfield 40, 3) := by decide +kernel
theorem d_G_cycle_93 : decode prog_1_method_5_code 93 = .ok (.aload_n 0, 1) := by decide +kernel
theorem d_G_cycle_94 : decode prog_1_method_5_code 94 = .ok (.invokevirtual 156, 3) := by decide +kernel
theorem d_G_cycle_97 : decode prog_1_method_5_code 97 = .ok (.iload_n 1, 1) := by decide +kernel
theorem d_G_cycle_98 : decode prog_1_method_5_code 98 = .ok (.ifCond .ne (7), 3) := by decide +kernel
theorem d_G_cycle_101 : decode prog_1_method_5_code 101 = .ok (.iconst 1, 1) := by decide +kernel
theorem d_G_cycle_102 : decode prog_1_method_5_code 102 = .ok (.goto (4), 3) := by decide +kernel
theorem d_G_cycle_105 : decode prog_1_method_5_code 105 = .ok (.iconst 0, 1) := by decide +kernel
theorem d_G_cycle_106 : decode prog_1_method_5_code 106 = .ok (.iload_n 2, 1) := by decide +kernel
theorem d_G_cycle_107 : decode prog_1_method_5_code 107 = .ok (.invokevirtual 159, 3) := by decide +kernel
theorem d_G_cycle_110 : decode prog_1_method_5_code 110 = .ok (.ifCond .eq (15), 3) := by decide +kernel
theorem d_G_cycle_113 : decode prog_1_method_5_code 113 = .ok (.aload_n 0, 1) := by decide +kernel
theorem d_G_cycle_114 : decode prog_1_method_5_code 114 = .ok (.iconst 2, 1) := by decide +kernel
theorem d_G_cycle_115 : decode prog_1_method_5_code 115 = .ok (.aload_n 0, 1) := by decide +kernel
theorem d_G_cycle_116 : decode prog_1_method_5_code 116 = .ok (.getfield 40, 3) := by decide +kernel
theorem d_G_cycle_119 : decode prog_1_method_5_code 119 = .ok (.getfield 163, 3) := by decide +kernel
theorem d_G_cycle_122 : decode prog_1_method_5_code 122 = .ok (.invokevirtual 89, 3) := by decide +kernel
theorem d_G_cycle_125 : decode prog_1_method_5_code 125 = .ok (.aload_n 0, 1) := by decide +kernel
theorem d_G_cycle_126 : decode prog_1_method_5_code 126 = .ok (.getfield 40, 3) := by decide +kernel
theorem d_G_cycle_129 : decode prog_1_method_5_code 129 = .ok (.getfield 163, 3) := by decide +kernel
theorem d_G_cycle_132 : decode prog_1_method_5_code 132 = .ok (.ireturn, 1) := by decide +kernel
theorem d_G_driver_0 : decode prog_1_method_6_code 0 = .ok (.aload_n 0, 1) := by decide +kernel
theorem d_G_driver_1 : decode prog_1_method_6_code 1 = .ok (.iload_n 1, 1) := by decide +kernel
theorem d_G_driver_2 : decode prog_1_method_6_code 2 = .ok (.invokevirtual 166, 3) := by decide +kernel
theorem d_G_driver_5 : decode prog_1_method_6_code 5 = .ok (.ifCond .ne (5), 3) := by decide +kernel
theorem d_G_driver_8 : decode prog_1_method_6_code 8 = .ok (.iconst 0, 1) := by decide +kernel
theorem d_G_driver_9 : decode prog_1_method_6_code 9 = .ok (.ireturn, 1) := by decide +kernel
theorem d_G_driver_10 : decode prog_1_method_6_code 10 = .ok (.aload_n 0, 1) := by decide +kernel
theorem d_G_driver_11 : decode prog_1_method_6_code 11 = .ok (.bipush (7), 2) := by decide +kernel
theorem d_G_driver_13 : decode prog_1_method_6_code 13 = .ok (.iload_n 1, 1) := by decide +kernel
theorem d_G_driver_14 : decode prog_1_method_6_code 14 = .ok (.invokevirtual 89, 3) := by decide +kernel
theorem d_G_driver_17 : decode prog_1_method_6_code 17 = .ok (.iload_n 1, 1) := by decide +kernel
theorem d_G_driver_18 : decode prog_1_method_6_code 18 = .ok (.ifCond .ne (10), 3) := by decide +kernel
theorem d_G_driver_21 : decode prog_1_method_6_code 21 = .ok (.aload_n 0, 1) := by decide +kernel
theorem d_G_driver_22 : decode prog_1_method_6_code 22 = .ok (.invokevirtual 169, 3) := by decide +kernel
theorem d_G_driver_25 : decode prog_1_method_6_code 25 = .ok (.goto (21), 3) := by decide +kernel
theorem d_G_driver_28 : decode prog_1_method_6_code 28 = .ok (.iload_n 1, 1) := by decide +kernel
theorem d_G_driver_29 : decode prog_1_method_6_code 29 = .ok (.iconst 1, 1) := by decide +kernel
theorem d_G_driver_30 : decode prog_1_method_6_code 30 = .ok (.if_icmp .ne (11), 3) := by decide +kernel
theorem d_G_driver_33 : decode prog_1_method_6_code 33 = .ok (.aload_n 0, 1) := by decide +kernel
theorem d_G_driver_34 : decode prog_1_method_6_code 34 = .ok (.iconst 0, 1) := by decide +kernel
theorem d_G_driver_35 : decode prog_1_method_6_code 35 = .ok (.putfield 149, 3) := by decide +kernel
theorem d_G_driver_38 : decode prog_1_method_6_code 38 = .ok (.goto (8), 3) := by decide +kernel
theorem d_G_driver_41 : decode prog_1_method_6_code 41 = .ok (.aload_n 0, 1) := by decide +kernel
theorem d_G_driver_42 : decode prog_1_method_6_code 42 = .ok (.iconst 5, 1) := by decide +kernel
theorem d_G_driver_43 : decode prog_1_method_6_code 43 = .ok (.invokevirtual 140, 3) := by decide +kernel
theorem d_G_driver_46 : decode prog_1_method_6_code 46 = .ok (.iconst 1, 1) := by decide +kernel
theorem d_G_driver_47 : decode prog_1_method_6_code 47 = .ok (.ireturn, 1) := by decide +kernel
theorem d_G_mode_0 : decode prog_1_method_7_code 0 = .ok (.aload_n 0, 1) := by decide +kernel
theorem d_G_mode_1 : decode prog_1_method_7_code 1 = .ok (.getfield 51, 3) := by decide +kernel
theorem d_G_mode_4 : decode prog_1_method_7_code 4 = .ok (.ireturn, 1) := by decide +kernel
theorem d_G_state_0 : decode prog_1_method_8_code 0 = .ok (.iload_n 1, 1) := by decide +kernel
theorem d_G_state_1 : decode prog_1_method_8_code 1 = .ok (.tableswitch (101) (0) (6) #[43, 51, 59, 67, 75, 88, 93], 43) := by decide +kernel
theorem d_G_state_44 : decode prog_1_method_8_code 44 = .ok (.aload_n 0, 1) := by decide +kernel
theorem d_G_state_45 : decode prog_1_method_8_code 45 = .ok (.getfield 10, 3) := by decide +kernel
theorem d_G_state_48 : decode prog_1_method_8_code 48 = .ok (.getfield 121, 3) := by decide +kernel
theorem d_G_state_51 : decode prog_1_method_8_code 51 = .ok (.ireturn, 1) := by decide +kernel
theorem d_G_state_52 : decode prog_1_method_8_code 52 = .ok (.aload_n 0, 1) := by decide +kernel
theorem d_G_state_53 : decode prog_1_method_8_code 53 = .ok (.getfield 10, 3) := by decide +kernel
theorem d_G_state_56 : decode prog_1_method_8_code 56 = .ok (.getfield 115, 3) := by decide +kernel
theorem d_G_state_59 : decode prog_1_method_8_code 59 = .ok (.ireturn, 1) := by decide +kernel
theorem d_G_state_60 : decode prog_1_method_8_code 60 = .ok (.aload_n 0, 1) := by decide +kernel
theorem d_G_state_61 : decode prog_1_method_8_code 61 = .ok (.getfield 10, 3) := by decide +kernel
theorem d_G_state_64 : decode prog_1_method_8_code 64 = .ok (.getfield 172, 3) := by decide +kernel
theorem d_G_state_67 : decode prog_1_method_8_code 67 = .ok (.ireturn, 1) := by decide +kernel
theorem d_G_state_68 : decode prog_1_method_8_code 68 = .ok (.aload_n 0, 1) := by decide +kernel
theorem d_G_state_69 : decode prog_1_method_8_code 69 = .ok (.getfield 40, 3) := by decide +kernel
theorem d_G_state_72 : decode prog_1_method_8_code 72 = .ok (.getfield 163, 3) := by decide +kernel
theorem d_G_state_75 : decode prog_1_method_8_code 75 = .ok (.ireturn, 1) := by decide +kernel
theorem d_G_state_76 : decode prog_1_method_8_code 76 = .ok (.aload_n 0, 1) := by decide +kernel
theorem d_G_state_77 : decode prog_1_method_8_code 77 = .ok (.getfield 149, 3) := by decide +kernel
theorem d_G_state_80 : decode prog_1_method_8_code 80 = .ok (.ifCond .eq (7), 3) := by decide +kernel
theorem d_G_state_83 : decode prog_1_method_8_code 83 = .ok (.iconst 1, 1) := by decide +kernel
theorem d_G_state_84 : decode prog_1_method_8_code 84 = .ok (.goto (4), 3) := by decide +kernel
theorem d_G_state_87 : decode prog_1_method_8_code 87 = .ok (.iconst 0, 1) := by decide +kernel
theorem d_G_state_88 : decode prog_1_method_8_code 88 = .ok (.ireturn, 1) := by decide +kernel
theorem d_G_state_89 : decode prog_1_method_8_code 89 = .ok (.aload_n 0, 1) := by decide +kernel
theorem d_G_state_90 : decode prog_1_method_8_code 90 = .ok (.getfield 137, 3) := by decide +kernel
theorem d_G_state_93 : decode prog_1_method_8_code 93 = .ok (.ireturn, 1) := by decide +kernel
theorem d_G_state_94 : decode prog_1_method_8_code 94 = .ok (.aload_n 0, 1) := by decide +kernel
theorem d_G_state_95 : decode prog_1_method_8_code 95 = .ok (.getfield 26, 3) := by decide +kernel
theorem d_G_state_98 : decode prog_1_method_8_code 98 = .ok (.getfield 175, 3) := by decide +kernel
theorem d_G_state_101 : decode prog_1_method_8_code 101 = .ok (.ireturn, 1) := by decide +kernel
theorem d_G_state_102 : decode prog_1_method_8_code 102 = .ok (.iconst (-1), 1) := by decide +kernel
theorem d_G_state_103 : decode prog_1_method_8_code 103 = .ok (.ireturn, 1) := by decide +kernel
theorem d_G_display_0 : decode prog_1_method_9_code 0 = .ok (.iload_n 1, 1) := by decide +kernel
theorem d_G_display_1 : decode prog_1_method_9_code 1 = .ok (.tableswitch (91) (0) (3) #[31, 36, 41, 75], 31) := by decide +kernel
theorem d_G_display_32 : decode prog_1_method_9_code 32 = .ok (.aload_n 0, 1) := by decide +kernel
theorem d_G_display_33 : decode prog_1_method_9_code 33 = .ok (.invokevirtual 178, 3) := by decide +kernel
theorem d_G_display_36 : decode prog_1_method_9_code 36 = .ok (.ireturn, 1) := by decide +kernel
theorem d_G_display_37 : decode prog_1_method_9_code 37 = .ok (.aload_n 0, 1) := by decide +kernel
theorem d_G_display_38 : decode prog_1_method_9_code 38 = .ok (.invokevirtual 156, 3) := by decide +kernel
theorem d_G_display_41 : decode prog_1_method_9_code 41 = .ok (.ireturn, 1) := by decide +kernel
theorem d_G_display_42 : decode prog_1_method_9_code 42 = .ok (.aload_n 0, 1) := by decide +kernel
theorem d_G_display_43 : decode prog_1_method_9_code 43 = .ok (.getfield 19, 3) := by decide +kernel
theorem d_G_display_46 : decode prog_1_method_9_code 46 = .ok (.getfield 181, 3) := by decide +kernel
theorem d_G_display_49 : decode prog_1_method_9_code 49 = .ok (.ifCond .eq (25), 3) := by decide +kernel
theorem d_G_display_52 : decode prog_1_method_9_code 52 = .ok (.aload_n 0, 1) := by decide +kernel
theorem d_G_display_53 : decode prog_1_method_9_code 53 = .ok (.getfield 19, 3) := by decide +kernel
theorem d_G_display_56 : decode prog_1_method_9_code 56 = .ok (.getfield 184, 3) := by decide +kernel
theorem d_G_display_59 : decode prog_1_method_9_code 59 = .ok (.aload_n 0, 1) := by decide +kernel
theorem d_G_display_60 : decode prog_1_method_9_code 60 = .ok (.getfield 10, 3) := by decide +kernel
theorem d_G_display_63 : decode prog_1_method_9_code 63 = .ok (.getfield 115, 3) := by decide +kernel
theorem d_G_display_66 : decode prog_1_method_9_code 66 = .ok (.isub, 1) := by decide +kernel
theorem d_G_display_67 : decode prog_1_method_9_code 67 = .ok (.iconst 0, 1) := by decide +kernel
theorem d_G_display_68 : decode prog_1_method_9_code 68 = .ok (.invokestatic 187, 3) := by decide +kernel
theorem d_G_display_71 : decode prog_1_method_9_code 71 = .ok (.goto (4), 3) := by decide +kernel
theorem d_G_display_74 : decode prog_1_method_9_code 74 = .ok (.iconst (-1), 1) := by decide +kernel
theorem d_G_display_75 : decode prog_1_method_9_code 75 = .ok (.ireturn, 1) := by decide +kernel
theorem d_G_display_76 : decode prog_1_method_9_code 76 = .ok (.aload_n 0, 1) := by decide +kernel
theorem d_G_display_77 : decode prog_1_method_9_code 77 = .ok (.invokevirtual 193, 3) := by decide +kernel
theorem d_G_display_80 : decode prog_1_method_9_code 80 = .ok (.ifCond .eq (7), 3) := by decide +kernel
theorem d_G_display_83 : decode prog_1_method_9_code 83 = .ok (.iconst (-1), 1) := by decide +kernel
theorem d_G_display_84 : decode prog_1_method_9_code 84 = .ok (.goto (7), 3) := by decide +kernel
theorem d_G_display_87 : decode prog_1_method_9_code 87 = .ok (.aload_n 0, 1) := by decide +kernel
theorem d_G_display_88 : decode prog_1_method_9_code 88 = .ok (.invokevirtual 197, 3) := by decide +kernel
theorem d_G_display_91 : decode prog_1_method_9_code 91 = .ok (.ireturn, 1) := by decide +kernel
theorem d_G_display_92 : decode prog_1_method_9_code 92 = .ok (.iconst (-1), 1) := by decide +kernel
theorem d_G_display_93 : decode prog_1_method_9_code 93 = .ok (.ireturn, 1) := by decide +kernel
theorem d_G_limit_0 : decode prog_1_method_10_code 0 = .ok (.iload_n 1, 1) := by decide +kernel
theorem d_G_limit_1 : decode prog_1_method_10_code 1 = .ok (.ifCond .ge (9), 3) := by decide +kernel
theorem d_G_limit_4 : decode prog_1_method_10_code 4 = .ok (.sipush (600), 3) := by decide +kernel
theorem d_G_limit_7 : decode prog_1_method_10_code 7 = .ok (.goto (12), 3) := by decide +kernel
theorem d_G_limit_10 : decode prog_1_method_10_code 10 = .ok (.aload_n 0, 1) := by decide +kernel
theorem d_G_limit_11 : decode prog_1_method_10_code 11 = .ok (.getfield 19, 3) := by decide +kernel
theorem d_G_limit_14 : decode prog_1_method_10_code 14 = .ok (.iload_n 1, 1) := by decide +kernel
theorem d_G_limit_15 : decode prog_1_method_10_code 15 = .ok (.iload_n 1, 1) := by decide +kernel
theorem d_G_limit_16 : decode prog_1_method_10_code 16 = .ok (.invokevirtual 200, 3) := by decide +kernel
theorem d_G_limit_19 : decode prog_1_method_10_code 19 = .ok (.ireturn, 1) := by decide +kernel
theorem d_G_way_0 : decode prog_1_method_11_code 0 = .ok (.iload_n 1, 1) := by decide +kernel
theorem d_G_way_1 : decode prog_1_method_11_code 1 = .ok (.ifCond .lt (32), 3) := by decide +kernel
theorem d_G_way_4 : decode prog_1_method_11_code 4 = .ok (.iload_n 1, 1) := by decide +kernel
theorem d_G_way_5 : decode prog_1_method_11_code 5 = .ok (.sipush (600), 3) := by decide +kernel
theorem d_G_way_8 : decode prog_1_method_11_code 8 = .ok (.if_icmp .gt (25), 3) := by decide +kernel
theorem d_G_way_11 : decode prog_1_method_11_code 11 = .ok (.iload_n 2, 1) := by decide +kernel
theorem d_G_way_12 : decode prog_1_method_11_code 12 = .ok (.ifCond .lt (21), 3) := by decide +kernel
theorem d_G_way_15 : decode prog_1_method_11_code 15 = .ok (.iload_n 2, 1) := by decide +kernel
theorem d_G_way_16 : decode prog_1_method_11_code 16 = .ok (.sipush (600), 3) := by decide +kernel
theorem d_G_way_19 : decode prog_1_method_11_code 19 = .ok (.if_icmp .gt (14), 3) := by decide +kernel
theorem d_G_way_22 : decode prog_1_method_11_code 22 = .ok (.iload_n 3, 1) := by decide +kernel
theorem d_G_way_23 : decode prog_1_method_11_code 23 = .ok (.iconst 1, 1) := by decide +kernel
theorem d_G_way_24 : decode prog_1_method_11_code 24 = .ok (.if_icmp .lt (9), 3) := by decide +kernel
theorem d_G_way_27 : decode prog_1_method_11_code 27 = .ok (.iload_n 3, 1) := by decide +kernel
theorem d_G_way_28 : decode prog_1_method_11_code 28 = .ok (.bipush (40), 2) := by decide +kernel
theorem d_G_way_30 : decode prog_1_method_11_code 30 = .ok (.if_icmp .le (5), 3) := by decide +kernel
theorem d_G_way_33 : decode prog_1_method_11_code 33 = .ok (.iconst (-1), 1) := by decide +kernel
theorem d_G_way_34 : decode prog_1_method_11_code 34 = .ok (.ireturn, 1) := by decide +kernel
theorem d_G_way_35 : decode prog_1_method_11_code 35 = .ok (.iload_n 1, 1) := by decide +kernel
theorem d_G_way_36 : decode prog_1_method_11_code 36 = .ok (.iload_n 2, 1) := by decide +kernel
theorem d_G_way_37 : decode prog_1_method_11_code 37 = .ok (.iload_n 3, 1) := by decide +kernel
theorem d_G_way_38 : decode prog_1_method_11_code 38 = .ok (.invokestatic 203, 3) := by decide +kernel
theorem d_G_way_41 : decode prog_1_method_11_code 41 = .ok (.ireturn, 1) := by decide +kernel
theorem d_G_marks_0 : decode prog_1_method_12_code 0 = .ok (.aload_n 0, 1) := by decide +kernel
theorem d_G_marks_1 : decode prog_1_method_12_code 1 = .ok (.getfield 19, 3) := by decide +kernel
theorem d_G_marks_4 : decode prog_1_method_12_code 4 = .ok (.getfield 101, 3) := by decide +kernel
theorem d_G_marks_7 : decode prog_1_method_12_code 7 = .ok (.iload_n 1, 1) := by decide +kernel
theorem d_G_marks_8 : decode prog_1_method_12_code 8 = .ok (.invokevirtual 206, 3) := by decide +kernel
theorem d_G_marks_11 : decode prog_1_method_12_code 11 = .ok (.ireturn, 1) := by decide +kernel
theorem d_G_note_0 : decode prog_1_method_13_code 0 = .ok (.aload_n 0, 1) := by decide +kernel
theorem d_G_note_1 : decode prog_1_method_13_code 1 = .ok (.getfield 47, 3) := by decide +kernel
theorem d_G_note_4 : decode prog_1_method_13_code 4 = .ok (.iload_n 1, 1) := by decide +kernel
theorem d_G_note_5 : decode prog_1_method_13_code 5 = .ok (.invokevirtual 209, 3) := by decide +kernel
theorem d_G_note_8 : decode prog_1_method_13_code 8 = .ok (.ireturn, 1) := by decide +kernel
theorem d_G_within_0 : decode prog_1_method_14_code 0 = .ok (.iload_n 1, 1) := by decide +kernel
theorem d_G_within_1 : decode prog_1_method_14_code 1 = .ok (.iload_n 0, 1) := by decide +kernel
theorem d_G_within_2 : decode prog_1_method_14_code 2 = .ok (.iload_n 2, 1) := by decide +kernel
theorem d_G_within_3 : decode prog_1_method_14_code 3 = .ok (.invokestatic 212, 3) := by decide +kernel
theorem d_G_within_6 : decode prog_1_method_14_code 6 = .ok (.invokestatic 187, 3) := by decide +kernel
theorem d_G_within_9 : decode prog_1_method_14_code 9 = .ok (.ireturn, 1) := by decide +kernel
theorem d_G_brakingWay_0 : decode prog_1_method_15_code 0 = .ok (.iload_n 0, 1) := by decide +kernel
theorem d_G_brakingWay_1 : decode prog_1_method_15_code 1 = .ok (.iload_n 1, 1) := by decide +kernel
theorem d_G_brakingWay_2 : decode prog_1_method_15_code 2 = .ok (.if_icmp .le (8), 3) := by decide +kernel
theorem d_G_brakingWay_5 : decode prog_1_method_15_code 5 = .ok (.iload_n 2, 1) := by decide +kernel
theorem d_G_brakingWay_6 : decode prog_1_method_15_code 6 = .ok (.iconst 1, 1) := by decide +kernel
theorem d_G_brakingWay_7 : decode prog_1_method_15_code 7 = .ok (.if_icmp .ge (5), 3) := by decide +kernel
theorem d_G_brakingWay_10 : decode prog_1_method_15_code 10 = .ok (.iconst 0, 1) := by decide +kernel
theorem d_G_brakingWay_11 : decode prog_1_method_15_code 11 = .ok (.ireturn, 1) := by decide +kernel
theorem d_G_brakingWay_12 : decode prog_1_method_15_code 12 = .ok (.iload_n 0, 1) := by decide +kernel
theorem d_G_brakingWay_13 : decode prog_1_method_15_code 13 = .ok (.iload_n 1, 1) := by decide +kernel
theorem d_G_brakingWay_14 : decode prog_1_method_15_code 14 = .ok (.isub, 1) := by decide +kernel
theorem d_G_brakingWay_15 : decode prog_1_method_15_code 15 = .ok (.iload_n 2, 1) := by decide +kernel
theorem d_G_brakingWay_16 : decode prog_1_method_15_code 16 = .ok (.iadd, 1) := by decide +kernel
theorem d_G_brakingWay_17 : decode prog_1_method_15_code 17 = .ok (.iconst 1, 1) := by decide +kernel
theorem d_G_brakingWay_18 : decode prog_1_method_15_code 18 = .ok (.isub, 1) := by decide +kernel
theorem d_G_brakingWay_19 : decode prog_1_method_15_code 19 = .ok (.iload_n 2, 1) := by decide +kernel
theorem d_G_brakingWay_20 : decode prog_1_method_15_code 20 = .ok (.idiv, 1) := by decide +kernel
theorem d_G_brakingWay_21 : decode prog_1_method_15_code 21 = .ok (.istore_n 3, 1) := by decide +kernel
theorem d_G_brakingWay_22 : decode prog_1_method_15_code 22 = .ok (.iload_n 3, 1) := by decide +kernel
theorem d_G_brakingWay_23 : decode prog_1_method_15_code 23 = .ok (.iconst 1, 1) := by decide +kernel
theorem d_G_brakingWay_24 : decode prog_1_method_15_code 24 = .ok (.isub, 1) := by decide +kernel
theorem d_G_brakingWay_25 : decode prog_1_method_15_code 25 = .ok (.istore 4, 2) := by decide +kernel
theorem d_G_brakingWay_27 : decode prog_1_method_15_code 27 = .ok (.iload_n 0, 1) := by decide +kernel
theorem d_G_brakingWay_28 : decode prog_1_method_15_code 28 = .ok (.iload_n 3, 1) := by decide +kernel
theorem d_G_brakingWay_29 : decode prog_1_method_15_code 29 = .ok (.iload_n 2, 1) := by decide +kernel
theorem d_G_brakingWay_30 : decode prog_1_method_15_code 30 = .ok (.imul, 1) := by decide +kernel
theorem d_G_brakingWay_31 : decode prog_1_method_15_code 31 = .ok (.isub, 1) := by decide +kernel
theorem d_G_brakingWay_32 : decode prog_1_method_15_code 32 = .ok (.istore 5, 2) := by decide +kernel
theorem d_G_brakingWay_34 : decode prog_1_method_15_code 34 = .ok (.iload 4, 2) := by decide +kernel
theorem d_G_brakingWay_36 : decode prog_1_method_15_code 36 = .ok (.iload_n 0, 1) := by decide +kernel
theorem d_G_brakingWay_37 : decode prog_1_method_15_code 37 = .ok (.imul, 1) := by decide +kernel
theorem d_G_brakingWay_38 : decode prog_1_method_15_code 38 = .ok (.iload_n 2, 1) := by decide +kernel
theorem d_G_brakingWay_39 : decode prog_1_method_15_code 39 = .ok (.iload 4, 2) := by decide +kernel
theorem d_G_brakingWay_41 : decode prog_1_method_15_code 41 = .ok (.iload_n 3, 1) := by decide +kernel
theorem d_G_brakingWay_42 : decode prog_1_method_15_code 42 = .ok (.imul, 1) := by decide +kernel
theorem d_G_brakingWay_43 : decode prog_1_method_15_code 43 = .ok (.iconst 2, 1) := by decide +kernel
theorem d_G_brakingWay_44 : decode prog_1_method_15_code 44 = .ok (.idiv, 1) := by decide +kernel
theorem d_G_brakingWay_45 : decode prog_1_method_15_code 45 = .ok (.imul, 1) := by decide +kernel
theorem d_G_brakingWay_46 : decode prog_1_method_15_code 46 = .ok (.isub, 1) := by decide +kernel
theorem d_G_brakingWay_47 : decode prog_1_method_15_code 47 = .ok (.iload 5, 2) := by decide +kernel
theorem d_G_brakingWay_49 : decode prog_1_method_15_code 49 = .ok (.ifCond .le (8), 3) := by decide +kernel
theorem d_G_brakingWay_52 : decode prog_1_method_15_code 52 = .ok (.iload 5, 2) := by decide +kernel
theorem d_G_brakingWay_54 : decode prog_1_method_15_code 54 = .ok (.goto (4), 3) := by decide +kernel
theorem d_G_brakingWay_57 : decode prog_1_method_15_code 57 = .ok (.iconst 0, 1) := by decide +kernel
theorem d_G_brakingWay_58 : decode prog_1_method_15_code 58 = .ok (.iadd, 1) := by decide +kernel
theorem d_G_brakingWay_59 : decode prog_1_method_15_code 59 = .ok (.ireturn, 1) := by decide +kernel
theorem d_G_isGuided_0 : decode prog_1_method_16_code 0 = .ok (.aload_n 0, 1) := by decide +kernel
theorem d_G_isGuided_1 : decode prog_1_method_16_code 1 = .ok (.getfield 51, 3) := by decide +kernel
theorem d_G_isGuided_4 : decode prog_1_method_16_code 4 = .ok (.iconst 2, 1) := by decide +kernel
theorem d_G_isGuided_5 : decode prog_1_method_16_code 5 = .ok (.if_icmp .eq (11), 3) := by decide +kernel
theorem d_G_isGuided_8 : decode prog_1_method_16_code 8 = .ok (.aload_n 0, 1) := by decide +kernel
theorem d_G_isGuided_9 : decode prog_1_method_16_code 9 = .ok (.getfield 51, 3) := by decide +kernel
theorem d_G_isGuided_12 : decode prog_1_method_16_code 12 = .ok (.iconst 3, 1) := by decide +kernel
theorem d_G_isGuided_13 : decode prog_1_method_16_code 13 = .ok (.if_icmp .ne (7), 3) := by decide +kernel
theorem d_G_isGuided_16 : decode prog_1_method_16_code 16 = .ok (.iconst 1, 1) := by decide +kernel
theorem d_G_isGuided_17 : decode prog_1_method_16_code 17 = .ok (.goto (4), 3) := by decide +kernel
theorem d_G_isGuided_20 : decode prog_1_method_16_code 20 = .ok (.iconst 0, 1) := by decide +kernel
theorem d_G_isGuided_21 : decode prog_1_method_16_code 21 = .ok (.ireturn, 1) := by decide +kernel
theorem d_G_isStopped_0 : decode prog_1_method_17_code 0 = .ok (.aload_n 0, 1) := by decide +kernel
theorem d_G_isStopped_1 : decode prog_1_method_17_code 1 = .ok (.getfield 51, 3) := by decide +kernel
theorem d_G_isStopped_4 : decode prog_1_method_17_code 4 = .ok (.iconst 4, 1) := by decide +kernel
theorem d_G_isStopped_5 : decode prog_1_method_17_code 5 = .ok (.if_icmp .eq (12), 3) := by decide +kernel
theorem d_G_isStopped_8 : decode prog_1_method_17_code 8 = .ok (.aload_n 0, 1) := by decide +kernel
theorem d_G_isStopped_9 : decode prog_1_method_17_code 9 = .ok (.getfield 51, 3) := by decide +kernel
theorem d_G_isStopped_12 : decode prog_1_method_17_code 12 = .ok (.bipush (6), 2) := by decide +kernel
theorem d_G_isStopped_14 : decode prog_1_method_17_code 14 = .ok (.if_icmp .ne (7), 3) := by decide +kernel
theorem d_G_isStopped_17 : decode prog_1_method_17_code 17 = .ok (.iconst 1, 1) := by decide +kernel
theorem d_G_isStopped_18 : decode prog_1_method_17_code 18 = .ok (.goto (4), 3) := by decide +kernel
theorem d_G_isStopped_21 : decode prog_1_method_17_code 21 = .ok (.iconst 0, 1) := by decide +kernel
theorem d_G_isStopped_22 : decode prog_1_method_17_code 22 = .ok (.ireturn, 1) := by decide +kernel
theorem d_G_write_0 : decode prog_1_method_18_code 0 = .ok (.aload_n 0, 1) := by decide +kernel
theorem d_G_write_1 : decode prog_1_method_18_code 1 = .ok (.getfield 47, 3) := by decide +kernel
theorem d_G_write_4 : decode prog_1_method_18_code 4 = .ok (.sipush (10000), 3) := by decide +kernel
theorem d_G_write_7 : decode prog_1_method_18_code 7 = .ok (.aload_n 0, 1) := by decide +kernel
theorem d_G_write_8 : decode prog_1_method_18_code 8 = .ok (.getfield 137, 3) := by decide +kernel
theorem d_G_write_11 : decode prog_1_method_18_code 11 = .ok (.imul, 1) := by decide +kernel
theorem d_G_write_12 : decode prog_1_method_18_code 12 = .ok (.bipush (100), 2) := by decide +kernel
theorem d_G_write_14 : decode prog_1_method_18_code 14 = .ok (.iload_n 1, 1) := by decide +kernel
theorem d_G_write_15 : decode prog_1_method_18_code 15 = .ok (.imul, 1) := by decide +kernel
theorem d_G_write_16 : decode prog_1_method_18_code 16 = .ok (.iadd, 1) := by decide +kernel
theorem d_G_write_17 : decode prog_1_method_18_code 17 = .ok (.iload_n 2, 1) := by decide +kernel
theorem d_G_write_18 : decode prog_1_method_18_code 18 = .ok (.iadd, 1) := by decide +kernel
theorem d_G_write_19 : decode prog_1_method_18_code 19 = .ok (.invokevirtual 215, 3) := by decide +kernel
theorem d_G_write_22 : decode prog_1_method_18_code 22 = .ok (.return_, 1) := by decide +kernel
theorem d_G_become_0 : decode prog_1_method_19_code 0 = .ok (.aload_n 0, 1) := by decide +kernel
theorem d_G_become_1 : decode prog_1_method_19_code 1 = .ok (.getfield 51, 3) := by decide +kernel
theorem d_G_become_4 : decode prog_1_method_19_code 4 = .ok (.iload_n 1, 1) := by decide +kernel
theorem d_G_become_5 : decode prog_1_method_19_code 5 = .ok (.if_icmp .eq (14), 3) := by decide +kernel
theorem d_G_become_8 : decode prog_1_method_19_code 8 = .ok (.aload_n 0, 1) := by decide +kernel
theorem d_G_become_9 : decode prog_1_method_19_code 9 = .ok (.iload_n 1, 1) := by decide +kernel
theorem d_G_become_10 : decode prog_1_method_19_code 10 = .ok (.putfield 51, 3) := by decide +kernel
theorem d_G_become_13 : decode prog_1_method_19_code 13 = .ok (.aload_n 0, 1) := by decide +kernel
theorem d_G_become_14 : decode prog_1_method_19_code 14 = .ok (.iconst 1, 1) := by decide +kernel
theorem d_G_become_15 : decode prog_1_method_19_code 15 = .ok (.iload_n 1, 1) := by decide +kernel
theorem d_G_become_16 : decode prog_1_method_19_code 16 = .ok (.invokevirtual 89, 3) := by decide +kernel
theorem d_G_become_19 : decode prog_1_method_19_code 19 = .ok (.return_, 1) := by decide +kernel
theorem d_G_trip_0 : decode prog_1_method_20_code 0 = .ok (.aload_n 0, 1) := by decide +kernel
theorem d_G_trip_1 : decode prog_1_method_20_code 1 = .ok (.iconst 4, 1) := by decide +kernel
theorem d_G_trip_2 : decode prog_1_method_20_code 2 = .ok (.invokevirtual 140, 3) := by decide +kernel
theorem d_G_trip_5 : decode prog_1_method_20_code 5 = .ok (.aload_n 0, 1) := by decide +kernel
theorem d_G_trip_6 : decode prog_1_method_20_code 6 = .ok (.getfield 19, 3) := by decide +kernel
theorem d_G_trip_9 : decode prog_1_method_20_code 9 = .ok (.invokevirtual 218, 3) := by decide +kernel
theorem d_G_trip_12 : decode prog_1_method_20_code 12 = .ok (.aload_n 0, 1) := by decide +kernel
theorem d_G_trip_13 : decode prog_1_method_20_code 13 = .ok (.iconst 0, 1) := by decide +kernel
theorem d_G_trip_14 : decode prog_1_method_20_code 14 = .ok (.putfield 149, 3) := by decide +kernel
theorem d_G_trip_17 : decode prog_1_method_20_code 17 = .ok (.return_, 1) := by decide +kernel
theorem d_G_faultOfMarks_0 : decode prog_1_method_21_code 0 = .ok (.aload_n 0, 1) := by decide +kernel
theorem d_G_faultOfMarks_1 : decode prog_1_method_21_code 1 = .ok (.bipush (6), 2) := by decide +kernel
theorem d_G_faultOfMarks_3 : decode prog_1_method_21_code 3 = .ok (.iconst 0, 1) := by decide +kernel
theorem d_G_faultOfMarks_4 : decode prog_1_method_21_code 4 = .ok (.invokevirtual 89, 3) := by decide +kernel
theorem d_G_faultOfMarks_7 : decode prog_1_method_21_code 7 = .ok (.aload_n 0, 1) := by decide +kernel
theorem d_G_faultOfMarks_8 : decode prog_1_method_21_code 8 = .ok (.invokevirtual 221, 3) := by decide +kernel
theorem d_G_faultOfMarks_11 : decode prog_1_method_21_code 11 = .ok (.ifCond .eq (7), 3) := by decide +kernel
theorem d_G_faultOfMarks_14 : decode prog_1_method_21_code 14 = .ok (.aload_n 0, 1) := by decide +kernel
theorem d_G_faultOfMarks_15 : decode prog_1_method_21_code 15 = .ok (.invokevirtual 224, 3) := by decide +kernel
theorem d_G_faultOfMarks_18 : decode prog_1_method_21_code 18 = .ok (.return_, 1) := by decide +kernel
theorem d_G_lookForTrip_0 : decode prog_1_method_22_code 0 = .ok (.aload_n 0, 1) := by decide +kernel
theorem d_G_lookForTrip_1 : decode prog_1_method_22_code 1 = .ok (.invokevirtual 221, 3) := by decide +kernel
theorem d_G_lookForTrip_4 : decode prog_1_method_22_code 4 = .ok (.ifCond .eq (54), 3) := by decide +kernel
theorem d_G_lookForTrip_7 : decode prog_1_method_22_code 7 = .ok (.aload_n 0, 1) := by decide +kernel
theorem d_G_lookForTrip_8 : decode prog_1_method_22_code 8 = .ok (.getfield 19, 3) := by decide +kernel
theorem d_G_lookForTrip_11 : decode prog_1_method_22_code 11 = .ok (.getfield 101, 3) := by decide +kernel
theorem d_G_lookForTrip_14 : decode prog_1_method_22_code 14 = .ok (.aload_n 0, 1) := by decide +kernel
theorem d_G_lookForTrip_15 : decode prog_1_method_22_code 15 = .ok (.getfield 10, 3) := by decide +kernel
theorem d_G_lookForTrip_18 : decode prog_1_method_22_code 18 = .ok (.getfield 121, 3) := by decide +kernel
theorem d_G_lookForTrip_21 : decode prog_1_method_22_code 21 = .ok (.invokevirtual 227, 3) := by decide +kernel
theorem d_G_lookForTrip_24 : decode prog_1_method_22_code 24 = .ok (.ifCond .eq (10), 3) := by decide +kernel
theorem d_G_lookForTrip_27 : decode prog_1_method_22_code 27 = .ok (.aload_n 0, 1) := by decide +kernel
theorem d_G_lookForTrip_28 : decode prog_1_method_22_code 28 = .ok (.invokevirtual 131, 3) := by decide +kernel
theorem d_G_lookForTrip_31 : decode prog_1_method_22_code 31 = .ok (.goto (53), 3) := by decide +kernel
theorem d_G_lookForTrip_34 : decode prog_1_method_22_code 34 = .ok (.aload_n 0, 1) := by decide +kernel
theorem d_G_lookForTrip_35 : decode prog_1_method_22_code 35 = .ok (.getfield 10, 3) := by decide +kernel
theorem d_G_lookForTrip_38 : decode prog_1_method_22_code 38 = .ok (.getfield 121, 3) := by decide +kernel
theorem d_G_lookForTrip_41 : decode prog_1_method_22_code 41 = .ok (.aload_n 0, 1) := by decide +kernel
theorem d_G_lookForTrip_42 : decode prog_1_method_22_code 42 = .ok (.getfield 19, 3) := by decide +kernel
theorem d_G_lookForTrip_45 : decode prog_1_method_22_code 45 = .ok (.getfield 184, 3) := by decide +kernel
theorem d_G_lookForTrip_48 : decode prog_1_method_22_code 48 = .ok (.if_icmp .le (36), 3) := by decide +kernel
theorem d_G_lookForTrip_51 : decode prog_1_method_22_code 51 = .ok (.aload_n 0, 1) := by decide +kernel
theorem d_G_lookForTrip_52 : decode prog_1_method_22_code 52 = .ok (.invokevirtual 224, 3) := by decide +kernel
theorem d_G_lookForTrip_55 : decode prog_1_method_22_code 55 = .ok (.goto (29), 3) := by decide +kernel
theorem d_G_lookForTrip_58 : decode prog_1_method_22_code 58 = .ok (.aload_n 0, 1) := by decide +kernel
theorem d_G_lookForTrip_59 : decode prog_1_method_22_code 59 = .ok (.getfield 51, 3) := by decide +kernel
theorem d_G_lookForTrip_62 : decode prog_1_method_22_code 62 = .ok (.iconst 1, 1) := by decide +kernel
theorem d_G_lookForTrip_63 : decode prog_1_method_22_code 63 = .ok (.if_icmp .ne (21), 3) := by decide +kernel
theorem d_G_lookForTrip_66 : decode prog_1_method_22_code 66 = .ok (.aload_n 0, 1) := by decide +kernel
theorem d_G_lookForTrip_67 : decode prog_1_method_22_code 67 = .ok (.getfield 10, 3) := by decide +kernel
theorem d_G_lookForTrip_70 : decode prog_1_method_22_code 70 = .ok (.getfield 121, 3) := by decide +kernel
theorem d_G_lookForTrip_73 : decode prog_1_method_22_code 73 = .ok (.aload_n 0, 1) := by decide +kernel
theorem d_G_lookForTrip_74 : decode prog_1_method_22_code 74 = .ok (.getfield 230, 3) := by decide +kernel
theorem d_G_lookForTrip_77 : decode prog_1_method_22_code 77 = .ok (.if_icmp .le (7), 3) := by decide +kernel
theorem d_G_lookForTrip_80 : decode prog_1_method_22_code 80 = .ok (.aload_n 0, 1) := by decide +kernel
theorem d_G_lookForTrip_81 : decode prog_1_method_22_code 81 = .ok (.invokevirtual 224, 3) := by decide +kernel
theorem d_G_lookForTrip_84 : decode prog_1_method_22_code 84 = .ok (.return_, 1) := by decide +kernel
theorem d_G_enterModeOfAuthority_0 : decode prog_1_method_23_code 0 = .ok (.aload_n 0, 1) := by decide +kernel
theorem d_G_enterModeOfAuthority_1 : decode prog_1_method_23_code 1 = .ok (.getfield 51, 3) := by decide +kernel
theorem d_G_enterModeOfAuthority_4 : decode prog_1_method_23_code 4 = .ok (.aload_n 0, 1) := by decide +kernel
theorem d_G_enterModeOfAuthority_5 : decode prog_1_method_23_code 5 = .ok (.getfield 19, 3) := by decide +kernel
theorem d_G_enterModeOfAuthority_8 : decode prog_1_method_23_code 8 = .ok (.getfield 233, 3) := by decide +kernel
theorem d_G_enterModeOfAuthority_11 : decode prog_1_method_23_code 11 = .ok (.if_icmp .eq (7), 3) := by decide +kernel
theorem d_G_enterModeOfAuthority_14 : decode prog_1_method_23_code 14 = .ok (.iconst 1, 1) := by decide +kernel
theorem d_G_enterModeOfAuthority_15 : decode prog_1_method_23_code 15 = .ok (.goto (4), 3) := by decide +kernel
theorem d_G_enterModeOfAuthority_18 : decode prog_1_method_23_code 18 = .ok (.iconst 0, 1) := by decide +kernel
theorem d_G_enterModeOfAuthority_19 : decode prog_1_method_23_code 19 = .ok (.istore_n 1, 1) := by decide +kernel
theorem d_G_enterModeOfAuthority_20 : decode prog_1_method_23_code 20 = .ok (.aload_n 0, 1) := by decide +kernel
theorem d_G_enterModeOfAuthority_21 : decode prog_1_method_23_code 21 = .ok (.aload_n 0, 1) := by decide +kernel
theorem d_G_enterModeOfAuthority_22 : decode prog_1_method_23_code 22 = .ok (.getfield 19, 3) := by decide +kernel
theorem d_G_enterModeOfAuthority_25 : decode prog_1_method_23_code 25 = .ok (.getfield 233, 3) := by decide +kernel
theorem d_G_enterModeOfAuthority_28 : decode prog_1_method_23_code 28 = .ok (.invokevirtual 140, 3) := by decide +kernel
theorem d_G_enterModeOfAuthority_31 : decode prog_1_method_23_code 31 = .ok (.aload_n 0, 1) := by decide +kernel
theorem d_G_enterModeOfAuthority_32 : decode prog_1_method_23_code 32 = .ok (.getfield 19, 3) := by decide +kernel
theorem d_G_enterModeOfAuthority_35 : decode prog_1_method_23_code 35 = .ok (.getfield 233, 3) := by decide +kernel
theorem d_G_enterModeOfAuthority_38 : decode prog_1_method_23_code 38 = .ok (.iconst 2, 1) := by decide +kernel
theorem d_G_enterModeOfAuthority_39 : decode prog_1_method_23_code 39 = .ok (.if_icmp .ne (11), 3) := by decide +kernel
theorem d_G_enterModeOfAuthority_42 : decode prog_1_method_23_code 42 = .ok (.aload_n 0, 1) := by decide +kernel
theorem d_G_enterModeOfAuthority_43 : decode prog_1_method_23_code 43 = .ok (.iconst 0, 1) := by decide +kernel
theorem d_G_enterModeOfAuthority_44 : decode prog_1_method_23_code 44 = .ok (.putfield 149, 3) := by decide +kernel
theorem d_G_enterModeOfAuthority_47 : decode prog_1_method_23_code 47 = .ok (.goto (17), 3) := by decide +kernel
theorem d_G_enterModeOfAuthority_50 : decode prog_1_method_23_code 50 = .ok (.iload_n 1, 1) := by decide +kernel
theorem d_G_enterModeOfAuthority_51 : decode prog_1_method_23_code 51 = .ok (.ifCond .eq (13), 3) := by decide +kernel
theorem d_G_enterModeOfAuthority_54 : decode prog_1_method_23_code 54 = .ok (.aload_n 0, 1) := by decide +kernel
theorem d_G_enterModeOfAuthority_55 : decode prog_1_method_23_code 55 = .ok (.iconst 1, 1) := by decide +kernel
theorem d_G_enterModeOfAuthority_56 : decode prog_1_method_23_code 56 = .ok (.putfield 149, 3) := by decide +kernel
theorem d_G_enterModeOfAuthority_59 : decode prog_1_method_23_code 59 = .ok (.aload_n 0, 1) := by decide +kernel
theorem d_G_enterModeOfAuthority_60 : decode prog_1_method_23_code 60 = .ok (.iconst 0, 1) := by decide +kernel
theorem d_G_enterModeOfAuthority_61 : decode prog_1_method_23_code 61 = .ok (.putfield 153, 3) := by decide +kernel
theorem d_G_enterModeOfAuthority_64 : decode prog_1_method_23_code 64 = .ok (.return_, 1) := by decide +kernel
theorem d_G_driverMay_0 : decode prog_1_method_24_code 0 = .ok (.iload_n 1, 1) := by decide +kernel
theorem d_G_driverMay_1 : decode prog_1_method_24_code 1 = .ok (.tableswitch (87) (0) (2) #[27, 58, 63], 27) := by decide +kernel
theorem d_G_driverMay_28 : decode prog_1_method_24_code 28 = .ok (.aload_n 0, 1) := by decide +kernel
theorem d_G_driverMay_29 : decode prog_1_method_24_code 29 = .ok (.getfield 51, 3) := by decide +kernel
theorem d_G_driverMay_32 : decode prog_1_method_24_code 32 = .ok (.ifCond .eq (11), 3) := by decide +kernel
theorem d_G_driverMay_35 : decode prog_1_method_24_code 35 = .ok (.aload_n 0, 1) := by decide +kernel
theorem d_G_driverMay_36 : decode prog_1_method_24_code 36 = .ok (.getfield 51, 3) := by decide +kernel
theorem d_G_driverMay_39 : decode prog_1_method_24_code 39 = .ok (.iconst 5, 1) := by decide +kernel
theorem d_G_driverMay_40 : decode prog_1_method_24_code 40 = .ok (.if_icmp .ne (17), 3) := by decide +kernel
theorem d_G_driverMay_43 : decode prog_1_method_24_code 43 = .ok (.aload_n 0, 1) := by decide +kernel
theorem d_G_driverMay_44 : decode prog_1_method_24_code 44 = .ok (.getfield 10, 3) := by decide +kernel
theorem d_G_driverMay_47 : decode prog_1_method_24_code 47 = .ok (.getfield 172, 3) := by decide +kernel
theorem d_G_driverMay_50 : decode prog_1_method_24_code 50 = .ok (.ifCond .ne (7), 3) := by decide +kernel
theorem d_G_driverMay_53 : decode prog_1_method_24_code 53 = .ok (.iconst 1, 1) := by decide +kernel
theorem d_G_driverMay_54 : decode prog_1_method_24_code 54 = .ok (.goto (4), 3) := by decide +kernel
theorem d_G_driverMay_57 : decode prog_1_method_24_code 57 = .ok (.iconst 0, 1) := by decide +kernel
theorem d_G_driverMay_58 : decode prog_1_method_24_code 58 = .ok (.ireturn, 1) := by decide +kernel
theorem d_G_driverMay_59 : decode prog_1_method_24_code 59 = .ok (.aload_n 0, 1) := by decide +kernel
theorem d_G_driverMay_60 : decode prog_1_method_24_code 60 = .ok (.getfield 149, 3) := by decide +kernel
theorem d_G_driverMay_63 : decode prog_1_method_24_code 63 = .ok (.ireturn, 1) := by decide +kernel
theorem d_G_driverMay_64 : decode prog_1_method_24_code 64 = .ok (.aload_n 0, 1) := by decide +kernel
theorem d_G_driverMay_65 : decode prog_1_method_24_code 65 = .ok (.getfield 51, 3) := by decide +kernel
theorem d_G_driverMay_68 : decode prog_1_method_24_code 68 = .ok (.iconst 4, 1) := by decide +kernel
theorem d_G_driverMay_69 : decode prog_1_method_24_code 69 = .ok (.if_icmp .ne (17), 3) := by decide +kernel
theorem d_G_driverMay_72 : decode prog_1_method_24_code 72 = .ok (.aload_n 0, 1) := by decide +kernel
theorem d_G_driverMay_73 : decode prog_1_method_24_code 73 = .ok (.getfield 10, 3) := by decide +kernel
theorem d_G_driverMay_76 : decode prog_1_method_24_code 76 = .ok (.getfield 172, 3) := by decide +kernel
theorem d_G_driverMay_79 : decode prog_1_method_24_code 79 = .ok (.ifCond .ne (7), 3) := by decide +kernel
theorem d_G_driverMay_82 : decode prog_1_method_24_code 82 = .ok (.iconst 1, 1) := by decide +kernel
theorem d_G_driverMay_83 : decode prog_1_method_24_code 83 = .ok (.goto (4), 3) := by decide +kernel
theorem d_G_driverMay_86 : decode prog_1_method_24_code 86 = .ok (.iconst 0, 1) := by decide +kernel
theorem d_G_driverMay_87 : decode prog_1_method_24_code 87 = .ok (.ireturn, 1) := by decide +kernel
theorem d_G_driverMay_88 : decode prog_1_method_24_code 88 = .ok (.iconst 0, 1) := by decide +kernel
theorem d_G_driverMay_89 : decode prog_1_method_24_code 89 = .ok (.ireturn, 1) := by decide +kernel
theorem d_G_start_0 : decode prog_1_method_25_code 0 = .ok (.aload_n 0, 1) := by decide +kernel
theorem d_G_start_1 : decode prog_1_method_25_code 1 = .ok (.getfield 19, 3) := by decide +kernel
theorem d_G_start_4 : decode prog_1_method_25_code 4 = .ok (.getfield 181, 3) := by decide +kernel
theorem d_G_start_7 : decode prog_1_method_25_code 7 = .ok (.ifCond .eq (23), 3) := by decide +kernel
theorem d_G_start_10 : decode prog_1_method_25_code 10 = .ok (.aload_n 0, 1) := by decide +kernel
theorem d_G_start_11 : decode prog_1_method_25_code 11 = .ok (.getfield 19, 3) := by decide +kernel
theorem d_G_start_14 : decode prog_1_method_25_code 14 = .ok (.getfield 236, 3) := by decide +kernel
theorem d_G_start_17 : decode prog_1_method_25_code 17 = .ok (.invokevirtual 240, 3) := by decide +kernel
theorem d_G_start_20 : decode prog_1_method_25_code 20 = .ok (.ifCond .ne (10), 3) := by decide +kernel
theorem d_G_start_23 : decode prog_1_method_25_code 23 = .ok (.aload_n 0, 1) := by decide +kernel
theorem d_G_start_24 : decode prog_1_method_25_code 24 = .ok (.invokevirtual 245, 3) := by decide +kernel
theorem d_G_start_27 : decode prog_1_method_25_code 27 = .ok (.goto (23), 3) := by decide +kernel
theorem d_G_start_30 : decode prog_1_method_25_code 30 = .ok (.aload_n 0, 1) := by decide +kernel
theorem d_G_start_31 : decode prog_1_method_25_code 31 = .ok (.iconst 1, 1) := by decide +kernel
theorem d_G_start_32 : decode prog_1_method_25_code 32 = .ok (.invokevirtual 140, 3) := by decide +kernel
theorem d_G_start_35 : decode prog_1_method_25_code 35 = .ok (.aload_n 0, 1) := by decide +kernel
theorem d_G_start_36 : decode prog_1_method_25_code 36 = .ok (.aload_n 0, 1) := by decide +kernel
theorem d_G_start_37 : decode prog_1_method_25_code 37 = .ok (.getfield 10, 3) := by decide +kernel
theorem d_G_start_40 : decode prog_1_method_25_code 40 = .ok (.getfield 115, 3) := by decide +kernel
theorem d_G_start_43 : decode prog_1_method_25_code 43 = .ok (.sipush (3000), 3) := by decide +kernel
theorem d_G_start_46 : decode prog_1_method_25_code 46 = .ok (.iadd, 1) := by decide +kernel
theorem d_G_start_47 : decode prog_1_method_25_code 47 = .ok (.putfield 230, 3) := by decide +kernel
theorem d_G_start_50 : decode prog_1_method_25_code 50 = .ok (.return_, 1) := by decide +kernel
theorem d_G_faultOfReceived_0 : decode prog_1_method_26_code 0 = .ok (.aload_n 0, 1) := by decide +kernel
theorem d_G_faultOfReceived_1 : decode prog_1_method_26_code 1 = .ok (.getfield 33, 3) := by decide +kernel
theorem d_G_faultOfReceived_4 : decode prog_1_method_26_code 4 = .ok (.getfield 248, 3) := by decide +kernel
theorem d_G_faultOfReceived_7 : decode prog_1_method_26_code 7 = .ok (.iconst 1, 1) := by decide +kernel
theorem d_G_faultOfReceived_8 : decode prog_1_method_26_code 8 = .ok (.baload, 1) := by decide +kernel
theorem d_G_faultOfReceived_9 : decode prog_1_method_26_code 9 = .ok (.istore_n 1, 1) := by decide +kernel
theorem d_G_faultOfReceived_10 : decode prog_1_method_26_code 10 = .ok (.aload_n 0, 1) := by decide +kernel
theorem d_G_faultOfReceived_11 : decode prog_1_method_26_code 11 = .ok (.getfield 33, 3) := by decide +kernel
theorem d_G_faultOfReceived_14 : decode prog_1_method_26_code 14 = .ok (.getfield 92, 3) := by decide +kernel
theorem d_G_faultOfReceived_17 : decode prog_1_method_26_code 17 = .ok (.iconst 3, 1) := by decide +kernel
theorem d_G_faultOfReceived_18 : decode prog_1_method_26_code 18 = .ok (.if_icmp .ne (7), 3) := by decide +kernel
theorem d_G_faultOfReceived_21 : decode prog_1_method_26_code 21 = .ok (.iload_n 1, 1) := by decide +kernel
theorem d_G_faultOfReceived_22 : decode prog_1_method_26_code 22 = .ok (.ifCond .eq (19), 3) := by decide +kernel
theorem d_G_faultOfReceived_25 : decode prog_1_method_26_code 25 = .ok (.aload_n 0, 1) := by decide +kernel
theorem d_G_faultOfReceived_26 : decode prog_1_method_26_code 26 = .ok (.getfield 33, 3) := by decide +kernel
theorem d_G_faultOfReceived_29 : decode prog_1_method_26_code 29 = .ok (.getfield 92, 3) := by decide +kernel
theorem d_G_faultOfReceived_32 : decode prog_1_method_26_code 32 = .ok (.bipush (24), 2) := by decide +kernel
theorem d_G_faultOfReceived_34 : decode prog_1_method_26_code 34 = .ok (.if_icmp .ne (10), 3) := by decide +kernel
theorem d_G_faultOfReceived_37 : decode prog_1_method_26_code 37 = .ok (.iload_n 1, 1) := by decide +kernel
theorem d_G_faultOfReceived_38 : decode prog_1_method_26_code 38 = .ok (.ifCond .eq (6), 3) := by decide +kernel
theorem d_G_faultOfReceived_41 : decode prog_1_method_26_code 41 = .ok (.bipush (8), 2) := by decide +kernel
theorem d_G_faultOfReceived_43 : decode prog_1_method_26_code 43 = .ok (.ireturn, 1) := by decide +kernel
theorem d_G_faultOfReceived_44 : decode prog_1_method_26_code 44 = .ok (.aload_n 0, 1) := by decide +kernel
theorem d_G_faultOfReceived_45 : decode prog_1_method_26_code 45 = .ok (.getfield 51, 3) := by decide +kernel
theorem d_G_faultOfReceived_48 : decode prog_1_method_26_code 48 = .ok (.bipush (6), 2) := by decide +kernel
theorem d_G_faultOfReceived_50 : decode prog_1_method_26_code 50 = .ok (.if_icmp .eq (23), 3) := by decide +kernel
theorem d_G_faultOfReceived_53 : decode prog_1_method_26_code 53 = .ok (.aload_n 0, 1) := by decide +kernel
theorem d_G_faultOfReceived_54 : decode prog_1_method_26_code 54 = .ok (.getfield 51, 3) := by decide +kernel
theorem d_G_faultOfReceived_57 : decode prog_1_method_26_code 57 = .ok (.iconst 4, 1) := by decide +kernel
theorem d_G_faultOfReceived_58 : decode prog_1_method_26_code 58 = .ok (.if_icmp .ne (18), 3) := by decide +kernel
theorem d_G_faultOfReceived_61 : decode prog_1_method_26_code 61 = .ok (.aload_n 0, 1) := by decide +kernel
theorem d_G_faultOfReceived_62 : decode prog_1_method_26_code 62 = .ok (.getfield 33, 3) := by decide +kernel
theorem d_G_faultOfReceived_65 : decode prog_1_method_26_code 65 = .ok (.getfield 92, 3) := by decide +kernel
theorem d_G_faultOfReceived_68 : decode prog_1_method_26_code 68 = .ok (.bipush (16), 2) := by decide +kernel
theorem d_G_faultOfReceived_70 : decode prog_1_method_26_code 70 = .ok (.if_icmp .eq (6), 3) := by decide +kernel
theorem d_G_faultOfReceived_73 : decode prog_1_method_26_code 73 = .ok (.bipush (9), 2) := by decide +kernel
theorem d_G_faultOfReceived_75 : decode prog_1_method_26_code 75 = .ok (.ireturn, 1) := by decide +kernel
theorem d_G_faultOfReceived_76 : decode prog_1_method_26_code 76 = .ok (.aload_n 0, 1) := by decide +kernel
theorem d_G_faultOfReceived_77 : decode prog_1_method_26_code 77 = .ok (.getfield 33, 3) := by decide +kernel
theorem d_G_faultOfReceived_80 : decode prog_1_method_26_code 80 = .ok (.getfield 92, 3) := by decide +kernel
theorem d_G_faultOfReceived_83 : decode prog_1_method_26_code 83 = .ok (.bipush (9), 2) := by decide +kernel
theorem d_G_faultOfReceived_85 : decode prog_1_method_26_code 85 = .ok (.if_icmp .ne (16), 3) := by decide +kernel
theorem d_G_faultOfReceived_88 : decode prog_1_method_26_code 88 = .ok (.aload_n 0, 1) := by decide +kernel
theorem d_G_faultOfReceived_89 : decode prog_1_method_26_code 89 = .ok (.getfield 19, 3) := by decide +kernel
theorem d_G_faultOfReceived_92 : decode prog_1_method_26_code 92 = .ok (.getfield 181, 3) := by decide +kernel
theorem d_G_faultOfReceived_95 : decode prog_1_method_26_code 95 = .ok (.ifCond .ne (6), 3) := by decide +kernel
theorem d_G_faultOfReceived_98 : decode prog_1_method_26_code 98 = .ok (.bipush (10), 2) := by decide +kernel
theorem d_G_faultOfReceived_100 : decode prog_1_method_26_code 100 = .ok (.ireturn, 1) := by decide +kernel
theorem d_G_faultOfReceived_101 : decode prog_1_method_26_code 101 = .ok (.aload_n 0, 1) := by decide +kernel
theorem d_G_faultOfReceived_102 : decode prog_1_method_26_code 102 = .ok (.getfield 33, 3) := by decide +kernel
theorem d_G_faultOfReceived_105 : decode prog_1_method_26_code 105 = .ok (.getfield 92, 3) := by decide +kernel
theorem d_G_faultOfReceived_108 : decode prog_1_method_26_code 108 = .ok (.bipush (9), 2) := by decide +kernel
theorem d_G_faultOfReceived_110 : decode prog_1_method_26_code 110 = .ok (.if_icmp .ne (45), 3) := by decide +kernel
theorem d_G_faultOfReceived_113 : decode prog_1_method_26_code 113 = .ok (.aload_n 0, 1) := by decide +kernel
theorem d_G_faultOfReceived_114 : decode prog_1_method_26_code 114 = .ok (.getfield 33, 3) := by decide +kernel
theorem d_G_faultOfReceived_117 : decode prog_1_method_26_code 117 = .ok (.getfield 252, 3) := by decide +kernel
theorem d_G_faultOfReceived_120 : decode prog_1_method_26_code 120 = .ok (.aload_n 0, 1) := by decide +kernel
theorem d_G_faultOfReceived_121 : decode prog_1_method_26_code 121 = .ok (.getfield 19, 3) := by decide +kernel
theorem d_G_faultOfReceived_124 : decode prog_1_method_26_code 124 = .ok (.getfield 184, 3) := by decide +kernel
theorem d_G_faultOfReceived_127 : decode prog_1_method_26_code 127 = .ok (.if_icmp .gt (25), 3) := by decide +kernel
theorem d_G_faultOfReceived_130 : decode prog_1_method_26_code 130 = .ok (.aload_n 0, 1) := by decide +kernel
theorem d_G_faultOfReceived_131 : decode prog_1_method_26_code 131 = .ok (.invokevirtual 221, 3) := by decide +kernel
theorem d_G_faultOfReceived_134 : decode prog_1_method_26_code 134 = .ok (.ifCond .eq (21), 3) := by decide +kernel
theorem d_G_faultOfReceived_137 : decode prog_1_method_26_code 137 = .ok (.aload_n 0, 1) := by decide +kernel
theorem d_G_faultOfReceived_138 : decode prog_1_method_26_code 138 = .ok (.aload_n 0, 1) := by decide +kernel
theorem d_G_faultOfReceived_139 : decode prog_1_method_26_code 139 = .ok (.getfield 33, 3) := by decide +kernel
theorem d_G_faultOfReceived_142 : decode prog_1_method_26_code 142 = .ok (.getfield 252, 3) := by decide +kernel
theorem d_G_faultOfReceived_145 : decode prog_1_method_26_code 145 = .ok (.invokevirtual 253, 3) := by decide +kernel
theorem d_G_faultOfReceived_148 : decode prog_1_method_26_code 148 = .ok (.iconst 3, 1) := by decide +kernel
theorem d_G_faultOfReceived_149 : decode prog_1_method_26_code 149 = .ok (.if_icmp .lt (6), 3) := by decide +kernel
theorem d_G_faultOfReceived_152 : decode prog_1_method_26_code 152 = .ok (.bipush (11), 2) := by decide +kernel
theorem d_G_faultOfReceived_154 : decode prog_1_method_26_code 154 = .ok (.ireturn, 1) := by decide +kernel
theorem d_G_faultOfReceived_155 : decode prog_1_method_26_code 155 = .ok (.aload_n 0, 1) := by decide +kernel
theorem d_G_faultOfReceived_156 : decode prog_1_method_26_code 156 = .ok (.getfield 33, 3) := by decide +kernel
theorem d_G_faultOfReceived_159 : decode prog_1_method_26_code 159 = .ok (.getfield 248, 3) := by decide +kernel
theorem d_G_faultOfReceived_162 : decode prog_1_method_26_code 162 = .ok (.iconst 4, 1) := by decide +kernel
theorem d_G_faultOfReceived_163 : decode prog_1_method_26_code 163 = .ok (.baload, 1) := by decide +kernel
theorem d_G_faultOfReceived_164 : decode prog_1_method_26_code 164 = .ok (.ifCond .eq (30), 3) := by decide +kernel
theorem d_G_faultOfReceived_167 : decode prog_1_method_26_code 167 = .ok (.aload_n 0, 1) := by decide +kernel
theorem d_G_faultOfReceived_168 : decode prog_1_method_26_code 168 = .ok (.getfield 19, 3) := by decide +kernel
theorem d_G_faultOfReceived_171 : decode prog_1_method_26_code 171 = .ok (.getfield 256, 3) := by decide +kernel
theorem d_G_faultOfReceived_174 : decode prog_1_method_26_code 174 = .ok (.aload_n 0, 1) := by decide +kernel
theorem d_G_faultOfReceived_175 : decode prog_1_method_26_code 175 = .ok (.getfield 33, 3) := by decide +kernel
theorem d_G_faultOfReceived_178 : decode prog_1_method_26_code 178 = .ok (.getfield 260, 3) := by decide +kernel
theorem d_G_faultOfReceived_181 : decode prog_1_method_26_code 181 = .ok (.aload_n 0, 1) := by decide +kernel
theorem d_G_faultOfReceived_182 : decode prog_1_method_26_code 182 = .ok (.getfield 33, 3) := by decide +kernel
theorem d_G_faultOfReceived_185 : decode prog_1_method_26_code 185 = .ok (.invokevirtual 263, 3) := by decide +kernel
theorem d_G_faultOfReceived_188 : decode prog_1_method_26_code 188 = .ok (.invokevirtual 266, 3) := by decide +kernel
theorem d_G_faultOfReceived_191 : decode prog_1_method_26_code 191 = .ok (.ifCond .eq (7), 3) := by decide +kernel
theorem d_G_faultOfReceived_194 : decode prog_1_method_26_code 194 = .ok (.iconst 1, 1) := by decide +kernel
theorem d_G_faultOfReceived_195 : decode prog_1_method_26_code 195 = .ok (.goto (4), 3) := by decide +kernel
theorem d_G_faultOfReceived_198 : decode prog_1_method_26_code 198 = .ok (.iconst 0, 1) := by decide +kernel
theorem d_G_faultOfReceived_199 : decode prog_1_method_26_code 199 = .ok (.istore_n 2, 1) := by decide +kernel
theorem d_G_faultOfReceived_200 : decode prog_1_method_26_code 200 = .ok (.iload_n 2, 1) := by decide +kernel
theorem d_G_faultOfReceived_201 : decode prog_1_method_26_code 201 = .ok (.ifCond .eq (7), 3) := by decide +kernel
theorem d_G_faultOfReceived_204 : decode prog_1_method_26_code 204 = .ok (.iconst 0, 1) := by decide +kernel
theorem d_G_faultOfReceived_205 : decode prog_1_method_26_code 205 = .ok (.goto (5), 3) := by decide +kernel
theorem d_G_faultOfReceived_208 : decode prog_1_method_26_code 208 = .ok (.bipush (12), 2) := by decide +kernel
theorem d_G_faultOfReceived_210 : decode prog_1_method_26_code 210 = .ok (.ireturn, 1) := by decide +kernel
theorem d_G_obeyReceived_0 : decode prog_1_method_27_code 0 = .ok (.aload_n 0, 1) := by decide +kernel
theorem d_G_obeyReceived_1 : decode prog_1_method_27_code 1 = .ok (.getfield 33, 3) := by decide +kernel
theorem d_G_obeyReceived_4 : decode prog_1_method_27_code 4 = .ok (.getfield 92, 3) := by decide +kernel
theorem d_G_obeyReceived_7 : decode prog_1_method_27_code 7 = .ok (.bipush (16), 2) := by decide +kernel
theorem d_G_obeyReceived_9 : decode prog_1_method_27_code 9 = .ok (.if_icmp .ne (10), 3) := by decide +kernel
theorem d_G_obeyReceived_12 : decode prog_1_method_27_code 12 = .ok (.aload_n 0, 1) := by decide +kernel
theorem d_G_obeyReceived_13 : decode prog_1_method_27_code 13 = .ok (.invokevirtual 224, 3) := by decide +kernel
theorem d_G_obeyReceived_16 : decode prog_1_method_27_code 16 = .ok (.goto (103), 3) := by decide +kernel
theorem d_G_obeyReceived_19 : decode prog_1_method_27_code 19 = .ok (.aload_n 0, 1) := by decide +kernel
theorem d_G_obeyReceived_20 : decode prog_1_method_27_code 20 = .ok (.getfield 33, 3) := by decide +kernel
theorem d_G_obeyReceived_23 : decode prog_1_method_27_code 23 = .ok (.getfield 92, 3) := by decide +kernel
theorem d_G_obeyReceived_26 : decode prog_1_method_27_code 26 = .ok (.bipush (9), 2) := by decide +kernel
theorem d_G_obeyReceived_28 : decode prog_1_method_27_code 28 = .ok (.if_icmp .ne (20), 3) := by decide +kernel
theorem d_G_obeyReceived_31 : decode prog_1_method_27_code 31 = .ok (.aload_n 0, 1) := by decide +kernel
theorem d_G_obeyReceived_32 : decode prog_1_method_27_code 32 = .ok (.getfield 19, 3) := by decide +kernel
theorem d_G_obeyReceived_35 : decode prog_1_method_27_code 35 = .ok (.aload_n 0, 1) := by decide +kernel
theorem d_G_obeyReceived_36 : decode prog_1_method_27_code 36 = .ok (.getfield 33, 3) := by decide +kernel
theorem d_G_obeyReceived_39 : decode prog_1_method_27_code 39 = .ok (.getfield 252, 3) := by decide +kernel
theorem d_G_obeyReceived_42 : decode prog_1_method_27_code 42 = .ok (.putfield 184, 3) := by decide +kernel
theorem d_G_obeyReceived_45 : decode prog_1_method_27_code 45 = .ok (.goto (74), 3) := by decide +kernel
theorem d_G_obeyReceived_48 : decode prog_1_method_27_code 48 = .ok (.aload_n 0, 1) := by decide +kernel
theorem d_G_obeyReceived_49 : decode prog_1_method_27_code 49 = .ok (.getfield 19, 3) := by decide +kernel
theorem d_G_obeyReceived_52 : decode prog_1_method_27_code 52 = .ok (.aload_n 0, 1) := by decide +kernel
theorem d_G_obeyReceived_53 : decode prog_1_method_27_code 53 = .ok (.getfield 33, 3) := by decide +kernel
theorem d_G_obeyReceived_56 : decode prog_1_method_27_code 56 = .ok (.aload_n 0, 1) := by decide +kernel
theorem d_G_obeyReceived_57 : decode prog_1_method_27_code 57 = .ok (.getfield 10, 3) := by decide +kernel
theorem d_G_obeyReceived_60 : decode prog_1_method_27_code 60 = .ok (.getfield 121, 3) := by decide +kernel
theorem d_G_obeyReceived_63 : decode prog_1_method_27_code 63 = .ok (.invokevirtual 271, 3) := by decide +kernel
theorem d_G_obeyReceived_66 : decode prog_1_method_27_code 66 = .ok (.aload_n 0, 1) := by decide +kernel
theorem d_G_obeyReceived_67 : decode prog_1_method_27_code 67 = .ok (.getfield 51, 3) := by decide +kernel
theorem d_G_obeyReceived_70 : decode prog_1_method_27_code 70 = .ok (.iconst 1, 1) := by decide +kernel
theorem d_G_obeyReceived_71 : decode prog_1_method_27_code 71 = .ok (.if_icmp .eq (10), 3) := by decide +kernel
theorem d_G_obeyReceived_74 : decode prog_1_method_27_code 74 = .ok (.aload_n 0, 1) := by decide +kernel
theorem d_G_obeyReceived_75 : decode prog_1_method_27_code 75 = .ok (.invokevirtual 221, 3) := by decide +kernel
theorem d_G_obeyReceived_78 : decode prog_1_method_27_code 78 = .ok (.ifCond .eq (7), 3) := by decide +kernel
theorem d_G_obeyReceived_81 : decode prog_1_method_27_code 81 = .ok (.iconst 1, 1) := by decide +kernel
theorem d_G_obeyReceived_82 : decode prog_1_method_27_code 82 = .ok (.goto (4), 3) := by decide +kernel
theorem d_G_obeyReceived_85 : decode prog_1_method_27_code 85 = .ok (.iconst 0, 1) := by decide +kernel
theorem d_G_obeyReceived_86 : decode prog_1_method_27_code 86 = .ok (.istore_n 1, 1) := by decide +kernel
theorem d_G_obeyReceived_87 : decode prog_1_method_27_code 87 = .ok (.aload_n 0, 1) := by decide +kernel
theorem d_G_obeyReceived_88 : decode prog_1_method_27_code 88 = .ok (.getfield 33, 3) := by decide +kernel
theorem d_G_obeyReceived_91 : decode prog_1_method_27_code 91 = .ok (.getfield 92, 3) := by decide +kernel
theorem d_G_obeyReceived_94 : decode prog_1_method_27_code 94 = .ok (.iconst 3, 1) := by decide +kernel
theorem d_G_obeyReceived_95 : decode prog_1_method_27_code 95 = .ok (.if_icmp .ne (24), 3) := by decide +kernel
theorem d_G_obeyReceived_98 : decode prog_1_method_27_code 98 = .ok (.iload_n 1, 1) := by decide +kernel
theorem d_G_obeyReceived_99 : decode prog_1_method_27_code 99 = .ok (.ifCond .eq (20), 3) := by decide +kernel
theorem d_G_obeyReceived_102 : decode prog_1_method_27_code 102 = .ok (.aload_n 0, 1) := by decide +kernel
theorem d_G_obeyReceived_103 : decode prog_1_method_27_code 103 = .ok (.getfield 19, 3) := by decide +kernel
theorem d_G_obeyReceived_106 : decode prog_1_method_27_code 106 = .ok (.getfield 236, 3) := by decide +kernel
theorem d_G_obeyReceived_109 : decode prog_1_method_27_code 109 = .ok (.invokevirtual 240, 3) := by decide +kernel
theorem d_G_obeyReceived_112 : decode prog_1_method_27_code 112 = .ok (.ifCond .ne (7), 3) := by decide +kernel
theorem d_G_obeyReceived_115 : decode prog_1_method_27_code 115 = .ok (.aload_n 0, 1) := by decide +kernel
theorem d_G_obeyReceived_116 : decode prog_1_method_27_code 116 = .ok (.invokevirtual 245, 3) := by decide +kernel
theorem d_G_obeyReceived_119 : decode prog_1_method_27_code 119 = .ok (.return_, 1) := by decide +kernel
theorem d_G_ceilingNow_0 : decode prog_1_method_28_code 0 = .ok (.aload_n 0, 1) := by decide +kernel
theorem d_G_ceilingNow_1 : decode prog_1_method_28_code 1 = .ok (.invokevirtual 221, 3) := by decide +kernel
theorem d_G_ceilingNow_4 : decode prog_1_method_28_code 4 = .ok (.ifCond .eq (49), 3) := by decide +kernel
theorem d_G_ceilingNow_7 : decode prog_1_method_28_code 7 = .ok (.aload_n 0, 1) := by decide +kernel
theorem d_G_ceilingNow_8 : decode prog_1_method_28_code 8 = .ok (.getfield 19, 3) := by decide +kernel
theorem d_G_ceilingNow_11 : decode prog_1_method_28_code 11 = .ok (.aload_n 0, 1) := by decide +kernel
theorem d_G_ceilingNow_12 : decode prog_1_method_28_code 12 = .ok (.getfield 10, 3) := by decide +kernel
theorem d_G_ceilingNow_15 : decode prog_1_method_28_code 15 = .ok (.getfield 121, 3) := by decide +kernel
theorem d_G_ceilingNow_18 : decode prog_1_method_28_code 18 = .ok (.aload_n 0, 1) := by decide +kernel
theorem d_G_ceilingNow_19 : decode prog_1_method_28_code 19 = .ok (.getfield 71, 3) := by decide +kernel
theorem d_G_ceilingNow_22 : decode prog_1_method_28_code 22 = .ok (.isub, 1) := by decide +kernel
theorem d_G_ceilingNow_23 : decode prog_1_method_28_code 23 = .ok (.aload_n 0, 1) := by decide +kernel
theorem d_G_ceilingNow_24 : decode prog_1_method_28_code 24 = .ok (.getfield 10, 3) := by decide +kernel
theorem d_G_ceilingNow_27 : decode prog_1_method_28_code 27 = .ok (.getfield 115, 3) := by decide +kernel
theorem d_G_ceilingNow_30 : decode prog_1_method_28_code 30 = .ok (.invokevirtual 200, 3) := by decide +kernel
theorem d_G_ceilingNow_33 : decode prog_1_method_28_code 33 = .ok (.istore_n 1, 1) := by decide +kernel
theorem d_G_ceilingNow_34 : decode prog_1_method_28_code 34 = .ok (.aload_n 0, 1) := by decide +kernel
theorem d_G_ceilingNow_35 : decode prog_1_method_28_code 35 = .ok (.getfield 51, 3) := by decide +kernel
theorem d_G_ceilingNow_38 : decode prog_1_method_28_code 38 = .ok (.iconst 3, 1) := by decide +kernel
theorem d_G_ceilingNow_39 : decode prog_1_method_28_code 39 = .ok (.if_icmp .ne (12), 3) := by decide +kernel
theorem d_G_ceilingNow_42 : decode prog_1_method_28_code 42 = .ok (.iload_n 1, 1) := by decide +kernel
theorem d_G_ceilingNow_43 : decode prog_1_method_28_code 43 = .ok (.bipush (60), 2) := by decide +kernel
theorem d_G_ceilingNow_45 : decode prog_1_method_28_code 45 = .ok (.invokestatic 212, 3) := by decide +kernel
theorem d_G_ceilingNow_48 : decode prog_1_method_28_code 48 = .ok (.goto (4), 3) := by decide +kernel
theorem d_G_ceilingNow_51 : decode prog_1_method_28_code 51 = .ok (.iload_n 1, 1) := by decide +kernel
theorem d_G_ceilingNow_52 : decode prog_1_method_28_code 52 = .ok (.ireturn, 1) := by decide +kernel
theorem d_G_ceilingNow_53 : decode prog_1_method_28_code 53 = .ok (.aload_n 0, 1) := by decide +kernel
theorem d_G_ceilingNow_54 : decode prog_1_method_28_code 54 = .ok (.getfield 51, 3) := by decide +kernel
theorem d_G_ceilingNow_57 : decode prog_1_method_28_code 57 = .ok (.iconst 1, 1) := by decide +kernel
theorem d_G_ceilingNow_58 : decode prog_1_method_28_code 58 = .ok (.if_icmp .ne (8), 3) := by decide +kernel
theorem d_G_ceilingNow_61 : decode prog_1_method_28_code 61 = .ok (.bipush (80), 2) := by decide +kernel
theorem d_G_ceilingNow_63 : decode prog_1_method_28_code 63 = .ok (.goto (4), 3) := by decide +kernel
theorem d_G_ceilingNow_66 : decode prog_1_method_28_code 66 = .ok (.iconst 0, 1) := by decide +kernel
theorem d_G_ceilingNow_67 : decode prog_1_method_28_code 67 = .ok (.ireturn, 1) := by decide +kernel
theorem d_G_gradeNow_0 : decode prog_1_method_29_code 0 = .ok (.aload_n 0, 1) := by decide +kernel
theorem d_G_gradeNow_1 : decode prog_1_method_29_code 1 = .ok (.aload_n 0, 1) := by decide +kernel
theorem d_G_gradeNow_2 : decode prog_1_method_29_code 2 = .ok (.getfield 19, 3) := by decide +kernel
theorem d_G_gradeNow_5 : decode prog_1_method_29_code 5 = .ok (.getfield 184, 3) := by decide +kernel
theorem d_G_gradeNow_8 : decode prog_1_method_29_code 8 = .ok (.invokevirtual 253, 3) := by decide +kernel
theorem d_G_gradeNow_11 : decode prog_1_method_29_code 11 = .ok (.ireturn, 1) := by decide +kernel
theorem d_G_gradeWithEnd_0 : decode prog_1_method_30_code 0 = .ok (.aload_n 0, 1) := by decide +kernel
theorem d_G_gradeWithEnd_1 : decode prog_1_method_30_code 1 = .ok (.invokevirtual 193, 3) := by decide +kernel
theorem d_G_gradeWithEnd_4 : decode prog_1_method_30_code 4 = .ok (.ifCond .eq (5), 3) := by decide +kernel
theorem d_G_gradeWithEnd_7 : decode prog_1_method_30_code 7 = .ok (.iconst 4, 1) := by decide +kernel
theorem d_G_gradeWithEnd_8 : decode prog_1_method_30_code 8 = .ok (.ireturn, 1) := by decide +kernel
theorem d_G_gradeWithEnd_9 : decode prog_1_method_30_code 9 = .ok (.aload_n 0, 1) := by decide +kernel
theorem d_G_gradeWithEnd_10 : decode prog_1_method_30_code 10 = .ok (.iload_n 1, 1) := by decide +kernel
theorem d_G_gradeWithEnd_11 : decode prog_1_method_30_code 11 = .ok (.invokevirtual 274, 3) := by decide +kernel
theorem d_G_gradeWithEnd_14 : decode prog_1_method_30_code 14 = .ok (.aload_n 0, 1) := by decide +kernel
theorem d_G_gradeWithEnd_15 : decode prog_1_method_30_code 15 = .ok (.getfield 67, 3) := by decide +kernel
theorem d_G_gradeWithEnd_18 : decode prog_1_method_30_code 18 = .ok (.aload_n 0, 1) := by decide +kernel
theorem d_G_gradeWithEnd_19 : decode prog_1_method_30_code 19 = .ok (.getfield 10, 3) := by decide +kernel
theorem d_G_gradeWithEnd_22 : decode prog_1_method_30_code 22 = .ok (.getfield 172, 3) := by decide +kernel
theorem d_G_gradeWithEnd_25 : decode prog_1_method_30_code 25 = .ok (.invokevirtual 277, 3) := by decide +kernel
theorem d_G_gradeWithEnd_28 : decode prog_1_method_30_code 28 = .ok (.ireturn, 1) := by decide +kernel
theorem d_G_allowedNow_0 : decode prog_1_method_31_code 0 = .ok (.aload_n 0, 1) := by decide +kernel
theorem d_G_allowedNow_1 : decode prog_1_method_31_code 1 = .ok (.invokevirtual 193, 3) := by decide +kernel
theorem d_G_allowedNow_4 : decode prog_1_method_31_code 4 = .ok (.ifCond .eq (5), 3) := by decide +kernel
theorem d_G_allowedNow_7 : decode prog_1_method_31_code 7 = .ok (.iconst 0, 1) := by decide +kernel
theorem d_G_allowedNow_8 : decode prog_1_method_31_code 8 = .ok (.ireturn, 1) := by decide +kernel
theorem d_G_allowedNow_9 : decode prog_1_method_31_code 9 = .ok (.aload_n 0, 1) := by decide +kernel
theorem d_G_allowedNow_10 : decode prog_1_method_31_code 10 = .ok (.aload_n 0, 1) := by decide +kernel
theorem d_G_allowedNow_11 : decode prog_1_method_31_code 11 = .ok (.getfield 19, 3) := by decide +kernel
theorem d_G_allowedNow_14 : decode prog_1_method_31_code 14 = .ok (.getfield 184, 3) := by decide +kernel
theorem d_G_allowedNow_17 : decode prog_1_method_31_code 17 = .ok (.invokevirtual 274, 3) := by decide +kernel
theorem d_G_allowedNow_20 : decode prog_1_method_31_code 20 = .ok (.aload_n 0, 1) := by decide +kernel
theorem d_G_allowedNow_21 : decode prog_1_method_31_code 21 = .ok (.getfield 67, 3) := by decide +kernel
theorem d_G_allowedNow_24 : decode prog_1_method_31_code 24 = .ok (.invokevirtual 280, 3) := by decide +kernel
theorem d_G_allowedNow_27 : decode prog_1_method_31_code 27 = .ok (.ireturn, 1) := by decide +kernel
theorem d_G_lookAhead_0 : decode prog_1_method_32_code 0 = .ok (.aload_n 0, 1) := by decide +kernel
theorem d_G_lookAhead_1 : decode prog_1_method_32_code 1 = .ok (.getfield 67, 3) := by decide +kernel
theorem d_G_lookAhead_4 : decode prog_1_method_32_code 4 = .ok (.aload_n 0, 1) := by decide +kernel
theorem d_G_lookAhead_5 : decode prog_1_method_32_code 5 = .ok (.invokevirtual 197, 3) := by decide +kernel
theorem d_G_lookAhead_8 : decode prog_1_method_32_code 8 = .ok (.aload_n 0, 1) := by decide +kernel
theorem d_G_lookAhead_9 : decode prog_1_method_32_code 9 = .ok (.getfield 10, 3) := by decide +kernel
theorem d_G_lookAhead_12 : decode prog_1_method_32_code 12 = .ok (.getfield 115, 3) := by decide +kernel
theorem d_G_lookAhead_15 : decode prog_1_method_32_code 15 = .ok (.invokevirtual 283, 3) := by decide +kernel
theorem d_G_lookAhead_18 : decode prog_1_method_32_code 18 = .ok (.aload_n 0, 1) := by decide +kernel
theorem d_G_lookAhead_19 : decode prog_1_method_32_code 19 = .ok (.invokevirtual 221, 3) := by decide +kernel
theorem d_G_lookAhead_22 : decode prog_1_method_32_code 22 = .ok (.ifCond .eq (48), 3) := by decide +kernel
theorem d_G_lookAhead_25 : decode prog_1_method_32_code 25 = .ok (.aload_n 0, 1) := by decide +kernel
theorem d_G_lookAhead_26 : decode prog_1_method_32_code 26 = .ok (.iload_n 1, 1) := by decide +kernel
theorem d_G_lookAhead_27 : decode prog_1_method_32_code 27 = .ok (.iconst 0, 1) := by decide +kernel
theorem d_G_lookAhead_28 : decode prog_1_method_32_code 28 = .ok (.invokevirtual 286, 3) := by decide +kernel
theorem d_G_lookAhead_31 : decode prog_1_method_32_code 31 = .ok (.aload_n 0, 1) := by decide +kernel
theorem d_G_lookAhead_32 : decode prog_1_method_32_code 32 = .ok (.aload_n 0, 1) := by decide +kernel
theorem d_G_lookAhead_33 : decode prog_1_method_32_code 33 = .ok (.getfield 19, 3) := by decide +kernel
theorem d_G_lookAhead_36 : decode prog_1_method_32_code 36 = .ok (.getfield 236, 3) := by decide +kernel
theorem d_G_lookAhead_39 : decode prog_1_method_32_code 39 = .ok (.invokevirtual 289, 3) := by decide +kernel
theorem d_G_lookAhead_42 : decode prog_1_method_32_code 42 = .ok (.aload_n 0, 1) := by decide +kernel
theorem d_G_lookAhead_43 : decode prog_1_method_32_code 43 = .ok (.aload_n 0, 1) := by decide +kernel
theorem d_G_lookAhead_44 : decode prog_1_method_32_code 44 = .ok (.getfield 19, 3) := by decide +kernel
theorem d_G_lookAhead_47 : decode prog_1_method_32_code 47 = .ok (.getfield 256, 3) := by decide +kernel
theorem d_G_lookAhead_50 : decode prog_1_method_32_code 50 = .ok (.getfield 293, 3) := by decide +kernel
theorem d_G_lookAhead_53 : decode prog_1_method_32_code 53 = .ok (.invokevirtual 289, 3) := by decide +kernel
theorem d_G_lookAhead_56 : decode prog_1_method_32_code 56 = .ok (.aload_n 0, 1) := by decide +kernel
theorem d_G_lookAhead_57 : decode prog_1_method_32_code 57 = .ok (.iload_n 1, 1) := by decide +kernel
theorem d_G_lookAhead_58 : decode prog_1_method_32_code 58 = .ok (.aload_n 0, 1) := by decide +kernel
theorem d_G_lookAhead_59 : decode prog_1_method_32_code 59 = .ok (.getfield 19, 3) := by decide +kernel
theorem d_G_lookAhead_62 : decode prog_1_method_32_code 62 = .ok (.getfield 296, 3) := by decide +kernel
theorem d_G_lookAhead_65 : decode prog_1_method_32_code 65 = .ok (.iadd, 1) := by decide +kernel
theorem d_G_lookAhead_66 : decode prog_1_method_32_code 66 = .ok (.iconst 0, 1) := by decide +kernel
theorem d_G_lookAhead_67 : decode prog_1_method_32_code 67 = .ok (.invokevirtual 286, 3) := by decide +kernel
theorem d_G_lookAhead_70 : decode prog_1_method_32_code 70 = .ok (.return_, 1) := by decide +kernel
