theorem d_Msg_readMarks_0 : decode prog_7_method_7_code 0 = .ok (.aload_n 0, 1) := by decide +kernel
theorem d_Msg_readMarks_1 : decode prog_7_method_7_code 1 = .ok (.getfield 22, 3) := by decide +kernel
theorem d_Msg_readMarks_4 : decode prog_7_method_7_code 4 = .ok (.invokevirtual 104, 3) := by decide +kernel
theorem d_Msg_readMarks_7 : decode prog_7_method_7_code 7 = .ok (.aload_n 1, 1) := by decide +kernel
theorem d_Msg_readMarks_8 : decode prog_7_method_7_code 8 = .ok (.iconst 3, 1) := by decide +kernel
theorem d_Msg_readMarks_9 : decode prog_7_method_7_code 9 = .ok (.invokevirtual 45, 3) := by decide +kernel
theorem d_Msg_readMarks_12 : decode prog_7_method_7_code 12 = .ok (.istore_n 2, 1) := by decide +kernel
theorem d_Msg_readMarks_13 : decode prog_7_method_7_code 13 = .ok (.iconst (-1), 1) := by decide +kernel
theorem d_Msg_readMarks_14 : decode prog_7_method_7_code 14 = .ok (.istore_n 3, 1) := by decide +kernel
theorem d_Msg_readMarks_15 : decode prog_7_method_7_code 15 = .ok (.iconst 0, 1) := by decide +kernel
theorem d_Msg_readMarks_16 : decode prog_7_method_7_code 16 = .ok (.istore 4, 2) := by decide +kernel
theorem d_Msg_readMarks_18 : decode prog_7_method_7_code 18 = .ok (.iload 4, 2) := by decide +kernel
theorem d_Msg_readMarks_20 : decode prog_7_method_7_code 20 = .ok (.iload_n 2, 1) := by decide +kernel
theorem d_Msg_readMarks_21 : decode prog_7_method_7_code 21 = .ok (.if_icmp .ge (46), 3) := by decide +kernel
theorem d_Msg_readMarks_24 : decode prog_7_method_7_code 24 = .ok (.aload_n 1, 1) := by decide +kernel
theorem d_Msg_readMarks_25 : decode prog_7_method_7_code 25 = .ok (.invokevirtual 69, 3) := by decide +kernel
theorem d_Msg_readMarks_28 : decode prog_7_method_7_code 28 = .ok (.ifCond .eq (39), 3) := by decide +kernel
theorem d_Msg_readMarks_31 : decode prog_7_method_7_code 31 = .ok (.aload_n 1, 1) := by decide +kernel
theorem d_Msg_readMarks_32 : decode prog_7_method_7_code 32 = .ok (.iload_n 3, 1) := by decide +kernel
theorem d_Msg_readMarks_33 : decode prog_7_method_7_code 33 = .ok (.invokestatic 107, 3) := by decide +kernel
theorem d_Msg_readMarks_36 : decode prog_7_method_7_code 36 = .ok (.istore_n 3, 1) := by decide +kernel
theorem d_Msg_readMarks_37 : decode prog_7_method_7_code 37 = .ok (.aload_n 1, 1) := by decide +kernel
theorem d_Msg_readMarks_38 : decode prog_7_method_7_code 38 = .ok (.bipush (8), 2) := by decide +kernel
theorem d_Msg_readMarks_40 : decode prog_7_method_7_code 40 = .ok (.invokevirtual 45, 3) := by decide +kernel
theorem d_Msg_readMarks_43 : decode prog_7_method_7_code 43 = .ok (.istore 5, 2) := by decide +kernel
theorem d_Msg_readMarks_45 : decode prog_7_method_7_code 45 = .ok (.aload_n 0, 1) := by decide +kernel
theorem d_Msg_readMarks_46 : decode prog_7_method_7_code 46 = .ok (.getfield 22, 3) := by decide +kernel
theorem d_Msg_readMarks_49 : decode prog_7_method_7_code 49 = .ok (.iload_n 3, 1) := by decide +kernel
theorem d_Msg_readMarks_50 : decode prog_7_method_7_code 50 = .ok (.iload 5, 2) := by decide +kernel
theorem d_Msg_readMarks_52 : decode prog_7_method_7_code 52 = .ok (.aload_n 1, 1) := by decide +kernel
theorem d_Msg_readMarks_53 : decode prog_7_method_7_code 53 = .ok (.bipush (6), 2) := by decide +kernel
theorem d_Msg_readMarks_55 : decode prog_7_method_7_code 55 = .ok (.invokevirtual 45, 3) := by decide +kernel
theorem d_Msg_readMarks_58 : decode prog_7_method_7_code 58 = .ok (.invokevirtual 111, 3) := by decide +kernel
theorem d_Msg_readMarks_61 : decode prog_7_method_7_code 61 = .ok (.iinc 4 (1), 3) := by decide +kernel
theorem d_Msg_readMarks_64 : decode prog_7_method_7_code 64 = .ok (.goto (-46), 3) := by decide +kernel
theorem d_Msg_readMarks_67 : decode prog_7_method_7_code 67 = .ok (.return_, 1) := by decide +kernel
theorem d_Msg_readAuthority_0 : decode prog_7_method_8_code 0 = .ok (.aload_n 0, 1) := by decide +kernel
theorem d_Msg_readAuthority_1 : decode prog_7_method_8_code 1 = .ok (.aload_n 1, 1) := by decide +kernel
theorem d_Msg_readAuthority_2 : decode prog_7_method_8_code 2 = .ok (.invokestatic 62, 3) := by decide +kernel
theorem d_Msg_readAuthority_5 : decode prog_7_method_8_code 5 = .ok (.putfield 66, 3) := by decide +kernel
theorem d_Msg_readAuthority_8 : decode prog_7_method_8_code 8 = .ok (.aload_n 0, 1) := by decide +kernel
theorem d_Msg_readAuthority_9 : decode prog_7_method_8_code 9 = .ok (.aload_n 1, 1) := by decide +kernel
theorem d_Msg_readAuthority_10 : decode prog_7_method_8_code 10 = .ok (.bipush (10), 2) := by decide +kernel
theorem d_Msg_readAuthority_12 : decode prog_7_method_8_code 12 = .ok (.invokevirtual 45, 3) := by decide +kernel
theorem d_Msg_readAuthority_15 : decode prog_7_method_8_code 15 = .ok (.putfield 115, 3) := by decide +kernel
theorem d_Msg_readAuthority_18 : decode prog_7_method_8_code 18 = .ok (.aload_n 1, 1) := by decide +kernel
theorem d_Msg_readAuthority_19 : decode prog_7_method_8_code 19 = .ok (.iconst 2, 1) := by decide +kernel
theorem d_Msg_readAuthority_20 : decode prog_7_method_8_code 20 = .ok (.invokevirtual 45, 3) := by decide +kernel
theorem d_Msg_readAuthority_23 : decode prog_7_method_8_code 23 = .ok (.istore_n 2, 1) := by decide +kernel
theorem d_Msg_readAuthority_24 : decode prog_7_method_8_code 24 = .ok (.aload_n 1, 1) := by decide +kernel
theorem d_Msg_readAuthority_25 : decode prog_7_method_8_code 25 = .ok (.iload_n 2, 1) := by decide +kernel
theorem d_Msg_readAuthority_26 : decode prog_7_method_8_code 26 = .ok (.iconst 1, 1) := by decide +kernel
theorem d_Msg_readAuthority_27 : decode prog_7_method_8_code 27 = .ok (.if_icmp .gt (7), 3) := by decide +kernel
theorem d_Msg_readAuthority_30 : decode prog_7_method_8_code 30 = .ok (.iconst 1, 1) := by decide +kernel
theorem d_Msg_readAuthority_31 : decode prog_7_method_8_code 31 = .ok (.goto (4), 3) := by decide +kernel
theorem d_Msg_readAuthority_34 : decode prog_7_method_8_code 34 = .ok (.iconst 0, 1) := by decide +kernel
theorem d_Msg_readAuthority_35 : decode prog_7_method_8_code 35 = .ok (.bipush (6), 2) := by decide +kernel
theorem d_Msg_readAuthority_37 : decode prog_7_method_8_code 37 = .ok (.invokevirtual 52, 3) := by decide +kernel
theorem d_Msg_readAuthority_40 : decode prog_7_method_8_code 40 = .ok (.aload_n 0, 1) := by decide +kernel
theorem d_Msg_readAuthority_41 : decode prog_7_method_8_code 41 = .ok (.iload_n 2, 1) := by decide +kernel
theorem d_Msg_readAuthority_42 : decode prog_7_method_8_code 42 = .ok (.ifCond .ne (7), 3) := by decide +kernel
theorem d_Msg_readAuthority_45 : decode prog_7_method_8_code 45 = .ok (.iconst 2, 1) := by decide +kernel
theorem d_Msg_readAuthority_46 : decode prog_7_method_8_code 46 = .ok (.goto (4), 3) := by decide +kernel
theorem d_Msg_readAuthority_49 : decode prog_7_method_8_code 49 = .ok (.iconst 3, 1) := by decide +kernel
theorem d_Msg_readAuthority_50 : decode prog_7_method_8_code 50 = .ok (.putfield 118, 3) := by decide +kernel
theorem d_Msg_readAuthority_53 : decode prog_7_method_8_code 53 = .ok (.return_, 1) := by decide +kernel
theorem d_Msg_readSteps_0 : decode prog_7_method_9_code 0 = .ok (.aload_n 2, 1) := by decide +kernel
theorem d_Msg_readSteps_1 : decode prog_7_method_9_code 1 = .ok (.invokevirtual 121, 3) := by decide +kernel
theorem d_Msg_readSteps_4 : decode prog_7_method_9_code 4 = .ok (.aload_n 1, 1) := by decide +kernel
theorem d_Msg_readSteps_5 : decode prog_7_method_9_code 5 = .ok (.iconst 3, 1) := by decide +kernel
theorem d_Msg_readSteps_6 : decode prog_7_method_9_code 6 = .ok (.invokevirtual 45, 3) := by decide +kernel
theorem d_Msg_readSteps_9 : decode prog_7_method_9_code 9 = .ok (.istore 4, 2) := by decide +kernel
theorem d_Msg_readSteps_11 : decode prog_7_method_9_code 11 = .ok (.aload_n 1, 1) := by decide +kernel
theorem d_Msg_readSteps_12 : decode prog_7_method_9_code 12 = .ok (.iload 4, 2) := by decide +kernel
theorem d_Msg_readSteps_14 : decode prog_7_method_9_code 14 = .ok (.ifCond .ne (7), 3) := by decide +kernel
theorem d_Msg_readSteps_17 : decode prog_7_method_9_code 17 = .ok (.iload_n 3, 1) := by decide +kernel
theorem d_Msg_readSteps_18 : decode prog_7_method_9_code 18 = .ok (.ifCond .ne (7), 3) := by decide +kernel
theorem d_Msg_readSteps_21 : decode prog_7_method_9_code 21 = .ok (.iconst 1, 1) := by decide +kernel
theorem d_Msg_readSteps_22 : decode prog_7_method_9_code 22 = .ok (.goto (4), 3) := by decide +kernel
theorem d_Msg_readSteps_25 : decode prog_7_method_9_code 25 = .ok (.iconst 0, 1) := by decide +kernel
theorem d_Msg_readSteps_26 : decode prog_7_method_9_code 26 = .ok (.bipush (6), 2) := by decide +kernel
theorem d_Msg_readSteps_28 : decode prog_7_method_9_code 28 = .ok (.invokevirtual 52, 3) := by decide +kernel
theorem d_Msg_readSteps_31 : decode prog_7_method_9_code 31 = .ok (.iconst (-1), 1) := by decide +kernel
theorem d_Msg_readSteps_32 : decode prog_7_method_9_code 32 = .ok (.istore 5, 2) := by decide +kernel
theorem d_Msg_readSteps_34 : decode prog_7_method_9_code 34 = .ok (.iconst 0, 1) := by decide +kernel
theorem d_Msg_readSteps_35 : decode prog_7_method_9_code 35 = .ok (.istore 6, 2) := by decide +kernel
theorem d_Msg_readSteps_37 : decode prog_7_method_9_code 37 = .ok (.iload 6, 2) := by decide +kernel
theorem d_Msg_readSteps_39 : decode prog_7_method_9_code 39 = .ok (.iload 4, 2) := by decide +kernel
theorem d_Msg_readSteps_41 : decode prog_7_method_9_code 41 = .ok (.if_icmp .ge (47), 3) := by decide +kernel
theorem d_Msg_readSteps_44 : decode prog_7_method_9_code 44 = .ok (.aload_n 1, 1) := by decide +kernel
theorem d_Msg_readSteps_45 : decode prog_7_method_9_code 45 = .ok (.invokevirtual 69, 3) := by decide +kernel
theorem d_Msg_readSteps_48 : decode prog_7_method_9_code 48 = .ok (.ifCond .eq (40), 3) := by decide +kernel
theorem d_Msg_readSteps_51 : decode prog_7_method_9_code 51 = .ok (.aload_n 1, 1) := by decide +kernel
theorem d_Msg_readSteps_52 : decode prog_7_method_9_code 52 = .ok (.iload 5, 2) := by decide +kernel
theorem d_Msg_readSteps_54 : decode prog_7_method_9_code 54 = .ok (.invokestatic 107, 3) := by decide +kernel
theorem d_Msg_readSteps_57 : decode prog_7_method_9_code 57 = .ok (.istore 5, 2) := by decide +kernel
theorem d_Msg_readSteps_59 : decode prog_7_method_9_code 59 = .ok (.aload_n 2, 1) := by decide +kernel
theorem d_Msg_readSteps_60 : decode prog_7_method_9_code 60 = .ok (.iload 5, 2) := by decide +kernel
theorem d_Msg_readSteps_62 : decode prog_7_method_9_code 62 = .ok (.iload_n 3, 1) := by decide +kernel
theorem d_Msg_readSteps_63 : decode prog_7_method_9_code 63 = .ok (.ifCond .eq (10), 3) := by decide +kernel
theorem d_Msg_readSteps_66 : decode prog_7_method_9_code 66 = .ok (.aload_n 1, 1) := by decide +kernel
theorem d_Msg_readSteps_67 : decode prog_7_method_9_code 67 = .ok (.invokestatic 122, 3) := by decide +kernel
theorem d_Msg_readSteps_70 : decode prog_7_method_9_code 70 = .ok (.goto (9), 3) := by decide +kernel
theorem d_Msg_readSteps_73 : decode prog_7_method_9_code 73 = .ok (.aload_n 1, 1) := by decide +kernel
theorem d_Msg_readSteps_74 : decode prog_7_method_9_code 74 = .ok (.bipush (6), 2) := by decide +kernel
theorem d_Msg_readSteps_76 : decode prog_7_method_9_code 76 = .ok (.invokevirtual 45, 3) := by decide +kernel
theorem d_Msg_readSteps_79 : decode prog_7_method_9_code 79 = .ok (.invokevirtual 125, 3) := by decide +kernel
theorem d_Msg_readSteps_82 : decode prog_7_method_9_code 82 = .ok (.iinc 6 (1), 3) := by decide +kernel
theorem d_Msg_readSteps_85 : decode prog_7_method_9_code 85 = .ok (.goto (-48), 3) := by decide +kernel
theorem d_Msg_readSteps_88 : decode prog_7_method_9_code 88 = .ok (.return_, 1) := by decide +kernel
theorem d_Msg_readRestriction_0 : decode prog_7_method_10_code 0 = .ok (.aload_n 0, 1) := by decide +kernel
theorem d_Msg_readRestriction_1 : decode prog_7_method_10_code 1 = .ok (.aload_n 1, 1) := by decide +kernel
theorem d_Msg_readRestriction_2 : decode prog_7_method_10_code 2 = .ok (.bipush (8), 2) := by decide +kernel
theorem d_Msg_readRestriction_4 : decode prog_7_method_10_code 4 = .ok (.invokevirtual 45, 3) := by decide +kernel
theorem d_Msg_readRestriction_7 : decode prog_7_method_10_code 7 = .ok (.putfield 129, 3) := by decide +kernel
theorem d_Msg_readRestriction_10 : decode prog_7_method_10_code 10 = .ok (.aload_n 0, 1) := by decide +kernel
theorem d_Msg_readRestriction_11 : decode prog_7_method_10_code 11 = .ok (.aload_n 1, 1) := by decide +kernel
theorem d_Msg_readRestriction_12 : decode prog_7_method_10_code 12 = .ok (.invokestatic 62, 3) := by decide +kernel
theorem d_Msg_readRestriction_15 : decode prog_7_method_10_code 15 = .ok (.putfield 132, 3) := by decide +kernel
theorem d_Msg_readRestriction_18 : decode prog_7_method_10_code 18 = .ok (.aload_n 0, 1) := by decide +kernel
theorem d_Msg_readRestriction_19 : decode prog_7_method_10_code 19 = .ok (.aload_n 1, 1) := by decide +kernel
theorem d_Msg_readRestriction_20 : decode prog_7_method_10_code 20 = .ok (.invokestatic 62, 3) := by decide +kernel
theorem d_Msg_readRestriction_23 : decode prog_7_method_10_code 23 = .ok (.putfield 135, 3) := by decide +kernel
theorem d_Msg_readRestriction_26 : decode prog_7_method_10_code 26 = .ok (.aload_n 1, 1) := by decide +kernel
theorem d_Msg_readRestriction_27 : decode prog_7_method_10_code 27 = .ok (.aload_n 0, 1) := by decide +kernel
theorem d_Msg_readRestriction_28 : decode prog_7_method_10_code 28 = .ok (.getfield 135, 3) := by decide +kernel
theorem d_Msg_readRestriction_31 : decode prog_7_method_10_code 31 = .ok (.ifCond .eq (7), 3) := by decide +kernel
theorem d_Msg_readRestriction_34 : decode prog_7_method_10_code 34 = .ok (.iconst 1, 1) := by decide +kernel
theorem d_Msg_readRestriction_35 : decode prog_7_method_10_code 35 = .ok (.goto (4), 3) := by decide +kernel
theorem d_Msg_readRestriction_38 : decode prog_7_method_10_code 38 = .ok (.iconst 0, 1) := by decide +kernel
theorem d_Msg_readRestriction_39 : decode prog_7_method_10_code 39 = .ok (.bipush (6), 2) := by decide +kernel
theorem d_Msg_readRestriction_41 : decode prog_7_method_10_code 41 = .ok (.invokevirtual 52, 3) := by decide +kernel
theorem d_Msg_readRestriction_44 : decode prog_7_method_10_code 44 = .ok (.aload_n 0, 1) := by decide +kernel
theorem d_Msg_readRestriction_45 : decode prog_7_method_10_code 45 = .ok (.aload_n 1, 1) := by decide +kernel
theorem d_Msg_readRestriction_46 : decode prog_7_method_10_code 46 = .ok (.invokestatic 122, 3) := by decide +kernel
theorem d_Msg_readRestriction_49 : decode prog_7_method_10_code 49 = .ok (.putfield 138, 3) := by decide +kernel
theorem d_Msg_readRestriction_52 : decode prog_7_method_10_code 52 = .ok (.return_, 1) := by decide +kernel
theorem d_Msg_takePlace_0 : decode prog_7_method_11_code 0 = .ok (.bipush (10), 2) := by decide +kernel
theorem d_Msg_takePlace_2 : decode prog_7_method_11_code 2 = .ok (.aload_n 0, 1) := by decide +kernel
theorem d_Msg_takePlace_3 : decode prog_7_method_11_code 3 = .ok (.bipush (15), 2) := by decide +kernel
theorem d_Msg_takePlace_5 : decode prog_7_method_11_code 5 = .ok (.invokevirtual 45, 3) := by decide +kernel
theorem d_Msg_takePlace_8 : decode prog_7_method_11_code 8 = .ok (.imul, 1) := by decide +kernel
theorem d_Msg_takePlace_9 : decode prog_7_method_11_code 9 = .ok (.ireturn, 1) := by decide +kernel
theorem d_Msg_takePlaceBehind_0 : decode prog_7_method_12_code 0 = .ok (.bipush (10), 2) := by decide +kernel
theorem d_Msg_takePlaceBehind_2 : decode prog_7_method_12_code 2 = .ok (.aload_n 0, 1) := by decide +kernel
theorem d_Msg_takePlaceBehind_3 : decode prog_7_method_12_code 3 = .ok (.bipush (15), 2) := by decide +kernel
theorem d_Msg_takePlaceBehind_5 : decode prog_7_method_12_code 5 = .ok (.invokevirtual 45, 3) := by decide +kernel
theorem d_Msg_takePlaceBehind_8 : decode prog_7_method_12_code 8 = .ok (.imul, 1) := by decide +kernel
theorem d_Msg_takePlaceBehind_9 : decode prog_7_method_12_code 9 = .ok (.istore_n 2, 1) := by decide +kernel
theorem d_Msg_takePlaceBehind_10 : decode prog_7_method_12_code 10 = .ok (.aload_n 0, 1) := by decide +kernel
theorem d_Msg_takePlaceBehind_11 : decode prog_7_method_12_code 11 = .ok (.iload_n 2, 1) := by decide +kernel
theorem d_Msg_takePlaceBehind_12 : decode prog_7_method_12_code 12 = .ok (.iload_n 1, 1) := by decide +kernel
theorem d_Msg_takePlaceBehind_13 : decode prog_7_method_12_code 13 = .ok (.if_icmp .le (7), 3) := by decide +kernel
theorem d_Msg_takePlaceBehind_16 : decode prog_7_method_12_code 16 = .ok (.iconst 1, 1) := by decide +kernel
theorem d_Msg_takePlaceBehind_17 : decode prog_7_method_12_code 17 = .ok (.goto (4), 3) := by decide +kernel
theorem d_Msg_takePlaceBehind_20 : decode prog_7_method_12_code 20 = .ok (.iconst 0, 1) := by decide +kernel
theorem d_Msg_takePlaceBehind_21 : decode prog_7_method_12_code 21 = .ok (.bipush (6), 2) := by decide +kernel
theorem d_Msg_takePlaceBehind_23 : decode prog_7_method_12_code 23 = .ok (.invokevirtual 52, 3) := by decide +kernel
theorem d_Msg_takePlaceBehind_26 : decode prog_7_method_12_code 26 = .ok (.iload_n 2, 1) := by decide +kernel
theorem d_Msg_takePlaceBehind_27 : decode prog_7_method_12_code 27 = .ok (.ireturn, 1) := by decide +kernel
theorem d_Msg_takeLimit_0 : decode prog_7_method_13_code 0 = .ok (.iconst 5, 1) := by decide +kernel
theorem d_Msg_takeLimit_1 : decode prog_7_method_13_code 1 = .ok (.aload_n 0, 1) := by decide +kernel
theorem d_Msg_takeLimit_2 : decode prog_7_method_13_code 2 = .ok (.bipush (7), 2) := by decide +kernel
theorem d_Msg_takeLimit_4 : decode prog_7_method_13_code 4 = .ok (.invokevirtual 45, 3) := by decide +kernel
theorem d_Msg_takeLimit_7 : decode prog_7_method_13_code 7 = .ok (.imul, 1) := by decide +kernel
theorem d_Msg_takeLimit_8 : decode prog_7_method_13_code 8 = .ok (.sipush (600), 3) := by decide +kernel
theorem d_Msg_takeLimit_11 : decode prog_7_method_13_code 11 = .ok (.invokestatic 141, 3) := by decide +kernel
theorem d_Msg_takeLimit_14 : decode prog_7_method_13_code 14 = .ok (.ireturn, 1) := by decide +kernel
theorem d_Not_init_0 : decode prog_8_method_1_code 0 = .ok (.aload_n 0, 1) := by decide +kernel
theorem d_Not_init_1 : decode prog_8_method_1_code 1 = .ok (.invokespecial 3, 3) := by decide +kernel
theorem d_Not_init_4 : decode prog_8_method_1_code 4 = .ok (.aload_n 0, 1) := by decide +kernel
theorem d_Not_init_5 : decode prog_8_method_1_code 5 = .ok (.bipush (16), 2) := by decide +kernel
theorem d_Not_init_7 : decode prog_8_method_1_code 7 = .ok (.newarray .int, 2) := by decide +kernel
theorem d_Not_init_9 : decode prog_8_method_1_code 9 = .ok (.putfield 9, 3) := by decide +kernel
theorem d_Not_init_12 : decode prog_8_method_1_code 12 = .ok (.return_, 1) := by decide +kernel
theorem d_Not_add_0 : decode prog_8_method_2_code 0 = .ok (.aload_n 0, 1) := by decide +kernel
theorem d_Not_add_1 : decode prog_8_method_2_code 1 = .ok (.getfield 9, 3) := by decide +kernel
theorem d_Not_add_4 : decode prog_8_method_2_code 4 = .ok (.aload_n 0, 1) := by decide +kernel
theorem d_Not_add_5 : decode prog_8_method_2_code 5 = .ok (.getfield 15, 3) := by decide +kernel
theorem d_Not_add_8 : decode prog_8_method_2_code 8 = .ok (.iload_n 1, 1) := by decide +kernel
theorem d_Not_add_9 : decode prog_8_method_2_code 9 = .ok (.iastore, 1) := by decide +kernel
theorem d_Not_add_10 : decode prog_8_method_2_code 10 = .ok (.aload_n 0, 1) := by decide +kernel
theorem d_Not_add_11 : decode prog_8_method_2_code 11 = .ok (.aload_n 0, 1) := by decide +kernel
theorem d_Not_add_12 : decode prog_8_method_2_code 12 = .ok (.getfield 15, 3) := by decide +kernel
theorem d_Not_add_15 : decode prog_8_method_2_code 15 = .ok (.iconst 1, 1) := by decide +kernel
theorem d_Not_add_16 : decode prog_8_method_2_code 16 = .ok (.iadd, 1) := by decide +kernel
theorem d_Not_add_17 : decode prog_8_method_2_code 17 = .ok (.bipush (16), 2) := by decide +kernel
theorem d_Not_add_19 : decode prog_8_method_2_code 19 = .ok (.irem, 1) := by decide +kernel
theorem d_Not_add_20 : decode prog_8_method_2_code 20 = .ok (.putfield 15, 3) := by decide +kernel
theorem d_Not_add_23 : decode prog_8_method_2_code 23 = .ok (.aload_n 0, 1) := by decide +kernel
theorem d_Not_add_24 : decode prog_8_method_2_code 24 = .ok (.getfield 19, 3) := by decide +kernel
theorem d_Not_add_27 : decode prog_8_method_2_code 27 = .ok (.bipush (16), 2) := by decide +kernel
theorem d_Not_add_29 : decode prog_8_method_2_code 29 = .ok (.if_icmp .ge (13), 3) := by decide +kernel
theorem d_Not_add_32 : decode prog_8_method_2_code 32 = .ok (.aload_n 0, 1) := by decide +kernel
theorem d_Not_add_33 : decode prog_8_method_2_code 33 = .ok (.dup, 1) := by decide +kernel
theorem d_Not_add_34 : decode prog_8_method_2_code 34 = .ok (.getfield 19, 3) := by decide +kernel
theorem d_Not_add_37 : decode prog_8_method_2_code 37 = .ok (.iconst 1, 1) := by decide +kernel
theorem d_Not_add_38 : decode prog_8_method_2_code 38 = .ok (.iadd, 1) := by decide +kernel
theorem d_Not_add_39 : decode prog_8_method_2_code 39 = .ok (.putfield 19, 3) := by decide +kernel
theorem d_Not_add_42 : decode prog_8_method_2_code 42 = .ok (.return_, 1) := by decide +kernel
theorem d_Not_get_0 : decode prog_8_method_3_code 0 = .ok (.iload_n 1, 1) := by decide +kernel
theorem d_Not_get_1 : decode prog_8_method_3_code 1 = .ok (.ifCond .lt (11), 3) := by decide +kernel
theorem d_Not_get_4 : decode prog_8_method_3_code 4 = .ok (.iload_n 1, 1) := by decide +kernel
theorem d_Not_get_5 : decode prog_8_method_3_code 5 = .ok (.aload_n 0, 1) := by decide +kernel
theorem d_Not_get_6 : decode prog_8_method_3_code 6 = .ok (.getfield 19, 3) := by decide +kernel
theorem d_Not_get_9 : decode prog_8_method_3_code 9 = .ok (.if_icmp .lt (5), 3) := by decide +kernel
theorem d_Not_get_12 : decode prog_8_method_3_code 12 = .ok (.iconst (-1), 1) := by decide +kernel
theorem d_Not_get_13 : decode prog_8_method_3_code 13 = .ok (.ireturn, 1) := by decide +kernel
theorem d_Not_get_14 : decode prog_8_method_3_code 14 = .ok (.aload_n 0, 1) := by decide +kernel
theorem d_Not_get_15 : decode prog_8_method_3_code 15 = .ok (.getfield 9, 3) := by decide +kernel
theorem d_Not_get_18 : decode prog_8_method_3_code 18 = .ok (.aload_n 0, 1) := by decide +kernel
theorem d_Not_get_19 : decode prog_8_method_3_code 19 = .ok (.getfield 15, 3) := by decide +kernel
theorem d_Not_get_22 : decode prog_8_method_3_code 22 = .ok (.iconst 1, 1) := by decide +kernel
theorem d_Not_get_23 : decode prog_8_method_3_code 23 = .ok (.isub, 1) := by decide +kernel
theorem d_Not_get_24 : decode prog_8_method_3_code 24 = .ok (.iload_n 1, 1) := by decide +kernel
theorem d_Not_get_25 : decode prog_8_method_3_code 25 = .ok (.isub, 1) := by decide +kernel
theorem d_Not_get_26 : decode prog_8_method_3_code 26 = .ok (.bipush (16), 2) := by decide +kernel
theorem d_Not_get_28 : decode prog_8_method_3_code 28 = .ok (.iadd, 1) := by decide +kernel
theorem d_Not_get_29 : decode prog_8_method_3_code 29 = .ok (.bipush (16), 2) := by decide +kernel
theorem d_Not_get_31 : decode prog_8_method_3_code 31 = .ok (.irem, 1) := by decide +kernel
theorem d_Not_get_32 : decode prog_8_method_3_code 32 = .ok (.iaload, 1) := by decide +kernel
theorem d_Not_get_33 : decode prog_8_method_3_code 33 = .ok (.ireturn, 1) := by decide +kernel
theorem d_Res_init_0 : decode prog_9_method_1_code 0 = .ok (.aload_n 0, 1) := by decide +kernel
theorem d_Res_init_1 : decode prog_9_method_1_code 1 = .ok (.invokespecial 3, 3) := by decide +kernel
theorem d_Res_init_4 : decode prog_9_method_1_code 4 = .ok (.aload_n 0, 1) := by decide +kernel
theorem d_Res_init_5 : decode prog_9_method_1_code 5 = .ok (.bipush (6), 2) := by decide +kernel
theorem d_Res_init_7 : decode prog_9_method_1_code 7 = .ok (.newarray .int, 2) := by decide +kernel
theorem d_Res_init_9 : decode prog_9_method_1_code 9 = .ok (.putfield 9, 3) := by decide +kernel
theorem d_Res_init_12 : decode prog_9_method_1_code 12 = .ok (.aload_n 0, 1) := by decide +kernel
theorem d_Res_init_13 : decode prog_9_method_1_code 13 = .ok (.new 15, 3) := by decide +kernel
theorem d_Res_init_16 : decode prog_9_method_1_code 16 = .ok (.dup, 1) := by decide +kernel
theorem d_Res_init_17 : decode prog_9_method_1_code 17 = .ok (.invokespecial 17, 3) := by decide +kernel
theorem d_Res_init_20 : decode prog_9_method_1_code 20 = .ok (.putfield 18, 3) := by decide +kernel
theorem d_Res_init_23 : decode prog_9_method_1_code 23 = .ok (.return_, 1) := by decide +kernel
theorem d_Res_hasRoom_0 : decode prog_9_method_2_code 0 = .ok (.aload_n 0, 1) := by decide +kernel
theorem d_Res_hasRoom_1 : decode prog_9_method_2_code 1 = .ok (.getfield 18, 3) := by decide +kernel
theorem d_Res_hasRoom_4 : decode prog_9_method_2_code 4 = .ok (.getfield 22, 3) := by decide +kernel
theorem d_Res_hasRoom_7 : decode prog_9_method_2_code 7 = .ok (.bipush (6), 2) := by decide +kernel
theorem d_Res_hasRoom_9 : decode prog_9_method_2_code 9 = .ok (.if_icmp .lt (19), 3) := by decide +kernel
theorem d_Res_hasRoom_12 : decode prog_9_method_2_code 12 = .ok (.aload_n 0, 1) := by decide +kernel
theorem d_Res_hasRoom_13 : decode prog_9_method_2_code 13 = .ok (.iload_n 1, 1) := by decide +kernel
theorem d_Res_hasRoom_14 : decode prog_9_method_2_code 14 = .ok (.invokevirtual 26, 3) := by decide +kernel
theorem d_Res_hasRoom_17 : decode prog_9_method_2_code 17 = .ok (.ifCond .ge (11), 3) := by decide +kernel
theorem d_Res_hasRoom_20 : decode prog_9_method_2_code 20 = .ok (.aload_n 0, 1) := by decide +kernel
theorem d_Res_hasRoom_21 : decode prog_9_method_2_code 21 = .ok (.iload_n 2, 1) := by decide +kernel
theorem d_Res_hasRoom_22 : decode prog_9_method_2_code 22 = .ok (.invokevirtual 26, 3) := by decide +kernel
theorem d_Res_hasRoom_25 : decode prog_9_method_2_code 25 = .ok (.ifCond .lt (7), 3) := by decide +kernel
theorem d_Res_hasRoom_28 : decode prog_9_method_2_code 28 = .ok (.iconst 1, 1) := by decide +kernel
theorem d_Res_hasRoom_29 : decode prog_9_method_2_code 29 = .ok (.goto (4), 3) := by decide +kernel
theorem d_Res_hasRoom_32 : decode prog_9_method_2_code 32 = .ok (.iconst 0, 1) := by decide +kernel
theorem d_Res_hasRoom_33 : decode prog_9_method_2_code 33 = .ok (.ireturn, 1) := by decide +kernel
theorem d_Res_remove_0 : decode prog_9_method_3_code 0 = .ok (.aload_n 0, 1) := by decide +kernel
theorem d_Res_remove_1 : decode prog_9_method_3_code 1 = .ok (.iload_n 1, 1) := by decide +kernel
theorem d_Res_remove_2 : decode prog_9_method_3_code 2 = .ok (.invokevirtual 26, 3) := by decide +kernel
theorem d_Res_remove_5 : decode prog_9_method_3_code 5 = .ok (.istore_n 2, 1) := by decide +kernel
theorem d_Res_remove_6 : decode prog_9_method_3_code 6 = .ok (.iload_n 2, 1) := by decide +kernel
theorem d_Res_remove_7 : decode prog_9_method_3_code 7 = .ok (.ifCond .lt (29), 3) := by decide +kernel
theorem d_Res_remove_10 : decode prog_9_method_3_code 10 = .ok (.aload_n 0, 1) := by decide +kernel
theorem d_Res_remove_11 : decode prog_9_method_3_code 11 = .ok (.getfield 18, 3) := by decide +kernel
theorem d_Res_remove_14 : decode prog_9_method_3_code 14 = .ok (.iload_n 2, 1) := by decide +kernel
theorem d_Res_remove_15 : decode prog_9_method_3_code 15 = .ok (.invokevirtual 30, 3) := by decide +kernel
theorem d_Res_remove_18 : decode prog_9_method_3_code 18 = .ok (.aload_n 0, 1) := by decide +kernel
theorem d_Res_remove_19 : decode prog_9_method_3_code 19 = .ok (.getfield 9, 3) := by decide +kernel
theorem d_Res_remove_22 : decode prog_9_method_3_code 22 = .ok (.iload_n 2, 1) := by decide +kernel
theorem d_Res_remove_23 : decode prog_9_method_3_code 23 = .ok (.aload_n 0, 1) := by decide +kernel
theorem d_Res_remove_24 : decode prog_9_method_3_code 24 = .ok (.getfield 9, 3) := by decide +kernel
theorem d_Res_remove_27 : decode prog_9_method_3_code 27 = .ok (.aload_n 0, 1) := by decide +kernel
theorem d_Res_remove_28 : decode prog_9_method_3_code 28 = .ok (.getfield 18, 3) := by decide +kernel
theorem d_Res_remove_31 : decode prog_9_method_3_code 31 = .ok (.getfield 22, 3) := by decide +kernel
theorem d_Res_remove_34 : decode prog_9_method_3_code 34 = .ok (.iaload, 1) := by decide +kernel
theorem d_Res_remove_35 : decode prog_9_method_3_code 35 = .ok (.iastore, 1) := by decide +kernel
theorem d_Res_remove_36 : decode prog_9_method_3_code 36 = .ok (.return_, 1) := by decide +kernel
theorem d_Res_put_0 : decode prog_9_method_4_code 0 = .ok (.aload_n 0, 1) := by decide +kernel
theorem d_Res_put_1 : decode prog_9_method_4_code 1 = .ok (.iload_n 1, 1) := by decide +kernel
theorem d_Res_put_2 : decode prog_9_method_4_code 2 = .ok (.invokevirtual 34, 3) := by decide +kernel
theorem d_Res_put_5 : decode prog_9_method_4_code 5 = .ok (.aload_n 0, 1) := by decide +kernel
theorem d_Res_put_6 : decode prog_9_method_4_code 6 = .ok (.getfield 18, 3) := by decide +kernel
theorem d_Res_put_9 : decode prog_9_method_4_code 9 = .ok (.getfield 22, 3) := by decide +kernel
theorem d_Res_put_12 : decode prog_9_method_4_code 12 = .ok (.bipush (6), 2) := by decide +kernel
theorem d_Res_put_14 : decode prog_9_method_4_code 14 = .ok (.if_icmp .ge (31), 3) := by decide +kernel
theorem d_Res_put_17 : decode prog_9_method_4_code 17 = .ok (.aload_n 0, 1) := by decide +kernel
theorem d_Res_put_18 : decode prog_9_method_4_code 18 = .ok (.getfield 9, 3) := by decide +kernel
theorem d_Res_put_21 : decode prog_9_method_4_code 21 = .ok (.aload_n 0, 1) := by decide +kernel
theorem d_Res_put_22 : decode prog_9_method_4_code 22 = .ok (.getfield 18, 3) := by decide +kernel
theorem d_Res_put_25 : decode prog_9_method_4_code 25 = .ok (.getfield 22, 3) := by decide +kernel
theorem d_Res_put_28 : decode prog_9_method_4_code 28 = .ok (.iload_n 1, 1) := by decide +kernel
theorem d_Res_put_29 : decode prog_9_method_4_code 29 = .ok (.iastore, 1) := by decide +kernel
theorem d_Res_put_30 : decode prog_9_method_4_code 30 = .ok (.aload_n 0, 1) := by decide +kernel
theorem d_Res_put_31 : decode prog_9_method_4_code 31 = .ok (.getfield 18, 3) := by decide +kernel
theorem d_Res_put_34 : decode prog_9_method_4_code 34 = .ok (.iload_n 2, 1) := by decide +kernel
theorem d_Res_put_35 : decode prog_9_method_4_code 35 = .ok (.iload_n 2, 1) := by decide +kernel
theorem d_Res_put_36 : decode prog_9_method_4_code 36 = .ok (.iload_n 3, 1) := by decide +kernel
theorem d_Res_put_37 : decode prog_9_method_4_code 37 = .ok (.iadd, 1) := by decide +kernel
theorem d_Res_put_38 : decode prog_9_method_4_code 38 = .ok (.iconst 1, 1) := by decide +kernel
theorem d_Res_put_39 : decode prog_9_method_4_code 39 = .ok (.isub, 1) := by decide +kernel
theorem d_Res_put_40 : decode prog_9_method_4_code 40 = .ok (.iload 4, 2) := by decide +kernel
theorem d_Res_put_42 : decode prog_9_method_4_code 42 = .ok (.invokevirtual 37, 3) := by decide +kernel
theorem d_Res_put_45 : decode prog_9_method_4_code 45 = .ok (.return_, 1) := by decide +kernel
theorem d_Res_indexOf_0 : decode prog_9_method_5_code 0 = .ok (.iconst 0, 1) := by decide +kernel
theorem d_Res_indexOf_1 : decode prog_9_method_5_code 1 = .ok (.istore_n 2, 1) := by decide +kernel
theorem d_Res_indexOf_2 : decode prog_9_method_5_code 2 = .ok (.iload_n 2, 1) := by decide +kernel
theorem d_Res_indexOf_3 : decode prog_9_method_5_code 3 = .ok (.bipush (6), 2) := by decide +kernel
theorem d_Res_indexOf_5 : decode prog_9_method_5_code 5 = .ok (.if_icmp .ge (32), 3) := by decide +kernel
theorem d_Res_indexOf_8 : decode prog_9_method_5_code 8 = .ok (.iload_n 2, 1) := by decide +kernel
theorem d_Res_indexOf_9 : decode prog_9_method_5_code 9 = .ok (.aload_n 0, 1) := by decide +kernel
theorem d_Res_indexOf_10 : decode prog_9_method_5_code 10 = .ok (.getfield 18, 3) := by decide +kernel
theorem d_Res_indexOf_13 : decode prog_9_method_5_code 13 = .ok (.getfield 22, 3) := by decide +kernel
theorem d_Res_indexOf_16 : decode prog_9_method_5_code 16 = .ok (.if_icmp .ge (21), 3) := by decide +kernel
theorem d_Res_indexOf_19 : decode prog_9_method_5_code 19 = .ok (.aload_n 0, 1) := by decide +kernel
theorem d_Res_indexOf_20 : decode prog_9_method_5_code 20 = .ok (.getfield 9, 3) := by decide +kernel
theorem d_Res_indexOf_23 : decode prog_9_method_5_code 23 = .ok (.iload_n 2, 1) := by decide +kernel
theorem d_Res_indexOf_24 : decode prog_9_method_5_code 24 = .ok (.iaload, 1) := by decide +kernel
theorem d_Res_indexOf_25 : decode prog_9_method_5_code 25 = .ok (.iload_n 1, 1) := by decide +kernel
theorem d_Res_indexOf_26 : decode prog_9_method_5_code 26 = .ok (.if_icmp .ne (5), 3) := by decide +kernel
theorem d_Res_indexOf_29 : decode prog_9_method_5_code 29 = .ok (.iload_n 2, 1) := by decide +kernel
theorem d_Res_indexOf_30 : decode prog_9_method_5_code 30 = .ok (.ireturn, 1) := by decide +kernel
theorem d_Res_indexOf_31 : decode prog_9_method_5_code 31 = .ok (.iinc 2 (1), 3) := by decide +kernel
theorem d_Res_indexOf_34 : decode prog_9_method_5_code 34 = .ok (.goto (-32), 3) := by decide +kernel
theorem d_Res_indexOf_37 : decode prog_9_method_5_code 37 = .ok (.iconst (-1), 1) := by decide +kernel
theorem d_Res_indexOf_38 : decode prog_9_method_5_code 38 = .ok (.ireturn, 1) := by decide +kernel
theorem d_Spn_init_0 : decode prog_10_method_1_code 0 = .ok (.aload_n 0, 1) := by decide +kernel
theorem d_Spn_init_1 : decode prog_10_method_1_code 1 = .ok (.invokespecial 3, 3) := by decide +kernel
theorem d_Spn_init_4 : decode prog_10_method_1_code 4 = .ok (.aload_n 0, 1) := by decide +kernel
theorem d_Spn_init_5 : decode prog_10_method_1_code 5 = .ok (.bipush (7), 2) := by decide +kernel
theorem d_Spn_init_7 : decode prog_10_method_1_code 7 = .ok (.newarray .int, 2) := by decide +kernel
theorem d_Spn_init_9 : decode prog_10_method_1_code 9 = .ok (.putfield 9, 3) := by decide +kernel
theorem d_Spn_init_12 : decode prog_10_method_1_code 12 = .ok (.aload_n 0, 1) := by decide +kernel
theorem d_Spn_init_13 : decode prog_10_method_1_code 13 = .ok (.bipush (7), 2) := by decide +kernel
theorem d_Spn_init_15 : decode prog_10_method_1_code 15 = .ok (.newarray .int, 2) := by decide +kernel
theorem d_Spn_init_17 : decode prog_10_method_1_code 17 = .ok (.putfield 15, 3) := by decide +kernel
theorem d_Spn_init_20 : decode prog_10_method_1_code 20 = .ok (.aload_n 0, 1) := by decide +kernel
theorem d_Spn_init_21 : decode prog_10_method_1_code 21 = .ok (.bipush (7), 2) := by decide +kernel
theorem d_Spn_init_23 : decode prog_10_method_1_code 23 = .ok (.newarray .int, 2) := by decide +kernel
theorem d_Spn_init_25 : decode prog_10_method_1_code 25 = .ok (.putfield 18, 3) := by decide +kernel
theorem d_Spn_init_28 : decode prog_10_method_1_code 28 = .ok (.return_, 1) := by decide +kernel
theorem d_Spn_isEmpty_0 : decode prog_10_method_2_code 0 = .ok (.aload_n 0, 1) := by decide +kernel
theorem d_Spn_isEmpty_1 : decode prog_10_method_2_code 1 = .ok (.getfield 21, 3) := by decide +kernel
theorem d_Spn_isEmpty_4 : decode prog_10_method_2_code 4 = .ok (.ifCond .ne (7), 3) := by decide +kernel
theorem d_Spn_isEmpty_7 : decode prog_10_method_2_code 7 = .ok (.iconst 1, 1) := by decide +kernel
theorem d_Spn_isEmpty_8 : decode prog_10_method_2_code 8 = .ok (.goto (4), 3) := by decide +kernel
theorem d_Spn_isEmpty_11 : decode prog_10_method_2_code 11 = .ok (.iconst 0, 1) := by decide +kernel
theorem d_Spn_isEmpty_12 : decode prog_10_method_2_code 12 = .ok (.ireturn, 1) := by decide +kernel
theorem d_Spn_clear_0 : decode prog_10_method_3_code 0 = .ok (.aload_n 0, 1) := by decide +kernel
theorem d_Spn_clear_1 : decode prog_10_method_3_code 1 = .ok (.iconst 0, 1) := by decide +kernel
theorem d_Spn_clear_2 : decode prog_10_method_3_code 2 = .ok (.putfield 21, 3) := by decide +kernel
theorem d_Spn_clear_5 : decode prog_10_method_3_code 5 = .ok (.return_, 1) := by decide +kernel
theorem d_Spn_add_0 : decode prog_10_method_4_code 0 = .ok (.aload_n 0, 1) := by decide +kernel
theorem d_Spn_add_1 : decode prog_10_method_4_code 1 = .ok (.getfield 21, 3) := by decide +kernel
theorem d_Spn_add_4 : decode prog_10_method_4_code 4 = .ok (.bipush (7), 2) := by decide +kernel
theorem d_Spn_add_6 : decode prog_10_method_4_code 6 = .ok (.if_icmp .ge (43), 3) := by decide +kernel
theorem d_Spn_add_9 : decode prog_10_method_4_code 9 = .ok (.aload_n 0, 1) := by decide +kernel
theorem d_Spn_add_10 : decode prog_10_method_4_code 10 = .ok (.getfield 9, 3) := by decide +kernel
theorem d_Spn_add_13 : decode prog_10_method_4_code 13 = .ok (.aload_n 0, 1) := by decide +kernel
theorem d_Spn_add_14 : decode prog_10_method_4_code 14 = .ok (.getfield 21, 3) := by decide +kernel
theorem d_Spn_add_17 : decode prog_10_method_4_code 17 = .ok (.iload_n 1, 1) := by decide +kernel
theorem d_Spn_add_18 : decode prog_10_method_4_code 18 = .ok (.iastore, 1) := by decide +kernel
theorem d_Spn_add_19 : decode prog_10_method_4_code 19 = .ok (.aload_n 0, 1) := by decide +kernel
theorem d_Spn_add_20 : decode prog_10_method_4_code 20 = .ok (.getfield 15, 3) := by decide +kernel
theorem d_Spn_add_23 : decode prog_10_method_4_code 23 = .ok (.aload_n 0, 1) := by decide +kernel
theorem d_Spn_add_24 : decode prog_10_method_4_code 24 = .ok (.getfield 21, 3) := by decide +kernel
theorem d_Spn_add_27 : decode prog_10_method_4_code 27 = .ok (.iload_n 2, 1) := by decide +kernel
theorem d_Spn_add_28 : decode prog_10_method_4_code 28 = .ok (.iastore, 1) := by decide +kernel
theorem d_Spn_add_29 : decode prog_10_method_4_code 29 = .ok (.aload_n 0, 1) := by decide +kernel
theorem d_Spn_add_30 : decode prog_10_method_4_code 30 = .ok (.getfield 18, 3) := by decide +kernel
theorem d_Spn_add_33 : decode prog_10_method_4_code 33 = .ok (.aload_n 0, 1) := by decide +kernel
theorem d_Spn_add_34 : decode prog_10_method_4_code 34 = .ok (.getfield 21, 3) := by decide +kernel
theorem d_Spn_add_37 : decode prog_10_method_4_code 37 = .ok (.iload_n 3, 1) := by decide +kernel
theorem d_Spn_add_38 : decode prog_10_method_4_code 38 = .ok (.iastore, 1) := by decide +kernel
theorem d_Spn_add_39 : decode prog_10_method_4_code 39 = .ok (.aload_n 0, 1) := by decide +kernel
theorem d_Spn_add_40 : decode prog_10_method_4_code 40 = .ok (.dup, 1) := by decide +kernel
theorem d_Spn_add_41 : decode prog_10_method_4_code 41 = .ok (.getfield 21, 3) := by decide +kernel
theorem d_Spn_add_44 : decode prog_10_method_4_code 44 = .ok (.iconst 1, 1) := by decide +kernel
theorem d_Spn_add_45 : decode prog_10_method_4_code 45 = .ok (.iadd, 1) := by decide +kernel
theorem d_Spn_add_46 : decode prog_10_method_4_code 46 = .ok (.putfield 21, 3) := by decide +kernel
theorem d_Spn_add_49 : decode prog_10_method_4_code 49 = .ok (.return_, 1) := by decide +kernel
theorem d_Spn_addStep_0 : decode prog_10_method_5_code 0 = .ok (.aload_n 0, 1) := by decide +kernel
theorem d_Spn_addStep_1 : decode prog_10_method_5_code 1 = .ok (.getfield 21, 3) := by decide +kernel
theorem d_Spn_addStep_4 : decode prog_10_method_5_code 4 = .ok (.ifCond .le (17), 3) := by decide +kernel
theorem d_Spn_addStep_7 : decode prog_10_method_5_code 7 = .ok (.aload_n 0, 1) := by decide +kernel
theorem d_Spn_addStep_8 : decode prog_10_method_5_code 8 = .ok (.getfield 15, 3) := by decide +kernel
theorem d_Spn_addStep_11 : decode prog_10_method_5_code 11 = .ok (.aload_n 0, 1) := by decide +kernel
theorem d_Spn_addStep_12 : decode prog_10_method_5_code 12 = .ok (.getfield 21, 3) := by decide +kernel
theorem d_Spn_addStep_15 : decode prog_10_method_5_code 15 = .ok (.iconst 1, 1) := by decide +kernel
theorem d_Spn_addStep_16 : decode prog_10_method_5_code 16 = .ok (.isub, 1) := by decide +kernel
theorem d_Spn_addStep_17 : decode prog_10_method_5_code 17 = .ok (.iload_n 1, 1) := by decide +kernel
theorem d_Spn_addStep_18 : decode prog_10_method_5_code 18 = .ok (.iconst 1, 1) := by decide +kernel
theorem d_Spn_addStep_19 : decode prog_10_method_5_code 19 = .ok (.isub, 1) := by decide +kernel
theorem d_Spn_addStep_20 : decode prog_10_method_5_code 20 = .ok (.iastore, 1) := by decide +kernel
theorem d_Spn_addStep_21 : decode prog_10_method_5_code 21 = .ok (.aload_n 0, 1) := by decide +kernel
theorem d_Spn_addStep_22 : decode prog_10_method_5_code 22 = .ok (.iload_n 1, 1) := by decide +kernel
theorem d_Spn_addStep_23 : decode prog_10_method_5_code 23 = .ok (.ldc 25, 2) := by decide +kernel
theorem d_Spn_addStep_25 : decode prog_10_method_5_code 25 = .ok (.iload_n 2, 1) := by decide +kernel
theorem d_Spn_addStep_26 : decode prog_10_method_5_code 26 = .ok (.invokevirtual 26, 3) := by decide +kernel
theorem d_Spn_addStep_29 : decode prog_10_method_5_code 29 = .ok (.return_, 1) := by decide +kernel
theorem d_Spn_copyFrom_0 : decode prog_10_method_6_code 0 = .ok (.aload_n 0, 1) := by decide +kernel
theorem d_Spn_copyFrom_1 : decode prog_10_method_6_code 1 = .ok (.invokevirtual 30, 3) := by decide +kernel
theorem d_Spn_copyFrom_4 : decode prog_10_method_6_code 4 = .ok (.iconst 0, 1) := by decide +kernel
theorem d_Spn_copyFrom_5 : decode prog_10_method_6_code 5 = .ok (.istore_n 2, 1) := by decide +kernel
theorem d_Spn_copyFrom_6 : decode prog_10_method_6_code 6 = .ok (.iload_n 2, 1) := by decide +kernel
theorem d_Spn_copyFrom_7 : decode prog_10_method_6_code 7 = .ok (.aload_n 1, 1) := by decide +kernel
theorem d_Spn_copyFrom_8 : decode prog_10_method_6_code 8 = .ok (.getfield 21, 3) := by decide +kernel
theorem d_Spn_copyFrom_11 : decode prog_10_method_6_code 11 = .ok (.if_icmp .ge (31), 3) := by decide +kernel
theorem d_Spn_copyFrom_14 : decode prog_10_method_6_code 14 = .ok (.aload_n 0, 1) := by decide +kernel
theorem d_Spn_copyFrom_15 : decode prog_10_method_6_code 15 = .ok (.aload_n 1, 1) := by decide +kernel
theorem d_Spn_copyFrom_16 : decode prog_10_method_6_code 16 = .ok (.getfield 9, 3) := by decide +kernel
theorem d_Spn_copyFrom_19 : decode prog_10_method_6_code 19 = .ok (.iload_n 2, 1) := by decide +kernel
theorem d_Spn_copyFrom_20 : decode prog_10_method_6_code 20 = .ok (.iaload, 1) := by decide +kernel
theorem d_Spn_copyFrom_21 : decode prog_10_method_6_code 21 = .ok (.aload_n 1, 1) := by decide +kernel
theorem d_Spn_copyFrom_22 : decode prog_10_method_6_code 22 = .ok (.getfield 15, 3) := by decide +kernel
theorem d_Spn_copyFrom_25 : decode prog_10_method_6_code 25 = .ok (.iload_n 2, 1) := by decide +kernel
theorem d_Spn_copyFrom_26 : decode prog_10_method_6_code 26 = .ok (.iaload, 1) := by decide +kernel
theorem d_Spn_copyFrom_27 : decode prog_10_method_6_code 27 = .ok (.aload_n 1, 1) := by decide +kernel
theorem d_Spn_copyFrom_28 : decode prog_10_method_6_code 28 = .ok (.getfield 18, 3) := by decide +kernel
theorem d_Spn_copyFrom_31 : decode prog_10_method_6_code 31 = .ok (.iload_n 2, 1) := by decide +kernel
theorem d_Spn_copyFrom_32 : decode prog_10_method_6_code 32 = .ok (.iaload, 1) := by decide +kernel
theorem d_Spn_copyFrom_33 : decode prog_10_method_6_code 33 = .ok (.invokevirtual 26, 3) := by decide +kernel
theorem d_Spn_copyFrom_36 : decode prog_10_method_6_code 36 = .ok (.iinc 2 (1), 3) := by decide +kernel
theorem d_Spn_copyFrom_39 : decode prog_10_method_6_code 39 = .ok (.goto (-33), 3) := by decide +kernel
theorem d_Spn_copyFrom_42 : decode prog_10_method_6_code 42 = .ok (.return_, 1) := by decide +kernel
theorem d_Spn_fillFromLast_0 : decode prog_10_method_7_code 0 = .ok (.iload_n 1, 1) := by decide +kernel
theorem d_Spn_fillFromLast_1 : decode prog_10_method_7_code 1 = .ok (.ifCond .lt (66), 3) := by decide +kernel
theorem d_Spn_fillFromLast_4 : decode prog_10_method_7_code 4 = .ok (.iload_n 1, 1) := by decide +kernel
theorem d_Spn_fillFromLast_5 : decode prog_10_method_7_code 5 = .ok (.aload_n 0, 1) := by decide +kernel
theorem d_Spn_fillFromLast_6 : decode prog_10_method_7_code 6 = .ok (.getfield 21, 3) := by decide +kernel
theorem d_Spn_fillFromLast_9 : decode prog_10_method_7_code 9 = .ok (.if_icmp .ge (58), 3) := by decide +kernel
theorem d_Spn_fillFromLast_12 : decode prog_10_method_7_code 12 = .ok (.aload_n 0, 1) := by decide +kernel
theorem d_Spn_fillFromLast_13 : decode prog_10_method_7_code 13 = .ok (.dup, 1) := by decide +kernel
theorem d_Spn_fillFromLast_14 : decode prog_10_method_7_code 14 = .ok (.getfield 21, 3) := by decide +kernel
theorem d_Spn_fillFromLast_17 : decode prog_10_method_7_code 17 = .ok (.iconst 1, 1) := by decide +kernel
theorem d_Spn_fillFromLast_18 : decode prog_10_method_7_code 18 = .ok (.isub, 1) := by decide +kernel
theorem d_Spn_fillFromLast_19 : decode prog_10_method_7_code 19 = .ok (.putfield 21, 3) := by decide +kernel
theorem d_Spn_fillFromLast_22 : decode prog_10_method_7_code 22 = .ok (.aload_n 0, 1) := by decide +kernel
theorem d_Spn_fillFromLast_23 : decode prog_10_method_7_code 23 = .ok (.getfield 9, 3) := by decide +kernel
theorem d_Spn_fillFromLast_26 : decode prog_10_method_7_code 26 = .ok (.iload_n 1, 1) := by decide +kernel
theorem d_Spn_fillFromLast_27 : decode prog_10_method_7_code 27 = .ok (.aload_n 0, 1) := by decide +kernel
theorem d_Spn_fillFromLast_28 : decode prog_10_method_7_code 28 = .ok (.getfield 9, 3) := by decide +kernel
theorem d_Spn_fillFromLast_31 : decode prog_10_method_7_code 31 = .ok (.aload_n 0, 1) := by decide +kernel
theorem d_Spn_fillFromLast_32 : decode prog_10_method_7_code 32 = .ok (.getfield 21, 3) := by decide +kernel
theorem d_Spn_fillFromLast_35 : decode prog_10_method_7_code 35 = .ok (.iaload, 1) := by decide +kernel
theorem d_Spn_fillFromLast_36 : decode prog_10_method_7_code 36 = .ok (.iastore, 1) := by decide +kernel
theorem d_Spn_fillFromLast_37 : decode prog_10_method_7_code 37 = .ok (.aload_n 0, 1) := by decide +kernel
theorem d_Spn_fillFromLast_38 : decode prog_10_method_7_code 38 = .ok (.getfield 15, 3) := by decide +kernel
theorem d_Spn_fillFromLast_41 : decode prog_10_method_7_code 41 = .ok (.iload_n 1, 1) := by decide +kernel
theorem d_Spn_fillFromLast_42 : decode prog_10_method_7_code 42 = .ok (.aload_n 0, 1) := by decide +kernel
theorem d_Spn_fillFromLast_43 : decode prog_10_method_7_code 43 = .ok (.getfield 15, 3) := by decide +kernel
theorem d_Spn_fillFromLast_46 : decode prog_10_method_7_code 46 = .ok (.aload_n 0, 1) := by decide +kernel
theorem d_Spn_fillFromLast_47 : decode prog_10_method_7_code 47 = .ok (.getfield 21, 3) := by decide +kernel
theorem d_Spn_fillFromLast_50 : decode prog_10_method_7_code 50 = .ok (.iaload, 1) := by decide +kernel
theorem d_Spn_fillFromLast_51 : decode prog_10_method_7_code 51 = .ok (.iastore, 1) := by decide +kernel
theorem d_Spn_fillFromLast_52 : decode prog_10_method_7_code 52 = .ok (.aload_n 0, 1) := by decide +kernel
theorem d_Spn_fillFromLast_53 : decode prog_10_method_7_code 53 = .ok (.getfield 18, 3) := by decide +kernel
theorem d_Spn_fillFromLast_56 : decode prog_10_method_7_code 56 = .ok (.iload_n 1, 1) := by decide +kernel
theorem d_Spn_fillFromLast_57 : decode prog_10_method_7_code 57 = .ok (.aload_n 0, 1) := by decide +kernel
theorem d_Spn_fillFromLast_58 : decode prog_10_method_7_code 58 = .ok (.getfield 18, 3) := by decide +kernel
theorem d_Spn_fillFromLast_61 : decode prog_10_method_7_code 61 = .ok (.aload_n 0, 1) := by decide +kernel
theorem d_Spn_fillFromLast_62 : decode prog_10_method_7_code 62 = .ok (.getfield 21, 3) := by decide +kernel
theorem d_Spn_fillFromLast_65 : decode prog_10_method_7_code 65 = .ok (.iaload, 1) := by decide +kernel
theorem d_Spn_fillFromLast_66 : decode prog_10_method_7_code 66 = .ok (.iastore, 1) := by decide +kernel
theorem d_Spn_fillFromLast_67 : decode prog_10_method_7_code 67 = .ok (.return_, 1) := by decide +kernel
theorem d_Spn_least_0 : decode prog_10_method_8_code 0 = .ok (.sipush (600), 3) := by decide +kernel
theorem d_Spn_least_3 : decode prog_10_method_8_code 3 = .ok (.istore_n 3, 1) := by decide +kernel
theorem d_Spn_least_4 : decode prog_10_method_8_code 4 = .ok (.iconst 0, 1) := by decide +kernel
theorem d_Spn_least_5 : decode prog_10_method_8_code 5 = .ok (.istore 4, 2) := by decide +kernel
theorem d_Spn_least_7 : decode prog_10_method_8_code 7 = .ok (.iload 4, 2) := by decide +kernel
theorem d_Spn_least_9 : decode prog_10_method_8_code 9 = .ok (.aload_n 0, 1) := by decide +kernel
theorem d_Spn_least_10 : decode prog_10_method_8_code 10 = .ok (.getfield 21, 3) := by decide +kernel
theorem d_Spn_least_13 : decode prog_10_method_8_code 13 = .ok (.if_icmp .ge (50), 3) := by decide +kernel
theorem d_Spn_least_16 : decode prog_10_method_8_code 16 = .ok (.aload_n 0, 1) := by decide +kernel
theorem d_Spn_least_17 : decode prog_10_method_8_code 17 = .ok (.getfield 9, 3) := by decide +kernel
theorem d_Spn_least_20 : decode prog_10_method_8_code 20 = .ok (.iload 4, 2) := by decide +kernel
theorem d_Spn_least_22 : decode prog_10_method_8_code 22 = .ok (.iaload, 1) := by decide +kernel
theorem d_Spn_least_23 : decode prog_10_method_8_code 23 = .ok (.iload_n 2, 1) := by decide +kernel
theorem d_Spn_least_24 : decode prog_10_method_8_code 24 = .ok (.if_icmp .gt (33), 3) := by decide +kernel
theorem d_Spn_least_27 : decode prog_10_method_8_code 27 = .ok (.aload_n 0, 1) := by decide +kernel
theorem d_Spn_least_28 : decode prog_10_method_8_code 28 = .ok (.getfield 15, 3) := by decide +kernel
theorem d_Spn_least_31 : decode prog_10_method_8_code 31 = .ok (.iload 4, 2) := by decide +kernel
theorem d_Spn_least_33 : decode prog_10_method_8_code 33 = .ok (.iaload, 1) := by decide +kernel
theorem d_Spn_least_34 : decode prog_10_method_8_code 34 = .ok (.iload_n 1, 1) := by decide +kernel
theorem d_Spn_least_35 : decode prog_10_method_8_code 35 = .ok (.if_icmp .lt (22), 3) := by decide +kernel
theorem d_Spn_least_38 : decode prog_10_method_8_code 38 = .ok (.aload_n 0, 1) := by decide +kernel
theorem d_Spn_least_39 : decode prog_10_method_8_code 39 = .ok (.getfield 18, 3) := by decide +kernel
theorem d_Spn_least_42 : decode prog_10_method_8_code 42 = .ok (.iload 4, 2) := by decide +kernel
theorem d_Spn_least_44 : decode prog_10_method_8_code 44 = .ok (.iaload, 1) := by decide +kernel
theorem d_Spn_least_45 : decode prog_10_method_8_code 45 = .ok (.iload_n 3, 1) := by decide +kernel
theorem d_Spn_least_46 : decode prog_10_method_8_code 46 = .ok (.if_icmp .ge (11), 3) := by decide +kernel
theorem d_Spn_least_49 : decode prog_10_method_8_code 49 = .ok (.aload_n 0, 1) := by decide +kernel
theorem d_Spn_least_50 : decode prog_10_method_8_code 50 = .ok (.getfield 18, 3) := by decide +kernel
theorem d_Spn_least_53 : decode prog_10_method_8_code 53 = .ok (.iload 4, 2) := by decide +kernel
theorem d_Spn_least_55 : decode prog_10_method_8_code 55 = .ok (.iaload, 1) := by decide +kernel
theorem d_Spn_least_56 : decode prog_10_method_8_code 56 = .ok (.istore_n 3, 1) := by decide +kernel
theorem d_Spn_least_57 : decode prog_10_method_8_code 57 = .ok (.iinc 4 (1), 3) := by decide +kernel
theorem d_Spn_least_60 : decode prog_10_method_8_code 60 = .ok (.goto (-53), 3) := by decide +kernel
theorem d_Spn_least_63 : decode prog_10_method_8_code 63 = .ok (.iload_n 3, 1) := by decide +kernel
theorem d_Spn_least_64 : decode prog_10_method_8_code 64 = .ok (.ireturn, 1) := by decide +kernel
theorem d_Spn_greatest_0 : decode prog_10_method_9_code 0 = .ok (.iload_n 1, 1) := by decide +kernel
theorem d_Spn_greatest_1 : decode prog_10_method_9_code 1 = .ok (.iload_n 2, 1) := by decide +kernel
theorem d_Spn_greatest_2 : decode prog_10_method_9_code 2 = .ok (.if_icmp .le (5), 3) := by decide +kernel
theorem d_Spn_greatest_5 : decode prog_10_method_9_code 5 = .ok (.iconst 0, 1) := by decide +kernel
theorem d_Spn_greatest_6 : decode prog_10_method_9_code 6 = .ok (.ireturn, 1) := by decide +kernel
theorem d_Spn_greatest_7 : decode prog_10_method_9_code 7 = .ok (.iconst 0, 1) := by decide +kernel
theorem d_Spn_greatest_8 : decode prog_10_method_9_code 8 = .ok (.istore_n 3, 1) := by decide +kernel
theorem d_Spn_greatest_9 : decode prog_10_method_9_code 9 = .ok (.iconst 0, 1) := by decide +kernel
theorem d_Spn_greatest_10 : decode prog_10_method_9_code 10 = .ok (.istore 4, 2) := by decide +kernel
theorem d_Spn_greatest_12 : decode prog_10_method_9_code 12 = .ok (.iload 4, 2) := by decide +kernel
theorem d_Spn_greatest_14 : decode prog_10_method_9_code 14 = .ok (.aload_n 0, 1) := by decide +kernel
theorem d_Spn_greatest_15 : decode prog_10_method_9_code 15 = .ok (.getfield 21, 3) := by decide +kernel
theorem d_Spn_greatest_18 : decode prog_10_method_9_code 18 = .ok (.if_icmp .ge (50), 3) := by decide +kernel
theorem d_Spn_greatest_21 : decode prog_10_method_9_code 21 = .ok (.aload_n 0, 1) := by decide +kernel
theorem d_Spn_greatest_22 : decode prog_10_method_9_code 22 = .ok (.getfield 9, 3) := by decide +kernel
theorem d_Spn_greatest_25 : decode prog_10_method_9_code 25 = .ok (.iload 4, 2) := by decide +kernel
theorem d_Spn_greatest_27 : decode prog_10_method_9_code 27 = .ok (.iaload, 1) := by decide +kernel
theorem d_Spn_greatest_28 : decode prog_10_method_9_code 28 = .ok (.iload_n 2, 1) := by decide +kernel
theorem d_Spn_greatest_29 : decode prog_10_method_9_code 29 = .ok (.if_icmp .gt (33), 3) := by decide +kernel
theorem d_Spn_greatest_32 : decode prog_10_method_9_code 32 = .ok (.aload_n 0, 1) := by decide +kernel
theorem d_Spn_greatest_33 : decode prog_10_method_9_code 33 = .ok (.getfield 15, 3) := by decide +kernel
theorem d_Spn_greatest_36 : decode prog_10_method_9_code 36 = .ok (.iload 4, 2) := by decide +kernel
theorem d_Spn_greatest_38 : decode prog_10_method_9_code 38 = .ok (.iaload, 1) := by decide +kernel
theorem d_Spn_greatest_39 : decode prog_10_method_9_code 39 = .ok (.iload_n 1, 1) := by decide +kernel
theorem d_Spn_greatest_40 : decode prog_10_method_9_code 40 = .ok (.if_icmp .lt (22), 3) := by decide +kernel
theorem d_Spn_greatest_43 : decode prog_10_method_9_code 43 = .ok (.aload_n 0, 1) := by decide +kernel
theorem d_Spn_greatest_44 : decode prog_10_method_9_code 44 = .ok (.getfield 18, 3) := by decide +kernel
theorem d_Spn_greatest_47 : decode prog_10_method_9_code 47 = .ok (.iload 4, 2) := by decide +kernel
theorem d_Spn_greatest_49 : decode prog_10_method_9_code 49 = .ok (.iaload, 1) := by decide +kernel
theorem d_Spn_greatest_50 : decode prog_10_method_9_code 50 = .ok (.iload_n 3, 1) := by decide +kernel
theorem d_Spn_greatest_51 : decode prog_10_method_9_code 51 = .ok (.if_icmp .le (11), 3) := by decide +kernel
theorem d_Spn_greatest_54 : decode prog_10_method_9_code 54 = .ok (.aload_n 0, 1) := by decide +kernel
theorem d_Spn_greatest_55 : decode prog_10_method_9_code 55 = .ok (.getfield 18, 3) := by decide +kernel
theorem d_Spn_greatest_58 : decode prog_10_method_9_code 58 = .ok (.iload 4, 2) := by decide +kernel
theorem d_Spn_greatest_60 : decode prog_10_method_9_code 60 = .ok (.iaload, 1) := by decide +kernel
theorem d_Spn_greatest_61 : decode prog_10_method_9_code 61 = .ok (.istore_n 3, 1) := by decide +kernel
theorem d_Spn_greatest_62 : decode prog_10_method_9_code 62 = .ok (.iinc 4 (1), 3) := by decide +kernel
theorem d_Spn_greatest_65 : decode prog_10_method_9_code 65 = .ok (.goto (-53), 3) := by decide +kernel
theorem d_Spn_greatest_68 : decode prog_10_method_9_code 68 = .ok (.iload_n 3, 1) := by decide +kernel
theorem d_Spn_greatest_69 : decode prog_10_method_9_code 69 = .ok (.ireturn, 1) := by decide +kernel
theorem d_Trk_init_0 : decode prog_11_method_1_code 0 = .ok (.aload_n 0, 1) := by decide +kernel
theorem d_Trk_init_1 : decode prog_11_method_1_code 1 = .ok (.invokespecial 3, 3) := by decide +kernel
theorem d_Trk_init_4 : decode prog_11_method_1_code 4 = .ok (.aload_n 0, 1) := by decide +kernel
theorem d_Trk_init_5 : decode prog_11_method_1_code 5 = .ok (.new 9, 3) := by decide +kernel
theorem d_Trk_init_8 : decode prog_11_method_1_code 8 = .ok (.dup, 1) := by decide +kernel
theorem d_Trk_init_9 : decode prog_11_method_1_code 9 = .ok (.invokespecial 11, 3) := by decide +kernel
theorem d_Trk_init_12 : decode prog_11_method_1_code 12 = .ok (.putfield 12, 3) := by decide +kernel
theorem d_Trk_init_15 : decode prog_11_method_1_code 15 = .ok (.aload_n 0, 1) := by decide +kernel
theorem d_Trk_init_16 : decode prog_11_method_1_code 16 = .ok (.new 9, 3) := by decide +kernel
theorem d_Trk_init_19 : decode prog_11_method_1_code 19 = .ok (.dup, 1) := by decide +kernel
theorem d_Trk_init_20 : decode prog_11_method_1_code 20 = .ok (.invokespecial 11, 3) := by decide +kernel
theorem d_Trk_init_23 : decode prog_11_method_1_code 23 = .ok (.putfield 18, 3) := by decide +kernel
theorem d_Trk_init_26 : decode prog_11_method_1_code 26 = .ok (.aload_n 0, 1) := by decide +kernel
theorem d_Trk_init_27 : decode prog_11_method_1_code 27 = .ok (.new 21, 3) := by decide +kernel
theorem d_Trk_init_30 : decode prog_11_method_1_code 30 = .ok (.dup, 1) := by decide +kernel
theorem d_Trk_init_31 : decode prog_11_method_1_code 31 = .ok (.invokespecial 23, 3) := by decide +kernel
theorem d_Trk_init_34 : decode prog_11_method_1_code 34 = .ok (.putfield 24, 3) := by decide +kernel
theorem d_Trk_init_37 : decode prog_11_method_1_code 37 = .ok (.aload_n 0, 1) := by decide +kernel
theorem d_Trk_init_38 : decode prog_11_method_1_code 38 = .ok (.new 28, 3) := by decide +kernel
theorem d_Trk_init_41 : decode prog_11_method_1_code 41 = .ok (.dup, 1) := by decide +kernel
theorem d_Trk_init_42 : decode prog_11_method_1_code 42 = .ok (.invokespecial 30, 3) := by decide +kernel
theorem d_Trk_init_45 : decode prog_11_method_1_code 45 = .ok (.putfield 31, 3) := by decide +kernel
theorem d_Trk_init_48 : decode prog_11_method_1_code 48 = .ok (.aload_n 0, 1) := by decide +kernel
theorem d_Trk_init_49 : decode prog_11_method_1_code 49 = .ok (.iconst 2, 1) := by decide +kernel
theorem d_Trk_init_50 : decode prog_11_method_1_code 50 = .ok (.putfield 35, 3) := by decide +kernel
theorem d_Trk_init_53 : decode prog_11_method_1_code 53 = .ok (.return_, 1) := by decide +kernel
theorem d_Trk_forget_0 : decode prog_11_method_2_code 0 = .ok (.aload_n 0, 1) := by decide +kernel
theorem d_Trk_forget_1 : decode prog_11_method_2_code 1 = .ok (.iconst 0, 1) := by decide +kernel
theorem d_Trk_forget_2 : decode prog_11_method_2_code 2 = .ok (.putfield 39, 3) := by decide +kernel
theorem d_Trk_forget_5 : decode prog_11_method_2_code 5 = .ok (.aload_n 0, 1) := by decide +kernel
theorem d_Trk_forget_6 : decode prog_11_method_2_code 6 = .ok (.getfield 12, 3) := by decide +kernel
theorem d_Trk_forget_9 : decode prog_11_method_2_code 9 = .ok (.invokevirtual 43, 3) := by decide +kernel
theorem d_Trk_forget_12 : decode prog_11_method_2_code 12 = .ok (.aload_n 0, 1) := by decide +kernel
theorem d_Trk_forget_13 : decode prog_11_method_2_code 13 = .ok (.getfield 18, 3) := by decide +kernel
theorem d_Trk_forget_16 : decode prog_11_method_2_code 16 = .ok (.invokevirtual 43, 3) := by decide +kernel
theorem d_Trk_forget_19 : decode prog_11_method_2_code 19 = .ok (.aload_n 0, 1) := by decide +kernel
theorem d_Trk_forget_20 : decode prog_11_method_2_code 20 = .ok (.getfield 31, 3) := by decide +kernel
theorem d_Trk_forget_23 : decode prog_11_method_2_code 23 = .ok (.invokevirtual 46, 3) := by decide +kernel
theorem d_Trk_forget_26 : decode prog_11_method_2_code 26 = .ok (.return_, 1) := by decide +kernel
theorem d_Trk_leastLimit_0 : decode prog_11_method_3_code 0 = .ok (.aload_n 0, 1) := by decide +kernel
theorem d_Trk_leastLimit_1 : decode prog_11_method_3_code 1 = .ok (.getfield 12, 3) := by decide +kernel
theorem d_Trk_leastLimit_4 : decode prog_11_method_3_code 4 = .ok (.iload_n 1, 1) := by decide +kernel
theorem d_Trk_leastLimit_5 : decode prog_11_method_3_code 5 = .ok (.iload_n 2, 1) := by decide +kernel
theorem d_Trk_leastLimit_6 : decode prog_11_method_3_code 6 = .ok (.invokevirtual 47, 3) := by decide +kernel
theorem d_Trk_leastLimit_9 : decode prog_11_method_3_code 9 = .ok (.aload_n 0, 1) := by decide +kernel
theorem d_Trk_leastLimit_10 : decode prog_11_method_3_code 10 = .ok (.getfield 24, 3) := by decide +kernel
theorem d_Trk_leastLimit_13 : decode prog_11_method_3_code 13 = .ok (.getfield 51, 3) := by decide +kernel
theorem d_Trk_leastLimit_16 : decode prog_11_method_3_code 16 = .ok (.iload_n 1, 1) := by decide +kernel
theorem d_Trk_leastLimit_17 : decode prog_11_method_3_code 17 = .ok (.iload_n 2, 1) := by decide +kernel
theorem d_Trk_leastLimit_18 : decode prog_11_method_3_code 18 = .ok (.invokevirtual 47, 3) := by decide +kernel
theorem d_Trk_leastLimit_21 : decode prog_11_method_3_code 21 = .ok (.invokestatic 54, 3) := by decide +kernel
theorem d_Trk_leastLimit_24 : decode prog_11_method_3_code 24 = .ok (.ireturn, 1) := by decide +kernel
theorem d_Trk_put_0 : decode prog_11_method_4_code 0 = .ok (.aload_n 1, 1) := by decide +kernel
theorem d_Trk_put_1 : decode prog_11_method_4_code 1 = .ok (.getfield 59, 3) := by decide +kernel
theorem d_Trk_put_4 : decode prog_11_method_4_code 4 = .ok (.iconst 5, 1) := by decide +kernel
theorem d_Trk_put_5 : decode prog_11_method_4_code 5 = .ok (.baload, 1) := by decide +kernel
theorem d_Trk_put_6 : decode prog_11_method_4_code 6 = .ok (.ifCond .eq (14), 3) := by decide +kernel
theorem d_Trk_put_9 : decode prog_11_method_4_code 9 = .ok (.aload_n 0, 1) := by decide +kernel
theorem d_Trk_put_10 : decode prog_11_method_4_code 10 = .ok (.getfield 24, 3) := by decide +kernel
theorem d_Trk_put_13 : decode prog_11_method_4_code 13 = .ok (.aload_n 1, 1) := by decide +kernel
theorem d_Trk_put_14 : decode prog_11_method_4_code 14 = .ok (.getfield 65, 3) := by decide +kernel
theorem d_Trk_put_17 : decode prog_11_method_4_code 17 = .ok (.invokevirtual 68, 3) := by decide +kernel
theorem d_Trk_put_20 : decode prog_11_method_4_code 20 = .ok (.aload_n 1, 1) := by decide +kernel
theorem d_Trk_put_21 : decode prog_11_method_4_code 21 = .ok (.getfield 59, 3) := by decide +kernel
theorem d_Trk_put_24 : decode prog_11_method_4_code 24 = .ok (.iconst 4, 1) := by decide +kernel
theorem d_Trk_put_25 : decode prog_11_method_4_code 25 = .ok (.baload, 1) := by decide +kernel
theorem d_Trk_put_26 : decode prog_11_method_4_code 26 = .ok (.ifCond .eq (26), 3) := by decide +kernel
theorem d_Trk_put_29 : decode prog_11_method_4_code 29 = .ok (.aload_n 0, 1) := by decide +kernel
theorem d_Trk_put_30 : decode prog_11_method_4_code 30 = .ok (.getfield 24, 3) := by decide +kernel
theorem d_Trk_put_33 : decode prog_11_method_4_code 33 = .ok (.aload_n 1, 1) := by decide +kernel
theorem d_Trk_put_34 : decode prog_11_method_4_code 34 = .ok (.getfield 72, 3) := by decide +kernel
theorem d_Trk_put_37 : decode prog_11_method_4_code 37 = .ok (.aload_n 1, 1) := by decide +kernel
theorem d_Trk_put_38 : decode prog_11_method_4_code 38 = .ok (.getfield 75, 3) := by decide +kernel
theorem d_Trk_put_41 : decode prog_11_method_4_code 41 = .ok (.aload_n 1, 1) := by decide +kernel
theorem d_Trk_put_42 : decode prog_11_method_4_code 42 = .ok (.getfield 78, 3) := by decide +kernel
theorem d_Trk_put_45 : decode prog_11_method_4_code 45 = .ok (.aload_n 1, 1) := by decide +kernel
theorem d_Trk_put_46 : decode prog_11_method_4_code 46 = .ok (.getfield 81, 3) := by decide +kernel
theorem d_Trk_put_49 : decode prog_11_method_4_code 49 = .ok (.invokevirtual 84, 3) := by decide +kernel
theorem d_Trk_put_52 : decode prog_11_method_4_code 52 = .ok (.aload_n 1, 1) := by decide +kernel
theorem d_Trk_put_53 : decode prog_11_method_4_code 53 = .ok (.getfield 59, 3) := by decide +kernel
theorem d_Trk_put_56 : decode prog_11_method_4_code 56 = .ok (.iconst 1, 1) := by decide +kernel
theorem d_Trk_put_57 : decode prog_11_method_4_code 57 = .ok (.baload, 1) := by decide +kernel
theorem d_Trk_put_58 : decode prog_11_method_4_code 58 = .ok (.ifCond .eq (32), 3) := by decide +kernel
theorem d_Trk_put_61 : decode prog_11_method_4_code 61 = .ok (.aload_n 0, 1) := by decide +kernel
theorem d_Trk_put_62 : decode prog_11_method_4_code 62 = .ok (.iconst 1, 1) := by decide +kernel
theorem d_Trk_put_63 : decode prog_11_method_4_code 63 = .ok (.putfield 39, 3) := by decide +kernel
theorem d_Trk_put_66 : decode prog_11_method_4_code 66 = .ok (.aload_n 0, 1) := by decide +kernel
theorem d_Trk_put_67 : decode prog_11_method_4_code 67 = .ok (.aload_n 1, 1) := by decide +kernel
theorem d_Trk_put_68 : decode prog_11_method_4_code 68 = .ok (.getfield 88, 3) := by decide +kernel
theorem d_Trk_put_71 : decode prog_11_method_4_code 71 = .ok (.putfield 91, 3) := by decide +kernel
theorem d_Trk_put_74 : decode prog_11_method_4_code 74 = .ok (.aload_n 0, 1) := by decide +kernel
theorem d_Trk_put_75 : decode prog_11_method_4_code 75 = .ok (.aload_n 1, 1) := by decide +kernel
theorem d_Trk_put_76 : decode prog_11_method_4_code 76 = .ok (.getfield 92, 3) := by decide +kernel
theorem d_Trk_put_79 : decode prog_11_method_4_code 79 = .ok (.putfield 95, 3) := by decide +kernel
theorem d_Trk_put_82 : decode prog_11_method_4_code 82 = .ok (.aload_n 0, 1) := by decide +kernel
theorem d_Trk_put_83 : decode prog_11_method_4_code 83 = .ok (.aload_n 1, 1) := by decide +kernel
theorem d_Trk_put_84 : decode prog_11_method_4_code 84 = .ok (.getfield 96, 3) := by decide +kernel
theorem d_Trk_put_87 : decode prog_11_method_4_code 87 = .ok (.putfield 35, 3) := by decide +kernel
theorem d_Trk_put_90 : decode prog_11_method_4_code 90 = .ok (.aload_n 1, 1) := by decide +kernel
theorem d_Trk_put_91 : decode prog_11_method_4_code 91 = .ok (.getfield 59, 3) := by decide +kernel
theorem d_Trk_put_94 : decode prog_11_method_4_code 94 = .ok (.iconst 3, 1) := by decide +kernel
theorem d_Trk_put_95 : decode prog_11_method_4_code 95 = .ok (.baload, 1) := by decide +kernel
theorem d_Trk_put_96 : decode prog_11_method_4_code 96 = .ok (.ifCond .eq (14), 3) := by decide +kernel
theorem d_Trk_put_99 : decode prog_11_method_4_code 99 = .ok (.aload_n 0, 1) := by decide +kernel
theorem d_Trk_put_100 : decode prog_11_method_4_code 100 = .ok (.getfield 12, 3) := by decide +kernel
theorem d_Trk_put_103 : decode prog_11_method_4_code 103 = .ok (.aload_n 1, 1) := by decide +kernel
theorem d_Trk_put_104 : decode prog_11_method_4_code 104 = .ok (.getfield 97, 3) := by decide +kernel
theorem d_Trk_put_107 : decode prog_11_method_4_code 107 = .ok (.invokevirtual 98, 3) := by decide +kernel
theorem d_Trk_put_110 : decode prog_11_method_4_code 110 = .ok (.aload_n 1, 1) := by decide +kernel
theorem d_Trk_put_111 : decode prog_11_method_4_code 111 = .ok (.getfield 59, 3) := by decide +kernel
theorem d_Trk_put_114 : decode prog_11_method_4_code 114 = .ok (.iconst 2, 1) := by decide +kernel
theorem d_Trk_put_115 : decode prog_11_method_4_code 115 = .ok (.baload, 1) := by decide +kernel
theorem d_Trk_put_116 : decode prog_11_method_4_code 116 = .ok (.ifCond .eq (14), 3) := by decide +kernel
theorem d_Trk_put_119 : decode prog_11_method_4_code 119 = .ok (.aload_n 0, 1) := by decide +kernel
theorem d_Trk_put_120 : decode prog_11_method_4_code 120 = .ok (.getfield 18, 3) := by decide +kernel
theorem d_Trk_put_123 : decode prog_11_method_4_code 123 = .ok (.aload_n 1, 1) := by decide +kernel
theorem d_Trk_put_124 : decode prog_11_method_4_code 124 = .ok (.getfield 102, 3) := by decide +kernel
theorem d_Trk_put_127 : decode prog_11_method_4_code 127 = .ok (.invokevirtual 98, 3) := by decide +kernel
theorem d_Trk_put_130 : decode prog_11_method_4_code 130 = .ok (.aload_n 1, 1) := by decide +kernel
theorem d_Trk_put_131 : decode prog_11_method_4_code 131 = .ok (.getfield 59, 3) := by decide +kernel
theorem d_Trk_put_134 : decode prog_11_method_4_code 134 = .ok (.iconst 0, 1) := by decide +kernel
theorem d_Trk_put_135 : decode prog_11_method_4_code 135 = .ok (.baload, 1) := by decide +kernel
theorem d_Trk_put_136 : decode prog_11_method_4_code 136 = .ok (.ifCond .eq (23), 3) := by decide +kernel
theorem d_Trk_put_139 : decode prog_11_method_4_code 139 = .ok (.aload_n 0, 1) := by decide +kernel
theorem d_Trk_put_140 : decode prog_11_method_4_code 140 = .ok (.getfield 31, 3) := by decide +kernel
theorem d_Trk_put_143 : decode prog_11_method_4_code 143 = .ok (.aload_n 1, 1) := by decide +kernel
theorem d_Trk_put_144 : decode prog_11_method_4_code 144 = .ok (.getfield 103, 3) := by decide +kernel
theorem d_Trk_put_147 : decode prog_11_method_4_code 147 = .ok (.invokevirtual 104, 3) := by decide +kernel
theorem d_Trk_put_150 : decode prog_11_method_4_code 150 = .ok (.aload_n 0, 1) := by decide +kernel
theorem d_Trk_put_151 : decode prog_11_method_4_code 151 = .ok (.getfield 31, 3) := by decide +kernel
theorem d_Trk_put_154 : decode prog_11_method_4_code 154 = .ok (.iload_n 2, 1) := by decide +kernel
theorem d_Trk_put_155 : decode prog_11_method_4_code 155 = .ok (.invokevirtual 107, 3) := by decide +kernel
theorem d_Trk_put_158 : decode prog_11_method_4_code 158 = .ok (.pop, 1) := by decide +kernel
theorem d_Trk_put_159 : decode prog_11_method_4_code 159 = .ok (.return_, 1) := by decide +kernel
theorem d_Law_cell_0 : decode method_2_code 0 = .ok (.iload_n 1, 1) := by decide +kernel
theorem d_Law_cell_1 : decode method_2_code 1 = .ok (.aload_n 0, 1) := by decide +kernel
theorem d_Law_cell_2 : decode method_2_code 2 = .ok (.arraylength, 1) := by decide +kernel
theorem d_Law_cell_3 : decode method_2_code 3 = .ok (.if_icmp .ge (9), 3) := by decide +kernel
theorem d_Law_cell_6 : decode method_2_code 6 = .ok (.aload_n 0, 1) := by decide +kernel
theorem d_Law_cell_7 : decode method_2_code 7 = .ok (.iload_n 1, 1) := by decide +kernel
theorem d_Law_cell_8 : decode method_2_code 8 = .ok (.iaload, 1) := by decide +kernel
theorem d_Law_cell_9 : decode method_2_code 9 = .ok (.goto (4), 3) := by decide +kernel
theorem d_Law_cell_12 : decode method_2_code 12 = .ok (.iconst 0, 1) := by decide +kernel
theorem d_Law_cell_13 : decode method_2_code 13 = .ok (.ireturn, 1) := by decide +kernel
