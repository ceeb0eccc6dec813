theorem d_Bit_take_0 : decode prog_2_method_8_code 0 = .ok (.aload_n 0, 1) := by decide +kernel
theorem d_Bit_take_1 : decode prog_2_method_8_code 1 = .ok (.getfield 22, 3) := by decide +kernel
theorem d_Bit_take_4 : decode prog_2_method_8_code 4 = .ok (.ifCond .ne (21), 3) := by decide +kernel
theorem d_Bit_take_7 : decode prog_2_method_8_code 7 = .ok (.iload_n 1, 1) := by decide +kernel
theorem d_Bit_take_8 : decode prog_2_method_8_code 8 = .ok (.aload_n 0, 1) := by decide +kernel
theorem d_Bit_take_9 : decode prog_2_method_8_code 9 = .ok (.getfield 15, 3) := by decide +kernel
theorem d_Bit_take_12 : decode prog_2_method_8_code 12 = .ok (.aload_n 0, 1) := by decide +kernel
theorem d_Bit_take_13 : decode prog_2_method_8_code 13 = .ok (.getfield 19, 3) := by decide +kernel
theorem d_Bit_take_16 : decode prog_2_method_8_code 16 = .ok (.isub, 1) := by decide +kernel
theorem d_Bit_take_17 : decode prog_2_method_8_code 17 = .ok (.if_icmp .le (8), 3) := by decide +kernel
theorem d_Bit_take_20 : decode prog_2_method_8_code 20 = .ok (.aload_n 0, 1) := by decide +kernel
theorem d_Bit_take_21 : decode prog_2_method_8_code 21 = .ok (.iconst 2, 1) := by decide +kernel
theorem d_Bit_take_22 : decode prog_2_method_8_code 22 = .ok (.putfield 22, 3) := by decide +kernel
theorem d_Bit_take_25 : decode prog_2_method_8_code 25 = .ok (.aload_n 0, 1) := by decide +kernel
theorem d_Bit_take_26 : decode prog_2_method_8_code 26 = .ok (.getfield 22, 3) := by decide +kernel
theorem d_Bit_take_29 : decode prog_2_method_8_code 29 = .ok (.ifCond .eq (5), 3) := by decide +kernel
theorem d_Bit_take_32 : decode prog_2_method_8_code 32 = .ok (.iconst 0, 1) := by decide +kernel
theorem d_Bit_take_33 : decode prog_2_method_8_code 33 = .ok (.ireturn, 1) := by decide +kernel
theorem d_Bit_take_34 : decode prog_2_method_8_code 34 = .ok (.iconst 0, 1) := by decide +kernel
theorem d_Bit_take_35 : decode prog_2_method_8_code 35 = .ok (.istore_n 2, 1) := by decide +kernel
theorem d_Bit_take_36 : decode prog_2_method_8_code 36 = .ok (.iconst 0, 1) := by decide +kernel
theorem d_Bit_take_37 : decode prog_2_method_8_code 37 = .ok (.istore_n 3, 1) := by decide +kernel
theorem d_Bit_take_38 : decode prog_2_method_8_code 38 = .ok (.iload_n 3, 1) := by decide +kernel
theorem d_Bit_take_39 : decode prog_2_method_8_code 39 = .ok (.iload_n 1, 1) := by decide +kernel
theorem d_Bit_take_40 : decode prog_2_method_8_code 40 = .ok (.if_icmp .ge (33), 3) := by decide +kernel
theorem d_Bit_take_43 : decode prog_2_method_8_code 43 = .ok (.iconst 2, 1) := by decide +kernel
theorem d_Bit_take_44 : decode prog_2_method_8_code 44 = .ok (.iload_n 2, 1) := by decide +kernel
theorem d_Bit_take_45 : decode prog_2_method_8_code 45 = .ok (.imul, 1) := by decide +kernel
theorem d_Bit_take_46 : decode prog_2_method_8_code 46 = .ok (.aload_n 0, 1) := by decide +kernel
theorem d_Bit_take_47 : decode prog_2_method_8_code 47 = .ok (.getfield 9, 3) := by decide +kernel
theorem d_Bit_take_50 : decode prog_2_method_8_code 50 = .ok (.aload_n 0, 1) := by decide +kernel
theorem d_Bit_take_51 : decode prog_2_method_8_code 51 = .ok (.getfield 19, 3) := by decide +kernel
theorem d_Bit_take_54 : decode prog_2_method_8_code 54 = .ok (.baload, 1) := by decide +kernel
theorem d_Bit_take_55 : decode prog_2_method_8_code 55 = .ok (.iadd, 1) := by decide +kernel
theorem d_Bit_take_56 : decode prog_2_method_8_code 56 = .ok (.istore_n 2, 1) := by decide +kernel
theorem d_Bit_take_57 : decode prog_2_method_8_code 57 = .ok (.aload_n 0, 1) := by decide +kernel
theorem d_Bit_take_58 : decode prog_2_method_8_code 58 = .ok (.dup, 1) := by decide +kernel
theorem d_Bit_take_59 : decode prog_2_method_8_code 59 = .ok (.getfield 19, 3) := by decide +kernel
theorem d_Bit_take_62 : decode prog_2_method_8_code 62 = .ok (.iconst 1, 1) := by decide +kernel
theorem d_Bit_take_63 : decode prog_2_method_8_code 63 = .ok (.iadd, 1) := by decide +kernel
theorem d_Bit_take_64 : decode prog_2_method_8_code 64 = .ok (.putfield 19, 3) := by decide +kernel
theorem d_Bit_take_67 : decode prog_2_method_8_code 67 = .ok (.iinc 3 (1), 3) := by decide +kernel
theorem d_Bit_take_70 : decode prog_2_method_8_code 70 = .ok (.goto (-32), 3) := by decide +kernel
theorem d_Bit_take_73 : decode prog_2_method_8_code 73 = .ok (.iload_n 2, 1) := by decide +kernel
theorem d_Bit_take_74 : decode prog_2_method_8_code 74 = .ok (.ireturn, 1) := by decide +kernel
theorem d_Brk_init_0 : decode prog_3_method_1_code 0 = .ok (.aload_n 0, 1) := by decide +kernel
theorem d_Brk_init_1 : decode prog_3_method_1_code 1 = .ok (.invokespecial 3, 3) := by decide +kernel
theorem d_Brk_init_4 : decode prog_3_method_1_code 4 = .ok (.return_, 1) := by decide +kernel
theorem d_Brk_apply_0 : decode prog_3_method_2_code 0 = .ok (.iload_n 1, 1) := by decide +kernel
theorem d_Brk_apply_1 : decode prog_3_method_2_code 1 = .ok (.iconst 4, 1) := by decide +kernel
theorem d_Brk_apply_2 : decode prog_3_method_2_code 2 = .ok (.if_icmp .lt (11), 3) := by decide +kernel
theorem d_Brk_apply_5 : decode prog_3_method_2_code 5 = .ok (.aload_n 0, 1) := by decide +kernel
theorem d_Brk_apply_6 : decode prog_3_method_2_code 6 = .ok (.iconst 1, 1) := by decide +kernel
theorem d_Brk_apply_7 : decode prog_3_method_2_code 7 = .ok (.putfield 9, 3) := by decide +kernel
theorem d_Brk_apply_10 : decode prog_3_method_2_code 10 = .ok (.goto (12), 3) := by decide +kernel
theorem d_Brk_apply_13 : decode prog_3_method_2_code 13 = .ok (.iload_n 2, 1) := by decide +kernel
theorem d_Brk_apply_14 : decode prog_3_method_2_code 14 = .ok (.ifCond .eq (8), 3) := by decide +kernel
theorem d_Brk_apply_17 : decode prog_3_method_2_code 17 = .ok (.aload_n 0, 1) := by decide +kernel
theorem d_Brk_apply_18 : decode prog_3_method_2_code 18 = .ok (.iconst 0, 1) := by decide +kernel
theorem d_Brk_apply_19 : decode prog_3_method_2_code 19 = .ok (.putfield 9, 3) := by decide +kernel
theorem d_Brk_apply_22 : decode prog_3_method_2_code 22 = .ok (.iload_n 1, 1) := by decide +kernel
theorem d_Brk_apply_23 : decode prog_3_method_2_code 23 = .ok (.iconst 3, 1) := by decide +kernel
theorem d_Brk_apply_24 : decode prog_3_method_2_code 24 = .ok (.if_icmp .lt (11), 3) := by decide +kernel
theorem d_Brk_apply_27 : decode prog_3_method_2_code 27 = .ok (.aload_n 0, 1) := by decide +kernel
theorem d_Brk_apply_28 : decode prog_3_method_2_code 28 = .ok (.iconst 1, 1) := by decide +kernel
theorem d_Brk_apply_29 : decode prog_3_method_2_code 29 = .ok (.putfield 15, 3) := by decide +kernel
theorem d_Brk_apply_32 : decode prog_3_method_2_code 32 = .ok (.goto (16), 3) := by decide +kernel
theorem d_Brk_apply_35 : decode prog_3_method_2_code 35 = .ok (.iload_n 2, 1) := by decide +kernel
theorem d_Brk_apply_36 : decode prog_3_method_2_code 36 = .ok (.ifCond .ne (7), 3) := by decide +kernel
theorem d_Brk_apply_39 : decode prog_3_method_2_code 39 = .ok (.iload_n 1, 1) := by decide +kernel
theorem d_Brk_apply_40 : decode prog_3_method_2_code 40 = .ok (.ifCond .ne (8), 3) := by decide +kernel
theorem d_Brk_apply_43 : decode prog_3_method_2_code 43 = .ok (.aload_n 0, 1) := by decide +kernel
theorem d_Brk_apply_44 : decode prog_3_method_2_code 44 = .ok (.iconst 0, 1) := by decide +kernel
theorem d_Brk_apply_45 : decode prog_3_method_2_code 45 = .ok (.putfield 15, 3) := by decide +kernel
theorem d_Brk_apply_48 : decode prog_3_method_2_code 48 = .ok (.aload_n 0, 1) := by decide +kernel
theorem d_Brk_apply_49 : decode prog_3_method_2_code 49 = .ok (.getfield 18, 3) := by decide +kernel
theorem d_Brk_apply_52 : decode prog_3_method_2_code 52 = .ok (.istore 4, 2) := by decide +kernel
theorem d_Brk_apply_54 : decode prog_3_method_2_code 54 = .ok (.aload_n 0, 1) := by decide +kernel
theorem d_Brk_apply_55 : decode prog_3_method_2_code 55 = .ok (.aload_n 0, 1) := by decide +kernel
theorem d_Brk_apply_56 : decode prog_3_method_2_code 56 = .ok (.getfield 9, 3) := by decide +kernel
theorem d_Brk_apply_59 : decode prog_3_method_2_code 59 = .ok (.ifCond .eq (7), 3) := by decide +kernel
theorem d_Brk_apply_62 : decode prog_3_method_2_code 62 = .ok (.iconst 2, 1) := by decide +kernel
theorem d_Brk_apply_63 : decode prog_3_method_2_code 63 = .ok (.goto (19), 3) := by decide +kernel
theorem d_Brk_apply_66 : decode prog_3_method_2_code 66 = .ok (.aload_n 0, 1) := by decide +kernel
theorem d_Brk_apply_67 : decode prog_3_method_2_code 67 = .ok (.getfield 15, 3) := by decide +kernel
theorem d_Brk_apply_70 : decode prog_3_method_2_code 70 = .ok (.ifCond .ne (7), 3) := by decide +kernel
theorem d_Brk_apply_73 : decode prog_3_method_2_code 73 = .ok (.iload_n 3, 1) := by decide +kernel
theorem d_Brk_apply_74 : decode prog_3_method_2_code 74 = .ok (.ifCond .eq (7), 3) := by decide +kernel
theorem d_Brk_apply_77 : decode prog_3_method_2_code 77 = .ok (.iconst 1, 1) := by decide +kernel
theorem d_Brk_apply_78 : decode prog_3_method_2_code 78 = .ok (.goto (4), 3) := by decide +kernel
theorem d_Brk_apply_81 : decode prog_3_method_2_code 81 = .ok (.iconst 0, 1) := by decide +kernel
theorem d_Brk_apply_82 : decode prog_3_method_2_code 82 = .ok (.putfield 18, 3) := by decide +kernel
theorem d_Brk_apply_85 : decode prog_3_method_2_code 85 = .ok (.aload_n 0, 1) := by decide +kernel
theorem d_Brk_apply_86 : decode prog_3_method_2_code 86 = .ok (.getfield 18, 3) := by decide +kernel
theorem d_Brk_apply_89 : decode prog_3_method_2_code 89 = .ok (.iload 4, 2) := by decide +kernel
theorem d_Brk_apply_91 : decode prog_3_method_2_code 91 = .ok (.if_icmp .eq (7), 3) := by decide +kernel
theorem d_Brk_apply_94 : decode prog_3_method_2_code 94 = .ok (.iconst 1, 1) := by decide +kernel
theorem d_Brk_apply_95 : decode prog_3_method_2_code 95 = .ok (.goto (4), 3) := by decide +kernel
theorem d_Brk_apply_98 : decode prog_3_method_2_code 98 = .ok (.iconst 0, 1) := by decide +kernel
theorem d_Brk_apply_99 : decode prog_3_method_2_code 99 = .ok (.ireturn, 1) := by decide +kernel
theorem d_Cur_init_0 : decode prog_4_method_1_code 0 = .ok (.aload_n 0, 1) := by decide +kernel
theorem d_Cur_init_1 : decode prog_4_method_1_code 1 = .ok (.invokespecial 3, 3) := by decide +kernel
theorem d_Cur_init_4 : decode prog_4_method_1_code 4 = .ok (.aload_n 0, 1) := by decide +kernel
theorem d_Cur_init_5 : decode prog_4_method_1_code 5 = .ok (.bipush (15), 2) := by decide +kernel
theorem d_Cur_init_7 : decode prog_4_method_1_code 7 = .ok (.newarray .int, 2) := by decide +kernel
theorem d_Cur_init_9 : decode prog_4_method_1_code 9 = .ok (.putfield 11, 3) := by decide +kernel
theorem d_Cur_init_12 : decode prog_4_method_1_code 12 = .ok (.aload_n 0, 1) := by decide +kernel
theorem d_Cur_init_13 : decode prog_4_method_1_code 13 = .ok (.bipush (15), 2) := by decide +kernel
theorem d_Cur_init_15 : decode prog_4_method_1_code 15 = .ok (.newarray .int, 2) := by decide +kernel
theorem d_Cur_init_17 : decode prog_4_method_1_code 17 = .ok (.putfield 15, 3) := by decide +kernel
theorem d_Cur_init_20 : decode prog_4_method_1_code 20 = .ok (.aload_n 0, 1) := by decide +kernel
theorem d_Cur_init_21 : decode prog_4_method_1_code 21 = .ok (.bipush (15), 2) := by decide +kernel
theorem d_Cur_init_23 : decode prog_4_method_1_code 23 = .ok (.newarray .int, 2) := by decide +kernel
theorem d_Cur_init_25 : decode prog_4_method_1_code 25 = .ok (.putfield 18, 3) := by decide +kernel
theorem d_Cur_init_28 : decode prog_4_method_1_code 28 = .ok (.aload_n 0, 1) := by decide +kernel
theorem d_Cur_init_29 : decode prog_4_method_1_code 29 = .ok (.iload_n 1, 1) := by decide +kernel
theorem d_Cur_init_30 : decode prog_4_method_1_code 30 = .ok (.putfield 21, 3) := by decide +kernel
theorem d_Cur_init_33 : decode prog_4_method_1_code 33 = .ok (.aload_n 0, 1) := by decide +kernel
theorem d_Cur_init_34 : decode prog_4_method_1_code 34 = .ok (.iload_n 2, 1) := by decide +kernel
theorem d_Cur_init_35 : decode prog_4_method_1_code 35 = .ok (.putfield 25, 3) := by decide +kernel
theorem d_Cur_init_38 : decode prog_4_method_1_code 38 = .ok (.return_, 1) := by decide +kernel
theorem d_Cur_begin_0 : decode prog_4_method_2_code 0 = .ok (.aload_n 0, 1) := by decide +kernel
theorem d_Cur_begin_1 : decode prog_4_method_2_code 1 = .ok (.iload_n 1, 1) := by decide +kernel
theorem d_Cur_begin_2 : decode prog_4_method_2_code 2 = .ok (.putfield 28, 3) := by decide +kernel
theorem d_Cur_begin_5 : decode prog_4_method_2_code 5 = .ok (.aload_n 0, 1) := by decide +kernel
theorem d_Cur_begin_6 : decode prog_4_method_2_code 6 = .ok (.iload_n 2, 1) := by decide +kernel
theorem d_Cur_begin_7 : decode prog_4_method_2_code 7 = .ok (.putfield 31, 3) := by decide +kernel
theorem d_Cur_begin_10 : decode prog_4_method_2_code 10 = .ok (.aload_n 0, 1) := by decide +kernel
theorem d_Cur_begin_11 : decode prog_4_method_2_code 11 = .ok (.iconst 0, 1) := by decide +kernel
theorem d_Cur_begin_12 : decode prog_4_method_2_code 12 = .ok (.putfield 34, 3) := by decide +kernel
theorem d_Cur_begin_15 : decode prog_4_method_2_code 15 = .ok (.return_, 1) := by decide +kernel
theorem d_Cur_add_0 : decode prog_4_method_3_code 0 = .ok (.aload_n 0, 1) := by decide +kernel
theorem d_Cur_add_1 : decode prog_4_method_3_code 1 = .ok (.getfield 34, 3) := by decide +kernel
theorem d_Cur_add_4 : decode prog_4_method_3_code 4 = .ok (.bipush (15), 2) := by decide +kernel
theorem d_Cur_add_6 : decode prog_4_method_3_code 6 = .ok (.if_icmp .ge (43), 3) := by decide +kernel
theorem d_Cur_add_9 : decode prog_4_method_3_code 9 = .ok (.aload_n 0, 1) := by decide +kernel
theorem d_Cur_add_10 : decode prog_4_method_3_code 10 = .ok (.getfield 11, 3) := by decide +kernel
theorem d_Cur_add_13 : decode prog_4_method_3_code 13 = .ok (.aload_n 0, 1) := by decide +kernel
theorem d_Cur_add_14 : decode prog_4_method_3_code 14 = .ok (.getfield 34, 3) := by decide +kernel
theorem d_Cur_add_17 : decode prog_4_method_3_code 17 = .ok (.iload_n 1, 1) := by decide +kernel
theorem d_Cur_add_18 : decode prog_4_method_3_code 18 = .ok (.iastore, 1) := by decide +kernel
theorem d_Cur_add_19 : decode prog_4_method_3_code 19 = .ok (.aload_n 0, 1) := by decide +kernel
theorem d_Cur_add_20 : decode prog_4_method_3_code 20 = .ok (.getfield 15, 3) := by decide +kernel
theorem d_Cur_add_23 : decode prog_4_method_3_code 23 = .ok (.aload_n 0, 1) := by decide +kernel
theorem d_Cur_add_24 : decode prog_4_method_3_code 24 = .ok (.getfield 34, 3) := by decide +kernel
theorem d_Cur_add_27 : decode prog_4_method_3_code 27 = .ok (.iload_n 2, 1) := by decide +kernel
theorem d_Cur_add_28 : decode prog_4_method_3_code 28 = .ok (.iastore, 1) := by decide +kernel
theorem d_Cur_add_29 : decode prog_4_method_3_code 29 = .ok (.aload_n 0, 1) := by decide +kernel
theorem d_Cur_add_30 : decode prog_4_method_3_code 30 = .ok (.getfield 18, 3) := by decide +kernel
theorem d_Cur_add_33 : decode prog_4_method_3_code 33 = .ok (.aload_n 0, 1) := by decide +kernel
theorem d_Cur_add_34 : decode prog_4_method_3_code 34 = .ok (.getfield 34, 3) := by decide +kernel
theorem d_Cur_add_37 : decode prog_4_method_3_code 37 = .ok (.iload_n 3, 1) := by decide +kernel
theorem d_Cur_add_38 : decode prog_4_method_3_code 38 = .ok (.iastore, 1) := by decide +kernel
theorem d_Cur_add_39 : decode prog_4_method_3_code 39 = .ok (.aload_n 0, 1) := by decide +kernel
theorem d_Cur_add_40 : decode prog_4_method_3_code 40 = .ok (.dup, 1) := by decide +kernel
theorem d_Cur_add_41 : decode prog_4_method_3_code 41 = .ok (.getfield 34, 3) := by decide +kernel
theorem d_Cur_add_44 : decode prog_4_method_3_code 44 = .ok (.iconst 1, 1) := by decide +kernel
theorem d_Cur_add_45 : decode prog_4_method_3_code 45 = .ok (.iadd, 1) := by decide +kernel
theorem d_Cur_add_46 : decode prog_4_method_3_code 46 = .ok (.putfield 34, 3) := by decide +kernel
theorem d_Cur_add_49 : decode prog_4_method_3_code 49 = .ok (.return_, 1) := by decide +kernel
theorem d_Cur_gradeOf_0 : decode prog_4_method_4_code 0 = .ok (.iload_n 1, 1) := by decide +kernel
theorem d_Cur_gradeOf_1 : decode prog_4_method_4_code 1 = .ok (.aload_n 0, 1) := by decide +kernel
theorem d_Cur_gradeOf_2 : decode prog_4_method_4_code 2 = .ok (.getfield 28, 3) := by decide +kernel
theorem d_Cur_gradeOf_5 : decode prog_4_method_4_code 5 = .ok (.bipush (8), 2) := by decide +kernel
theorem d_Cur_gradeOf_7 : decode prog_4_method_4_code 7 = .ok (.iadd, 1) := by decide +kernel
theorem d_Cur_gradeOf_8 : decode prog_4_method_4_code 8 = .ok (.if_icmp .gt (11), 3) := by decide +kernel
theorem d_Cur_gradeOf_11 : decode prog_4_method_4_code 11 = .ok (.aload_n 0, 1) := by decide +kernel
theorem d_Cur_gradeOf_12 : decode prog_4_method_4_code 12 = .ok (.iload_n 1, 1) := by decide +kernel
theorem d_Cur_gradeOf_13 : decode prog_4_method_4_code 13 = .ok (.invokevirtual 37, 3) := by decide +kernel
theorem d_Cur_gradeOf_16 : decode prog_4_method_4_code 16 = .ok (.ifCond .eq (5), 3) := by decide +kernel
theorem d_Cur_gradeOf_19 : decode prog_4_method_4_code 19 = .ok (.iconst 4, 1) := by decide +kernel
theorem d_Cur_gradeOf_20 : decode prog_4_method_4_code 20 = .ok (.ireturn, 1) := by decide +kernel
theorem d_Cur_gradeOf_21 : decode prog_4_method_4_code 21 = .ok (.iload_n 1, 1) := by decide +kernel
theorem d_Cur_gradeOf_22 : decode prog_4_method_4_code 22 = .ok (.aload_n 0, 1) := by decide +kernel
theorem d_Cur_gradeOf_23 : decode prog_4_method_4_code 23 = .ok (.getfield 28, 3) := by decide +kernel
theorem d_Cur_gradeOf_26 : decode prog_4_method_4_code 26 = .ok (.iconst 5, 1) := by decide +kernel
theorem d_Cur_gradeOf_27 : decode prog_4_method_4_code 27 = .ok (.iadd, 1) := by decide +kernel
theorem d_Cur_gradeOf_28 : decode prog_4_method_4_code 28 = .ok (.if_icmp .gt (12), 3) := by decide +kernel
theorem d_Cur_gradeOf_31 : decode prog_4_method_4_code 31 = .ok (.aload_n 0, 1) := by decide +kernel
theorem d_Cur_gradeOf_32 : decode prog_4_method_4_code 32 = .ok (.iload_n 1, 1) := by decide +kernel
theorem d_Cur_gradeOf_33 : decode prog_4_method_4_code 33 = .ok (.iconst 0, 1) := by decide +kernel
theorem d_Cur_gradeOf_34 : decode prog_4_method_4_code 34 = .ok (.invokevirtual 41, 3) := by decide +kernel
theorem d_Cur_gradeOf_37 : decode prog_4_method_4_code 37 = .ok (.ifCond .eq (5), 3) := by decide +kernel
theorem d_Cur_gradeOf_40 : decode prog_4_method_4_code 40 = .ok (.iconst 3, 1) := by decide +kernel
theorem d_Cur_gradeOf_41 : decode prog_4_method_4_code 41 = .ok (.ireturn, 1) := by decide +kernel
theorem d_Cur_gradeOf_42 : decode prog_4_method_4_code 42 = .ok (.iload_n 1, 1) := by decide +kernel
theorem d_Cur_gradeOf_43 : decode prog_4_method_4_code 43 = .ok (.aload_n 0, 1) := by decide +kernel
theorem d_Cur_gradeOf_44 : decode prog_4_method_4_code 44 = .ok (.getfield 28, 3) := by decide +kernel
theorem d_Cur_gradeOf_47 : decode prog_4_method_4_code 47 = .ok (.iconst 3, 1) := by decide +kernel
theorem d_Cur_gradeOf_48 : decode prog_4_method_4_code 48 = .ok (.iadd, 1) := by decide +kernel
theorem d_Cur_gradeOf_49 : decode prog_4_method_4_code 49 = .ok (.if_icmp .gt (12), 3) := by decide +kernel
theorem d_Cur_gradeOf_52 : decode prog_4_method_4_code 52 = .ok (.aload_n 0, 1) := by decide +kernel
theorem d_Cur_gradeOf_53 : decode prog_4_method_4_code 53 = .ok (.iload_n 1, 1) := by decide +kernel
theorem d_Cur_gradeOf_54 : decode prog_4_method_4_code 54 = .ok (.iconst 2, 1) := by decide +kernel
theorem d_Cur_gradeOf_55 : decode prog_4_method_4_code 55 = .ok (.invokevirtual 41, 3) := by decide +kernel
theorem d_Cur_gradeOf_58 : decode prog_4_method_4_code 58 = .ok (.ifCond .eq (5), 3) := by decide +kernel
theorem d_Cur_gradeOf_61 : decode prog_4_method_4_code 61 = .ok (.iconst 2, 1) := by decide +kernel
theorem d_Cur_gradeOf_62 : decode prog_4_method_4_code 62 = .ok (.ireturn, 1) := by decide +kernel
theorem d_Cur_gradeOf_63 : decode prog_4_method_4_code 63 = .ok (.iload_n 1, 1) := by decide +kernel
theorem d_Cur_gradeOf_64 : decode prog_4_method_4_code 64 = .ok (.aload_n 0, 1) := by decide +kernel
theorem d_Cur_gradeOf_65 : decode prog_4_method_4_code 65 = .ok (.getfield 28, 3) := by decide +kernel
theorem d_Cur_gradeOf_68 : decode prog_4_method_4_code 68 = .ok (.if_icmp .gt (12), 3) := by decide +kernel
theorem d_Cur_gradeOf_71 : decode prog_4_method_4_code 71 = .ok (.aload_n 0, 1) := by decide +kernel
theorem d_Cur_gradeOf_72 : decode prog_4_method_4_code 72 = .ok (.iload_n 1, 1) := by decide +kernel
theorem d_Cur_gradeOf_73 : decode prog_4_method_4_code 73 = .ok (.iconst 4, 1) := by decide +kernel
theorem d_Cur_gradeOf_74 : decode prog_4_method_4_code 74 = .ok (.invokevirtual 41, 3) := by decide +kernel
theorem d_Cur_gradeOf_77 : decode prog_4_method_4_code 77 = .ok (.ifCond .eq (7), 3) := by decide +kernel
theorem d_Cur_gradeOf_80 : decode prog_4_method_4_code 80 = .ok (.iconst 1, 1) := by decide +kernel
theorem d_Cur_gradeOf_81 : decode prog_4_method_4_code 81 = .ok (.goto (4), 3) := by decide +kernel
theorem d_Cur_gradeOf_84 : decode prog_4_method_4_code 84 = .ok (.iconst 0, 1) := by decide +kernel
theorem d_Cur_gradeOf_85 : decode prog_4_method_4_code 85 = .ok (.ireturn, 1) := by decide +kernel
theorem d_Cur_allowed_0 : decode prog_4_method_5_code 0 = .ok (.iconst 0, 1) := by decide +kernel
theorem d_Cur_allowed_1 : decode prog_4_method_5_code 1 = .ok (.istore_n 1, 1) := by decide +kernel
theorem d_Cur_allowed_2 : decode prog_4_method_5_code 2 = .ok (.iconst 1, 1) := by decide +kernel
theorem d_Cur_allowed_3 : decode prog_4_method_5_code 3 = .ok (.istore_n 2, 1) := by decide +kernel
theorem d_Cur_allowed_4 : decode prog_4_method_5_code 4 = .ok (.aload_n 0, 1) := by decide +kernel
theorem d_Cur_allowed_5 : decode prog_4_method_5_code 5 = .ok (.getfield 28, 3) := by decide +kernel
theorem d_Cur_allowed_8 : decode prog_4_method_5_code 8 = .ok (.istore_n 3, 1) := by decide +kernel
theorem d_Cur_allowed_9 : decode prog_4_method_5_code 9 = .ok (.iconst 0, 1) := by decide +kernel
theorem d_Cur_allowed_10 : decode prog_4_method_5_code 10 = .ok (.istore 4, 2) := by decide +kernel
theorem d_Cur_allowed_12 : decode prog_4_method_5_code 12 = .ok (.iload 4, 2) := by decide +kernel
theorem d_Cur_allowed_14 : decode prog_4_method_5_code 14 = .ok (.sipush (600), 3) := by decide +kernel
theorem d_Cur_allowed_17 : decode prog_4_method_5_code 17 = .ok (.if_icmp .ge (46), 3) := by decide +kernel
theorem d_Cur_allowed_20 : decode prog_4_method_5_code 20 = .ok (.iload_n 2, 1) := by decide +kernel
theorem d_Cur_allowed_21 : decode prog_4_method_5_code 21 = .ok (.iload_n 3, 1) := by decide +kernel
theorem d_Cur_allowed_22 : decode prog_4_method_5_code 22 = .ok (.if_icmp .gt (41), 3) := by decide +kernel
theorem d_Cur_allowed_25 : decode prog_4_method_5_code 25 = .ok (.iload_n 2, 1) := by decide +kernel
theorem d_Cur_allowed_26 : decode prog_4_method_5_code 26 = .ok (.iload_n 3, 1) := by decide +kernel
theorem d_Cur_allowed_27 : decode prog_4_method_5_code 27 = .ok (.iadd, 1) := by decide +kernel
theorem d_Cur_allowed_28 : decode prog_4_method_5_code 28 = .ok (.iconst 2, 1) := by decide +kernel
theorem d_Cur_allowed_29 : decode prog_4_method_5_code 29 = .ok (.idiv, 1) := by decide +kernel
theorem d_Cur_allowed_30 : decode prog_4_method_5_code 30 = .ok (.istore 5, 2) := by decide +kernel
theorem d_Cur_allowed_32 : decode prog_4_method_5_code 32 = .ok (.aload_n 0, 1) := by decide +kernel
theorem d_Cur_allowed_33 : decode prog_4_method_5_code 33 = .ok (.iload 5, 2) := by decide +kernel
theorem d_Cur_allowed_35 : decode prog_4_method_5_code 35 = .ok (.invokevirtual 45, 3) := by decide +kernel
theorem d_Cur_allowed_38 : decode prog_4_method_5_code 38 = .ok (.ifCond .ne (14), 3) := by decide +kernel
theorem d_Cur_allowed_41 : decode prog_4_method_5_code 41 = .ok (.iload 5, 2) := by decide +kernel
theorem d_Cur_allowed_43 : decode prog_4_method_5_code 43 = .ok (.istore_n 1, 1) := by decide +kernel
theorem d_Cur_allowed_44 : decode prog_4_method_5_code 44 = .ok (.iload 5, 2) := by decide +kernel
theorem d_Cur_allowed_46 : decode prog_4_method_5_code 46 = .ok (.iconst 1, 1) := by decide +kernel
theorem d_Cur_allowed_47 : decode prog_4_method_5_code 47 = .ok (.iadd, 1) := by decide +kernel
theorem d_Cur_allowed_48 : decode prog_4_method_5_code 48 = .ok (.istore_n 2, 1) := by decide +kernel
theorem d_Cur_allowed_49 : decode prog_4_method_5_code 49 = .ok (.goto (8), 3) := by decide +kernel
theorem d_Cur_allowed_52 : decode prog_4_method_5_code 52 = .ok (.iload 5, 2) := by decide +kernel
theorem d_Cur_allowed_54 : decode prog_4_method_5_code 54 = .ok (.iconst 1, 1) := by decide +kernel
theorem d_Cur_allowed_55 : decode prog_4_method_5_code 55 = .ok (.isub, 1) := by decide +kernel
theorem d_Cur_allowed_56 : decode prog_4_method_5_code 56 = .ok (.istore_n 3, 1) := by decide +kernel
theorem d_Cur_allowed_57 : decode prog_4_method_5_code 57 = .ok (.iinc 4 (1), 3) := by decide +kernel
theorem d_Cur_allowed_60 : decode prog_4_method_5_code 60 = .ok (.goto (-48), 3) := by decide +kernel
theorem d_Cur_allowed_63 : decode prog_4_method_5_code 63 = .ok (.iload_n 1, 1) := by decide +kernel
theorem d_Cur_allowed_64 : decode prog_4_method_5_code 64 = .ok (.ireturn, 1) := by decide +kernel
theorem d_Cur_isOverEmergency_0 : decode prog_4_method_6_code 0 = .ok (.iconst 1, 1) := by decide +kernel
theorem d_Cur_isOverEmergency_1 : decode prog_4_method_6_code 1 = .ok (.istore_n 2, 1) := by decide +kernel
theorem d_Cur_isOverEmergency_2 : decode prog_4_method_6_code 2 = .ok (.iload_n 2, 1) := by decide +kernel
theorem d_Cur_isOverEmergency_3 : decode prog_4_method_6_code 3 = .ok (.aload_n 0, 1) := by decide +kernel
theorem d_Cur_isOverEmergency_4 : decode prog_4_method_6_code 4 = .ok (.getfield 34, 3) := by decide +kernel
theorem d_Cur_isOverEmergency_7 : decode prog_4_method_6_code 7 = .ok (.if_icmp .ge (26), 3) := by decide +kernel
theorem d_Cur_isOverEmergency_10 : decode prog_4_method_6_code 10 = .ok (.aload_n 0, 1) := by decide +kernel
theorem d_Cur_isOverEmergency_11 : decode prog_4_method_6_code 11 = .ok (.iload_n 2, 1) := by decide +kernel
theorem d_Cur_isOverEmergency_12 : decode prog_4_method_6_code 12 = .ok (.iload_n 1, 1) := by decide +kernel
theorem d_Cur_isOverEmergency_13 : decode prog_4_method_6_code 13 = .ok (.aload_n 0, 1) := by decide +kernel
theorem d_Cur_isOverEmergency_14 : decode prog_4_method_6_code 14 = .ok (.getfield 21, 3) := by decide +kernel
theorem d_Cur_isOverEmergency_17 : decode prog_4_method_6_code 17 = .ok (.iconst 2, 1) := by decide +kernel
theorem d_Cur_isOverEmergency_18 : decode prog_4_method_6_code 18 = .ok (.iconst 0, 1) := by decide +kernel
theorem d_Cur_isOverEmergency_19 : decode prog_4_method_6_code 19 = .ok (.invokevirtual 49, 3) := by decide +kernel
theorem d_Cur_isOverEmergency_22 : decode prog_4_method_6_code 22 = .ok (.ifCond .eq (5), 3) := by decide +kernel
theorem d_Cur_isOverEmergency_25 : decode prog_4_method_6_code 25 = .ok (.iconst 1, 1) := by decide +kernel
theorem d_Cur_isOverEmergency_26 : decode prog_4_method_6_code 26 = .ok (.ireturn, 1) := by decide +kernel
theorem d_Cur_isOverEmergency_27 : decode prog_4_method_6_code 27 = .ok (.iinc 2 (1), 3) := by decide +kernel
theorem d_Cur_isOverEmergency_30 : decode prog_4_method_6_code 30 = .ok (.goto (-28), 3) := by decide +kernel
theorem d_Cur_isOverEmergency_33 : decode prog_4_method_6_code 33 = .ok (.iconst 0, 1) := by decide +kernel
theorem d_Cur_isOverEmergency_34 : decode prog_4_method_6_code 34 = .ok (.ireturn, 1) := by decide +kernel
theorem d_Cur_isOverService_0 : decode prog_4_method_7_code 0 = .ok (.iconst 0, 1) := by decide +kernel
theorem d_Cur_isOverService_1 : decode prog_4_method_7_code 1 = .ok (.istore_n 3, 1) := by decide +kernel
theorem d_Cur_isOverService_2 : decode prog_4_method_7_code 2 = .ok (.iload_n 3, 1) := by decide +kernel
theorem d_Cur_isOverService_3 : decode prog_4_method_7_code 3 = .ok (.aload_n 0, 1) := by decide +kernel
theorem d_Cur_isOverService_4 : decode prog_4_method_7_code 4 = .ok (.getfield 34, 3) := by decide +kernel
theorem d_Cur_isOverService_7 : decode prog_4_method_7_code 7 = .ok (.iconst 1, 1) := by decide +kernel
theorem d_Cur_isOverService_8 : decode prog_4_method_7_code 8 = .ok (.isub, 1) := by decide +kernel
theorem d_Cur_isOverService_9 : decode prog_4_method_7_code 9 = .ok (.if_icmp .ge (26), 3) := by decide +kernel
theorem d_Cur_isOverService_12 : decode prog_4_method_7_code 12 = .ok (.aload_n 0, 1) := by decide +kernel
theorem d_Cur_isOverService_13 : decode prog_4_method_7_code 13 = .ok (.iload_n 3, 1) := by decide +kernel
theorem d_Cur_isOverService_14 : decode prog_4_method_7_code 14 = .ok (.iload_n 1, 1) := by decide +kernel
theorem d_Cur_isOverService_15 : decode prog_4_method_7_code 15 = .ok (.aload_n 0, 1) := by decide +kernel
theorem d_Cur_isOverService_16 : decode prog_4_method_7_code 16 = .ok (.getfield 25, 3) := by decide +kernel
theorem d_Cur_isOverService_19 : decode prog_4_method_7_code 19 = .ok (.iconst 3, 1) := by decide +kernel
theorem d_Cur_isOverService_20 : decode prog_4_method_7_code 20 = .ok (.iload_n 2, 1) := by decide +kernel
theorem d_Cur_isOverService_21 : decode prog_4_method_7_code 21 = .ok (.invokevirtual 49, 3) := by decide +kernel
theorem d_Cur_isOverService_24 : decode prog_4_method_7_code 24 = .ok (.ifCond .eq (5), 3) := by decide +kernel
theorem d_Cur_isOverService_27 : decode prog_4_method_7_code 27 = .ok (.iconst 1, 1) := by decide +kernel
theorem d_Cur_isOverService_28 : decode prog_4_method_7_code 28 = .ok (.ireturn, 1) := by decide +kernel
theorem d_Cur_isOverService_29 : decode prog_4_method_7_code 29 = .ok (.iinc 3 (1), 3) := by decide +kernel
theorem d_Cur_isOverService_32 : decode prog_4_method_7_code 32 = .ok (.goto (-30), 3) := by decide +kernel
theorem d_Cur_isOverService_35 : decode prog_4_method_7_code 35 = .ok (.iconst 0, 1) := by decide +kernel
theorem d_Cur_isOverService_36 : decode prog_4_method_7_code 36 = .ok (.ireturn, 1) := by decide +kernel
theorem d_Cur_isOver_0 : decode prog_4_method_8_code 0 = .ok (.iload_n 2, 1) := by decide +kernel
theorem d_Cur_isOver_1 : decode prog_4_method_8_code 1 = .ok (.iconst 2, 1) := by decide +kernel
theorem d_Cur_isOver_2 : decode prog_4_method_8_code 2 = .ok (.iload 4, 2) := by decide +kernel
theorem d_Cur_isOver_4 : decode prog_4_method_8_code 4 = .ok (.imul, 1) := by decide +kernel
theorem d_Cur_isOver_5 : decode prog_4_method_8_code 5 = .ok (.iadd, 1) := by decide +kernel
theorem d_Cur_isOver_6 : decode prog_4_method_8_code 6 = .ok (.istore 6, 2) := by decide +kernel
theorem d_Cur_isOver_8 : decode prog_4_method_8_code 8 = .ok (.iload 6, 2) := by decide +kernel
theorem d_Cur_isOver_10 : decode prog_4_method_8_code 10 = .ok (.aload_n 0, 1) := by decide +kernel
theorem d_Cur_isOver_11 : decode prog_4_method_8_code 11 = .ok (.getfield 15, 3) := by decide +kernel
theorem d_Cur_isOver_14 : decode prog_4_method_8_code 14 = .ok (.iload_n 1, 1) := by decide +kernel
theorem d_Cur_isOver_15 : decode prog_4_method_8_code 15 = .ok (.iaload, 1) := by decide +kernel
theorem d_Cur_isOver_16 : decode prog_4_method_8_code 16 = .ok (.if_icmp .gt (5), 3) := by decide +kernel
theorem d_Cur_isOver_19 : decode prog_4_method_8_code 19 = .ok (.iconst 0, 1) := by decide +kernel
theorem d_Cur_isOver_20 : decode prog_4_method_8_code 20 = .ok (.ireturn, 1) := by decide +kernel
theorem d_Cur_isOver_21 : decode prog_4_method_8_code 21 = .ok (.iload 4, 2) := by decide +kernel
theorem d_Cur_isOver_23 : decode prog_4_method_8_code 23 = .ok (.iload_n 2, 1) := by decide +kernel
theorem d_Cur_isOver_24 : decode prog_4_method_8_code 24 = .ok (.imul, 1) := by decide +kernel
theorem d_Cur_isOver_25 : decode prog_4_method_8_code 25 = .ok (.iload 4, 2) := by decide +kernel
theorem d_Cur_isOver_27 : decode prog_4_method_8_code 27 = .ok (.iload 4, 2) := by decide +kernel
theorem d_Cur_isOver_29 : decode prog_4_method_8_code 29 = .ok (.iconst 1, 1) := by decide +kernel
theorem d_Cur_isOver_30 : decode prog_4_method_8_code 30 = .ok (.iadd, 1) := by decide +kernel
theorem d_Cur_isOver_31 : decode prog_4_method_8_code 31 = .ok (.imul, 1) := by decide +kernel
theorem d_Cur_isOver_32 : decode prog_4_method_8_code 32 = .ok (.iadd, 1) := by decide +kernel
theorem d_Cur_isOver_33 : decode prog_4_method_8_code 33 = .ok (.istore 7, 2) := by decide +kernel
theorem d_Cur_isOver_35 : decode prog_4_method_8_code 35 = .ok (.iload_n 3, 1) := by decide +kernel
theorem d_Cur_isOver_36 : decode prog_4_method_8_code 36 = .ok (.aload_n 0, 1) := by decide +kernel
theorem d_Cur_isOver_37 : decode prog_4_method_8_code 37 = .ok (.getfield 18, 3) := by decide +kernel
theorem d_Cur_isOver_40 : decode prog_4_method_8_code 40 = .ok (.iload_n 1, 1) := by decide +kernel
theorem d_Cur_isOver_41 : decode prog_4_method_8_code 41 = .ok (.iaload, 1) := by decide +kernel
theorem d_Cur_isOver_42 : decode prog_4_method_8_code 42 = .ok (.isub, 1) := by decide +kernel
theorem d_Cur_isOver_43 : decode prog_4_method_8_code 43 = .ok (.istore 8, 2) := by decide +kernel
theorem d_Cur_isOver_45 : decode prog_4_method_8_code 45 = .ok (.aload_n 0, 1) := by decide +kernel
theorem d_Cur_isOver_46 : decode prog_4_method_8_code 46 = .ok (.getfield 31, 3) := by decide +kernel
theorem d_Cur_isOver_49 : decode prog_4_method_8_code 49 = .ok (.iload 7, 2) := by decide +kernel
theorem d_Cur_isOver_51 : decode prog_4_method_8_code 51 = .ok (.iadd, 1) := by decide +kernel
theorem d_Cur_isOver_52 : decode prog_4_method_8_code 52 = .ok (.iload 5, 2) := by decide +kernel
theorem d_Cur_isOver_54 : decode prog_4_method_8_code 54 = .ok (.iload_n 2, 1) := by decide +kernel
theorem d_Cur_isOver_55 : decode prog_4_method_8_code 55 = .ok (.imul, 1) := by decide +kernel
theorem d_Cur_isOver_56 : decode prog_4_method_8_code 56 = .ok (.iadd, 1) := by decide +kernel
theorem d_Cur_isOver_57 : decode prog_4_method_8_code 57 = .ok (.iload 6, 2) := by decide +kernel
theorem d_Cur_isOver_59 : decode prog_4_method_8_code 59 = .ok (.aload_n 0, 1) := by decide +kernel
theorem d_Cur_isOver_60 : decode prog_4_method_8_code 60 = .ok (.getfield 15, 3) := by decide +kernel
theorem d_Cur_isOver_63 : decode prog_4_method_8_code 63 = .ok (.iload_n 1, 1) := by decide +kernel
theorem d_Cur_isOver_64 : decode prog_4_method_8_code 64 = .ok (.iaload, 1) := by decide +kernel
theorem d_Cur_isOver_65 : decode prog_4_method_8_code 65 = .ok (.iload 8, 2) := by decide +kernel
theorem d_Cur_isOver_67 : decode prog_4_method_8_code 67 = .ok (.iconst 1, 1) := by decide +kernel
theorem d_Cur_isOver_68 : decode prog_4_method_8_code 68 = .ok (.if_icmp .le (8), 3) := by decide +kernel
theorem d_Cur_isOver_71 : decode prog_4_method_8_code 71 = .ok (.iload 8, 2) := by decide +kernel
theorem d_Cur_isOver_73 : decode prog_4_method_8_code 73 = .ok (.goto (4), 3) := by decide +kernel
theorem d_Cur_isOver_76 : decode prog_4_method_8_code 76 = .ok (.iconst 1, 1) := by decide +kernel
theorem d_Cur_isOver_77 : decode prog_4_method_8_code 77 = .ok (.invokestatic 53, 3) := by decide +kernel
theorem d_Cur_isOver_80 : decode prog_4_method_8_code 80 = .ok (.iadd, 1) := by decide +kernel
theorem d_Cur_isOver_81 : decode prog_4_method_8_code 81 = .ok (.aload_n 0, 1) := by decide +kernel
theorem d_Cur_isOver_82 : decode prog_4_method_8_code 82 = .ok (.getfield 11, 3) := by decide +kernel
theorem d_Cur_isOver_85 : decode prog_4_method_8_code 85 = .ok (.iload_n 1, 1) := by decide +kernel
theorem d_Cur_isOver_86 : decode prog_4_method_8_code 86 = .ok (.iaload, 1) := by decide +kernel
theorem d_Cur_isOver_87 : decode prog_4_method_8_code 87 = .ok (.if_icmp .le (7), 3) := by decide +kernel
theorem d_Cur_isOver_90 : decode prog_4_method_8_code 90 = .ok (.iconst 1, 1) := by decide +kernel
theorem d_Cur_isOver_91 : decode prog_4_method_8_code 91 = .ok (.goto (4), 3) := by decide +kernel
theorem d_Cur_isOver_94 : decode prog_4_method_8_code 94 = .ok (.iconst 0, 1) := by decide +kernel
theorem d_Cur_isOver_95 : decode prog_4_method_8_code 95 = .ok (.ireturn, 1) := by decide +kernel
theorem d_Frt_init_0 : decode prog_5_method_1_code 0 = .ok (.aload_n 0, 1) := by decide +kernel
theorem d_Frt_init_1 : decode prog_5_method_1_code 1 = .ok (.invokespecial 1, 3) := by decide +kernel
theorem d_Frt_init_4 : decode prog_5_method_1_code 4 = .ok (.return_, 1) := by decide +kernel
theorem d_Frt_advance_0 : decode prog_5_method_2_code 0 = .ok (.iload_n 1, 1) := by decide +kernel
theorem d_Frt_advance_1 : decode prog_5_method_2_code 1 = .ok (.ifCond .ne (7), 3) := by decide +kernel
theorem d_Frt_advance_4 : decode prog_5_method_2_code 4 = .ok (.iconst 0, 1) := by decide +kernel
theorem d_Frt_advance_5 : decode prog_5_method_2_code 5 = .ok (.goto (9), 3) := by decide +kernel
theorem d_Frt_advance_8 : decode prog_5_method_2_code 8 = .ok (.iconst 1, 1) := by decide +kernel
theorem d_Frt_advance_9 : decode prog_5_method_2_code 9 = .ok (.iload_n 1, 1) := by decide +kernel
theorem d_Frt_advance_10 : decode prog_5_method_2_code 10 = .ok (.bipush (16), 2) := by decide +kernel
theorem d_Frt_advance_12 : decode prog_5_method_2_code 12 = .ok (.idiv, 1) := by decide +kernel
theorem d_Frt_advance_13 : decode prog_5_method_2_code 13 = .ok (.iadd, 1) := by decide +kernel
theorem d_Frt_advance_14 : decode prog_5_method_2_code 14 = .ok (.istore_n 2, 1) := by decide +kernel
theorem d_Frt_advance_15 : decode prog_5_method_2_code 15 = .ok (.aload_n 0, 1) := by decide +kernel
theorem d_Frt_advance_16 : decode prog_5_method_2_code 16 = .ok (.dup, 1) := by decide +kernel
theorem d_Frt_advance_17 : decode prog_5_method_2_code 17 = .ok (.getfield 7, 3) := by decide +kernel
theorem d_Frt_advance_20 : decode prog_5_method_2_code 20 = .ok (.iload_n 1, 1) := by decide +kernel
theorem d_Frt_advance_21 : decode prog_5_method_2_code 21 = .ok (.iload_n 2, 1) := by decide +kernel
theorem d_Frt_advance_22 : decode prog_5_method_2_code 22 = .ok (.iadd, 1) := by decide +kernel
theorem d_Frt_advance_23 : decode prog_5_method_2_code 23 = .ok (.iadd, 1) := by decide +kernel
theorem d_Frt_advance_24 : decode prog_5_method_2_code 24 = .ok (.putfield 7, 3) := by decide +kernel
theorem d_Frt_advance_27 : decode prog_5_method_2_code 27 = .ok (.aload_n 0, 1) := by decide +kernel
theorem d_Frt_advance_28 : decode prog_5_method_2_code 28 = .ok (.dup, 1) := by decide +kernel
theorem d_Frt_advance_29 : decode prog_5_method_2_code 29 = .ok (.getfield 13, 3) := by decide +kernel
theorem d_Frt_advance_32 : decode prog_5_method_2_code 32 = .ok (.iload_n 1, 1) := by decide +kernel
theorem d_Frt_advance_33 : decode prog_5_method_2_code 33 = .ok (.iload_n 2, 1) := by decide +kernel
theorem d_Frt_advance_34 : decode prog_5_method_2_code 34 = .ok (.isub, 1) := by decide +kernel
theorem d_Frt_advance_35 : decode prog_5_method_2_code 35 = .ok (.iadd, 1) := by decide +kernel
theorem d_Frt_advance_36 : decode prog_5_method_2_code 36 = .ok (.putfield 13, 3) := by decide +kernel
theorem d_Frt_advance_39 : decode prog_5_method_2_code 39 = .ok (.aload_n 0, 1) := by decide +kernel
theorem d_Frt_advance_40 : decode prog_5_method_2_code 40 = .ok (.iload_n 1, 1) := by decide +kernel
theorem d_Frt_advance_41 : decode prog_5_method_2_code 41 = .ok (.iload_n 2, 1) := by decide +kernel
theorem d_Frt_advance_42 : decode prog_5_method_2_code 42 = .ok (.iadd, 1) := by decide +kernel
theorem d_Frt_advance_43 : decode prog_5_method_2_code 43 = .ok (.putfield 16, 3) := by decide +kernel
theorem d_Frt_advance_46 : decode prog_5_method_2_code 46 = .ok (.return_, 1) := by decide +kernel
theorem d_Frt_narrow_0 : decode prog_5_method_3_code 0 = .ok (.aload_n 0, 1) := by decide +kernel
theorem d_Frt_narrow_1 : decode prog_5_method_3_code 1 = .ok (.aload_n 0, 1) := by decide +kernel
theorem d_Frt_narrow_2 : decode prog_5_method_3_code 2 = .ok (.getfield 13, 3) := by decide +kernel
theorem d_Frt_narrow_5 : decode prog_5_method_3_code 5 = .ok (.iload_n 1, 1) := by decide +kernel
theorem d_Frt_narrow_6 : decode prog_5_method_3_code 6 = .ok (.invokestatic 19, 3) := by decide +kernel
theorem d_Frt_narrow_9 : decode prog_5_method_3_code 9 = .ok (.putfield 13, 3) := by decide +kernel
theorem d_Frt_narrow_12 : decode prog_5_method_3_code 12 = .ok (.aload_n 0, 1) := by decide +kernel
theorem d_Frt_narrow_13 : decode prog_5_method_3_code 13 = .ok (.aload_n 0, 1) := by decide +kernel
theorem d_Frt_narrow_14 : decode prog_5_method_3_code 14 = .ok (.getfield 7, 3) := by decide +kernel
theorem d_Frt_narrow_17 : decode prog_5_method_3_code 17 = .ok (.iload_n 2, 1) := by decide +kernel
theorem d_Frt_narrow_18 : decode prog_5_method_3_code 18 = .ok (.invokestatic 25, 3) := by decide +kernel
theorem d_Frt_narrow_21 : decode prog_5_method_3_code 21 = .ok (.putfield 7, 3) := by decide +kernel
theorem d_Frt_narrow_24 : decode prog_5_method_3_code 24 = .ok (.return_, 1) := by decide +kernel
theorem d_Mrk_init_0 : decode prog_6_method_1_code 0 = .ok (.aload_n 0, 1) := by decide +kernel
theorem d_Mrk_init_1 : decode prog_6_method_1_code 1 = .ok (.invokespecial 3, 3) := by decide +kernel
theorem d_Mrk_init_4 : decode prog_6_method_1_code 4 = .ok (.aload_n 0, 1) := by decide +kernel
theorem d_Mrk_init_5 : decode prog_6_method_1_code 5 = .ok (.bipush (7), 2) := by decide +kernel
theorem d_Mrk_init_7 : decode prog_6_method_1_code 7 = .ok (.newarray .int, 2) := by decide +kernel
theorem d_Mrk_init_9 : decode prog_6_method_1_code 9 = .ok (.putfield 9, 3) := by decide +kernel
theorem d_Mrk_init_12 : decode prog_6_method_1_code 12 = .ok (.aload_n 0, 1) := by decide +kernel
theorem d_Mrk_init_13 : decode prog_6_method_1_code 13 = .ok (.bipush (7), 2) := by decide +kernel
theorem d_Mrk_init_15 : decode prog_6_method_1_code 15 = .ok (.newarray .int, 2) := by decide +kernel
theorem d_Mrk_init_17 : decode prog_6_method_1_code 17 = .ok (.putfield 15, 3) := by decide +kernel
theorem d_Mrk_init_20 : decode prog_6_method_1_code 20 = .ok (.aload_n 0, 1) := by decide +kernel
theorem d_Mrk_init_21 : decode prog_6_method_1_code 21 = .ok (.bipush (7), 2) := by decide +kernel
theorem d_Mrk_init_23 : decode prog_6_method_1_code 23 = .ok (.newarray .int, 2) := by decide +kernel
theorem d_Mrk_init_25 : decode prog_6_method_1_code 25 = .ok (.putfield 18, 3) := by decide +kernel
theorem d_Mrk_init_28 : decode prog_6_method_1_code 28 = .ok (.aload_n 0, 1) := by decide +kernel
theorem d_Mrk_init_29 : decode prog_6_method_1_code 29 = .ok (.bipush (7), 2) := by decide +kernel
theorem d_Mrk_init_31 : decode prog_6_method_1_code 31 = .ok (.newarray .boolean, 2) := by decide +kernel
theorem d_Mrk_init_33 : decode prog_6_method_1_code 33 = .ok (.putfield 21, 3) := by decide +kernel
theorem d_Mrk_init_36 : decode prog_6_method_1_code 36 = .ok (.return_, 1) := by decide +kernel
theorem d_Mrk_clear_0 : decode prog_6_method_2_code 0 = .ok (.aload_n 0, 1) := by decide +kernel
theorem d_Mrk_clear_1 : decode prog_6_method_2_code 1 = .ok (.iconst 0, 1) := by decide +kernel
theorem d_Mrk_clear_2 : decode prog_6_method_2_code 2 = .ok (.putfield 25, 3) := by decide +kernel
theorem d_Mrk_clear_5 : decode prog_6_method_2_code 5 = .ok (.return_, 1) := by decide +kernel
theorem d_Mrk_add_0 : decode prog_6_method_3_code 0 = .ok (.aload_n 0, 1) := by decide +kernel
theorem d_Mrk_add_1 : decode prog_6_method_3_code 1 = .ok (.getfield 25, 3) := by decide +kernel
theorem d_Mrk_add_4 : decode prog_6_method_3_code 4 = .ok (.bipush (7), 2) := by decide +kernel
theorem d_Mrk_add_6 : decode prog_6_method_3_code 6 = .ok (.if_icmp .ge (53), 3) := by decide +kernel
theorem d_Mrk_add_9 : decode prog_6_method_3_code 9 = .ok (.aload_n 0, 1) := by decide +kernel
theorem d_Mrk_add_10 : decode prog_6_method_3_code 10 = .ok (.getfield 9, 3) := by decide +kernel
theorem d_Mrk_add_13 : decode prog_6_method_3_code 13 = .ok (.aload_n 0, 1) := by decide +kernel
theorem d_Mrk_add_14 : decode prog_6_method_3_code 14 = .ok (.getfield 25, 3) := by decide +kernel
theorem d_Mrk_add_17 : decode prog_6_method_3_code 17 = .ok (.iload_n 1, 1) := by decide +kernel
theorem d_Mrk_add_18 : decode prog_6_method_3_code 18 = .ok (.iastore, 1) := by decide +kernel
theorem d_Mrk_add_19 : decode prog_6_method_3_code 19 = .ok (.aload_n 0, 1) := by decide +kernel
theorem d_Mrk_add_20 : decode prog_6_method_3_code 20 = .ok (.getfield 15, 3) := by decide +kernel
theorem d_Mrk_add_23 : decode prog_6_method_3_code 23 = .ok (.aload_n 0, 1) := by decide +kernel
theorem d_Mrk_add_24 : decode prog_6_method_3_code 24 = .ok (.getfield 25, 3) := by decide +kernel
theorem d_Mrk_add_27 : decode prog_6_method_3_code 27 = .ok (.iload_n 2, 1) := by decide +kernel
theorem d_Mrk_add_28 : decode prog_6_method_3_code 28 = .ok (.iastore, 1) := by decide +kernel
theorem d_Mrk_add_29 : decode prog_6_method_3_code 29 = .ok (.aload_n 0, 1) := by decide +kernel
theorem d_Mrk_add_30 : decode prog_6_method_3_code 30 = .ok (.getfield 18, 3) := by decide +kernel
theorem d_Mrk_add_33 : decode prog_6_method_3_code 33 = .ok (.aload_n 0, 1) := by decide +kernel
theorem d_Mrk_add_34 : decode prog_6_method_3_code 34 = .ok (.getfield 25, 3) := by decide +kernel
theorem d_Mrk_add_37 : decode prog_6_method_3_code 37 = .ok (.iload_n 3, 1) := by decide +kernel
theorem d_Mrk_add_38 : decode prog_6_method_3_code 38 = .ok (.iastore, 1) := by decide +kernel
theorem d_Mrk_add_39 : decode prog_6_method_3_code 39 = .ok (.aload_n 0, 1) := by decide +kernel
theorem d_Mrk_add_40 : decode prog_6_method_3_code 40 = .ok (.getfield 21, 3) := by decide +kernel
theorem d_Mrk_add_43 : decode prog_6_method_3_code 43 = .ok (.aload_n 0, 1) := by decide +kernel
theorem d_Mrk_add_44 : decode prog_6_method_3_code 44 = .ok (.getfield 25, 3) := by decide +kernel
theorem d_Mrk_add_47 : decode prog_6_method_3_code 47 = .ok (.iconst 0, 1) := by decide +kernel
theorem d_Mrk_add_48 : decode prog_6_method_3_code 48 = .ok (.bastore, 1) := by decide +kernel
theorem d_Mrk_add_49 : decode prog_6_method_3_code 49 = .ok (.aload_n 0, 1) := by decide +kernel
theorem d_Mrk_add_50 : decode prog_6_method_3_code 50 = .ok (.dup, 1) := by decide +kernel
theorem d_Mrk_add_51 : decode prog_6_method_3_code 51 = .ok (.getfield 25, 3) := by decide +kernel
theorem d_Mrk_add_54 : decode prog_6_method_3_code 54 = .ok (.iconst 1, 1) := by decide +kernel
theorem d_Mrk_add_55 : decode prog_6_method_3_code 55 = .ok (.iadd, 1) := by decide +kernel
theorem d_Mrk_add_56 : decode prog_6_method_3_code 56 = .ok (.putfield 25, 3) := by decide +kernel
theorem d_Mrk_add_59 : decode prog_6_method_3_code 59 = .ok (.return_, 1) := by decide +kernel
theorem d_Mrk_copyFrom_0 : decode prog_6_method_4_code 0 = .ok (.aload_n 0, 1) := by decide +kernel
theorem d_Mrk_copyFrom_1 : decode prog_6_method_4_code 1 = .ok (.invokevirtual 29, 3) := by decide +kernel
theorem d_Mrk_copyFrom_4 : decode prog_6_method_4_code 4 = .ok (.iconst 0, 1) := by decide +kernel
theorem d_Mrk_copyFrom_5 : decode prog_6_method_4_code 5 = .ok (.istore_n 2, 1) := by decide +kernel
theorem d_Mrk_copyFrom_6 : decode prog_6_method_4_code 6 = .ok (.iload_n 2, 1) := by decide +kernel
theorem d_Mrk_copyFrom_7 : decode prog_6_method_4_code 7 = .ok (.aload_n 1, 1) := by decide +kernel
theorem d_Mrk_copyFrom_8 : decode prog_6_method_4_code 8 = .ok (.getfield 25, 3) := by decide +kernel
theorem d_Mrk_copyFrom_11 : decode prog_6_method_4_code 11 = .ok (.if_icmp .ge (31), 3) := by decide +kernel
theorem d_Mrk_copyFrom_14 : decode prog_6_method_4_code 14 = .ok (.aload_n 0, 1) := by decide +kernel
theorem d_Mrk_copyFrom_15 : decode prog_6_method_4_code 15 = .ok (.aload_n 1, 1) := by decide +kernel
theorem d_Mrk_copyFrom_16 : decode prog_6_method_4_code 16 = .ok (.getfield 9, 3) := by decide +kernel
theorem d_Mrk_copyFrom_19 : decode prog_6_method_4_code 19 = .ok (.iload_n 2, 1) := by decide +kernel
theorem d_Mrk_copyFrom_20 : decode prog_6_method_4_code 20 = .ok (.iaload, 1) := by decide +kernel
theorem d_Mrk_copyFrom_21 : decode prog_6_method_4_code 21 = .ok (.aload_n 1, 1) := by decide +kernel
theorem d_Mrk_copyFrom_22 : decode prog_6_method_4_code 22 = .ok (.getfield 15, 3) := by decide +kernel
theorem d_Mrk_copyFrom_25 : decode prog_6_method_4_code 25 = .ok (.iload_n 2, 1) := by decide +kernel
theorem d_Mrk_copyFrom_26 : decode prog_6_method_4_code 26 = .ok (.iaload, 1) := by decide +kernel
theorem d_Mrk_copyFrom_27 : decode prog_6_method_4_code 27 = .ok (.aload_n 1, 1) := by decide +kernel
theorem d_Mrk_copyFrom_28 : decode prog_6_method_4_code 28 = .ok (.getfield 18, 3) := by decide +kernel
theorem d_Mrk_copyFrom_31 : decode prog_6_method_4_code 31 = .ok (.iload_n 2, 1) := by decide +kernel
theorem d_Mrk_copyFrom_32 : decode prog_6_method_4_code 32 = .ok (.iaload, 1) := by decide +kernel
theorem d_Mrk_copyFrom_33 : decode prog_6_method_4_code 33 = .ok (.invokevirtual 32, 3) := by decide +kernel
theorem d_Mrk_copyFrom_36 : decode prog_6_method_4_code 36 = .ok (.iinc 2 (1), 3) := by decide +kernel
theorem d_Mrk_copyFrom_39 : decode prog_6_method_4_code 39 = .ok (.goto (-33), 3) := by decide +kernel
theorem d_Mrk_copyFrom_42 : decode prog_6_method_4_code 42 = .ok (.return_, 1) := by decide +kernel
theorem d_Mrk_earliest_0 : decode prog_6_method_5_code 0 = .ok (.aload_n 0, 1) := by decide +kernel
theorem d_Mrk_earliest_1 : decode prog_6_method_5_code 1 = .ok (.getfield 9, 3) := by decide +kernel
theorem d_Mrk_earliest_4 : decode prog_6_method_5_code 4 = .ok (.iload_n 1, 1) := by decide +kernel
theorem d_Mrk_earliest_5 : decode prog_6_method_5_code 5 = .ok (.iaload, 1) := by decide +kernel
theorem d_Mrk_earliest_6 : decode prog_6_method_5_code 6 = .ok (.aload_n 0, 1) := by decide +kernel
theorem d_Mrk_earliest_7 : decode prog_6_method_5_code 7 = .ok (.getfield 18, 3) := by decide +kernel
theorem d_Mrk_earliest_10 : decode prog_6_method_5_code 10 = .ok (.iload_n 1, 1) := by decide +kernel
theorem d_Mrk_earliest_11 : decode prog_6_method_5_code 11 = .ok (.iaload, 1) := by decide +kernel
theorem d_Mrk_earliest_12 : decode prog_6_method_5_code 12 = .ok (.isub, 1) := by decide +kernel
theorem d_Mrk_earliest_13 : decode prog_6_method_5_code 13 = .ok (.ireturn, 1) := by decide +kernel
theorem d_Mrk_latest_0 : decode prog_6_method_6_code 0 = .ok (.aload_n 0, 1) := by decide +kernel
theorem d_Mrk_latest_1 : decode prog_6_method_6_code 1 = .ok (.getfield 9, 3) := by decide +kernel
theorem d_Mrk_latest_4 : decode prog_6_method_6_code 4 = .ok (.iload_n 1, 1) := by decide +kernel
theorem d_Mrk_latest_5 : decode prog_6_method_6_code 5 = .ok (.iaload, 1) := by decide +kernel
theorem d_Mrk_latest_6 : decode prog_6_method_6_code 6 = .ok (.aload_n 0, 1) := by decide +kernel
theorem d_Mrk_latest_7 : decode prog_6_method_6_code 7 = .ok (.getfield 18, 3) := by decide +kernel
theorem d_Mrk_latest_10 : decode prog_6_method_6_code 10 = .ok (.iload_n 1, 1) := by decide +kernel
theorem d_Mrk_latest_11 : decode prog_6_method_6_code 11 = .ok (.iaload, 1) := by decide +kernel
theorem d_Mrk_latest_12 : decode prog_6_method_6_code 12 = .ok (.iadd, 1) := by decide +kernel
theorem d_Mrk_latest_13 : decode prog_6_method_6_code 13 = .ok (.ireturn, 1) := by decide +kernel
theorem d_Mrk_firstOpen_0 : decode prog_6_method_7_code 0 = .ok (.iconst 0, 1) := by decide +kernel
theorem d_Mrk_firstOpen_1 : decode prog_6_method_7_code 1 = .ok (.istore_n 2, 1) := by decide +kernel
theorem d_Mrk_firstOpen_2 : decode prog_6_method_7_code 2 = .ok (.iload_n 2, 1) := by decide +kernel
theorem d_Mrk_firstOpen_3 : decode prog_6_method_7_code 3 = .ok (.aload_n 0, 1) := by decide +kernel
theorem d_Mrk_firstOpen_4 : decode prog_6_method_7_code 4 = .ok (.getfield 25, 3) := by decide +kernel
theorem d_Mrk_firstOpen_7 : decode prog_6_method_7_code 7 = .ok (.if_icmp .ge (30), 3) := by decide +kernel
theorem d_Mrk_firstOpen_10 : decode prog_6_method_7_code 10 = .ok (.aload_n 0, 1) := by decide +kernel
theorem d_Mrk_firstOpen_11 : decode prog_6_method_7_code 11 = .ok (.getfield 21, 3) := by decide +kernel
theorem d_Mrk_firstOpen_14 : decode prog_6_method_7_code 14 = .ok (.iload_n 2, 1) := by decide +kernel
theorem d_Mrk_firstOpen_15 : decode prog_6_method_7_code 15 = .ok (.baload, 1) := by decide +kernel
theorem d_Mrk_firstOpen_16 : decode prog_6_method_7_code 16 = .ok (.ifCond .ne (15), 3) := by decide +kernel
theorem d_Mrk_firstOpen_19 : decode prog_6_method_7_code 19 = .ok (.aload_n 0, 1) := by decide +kernel
theorem d_Mrk_firstOpen_20 : decode prog_6_method_7_code 20 = .ok (.getfield 15, 3) := by decide +kernel
theorem d_Mrk_firstOpen_23 : decode prog_6_method_7_code 23 = .ok (.iload_n 2, 1) := by decide +kernel
theorem d_Mrk_firstOpen_24 : decode prog_6_method_7_code 24 = .ok (.iaload, 1) := by decide +kernel
theorem d_Mrk_firstOpen_25 : decode prog_6_method_7_code 25 = .ok (.iload_n 1, 1) := by decide +kernel
theorem d_Mrk_firstOpen_26 : decode prog_6_method_7_code 26 = .ok (.if_icmp .ne (5), 3) := by decide +kernel
theorem d_Mrk_firstOpen_29 : decode prog_6_method_7_code 29 = .ok (.iload_n 2, 1) := by decide +kernel
theorem d_Mrk_firstOpen_30 : decode prog_6_method_7_code 30 = .ok (.ireturn, 1) := by decide +kernel
theorem d_Mrk_firstOpen_31 : decode prog_6_method_7_code 31 = .ok (.iinc 2 (1), 3) := by decide +kernel
theorem d_Mrk_firstOpen_34 : decode prog_6_method_7_code 34 = .ok (.goto (-32), 3) := by decide +kernel
theorem d_Mrk_firstOpen_37 : decode prog_6_method_7_code 37 = .ok (.iconst (-1), 1) := by decide +kernel
theorem d_Mrk_firstOpen_38 : decode prog_6_method_7_code 38 = .ok (.ireturn, 1) := by decide +kernel
theorem d_Mrk_anyOpenBefore_0 : decode prog_6_method_8_code 0 = .ok (.iconst 0, 1) := by decide +kernel
theorem d_Mrk_anyOpenBefore_1 : decode prog_6_method_8_code 1 = .ok (.istore_n 2, 1) := by decide +kernel
theorem d_Mrk_anyOpenBefore_2 : decode prog_6_method_8_code 2 = .ok (.iload_n 2, 1) := by decide +kernel
theorem d_Mrk_anyOpenBefore_3 : decode prog_6_method_8_code 3 = .ok (.iload_n 1, 1) := by decide +kernel
theorem d_Mrk_anyOpenBefore_4 : decode prog_6_method_8_code 4 = .ok (.if_icmp .ge (20), 3) := by decide +kernel
theorem d_Mrk_anyOpenBefore_7 : decode prog_6_method_8_code 7 = .ok (.aload_n 0, 1) := by decide +kernel
theorem d_Mrk_anyOpenBefore_8 : decode prog_6_method_8_code 8 = .ok (.getfield 21, 3) := by decide +kernel
theorem d_Mrk_anyOpenBefore_11 : decode prog_6_method_8_code 11 = .ok (.iload_n 2, 1) := by decide +kernel
theorem d_Mrk_anyOpenBefore_12 : decode prog_6_method_8_code 12 = .ok (.baload, 1) := by decide +kernel
theorem d_Mrk_anyOpenBefore_13 : decode prog_6_method_8_code 13 = .ok (.ifCond .ne (5), 3) := by decide +kernel
theorem d_Mrk_anyOpenBefore_16 : decode prog_6_method_8_code 16 = .ok (.iconst 1, 1) := by decide +kernel
theorem d_Mrk_anyOpenBefore_17 : decode prog_6_method_8_code 17 = .ok (.ireturn, 1) := by decide +kernel
theorem d_Mrk_anyOpenBefore_18 : decode prog_6_method_8_code 18 = .ok (.iinc 2 (1), 3) := by decide +kernel
theorem d_Mrk_anyOpenBefore_21 : decode prog_6_method_8_code 21 = .ok (.goto (-19), 3) := by decide +kernel
theorem d_Mrk_anyOpenBefore_24 : decode prog_6_method_8_code 24 = .ok (.iconst 0, 1) := by decide +kernel
theorem d_Mrk_anyOpenBefore_25 : decode prog_6_method_8_code 25 = .ok (.ireturn, 1) := by decide +kernel
theorem d_Mrk_passUpTo_0 : decode prog_6_method_9_code 0 = .ok (.iconst 0, 1) := by decide +kernel
theorem d_Mrk_passUpTo_1 : decode prog_6_method_9_code 1 = .ok (.istore_n 2, 1) := by decide +kernel
theorem d_Mrk_passUpTo_2 : decode prog_6_method_9_code 2 = .ok (.iload_n 2, 1) := by decide +kernel
theorem d_Mrk_passUpTo_3 : decode prog_6_method_9_code 3 = .ok (.iload_n 1, 1) := by decide +kernel
theorem d_Mrk_passUpTo_4 : decode prog_6_method_9_code 4 = .ok (.if_icmp .gt (16), 3) := by decide +kernel
theorem d_Mrk_passUpTo_7 : decode prog_6_method_9_code 7 = .ok (.aload_n 0, 1) := by decide +kernel
theorem d_Mrk_passUpTo_8 : decode prog_6_method_9_code 8 = .ok (.getfield 21, 3) := by decide +kernel
theorem d_Mrk_passUpTo_11 : decode prog_6_method_9_code 11 = .ok (.iload_n 2, 1) := by decide +kernel
theorem d_Mrk_passUpTo_12 : decode prog_6_method_9_code 12 = .ok (.iconst 1, 1) := by decide +kernel
theorem d_Mrk_passUpTo_13 : decode prog_6_method_9_code 13 = .ok (.bastore, 1) := by decide +kernel
theorem d_Mrk_passUpTo_14 : decode prog_6_method_9_code 14 = .ok (.iinc 2 (1), 3) := by decide +kernel
theorem d_Mrk_passUpTo_17 : decode prog_6_method_9_code 17 = .ok (.goto (-15), 3) := by decide +kernel
theorem d_Mrk_passUpTo_20 : decode prog_6_method_9_code 20 = .ok (.return_, 1) := by decide +kernel
theorem d_Mrk_passBehind_0 : decode prog_6_method_10_code 0 = .ok (.iconst 0, 1) := by decide +kernel
theorem d_Mrk_passBehind_1 : decode prog_6_method_10_code 1 = .ok (.istore_n 2, 1) := by decide +kernel
theorem d_Mrk_passBehind_2 : decode prog_6_method_10_code 2 = .ok (.iconst 0, 1) := by decide +kernel
theorem d_Mrk_passBehind_3 : decode prog_6_method_10_code 3 = .ok (.istore_n 3, 1) := by decide +kernel
theorem d_Mrk_passBehind_4 : decode prog_6_method_10_code 4 = .ok (.iload_n 3, 1) := by decide +kernel
theorem d_Mrk_passBehind_5 : decode prog_6_method_10_code 5 = .ok (.aload_n 0, 1) := by decide +kernel
theorem d_Mrk_passBehind_6 : decode prog_6_method_10_code 6 = .ok (.getfield 25, 3) := by decide +kernel
theorem d_Mrk_passBehind_9 : decode prog_6_method_10_code 9 = .ok (.if_icmp .ge (36), 3) := by decide +kernel
theorem d_Mrk_passBehind_12 : decode prog_6_method_10_code 12 = .ok (.aload_n 0, 1) := by decide +kernel
theorem d_Mrk_passBehind_13 : decode prog_6_method_10_code 13 = .ok (.getfield 21, 3) := by decide +kernel
theorem d_Mrk_passBehind_16 : decode prog_6_method_10_code 16 = .ok (.iload_n 3, 1) := by decide +kernel
theorem d_Mrk_passBehind_17 : decode prog_6_method_10_code 17 = .ok (.baload, 1) := by decide +kernel
theorem d_Mrk_passBehind_18 : decode prog_6_method_10_code 18 = .ok (.ifCond .ne (21), 3) := by decide +kernel
theorem d_Mrk_passBehind_21 : decode prog_6_method_10_code 21 = .ok (.aload_n 0, 1) := by decide +kernel
theorem d_Mrk_passBehind_22 : decode prog_6_method_10_code 22 = .ok (.iload_n 3, 1) := by decide +kernel
theorem d_Mrk_passBehind_23 : decode prog_6_method_10_code 23 = .ok (.invokevirtual 36, 3) := by decide +kernel
theorem d_Mrk_passBehind_26 : decode prog_6_method_10_code 26 = .ok (.iload_n 1, 1) := by decide +kernel
theorem d_Mrk_passBehind_27 : decode prog_6_method_10_code 27 = .ok (.if_icmp .ge (12), 3) := by decide +kernel
theorem d_Mrk_passBehind_30 : decode prog_6_method_10_code 30 = .ok (.aload_n 0, 1) := by decide +kernel
theorem d_Mrk_passBehind_31 : decode prog_6_method_10_code 31 = .ok (.getfield 21, 3) := by decide +kernel
theorem d_Mrk_passBehind_34 : decode prog_6_method_10_code 34 = .ok (.iload_n 3, 1) := by decide +kernel
theorem d_Mrk_passBehind_35 : decode prog_6_method_10_code 35 = .ok (.iconst 1, 1) := by decide +kernel
theorem d_Mrk_passBehind_36 : decode prog_6_method_10_code 36 = .ok (.bastore, 1) := by decide +kernel
theorem d_Mrk_passBehind_37 : decode prog_6_method_10_code 37 = .ok (.iconst 1, 1) := by decide +kernel
theorem d_Mrk_passBehind_38 : decode prog_6_method_10_code 38 = .ok (.istore_n 2, 1) := by decide +kernel
theorem d_Mrk_passBehind_39 : decode prog_6_method_10_code 39 = .ok (.iinc 3 (1), 3) := by decide +kernel
theorem d_Mrk_passBehind_42 : decode prog_6_method_10_code 42 = .ok (.goto (-38), 3) := by decide +kernel
theorem d_Mrk_passBehind_45 : decode prog_6_method_10_code 45 = .ok (.iload_n 2, 1) := by decide +kernel
theorem d_Mrk_passBehind_46 : decode prog_6_method_10_code 46 = .ok (.ireturn, 1) := by decide +kernel
theorem d_Mrk_shown_0 : decode prog_6_method_11_code 0 = .ok (.iload_n 1, 1) := by decide +kernel
theorem d_Mrk_shown_1 : decode prog_6_method_11_code 1 = .ok (.ifCond .lt (11), 3) := by decide +kernel
theorem d_Mrk_shown_4 : decode prog_6_method_11_code 4 = .ok (.iload_n 1, 1) := by decide +kernel
theorem d_Mrk_shown_5 : decode prog_6_method_11_code 5 = .ok (.aload_n 0, 1) := by decide +kernel
theorem d_Mrk_shown_6 : decode prog_6_method_11_code 6 = .ok (.getfield 25, 3) := by decide +kernel
theorem d_Mrk_shown_9 : decode prog_6_method_11_code 9 = .ok (.if_icmp .lt (5), 3) := by decide +kernel
theorem d_Mrk_shown_12 : decode prog_6_method_11_code 12 = .ok (.iconst (-1), 1) := by decide +kernel
theorem d_Mrk_shown_13 : decode prog_6_method_11_code 13 = .ok (.ireturn, 1) := by decide +kernel
theorem d_Mrk_shown_14 : decode prog_6_method_11_code 14 = .ok (.sipush (1000), 3) := by decide +kernel
theorem d_Mrk_shown_17 : decode prog_6_method_11_code 17 = .ok (.aload_n 0, 1) := by decide +kernel
theorem d_Mrk_shown_18 : decode prog_6_method_11_code 18 = .ok (.getfield 9, 3) := by decide +kernel
theorem d_Mrk_shown_21 : decode prog_6_method_11_code 21 = .ok (.iload_n 1, 1) := by decide +kernel
theorem d_Mrk_shown_22 : decode prog_6_method_11_code 22 = .ok (.iaload, 1) := by decide +kernel
theorem d_Mrk_shown_23 : decode prog_6_method_11_code 23 = .ok (.imul, 1) := by decide +kernel
theorem d_Mrk_shown_24 : decode prog_6_method_11_code 24 = .ok (.iconst 4, 1) := by decide +kernel
theorem d_Mrk_shown_25 : decode prog_6_method_11_code 25 = .ok (.aload_n 0, 1) := by decide +kernel
theorem d_Mrk_shown_26 : decode prog_6_method_11_code 26 = .ok (.getfield 15, 3) := by decide +kernel
theorem d_Mrk_shown_29 : decode prog_6_method_11_code 29 = .ok (.iload_n 1, 1) := by decide +kernel
theorem d_Mrk_shown_30 : decode prog_6_method_11_code 30 = .ok (.iaload, 1) := by decide +kernel
theorem d_Mrk_shown_31 : decode prog_6_method_11_code 31 = .ok (.imul, 1) := by decide +kernel
theorem d_Mrk_shown_32 : decode prog_6_method_11_code 32 = .ok (.iadd, 1) := by decide +kernel
theorem d_Mrk_shown_33 : decode prog_6_method_11_code 33 = .ok (.aload_n 0, 1) := by decide +kernel
theorem d_Mrk_shown_34 : decode prog_6_method_11_code 34 = .ok (.getfield 21, 3) := by decide +kernel
theorem d_Mrk_shown_37 : decode prog_6_method_11_code 37 = .ok (.iload_n 1, 1) := by decide +kernel
theorem d_Mrk_shown_38 : decode prog_6_method_11_code 38 = .ok (.baload, 1) := by decide +kernel
theorem d_Mrk_shown_39 : decode prog_6_method_11_code 39 = .ok (.ifCond .eq (7), 3) := by decide +kernel
theorem d_Mrk_shown_42 : decode prog_6_method_11_code 42 = .ok (.iconst 1, 1) := by decide +kernel
theorem d_Mrk_shown_43 : decode prog_6_method_11_code 43 = .ok (.goto (4), 3) := by decide +kernel
theorem d_Mrk_shown_46 : decode prog_6_method_11_code 46 = .ok (.iconst 0, 1) := by decide +kernel
theorem d_Mrk_shown_47 : decode prog_6_method_11_code 47 = .ok (.iadd, 1) := by decide +kernel
theorem d_Mrk_shown_48 : decode prog_6_method_11_code 48 = .ok (.ireturn, 1) := by decide +kernel
theorem d_Msg_init_0 : decode prog_7_method_1_code 0 = .ok (.aload_n 0, 1) := by decide +kernel
theorem d_Msg_init_1 : decode prog_7_method_1_code 1 = .ok (.invokespecial 3, 3) := by decide +kernel
theorem d_Msg_init_4 : decode prog_7_method_1_code 4 = .ok (.aload_n 0, 1) := by decide +kernel
theorem d_Msg_init_5 : decode prog_7_method_1_code 5 = .ok (.getstatic 9, 3) := by decide +kernel
theorem d_Msg_init_8 : decode prog_7_method_1_code 8 = .ok (.arraylength, 1) := by decide +kernel
theorem d_Msg_init_9 : decode prog_7_method_1_code 9 = .ok (.newarray .boolean, 2) := by decide +kernel
theorem d_Msg_init_11 : decode prog_7_method_1_code 11 = .ok (.putfield 15, 3) := by decide +kernel
theorem d_Msg_init_14 : decode prog_7_method_1_code 14 = .ok (.aload_n 0, 1) := by decide +kernel
theorem d_Msg_init_15 : decode prog_7_method_1_code 15 = .ok (.new 19, 3) := by decide +kernel
theorem d_Msg_init_18 : decode prog_7_method_1_code 18 = .ok (.dup, 1) := by decide +kernel
theorem d_Msg_init_19 : decode prog_7_method_1_code 19 = .ok (.invokespecial 21, 3) := by decide +kernel
theorem d_Msg_init_22 : decode prog_7_method_1_code 22 = .ok (.putfield 22, 3) := by decide +kernel
theorem d_Msg_init_25 : decode prog_7_method_1_code 25 = .ok (.aload_n 0, 1) := by decide +kernel
theorem d_Msg_init_26 : decode prog_7_method_1_code 26 = .ok (.new 26, 3) := by decide +kernel
theorem d_Msg_init_29 : decode prog_7_method_1_code 29 = .ok (.dup, 1) := by decide +kernel
theorem d_Msg_init_30 : decode prog_7_method_1_code 30 = .ok (.invokespecial 28, 3) := by decide +kernel
theorem d_Msg_init_33 : decode prog_7_method_1_code 33 = .ok (.putfield 29, 3) := by decide +kernel
theorem d_Msg_init_36 : decode prog_7_method_1_code 36 = .ok (.aload_n 0, 1) := by decide +kernel
theorem d_Msg_init_37 : decode prog_7_method_1_code 37 = .ok (.new 26, 3) := by decide +kernel
theorem d_Msg_init_40 : decode prog_7_method_1_code 40 = .ok (.dup, 1) := by decide +kernel
theorem d_Msg_init_41 : decode prog_7_method_1_code 41 = .ok (.invokespecial 28, 3) := by decide +kernel
theorem d_Msg_init_44 : decode prog_7_method_1_code 44 = .ok (.putfield 33, 3) := by decide +kernel
theorem d_Msg_init_47 : decode prog_7_method_1_code 47 = .ok (.return_, 1) := by decide +kernel
theorem d_Msg_endedNumber_0 : decode prog_7_method_2_code 0 = .ok (.aload_n 0, 1) := by decide +kernel
theorem d_Msg_endedNumber_1 : decode prog_7_method_2_code 1 = .ok (.getfield 15, 3) := by decide +kernel
theorem d_Msg_endedNumber_4 : decode prog_7_method_2_code 4 = .ok (.iconst 5, 1) := by decide +kernel
theorem d_Msg_endedNumber_5 : decode prog_7_method_2_code 5 = .ok (.baload, 1) := by decide +kernel
theorem d_Msg_endedNumber_6 : decode prog_7_method_2_code 6 = .ok (.ifCond .eq (10), 3) := by decide +kernel
theorem d_Msg_endedNumber_9 : decode prog_7_method_2_code 9 = .ok (.aload_n 0, 1) := by decide +kernel
theorem d_Msg_endedNumber_10 : decode prog_7_method_2_code 10 = .ok (.getfield 36, 3) := by decide +kernel
theorem d_Msg_endedNumber_13 : decode prog_7_method_2_code 13 = .ok (.goto (4), 3) := by decide +kernel
theorem d_Msg_endedNumber_16 : decode prog_7_method_2_code 16 = .ok (.iconst (-1), 1) := by decide +kernel
theorem d_Msg_endedNumber_17 : decode prog_7_method_2_code 17 = .ok (.ireturn, 1) := by decide +kernel
theorem d_Msg_readFrom_0 : decode prog_7_method_3_code 0 = .ok (.aload_n 1, 1) := by decide +kernel
theorem d_Msg_readFrom_1 : decode prog_7_method_3_code 1 = .ok (.invokevirtual 40, 3) := by decide +kernel
theorem d_Msg_readFrom_4 : decode prog_7_method_3_code 4 = .ok (.iconst 0, 1) := by decide +kernel
theorem d_Msg_readFrom_5 : decode prog_7_method_3_code 5 = .ok (.istore_n 3, 1) := by decide +kernel
theorem d_Msg_readFrom_6 : decode prog_7_method_3_code 6 = .ok (.iload_n 3, 1) := by decide +kernel
theorem d_Msg_readFrom_7 : decode prog_7_method_3_code 7 = .ok (.aload_n 0, 1) := by decide +kernel
theorem d_Msg_readFrom_8 : decode prog_7_method_3_code 8 = .ok (.getfield 15, 3) := by decide +kernel
theorem d_Msg_readFrom_11 : decode prog_7_method_3_code 11 = .ok (.arraylength, 1) := by decide +kernel
theorem d_Msg_readFrom_12 : decode prog_7_method_3_code 12 = .ok (.if_icmp .ge (16), 3) := by decide +kernel
theorem d_Msg_readFrom_15 : decode prog_7_method_3_code 15 = .ok (.aload_n 0, 1) := by decide +kernel
theorem d_Msg_readFrom_16 : decode prog_7_method_3_code 16 = .ok (.getfield 15, 3) := by decide +kernel
theorem d_Msg_readFrom_19 : decode prog_7_method_3_code 19 = .ok (.iload_n 3, 1) := by decide +kernel
theorem d_Msg_readFrom_20 : decode prog_7_method_3_code 20 = .ok (.iconst 0, 1) := by decide +kernel
theorem d_Msg_readFrom_21 : decode prog_7_method_3_code 21 = .ok (.bastore, 1) := by decide +kernel
theorem d_Msg_readFrom_22 : decode prog_7_method_3_code 22 = .ok (.iinc 3 (1), 3) := by decide +kernel
theorem d_Msg_readFrom_25 : decode prog_7_method_3_code 25 = .ok (.goto (-19), 3) := by decide +kernel
theorem d_Msg_readFrom_28 : decode prog_7_method_3_code 28 = .ok (.aload_n 0, 1) := by decide +kernel
theorem d_Msg_readFrom_29 : decode prog_7_method_3_code 29 = .ok (.aload_n 1, 1) := by decide +kernel
theorem d_Msg_readFrom_30 : decode prog_7_method_3_code 30 = .ok (.bipush (8), 2) := by decide +kernel
theorem d_Msg_readFrom_32 : decode prog_7_method_3_code 32 = .ok (.invokevirtual 45, 3) := by decide +kernel
theorem d_Msg_readFrom_35 : decode prog_7_method_3_code 35 = .ok (.putfield 49, 3) := by decide +kernel
theorem d_Msg_readFrom_38 : decode prog_7_method_3_code 38 = .ok (.aload_n 1, 1) := by decide +kernel
theorem d_Msg_readFrom_39 : decode prog_7_method_3_code 39 = .ok (.aload_n 0, 1) := by decide +kernel
theorem d_Msg_readFrom_40 : decode prog_7_method_3_code 40 = .ok (.getfield 49, 3) := by decide +kernel
theorem d_Msg_readFrom_43 : decode prog_7_method_3_code 43 = .ok (.iconst 3, 1) := by decide +kernel
theorem d_Msg_readFrom_44 : decode prog_7_method_3_code 44 = .ok (.if_icmp .eq (30), 3) := by decide +kernel
theorem d_Msg_readFrom_47 : decode prog_7_method_3_code 47 = .ok (.aload_n 0, 1) := by decide +kernel
theorem d_Msg_readFrom_48 : decode prog_7_method_3_code 48 = .ok (.getfield 49, 3) := by decide +kernel
theorem d_Msg_readFrom_51 : decode prog_7_method_3_code 51 = .ok (.bipush (9), 2) := by decide +kernel
theorem d_Msg_readFrom_53 : decode prog_7_method_3_code 53 = .ok (.if_icmp .eq (21), 3) := by decide +kernel
theorem d_Msg_readFrom_56 : decode prog_7_method_3_code 56 = .ok (.aload_n 0, 1) := by decide +kernel
theorem d_Msg_readFrom_57 : decode prog_7_method_3_code 57 = .ok (.getfield 49, 3) := by decide +kernel
theorem d_Msg_readFrom_60 : decode prog_7_method_3_code 60 = .ok (.bipush (16), 2) := by decide +kernel
theorem d_Msg_readFrom_62 : decode prog_7_method_3_code 62 = .ok (.if_icmp .eq (12), 3) := by decide +kernel
theorem d_Msg_readFrom_65 : decode prog_7_method_3_code 65 = .ok (.aload_n 0, 1) := by decide +kernel
theorem d_Msg_readFrom_66 : decode prog_7_method_3_code 66 = .ok (.getfield 49, 3) := by decide +kernel
theorem d_Msg_readFrom_69 : decode prog_7_method_3_code 69 = .ok (.bipush (24), 2) := by decide +kernel
theorem d_Msg_readFrom_71 : decode prog_7_method_3_code 71 = .ok (.if_icmp .ne (7), 3) := by decide +kernel
theorem d_Msg_readFrom_74 : decode prog_7_method_3_code 74 = .ok (.iconst 1, 1) := by decide +kernel
theorem d_Msg_readFrom_75 : decode prog_7_method_3_code 75 = .ok (.goto (4), 3) := by decide +kernel
theorem d_Msg_readFrom_78 : decode prog_7_method_3_code 78 = .ok (.iconst 0, 1) := by decide +kernel
theorem d_Msg_readFrom_79 : decode prog_7_method_3_code 79 = .ok (.iconst 1, 1) := by decide +kernel
theorem d_Msg_readFrom_80 : decode prog_7_method_3_code 80 = .ok (.invokevirtual 52, 3) := by decide +kernel
theorem d_Msg_readFrom_83 : decode prog_7_method_3_code 83 = .ok (.aload_n 1, 1) := by decide +kernel
theorem d_Msg_readFrom_84 : decode prog_7_method_3_code 84 = .ok (.aload_n 1, 1) := by decide +kernel
theorem d_Msg_readFrom_85 : decode prog_7_method_3_code 85 = .ok (.bipush (10), 2) := by decide +kernel
theorem d_Msg_readFrom_87 : decode prog_7_method_3_code 87 = .ok (.invokevirtual 45, 3) := by decide +kernel
theorem d_Msg_readFrom_90 : decode prog_7_method_3_code 90 = .ok (.aload_n 1, 1) := by decide +kernel
theorem d_Msg_readFrom_91 : decode prog_7_method_3_code 91 = .ok (.getfield 56, 3) := by decide +kernel
theorem d_Msg_readFrom_94 : decode prog_7_method_3_code 94 = .ok (.if_icmp .ne (7), 3) := by decide +kernel
theorem d_Msg_readFrom_97 : decode prog_7_method_3_code 97 = .ok (.iconst 1, 1) := by decide +kernel
theorem d_Msg_readFrom_98 : decode prog_7_method_3_code 98 = .ok (.goto (4), 3) := by decide +kernel
theorem d_Msg_readFrom_101 : decode prog_7_method_3_code 101 = .ok (.iconst 0, 1) := by decide +kernel
theorem d_Msg_readFrom_102 : decode prog_7_method_3_code 102 = .ok (.iconst 2, 1) := by decide +kernel
theorem d_Msg_readFrom_103 : decode prog_7_method_3_code 103 = .ok (.invokevirtual 52, 3) := by decide +kernel
theorem d_Msg_readFrom_106 : decode prog_7_method_3_code 106 = .ok (.aload_n 0, 1) := by decide +kernel
theorem d_Msg_readFrom_107 : decode prog_7_method_3_code 107 = .ok (.aload_n 1, 1) := by decide +kernel
theorem d_Msg_readFrom_108 : decode prog_7_method_3_code 108 = .ok (.bipush (16), 2) := by decide +kernel
theorem d_Msg_readFrom_110 : decode prog_7_method_3_code 110 = .ok (.invokevirtual 45, 3) := by decide +kernel
theorem d_Msg_readFrom_113 : decode prog_7_method_3_code 113 = .ok (.putfield 59, 3) := by decide +kernel
theorem d_Msg_readFrom_116 : decode prog_7_method_3_code 116 = .ok (.aload_n 1, 1) := by decide +kernel
theorem d_Msg_readFrom_117 : decode prog_7_method_3_code 117 = .ok (.aload_n 0, 1) := by decide +kernel
theorem d_Msg_readFrom_118 : decode prog_7_method_3_code 118 = .ok (.getfield 59, 3) := by decide +kernel
theorem d_Msg_readFrom_121 : decode prog_7_method_3_code 121 = .ok (.iload_n 2, 1) := by decide +kernel
theorem d_Msg_readFrom_122 : decode prog_7_method_3_code 122 = .ok (.if_icmp .le (7), 3) := by decide +kernel
theorem d_Msg_readFrom_125 : decode prog_7_method_3_code 125 = .ok (.iconst 1, 1) := by decide +kernel
theorem d_Msg_readFrom_126 : decode prog_7_method_3_code 126 = .ok (.goto (4), 3) := by decide +kernel
theorem d_Msg_readFrom_129 : decode prog_7_method_3_code 129 = .ok (.iconst 0, 1) := by decide +kernel
theorem d_Msg_readFrom_130 : decode prog_7_method_3_code 130 = .ok (.iconst 3, 1) := by decide +kernel
theorem d_Msg_readFrom_131 : decode prog_7_method_3_code 131 = .ok (.invokevirtual 52, 3) := by decide +kernel
theorem d_Msg_readFrom_134 : decode prog_7_method_3_code 134 = .ok (.aload_n 0, 1) := by decide +kernel
theorem d_Msg_readFrom_135 : decode prog_7_method_3_code 135 = .ok (.getfield 49, 3) := by decide +kernel
theorem d_Msg_readFrom_138 : decode prog_7_method_3_code 138 = .ok (.bipush (9), 2) := by decide +kernel
theorem d_Msg_readFrom_140 : decode prog_7_method_3_code 140 = .ok (.if_icmp .ne (11), 3) := by decide +kernel
theorem d_Msg_readFrom_143 : decode prog_7_method_3_code 143 = .ok (.aload_n 0, 1) := by decide +kernel
theorem d_Msg_readFrom_144 : decode prog_7_method_3_code 144 = .ok (.aload_n 1, 1) := by decide +kernel
theorem d_Msg_readFrom_145 : decode prog_7_method_3_code 145 = .ok (.invokestatic 62, 3) := by decide +kernel
theorem d_Msg_readFrom_148 : decode prog_7_method_3_code 148 = .ok (.putfield 66, 3) := by decide +kernel
theorem d_Msg_readFrom_151 : decode prog_7_method_3_code 151 = .ok (.aload_n 0, 1) := by decide +kernel
theorem d_Msg_readFrom_152 : decode prog_7_method_3_code 152 = .ok (.getfield 49, 3) := by decide +kernel
theorem d_Msg_readFrom_155 : decode prog_7_method_3_code 155 = .ok (.iconst 3, 1) := by decide +kernel
theorem d_Msg_readFrom_156 : decode prog_7_method_3_code 156 = .ok (.if_icmp .eq (12), 3) := by decide +kernel
theorem d_Msg_readFrom_159 : decode prog_7_method_3_code 159 = .ok (.aload_n 0, 1) := by decide +kernel
theorem d_Msg_readFrom_160 : decode prog_7_method_3_code 160 = .ok (.getfield 49, 3) := by decide +kernel
theorem d_Msg_readFrom_163 : decode prog_7_method_3_code 163 = .ok (.bipush (24), 2) := by decide +kernel
theorem d_Msg_readFrom_165 : decode prog_7_method_3_code 165 = .ok (.if_icmp .ne (7), 3) := by decide +kernel
theorem d_Msg_readFrom_168 : decode prog_7_method_3_code 168 = .ok (.iconst 1, 1) := by decide +kernel
theorem d_Msg_readFrom_169 : decode prog_7_method_3_code 169 = .ok (.goto (4), 3) := by decide +kernel
theorem d_Msg_readFrom_172 : decode prog_7_method_3_code 172 = .ok (.iconst 0, 1) := by decide +kernel
theorem d_Msg_readFrom_173 : decode prog_7_method_3_code 173 = .ok (.istore_n 3, 1) := by decide +kernel
theorem d_Msg_readFrom_174 : decode prog_7_method_3_code 174 = .ok (.iconst 0, 1) := by decide +kernel
theorem d_Msg_readFrom_175 : decode prog_7_method_3_code 175 = .ok (.istore 4, 2) := by decide +kernel
theorem d_Msg_readFrom_177 : decode prog_7_method_3_code 177 = .ok (.iload 4, 2) := by decide +kernel
theorem d_Msg_readFrom_179 : decode prog_7_method_3_code 179 = .ok (.sipush (600), 3) := by decide +kernel
theorem d_Msg_readFrom_182 : decode prog_7_method_3_code 182 = .ok (.if_icmp .ge (32), 3) := by decide +kernel
theorem d_Msg_readFrom_185 : decode prog_7_method_3_code 185 = .ok (.iload_n 3, 1) := by decide +kernel
theorem d_Msg_readFrom_186 : decode prog_7_method_3_code 186 = .ok (.ifCond .eq (28), 3) := by decide +kernel
theorem d_Msg_readFrom_189 : decode prog_7_method_3_code 189 = .ok (.aload_n 1, 1) := by decide +kernel
theorem d_Msg_readFrom_190 : decode prog_7_method_3_code 190 = .ok (.invokevirtual 69, 3) := by decide +kernel
theorem d_Msg_readFrom_193 : decode prog_7_method_3_code 193 = .ok (.ifCond .eq (21), 3) := by decide +kernel
theorem d_Msg_readFrom_196 : decode prog_7_method_3_code 196 = .ok (.aload_n 1, 1) := by decide +kernel
theorem d_Msg_readFrom_197 : decode prog_7_method_3_code 197 = .ok (.invokevirtual 73, 3) := by decide +kernel
theorem d_Msg_readFrom_200 : decode prog_7_method_3_code 200 = .ok (.ifCond .le (14), 3) := by decide +kernel
theorem d_Msg_readFrom_203 : decode prog_7_method_3_code 203 = .ok (.aload_n 0, 1) := by decide +kernel
theorem d_Msg_readFrom_204 : decode prog_7_method_3_code 204 = .ok (.aload_n 1, 1) := by decide +kernel
theorem d_Msg_readFrom_205 : decode prog_7_method_3_code 205 = .ok (.invokevirtual 77, 3) := by decide +kernel
theorem d_Msg_readFrom_208 : decode prog_7_method_3_code 208 = .ok (.iinc 4 (1), 3) := by decide +kernel
theorem d_Msg_readFrom_211 : decode prog_7_method_3_code 211 = .ok (.goto (-34), 3) := by decide +kernel
theorem d_Msg_readFrom_214 : decode prog_7_method_3_code 214 = .ok (.aload_n 1, 1) := by decide +kernel
theorem d_Msg_readFrom_215 : decode prog_7_method_3_code 215 = .ok (.aload_n 1, 1) := by decide +kernel
theorem d_Msg_readFrom_216 : decode prog_7_method_3_code 216 = .ok (.invokevirtual 73, 3) := by decide +kernel
theorem d_Msg_readFrom_219 : decode prog_7_method_3_code 219 = .ok (.ifCond .ne (7), 3) := by decide +kernel
theorem d_Msg_readFrom_222 : decode prog_7_method_3_code 222 = .ok (.iconst 1, 1) := by decide +kernel
theorem d_Msg_readFrom_223 : decode prog_7_method_3_code 223 = .ok (.goto (4), 3) := by decide +kernel
theorem d_Msg_readFrom_226 : decode prog_7_method_3_code 226 = .ok (.iconst 0, 1) := by decide +kernel
theorem d_Msg_readFrom_227 : decode prog_7_method_3_code 227 = .ok (.iconst 2, 1) := by decide +kernel
theorem d_Msg_readFrom_228 : decode prog_7_method_3_code 228 = .ok (.invokevirtual 52, 3) := by decide +kernel
theorem d_Msg_readFrom_231 : decode prog_7_method_3_code 231 = .ok (.aload_n 1, 1) := by decide +kernel
theorem d_Msg_readFrom_232 : decode prog_7_method_3_code 232 = .ok (.getfield 81, 3) := by decide +kernel
theorem d_Msg_readFrom_235 : decode prog_7_method_3_code 235 = .ok (.ireturn, 1) := by decide +kernel
theorem d_Msg_readPacket_0 : decode prog_7_method_4_code 0 = .ok (.aload_n 1, 1) := by decide +kernel
theorem d_Msg_readPacket_1 : decode prog_7_method_4_code 1 = .ok (.invokevirtual 73, 3) := by decide +kernel
theorem d_Msg_readPacket_4 : decode prog_7_method_4_code 4 = .ok (.istore_n 2, 1) := by decide +kernel
theorem d_Msg_readPacket_5 : decode prog_7_method_4_code 5 = .ok (.aload_n 1, 1) := by decide +kernel
theorem d_Msg_readPacket_6 : decode prog_7_method_4_code 6 = .ok (.bipush (8), 2) := by decide +kernel
theorem d_Msg_readPacket_8 : decode prog_7_method_4_code 8 = .ok (.invokevirtual 45, 3) := by decide +kernel
theorem d_Msg_readPacket_11 : decode prog_7_method_4_code 11 = .ok (.invokestatic 84, 3) := by decide +kernel
theorem d_Msg_readPacket_14 : decode prog_7_method_4_code 14 = .ok (.istore_n 3, 1) := by decide +kernel
theorem d_Msg_readPacket_15 : decode prog_7_method_4_code 15 = .ok (.aload_n 1, 1) := by decide +kernel
theorem d_Msg_readPacket_16 : decode prog_7_method_4_code 16 = .ok (.iload_n 3, 1) := by decide +kernel
theorem d_Msg_readPacket_17 : decode prog_7_method_4_code 17 = .ok (.ifCond .lt (7), 3) := by decide +kernel
theorem d_Msg_readPacket_20 : decode prog_7_method_4_code 20 = .ok (.iconst 1, 1) := by decide +kernel
theorem d_Msg_readPacket_21 : decode prog_7_method_4_code 21 = .ok (.goto (4), 3) := by decide +kernel
theorem d_Msg_readPacket_24 : decode prog_7_method_4_code 24 = .ok (.iconst 0, 1) := by decide +kernel
theorem d_Msg_readPacket_25 : decode prog_7_method_4_code 25 = .ok (.iconst 4, 1) := by decide +kernel
theorem d_Msg_readPacket_26 : decode prog_7_method_4_code 26 = .ok (.invokevirtual 52, 3) := by decide +kernel
theorem d_Msg_readPacket_29 : decode prog_7_method_4_code 29 = .ok (.aload_n 1, 1) := by decide +kernel
theorem d_Msg_readPacket_30 : decode prog_7_method_4_code 30 = .ok (.iload_n 3, 1) := by decide +kernel
theorem d_Msg_readPacket_31 : decode prog_7_method_4_code 31 = .ok (.ifCond .lt (12), 3) := by decide +kernel
theorem d_Msg_readPacket_34 : decode prog_7_method_4_code 34 = .ok (.aload_n 0, 1) := by decide +kernel
theorem d_Msg_readPacket_35 : decode prog_7_method_4_code 35 = .ok (.getfield 15, 3) := by decide +kernel
theorem d_Msg_readPacket_38 : decode prog_7_method_4_code 38 = .ok (.iload_n 3, 1) := by decide +kernel
theorem d_Msg_readPacket_39 : decode prog_7_method_4_code 39 = .ok (.baload, 1) := by decide +kernel
theorem d_Msg_readPacket_40 : decode prog_7_method_4_code 40 = .ok (.ifCond .ne (7), 3) := by decide +kernel
theorem d_Msg_readPacket_43 : decode prog_7_method_4_code 43 = .ok (.iconst 1, 1) := by decide +kernel
theorem d_Msg_readPacket_44 : decode prog_7_method_4_code 44 = .ok (.goto (4), 3) := by decide +kernel
theorem d_Msg_readPacket_47 : decode prog_7_method_4_code 47 = .ok (.iconst 0, 1) := by decide +kernel
theorem d_Msg_readPacket_48 : decode prog_7_method_4_code 48 = .ok (.bipush (7), 2) := by decide +kernel
theorem d_Msg_readPacket_50 : decode prog_7_method_4_code 50 = .ok (.invokevirtual 52, 3) := by decide +kernel
theorem d_Msg_readPacket_53 : decode prog_7_method_4_code 53 = .ok (.aload_n 1, 1) := by decide +kernel
theorem d_Msg_readPacket_54 : decode prog_7_method_4_code 54 = .ok (.bipush (13), 2) := by decide +kernel
theorem d_Msg_readPacket_56 : decode prog_7_method_4_code 56 = .ok (.invokevirtual 45, 3) := by decide +kernel
theorem d_Msg_readPacket_59 : decode prog_7_method_4_code 59 = .ok (.istore 4, 2) := by decide +kernel
theorem d_Msg_readPacket_61 : decode prog_7_method_4_code 61 = .ok (.aload_n 1, 1) := by decide +kernel
theorem d_Msg_readPacket_62 : decode prog_7_method_4_code 62 = .ok (.iload 4, 2) := by decide +kernel
theorem d_Msg_readPacket_64 : decode prog_7_method_4_code 64 = .ok (.bipush (21), 2) := by decide +kernel
theorem d_Msg_readPacket_66 : decode prog_7_method_4_code 66 = .ok (.if_icmp .lt (13), 3) := by decide +kernel
theorem d_Msg_readPacket_69 : decode prog_7_method_4_code 69 = .ok (.iload 4, 2) := by decide +kernel
theorem d_Msg_readPacket_71 : decode prog_7_method_4_code 71 = .ok (.iload_n 2, 1) := by decide +kernel
theorem d_Msg_readPacket_72 : decode prog_7_method_4_code 72 = .ok (.if_icmp .gt (7), 3) := by decide +kernel
theorem d_Msg_readPacket_75 : decode prog_7_method_4_code 75 = .ok (.iconst 1, 1) := by decide +kernel
theorem d_Msg_readPacket_76 : decode prog_7_method_4_code 76 = .ok (.goto (4), 3) := by decide +kernel
theorem d_Msg_readPacket_79 : decode prog_7_method_4_code 79 = .ok (.iconst 0, 1) := by decide +kernel
theorem d_Msg_readPacket_80 : decode prog_7_method_4_code 80 = .ok (.iconst 2, 1) := by decide +kernel
theorem d_Msg_readPacket_81 : decode prog_7_method_4_code 81 = .ok (.invokevirtual 52, 3) := by decide +kernel
theorem d_Msg_readPacket_84 : decode prog_7_method_4_code 84 = .ok (.iload_n 3, 1) := by decide +kernel
theorem d_Msg_readPacket_85 : decode prog_7_method_4_code 85 = .ok (.ifCond .lt (44), 3) := by decide +kernel
theorem d_Msg_readPacket_88 : decode prog_7_method_4_code 88 = .ok (.aload_n 1, 1) := by decide +kernel
theorem d_Msg_readPacket_89 : decode prog_7_method_4_code 89 = .ok (.invokevirtual 69, 3) := by decide +kernel
theorem d_Msg_readPacket_92 : decode prog_7_method_4_code 92 = .ok (.ifCond .eq (37), 3) := by decide +kernel
theorem d_Msg_readPacket_95 : decode prog_7_method_4_code 95 = .ok (.aload_n 0, 1) := by decide +kernel
theorem d_Msg_readPacket_96 : decode prog_7_method_4_code 96 = .ok (.getfield 15, 3) := by decide +kernel
theorem d_Msg_readPacket_99 : decode prog_7_method_4_code 99 = .ok (.iload_n 3, 1) := by decide +kernel
theorem d_Msg_readPacket_100 : decode prog_7_method_4_code 100 = .ok (.iconst 1, 1) := by decide +kernel
theorem d_Msg_readPacket_101 : decode prog_7_method_4_code 101 = .ok (.bastore, 1) := by decide +kernel
theorem d_Msg_readPacket_102 : decode prog_7_method_4_code 102 = .ok (.aload_n 0, 1) := by decide +kernel
theorem d_Msg_readPacket_103 : decode prog_7_method_4_code 103 = .ok (.aload_n 1, 1) := by decide +kernel
theorem d_Msg_readPacket_104 : decode prog_7_method_4_code 104 = .ok (.iload_n 3, 1) := by decide +kernel
theorem d_Msg_readPacket_105 : decode prog_7_method_4_code 105 = .ok (.invokevirtual 87, 3) := by decide +kernel
theorem d_Msg_readPacket_108 : decode prog_7_method_4_code 108 = .ok (.aload_n 1, 1) := by decide +kernel
theorem d_Msg_readPacket_109 : decode prog_7_method_4_code 109 = .ok (.iload_n 2, 1) := by decide +kernel
theorem d_Msg_readPacket_110 : decode prog_7_method_4_code 110 = .ok (.aload_n 1, 1) := by decide +kernel
theorem d_Msg_readPacket_111 : decode prog_7_method_4_code 111 = .ok (.invokevirtual 73, 3) := by decide +kernel
theorem d_Msg_readPacket_114 : decode prog_7_method_4_code 114 = .ok (.isub, 1) := by decide +kernel
theorem d_Msg_readPacket_115 : decode prog_7_method_4_code 115 = .ok (.iload 4, 2) := by decide +kernel
theorem d_Msg_readPacket_117 : decode prog_7_method_4_code 117 = .ok (.if_icmp .ne (7), 3) := by decide +kernel
theorem d_Msg_readPacket_120 : decode prog_7_method_4_code 120 = .ok (.iconst 1, 1) := by decide +kernel
theorem d_Msg_readPacket_121 : decode prog_7_method_4_code 121 = .ok (.goto (4), 3) := by decide +kernel
theorem d_Msg_readPacket_124 : decode prog_7_method_4_code 124 = .ok (.iconst 0, 1) := by decide +kernel
theorem d_Msg_readPacket_125 : decode prog_7_method_4_code 125 = .ok (.iconst 5, 1) := by decide +kernel
theorem d_Msg_readPacket_126 : decode prog_7_method_4_code 126 = .ok (.invokevirtual 52, 3) := by decide +kernel
theorem d_Msg_readPacket_129 : decode prog_7_method_4_code 129 = .ok (.return_, 1) := by decide +kernel
theorem d_Msg_slotOf_0 : decode prog_7_method_5_code 0 = .ok (.iconst 0, 1) := by decide +kernel
theorem d_Msg_slotOf_1 : decode prog_7_method_5_code 1 = .ok (.istore_n 1, 1) := by decide +kernel
theorem d_Msg_slotOf_2 : decode prog_7_method_5_code 2 = .ok (.iload_n 1, 1) := by decide +kernel
theorem d_Msg_slotOf_3 : decode prog_7_method_5_code 3 = .ok (.getstatic 9, 3) := by decide +kernel
theorem d_Msg_slotOf_6 : decode prog_7_method_5_code 6 = .ok (.arraylength, 1) := by decide +kernel
theorem d_Msg_slotOf_7 : decode prog_7_method_5_code 7 = .ok (.if_icmp .ge (20), 3) := by decide +kernel
theorem d_Msg_slotOf_10 : decode prog_7_method_5_code 10 = .ok (.getstatic 9, 3) := by decide +kernel
theorem d_Msg_slotOf_13 : decode prog_7_method_5_code 13 = .ok (.iload_n 1, 1) := by decide +kernel
theorem d_Msg_slotOf_14 : decode prog_7_method_5_code 14 = .ok (.iaload, 1) := by decide +kernel
theorem d_Msg_slotOf_15 : decode prog_7_method_5_code 15 = .ok (.iload_n 0, 1) := by decide +kernel
theorem d_Msg_slotOf_16 : decode prog_7_method_5_code 16 = .ok (.if_icmp .ne (5), 3) := by decide +kernel
theorem d_Msg_slotOf_19 : decode prog_7_method_5_code 19 = .ok (.iload_n 1, 1) := by decide +kernel
theorem d_Msg_slotOf_20 : decode prog_7_method_5_code 20 = .ok (.ireturn, 1) := by decide +kernel
theorem d_Msg_slotOf_21 : decode prog_7_method_5_code 21 = .ok (.iinc 1 (1), 3) := by decide +kernel
theorem d_Msg_slotOf_24 : decode prog_7_method_5_code 24 = .ok (.goto (-22), 3) := by decide +kernel
theorem d_Msg_slotOf_27 : decode prog_7_method_5_code 27 = .ok (.iconst (-1), 1) := by decide +kernel
theorem d_Msg_slotOf_28 : decode prog_7_method_5_code 28 = .ok (.ireturn, 1) := by decide +kernel
theorem d_Msg_readNumbers_0 : decode prog_7_method_6_code 0 = .ok (.iload_n 2, 1) := by decide +kernel
theorem d_Msg_readNumbers_1 : decode prog_7_method_6_code 1 = .ok (.tableswitch (85) (0) (4) #[35, 43, 51, 64, 77], 35) := by decide +kernel
theorem d_Msg_readNumbers_36 : decode prog_7_method_6_code 36 = .ok (.aload_n 0, 1) := by decide +kernel
theorem d_Msg_readNumbers_37 : decode prog_7_method_6_code 37 = .ok (.aload_n 1, 1) := by decide +kernel
theorem d_Msg_readNumbers_38 : decode prog_7_method_6_code 38 = .ok (.invokevirtual 91, 3) := by decide +kernel
theorem d_Msg_readNumbers_41 : decode prog_7_method_6_code 41 = .ok (.goto (55), 3) := by decide +kernel
theorem d_Msg_readNumbers_44 : decode prog_7_method_6_code 44 = .ok (.aload_n 0, 1) := by decide +kernel
theorem d_Msg_readNumbers_45 : decode prog_7_method_6_code 45 = .ok (.aload_n 1, 1) := by decide +kernel
theorem d_Msg_readNumbers_46 : decode prog_7_method_6_code 46 = .ok (.invokevirtual 94, 3) := by decide +kernel
theorem d_Msg_readNumbers_49 : decode prog_7_method_6_code 49 = .ok (.goto (47), 3) := by decide +kernel
theorem d_Msg_readNumbers_52 : decode prog_7_method_6_code 52 = .ok (.aload_n 0, 1) := by decide +kernel
theorem d_Msg_readNumbers_53 : decode prog_7_method_6_code 53 = .ok (.aload_n 1, 1) := by decide +kernel
theorem d_Msg_readNumbers_54 : decode prog_7_method_6_code 54 = .ok (.aload_n 0, 1) := by decide +kernel
theorem d_Msg_readNumbers_55 : decode prog_7_method_6_code 55 = .ok (.getfield 29, 3) := by decide +kernel
theorem d_Msg_readNumbers_58 : decode prog_7_method_6_code 58 = .ok (.iconst 0, 1) := by decide +kernel
theorem d_Msg_readNumbers_59 : decode prog_7_method_6_code 59 = .ok (.invokevirtual 97, 3) := by decide +kernel
theorem d_Msg_readNumbers_62 : decode prog_7_method_6_code 62 = .ok (.goto (34), 3) := by decide +kernel
theorem d_Msg_readNumbers_65 : decode prog_7_method_6_code 65 = .ok (.aload_n 0, 1) := by decide +kernel
theorem d_Msg_readNumbers_66 : decode prog_7_method_6_code 66 = .ok (.aload_n 1, 1) := by decide +kernel
theorem d_Msg_readNumbers_67 : decode prog_7_method_6_code 67 = .ok (.aload_n 0, 1) := by decide +kernel
theorem d_Msg_readNumbers_68 : decode prog_7_method_6_code 68 = .ok (.getfield 33, 3) := by decide +kernel
theorem d_Msg_readNumbers_71 : decode prog_7_method_6_code 71 = .ok (.iconst 1, 1) := by decide +kernel
theorem d_Msg_readNumbers_72 : decode prog_7_method_6_code 72 = .ok (.invokevirtual 97, 3) := by decide +kernel
theorem d_Msg_readNumbers_75 : decode prog_7_method_6_code 75 = .ok (.goto (21), 3) := by decide +kernel
theorem d_Msg_readNumbers_78 : decode prog_7_method_6_code 78 = .ok (.aload_n 0, 1) := by decide +kernel
theorem d_Msg_readNumbers_79 : decode prog_7_method_6_code 79 = .ok (.aload_n 1, 1) := by decide +kernel
theorem d_Msg_readNumbers_80 : decode prog_7_method_6_code 80 = .ok (.invokevirtual 101, 3) := by decide +kernel
theorem d_Msg_readNumbers_83 : decode prog_7_method_6_code 83 = .ok (.goto (13), 3) := by decide +kernel
theorem d_Msg_readNumbers_86 : decode prog_7_method_6_code 86 = .ok (.aload_n 0, 1) := by decide +kernel
theorem d_Msg_readNumbers_87 : decode prog_7_method_6_code 87 = .ok (.aload_n 1, 1) := by decide +kernel
theorem d_Msg_readNumbers_88 : decode prog_7_method_6_code 88 = .ok (.bipush (8), 2) := by decide +kernel
theorem d_Msg_readNumbers_90 : decode prog_7_method_6_code 90 = .ok (.invokevirtual 45, 3) := by decide +kernel
theorem d_Msg_readNumbers_93 : decode prog_7_method_6_code 93 = .ok (.putfield 36, 3) := by decide +kernel
theorem d_Msg_readNumbers_96 : decode prog_7_method_6_code 96 = .ok (.return_, 1) := by decide +kernel
