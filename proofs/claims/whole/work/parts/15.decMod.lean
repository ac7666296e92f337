theorem d_Mod_init_0 : decode b_Mod_init 0 = .ok (.aload_n 0, 1) := by decide +kernel
theorem d_Mod_init_1 : decode b_Mod_init 1 = .ok (.invokespecial 1, 3) := by decide +kernel
theorem d_Mod_init_4 : decode b_Mod_init 4 = .ok (.aload_n 0, 1) := by decide +kernel
theorem d_Mod_init_5 : decode b_Mod_init 5 = .ok (.sipush 300, 3) := by decide +kernel
theorem d_Mod_init_8 : decode b_Mod_init 8 = .ok (.newarray .int, 2) := by decide +kernel
theorem d_Mod_init_10 : decode b_Mod_init 10 = .ok (.putfield 7, 3) := by decide +kernel
theorem d_Mod_init_13 : decode b_Mod_init 13 = .ok (.aload_n 0, 1) := by decide +kernel
theorem d_Mod_init_14 : decode b_Mod_init 14 = .ok (.iconst (-1), 1) := by decide +kernel
theorem d_Mod_init_15 : decode b_Mod_init 15 = .ok (.putfield 13, 3) := by decide +kernel
theorem d_Mod_init_18 : decode b_Mod_init 18 = .ok (.aload_n 0, 1) := by decide +kernel
theorem d_Mod_init_19 : decode b_Mod_init 19 = .ok (.bipush 8, 2) := by decide +kernel
theorem d_Mod_init_21 : decode b_Mod_init 21 = .ok (.newarray .int, 2) := by decide +kernel
theorem d_Mod_init_23 : decode b_Mod_init 23 = .ok (.putfield 17, 3) := by decide +kernel
theorem d_Mod_init_26 : decode b_Mod_init 26 = .ok (.aload_n 0, 1) := by decide +kernel
theorem d_Mod_init_27 : decode b_Mod_init 27 = .ok (.sipush 150, 3) := by decide +kernel
theorem d_Mod_init_30 : decode b_Mod_init 30 = .ok (.newarray .int, 2) := by decide +kernel
theorem d_Mod_init_32 : decode b_Mod_init 32 = .ok (.putfield 20, 3) := by decide +kernel
theorem d_Mod_init_35 : decode b_Mod_init 35 = .ok (.aload_n 0, 1) := by decide +kernel
theorem d_Mod_init_36 : decode b_Mod_init 36 = .ok (.sipush 150, 3) := by decide +kernel
theorem d_Mod_init_39 : decode b_Mod_init 39 = .ok (.newarray .int, 2) := by decide +kernel
theorem d_Mod_init_41 : decode b_Mod_init 41 = .ok (.putfield 23, 3) := by decide +kernel
theorem d_Mod_init_44 : decode b_Mod_init 44 = .ok (.aload_n 0, 1) := by decide +kernel
theorem d_Mod_init_45 : decode b_Mod_init 45 = .ok (.bipush 18, 2) := by decide +kernel
theorem d_Mod_init_47 : decode b_Mod_init 47 = .ok (.newarray .int, 2) := by decide +kernel
theorem d_Mod_init_49 : decode b_Mod_init 49 = .ok (.putfield 26, 3) := by decide +kernel
theorem d_Mod_init_52 : decode b_Mod_init 52 = .ok (.aload_n 0, 1) := by decide +kernel
theorem d_Mod_init_53 : decode b_Mod_init 53 = .ok (.bipush 8, 2) := by decide +kernel
theorem d_Mod_init_55 : decode b_Mod_init 55 = .ok (.newarray .int, 2) := by decide +kernel
theorem d_Mod_init_57 : decode b_Mod_init 57 = .ok (.putfield 29, 3) := by decide +kernel
theorem d_Mod_init_60 : decode b_Mod_init 60 = .ok (.return_, 1) := by decide +kernel
theorem d_Mod_expectWord_0 : decode b_Mod_expectWord 0 = .ok (.iconst 0, 1) := by decide +kernel
theorem d_Mod_expectWord_1 : decode b_Mod_expectWord 1 = .ok (.istore_n 2, 1) := by decide +kernel
theorem d_Mod_expectWord_2 : decode b_Mod_expectWord 2 = .ok (.iload_n 2, 1) := by decide +kernel
theorem d_Mod_expectWord_3 : decode b_Mod_expectWord 3 = .ok (.aload_n 1, 1) := by decide +kernel
theorem d_Mod_expectWord_4 : decode b_Mod_expectWord 4 = .ok (.invokevirtual 58, 3) := by decide +kernel
theorem d_Mod_expectWord_7 : decode b_Mod_expectWord 7 = .ok (.if_icmp .ge 23, 3) := by decide +kernel
theorem d_Mod_expectWord_10 : decode b_Mod_expectWord 10 = .ok (.aload_n 0, 1) := by decide +kernel
theorem d_Mod_expectWord_11 : decode b_Mod_expectWord 11 = .ok (.aload_n 1, 1) := by decide +kernel
theorem d_Mod_expectWord_12 : decode b_Mod_expectWord 12 = .ok (.iload_n 2, 1) := by decide +kernel
theorem d_Mod_expectWord_13 : decode b_Mod_expectWord 13 = .ok (.invokevirtual 63, 3) := by decide +kernel
theorem d_Mod_expectWord_16 : decode b_Mod_expectWord 16 = .ok (.invokevirtual 67, 3) := by decide +kernel
theorem d_Mod_expectWord_19 : decode b_Mod_expectWord 19 = .ok (.ifCond .ne 5, 3) := by decide +kernel
theorem d_Mod_expectWord_22 : decode b_Mod_expectWord 22 = .ok (.iconst 0, 1) := by decide +kernel
theorem d_Mod_expectWord_23 : decode b_Mod_expectWord 23 = .ok (.ireturn, 1) := by decide +kernel
theorem d_Mod_expectWord_24 : decode b_Mod_expectWord 24 = .ok (.iinc 2 1, 3) := by decide +kernel
theorem d_Mod_expectWord_27 : decode b_Mod_expectWord 27 = .ok (.goto (-25), 3) := by decide +kernel
theorem d_Mod_expectWord_30 : decode b_Mod_expectWord 30 = .ok (.iconst 1, 1) := by decide +kernel
theorem d_Mod_expectWord_31 : decode b_Mod_expectWord 31 = .ok (.ireturn, 1) := by decide +kernel
theorem d_Mod_expect_0 : decode b_Mod_expect 0 = .ok (.aload_n 0, 1) := by decide +kernel
theorem d_Mod_expect_1 : decode b_Mod_expect 1 = .ok (.getfield 43, 3) := by decide +kernel
theorem d_Mod_expect_4 : decode b_Mod_expect 4 = .ok (.ifCond .eq 5, 3) := by decide +kernel
theorem d_Mod_expect_7 : decode b_Mod_expect 7 = .ok (.iconst 0, 1) := by decide +kernel
theorem d_Mod_expect_8 : decode b_Mod_expect 8 = .ok (.ireturn, 1) := by decide +kernel
theorem d_Mod_expect_9 : decode b_Mod_expect 9 = .ok (.aload_n 0, 1) := by decide +kernel
theorem d_Mod_expect_10 : decode b_Mod_expect 10 = .ok (.invokevirtual 50, 3) := by decide +kernel
theorem d_Mod_expect_13 : decode b_Mod_expect 13 = .ok (.iload_n 1, 1) := by decide +kernel
theorem d_Mod_expect_14 : decode b_Mod_expect 14 = .ok (.if_icmp .eq 12, 3) := by decide +kernel
theorem d_Mod_expect_17 : decode b_Mod_expect 17 = .ok (.aload_n 0, 1) := by decide +kernel
theorem d_Mod_expect_18 : decode b_Mod_expect 18 = .ok (.aload_n 0, 1) := by decide +kernel
theorem d_Mod_expect_19 : decode b_Mod_expect 19 = .ok (.getfield 40, 3) := by decide +kernel
theorem d_Mod_expect_22 : decode b_Mod_expect 22 = .ok (.invokevirtual 54, 3) := by decide +kernel
theorem d_Mod_expect_25 : decode b_Mod_expect 25 = .ok (.ireturn, 1) := by decide +kernel
theorem d_Mod_expect_26 : decode b_Mod_expect 26 = .ok (.aload_n 0, 1) := by decide +kernel
theorem d_Mod_expect_27 : decode b_Mod_expect 27 = .ok (.dup, 1) := by decide +kernel
theorem d_Mod_expect_28 : decode b_Mod_expect 28 = .ok (.getfield 40, 3) := by decide +kernel
theorem d_Mod_expect_31 : decode b_Mod_expect 31 = .ok (.iconst 1, 1) := by decide +kernel
theorem d_Mod_expect_32 : decode b_Mod_expect 32 = .ok (.iadd, 1) := by decide +kernel
theorem d_Mod_expect_33 : decode b_Mod_expect 33 = .ok (.putfield 40, 3) := by decide +kernel
theorem d_Mod_expect_36 : decode b_Mod_expect 36 = .ok (.iconst 1, 1) := by decide +kernel
theorem d_Mod_expect_37 : decode b_Mod_expect 37 = .ok (.ireturn, 1) := by decide +kernel
theorem d_Mod_isDigit_0 : decode b_Mod_isDigit 0 = .ok (.iload_n 0, 1) := by decide +kernel
theorem d_Mod_isDigit_1 : decode b_Mod_isDigit 1 = .ok (.bipush 48, 2) := by decide +kernel
theorem d_Mod_isDigit_3 : decode b_Mod_isDigit 3 = .ok (.if_icmp .lt 13, 3) := by decide +kernel
theorem d_Mod_isDigit_6 : decode b_Mod_isDigit 6 = .ok (.iload_n 0, 1) := by decide +kernel
theorem d_Mod_isDigit_7 : decode b_Mod_isDigit 7 = .ok (.bipush 57, 2) := by decide +kernel
theorem d_Mod_isDigit_9 : decode b_Mod_isDigit 9 = .ok (.if_icmp .gt 7, 3) := by decide +kernel
theorem d_Mod_isDigit_12 : decode b_Mod_isDigit 12 = .ok (.iconst 1, 1) := by decide +kernel
theorem d_Mod_isDigit_13 : decode b_Mod_isDigit 13 = .ok (.goto 4, 3) := by decide +kernel
theorem d_Mod_isDigit_16 : decode b_Mod_isDigit 16 = .ok (.iconst 0, 1) := by decide +kernel
theorem d_Mod_isDigit_17 : decode b_Mod_isDigit 17 = .ok (.ireturn, 1) := by decide +kernel
theorem d_Mod_line_0 : decode b_Mod_line 0 = .ok (.aload_n 0, 1) := by decide +kernel
theorem d_Mod_line_1 : decode b_Mod_line 1 = .ok (.getfield 40, 3) := by decide +kernel
theorem d_Mod_line_4 : decode b_Mod_line 4 = .ok (.aload_n 0, 1) := by decide +kernel
theorem d_Mod_line_5 : decode b_Mod_line 5 = .ok (.getfield 35, 3) := by decide +kernel
theorem d_Mod_line_8 : decode b_Mod_line 8 = .ok (.if_icmp .lt 13, 3) := by decide +kernel
theorem d_Mod_line_11 : decode b_Mod_line 11 = .ok (.aload_n 0, 1) := by decide +kernel
theorem d_Mod_line_12 : decode b_Mod_line 12 = .ok (.aload_n 0, 1) := by decide +kernel
theorem d_Mod_line_13 : decode b_Mod_line 13 = .ok (.getfield 35, 3) := by decide +kernel
theorem d_Mod_line_16 : decode b_Mod_line 16 = .ok (.invokevirtual 54, 3) := by decide +kernel
theorem d_Mod_line_19 : decode b_Mod_line 19 = .ok (.pop, 1) := by decide +kernel
theorem d_Mod_line_20 : decode b_Mod_line 20 = .ok (.return_, 1) := by decide +kernel
theorem d_Mod_line_21 : decode b_Mod_line 21 = .ok (.aload_n 0, 1) := by decide +kernel
theorem d_Mod_line_22 : decode b_Mod_line 22 = .ok (.invokevirtual 200, 3) := by decide +kernel
theorem d_Mod_line_25 : decode b_Mod_line 25 = .ok (.ifCond .ne 4, 3) := by decide +kernel
theorem d_Mod_line_28 : decode b_Mod_line 28 = .ok (.return_, 1) := by decide +kernel
theorem d_Mod_line_29 : decode b_Mod_line 29 = .ok (.iload_n 1, 1) := by decide +kernel
theorem d_Mod_line_30 : decode b_Mod_line 30 = .ok (.ifCond .eq 19, 3) := by decide +kernel
theorem d_Mod_line_33 : decode b_Mod_line 33 = .ok (.aload_n 0, 1) := by decide +kernel
theorem d_Mod_line_34 : decode b_Mod_line 34 = .ok (.ldc 204, 2) := by decide +kernel
theorem d_Mod_line_36 : decode b_Mod_line 36 = .ok (.invokevirtual 206, 3) := by decide +kernel
theorem d_Mod_line_39 : decode b_Mod_line 39 = .ok (.ifCond .eq 10, 3) := by decide +kernel
theorem d_Mod_line_42 : decode b_Mod_line 42 = .ok (.aload_n 0, 1) := by decide +kernel
theorem d_Mod_line_43 : decode b_Mod_line 43 = .ok (.invokevirtual 209, 3) := by decide +kernel
theorem d_Mod_line_46 : decode b_Mod_line 46 = .ok (.goto 91, 3) := by decide +kernel
theorem d_Mod_line_49 : decode b_Mod_line 49 = .ok (.iload_n 1, 1) := by decide +kernel
theorem d_Mod_line_50 : decode b_Mod_line 50 = .ok (.ifCond .eq 19, 3) := by decide +kernel
theorem d_Mod_line_53 : decode b_Mod_line 53 = .ok (.aload_n 0, 1) := by decide +kernel
theorem d_Mod_line_54 : decode b_Mod_line 54 = .ok (.ldc 211, 2) := by decide +kernel
theorem d_Mod_line_56 : decode b_Mod_line 56 = .ok (.invokevirtual 206, 3) := by decide +kernel
theorem d_Mod_line_59 : decode b_Mod_line 59 = .ok (.ifCond .eq 10, 3) := by decide +kernel
theorem d_Mod_line_62 : decode b_Mod_line 62 = .ok (.aload_n 0, 1) := by decide +kernel
theorem d_Mod_line_63 : decode b_Mod_line 63 = .ok (.invokevirtual 213, 3) := by decide +kernel
theorem d_Mod_line_66 : decode b_Mod_line 66 = .ok (.goto 71, 3) := by decide +kernel
theorem d_Mod_line_69 : decode b_Mod_line 69 = .ok (.aload_n 0, 1) := by decide +kernel
theorem d_Mod_line_70 : decode b_Mod_line 70 = .ok (.ldc 216, 2) := by decide +kernel
theorem d_Mod_line_72 : decode b_Mod_line 72 = .ok (.invokevirtual 206, 3) := by decide +kernel
theorem d_Mod_line_75 : decode b_Mod_line 75 = .ok (.ifCond .eq 11, 3) := by decide +kernel
theorem d_Mod_line_78 : decode b_Mod_line 78 = .ok (.aload_n 0, 1) := by decide +kernel
theorem d_Mod_line_79 : decode b_Mod_line 79 = .ok (.iload_n 1, 1) := by decide +kernel
theorem d_Mod_line_80 : decode b_Mod_line 80 = .ok (.invokevirtual 218, 3) := by decide +kernel
theorem d_Mod_line_83 : decode b_Mod_line 83 = .ok (.goto 54, 3) := by decide +kernel
theorem d_Mod_line_86 : decode b_Mod_line 86 = .ok (.iload_n 1, 1) := by decide +kernel
theorem d_Mod_line_87 : decode b_Mod_line 87 = .ok (.ifCond .ne 26, 3) := by decide +kernel
theorem d_Mod_line_90 : decode b_Mod_line 90 = .ok (.aload_n 0, 1) := by decide +kernel
theorem d_Mod_line_91 : decode b_Mod_line 91 = .ok (.ldc 221, 2) := by decide +kernel
theorem d_Mod_line_93 : decode b_Mod_line 93 = .ok (.invokevirtual 206, 3) := by decide +kernel
theorem d_Mod_line_96 : decode b_Mod_line 96 = .ok (.ifCond .eq 17, 3) := by decide +kernel
theorem d_Mod_line_99 : decode b_Mod_line 99 = .ok (.aload_n 0, 1) := by decide +kernel
theorem d_Mod_line_100 : decode b_Mod_line 100 = .ok (.aload_n 0, 1) := by decide +kernel
theorem d_Mod_line_101 : decode b_Mod_line 101 = .ok (.sipush 255, 3) := by decide +kernel
theorem d_Mod_line_104 : decode b_Mod_line 104 = .ok (.invokevirtual 73, 3) := by decide +kernel
theorem d_Mod_line_107 : decode b_Mod_line 107 = .ok (.putfield 185, 3) := by decide +kernel
theorem d_Mod_line_110 : decode b_Mod_line 110 = .ok (.goto 27, 3) := by decide +kernel
theorem d_Mod_line_113 : decode b_Mod_line 113 = .ok (.iload_n 1, 1) := by decide +kernel
theorem d_Mod_line_114 : decode b_Mod_line 114 = .ok (.ifCond .ne 19, 3) := by decide +kernel
theorem d_Mod_line_117 : decode b_Mod_line 117 = .ok (.aload_n 0, 1) := by decide +kernel
theorem d_Mod_line_118 : decode b_Mod_line 118 = .ok (.ldc 222, 2) := by decide +kernel
theorem d_Mod_line_120 : decode b_Mod_line 120 = .ok (.invokevirtual 206, 3) := by decide +kernel
theorem d_Mod_line_123 : decode b_Mod_line 123 = .ok (.ifCond .eq 10, 3) := by decide +kernel
theorem d_Mod_line_126 : decode b_Mod_line 126 = .ok (.aload_n 0, 1) := by decide +kernel
theorem d_Mod_line_127 : decode b_Mod_line 127 = .ok (.invokevirtual 224, 3) := by decide +kernel
theorem d_Mod_line_130 : decode b_Mod_line 130 = .ok (.goto 7, 3) := by decide +kernel
theorem d_Mod_line_133 : decode b_Mod_line 133 = .ok (.aload_n 0, 1) := by decide +kernel
theorem d_Mod_line_134 : decode b_Mod_line 134 = .ok (.invokevirtual 227, 3) := by decide +kernel
theorem d_Mod_line_137 : decode b_Mod_line 137 = .ok (.aload_n 0, 1) := by decide +kernel
theorem d_Mod_line_138 : decode b_Mod_line 138 = .ok (.bipush 10, 2) := by decide +kernel
theorem d_Mod_line_140 : decode b_Mod_line 140 = .ok (.invokevirtual 67, 3) := by decide +kernel
theorem d_Mod_line_143 : decode b_Mod_line 143 = .ok (.pop, 1) := by decide +kernel
theorem d_Mod_line_144 : decode b_Mod_line 144 = .ok (.return_, 1) := by decide +kernel
theorem d_Mod_isSmall_0 : decode b_Mod_isSmall 0 = .ok (.iload_n 0, 1) := by decide +kernel
theorem d_Mod_isSmall_1 : decode b_Mod_isSmall 1 = .ok (.bipush 97, 2) := by decide +kernel
theorem d_Mod_isSmall_3 : decode b_Mod_isSmall 3 = .ok (.if_icmp .lt 9, 3) := by decide +kernel
theorem d_Mod_isSmall_6 : decode b_Mod_isSmall 6 = .ok (.iload_n 0, 1) := by decide +kernel
theorem d_Mod_isSmall_7 : decode b_Mod_isSmall 7 = .ok (.bipush 122, 2) := by decide +kernel
theorem d_Mod_isSmall_9 : decode b_Mod_isSmall 9 = .ok (.if_icmp .le 9, 3) := by decide +kernel
theorem d_Mod_isSmall_12 : decode b_Mod_isSmall 12 = .ok (.iload_n 0, 1) := by decide +kernel
theorem d_Mod_isSmall_13 : decode b_Mod_isSmall 13 = .ok (.bipush 45, 2) := by decide +kernel
theorem d_Mod_isSmall_15 : decode b_Mod_isSmall 15 = .ok (.if_icmp .ne 7, 3) := by decide +kernel
theorem d_Mod_isSmall_18 : decode b_Mod_isSmall 18 = .ok (.iconst 1, 1) := by decide +kernel
theorem d_Mod_isSmall_19 : decode b_Mod_isSmall 19 = .ok (.goto 4, 3) := by decide +kernel
theorem d_Mod_isSmall_22 : decode b_Mod_isSmall 22 = .ok (.iconst 0, 1) := by decide +kernel
theorem d_Mod_isSmall_23 : decode b_Mod_isSmall 23 = .ok (.ireturn, 1) := by decide +kernel
theorem d_Mod_isSame_0 : decode b_Mod_isSame 0 = .ok (.iload_n 2, 1) := by decide +kernel
theorem d_Mod_isSame_1 : decode b_Mod_isSame 1 = .ok (.iload_n 1, 1) := by decide +kernel
theorem d_Mod_isSame_2 : decode b_Mod_isSame 2 = .ok (.isub, 1) := by decide +kernel
theorem d_Mod_isSame_3 : decode b_Mod_isSame 3 = .ok (.iload 4, 2) := by decide +kernel
theorem d_Mod_isSame_5 : decode b_Mod_isSame 5 = .ok (.iload_n 3, 1) := by decide +kernel
theorem d_Mod_isSame_6 : decode b_Mod_isSame 6 = .ok (.isub, 1) := by decide +kernel
theorem d_Mod_isSame_7 : decode b_Mod_isSame 7 = .ok (.if_icmp .ne 7, 3) := by decide +kernel
theorem d_Mod_isSame_10 : decode b_Mod_isSame 10 = .ok (.iconst 1, 1) := by decide +kernel
theorem d_Mod_isSame_11 : decode b_Mod_isSame 11 = .ok (.goto 4, 3) := by decide +kernel
theorem d_Mod_isSame_14 : decode b_Mod_isSame 14 = .ok (.iconst 0, 1) := by decide +kernel
theorem d_Mod_isSame_15 : decode b_Mod_isSame 15 = .ok (.istore 5, 2) := by decide +kernel
theorem d_Mod_isSame_17 : decode b_Mod_isSame 17 = .ok (.iconst 0, 1) := by decide +kernel
theorem d_Mod_isSame_18 : decode b_Mod_isSame 18 = .ok (.istore 6, 2) := by decide +kernel
theorem d_Mod_isSame_20 : decode b_Mod_isSame 20 = .ok (.iload 5, 2) := by decide +kernel
theorem d_Mod_isSame_22 : decode b_Mod_isSame 22 = .ok (.ifCond .eq 45, 3) := by decide +kernel
theorem d_Mod_isSame_25 : decode b_Mod_isSame 25 = .ok (.iload 6, 2) := by decide +kernel
theorem d_Mod_isSame_27 : decode b_Mod_isSame 27 = .ok (.iload_n 2, 1) := by decide +kernel
theorem d_Mod_isSame_28 : decode b_Mod_isSame 28 = .ok (.iload_n 1, 1) := by decide +kernel
theorem d_Mod_isSame_29 : decode b_Mod_isSame 29 = .ok (.isub, 1) := by decide +kernel
theorem d_Mod_isSame_30 : decode b_Mod_isSame 30 = .ok (.if_icmp .ge 37, 3) := by decide +kernel
theorem d_Mod_isSame_33 : decode b_Mod_isSame 33 = .ok (.aload_n 0, 1) := by decide +kernel
theorem d_Mod_isSame_34 : decode b_Mod_isSame 34 = .ok (.getfield 7, 3) := by decide +kernel
theorem d_Mod_isSame_37 : decode b_Mod_isSame 37 = .ok (.iload_n 1, 1) := by decide +kernel
theorem d_Mod_isSame_38 : decode b_Mod_isSame 38 = .ok (.iload 6, 2) := by decide +kernel
theorem d_Mod_isSame_40 : decode b_Mod_isSame 40 = .ok (.iadd, 1) := by decide +kernel
theorem d_Mod_isSame_41 : decode b_Mod_isSame 41 = .ok (.iaload, 1) := by decide +kernel
theorem d_Mod_isSame_42 : decode b_Mod_isSame 42 = .ok (.aload_n 0, 1) := by decide +kernel
theorem d_Mod_isSame_43 : decode b_Mod_isSame 43 = .ok (.getfield 7, 3) := by decide +kernel
theorem d_Mod_isSame_46 : decode b_Mod_isSame 46 = .ok (.iload_n 3, 1) := by decide +kernel
theorem d_Mod_isSame_47 : decode b_Mod_isSame 47 = .ok (.iload 6, 2) := by decide +kernel
theorem d_Mod_isSame_49 : decode b_Mod_isSame 49 = .ok (.iadd, 1) := by decide +kernel
theorem d_Mod_isSame_50 : decode b_Mod_isSame 50 = .ok (.iaload, 1) := by decide +kernel
theorem d_Mod_isSame_51 : decode b_Mod_isSame 51 = .ok (.if_icmp .ne 7, 3) := by decide +kernel
theorem d_Mod_isSame_54 : decode b_Mod_isSame 54 = .ok (.iconst 1, 1) := by decide +kernel
theorem d_Mod_isSame_55 : decode b_Mod_isSame 55 = .ok (.goto 4, 3) := by decide +kernel
theorem d_Mod_isSame_58 : decode b_Mod_isSame 58 = .ok (.iconst 0, 1) := by decide +kernel
theorem d_Mod_isSame_59 : decode b_Mod_isSame 59 = .ok (.istore 5, 2) := by decide +kernel
theorem d_Mod_isSame_61 : decode b_Mod_isSame 61 = .ok (.iinc 6 1, 3) := by decide +kernel
theorem d_Mod_isSame_64 : decode b_Mod_isSame 64 = .ok (.goto (-44), 3) := by decide +kernel
theorem d_Mod_isSame_67 : decode b_Mod_isSame 67 = .ok (.iload 5, 2) := by decide +kernel
theorem d_Mod_isSame_69 : decode b_Mod_isSame 69 = .ok (.ireturn, 1) := by decide +kernel
theorem d_Mod_isNamed_0 : decode b_Mod_isNamed 0 = .ok (.aload_n 0, 1) := by decide +kernel
theorem d_Mod_isNamed_1 : decode b_Mod_isNamed 1 = .ok (.getfield 20, 3) := by decide +kernel
theorem d_Mod_isNamed_4 : decode b_Mod_isNamed 4 = .ok (.aload_n 0, 1) := by decide +kernel
theorem d_Mod_isNamed_5 : decode b_Mod_isNamed 5 = .ok (.getfield 86, 3) := by decide +kernel
theorem d_Mod_isNamed_8 : decode b_Mod_isNamed 8 = .ok (.iconst 1, 1) := by decide +kernel
theorem d_Mod_isNamed_9 : decode b_Mod_isNamed 9 = .ok (.isub, 1) := by decide +kernel
theorem d_Mod_isNamed_10 : decode b_Mod_isNamed 10 = .ok (.iaload, 1) := by decide +kernel
theorem d_Mod_isNamed_11 : decode b_Mod_isNamed 11 = .ok (.istore_n 2, 1) := by decide +kernel
theorem d_Mod_isNamed_12 : decode b_Mod_isNamed 12 = .ok (.aload_n 0, 1) := by decide +kernel
theorem d_Mod_isNamed_13 : decode b_Mod_isNamed 13 = .ok (.getfield 23, 3) := by decide +kernel
theorem d_Mod_isNamed_16 : decode b_Mod_isNamed 16 = .ok (.aload_n 0, 1) := by decide +kernel
theorem d_Mod_isNamed_17 : decode b_Mod_isNamed 17 = .ok (.getfield 86, 3) := by decide +kernel
theorem d_Mod_isNamed_20 : decode b_Mod_isNamed 20 = .ok (.iconst 1, 1) := by decide +kernel
theorem d_Mod_isNamed_21 : decode b_Mod_isNamed 21 = .ok (.isub, 1) := by decide +kernel
theorem d_Mod_isNamed_22 : decode b_Mod_isNamed 22 = .ok (.iaload, 1) := by decide +kernel
theorem d_Mod_isNamed_23 : decode b_Mod_isNamed 23 = .ok (.iload_n 2, 1) := by decide +kernel
theorem d_Mod_isNamed_24 : decode b_Mod_isNamed 24 = .ok (.isub, 1) := by decide +kernel
theorem d_Mod_isNamed_25 : decode b_Mod_isNamed 25 = .ok (.aload_n 1, 1) := by decide +kernel
theorem d_Mod_isNamed_26 : decode b_Mod_isNamed 26 = .ok (.invokevirtual 58, 3) := by decide +kernel
theorem d_Mod_isNamed_29 : decode b_Mod_isNamed 29 = .ok (.if_icmp .ne 7, 3) := by decide +kernel
theorem d_Mod_isNamed_32 : decode b_Mod_isNamed 32 = .ok (.iconst 1, 1) := by decide +kernel
theorem d_Mod_isNamed_33 : decode b_Mod_isNamed 33 = .ok (.goto 4, 3) := by decide +kernel
theorem d_Mod_isNamed_36 : decode b_Mod_isNamed 36 = .ok (.iconst 0, 1) := by decide +kernel
theorem d_Mod_isNamed_37 : decode b_Mod_isNamed 37 = .ok (.istore_n 3, 1) := by decide +kernel
theorem d_Mod_isNamed_38 : decode b_Mod_isNamed 38 = .ok (.iconst 0, 1) := by decide +kernel
theorem d_Mod_isNamed_39 : decode b_Mod_isNamed 39 = .ok (.istore 4, 2) := by decide +kernel
theorem d_Mod_isNamed_41 : decode b_Mod_isNamed 41 = .ok (.iload_n 3, 1) := by decide +kernel
theorem d_Mod_isNamed_42 : decode b_Mod_isNamed 42 = .ok (.ifCond .eq 42, 3) := by decide +kernel
theorem d_Mod_isNamed_45 : decode b_Mod_isNamed 45 = .ok (.iload 4, 2) := by decide +kernel
theorem d_Mod_isNamed_47 : decode b_Mod_isNamed 47 = .ok (.aload_n 1, 1) := by decide +kernel
theorem d_Mod_isNamed_48 : decode b_Mod_isNamed 48 = .ok (.invokevirtual 58, 3) := by decide +kernel
theorem d_Mod_isNamed_51 : decode b_Mod_isNamed 51 = .ok (.if_icmp .ge 33, 3) := by decide +kernel
theorem d_Mod_isNamed_54 : decode b_Mod_isNamed 54 = .ok (.aload_n 0, 1) := by decide +kernel
theorem d_Mod_isNamed_55 : decode b_Mod_isNamed 55 = .ok (.getfield 7, 3) := by decide +kernel
theorem d_Mod_isNamed_58 : decode b_Mod_isNamed 58 = .ok (.iload_n 2, 1) := by decide +kernel
theorem d_Mod_isNamed_59 : decode b_Mod_isNamed 59 = .ok (.iload 4, 2) := by decide +kernel
theorem d_Mod_isNamed_61 : decode b_Mod_isNamed 61 = .ok (.iadd, 1) := by decide +kernel
theorem d_Mod_isNamed_62 : decode b_Mod_isNamed 62 = .ok (.iaload, 1) := by decide +kernel
theorem d_Mod_isNamed_63 : decode b_Mod_isNamed 63 = .ok (.aload_n 1, 1) := by decide +kernel
theorem d_Mod_isNamed_64 : decode b_Mod_isNamed 64 = .ok (.iload 4, 2) := by decide +kernel
theorem d_Mod_isNamed_66 : decode b_Mod_isNamed 66 = .ok (.invokevirtual 63, 3) := by decide +kernel
theorem d_Mod_isNamed_69 : decode b_Mod_isNamed 69 = .ok (.if_icmp .ne 7, 3) := by decide +kernel
theorem d_Mod_isNamed_72 : decode b_Mod_isNamed 72 = .ok (.iconst 1, 1) := by decide +kernel
theorem d_Mod_isNamed_73 : decode b_Mod_isNamed 73 = .ok (.goto 4, 3) := by decide +kernel
theorem d_Mod_isNamed_76 : decode b_Mod_isNamed 76 = .ok (.iconst 0, 1) := by decide +kernel
theorem d_Mod_isNamed_77 : decode b_Mod_isNamed 77 = .ok (.istore_n 3, 1) := by decide +kernel
theorem d_Mod_isNamed_78 : decode b_Mod_isNamed 78 = .ok (.iinc 4 1, 3) := by decide +kernel
theorem d_Mod_isNamed_81 : decode b_Mod_isNamed 81 = .ok (.goto (-40), 3) := by decide +kernel
theorem d_Mod_isNamed_84 : decode b_Mod_isNamed 84 = .ok (.iload_n 3, 1) := by decide +kernel
theorem d_Mod_isNamed_85 : decode b_Mod_isNamed 85 = .ok (.ireturn, 1) := by decide +kernel
theorem d_Mod_list_0 : decode b_Mod_list 0 = .ok (.iconst 1, 1) := by decide +kernel
theorem d_Mod_list_1 : decode b_Mod_list 1 = .ok (.istore_n 2, 1) := by decide +kernel
theorem d_Mod_list_2 : decode b_Mod_list 2 = .ok (.iload_n 2, 1) := by decide +kernel
theorem d_Mod_list_3 : decode b_Mod_list 3 = .ok (.ifCond .eq 198, 3) := by decide +kernel
theorem d_Mod_list_6 : decode b_Mod_list 6 = .ok (.aload_n 0, 1) := by decide +kernel
theorem d_Mod_list_7 : decode b_Mod_list 7 = .ok (.getfield 43, 3) := by decide +kernel
theorem d_Mod_list_10 : decode b_Mod_list 10 = .ok (.ifCond .ne 191, 3) := by decide +kernel
theorem d_Mod_list_13 : decode b_Mod_list 13 = .ok (.aload_n 0, 1) := by decide +kernel
theorem d_Mod_list_14 : decode b_Mod_list 14 = .ok (.aload_n 0, 1) := by decide +kernel
theorem d_Mod_list_15 : decode b_Mod_list 15 = .ok (.getfield 40, 3) := by decide +kernel
theorem d_Mod_list_18 : decode b_Mod_list 18 = .ok (.putfield 115, 3) := by decide +kernel
theorem d_Mod_list_21 : decode b_Mod_list 21 = .ok (.aload_n 0, 1) := by decide +kernel
theorem d_Mod_list_22 : decode b_Mod_list 22 = .ok (.invokevirtual 50, 3) := by decide +kernel
theorem d_Mod_list_25 : decode b_Mod_list 25 = .ok (.invokestatic 83, 3) := by decide +kernel
theorem d_Mod_list_28 : decode b_Mod_list 28 = .ok (.ifCond .eq 16, 3) := by decide +kernel
theorem d_Mod_list_31 : decode b_Mod_list 31 = .ok (.aload_n 0, 1) := by decide +kernel
theorem d_Mod_list_32 : decode b_Mod_list 32 = .ok (.dup, 1) := by decide +kernel
theorem d_Mod_list_33 : decode b_Mod_list 33 = .ok (.getfield 40, 3) := by decide +kernel
theorem d_Mod_list_36 : decode b_Mod_list 36 = .ok (.iconst 1, 1) := by decide +kernel
theorem d_Mod_list_37 : decode b_Mod_list 37 = .ok (.iadd, 1) := by decide +kernel
theorem d_Mod_list_38 : decode b_Mod_list 38 = .ok (.putfield 40, 3) := by decide +kernel
theorem d_Mod_list_41 : decode b_Mod_list 41 = .ok (.goto (-20), 3) := by decide +kernel
theorem d_Mod_list_44 : decode b_Mod_list 44 = .ok (.aload_n 0, 1) := by decide +kernel
theorem d_Mod_list_45 : decode b_Mod_list 45 = .ok (.aload_n 0, 1) := by decide +kernel
theorem d_Mod_list_46 : decode b_Mod_list 46 = .ok (.getfield 40, 3) := by decide +kernel
theorem d_Mod_list_49 : decode b_Mod_list 49 = .ok (.putfield 118, 3) := by decide +kernel
theorem d_Mod_list_52 : decode b_Mod_list 52 = .ok (.aload_n 0, 1) := by decide +kernel
theorem d_Mod_list_53 : decode b_Mod_list 53 = .ok (.getfield 40, 3) := by decide +kernel
theorem d_Mod_list_56 : decode b_Mod_list 56 = .ok (.aload_n 0, 1) := by decide +kernel
theorem d_Mod_list_57 : decode b_Mod_list 57 = .ok (.getfield 115, 3) := by decide +kernel
theorem d_Mod_list_60 : decode b_Mod_list 60 = .ok (.if_icmp .ne 15, 3) := by decide +kernel
theorem d_Mod_list_63 : decode b_Mod_list 63 = .ok (.aload_n 0, 1) := by decide +kernel
theorem d_Mod_list_64 : decode b_Mod_list 64 = .ok (.aload_n 0, 1) := by decide +kernel
theorem d_Mod_list_65 : decode b_Mod_list 65 = .ok (.getfield 40, 3) := by decide +kernel
theorem d_Mod_list_68 : decode b_Mod_list 68 = .ok (.invokevirtual 54, 3) := by decide +kernel
theorem d_Mod_list_71 : decode b_Mod_list 71 = .ok (.pop, 1) := by decide +kernel
theorem d_Mod_list_72 : decode b_Mod_list 72 = .ok (.goto 26, 3) := by decide +kernel
theorem d_Mod_list_75 : decode b_Mod_list 75 = .ok (.aload_n 0, 1) := by decide +kernel
theorem d_Mod_list_76 : decode b_Mod_list 76 = .ok (.getfield 40, 3) := by decide +kernel
theorem d_Mod_list_79 : decode b_Mod_list 79 = .ok (.aload_n 0, 1) := by decide +kernel
theorem d_Mod_list_80 : decode b_Mod_list 80 = .ok (.getfield 115, 3) := by decide +kernel
theorem d_Mod_list_83 : decode b_Mod_list 83 = .ok (.isub, 1) := by decide +kernel
theorem d_Mod_list_84 : decode b_Mod_list 84 = .ok (.bipush 30, 2) := by decide +kernel
theorem d_Mod_list_86 : decode b_Mod_list 86 = .ok (.if_icmp .le 12, 3) := by decide +kernel
theorem d_Mod_list_89 : decode b_Mod_list 89 = .ok (.aload_n 0, 1) := by decide +kernel
theorem d_Mod_list_90 : decode b_Mod_list 90 = .ok (.aload_n 0, 1) := by decide +kernel
theorem d_Mod_list_91 : decode b_Mod_list 91 = .ok (.getfield 115, 3) := by decide +kernel
theorem d_Mod_list_94 : decode b_Mod_list 94 = .ok (.invokevirtual 54, 3) := by decide +kernel
theorem d_Mod_list_97 : decode b_Mod_list 97 = .ok (.pop, 1) := by decide +kernel
theorem d_Mod_list_98 : decode b_Mod_list 98 = .ok (.aload_n 0, 1) := by decide +kernel
theorem d_Mod_list_99 : decode b_Mod_list 99 = .ok (.iconst (-1), 1) := by decide +kernel
theorem d_Mod_list_100 : decode b_Mod_list 100 = .ok (.putfield 121, 3) := by decide +kernel
theorem d_Mod_list_103 : decode b_Mod_list 103 = .ok (.aload_n 0, 1) := by decide +kernel
theorem d_Mod_list_104 : decode b_Mod_list 104 = .ok (.getfield 43, 3) := by decide +kernel
theorem d_Mod_list_107 : decode b_Mod_list 107 = .ok (.ifCond .ne 32, 3) := by decide +kernel
theorem d_Mod_list_110 : decode b_Mod_list 110 = .ok (.aload_n 0, 1) := by decide +kernel
theorem d_Mod_list_111 : decode b_Mod_list 111 = .ok (.invokevirtual 50, 3) := by decide +kernel
theorem d_Mod_list_114 : decode b_Mod_list 114 = .ok (.bipush 61, 2) := by decide +kernel
theorem d_Mod_list_116 : decode b_Mod_list 116 = .ok (.if_icmp .ne 23, 3) := by decide +kernel
theorem d_Mod_list_119 : decode b_Mod_list 119 = .ok (.aload_n 0, 1) := by decide +kernel
theorem d_Mod_list_120 : decode b_Mod_list 120 = .ok (.dup, 1) := by decide +kernel
theorem d_Mod_list_121 : decode b_Mod_list 121 = .ok (.getfield 40, 3) := by decide +kernel
theorem d_Mod_list_124 : decode b_Mod_list 124 = .ok (.iconst 1, 1) := by decide +kernel
theorem d_Mod_list_125 : decode b_Mod_list 125 = .ok (.iadd, 1) := by decide +kernel
theorem d_Mod_list_126 : decode b_Mod_list 126 = .ok (.putfield 40, 3) := by decide +kernel
theorem d_Mod_list_129 : decode b_Mod_list 129 = .ok (.aload_n 0, 1) := by decide +kernel
theorem d_Mod_list_130 : decode b_Mod_list 130 = .ok (.aload_n 0, 1) := by decide +kernel
theorem d_Mod_list_131 : decode b_Mod_list 131 = .ok (.ldc 102, 2) := by decide +kernel
theorem d_Mod_list_133 : decode b_Mod_list 133 = .ok (.invokevirtual 73, 3) := by decide +kernel
theorem d_Mod_list_136 : decode b_Mod_list 136 = .ok (.putfield 121, 3) := by decide +kernel
theorem d_Mod_list_139 : decode b_Mod_list 139 = .ok (.aload_n 0, 1) := by decide +kernel
theorem d_Mod_list_140 : decode b_Mod_list 140 = .ok (.getfield 43, 3) := by decide +kernel
theorem d_Mod_list_143 : decode b_Mod_list 143 = .ok (.ifCond .eq 4, 3) := by decide +kernel
theorem d_Mod_list_146 : decode b_Mod_list 146 = .ok (.return_, 1) := by decide +kernel
theorem d_Mod_list_147 : decode b_Mod_list 147 = .ok (.iload_n 1, 1) := by decide +kernel
theorem d_Mod_list_148 : decode b_Mod_list 148 = .ok (.ifCond .eq 10, 3) := by decide +kernel
theorem d_Mod_list_151 : decode b_Mod_list 151 = .ok (.aload_n 0, 1) := by decide +kernel
theorem d_Mod_list_152 : decode b_Mod_list 152 = .ok (.invokevirtual 124, 3) := by decide +kernel
theorem d_Mod_list_155 : decode b_Mod_list 155 = .ok (.goto 7, 3) := by decide +kernel
theorem d_Mod_list_158 : decode b_Mod_list 158 = .ok (.aload_n 0, 1) := by decide +kernel
theorem d_Mod_list_159 : decode b_Mod_list 159 = .ok (.invokevirtual 127, 3) := by decide +kernel
theorem d_Mod_list_162 : decode b_Mod_list 162 = .ok (.aload_n 0, 1) := by decide +kernel
theorem d_Mod_list_163 : decode b_Mod_list 163 = .ok (.invokevirtual 50, 3) := by decide +kernel
theorem d_Mod_list_166 : decode b_Mod_list 166 = .ok (.bipush 44, 2) := by decide +kernel
theorem d_Mod_list_168 : decode b_Mod_list 168 = .ok (.if_icmp .ne 7, 3) := by decide +kernel
theorem d_Mod_list_171 : decode b_Mod_list 171 = .ok (.iconst 1, 1) := by decide +kernel
theorem d_Mod_list_172 : decode b_Mod_list 172 = .ok (.goto 4, 3) := by decide +kernel
theorem d_Mod_list_175 : decode b_Mod_list 175 = .ok (.iconst 0, 1) := by decide +kernel
theorem d_Mod_list_176 : decode b_Mod_list 176 = .ok (.istore_n 2, 1) := by decide +kernel
theorem d_Mod_list_177 : decode b_Mod_list 177 = .ok (.iload_n 2, 1) := by decide +kernel
theorem d_Mod_list_178 : decode b_Mod_list 178 = .ok (.ifCond .eq (-176), 3) := by decide +kernel
theorem d_Mod_list_181 : decode b_Mod_list 181 = .ok (.aload_n 0, 1) := by decide +kernel
theorem d_Mod_list_182 : decode b_Mod_list 182 = .ok (.dup, 1) := by decide +kernel
theorem d_Mod_list_183 : decode b_Mod_list 183 = .ok (.getfield 40, 3) := by decide +kernel
theorem d_Mod_list_186 : decode b_Mod_list 186 = .ok (.iconst 1, 1) := by decide +kernel
theorem d_Mod_list_187 : decode b_Mod_list 187 = .ok (.iadd, 1) := by decide +kernel
theorem d_Mod_list_188 : decode b_Mod_list 188 = .ok (.putfield 40, 3) := by decide +kernel
theorem d_Mod_list_191 : decode b_Mod_list 191 = .ok (.aload_n 0, 1) := by decide +kernel
theorem d_Mod_list_192 : decode b_Mod_list 192 = .ok (.bipush 32, 2) := by decide +kernel
theorem d_Mod_list_194 : decode b_Mod_list 194 = .ok (.invokevirtual 67, 3) := by decide +kernel
theorem d_Mod_list_197 : decode b_Mod_list 197 = .ok (.pop, 1) := by decide +kernel
theorem d_Mod_list_198 : decode b_Mod_list 198 = .ok (.goto (-196), 3) := by decide +kernel
theorem d_Mod_list_201 : decode b_Mod_list 201 = .ok (.return_, 1) := by decide +kernel
theorem d_Mod_isWord_0 : decode b_Mod_isWord 0 = .ok (.aload_n 0, 1) := by decide +kernel
theorem d_Mod_isWord_1 : decode b_Mod_isWord 1 = .ok (.getfield 118, 3) := by decide +kernel
theorem d_Mod_isWord_4 : decode b_Mod_isWord 4 = .ok (.aload_n 0, 1) := by decide +kernel
theorem d_Mod_isWord_5 : decode b_Mod_isWord 5 = .ok (.getfield 115, 3) := by decide +kernel
theorem d_Mod_isWord_8 : decode b_Mod_isWord 8 = .ok (.isub, 1) := by decide +kernel
theorem d_Mod_isWord_9 : decode b_Mod_isWord 9 = .ok (.aload_n 1, 1) := by decide +kernel
theorem d_Mod_isWord_10 : decode b_Mod_isWord 10 = .ok (.invokevirtual 58, 3) := by decide +kernel
theorem d_Mod_isWord_13 : decode b_Mod_isWord 13 = .ok (.if_icmp .ne 7, 3) := by decide +kernel
theorem d_Mod_isWord_16 : decode b_Mod_isWord 16 = .ok (.iconst 1, 1) := by decide +kernel
theorem d_Mod_isWord_17 : decode b_Mod_isWord 17 = .ok (.goto 4, 3) := by decide +kernel
theorem d_Mod_isWord_20 : decode b_Mod_isWord 20 = .ok (.iconst 0, 1) := by decide +kernel
theorem d_Mod_isWord_21 : decode b_Mod_isWord 21 = .ok (.istore_n 2, 1) := by decide +kernel
theorem d_Mod_isWord_22 : decode b_Mod_isWord 22 = .ok (.iconst 0, 1) := by decide +kernel
theorem d_Mod_isWord_23 : decode b_Mod_isWord 23 = .ok (.istore_n 3, 1) := by decide +kernel
theorem d_Mod_isWord_24 : decode b_Mod_isWord 24 = .ok (.iload_n 2, 1) := by decide +kernel
theorem d_Mod_isWord_25 : decode b_Mod_isWord 25 = .ok (.ifCond .eq 42, 3) := by decide +kernel
theorem d_Mod_isWord_28 : decode b_Mod_isWord 28 = .ok (.iload_n 3, 1) := by decide +kernel
theorem d_Mod_isWord_29 : decode b_Mod_isWord 29 = .ok (.aload_n 1, 1) := by decide +kernel
theorem d_Mod_isWord_30 : decode b_Mod_isWord 30 = .ok (.invokevirtual 58, 3) := by decide +kernel
theorem d_Mod_isWord_33 : decode b_Mod_isWord 33 = .ok (.if_icmp .ge 34, 3) := by decide +kernel
theorem d_Mod_isWord_36 : decode b_Mod_isWord 36 = .ok (.aload_n 0, 1) := by decide +kernel
theorem d_Mod_isWord_37 : decode b_Mod_isWord 37 = .ok (.getfield 7, 3) := by decide +kernel
theorem d_Mod_isWord_40 : decode b_Mod_isWord 40 = .ok (.aload_n 0, 1) := by decide +kernel
theorem d_Mod_isWord_41 : decode b_Mod_isWord 41 = .ok (.getfield 115, 3) := by decide +kernel
theorem d_Mod_isWord_44 : decode b_Mod_isWord 44 = .ok (.iload_n 3, 1) := by decide +kernel
theorem d_Mod_isWord_45 : decode b_Mod_isWord 45 = .ok (.iadd, 1) := by decide +kernel
theorem d_Mod_isWord_46 : decode b_Mod_isWord 46 = .ok (.iaload, 1) := by decide +kernel
theorem d_Mod_isWord_47 : decode b_Mod_isWord 47 = .ok (.aload_n 1, 1) := by decide +kernel
theorem d_Mod_isWord_48 : decode b_Mod_isWord 48 = .ok (.iload_n 3, 1) := by decide +kernel
theorem d_Mod_isWord_49 : decode b_Mod_isWord 49 = .ok (.invokevirtual 63, 3) := by decide +kernel
theorem d_Mod_isWord_52 : decode b_Mod_isWord 52 = .ok (.if_icmp .ne 7, 3) := by decide +kernel
theorem d_Mod_isWord_55 : decode b_Mod_isWord 55 = .ok (.iconst 1, 1) := by decide +kernel
theorem d_Mod_isWord_56 : decode b_Mod_isWord 56 = .ok (.goto 4, 3) := by decide +kernel
theorem d_Mod_isWord_59 : decode b_Mod_isWord 59 = .ok (.iconst 0, 1) := by decide +kernel
theorem d_Mod_isWord_60 : decode b_Mod_isWord 60 = .ok (.istore_n 2, 1) := by decide +kernel
theorem d_Mod_isWord_61 : decode b_Mod_isWord 61 = .ok (.iinc 3 1, 3) := by decide +kernel
theorem d_Mod_isWord_64 : decode b_Mod_isWord 64 = .ok (.goto (-40), 3) := by decide +kernel
theorem d_Mod_isWord_67 : decode b_Mod_isWord 67 = .ok (.iload_n 2, 1) := by decide +kernel
theorem d_Mod_isWord_68 : decode b_Mod_isWord 68 = .ok (.ireturn, 1) := by decide +kernel
theorem d_Mod_keyLetters_0 : decode b_Mod_keyLetters 0 = .ok (.iconst 0, 1) := by decide +kernel
theorem d_Mod_keyLetters_1 : decode b_Mod_keyLetters 1 = .ok (.istore_n 1, 1) := by decide +kernel
theorem d_Mod_keyLetters_2 : decode b_Mod_keyLetters 2 = .ok (.iconst 1, 1) := by decide +kernel
theorem d_Mod_keyLetters_3 : decode b_Mod_keyLetters 3 = .ok (.istore_n 2, 1) := by decide +kernel
theorem d_Mod_keyLetters_4 : decode b_Mod_keyLetters 4 = .ok (.iload_n 2, 1) := by decide +kernel
theorem d_Mod_keyLetters_5 : decode b_Mod_keyLetters 5 = .ok (.ifCond .eq 107, 3) := by decide +kernel
theorem d_Mod_keyLetters_8 : decode b_Mod_keyLetters 8 = .ok (.aload_n 0, 1) := by decide +kernel
theorem d_Mod_keyLetters_9 : decode b_Mod_keyLetters 9 = .ok (.getfield 43, 3) := by decide +kernel
theorem d_Mod_keyLetters_12 : decode b_Mod_keyLetters 12 = .ok (.ifCond .ne 100, 3) := by decide +kernel
theorem d_Mod_keyLetters_15 : decode b_Mod_keyLetters 15 = .ok (.aload_n 0, 1) := by decide +kernel
theorem d_Mod_keyLetters_16 : decode b_Mod_keyLetters 16 = .ok (.invokevirtual 50, 3) := by decide +kernel
theorem d_Mod_keyLetters_19 : decode b_Mod_keyLetters 19 = .ok (.bipush 97, 2) := by decide +kernel
theorem d_Mod_keyLetters_21 : decode b_Mod_keyLetters 21 = .ok (.if_icmp .lt 12, 3) := by decide +kernel
theorem d_Mod_keyLetters_24 : decode b_Mod_keyLetters 24 = .ok (.aload_n 0, 1) := by decide +kernel
theorem d_Mod_keyLetters_25 : decode b_Mod_keyLetters 25 = .ok (.invokevirtual 50, 3) := by decide +kernel
theorem d_Mod_keyLetters_28 : decode b_Mod_keyLetters 28 = .ok (.bipush 104, 2) := by decide +kernel
theorem d_Mod_keyLetters_30 : decode b_Mod_keyLetters 30 = .ok (.if_icmp .le 13, 3) := by decide +kernel
theorem d_Mod_keyLetters_33 : decode b_Mod_keyLetters 33 = .ok (.aload_n 0, 1) := by decide +kernel
theorem d_Mod_keyLetters_34 : decode b_Mod_keyLetters 34 = .ok (.aload_n 0, 1) := by decide +kernel
theorem d_Mod_keyLetters_35 : decode b_Mod_keyLetters 35 = .ok (.getfield 40, 3) := by decide +kernel
theorem d_Mod_keyLetters_38 : decode b_Mod_keyLetters 38 = .ok (.invokevirtual 54, 3) := by decide +kernel
theorem d_Mod_keyLetters_41 : decode b_Mod_keyLetters 41 = .ok (.pop, 1) := by decide +kernel
theorem d_Mod_keyLetters_42 : decode b_Mod_keyLetters 42 = .ok (.return_, 1) := by decide +kernel
theorem d_Mod_keyLetters_43 : decode b_Mod_keyLetters 43 = .ok (.aload_n 0, 1) := by decide +kernel
theorem d_Mod_keyLetters_44 : decode b_Mod_keyLetters 44 = .ok (.dup, 1) := by decide +kernel
theorem d_Mod_keyLetters_45 : decode b_Mod_keyLetters 45 = .ok (.getfield 179, 3) := by decide +kernel
theorem d_Mod_keyLetters_48 : decode b_Mod_keyLetters 48 = .ok (.iconst 1, 1) := by decide +kernel
theorem d_Mod_keyLetters_49 : decode b_Mod_keyLetters 49 = .ok (.aload_n 0, 1) := by decide +kernel
theorem d_Mod_keyLetters_50 : decode b_Mod_keyLetters 50 = .ok (.invokevirtual 50, 3) := by decide +kernel
theorem d_Mod_keyLetters_53 : decode b_Mod_keyLetters 53 = .ok (.bipush 97, 2) := by decide +kernel
theorem d_Mod_keyLetters_55 : decode b_Mod_keyLetters 55 = .ok (.isub, 1) := by decide +kernel
theorem d_Mod_keyLetters_56 : decode b_Mod_keyLetters 56 = .ok (.ishl, 1) := by decide +kernel
theorem d_Mod_keyLetters_57 : decode b_Mod_keyLetters 57 = .ok (.ior, 1) := by decide +kernel
theorem d_Mod_keyLetters_58 : decode b_Mod_keyLetters 58 = .ok (.putfield 179, 3) := by decide +kernel
theorem d_Mod_keyLetters_61 : decode b_Mod_keyLetters 61 = .ok (.aload_n 0, 1) := by decide +kernel
theorem d_Mod_keyLetters_62 : decode b_Mod_keyLetters 62 = .ok (.dup, 1) := by decide +kernel
theorem d_Mod_keyLetters_63 : decode b_Mod_keyLetters 63 = .ok (.getfield 40, 3) := by decide +kernel
theorem d_Mod_keyLetters_66 : decode b_Mod_keyLetters 66 = .ok (.iconst 1, 1) := by decide +kernel
theorem d_Mod_keyLetters_67 : decode b_Mod_keyLetters 67 = .ok (.iadd, 1) := by decide +kernel
theorem d_Mod_keyLetters_68 : decode b_Mod_keyLetters 68 = .ok (.putfield 40, 3) := by decide +kernel
theorem d_Mod_keyLetters_71 : decode b_Mod_keyLetters 71 = .ok (.iinc 1 1, 3) := by decide +kernel
theorem d_Mod_keyLetters_74 : decode b_Mod_keyLetters 74 = .ok (.aload_n 0, 1) := by decide +kernel
theorem d_Mod_keyLetters_75 : decode b_Mod_keyLetters 75 = .ok (.invokevirtual 50, 3) := by decide +kernel
theorem d_Mod_keyLetters_78 : decode b_Mod_keyLetters 78 = .ok (.bipush 32, 2) := by decide +kernel
theorem d_Mod_keyLetters_80 : decode b_Mod_keyLetters 80 = .ok (.if_icmp .ne 13, 3) := by decide +kernel
theorem d_Mod_keyLetters_83 : decode b_Mod_keyLetters 83 = .ok (.iload_n 1, 1) := by decide +kernel
theorem d_Mod_keyLetters_84 : decode b_Mod_keyLetters 84 = .ok (.bipush 8, 2) := by decide +kernel
theorem d_Mod_keyLetters_86 : decode b_Mod_keyLetters 86 = .ok (.if_icmp .ge 7, 3) := by decide +kernel
theorem d_Mod_keyLetters_89 : decode b_Mod_keyLetters 89 = .ok (.iconst 1, 1) := by decide +kernel
theorem d_Mod_keyLetters_90 : decode b_Mod_keyLetters 90 = .ok (.goto 4, 3) := by decide +kernel
theorem d_Mod_keyLetters_93 : decode b_Mod_keyLetters 93 = .ok (.iconst 0, 1) := by decide +kernel
theorem d_Mod_keyLetters_94 : decode b_Mod_keyLetters 94 = .ok (.istore_n 2, 1) := by decide +kernel
theorem d_Mod_keyLetters_95 : decode b_Mod_keyLetters 95 = .ok (.iload_n 2, 1) := by decide +kernel
theorem d_Mod_keyLetters_96 : decode b_Mod_keyLetters 96 = .ok (.ifCond .eq (-92), 3) := by decide +kernel
theorem d_Mod_keyLetters_99 : decode b_Mod_keyLetters 99 = .ok (.aload_n 0, 1) := by decide +kernel
theorem d_Mod_keyLetters_100 : decode b_Mod_keyLetters 100 = .ok (.dup, 1) := by decide +kernel
theorem d_Mod_keyLetters_101 : decode b_Mod_keyLetters 101 = .ok (.getfield 40, 3) := by decide +kernel
theorem d_Mod_keyLetters_104 : decode b_Mod_keyLetters 104 = .ok (.iconst 1, 1) := by decide +kernel
theorem d_Mod_keyLetters_105 : decode b_Mod_keyLetters 105 = .ok (.iadd, 1) := by decide +kernel
theorem d_Mod_keyLetters_106 : decode b_Mod_keyLetters 106 = .ok (.putfield 40, 3) := by decide +kernel
theorem d_Mod_keyLetters_109 : decode b_Mod_keyLetters 109 = .ok (.goto (-105), 3) := by decide +kernel
theorem d_Mod_keyLetters_112 : decode b_Mod_keyLetters 112 = .ok (.return_, 1) := by decide +kernel
theorem d_Mod_anyValue_0 : decode b_Mod_anyValue 0 = .ok (.aload_n 0, 1) := by decide +kernel
theorem d_Mod_anyValue_1 : decode b_Mod_anyValue 1 = .ok (.invokevirtual 50, 3) := by decide +kernel
theorem d_Mod_anyValue_4 : decode b_Mod_anyValue 4 = .ok (.bipush 10, 2) := by decide +kernel
theorem d_Mod_anyValue_6 : decode b_Mod_anyValue 6 = .ok (.if_icmp .eq 27, 3) := by decide +kernel
theorem d_Mod_anyValue_9 : decode b_Mod_anyValue 9 = .ok (.aload_n 0, 1) := by decide +kernel
theorem d_Mod_anyValue_10 : decode b_Mod_anyValue 10 = .ok (.getfield 40, 3) := by decide +kernel
theorem d_Mod_anyValue_13 : decode b_Mod_anyValue 13 = .ok (.aload_n 0, 1) := by decide +kernel
theorem d_Mod_anyValue_14 : decode b_Mod_anyValue 14 = .ok (.getfield 35, 3) := by decide +kernel
theorem d_Mod_anyValue_17 : decode b_Mod_anyValue 17 = .ok (.if_icmp .ge 16, 3) := by decide +kernel
theorem d_Mod_anyValue_20 : decode b_Mod_anyValue 20 = .ok (.aload_n 0, 1) := by decide +kernel
theorem d_Mod_anyValue_21 : decode b_Mod_anyValue 21 = .ok (.dup, 1) := by decide +kernel
theorem d_Mod_anyValue_22 : decode b_Mod_anyValue 22 = .ok (.getfield 40, 3) := by decide +kernel
theorem d_Mod_anyValue_25 : decode b_Mod_anyValue 25 = .ok (.iconst 1, 1) := by decide +kernel
theorem d_Mod_anyValue_26 : decode b_Mod_anyValue 26 = .ok (.iadd, 1) := by decide +kernel
theorem d_Mod_anyValue_27 : decode b_Mod_anyValue 27 = .ok (.putfield 40, 3) := by decide +kernel
theorem d_Mod_anyValue_30 : decode b_Mod_anyValue 30 = .ok (.goto (-30), 3) := by decide +kernel
theorem d_Mod_anyValue_33 : decode b_Mod_anyValue 33 = .ok (.return_, 1) := by decide +kernel
theorem d_Mod_keep_0 : decode b_Mod_keep 0 = .ok (.aload_n 0, 1) := by decide +kernel
theorem d_Mod_keep_1 : decode b_Mod_keep 1 = .ok (.getfield 26, 3) := by decide +kernel
theorem d_Mod_keep_4 : decode b_Mod_keep 4 = .ok (.iconst 0, 1) := by decide +kernel
theorem d_Mod_keep_5 : decode b_Mod_keep 5 = .ok (.iload_n 1, 1) := by decide +kernel
theorem d_Mod_keep_6 : decode b_Mod_keep 6 = .ok (.ifCond .ne 7, 3) := by decide +kernel
theorem d_Mod_keep_9 : decode b_Mod_keep 9 = .ok (.iconst 3, 1) := by decide +kernel
theorem d_Mod_keep_10 : decode b_Mod_keep 10 = .ok (.goto 15, 3) := by decide +kernel
theorem d_Mod_keep_13 : decode b_Mod_keep 13 = .ok (.aload_n 0, 1) := by decide +kernel
theorem d_Mod_keep_14 : decode b_Mod_keep 14 = .ok (.getfield 182, 3) := by decide +kernel
theorem d_Mod_keep_17 : decode b_Mod_keep 17 = .ok (.ifCond .eq 7, 3) := by decide +kernel
theorem d_Mod_keep_20 : decode b_Mod_keep 20 = .ok (.iconst 2, 1) := by decide +kernel
theorem d_Mod_keep_21 : decode b_Mod_keep 21 = .ok (.goto 4, 3) := by decide +kernel
theorem d_Mod_keep_24 : decode b_Mod_keep 24 = .ok (.iconst 1, 1) := by decide +kernel
theorem d_Mod_keep_25 : decode b_Mod_keep 25 = .ok (.iastore, 1) := by decide +kernel
theorem d_Mod_keep_26 : decode b_Mod_keep 26 = .ok (.aload_n 0, 1) := by decide +kernel
theorem d_Mod_keep_27 : decode b_Mod_keep 27 = .ok (.getfield 26, 3) := by decide +kernel
theorem d_Mod_keep_30 : decode b_Mod_keep 30 = .ok (.iconst 1, 1) := by decide +kernel
theorem d_Mod_keep_31 : decode b_Mod_keep 31 = .ok (.aload_n 0, 1) := by decide +kernel
theorem d_Mod_keep_32 : decode b_Mod_keep 32 = .ok (.getfield 77, 3) := by decide +kernel
theorem d_Mod_keep_35 : decode b_Mod_keep 35 = .ok (.iastore, 1) := by decide +kernel
theorem d_Mod_keep_36 : decode b_Mod_keep 36 = .ok (.aload_n 0, 1) := by decide +kernel
theorem d_Mod_keep_37 : decode b_Mod_keep 37 = .ok (.getfield 26, 3) := by decide +kernel
theorem d_Mod_keep_40 : decode b_Mod_keep 40 = .ok (.iconst 2, 1) := by decide +kernel
theorem d_Mod_keep_41 : decode b_Mod_keep 41 = .ok (.aload_n 0, 1) := by decide +kernel
theorem d_Mod_keep_42 : decode b_Mod_keep 42 = .ok (.getfield 80, 3) := by decide +kernel
theorem d_Mod_keep_45 : decode b_Mod_keep 45 = .ok (.iastore, 1) := by decide +kernel
theorem d_Mod_keep_46 : decode b_Mod_keep 46 = .ok (.aload_n 0, 1) := by decide +kernel
theorem d_Mod_keep_47 : decode b_Mod_keep 47 = .ok (.getfield 26, 3) := by decide +kernel
theorem d_Mod_keep_50 : decode b_Mod_keep 50 = .ok (.iconst 3, 1) := by decide +kernel
theorem d_Mod_keep_51 : decode b_Mod_keep 51 = .ok (.aload_n 0, 1) := by decide +kernel
theorem d_Mod_keep_52 : decode b_Mod_keep 52 = .ok (.getfield 99, 3) := by decide +kernel
theorem d_Mod_keep_55 : decode b_Mod_keep 55 = .ok (.iastore, 1) := by decide +kernel
theorem d_Mod_keep_56 : decode b_Mod_keep 56 = .ok (.aload_n 0, 1) := by decide +kernel
theorem d_Mod_keep_57 : decode b_Mod_keep 57 = .ok (.getfield 26, 3) := by decide +kernel
theorem d_Mod_keep_60 : decode b_Mod_keep 60 = .ok (.iconst 4, 1) := by decide +kernel
theorem d_Mod_keep_61 : decode b_Mod_keep 61 = .ok (.aload_n 0, 1) := by decide +kernel
theorem d_Mod_keep_62 : decode b_Mod_keep 62 = .ok (.getfield 99, 3) := by decide +kernel
theorem d_Mod_keep_65 : decode b_Mod_keep 65 = .ok (.ifCond .ne 7, 3) := by decide +kernel
theorem d_Mod_keep_68 : decode b_Mod_keep 68 = .ok (.iconst (-1), 1) := by decide +kernel
theorem d_Mod_keep_69 : decode b_Mod_keep 69 = .ok (.goto 7, 3) := by decide +kernel
theorem d_Mod_keep_72 : decode b_Mod_keep 72 = .ok (.aload_n 0, 1) := by decide +kernel
theorem d_Mod_keep_73 : decode b_Mod_keep 73 = .ok (.getfield 103, 3) := by decide +kernel
theorem d_Mod_keep_76 : decode b_Mod_keep 76 = .ok (.iastore, 1) := by decide +kernel
theorem d_Mod_keep_77 : decode b_Mod_keep 77 = .ok (.aload_n 0, 1) := by decide +kernel
theorem d_Mod_keep_78 : decode b_Mod_keep 78 = .ok (.getfield 26, 3) := by decide +kernel
theorem d_Mod_keep_81 : decode b_Mod_keep 81 = .ok (.iconst 5, 1) := by decide +kernel
theorem d_Mod_keep_82 : decode b_Mod_keep 82 = .ok (.aload_n 0, 1) := by decide +kernel
theorem d_Mod_keep_83 : decode b_Mod_keep 83 = .ok (.getfield 99, 3) := by decide +kernel
theorem d_Mod_keep_86 : decode b_Mod_keep 86 = .ok (.iconst 1, 1) := by decide +kernel
theorem d_Mod_keep_87 : decode b_Mod_keep 87 = .ok (.if_icmp .ne 10, 3) := by decide +kernel
theorem d_Mod_keep_90 : decode b_Mod_keep 90 = .ok (.aload_n 0, 1) := by decide +kernel
theorem d_Mod_keep_91 : decode b_Mod_keep 91 = .ok (.getfield 106, 3) := by decide +kernel
theorem d_Mod_keep_94 : decode b_Mod_keep 94 = .ok (.goto 4, 3) := by decide +kernel
theorem d_Mod_keep_97 : decode b_Mod_keep 97 = .ok (.iconst (-1), 1) := by decide +kernel
theorem d_Mod_keep_98 : decode b_Mod_keep 98 = .ok (.iastore, 1) := by decide +kernel
theorem d_Mod_keep_99 : decode b_Mod_keep 99 = .ok (.aload_n 0, 1) := by decide +kernel
theorem d_Mod_keep_100 : decode b_Mod_keep 100 = .ok (.getfield 26, 3) := by decide +kernel
theorem d_Mod_keep_103 : decode b_Mod_keep 103 = .ok (.bipush 6, 2) := by decide +kernel
theorem d_Mod_keep_105 : decode b_Mod_keep 105 = .ok (.aload_n 0, 1) := by decide +kernel
theorem d_Mod_keep_106 : decode b_Mod_keep 106 = .ok (.getfield 109, 3) := by decide +kernel
theorem d_Mod_keep_109 : decode b_Mod_keep 109 = .ok (.ifCond .eq 7, 3) := by decide +kernel
theorem d_Mod_keep_112 : decode b_Mod_keep 112 = .ok (.iconst 1, 1) := by decide +kernel
theorem d_Mod_keep_113 : decode b_Mod_keep 113 = .ok (.goto 4, 3) := by decide +kernel
theorem d_Mod_keep_116 : decode b_Mod_keep 116 = .ok (.iconst 0, 1) := by decide +kernel
theorem d_Mod_keep_117 : decode b_Mod_keep 117 = .ok (.iastore, 1) := by decide +kernel
theorem d_Mod_keep_118 : decode b_Mod_keep 118 = .ok (.aload_n 0, 1) := by decide +kernel
theorem d_Mod_keep_119 : decode b_Mod_keep 119 = .ok (.iconst 0, 1) := by decide +kernel
theorem d_Mod_keep_120 : decode b_Mod_keep 120 = .ok (.putfield 230, 3) := by decide +kernel
theorem d_Mod_keep_123 : decode b_Mod_keep 123 = .ok (.iconst 0, 1) := by decide +kernel
theorem d_Mod_keep_124 : decode b_Mod_keep 124 = .ok (.istore_n 2, 1) := by decide +kernel
theorem d_Mod_keep_125 : decode b_Mod_keep 125 = .ok (.iload_n 2, 1) := by decide +kernel
theorem d_Mod_keep_126 : decode b_Mod_keep 126 = .ok (.aload_n 0, 1) := by decide +kernel
theorem d_Mod_keep_127 : decode b_Mod_keep 127 = .ok (.getfield 112, 3) := by decide +kernel
theorem d_Mod_keep_130 : decode b_Mod_keep 130 = .ok (.if_icmp .ge 87, 3) := by decide +kernel
theorem d_Mod_keep_133 : decode b_Mod_keep 133 = .ok (.iconst 0, 1) := by decide +kernel
theorem d_Mod_keep_134 : decode b_Mod_keep 134 = .ok (.istore_n 3, 1) := by decide +kernel
theorem d_Mod_keep_135 : decode b_Mod_keep 135 = .ok (.iconst 0, 1) := by decide +kernel
theorem d_Mod_keep_136 : decode b_Mod_keep 136 = .ok (.istore 4, 2) := by decide +kernel
theorem d_Mod_keep_138 : decode b_Mod_keep 138 = .ok (.iload 4, 2) := by decide +kernel
theorem d_Mod_keep_140 : decode b_Mod_keep 140 = .ok (.aload_n 0, 1) := by decide +kernel
theorem d_Mod_keep_141 : decode b_Mod_keep 141 = .ok (.getfield 230, 3) := by decide +kernel
theorem d_Mod_keep_144 : decode b_Mod_keep 144 = .ok (.if_icmp .ge 35, 3) := by decide +kernel
theorem d_Mod_keep_147 : decode b_Mod_keep 147 = .ok (.iload_n 3, 1) := by decide +kernel
theorem d_Mod_keep_148 : decode b_Mod_keep 148 = .ok (.ifCond .ne 19, 3) := by decide +kernel
theorem d_Mod_keep_151 : decode b_Mod_keep 151 = .ok (.aload_n 0, 1) := by decide +kernel
theorem d_Mod_keep_152 : decode b_Mod_keep 152 = .ok (.getfield 29, 3) := by decide +kernel
theorem d_Mod_keep_155 : decode b_Mod_keep 155 = .ok (.iload 4, 2) := by decide +kernel
theorem d_Mod_keep_157 : decode b_Mod_keep 157 = .ok (.iaload, 1) := by decide +kernel
theorem d_Mod_keep_158 : decode b_Mod_keep 158 = .ok (.aload_n 0, 1) := by decide +kernel
theorem d_Mod_keep_159 : decode b_Mod_keep 159 = .ok (.getfield 17, 3) := by decide +kernel
theorem d_Mod_keep_162 : decode b_Mod_keep 162 = .ok (.iload_n 2, 1) := by decide +kernel
theorem d_Mod_keep_163 : decode b_Mod_keep 163 = .ok (.iaload, 1) := by decide +kernel
theorem d_Mod_keep_164 : decode b_Mod_keep 164 = .ok (.if_icmp .ne 7, 3) := by decide +kernel
theorem d_Mod_keep_167 : decode b_Mod_keep 167 = .ok (.iconst 1, 1) := by decide +kernel
theorem d_Mod_keep_168 : decode b_Mod_keep 168 = .ok (.goto 4, 3) := by decide +kernel
theorem d_Mod_keep_171 : decode b_Mod_keep 171 = .ok (.iconst 0, 1) := by decide +kernel
theorem d_Mod_keep_172 : decode b_Mod_keep 172 = .ok (.istore_n 3, 1) := by decide +kernel
theorem d_Mod_keep_173 : decode b_Mod_keep 173 = .ok (.iinc 4 1, 3) := by decide +kernel
theorem d_Mod_keep_176 : decode b_Mod_keep 176 = .ok (.goto (-38), 3) := by decide +kernel
theorem d_Mod_keep_179 : decode b_Mod_keep 179 = .ok (.iload_n 3, 1) := by decide +kernel
theorem d_Mod_keep_180 : decode b_Mod_keep 180 = .ok (.ifCond .eq 6, 3) := by decide +kernel
theorem d_Mod_keep_183 : decode b_Mod_keep 183 = .ok (.goto 28, 3) := by decide +kernel
theorem d_Mod_keep_186 : decode b_Mod_keep 186 = .ok (.aload_n 0, 1) := by decide +kernel
theorem d_Mod_keep_187 : decode b_Mod_keep 187 = .ok (.getfield 29, 3) := by decide +kernel
theorem d_Mod_keep_190 : decode b_Mod_keep 190 = .ok (.aload_n 0, 1) := by decide +kernel
theorem d_Mod_keep_191 : decode b_Mod_keep 191 = .ok (.getfield 230, 3) := by decide +kernel
theorem d_Mod_keep_194 : decode b_Mod_keep 194 = .ok (.aload_n 0, 1) := by decide +kernel
theorem d_Mod_keep_195 : decode b_Mod_keep 195 = .ok (.getfield 17, 3) := by decide +kernel
theorem d_Mod_keep_198 : decode b_Mod_keep 198 = .ok (.iload_n 2, 1) := by decide +kernel
theorem d_Mod_keep_199 : decode b_Mod_keep 199 = .ok (.iaload, 1) := by decide +kernel
theorem d_Mod_keep_200 : decode b_Mod_keep 200 = .ok (.iastore, 1) := by decide +kernel
theorem d_Mod_keep_201 : decode b_Mod_keep 201 = .ok (.aload_n 0, 1) := by decide +kernel
theorem d_Mod_keep_202 : decode b_Mod_keep 202 = .ok (.dup, 1) := by decide +kernel
theorem d_Mod_keep_203 : decode b_Mod_keep 203 = .ok (.getfield 230, 3) := by decide +kernel
theorem d_Mod_keep_206 : decode b_Mod_keep 206 = .ok (.iconst 1, 1) := by decide +kernel
theorem d_Mod_keep_207 : decode b_Mod_keep 207 = .ok (.iadd, 1) := by decide +kernel
theorem d_Mod_keep_208 : decode b_Mod_keep 208 = .ok (.putfield 230, 3) := by decide +kernel
theorem d_Mod_keep_211 : decode b_Mod_keep 211 = .ok (.iinc 2 1, 3) := by decide +kernel
theorem d_Mod_keep_214 : decode b_Mod_keep 214 = .ok (.goto (-89), 3) := by decide +kernel
theorem d_Mod_keep_217 : decode b_Mod_keep 217 = .ok (.aload_n 0, 1) := by decide +kernel
theorem d_Mod_keep_218 : decode b_Mod_keep 218 = .ok (.getfield 26, 3) := by decide +kernel
theorem d_Mod_keep_221 : decode b_Mod_keep 221 = .ok (.bipush 7, 2) := by decide +kernel
theorem d_Mod_keep_223 : decode b_Mod_keep 223 = .ok (.aload_n 0, 1) := by decide +kernel
theorem d_Mod_keep_224 : decode b_Mod_keep 224 = .ok (.getfield 230, 3) := by decide +kernel
theorem d_Mod_keep_227 : decode b_Mod_keep 227 = .ok (.iastore, 1) := by decide +kernel
theorem d_Mod_keep_228 : decode b_Mod_keep 228 = .ok (.aload_n 0, 1) := by decide +kernel
theorem d_Mod_keep_229 : decode b_Mod_keep 229 = .ok (.getfield 26, 3) := by decide +kernel
theorem d_Mod_keep_232 : decode b_Mod_keep 232 = .ok (.bipush 8, 2) := by decide +kernel
theorem d_Mod_keep_234 : decode b_Mod_keep 234 = .ok (.aload_n 0, 1) := by decide +kernel
theorem d_Mod_keep_235 : decode b_Mod_keep 235 = .ok (.getfield 185, 3) := by decide +kernel
theorem d_Mod_keep_238 : decode b_Mod_keep 238 = .ok (.iastore, 1) := by decide +kernel
theorem d_Mod_keep_239 : decode b_Mod_keep 239 = .ok (.aload_n 0, 1) := by decide +kernel
theorem d_Mod_keep_240 : decode b_Mod_keep 240 = .ok (.getfield 26, 3) := by decide +kernel
theorem d_Mod_keep_243 : decode b_Mod_keep 243 = .ok (.bipush 9, 2) := by decide +kernel
theorem d_Mod_keep_245 : decode b_Mod_keep 245 = .ok (.aload_n 0, 1) := by decide +kernel
theorem d_Mod_keep_246 : decode b_Mod_keep 246 = .ok (.getfield 179, 3) := by decide +kernel
theorem d_Mod_keep_249 : decode b_Mod_keep 249 = .ok (.iastore, 1) := by decide +kernel
theorem d_Mod_keep_250 : decode b_Mod_keep 250 = .ok (.aload_n 0, 1) := by decide +kernel
theorem d_Mod_keep_251 : decode b_Mod_keep 251 = .ok (.getfield 26, 3) := by decide +kernel
theorem d_Mod_keep_254 : decode b_Mod_keep 254 = .ok (.bipush 10, 2) := by decide +kernel
theorem d_Mod_keep_256 : decode b_Mod_keep 256 = .ok (.aload_n 0, 1) := by decide +kernel
theorem d_Mod_keep_257 : decode b_Mod_keep 257 = .ok (.getfield 135, 3) := by decide +kernel
theorem d_Mod_keep_260 : decode b_Mod_keep 260 = .ok (.ifCond .ne 10, 3) := by decide +kernel
theorem d_Mod_keep_263 : decode b_Mod_keep 263 = .ok (.aload_n 0, 1) := by decide +kernel
theorem d_Mod_keep_264 : decode b_Mod_keep 264 = .ok (.getfield 163, 3) := by decide +kernel
theorem d_Mod_keep_267 : decode b_Mod_keep 267 = .ok (.ifCond .eq 7, 3) := by decide +kernel
theorem d_Mod_keep_270 : decode b_Mod_keep 270 = .ok (.iconst 1, 1) := by decide +kernel
theorem d_Mod_keep_271 : decode b_Mod_keep 271 = .ok (.goto 4, 3) := by decide +kernel
theorem d_Mod_keep_274 : decode b_Mod_keep 274 = .ok (.iconst 0, 1) := by decide +kernel
theorem d_Mod_keep_275 : decode b_Mod_keep 275 = .ok (.iastore, 1) := by decide +kernel
theorem d_Mod_keep_276 : decode b_Mod_keep 276 = .ok (.aload_n 0, 1) := by decide +kernel
theorem d_Mod_keep_277 : decode b_Mod_keep 277 = .ok (.getfield 26, 3) := by decide +kernel
theorem d_Mod_keep_280 : decode b_Mod_keep 280 = .ok (.bipush 11, 2) := by decide +kernel
theorem d_Mod_keep_282 : decode b_Mod_keep 282 = .ok (.aload_n 0, 1) := by decide +kernel
theorem d_Mod_keep_283 : decode b_Mod_keep 283 = .ok (.getfield 140, 3) := by decide +kernel
theorem d_Mod_keep_286 : decode b_Mod_keep 286 = .ok (.ifCond .eq 7, 3) := by decide +kernel
theorem d_Mod_keep_289 : decode b_Mod_keep 289 = .ok (.iconst 1, 1) := by decide +kernel
theorem d_Mod_keep_290 : decode b_Mod_keep 290 = .ok (.goto 4, 3) := by decide +kernel
theorem d_Mod_keep_293 : decode b_Mod_keep 293 = .ok (.iconst 0, 1) := by decide +kernel
theorem d_Mod_keep_294 : decode b_Mod_keep 294 = .ok (.iastore, 1) := by decide +kernel
theorem d_Mod_keep_295 : decode b_Mod_keep 295 = .ok (.aload_n 0, 1) := by decide +kernel
theorem d_Mod_keep_296 : decode b_Mod_keep 296 = .ok (.getfield 26, 3) := by decide +kernel
theorem d_Mod_keep_299 : decode b_Mod_keep 299 = .ok (.bipush 12, 2) := by decide +kernel
theorem d_Mod_keep_301 : decode b_Mod_keep 301 = .ok (.iload_n 1, 1) := by decide +kernel
theorem d_Mod_keep_302 : decode b_Mod_keep 302 = .ok (.ifCond .eq 10, 3) := by decide +kernel
theorem d_Mod_keep_305 : decode b_Mod_keep 305 = .ok (.aload_n 0, 1) := by decide +kernel
theorem d_Mod_keep_306 : decode b_Mod_keep 306 = .ok (.getfield 145, 3) := by decide +kernel
theorem d_Mod_keep_309 : decode b_Mod_keep 309 = .ok (.goto 7, 3) := by decide +kernel
theorem d_Mod_keep_312 : decode b_Mod_keep 312 = .ok (.aload_n 0, 1) := by decide +kernel
theorem d_Mod_keep_313 : decode b_Mod_keep 313 = .ok (.getfield 166, 3) := by decide +kernel
theorem d_Mod_keep_316 : decode b_Mod_keep 316 = .ok (.iastore, 1) := by decide +kernel
theorem d_Mod_keep_317 : decode b_Mod_keep 317 = .ok (.aload_n 0, 1) := by decide +kernel
theorem d_Mod_keep_318 : decode b_Mod_keep 318 = .ok (.getfield 26, 3) := by decide +kernel
theorem d_Mod_keep_321 : decode b_Mod_keep 321 = .ok (.bipush 13, 2) := by decide +kernel
theorem d_Mod_keep_323 : decode b_Mod_keep 323 = .ok (.aload_n 0, 1) := by decide +kernel
theorem d_Mod_keep_324 : decode b_Mod_keep 324 = .ok (.getfield 150, 3) := by decide +kernel
theorem d_Mod_keep_327 : decode b_Mod_keep 327 = .ok (.iastore, 1) := by decide +kernel
theorem d_Mod_keep_328 : decode b_Mod_keep 328 = .ok (.aload_n 0, 1) := by decide +kernel
theorem d_Mod_keep_329 : decode b_Mod_keep 329 = .ok (.getfield 26, 3) := by decide +kernel
theorem d_Mod_keep_332 : decode b_Mod_keep 332 = .ok (.bipush 14, 2) := by decide +kernel
theorem d_Mod_keep_334 : decode b_Mod_keep 334 = .ok (.aload_n 0, 1) := by decide +kernel
theorem d_Mod_keep_335 : decode b_Mod_keep 335 = .ok (.getfield 155, 3) := by decide +kernel
theorem d_Mod_keep_338 : decode b_Mod_keep 338 = .ok (.iastore, 1) := by decide +kernel
theorem d_Mod_keep_339 : decode b_Mod_keep 339 = .ok (.aload_n 0, 1) := by decide +kernel
theorem d_Mod_keep_340 : decode b_Mod_keep 340 = .ok (.getfield 26, 3) := by decide +kernel
theorem d_Mod_keep_343 : decode b_Mod_keep 343 = .ok (.bipush 15, 2) := by decide +kernel
theorem d_Mod_keep_345 : decode b_Mod_keep 345 = .ok (.aload_n 0, 1) := by decide +kernel
theorem d_Mod_keep_346 : decode b_Mod_keep 346 = .ok (.getfield 160, 3) := by decide +kernel
theorem d_Mod_keep_349 : decode b_Mod_keep 349 = .ok (.ifCond .eq 7, 3) := by decide +kernel
theorem d_Mod_keep_352 : decode b_Mod_keep 352 = .ok (.iconst 1, 1) := by decide +kernel
theorem d_Mod_keep_353 : decode b_Mod_keep 353 = .ok (.goto 4, 3) := by decide +kernel
theorem d_Mod_keep_356 : decode b_Mod_keep 356 = .ok (.iconst 0, 1) := by decide +kernel
theorem d_Mod_keep_357 : decode b_Mod_keep 357 = .ok (.iastore, 1) := by decide +kernel
theorem d_Mod_keep_358 : decode b_Mod_keep 358 = .ok (.aload_n 0, 1) := by decide +kernel
theorem d_Mod_keep_359 : decode b_Mod_keep 359 = .ok (.getfield 26, 3) := by decide +kernel
theorem d_Mod_keep_362 : decode b_Mod_keep 362 = .ok (.bipush 16, 2) := by decide +kernel
theorem d_Mod_keep_364 : decode b_Mod_keep 364 = .ok (.aload_n 0, 1) := by decide +kernel
theorem d_Mod_keep_365 : decode b_Mod_keep 365 = .ok (.getfield 171, 3) := by decide +kernel
theorem d_Mod_keep_368 : decode b_Mod_keep 368 = .ok (.iastore, 1) := by decide +kernel
theorem d_Mod_keep_369 : decode b_Mod_keep 369 = .ok (.aload_n 0, 1) := by decide +kernel
theorem d_Mod_keep_370 : decode b_Mod_keep 370 = .ok (.getfield 26, 3) := by decide +kernel
theorem d_Mod_keep_373 : decode b_Mod_keep 373 = .ok (.bipush 17, 2) := by decide +kernel
theorem d_Mod_keep_375 : decode b_Mod_keep 375 = .ok (.aload_n 0, 1) := by decide +kernel
theorem d_Mod_keep_376 : decode b_Mod_keep 376 = .ok (.getfield 176, 3) := by decide +kernel
theorem d_Mod_keep_379 : decode b_Mod_keep 379 = .ok (.iastore, 1) := by decide +kernel
theorem d_Mod_keep_380 : decode b_Mod_keep 380 = .ok (.return_, 1) := by decide +kernel
theorem d_Mod_fault_0 : decode b_Mod_fault 0 = .ok (.aload_n 0, 1) := by decide +kernel
theorem d_Mod_fault_1 : decode b_Mod_fault 1 = .ok (.iconst 0, 1) := by decide +kernel
theorem d_Mod_fault_2 : decode b_Mod_fault 2 = .ok (.putfield 32, 3) := by decide +kernel
theorem d_Mod_fault_5 : decode b_Mod_fault 5 = .ok (.aload_n 0, 1) := by decide +kernel
theorem d_Mod_fault_6 : decode b_Mod_fault 6 = .ok (.getfield 13, 3) := by decide +kernel
theorem d_Mod_fault_9 : decode b_Mod_fault 9 = .ok (.ireturn, 1) := by decide +kernel
theorem d_Mod_bytes_0 : decode b_Mod_bytes 0 = .ok (.aload_n 0, 1) := by decide +kernel
theorem d_Mod_bytes_1 : decode b_Mod_bytes 1 = .ok (.iconst 0, 1) := by decide +kernel
theorem d_Mod_bytes_2 : decode b_Mod_bytes 2 = .ok (.putfield 32, 3) := by decide +kernel
theorem d_Mod_bytes_5 : decode b_Mod_bytes 5 = .ok (.aload_n 0, 1) := by decide +kernel
theorem d_Mod_bytes_6 : decode b_Mod_bytes 6 = .ok (.getfield 240, 3) := by decide +kernel
theorem d_Mod_bytes_9 : decode b_Mod_bytes 9 = .ok (.ifCond .eq 23, 3) := by decide +kernel
theorem d_Mod_bytes_12 : decode b_Mod_bytes 12 = .ok (.iload_n 1, 1) := by decide +kernel
theorem d_Mod_bytes_13 : decode b_Mod_bytes 13 = .ok (.ifCond .lt 19, 3) := by decide +kernel
theorem d_Mod_bytes_16 : decode b_Mod_bytes 16 = .ok (.iload_n 1, 1) := by decide +kernel
theorem d_Mod_bytes_17 : decode b_Mod_bytes 17 = .ok (.sipush 255, 3) := by decide +kernel
theorem d_Mod_bytes_20 : decode b_Mod_bytes 20 = .ok (.if_icmp .gt 12, 3) := by decide +kernel
theorem d_Mod_bytes_23 : decode b_Mod_bytes 23 = .ok (.iload_n 2, 1) := by decide +kernel
theorem d_Mod_bytes_24 : decode b_Mod_bytes 24 = .ok (.ifCond .lt 8, 3) := by decide +kernel
theorem d_Mod_bytes_27 : decode b_Mod_bytes 27 = .ok (.iload_n 2, 1) := by decide +kernel
theorem d_Mod_bytes_28 : decode b_Mod_bytes 28 = .ok (.iconst 2, 1) := by decide +kernel
theorem d_Mod_bytes_29 : decode b_Mod_bytes 29 = .ok (.if_icmp .le 5, 3) := by decide +kernel
theorem d_Mod_bytes_32 : decode b_Mod_bytes 32 = .ok (.iconst (-1), 1) := by decide +kernel
theorem d_Mod_bytes_33 : decode b_Mod_bytes 33 = .ok (.ireturn, 1) := by decide +kernel
theorem d_Mod_bytes_34 : decode b_Mod_bytes 34 = .ok (.aload_n 0, 1) := by decide +kernel
theorem d_Mod_bytes_35 : decode b_Mod_bytes 35 = .ok (.getfield 26, 3) := by decide +kernel
theorem d_Mod_bytes_38 : decode b_Mod_bytes 38 = .ok (.iconst 3, 1) := by decide +kernel
theorem d_Mod_bytes_39 : decode b_Mod_bytes 39 = .ok (.iaload, 1) := by decide +kernel
theorem d_Mod_bytes_40 : decode b_Mod_bytes 40 = .ok (.ifCond .ne 7, 3) := by decide +kernel
theorem d_Mod_bytes_43 : decode b_Mod_bytes 43 = .ok (.iconst 0, 1) := by decide +kernel
theorem d_Mod_bytes_44 : decode b_Mod_bytes 44 = .ok (.goto 44, 3) := by decide +kernel
theorem d_Mod_bytes_47 : decode b_Mod_bytes 47 = .ok (.aload_n 0, 1) := by decide +kernel
theorem d_Mod_bytes_48 : decode b_Mod_bytes 48 = .ok (.getfield 26, 3) := by decide +kernel
theorem d_Mod_bytes_51 : decode b_Mod_bytes 51 = .ok (.iconst 3, 1) := by decide +kernel
theorem d_Mod_bytes_52 : decode b_Mod_bytes 52 = .ok (.iaload, 1) := by decide +kernel
theorem d_Mod_bytes_53 : decode b_Mod_bytes 53 = .ok (.iconst 3, 1) := by decide +kernel
theorem d_Mod_bytes_54 : decode b_Mod_bytes 54 = .ok (.if_icmp .ge 12, 3) := by decide +kernel
theorem d_Mod_bytes_57 : decode b_Mod_bytes 57 = .ok (.aload_n 0, 1) := by decide +kernel
theorem d_Mod_bytes_58 : decode b_Mod_bytes 58 = .ok (.getfield 26, 3) := by decide +kernel
theorem d_Mod_bytes_61 : decode b_Mod_bytes 61 = .ok (.iconst 4, 1) := by decide +kernel
theorem d_Mod_bytes_62 : decode b_Mod_bytes 62 = .ok (.iaload, 1) := by decide +kernel
theorem d_Mod_bytes_63 : decode b_Mod_bytes 63 = .ok (.goto 25, 3) := by decide +kernel
theorem d_Mod_bytes_66 : decode b_Mod_bytes 66 = .ok (.aload_n 0, 1) := by decide +kernel
theorem d_Mod_bytes_67 : decode b_Mod_bytes 67 = .ok (.getfield 26, 3) := by decide +kernel
theorem d_Mod_bytes_70 : decode b_Mod_bytes 70 = .ok (.iconst 4, 1) := by decide +kernel
theorem d_Mod_bytes_71 : decode b_Mod_bytes 71 = .ok (.iaload, 1) := by decide +kernel
theorem d_Mod_bytes_72 : decode b_Mod_bytes 72 = .ok (.iload_n 1, 1) := by decide +kernel
theorem d_Mod_bytes_73 : decode b_Mod_bytes 73 = .ok (.if_icmp .ge 14, 3) := by decide +kernel
theorem d_Mod_bytes_76 : decode b_Mod_bytes 76 = .ok (.iload_n 1, 1) := by decide +kernel
theorem d_Mod_bytes_77 : decode b_Mod_bytes 77 = .ok (.aload_n 0, 1) := by decide +kernel
theorem d_Mod_bytes_78 : decode b_Mod_bytes 78 = .ok (.getfield 26, 3) := by decide +kernel
theorem d_Mod_bytes_81 : decode b_Mod_bytes 81 = .ok (.iconst 4, 1) := by decide +kernel
theorem d_Mod_bytes_82 : decode b_Mod_bytes 82 = .ok (.iaload, 1) := by decide +kernel
theorem d_Mod_bytes_83 : decode b_Mod_bytes 83 = .ok (.isub, 1) := by decide +kernel
theorem d_Mod_bytes_84 : decode b_Mod_bytes 84 = .ok (.goto 4, 3) := by decide +kernel
theorem d_Mod_bytes_87 : decode b_Mod_bytes 87 = .ok (.iconst 0, 1) := by decide +kernel
theorem d_Mod_bytes_88 : decode b_Mod_bytes 88 = .ok (.istore_n 3, 1) := by decide +kernel
theorem d_Mod_bytes_89 : decode b_Mod_bytes 89 = .ok (.aload_n 0, 1) := by decide +kernel
theorem d_Mod_bytes_90 : decode b_Mod_bytes 90 = .ok (.getfield 26, 3) := by decide +kernel
theorem d_Mod_bytes_93 : decode b_Mod_bytes 93 = .ok (.iconst 3, 1) := by decide +kernel
theorem d_Mod_bytes_94 : decode b_Mod_bytes 94 = .ok (.iaload, 1) := by decide +kernel
theorem d_Mod_bytes_95 : decode b_Mod_bytes 95 = .ok (.iconst 1, 1) := by decide +kernel
theorem d_Mod_bytes_96 : decode b_Mod_bytes 96 = .ok (.if_icmp .ne 24, 3) := by decide +kernel
theorem d_Mod_bytes_99 : decode b_Mod_bytes 99 = .ok (.aload_n 0, 1) := by decide +kernel
theorem d_Mod_bytes_100 : decode b_Mod_bytes 100 = .ok (.getfield 26, 3) := by decide +kernel
theorem d_Mod_bytes_103 : decode b_Mod_bytes 103 = .ok (.iconst 5, 1) := by decide +kernel
theorem d_Mod_bytes_104 : decode b_Mod_bytes 104 = .ok (.iaload, 1) := by decide +kernel
theorem d_Mod_bytes_105 : decode b_Mod_bytes 105 = .ok (.iload_n 1, 1) := by decide +kernel
theorem d_Mod_bytes_106 : decode b_Mod_bytes 106 = .ok (.if_icmp .ge 14, 3) := by decide +kernel
theorem d_Mod_bytes_109 : decode b_Mod_bytes 109 = .ok (.aload_n 0, 1) := by decide +kernel
theorem d_Mod_bytes_110 : decode b_Mod_bytes 110 = .ok (.getfield 26, 3) := by decide +kernel
theorem d_Mod_bytes_113 : decode b_Mod_bytes 113 = .ok (.iconst 5, 1) := by decide +kernel
theorem d_Mod_bytes_114 : decode b_Mod_bytes 114 = .ok (.iaload, 1) := by decide +kernel
theorem d_Mod_bytes_115 : decode b_Mod_bytes 115 = .ok (.iconst 1, 1) := by decide +kernel
theorem d_Mod_bytes_116 : decode b_Mod_bytes 116 = .ok (.iadd, 1) := by decide +kernel
theorem d_Mod_bytes_117 : decode b_Mod_bytes 117 = .ok (.goto 4, 3) := by decide +kernel
theorem d_Mod_bytes_120 : decode b_Mod_bytes 120 = .ok (.iload_n 1, 1) := by decide +kernel
theorem d_Mod_bytes_121 : decode b_Mod_bytes 121 = .ok (.istore 4, 2) := by decide +kernel
theorem d_Mod_bytes_123 : decode b_Mod_bytes 123 = .ok (.iload_n 3, 1) := by decide +kernel
theorem d_Mod_bytes_124 : decode b_Mod_bytes 124 = .ok (.iload 4, 2) := by decide +kernel
theorem d_Mod_bytes_126 : decode b_Mod_bytes 126 = .ok (.if_icmp .lt 14, 3) := by decide +kernel
theorem d_Mod_bytes_129 : decode b_Mod_bytes 129 = .ok (.iload_n 2, 1) := by decide +kernel
theorem d_Mod_bytes_130 : decode b_Mod_bytes 130 = .ok (.iconst 2, 1) := by decide +kernel
theorem d_Mod_bytes_131 : decode b_Mod_bytes 131 = .ok (.if_icmp .ne 7, 3) := by decide +kernel
theorem d_Mod_bytes_134 : decode b_Mod_bytes 134 = .ok (.iconst 0, 1) := by decide +kernel
theorem d_Mod_bytes_135 : decode b_Mod_bytes 135 = .ok (.goto 4, 3) := by decide +kernel
theorem d_Mod_bytes_138 : decode b_Mod_bytes 138 = .ok (.iconst (-1), 1) := by decide +kernel
theorem d_Mod_bytes_139 : decode b_Mod_bytes 139 = .ok (.ireturn, 1) := by decide +kernel
theorem d_Mod_bytes_140 : decode b_Mod_bytes 140 = .ok (.iload_n 2, 1) := by decide +kernel
theorem d_Mod_bytes_141 : decode b_Mod_bytes 141 = .ok (.ifCond .ne 7, 3) := by decide +kernel
theorem d_Mod_bytes_144 : decode b_Mod_bytes 144 = .ok (.iload_n 3, 1) := by decide +kernel
theorem d_Mod_bytes_145 : decode b_Mod_bytes 145 = .ok (.goto 19, 3) := by decide +kernel
theorem d_Mod_bytes_148 : decode b_Mod_bytes 148 = .ok (.iload_n 2, 1) := by decide +kernel
theorem d_Mod_bytes_149 : decode b_Mod_bytes 149 = .ok (.iconst 1, 1) := by decide +kernel
theorem d_Mod_bytes_150 : decode b_Mod_bytes 150 = .ok (.if_icmp .ne 10, 3) := by decide +kernel
theorem d_Mod_bytes_153 : decode b_Mod_bytes 153 = .ok (.iload 4, 2) := by decide +kernel
theorem d_Mod_bytes_155 : decode b_Mod_bytes 155 = .ok (.iconst 1, 1) := by decide +kernel
theorem d_Mod_bytes_156 : decode b_Mod_bytes 156 = .ok (.isub, 1) := by decide +kernel
theorem d_Mod_bytes_157 : decode b_Mod_bytes 157 = .ok (.goto 7, 3) := by decide +kernel
theorem d_Mod_bytes_160 : decode b_Mod_bytes 160 = .ok (.iload 4, 2) := by decide +kernel
theorem d_Mod_bytes_162 : decode b_Mod_bytes 162 = .ok (.iload_n 3, 1) := by decide +kernel
theorem d_Mod_bytes_163 : decode b_Mod_bytes 163 = .ok (.isub, 1) := by decide +kernel
theorem d_Mod_bytes_164 : decode b_Mod_bytes 164 = .ok (.ireturn, 1) := by decide +kernel
