theorem d_Desk_init_0 : decode b_Desk_init 0 = .ok (.aload_n 0, 1) := by decide +kernel
theorem d_Desk_init_1 : decode b_Desk_init 1 = .ok (.invokespecial 1, 3) := by decide +kernel
theorem d_Desk_init_4 : decode b_Desk_init 4 = .ok (.aload_n 0, 1) := by decide +kernel
theorem d_Desk_init_5 : decode b_Desk_init 5 = .ok (.new 7, 3) := by decide +kernel
theorem d_Desk_init_8 : decode b_Desk_init 8 = .ok (.dup, 1) := by decide +kernel
theorem d_Desk_init_9 : decode b_Desk_init 9 = .ok (.invokespecial 9, 3) := by decide +kernel
theorem d_Desk_init_12 : decode b_Desk_init 12 = .ok (.putfield 10, 3) := by decide +kernel
theorem d_Desk_init_15 : decode b_Desk_init 15 = .ok (.aload_n 0, 1) := by decide +kernel
theorem d_Desk_init_16 : decode b_Desk_init 16 = .ok (.aload_n 0, 1) := by decide +kernel
theorem d_Desk_init_17 : decode b_Desk_init 17 = .ok (.getfield 10, 3) := by decide +kernel
theorem d_Desk_init_20 : decode b_Desk_init 20 = .ok (.getfield 16, 3) := by decide +kernel
theorem d_Desk_init_23 : decode b_Desk_init 23 = .ok (.putfield 20, 3) := by decide +kernel
theorem d_Desk_init_26 : decode b_Desk_init 26 = .ok (.aload_n 0, 1) := by decide +kernel
theorem d_Desk_init_27 : decode b_Desk_init 27 = .ok (.new 21, 3) := by decide +kernel
theorem d_Desk_init_30 : decode b_Desk_init 30 = .ok (.dup, 1) := by decide +kernel
theorem d_Desk_init_31 : decode b_Desk_init 31 = .ok (.invokespecial 23, 3) := by decide +kernel
theorem d_Desk_init_34 : decode b_Desk_init 34 = .ok (.putfield 24, 3) := by decide +kernel
theorem d_Desk_init_37 : decode b_Desk_init 37 = .ok (.aload_n 0, 1) := by decide +kernel
theorem d_Desk_init_38 : decode b_Desk_init 38 = .ok (.iconst 0, 1) := by decide +kernel
theorem d_Desk_init_39 : decode b_Desk_init 39 = .ok (.putfield 28, 3) := by decide +kernel
theorem d_Desk_init_42 : decode b_Desk_init 42 = .ok (.aload_n 0, 1) := by decide +kernel
theorem d_Desk_init_43 : decode b_Desk_init 43 = .ok (.iconst (-1), 1) := by decide +kernel
theorem d_Desk_init_44 : decode b_Desk_init 44 = .ok (.putfield 32, 3) := by decide +kernel
theorem d_Desk_init_47 : decode b_Desk_init 47 = .ok (.return_, 1) := by decide +kernel
theorem d_Desk_type_0 : decode b_Desk_type 0 = .ok (.aload_n 0, 1) := by decide +kernel
theorem d_Desk_type_1 : decode b_Desk_type 1 = .ok (.getfield 20, 3) := by decide +kernel
theorem d_Desk_type_4 : decode b_Desk_type 4 = .ok (.lload_n 1, 1) := by decide +kernel
theorem d_Desk_type_5 : decode b_Desk_type 5 = .ok (.iload_n 3, 1) := by decide +kernel
theorem d_Desk_type_6 : decode b_Desk_type 6 = .ok (.invokevirtual 35, 3) := by decide +kernel
theorem d_Desk_type_9 : decode b_Desk_type 9 = .ok (.ireturn, 1) := by decide +kernel
theorem d_Desk_fault_0 : decode b_Desk_fault 0 = .ok (.aload_n 0, 1) := by decide +kernel
theorem d_Desk_fault_1 : decode b_Desk_fault 1 = .ok (.getfield 32, 3) := by decide +kernel
theorem d_Desk_fault_4 : decode b_Desk_fault 4 = .ok (.ireturn, 1) := by decide +kernel
theorem d_Desk_told_0 : decode b_Desk_told 0 = .ok (.aload_n 0, 1) := by decide +kernel
theorem d_Desk_told_1 : decode b_Desk_told 1 = .ok (.getfield 28, 3) := by decide +kernel
theorem d_Desk_told_4 : decode b_Desk_told 4 = .ok (.ifCond .ne 7, 3) := by decide +kernel
theorem d_Desk_told_7 : decode b_Desk_told 7 = .ok (.iconst (-1), 1) := by decide +kernel
theorem d_Desk_told_8 : decode b_Desk_told 8 = .ok (.goto 11, 3) := by decide +kernel
theorem d_Desk_told_11 : decode b_Desk_told 11 = .ok (.aload_n 0, 1) := by decide +kernel
theorem d_Desk_told_12 : decode b_Desk_told 12 = .ok (.getfield 24, 3) := by decide +kernel
theorem d_Desk_told_15 : decode b_Desk_told 15 = .ok (.iload_n 1, 1) := by decide +kernel
theorem d_Desk_told_16 : decode b_Desk_told 16 = .ok (.invokevirtual 65, 3) := by decide +kernel
theorem d_Desk_told_19 : decode b_Desk_told 19 = .ok (.ireturn, 1) := by decide +kernel
theorem d_Desk_matches_0 : decode b_Desk_matches 0 = .ok (.aload_n 0, 1) := by decide +kernel
theorem d_Desk_matches_1 : decode b_Desk_matches 1 = .ok (.getfield 28, 3) := by decide +kernel
theorem d_Desk_matches_4 : decode b_Desk_matches 4 = .ok (.ifCond .le 18, 3) := by decide +kernel
theorem d_Desk_matches_7 : decode b_Desk_matches 7 = .ok (.aload_n 0, 1) := by decide +kernel
theorem d_Desk_matches_8 : decode b_Desk_matches 8 = .ok (.getfield 24, 3) := by decide +kernel
theorem d_Desk_matches_11 : decode b_Desk_matches 11 = .ok (.iload_n 1, 1) := by decide +kernel
theorem d_Desk_matches_12 : decode b_Desk_matches 12 = .ok (.invokevirtual 69, 3) := by decide +kernel
theorem d_Desk_matches_15 : decode b_Desk_matches 15 = .ok (.ifCond .eq 7, 3) := by decide +kernel
theorem d_Desk_matches_18 : decode b_Desk_matches 18 = .ok (.iconst 1, 1) := by decide +kernel
theorem d_Desk_matches_19 : decode b_Desk_matches 19 = .ok (.goto 4, 3) := by decide +kernel
theorem d_Desk_matches_22 : decode b_Desk_matches 22 = .ok (.iconst 0, 1) := by decide +kernel
theorem d_Desk_matches_23 : decode b_Desk_matches 23 = .ok (.ireturn, 1) := by decide +kernel
theorem d_Desk_bytes_0 : decode b_Desk_bytes 0 = .ok (.aload_n 0, 1) := by decide +kernel
theorem d_Desk_bytes_1 : decode b_Desk_bytes 1 = .ok (.getfield 28, 3) := by decide +kernel
theorem d_Desk_bytes_4 : decode b_Desk_bytes 4 = .ok (.ifCond .eq 14, 3) := by decide +kernel
theorem d_Desk_bytes_7 : decode b_Desk_bytes 7 = .ok (.iload_n 1, 1) := by decide +kernel
theorem d_Desk_bytes_8 : decode b_Desk_bytes 8 = .ok (.ifCond .lt 10, 3) := by decide +kernel
theorem d_Desk_bytes_11 : decode b_Desk_bytes 11 = .ok (.iload_n 1, 1) := by decide +kernel
theorem d_Desk_bytes_12 : decode b_Desk_bytes 12 = .ok (.sipush 255, 3) := by decide +kernel
theorem d_Desk_bytes_15 : decode b_Desk_bytes 15 = .ok (.if_icmp .le 5, 3) := by decide +kernel
theorem d_Desk_bytes_18 : decode b_Desk_bytes 18 = .ok (.iconst (-1), 1) := by decide +kernel
theorem d_Desk_bytes_19 : decode b_Desk_bytes 19 = .ok (.ireturn, 1) := by decide +kernel
theorem d_Desk_bytes_20 : decode b_Desk_bytes 20 = .ok (.aload_n 0, 1) := by decide +kernel
theorem d_Desk_bytes_21 : decode b_Desk_bytes 21 = .ok (.getfield 24, 3) := by decide +kernel
theorem d_Desk_bytes_24 : decode b_Desk_bytes 24 = .ok (.iload_n 1, 1) := by decide +kernel
theorem d_Desk_bytes_25 : decode b_Desk_bytes 25 = .ok (.invokevirtual 72, 3) := by decide +kernel
theorem d_Desk_bytes_28 : decode b_Desk_bytes 28 = .ok (.istore_n 3, 1) := by decide +kernel
theorem d_Desk_bytes_29 : decode b_Desk_bytes 29 = .ok (.aload_n 0, 1) := by decide +kernel
theorem d_Desk_bytes_30 : decode b_Desk_bytes 30 = .ok (.getfield 24, 3) := by decide +kernel
theorem d_Desk_bytes_33 : decode b_Desk_bytes 33 = .ok (.iload_n 1, 1) := by decide +kernel
theorem d_Desk_bytes_34 : decode b_Desk_bytes 34 = .ok (.invokevirtual 75, 3) := by decide +kernel
theorem d_Desk_bytes_37 : decode b_Desk_bytes 37 = .ok (.istore 4, 2) := by decide +kernel
theorem d_Desk_bytes_39 : decode b_Desk_bytes 39 = .ok (.iconst 0, 1) := by decide +kernel
theorem d_Desk_bytes_40 : decode b_Desk_bytes 40 = .ok (.iload 4, 2) := by decide +kernel
theorem d_Desk_bytes_42 : decode b_Desk_bytes 42 = .ok (.iload_n 3, 1) := by decide +kernel
theorem d_Desk_bytes_43 : decode b_Desk_bytes 43 = .ok (.isub, 1) := by decide +kernel
theorem d_Desk_bytes_44 : decode b_Desk_bytes 44 = .ok (.iconst 1, 1) := by decide +kernel
theorem d_Desk_bytes_45 : decode b_Desk_bytes 45 = .ok (.iadd, 1) := by decide +kernel
theorem d_Desk_bytes_46 : decode b_Desk_bytes 46 = .ok (.invokestatic 78, 3) := by decide +kernel
theorem d_Desk_bytes_49 : decode b_Desk_bytes 49 = .ok (.istore 5, 2) := by decide +kernel
theorem d_Desk_bytes_51 : decode b_Desk_bytes 51 = .ok (.iload_n 2, 1) := by decide +kernel
theorem d_Desk_bytes_52 : decode b_Desk_bytes 52 = .ok (.tableswitch 54 0 2 #[28, 39, 51], 28) := by decide +kernel
theorem d_Desk_bytes_80 : decode b_Desk_bytes 80 = .ok (.iload 5, 2) := by decide +kernel
theorem d_Desk_bytes_82 : decode b_Desk_bytes 82 = .ok (.ifCond .ne 7, 3) := by decide +kernel
theorem d_Desk_bytes_85 : decode b_Desk_bytes 85 = .ok (.iconst (-1), 1) := by decide +kernel
theorem d_Desk_bytes_86 : decode b_Desk_bytes 86 = .ok (.goto 4, 3) := by decide +kernel
theorem d_Desk_bytes_89 : decode b_Desk_bytes 89 = .ok (.iload_n 3, 1) := by decide +kernel
theorem d_Desk_bytes_90 : decode b_Desk_bytes 90 = .ok (.ireturn, 1) := by decide +kernel
theorem d_Desk_bytes_91 : decode b_Desk_bytes 91 = .ok (.iload 5, 2) := by decide +kernel
theorem d_Desk_bytes_93 : decode b_Desk_bytes 93 = .ok (.ifCond .ne 7, 3) := by decide +kernel
theorem d_Desk_bytes_96 : decode b_Desk_bytes 96 = .ok (.iconst (-1), 1) := by decide +kernel
theorem d_Desk_bytes_97 : decode b_Desk_bytes 97 = .ok (.goto 5, 3) := by decide +kernel
theorem d_Desk_bytes_100 : decode b_Desk_bytes 100 = .ok (.iload 4, 2) := by decide +kernel
theorem d_Desk_bytes_102 : decode b_Desk_bytes 102 = .ok (.ireturn, 1) := by decide +kernel
theorem d_Desk_bytes_103 : decode b_Desk_bytes 103 = .ok (.iload 5, 2) := by decide +kernel
theorem d_Desk_bytes_105 : decode b_Desk_bytes 105 = .ok (.ireturn, 1) := by decide +kernel
theorem d_Desk_bytes_106 : decode b_Desk_bytes 106 = .ok (.iconst (-1), 1) := by decide +kernel
theorem d_Desk_bytes_107 : decode b_Desk_bytes 107 = .ok (.ireturn, 1) := by decide +kernel
theorem d_Desk_read_0 : decode b_Desk_read 0 = .ok (.iload_n 1, 1) := by decide +kernel
theorem d_Desk_read_1 : decode b_Desk_read 1 = .ok (.ifCond .eq 18, 3) := by decide +kernel
theorem d_Desk_read_4 : decode b_Desk_read 4 = .ok (.iload_n 1, 1) := by decide +kernel
theorem d_Desk_read_5 : decode b_Desk_read 5 = .ok (.iconst 1, 1) := by decide +kernel
theorem d_Desk_read_6 : decode b_Desk_read 6 = .ok (.if_icmp .eq 13, 3) := by decide +kernel
theorem d_Desk_read_9 : decode b_Desk_read 9 = .ok (.new 41, 3) := by decide +kernel
theorem d_Desk_read_12 : decode b_Desk_read 12 = .ok (.dup, 1) := by decide +kernel
theorem d_Desk_read_13 : decode b_Desk_read 13 = .ok (.ldc 43, 2) := by decide +kernel
theorem d_Desk_read_15 : decode b_Desk_read 15 = .ok (.invokespecial 45, 3) := by decide +kernel
theorem d_Desk_read_18 : decode b_Desk_read 18 = .ok (.athrow, 1) := by decide +kernel
theorem d_Desk_read_19 : decode b_Desk_read 19 = .ok (.aload_n 0, 1) := by decide +kernel
theorem d_Desk_read_20 : decode b_Desk_read 20 = .ok (.getfield 10, 3) := by decide +kernel
theorem d_Desk_read_23 : decode b_Desk_read 23 = .ok (.iload_n 1, 1) := by decide +kernel
theorem d_Desk_read_24 : decode b_Desk_read 24 = .ok (.invokevirtual 48, 3) := by decide +kernel
theorem d_Desk_read_27 : decode b_Desk_read 27 = .ok (.istore_n 2, 1) := by decide +kernel
theorem d_Desk_read_28 : decode b_Desk_read 28 = .ok (.aload_n 0, 1) := by decide +kernel
theorem d_Desk_read_29 : decode b_Desk_read 29 = .ok (.getfield 20, 3) := by decide +kernel
theorem d_Desk_read_32 : decode b_Desk_read 32 = .ok (.invokevirtual 52, 3) := by decide +kernel
theorem d_Desk_read_35 : decode b_Desk_read 35 = .ok (.aload_n 0, 1) := by decide +kernel
theorem d_Desk_read_36 : decode b_Desk_read 36 = .ok (.aload_n 0, 1) := by decide +kernel
theorem d_Desk_read_37 : decode b_Desk_read 37 = .ok (.getfield 10, 3) := by decide +kernel
theorem d_Desk_read_40 : decode b_Desk_read 40 = .ok (.invokevirtual 55, 3) := by decide +kernel
theorem d_Desk_read_43 : decode b_Desk_read 43 = .ok (.putfield 32, 3) := by decide +kernel
theorem d_Desk_read_46 : decode b_Desk_read 46 = .ok (.iload_n 2, 1) := by decide +kernel
theorem d_Desk_read_47 : decode b_Desk_read 47 = .ok (.ifCond .ne 13, 3) := by decide +kernel
theorem d_Desk_read_50 : decode b_Desk_read 50 = .ok (.new 41, 3) := by decide +kernel
theorem d_Desk_read_53 : decode b_Desk_read 53 = .ok (.dup, 1) := by decide +kernel
theorem d_Desk_read_54 : decode b_Desk_read 54 = .ok (.ldc 59, 2) := by decide +kernel
theorem d_Desk_read_56 : decode b_Desk_read 56 = .ok (.invokespecial 45, 3) := by decide +kernel
theorem d_Desk_read_59 : decode b_Desk_read 59 = .ok (.athrow, 1) := by decide +kernel
theorem d_Desk_read_60 : decode b_Desk_read 60 = .ok (.aload_n 0, 1) := by decide +kernel
theorem d_Desk_read_61 : decode b_Desk_read 61 = .ok (.aload_n 0, 1) := by decide +kernel
theorem d_Desk_read_62 : decode b_Desk_read 62 = .ok (.getfield 10, 3) := by decide +kernel
theorem d_Desk_read_65 : decode b_Desk_read 65 = .ok (.aload_n 0, 1) := by decide +kernel
theorem d_Desk_read_66 : decode b_Desk_read 66 = .ok (.getfield 24, 3) := by decide +kernel
theorem d_Desk_read_69 : decode b_Desk_read 69 = .ok (.invokevirtual 61, 3) := by decide +kernel
theorem d_Desk_read_72 : decode b_Desk_read 72 = .ok (.putfield 24, 3) := by decide +kernel
theorem d_Desk_read_75 : decode b_Desk_read 75 = .ok (.aload_n 0, 1) := by decide +kernel
theorem d_Desk_read_76 : decode b_Desk_read 76 = .ok (.dup, 1) := by decide +kernel
theorem d_Desk_read_77 : decode b_Desk_read 77 = .ok (.getfield 28, 3) := by decide +kernel
theorem d_Desk_read_80 : decode b_Desk_read 80 = .ok (.iconst 1, 1) := by decide +kernel
theorem d_Desk_read_81 : decode b_Desk_read 81 = .ok (.iadd, 1) := by decide +kernel
theorem d_Desk_read_82 : decode b_Desk_read 82 = .ok (.putfield 28, 3) := by decide +kernel
theorem d_Desk_read_85 : decode b_Desk_read 85 = .ok (.aload_n 0, 1) := by decide +kernel
theorem d_Desk_read_86 : decode b_Desk_read 86 = .ok (.getfield 28, 3) := by decide +kernel
theorem d_Desk_read_89 : decode b_Desk_read 89 = .ok (.ireturn, 1) := by decide +kernel
