theorem d_Reader_init_0 : decode b_Reader_init 0 = .ok (.aload_n 0, 1) := by decide +kernel
theorem d_Reader_init_1 : decode b_Reader_init 1 = .ok (.invokespecial 5, 3) := by decide +kernel
theorem d_Reader_init_4 : decode b_Reader_init 4 = .ok (.aload_n 0, 1) := by decide +kernel
theorem d_Reader_init_5 : decode b_Reader_init 5 = .ok (.new 1, 3) := by decide +kernel
theorem d_Reader_init_8 : decode b_Reader_init 8 = .ok (.dup, 1) := by decide +kernel
theorem d_Reader_init_9 : decode b_Reader_init 9 = .ok (.invokespecial 11, 3) := by decide +kernel
theorem d_Reader_init_12 : decode b_Reader_init 12 = .ok (.putfield 12, 3) := by decide +kernel
theorem d_Reader_init_15 : decode b_Reader_init 15 = .ok (.aload_n 0, 1) := by decide +kernel
theorem d_Reader_init_16 : decode b_Reader_init 16 = .ok (.bipush 100, 2) := by decide +kernel
theorem d_Reader_init_18 : decode b_Reader_init 18 = .ok (.newarray .int, 2) := by decide +kernel
theorem d_Reader_init_20 : decode b_Reader_init 20 = .ok (.putfield 18, 3) := by decide +kernel
theorem d_Reader_init_23 : decode b_Reader_init 23 = .ok (.aload_n 0, 1) := by decide +kernel
theorem d_Reader_init_24 : decode b_Reader_init 24 = .ok (.bipush 100, 2) := by decide +kernel
theorem d_Reader_init_26 : decode b_Reader_init 26 = .ok (.newarray .int, 2) := by decide +kernel
theorem d_Reader_init_28 : decode b_Reader_init 28 = .ok (.putfield 22, 3) := by decide +kernel
theorem d_Reader_init_31 : decode b_Reader_init 31 = .ok (.aload_n 0, 1) := by decide +kernel
theorem d_Reader_init_32 : decode b_Reader_init 32 = .ok (.new 25, 3) := by decide +kernel
theorem d_Reader_init_35 : decode b_Reader_init 35 = .ok (.dup, 1) := by decide +kernel
theorem d_Reader_init_36 : decode b_Reader_init 36 = .ok (.invokespecial 27, 3) := by decide +kernel
theorem d_Reader_init_39 : decode b_Reader_init 39 = .ok (.putfield 28, 3) := by decide +kernel
theorem d_Reader_init_42 : decode b_Reader_init 42 = .ok (.aload_n 0, 1) := by decide +kernel
theorem d_Reader_init_43 : decode b_Reader_init 43 = .ok (.iconst 0, 1) := by decide +kernel
theorem d_Reader_init_44 : decode b_Reader_init 44 = .ok (.putfield 32, 3) := by decide +kernel
theorem d_Reader_init_47 : decode b_Reader_init 47 = .ok (.aload_n 0, 1) := by decide +kernel
theorem d_Reader_init_48 : decode b_Reader_init 48 = .ok (.iconst 0, 1) := by decide +kernel
theorem d_Reader_init_49 : decode b_Reader_init 49 = .ok (.putfield 36, 3) := by decide +kernel
theorem d_Reader_init_52 : decode b_Reader_init 52 = .ok (.aload_n 0, 1) := by decide +kernel
theorem d_Reader_init_53 : decode b_Reader_init 53 = .ok (.iconst 0, 1) := by decide +kernel
theorem d_Reader_init_54 : decode b_Reader_init 54 = .ok (.putfield 39, 3) := by decide +kernel
theorem d_Reader_init_57 : decode b_Reader_init 57 = .ok (.aload_n 0, 1) := by decide +kernel
theorem d_Reader_init_58 : decode b_Reader_init 58 = .ok (.iconst (-1), 1) := by decide +kernel
theorem d_Reader_init_59 : decode b_Reader_init 59 = .ok (.putfield 42, 3) := by decide +kernel
theorem d_Reader_init_62 : decode b_Reader_init 62 = .ok (.aload_n 0, 1) := by decide +kernel
theorem d_Reader_init_63 : decode b_Reader_init 63 = .ok (.iconst 0, 1) := by decide +kernel
theorem d_Reader_init_64 : decode b_Reader_init 64 = .ok (.putfield 45, 3) := by decide +kernel
theorem d_Reader_init_67 : decode b_Reader_init 67 = .ok (.aload_n 0, 1) := by decide +kernel
theorem d_Reader_init_68 : decode b_Reader_init 68 = .ok (.iconst 0, 1) := by decide +kernel
theorem d_Reader_init_69 : decode b_Reader_init 69 = .ok (.putfield 48, 3) := by decide +kernel
theorem d_Reader_init_72 : decode b_Reader_init 72 = .ok (.aload_n 0, 1) := by decide +kernel
theorem d_Reader_init_73 : decode b_Reader_init 73 = .ok (.iconst 0, 1) := by decide +kernel
theorem d_Reader_init_74 : decode b_Reader_init 74 = .ok (.putfield 51, 3) := by decide +kernel
theorem d_Reader_init_77 : decode b_Reader_init 77 = .ok (.return_, 1) := by decide +kernel
theorem d_Reader_readText_0 : decode b_Reader_readText 0 = .ok (.aload_n 0, 1) := by decide +kernel
theorem d_Reader_readText_1 : decode b_Reader_readText 1 = .ok (.iload_n 1, 1) := by decide +kernel
theorem d_Reader_readText_2 : decode b_Reader_readText 2 = .ok (.putfield 36, 3) := by decide +kernel
theorem d_Reader_readText_5 : decode b_Reader_readText 5 = .ok (.aload_n 0, 1) := by decide +kernel
theorem d_Reader_readText_6 : decode b_Reader_readText 6 = .ok (.iconst 0, 1) := by decide +kernel
theorem d_Reader_readText_7 : decode b_Reader_readText 7 = .ok (.putfield 32, 3) := by decide +kernel
theorem d_Reader_readText_10 : decode b_Reader_readText 10 = .ok (.aload_n 0, 1) := by decide +kernel
theorem d_Reader_readText_11 : decode b_Reader_readText 11 = .ok (.iconst 0, 1) := by decide +kernel
theorem d_Reader_readText_12 : decode b_Reader_readText 12 = .ok (.putfield 39, 3) := by decide +kernel
theorem d_Reader_readText_15 : decode b_Reader_readText 15 = .ok (.aload_n 0, 1) := by decide +kernel
theorem d_Reader_readText_16 : decode b_Reader_readText 16 = .ok (.iconst (-1), 1) := by decide +kernel
theorem d_Reader_readText_17 : decode b_Reader_readText 17 = .ok (.putfield 42, 3) := by decide +kernel
theorem d_Reader_readText_20 : decode b_Reader_readText 20 = .ok (.aload_n 0, 1) := by decide +kernel
theorem d_Reader_readText_21 : decode b_Reader_readText 21 = .ok (.getfield 28, 3) := by decide +kernel
theorem d_Reader_readText_24 : decode b_Reader_readText 24 = .ok (.invokevirtual 54, 3) := by decide +kernel
theorem d_Reader_readText_27 : decode b_Reader_readText 27 = .ok (.aload_n 0, 1) := by decide +kernel
theorem d_Reader_readText_28 : decode b_Reader_readText 28 = .ok (.invokevirtual 57, 3) := by decide +kernel
theorem d_Reader_readText_31 : decode b_Reader_readText 31 = .ok (.ifCond .ne 5, 3) := by decide +kernel
theorem d_Reader_readText_34 : decode b_Reader_readText 34 = .ok (.iconst 0, 1) := by decide +kernel
theorem d_Reader_readText_35 : decode b_Reader_readText 35 = .ok (.ireturn, 1) := by decide +kernel
theorem d_Reader_readText_36 : decode b_Reader_readText 36 = .ok (.iconst 0, 1) := by decide +kernel
theorem d_Reader_readText_37 : decode b_Reader_readText 37 = .ok (.istore_n 2, 1) := by decide +kernel
theorem d_Reader_readText_38 : decode b_Reader_readText 38 = .ok (.iload_n 2, 1) := by decide +kernel
theorem d_Reader_readText_39 : decode b_Reader_readText 39 = .ok (.bipush 100, 2) := by decide +kernel
theorem d_Reader_readText_41 : decode b_Reader_readText 41 = .ok (.if_icmp .gt 68, 3) := by decide +kernel
theorem d_Reader_readText_44 : decode b_Reader_readText 44 = .ok (.aload_n 0, 1) := by decide +kernel
theorem d_Reader_readText_45 : decode b_Reader_readText 45 = .ok (.bipush 10, 2) := by decide +kernel
theorem d_Reader_readText_47 : decode b_Reader_readText 47 = .ok (.invokevirtual 61, 3) := by decide +kernel
theorem d_Reader_readText_50 : decode b_Reader_readText 50 = .ok (.ifCond .eq 28, 3) := by decide +kernel
theorem d_Reader_readText_53 : decode b_Reader_readText 53 = .ok (.aload_n 0, 1) := by decide +kernel
theorem d_Reader_readText_54 : decode b_Reader_readText 54 = .ok (.invokevirtual 65, 3) := by decide +kernel
theorem d_Reader_readText_57 : decode b_Reader_readText 57 = .ok (.iconst (-1), 1) := by decide +kernel
theorem d_Reader_readText_58 : decode b_Reader_readText 58 = .ok (.if_icmp .eq 14, 3) := by decide +kernel
theorem d_Reader_readText_61 : decode b_Reader_readText 61 = .ok (.aload_n 0, 1) := by decide +kernel
theorem d_Reader_readText_62 : decode b_Reader_readText 62 = .ok (.aload_n 0, 1) := by decide +kernel
theorem d_Reader_readText_63 : decode b_Reader_readText 63 = .ok (.getfield 39, 3) := by decide +kernel
theorem d_Reader_readText_66 : decode b_Reader_readText 66 = .ok (.invokevirtual 69, 3) := by decide +kernel
theorem d_Reader_readText_69 : decode b_Reader_readText 69 = .ok (.ifCond .eq 7, 3) := by decide +kernel
theorem d_Reader_readText_72 : decode b_Reader_readText 72 = .ok (.iconst 1, 1) := by decide +kernel
theorem d_Reader_readText_73 : decode b_Reader_readText 73 = .ok (.goto 4, 3) := by decide +kernel
theorem d_Reader_readText_76 : decode b_Reader_readText 76 = .ok (.iconst 0, 1) := by decide +kernel
theorem d_Reader_readText_77 : decode b_Reader_readText 77 = .ok (.ireturn, 1) := by decide +kernel
theorem d_Reader_readText_78 : decode b_Reader_readText 78 = .ok (.aload_n 0, 1) := by decide +kernel
theorem d_Reader_readText_79 : decode b_Reader_readText 79 = .ok (.invokevirtual 73, 3) := by decide +kernel
theorem d_Reader_readText_82 : decode b_Reader_readText 82 = .ok (.ifCond .eq 19, 3) := by decide +kernel
theorem d_Reader_readText_85 : decode b_Reader_readText 85 = .ok (.aload_n 0, 1) := by decide +kernel
theorem d_Reader_readText_86 : decode b_Reader_readText 86 = .ok (.invokevirtual 76, 3) := by decide +kernel
theorem d_Reader_readText_89 : decode b_Reader_readText 89 = .ok (.ifCond .eq 12, 3) := by decide +kernel
theorem d_Reader_readText_92 : decode b_Reader_readText 92 = .ok (.aload_n 0, 1) := by decide +kernel
theorem d_Reader_readText_93 : decode b_Reader_readText 93 = .ok (.bipush 10, 2) := by decide +kernel
theorem d_Reader_readText_95 : decode b_Reader_readText 95 = .ok (.invokevirtual 79, 3) := by decide +kernel
theorem d_Reader_readText_98 : decode b_Reader_readText 98 = .ok (.ifCond .ne 5, 3) := by decide +kernel
theorem d_Reader_readText_101 : decode b_Reader_readText 101 = .ok (.iconst 0, 1) := by decide +kernel
theorem d_Reader_readText_102 : decode b_Reader_readText 102 = .ok (.ireturn, 1) := by decide +kernel
theorem d_Reader_readText_103 : decode b_Reader_readText 103 = .ok (.iinc 2 1, 3) := by decide +kernel
theorem d_Reader_readText_106 : decode b_Reader_readText 106 = .ok (.goto (-68), 3) := by decide +kernel
theorem d_Reader_readText_109 : decode b_Reader_readText 109 = .ok (.aload_n 0, 1) := by decide +kernel
theorem d_Reader_readText_110 : decode b_Reader_readText 110 = .ok (.aload_n 0, 1) := by decide +kernel
theorem d_Reader_readText_111 : decode b_Reader_readText 111 = .ok (.getfield 39, 3) := by decide +kernel
theorem d_Reader_readText_114 : decode b_Reader_readText 114 = .ok (.invokevirtual 69, 3) := by decide +kernel
theorem d_Reader_readText_117 : decode b_Reader_readText 117 = .ok (.ireturn, 1) := by decide +kernel
theorem d_Reader_readFirstLine_0 : decode b_Reader_readFirstLine 0 = .ok (.aload_n 0, 1) := by decide +kernel
theorem d_Reader_readFirstLine_1 : decode b_Reader_readFirstLine 1 = .ok (.invokevirtual 82, 3) := by decide +kernel
theorem d_Reader_readFirstLine_4 : decode b_Reader_readFirstLine 4 = .ok (.ifCond .eq 41, 3) := by decide +kernel
theorem d_Reader_readFirstLine_7 : decode b_Reader_readFirstLine 7 = .ok (.aload_n 0, 1) := by decide +kernel
theorem d_Reader_readFirstLine_8 : decode b_Reader_readFirstLine 8 = .ok (.bipush 32, 2) := by decide +kernel
theorem d_Reader_readFirstLine_10 : decode b_Reader_readFirstLine 10 = .ok (.invokevirtual 79, 3) := by decide +kernel
theorem d_Reader_readFirstLine_13 : decode b_Reader_readFirstLine 13 = .ok (.ifCond .eq 32, 3) := by decide +kernel
theorem d_Reader_readFirstLine_16 : decode b_Reader_readFirstLine 16 = .ok (.aload_n 0, 1) := by decide +kernel
theorem d_Reader_readFirstLine_17 : decode b_Reader_readFirstLine 17 = .ok (.bipush 47, 2) := by decide +kernel
theorem d_Reader_readFirstLine_19 : decode b_Reader_readFirstLine 19 = .ok (.invokevirtual 79, 3) := by decide +kernel
theorem d_Reader_readFirstLine_22 : decode b_Reader_readFirstLine 22 = .ok (.ifCond .eq 23, 3) := by decide +kernel
theorem d_Reader_readFirstLine_25 : decode b_Reader_readFirstLine 25 = .ok (.aload_n 0, 1) := by decide +kernel
theorem d_Reader_readFirstLine_26 : decode b_Reader_readFirstLine 26 = .ok (.invokevirtual 85, 3) := by decide +kernel
theorem d_Reader_readFirstLine_29 : decode b_Reader_readFirstLine 29 = .ok (.ifCond .eq 16, 3) := by decide +kernel
theorem d_Reader_readFirstLine_32 : decode b_Reader_readFirstLine 32 = .ok (.aload_n 0, 1) := by decide +kernel
theorem d_Reader_readFirstLine_33 : decode b_Reader_readFirstLine 33 = .ok (.bipush 10, 2) := by decide +kernel
theorem d_Reader_readFirstLine_35 : decode b_Reader_readFirstLine 35 = .ok (.invokevirtual 79, 3) := by decide +kernel
theorem d_Reader_readFirstLine_38 : decode b_Reader_readFirstLine 38 = .ok (.ifCond .eq 7, 3) := by decide +kernel
theorem d_Reader_readFirstLine_41 : decode b_Reader_readFirstLine 41 = .ok (.iconst 1, 1) := by decide +kernel
theorem d_Reader_readFirstLine_42 : decode b_Reader_readFirstLine 42 = .ok (.goto 4, 3) := by decide +kernel
theorem d_Reader_readFirstLine_45 : decode b_Reader_readFirstLine 45 = .ok (.iconst 0, 1) := by decide +kernel
theorem d_Reader_readFirstLine_46 : decode b_Reader_readFirstLine 46 = .ok (.ireturn, 1) := by decide +kernel
theorem d_Reader_readVerb_0 : decode b_Reader_readVerb 0 = .ok (.aload_n 0, 1) := by decide +kernel
theorem d_Reader_readVerb_1 : decode b_Reader_readVerb 1 = .ok (.getfield 36, 3) := by decide +kernel
theorem d_Reader_readVerb_4 : decode b_Reader_readVerb 4 = .ok (.iconst 1, 1) := by decide +kernel
theorem d_Reader_readVerb_5 : decode b_Reader_readVerb 5 = .ok (.if_icmp .ne 19, 3) := by decide +kernel
theorem d_Reader_readVerb_8 : decode b_Reader_readVerb 8 = .ok (.aload_n 0, 1) := by decide +kernel
theorem d_Reader_readVerb_9 : decode b_Reader_readVerb 9 = .ok (.getfield 28, 3) := by decide +kernel
theorem d_Reader_readVerb_12 : decode b_Reader_readVerb 12 = .ok (.iconst 0, 1) := by decide +kernel
theorem d_Reader_readVerb_13 : decode b_Reader_readVerb 13 = .ok (.iconst 3, 1) := by decide +kernel
theorem d_Reader_readVerb_14 : decode b_Reader_readVerb 14 = .ok (.invokevirtual 88, 3) := by decide +kernel
theorem d_Reader_readVerb_17 : decode b_Reader_readVerb 17 = .ok (.aload_n 0, 1) := by decide +kernel
theorem d_Reader_readVerb_18 : decode b_Reader_readVerb 18 = .ok (.ldc 92, 2) := by decide +kernel
theorem d_Reader_readVerb_20 : decode b_Reader_readVerb 20 = .ok (.invokevirtual 94, 3) := by decide +kernel
theorem d_Reader_readVerb_23 : decode b_Reader_readVerb 23 = .ok (.ireturn, 1) := by decide +kernel
theorem d_Reader_readVerb_24 : decode b_Reader_readVerb 24 = .ok (.aload_n 0, 1) := by decide +kernel
theorem d_Reader_readVerb_25 : decode b_Reader_readVerb 25 = .ok (.invokevirtual 65, 3) := by decide +kernel
theorem d_Reader_readVerb_28 : decode b_Reader_readVerb 28 = .ok (.bipush 72, 2) := by decide +kernel
theorem d_Reader_readVerb_30 : decode b_Reader_readVerb 30 = .ok (.if_icmp .ne 19, 3) := by decide +kernel
theorem d_Reader_readVerb_33 : decode b_Reader_readVerb 33 = .ok (.aload_n 0, 1) := by decide +kernel
theorem d_Reader_readVerb_34 : decode b_Reader_readVerb 34 = .ok (.getfield 28, 3) := by decide +kernel
theorem d_Reader_readVerb_37 : decode b_Reader_readVerb 37 = .ok (.iconst 0, 1) := by decide +kernel
theorem d_Reader_readVerb_38 : decode b_Reader_readVerb 38 = .ok (.iconst 2, 1) := by decide +kernel
theorem d_Reader_readVerb_39 : decode b_Reader_readVerb 39 = .ok (.invokevirtual 88, 3) := by decide +kernel
theorem d_Reader_readVerb_42 : decode b_Reader_readVerb 42 = .ok (.aload_n 0, 1) := by decide +kernel
theorem d_Reader_readVerb_43 : decode b_Reader_readVerb 43 = .ok (.ldc 98, 2) := by decide +kernel
theorem d_Reader_readVerb_45 : decode b_Reader_readVerb 45 = .ok (.invokevirtual 94, 3) := by decide +kernel
theorem d_Reader_readVerb_48 : decode b_Reader_readVerb 48 = .ok (.ireturn, 1) := by decide +kernel
theorem d_Reader_readVerb_49 : decode b_Reader_readVerb 49 = .ok (.aload_n 0, 1) := by decide +kernel
theorem d_Reader_readVerb_50 : decode b_Reader_readVerb 50 = .ok (.getfield 28, 3) := by decide +kernel
theorem d_Reader_readVerb_53 : decode b_Reader_readVerb 53 = .ok (.iconst 0, 1) := by decide +kernel
theorem d_Reader_readVerb_54 : decode b_Reader_readVerb 54 = .ok (.iconst 1, 1) := by decide +kernel
theorem d_Reader_readVerb_55 : decode b_Reader_readVerb 55 = .ok (.invokevirtual 88, 3) := by decide +kernel
theorem d_Reader_readVerb_58 : decode b_Reader_readVerb 58 = .ok (.aload_n 0, 1) := by decide +kernel
theorem d_Reader_readVerb_59 : decode b_Reader_readVerb 59 = .ok (.ldc 100, 2) := by decide +kernel
theorem d_Reader_readVerb_61 : decode b_Reader_readVerb 61 = .ok (.invokevirtual 94, 3) := by decide +kernel
theorem d_Reader_readVerb_64 : decode b_Reader_readVerb 64 = .ok (.ireturn, 1) := by decide +kernel
theorem d_Reader_takeAll_0 : decode b_Reader_takeAll 0 = .ok (.iconst 0, 1) := by decide +kernel
theorem d_Reader_takeAll_1 : decode b_Reader_takeAll 1 = .ok (.istore_n 2, 1) := by decide +kernel
theorem d_Reader_takeAll_2 : decode b_Reader_takeAll 2 = .ok (.iload_n 2, 1) := by decide +kernel
theorem d_Reader_takeAll_3 : decode b_Reader_takeAll 3 = .ok (.aload_n 1, 1) := by decide +kernel
theorem d_Reader_takeAll_4 : decode b_Reader_takeAll 4 = .ok (.invokevirtual 189, 3) := by decide +kernel
theorem d_Reader_takeAll_7 : decode b_Reader_takeAll 7 = .ok (.if_icmp .ge 40, 3) := by decide +kernel
theorem d_Reader_takeAll_10 : decode b_Reader_takeAll 10 = .ok (.aload_n 0, 1) := by decide +kernel
theorem d_Reader_takeAll_11 : decode b_Reader_takeAll 11 = .ok (.invokevirtual 65, 3) := by decide +kernel
theorem d_Reader_takeAll_14 : decode b_Reader_takeAll 14 = .ok (.aload_n 1, 1) := by decide +kernel
theorem d_Reader_takeAll_15 : decode b_Reader_takeAll 15 = .ok (.iload_n 2, 1) := by decide +kernel
theorem d_Reader_takeAll_16 : decode b_Reader_takeAll 16 = .ok (.invokevirtual 193, 3) := by decide +kernel
theorem d_Reader_takeAll_19 : decode b_Reader_takeAll 19 = .ok (.if_icmp .eq 12, 3) := by decide +kernel
theorem d_Reader_takeAll_22 : decode b_Reader_takeAll 22 = .ok (.aload_n 0, 1) := by decide +kernel
theorem d_Reader_takeAll_23 : decode b_Reader_takeAll 23 = .ok (.aload_n 0, 1) := by decide +kernel
theorem d_Reader_takeAll_24 : decode b_Reader_takeAll 24 = .ok (.getfield 39, 3) := by decide +kernel
theorem d_Reader_takeAll_27 : decode b_Reader_takeAll 27 = .ok (.invokevirtual 69, 3) := by decide +kernel
theorem d_Reader_takeAll_30 : decode b_Reader_takeAll 30 = .ok (.ireturn, 1) := by decide +kernel
theorem d_Reader_takeAll_31 : decode b_Reader_takeAll 31 = .ok (.aload_n 0, 1) := by decide +kernel
theorem d_Reader_takeAll_32 : decode b_Reader_takeAll 32 = .ok (.dup, 1) := by decide +kernel
theorem d_Reader_takeAll_33 : decode b_Reader_takeAll 33 = .ok (.getfield 39, 3) := by decide +kernel
theorem d_Reader_takeAll_36 : decode b_Reader_takeAll 36 = .ok (.iconst 1, 1) := by decide +kernel
theorem d_Reader_takeAll_37 : decode b_Reader_takeAll 37 = .ok (.iadd, 1) := by decide +kernel
theorem d_Reader_takeAll_38 : decode b_Reader_takeAll 38 = .ok (.putfield 39, 3) := by decide +kernel
theorem d_Reader_takeAll_41 : decode b_Reader_takeAll 41 = .ok (.iinc 2 1, 3) := by decide +kernel
theorem d_Reader_takeAll_44 : decode b_Reader_takeAll 44 = .ok (.goto (-42), 3) := by decide +kernel
theorem d_Reader_takeAll_47 : decode b_Reader_takeAll 47 = .ok (.iconst 1, 1) := by decide +kernel
theorem d_Reader_takeAll_48 : decode b_Reader_takeAll 48 = .ok (.ireturn, 1) := by decide +kernel
theorem d_Reader_mark_0 : decode b_Reader_mark 0 = .ok (.aload_n 0, 1) := by decide +kernel
theorem d_Reader_mark_1 : decode b_Reader_mark 1 = .ok (.getfield 12, 3) := by decide +kernel
theorem d_Reader_mark_4 : decode b_Reader_mark 4 = .ok (.aload_n 0, 1) := by decide +kernel
theorem d_Reader_mark_5 : decode b_Reader_mark 5 = .ok (.getfield 39, 3) := by decide +kernel
theorem d_Reader_mark_8 : decode b_Reader_mark 8 = .ok (.invokevirtual 185, 3) := by decide +kernel
theorem d_Reader_mark_11 : decode b_Reader_mark 11 = .ok (.ireturn, 1) := by decide +kernel
theorem d_Reader_stop_0 : decode b_Reader_stop 0 = .ok (.aload_n 0, 1) := by decide +kernel
theorem d_Reader_stop_1 : decode b_Reader_stop 1 = .ok (.iload_n 1, 1) := by decide +kernel
theorem d_Reader_stop_2 : decode b_Reader_stop 2 = .ok (.putfield 42, 3) := by decide +kernel
theorem d_Reader_stop_5 : decode b_Reader_stop 5 = .ok (.iconst 0, 1) := by decide +kernel
theorem d_Reader_stop_6 : decode b_Reader_stop 6 = .ok (.ireturn, 1) := by decide +kernel
theorem d_Reader_take_0 : decode b_Reader_take 0 = .ok (.aload_n 0, 1) := by decide +kernel
theorem d_Reader_take_1 : decode b_Reader_take 1 = .ok (.invokevirtual 65, 3) := by decide +kernel
theorem d_Reader_take_4 : decode b_Reader_take 4 = .ok (.iload_n 1, 1) := by decide +kernel
theorem d_Reader_take_5 : decode b_Reader_take 5 = .ok (.if_icmp .eq 12, 3) := by decide +kernel
theorem d_Reader_take_8 : decode b_Reader_take 8 = .ok (.aload_n 0, 1) := by decide +kernel
theorem d_Reader_take_9 : decode b_Reader_take 9 = .ok (.aload_n 0, 1) := by decide +kernel
theorem d_Reader_take_10 : decode b_Reader_take 10 = .ok (.getfield 39, 3) := by decide +kernel
theorem d_Reader_take_13 : decode b_Reader_take 13 = .ok (.invokevirtual 69, 3) := by decide +kernel
theorem d_Reader_take_16 : decode b_Reader_take 16 = .ok (.ireturn, 1) := by decide +kernel
theorem d_Reader_take_17 : decode b_Reader_take 17 = .ok (.aload_n 0, 1) := by decide +kernel
theorem d_Reader_take_18 : decode b_Reader_take 18 = .ok (.dup, 1) := by decide +kernel
theorem d_Reader_take_19 : decode b_Reader_take 19 = .ok (.getfield 39, 3) := by decide +kernel
theorem d_Reader_take_22 : decode b_Reader_take 22 = .ok (.iconst 1, 1) := by decide +kernel
theorem d_Reader_take_23 : decode b_Reader_take 23 = .ok (.iadd, 1) := by decide +kernel
theorem d_Reader_take_24 : decode b_Reader_take 24 = .ok (.putfield 39, 3) := by decide +kernel
theorem d_Reader_take_27 : decode b_Reader_take 27 = .ok (.iconst 1, 1) := by decide +kernel
theorem d_Reader_take_28 : decode b_Reader_take 28 = .ok (.ireturn, 1) := by decide +kernel
theorem d_Reader_readTarget_0 : decode b_Reader_readTarget 0 = .ok (.aload_n 0, 1) := by decide +kernel
theorem d_Reader_readTarget_1 : decode b_Reader_readTarget 1 = .ok (.bipush 31, 2) := by decide +kernel
theorem d_Reader_readTarget_3 : decode b_Reader_readTarget 3 = .ok (.invokevirtual 102, 3) := by decide +kernel
theorem d_Reader_readTarget_6 : decode b_Reader_readTarget 6 = .ok (.ifCond .ne 5, 3) := by decide +kernel
theorem d_Reader_readTarget_9 : decode b_Reader_readTarget 9 = .ok (.iconst 0, 1) := by decide +kernel
theorem d_Reader_readTarget_10 : decode b_Reader_readTarget 10 = .ok (.ireturn, 1) := by decide +kernel
theorem d_Reader_readTarget_11 : decode b_Reader_readTarget 11 = .ok (.aload_n 0, 1) := by decide +kernel
theorem d_Reader_readTarget_12 : decode b_Reader_readTarget 12 = .ok (.getfield 28, 3) := by decide +kernel
theorem d_Reader_readTarget_15 : decode b_Reader_readTarget 15 = .ok (.iconst 1, 1) := by decide +kernel
theorem d_Reader_readTarget_16 : decode b_Reader_readTarget 16 = .ok (.aload_n 0, 1) := by decide +kernel
theorem d_Reader_readTarget_17 : decode b_Reader_readTarget 17 = .ok (.getfield 45, 3) := by decide +kernel
theorem d_Reader_readTarget_20 : decode b_Reader_readTarget 20 = .ok (.invokevirtual 88, 3) := by decide +kernel
theorem d_Reader_readTarget_23 : decode b_Reader_readTarget 23 = .ok (.aload_n 0, 1) := by decide +kernel
theorem d_Reader_readTarget_24 : decode b_Reader_readTarget 24 = .ok (.getfield 36, 3) := by decide +kernel
theorem d_Reader_readTarget_27 : decode b_Reader_readTarget 27 = .ok (.iconst 1, 1) := by decide +kernel
theorem d_Reader_readTarget_28 : decode b_Reader_readTarget 28 = .ok (.if_icmp .eq 12, 3) := by decide +kernel
theorem d_Reader_readTarget_31 : decode b_Reader_readTarget 31 = .ok (.aload_n 0, 1) := by decide +kernel
theorem d_Reader_readTarget_32 : decode b_Reader_readTarget 32 = .ok (.bipush 47, 2) := by decide +kernel
theorem d_Reader_readTarget_34 : decode b_Reader_readTarget 34 = .ok (.invokevirtual 61, 3) := by decide +kernel
theorem d_Reader_readTarget_37 : decode b_Reader_readTarget 37 = .ok (.ifCond .ne 5, 3) := by decide +kernel
theorem d_Reader_readTarget_40 : decode b_Reader_readTarget 40 = .ok (.iconst 1, 1) := by decide +kernel
theorem d_Reader_readTarget_41 : decode b_Reader_readTarget 41 = .ok (.ireturn, 1) := by decide +kernel
theorem d_Reader_readTarget_42 : decode b_Reader_readTarget 42 = .ok (.aload_n 0, 1) := by decide +kernel
theorem d_Reader_readTarget_43 : decode b_Reader_readTarget 43 = .ok (.iconst 3, 1) := by decide +kernel
theorem d_Reader_readTarget_44 : decode b_Reader_readTarget 44 = .ok (.invokevirtual 102, 3) := by decide +kernel
theorem d_Reader_readTarget_47 : decode b_Reader_readTarget 47 = .ok (.ifCond .ne 5, 3) := by decide +kernel
theorem d_Reader_readTarget_50 : decode b_Reader_readTarget 50 = .ok (.iconst 0, 1) := by decide +kernel
theorem d_Reader_readTarget_51 : decode b_Reader_readTarget 51 = .ok (.ireturn, 1) := by decide +kernel
theorem d_Reader_readTarget_52 : decode b_Reader_readTarget 52 = .ok (.aload_n 0, 1) := by decide +kernel
theorem d_Reader_readTarget_53 : decode b_Reader_readTarget 53 = .ok (.getfield 28, 3) := by decide +kernel
theorem d_Reader_readTarget_56 : decode b_Reader_readTarget 56 = .ok (.iconst 2, 1) := by decide +kernel
theorem d_Reader_readTarget_57 : decode b_Reader_readTarget 57 = .ok (.aload_n 0, 1) := by decide +kernel
theorem d_Reader_readTarget_58 : decode b_Reader_readTarget 58 = .ok (.getfield 45, 3) := by decide +kernel
theorem d_Reader_readTarget_61 : decode b_Reader_readTarget 61 = .ok (.invokevirtual 88, 3) := by decide +kernel
theorem d_Reader_readTarget_64 : decode b_Reader_readTarget 64 = .ok (.iconst 1, 1) := by decide +kernel
theorem d_Reader_readTarget_65 : decode b_Reader_readTarget 65 = .ok (.ireturn, 1) := by decide +kernel
theorem d_Reader_takeNumber_0 : decode b_Reader_takeNumber 0 = .ok (.aload_n 0, 1) := by decide +kernel
theorem d_Reader_takeNumber_1 : decode b_Reader_takeNumber 1 = .ok (.getfield 39, 3) := by decide +kernel
theorem d_Reader_takeNumber_4 : decode b_Reader_takeNumber 4 = .ok (.istore_n 2, 1) := by decide +kernel
theorem d_Reader_takeNumber_5 : decode b_Reader_takeNumber 5 = .ok (.aload_n 0, 1) := by decide +kernel
theorem d_Reader_takeNumber_6 : decode b_Reader_takeNumber 6 = .ok (.iconst 0, 1) := by decide +kernel
theorem d_Reader_takeNumber_7 : decode b_Reader_takeNumber 7 = .ok (.putfield 45, 3) := by decide +kernel
theorem d_Reader_takeNumber_10 : decode b_Reader_takeNumber 10 = .ok (.iconst 0, 1) := by decide +kernel
theorem d_Reader_takeNumber_11 : decode b_Reader_takeNumber 11 = .ok (.istore_n 3, 1) := by decide +kernel
theorem d_Reader_takeNumber_12 : decode b_Reader_takeNumber 12 = .ok (.iload_n 3, 1) := by decide +kernel
theorem d_Reader_takeNumber_13 : decode b_Reader_takeNumber 13 = .ok (.iconst 5, 1) := by decide +kernel
theorem d_Reader_takeNumber_14 : decode b_Reader_takeNumber 14 = .ok (.if_icmp .ge 48, 3) := by decide +kernel
theorem d_Reader_takeNumber_17 : decode b_Reader_takeNumber 17 = .ok (.aload_n 0, 1) := by decide +kernel
theorem d_Reader_takeNumber_18 : decode b_Reader_takeNumber 18 = .ok (.invokevirtual 65, 3) := by decide +kernel
theorem d_Reader_takeNumber_21 : decode b_Reader_takeNumber 21 = .ok (.invokestatic 153, 3) := by decide +kernel
theorem d_Reader_takeNumber_24 : decode b_Reader_takeNumber 24 = .ok (.ifCond .eq 38, 3) := by decide +kernel
theorem d_Reader_takeNumber_27 : decode b_Reader_takeNumber 27 = .ok (.aload_n 0, 1) := by decide +kernel
theorem d_Reader_takeNumber_28 : decode b_Reader_takeNumber 28 = .ok (.aload_n 0, 1) := by decide +kernel
theorem d_Reader_takeNumber_29 : decode b_Reader_takeNumber 29 = .ok (.getfield 45, 3) := by decide +kernel
theorem d_Reader_takeNumber_32 : decode b_Reader_takeNumber 32 = .ok (.bipush 10, 2) := by decide +kernel
theorem d_Reader_takeNumber_34 : decode b_Reader_takeNumber 34 = .ok (.imul, 1) := by decide +kernel
theorem d_Reader_takeNumber_35 : decode b_Reader_takeNumber 35 = .ok (.aload_n 0, 1) := by decide +kernel
theorem d_Reader_takeNumber_36 : decode b_Reader_takeNumber 36 = .ok (.invokevirtual 65, 3) := by decide +kernel
theorem d_Reader_takeNumber_39 : decode b_Reader_takeNumber 39 = .ok (.bipush 48, 2) := by decide +kernel
theorem d_Reader_takeNumber_41 : decode b_Reader_takeNumber 41 = .ok (.isub, 1) := by decide +kernel
theorem d_Reader_takeNumber_42 : decode b_Reader_takeNumber 42 = .ok (.iadd, 1) := by decide +kernel
theorem d_Reader_takeNumber_43 : decode b_Reader_takeNumber 43 = .ok (.putfield 45, 3) := by decide +kernel
theorem d_Reader_takeNumber_46 : decode b_Reader_takeNumber 46 = .ok (.aload_n 0, 1) := by decide +kernel
theorem d_Reader_takeNumber_47 : decode b_Reader_takeNumber 47 = .ok (.dup, 1) := by decide +kernel
theorem d_Reader_takeNumber_48 : decode b_Reader_takeNumber 48 = .ok (.getfield 39, 3) := by decide +kernel
theorem d_Reader_takeNumber_51 : decode b_Reader_takeNumber 51 = .ok (.iconst 1, 1) := by decide +kernel
theorem d_Reader_takeNumber_52 : decode b_Reader_takeNumber 52 = .ok (.iadd, 1) := by decide +kernel
theorem d_Reader_takeNumber_53 : decode b_Reader_takeNumber 53 = .ok (.putfield 39, 3) := by decide +kernel
theorem d_Reader_takeNumber_56 : decode b_Reader_takeNumber 56 = .ok (.iinc 3 1, 3) := by decide +kernel
theorem d_Reader_takeNumber_59 : decode b_Reader_takeNumber 59 = .ok (.goto (-47), 3) := by decide +kernel
theorem d_Reader_takeNumber_62 : decode b_Reader_takeNumber 62 = .ok (.aload_n 0, 1) := by decide +kernel
theorem d_Reader_takeNumber_63 : decode b_Reader_takeNumber 63 = .ok (.getfield 39, 3) := by decide +kernel
theorem d_Reader_takeNumber_66 : decode b_Reader_takeNumber 66 = .ok (.iload_n 2, 1) := by decide +kernel
theorem d_Reader_takeNumber_67 : decode b_Reader_takeNumber 67 = .ok (.if_icmp .ne 12, 3) := by decide +kernel
theorem d_Reader_takeNumber_70 : decode b_Reader_takeNumber 70 = .ok (.aload_n 0, 1) := by decide +kernel
theorem d_Reader_takeNumber_71 : decode b_Reader_takeNumber 71 = .ok (.aload_n 0, 1) := by decide +kernel
theorem d_Reader_takeNumber_72 : decode b_Reader_takeNumber 72 = .ok (.getfield 39, 3) := by decide +kernel
theorem d_Reader_takeNumber_75 : decode b_Reader_takeNumber 75 = .ok (.invokevirtual 69, 3) := by decide +kernel
theorem d_Reader_takeNumber_78 : decode b_Reader_takeNumber 78 = .ok (.ireturn, 1) := by decide +kernel
theorem d_Reader_takeNumber_79 : decode b_Reader_takeNumber 79 = .ok (.aload_n 0, 1) := by decide +kernel
theorem d_Reader_takeNumber_80 : decode b_Reader_takeNumber 80 = .ok (.getfield 45, 3) := by decide +kernel
theorem d_Reader_takeNumber_83 : decode b_Reader_takeNumber 83 = .ok (.iload_n 1, 1) := by decide +kernel
theorem d_Reader_takeNumber_84 : decode b_Reader_takeNumber 84 = .ok (.if_icmp .le 11, 3) := by decide +kernel
theorem d_Reader_takeNumber_87 : decode b_Reader_takeNumber 87 = .ok (.aload_n 0, 1) := by decide +kernel
theorem d_Reader_takeNumber_88 : decode b_Reader_takeNumber 88 = .ok (.iload_n 2, 1) := by decide +kernel
theorem d_Reader_takeNumber_89 : decode b_Reader_takeNumber 89 = .ok (.invokevirtual 69, 3) := by decide +kernel
theorem d_Reader_takeNumber_92 : decode b_Reader_takeNumber 92 = .ok (.ifCond .eq 7, 3) := by decide +kernel
theorem d_Reader_takeNumber_95 : decode b_Reader_takeNumber 95 = .ok (.iconst 1, 1) := by decide +kernel
theorem d_Reader_takeNumber_96 : decode b_Reader_takeNumber 96 = .ok (.goto 4, 3) := by decide +kernel
theorem d_Reader_takeNumber_99 : decode b_Reader_takeNumber 99 = .ok (.iconst 0, 1) := by decide +kernel
theorem d_Reader_takeNumber_100 : decode b_Reader_takeNumber 100 = .ok (.ireturn, 1) := by decide +kernel
theorem d_Reader_isDigit_0 : decode b_Reader_isDigit 0 = .ok (.iload_n 0, 1) := by decide +kernel
theorem d_Reader_isDigit_1 : decode b_Reader_isDigit 1 = .ok (.bipush 48, 2) := by decide +kernel
theorem d_Reader_isDigit_3 : decode b_Reader_isDigit 3 = .ok (.if_icmp .lt 13, 3) := by decide +kernel
theorem d_Reader_isDigit_6 : decode b_Reader_isDigit 6 = .ok (.iload_n 0, 1) := by decide +kernel
theorem d_Reader_isDigit_7 : decode b_Reader_isDigit 7 = .ok (.bipush 57, 2) := by decide +kernel
theorem d_Reader_isDigit_9 : decode b_Reader_isDigit 9 = .ok (.if_icmp .gt 7, 3) := by decide +kernel
theorem d_Reader_isDigit_12 : decode b_Reader_isDigit 12 = .ok (.iconst 1, 1) := by decide +kernel
theorem d_Reader_isDigit_13 : decode b_Reader_isDigit 13 = .ok (.goto 4, 3) := by decide +kernel
theorem d_Reader_isDigit_16 : decode b_Reader_isDigit 16 = .ok (.iconst 0, 1) := by decide +kernel
theorem d_Reader_isDigit_17 : decode b_Reader_isDigit 17 = .ok (.ireturn, 1) := by decide +kernel
theorem d_Reader_skip_0 : decode b_Reader_skip 0 = .ok (.aload_n 0, 1) := by decide +kernel
theorem d_Reader_skip_1 : decode b_Reader_skip 1 = .ok (.invokevirtual 65, 3) := by decide +kernel
theorem d_Reader_skip_4 : decode b_Reader_skip 4 = .ok (.iload_n 1, 1) := by decide +kernel
theorem d_Reader_skip_5 : decode b_Reader_skip 5 = .ok (.if_icmp .eq 5, 3) := by decide +kernel
theorem d_Reader_skip_8 : decode b_Reader_skip 8 = .ok (.iconst 0, 1) := by decide +kernel
theorem d_Reader_skip_9 : decode b_Reader_skip 9 = .ok (.ireturn, 1) := by decide +kernel
theorem d_Reader_skip_10 : decode b_Reader_skip 10 = .ok (.aload_n 0, 1) := by decide +kernel
theorem d_Reader_skip_11 : decode b_Reader_skip 11 = .ok (.dup, 1) := by decide +kernel
theorem d_Reader_skip_12 : decode b_Reader_skip 12 = .ok (.getfield 39, 3) := by decide +kernel
theorem d_Reader_skip_15 : decode b_Reader_skip 15 = .ok (.iconst 1, 1) := by decide +kernel
theorem d_Reader_skip_16 : decode b_Reader_skip 16 = .ok (.iadd, 1) := by decide +kernel
theorem d_Reader_skip_17 : decode b_Reader_skip 17 = .ok (.putfield 39, 3) := by decide +kernel
theorem d_Reader_skip_20 : decode b_Reader_skip 20 = .ok (.iconst 1, 1) := by decide +kernel
theorem d_Reader_skip_21 : decode b_Reader_skip 21 = .ok (.ireturn, 1) := by decide +kernel
theorem d_Reader_readName_0 : decode b_Reader_readName 0 = .ok (.aload_n 0, 1) := by decide +kernel
theorem d_Reader_readName_1 : decode b_Reader_readName 1 = .ok (.bipush 20, 2) := by decide +kernel
theorem d_Reader_readName_3 : decode b_Reader_readName 3 = .ok (.invokevirtual 105, 3) := by decide +kernel
theorem d_Reader_readName_6 : decode b_Reader_readName 6 = .ok (.ifCond .eq 12, 3) := by decide +kernel
theorem d_Reader_readName_9 : decode b_Reader_readName 9 = .ok (.aload_n 0, 1) := by decide +kernel
theorem d_Reader_readName_10 : decode b_Reader_readName 10 = .ok (.bipush 58, 2) := by decide +kernel
theorem d_Reader_readName_12 : decode b_Reader_readName 12 = .ok (.invokevirtual 79, 3) := by decide +kernel
theorem d_Reader_readName_15 : decode b_Reader_readName 15 = .ok (.ifCond .ne 5, 3) := by decide +kernel
theorem d_Reader_readName_18 : decode b_Reader_readName 18 = .ok (.iconst 0, 1) := by decide +kernel
theorem d_Reader_readName_19 : decode b_Reader_readName 19 = .ok (.ireturn, 1) := by decide +kernel
theorem d_Reader_readName_20 : decode b_Reader_readName 20 = .ok (.aload_n 0, 1) := by decide +kernel
theorem d_Reader_readName_21 : decode b_Reader_readName 21 = .ok (.getfield 32, 3) := by decide +kernel
theorem d_Reader_readName_24 : decode b_Reader_readName 24 = .ok (.bipush 100, 2) := by decide +kernel
theorem d_Reader_readName_26 : decode b_Reader_readName 26 = .ok (.if_icmp .ge 10, 3) := by decide +kernel
theorem d_Reader_readName_29 : decode b_Reader_readName 29 = .ok (.aload_n 0, 1) := by decide +kernel
theorem d_Reader_readName_30 : decode b_Reader_readName 30 = .ok (.invokevirtual 108, 3) := by decide +kernel
theorem d_Reader_readName_33 : decode b_Reader_readName 33 = .ok (.ifCond .eq 12, 3) := by decide +kernel
theorem d_Reader_readName_36 : decode b_Reader_readName 36 = .ok (.aload_n 0, 1) := by decide +kernel
theorem d_Reader_readName_37 : decode b_Reader_readName 37 = .ok (.aload_n 0, 1) := by decide +kernel
theorem d_Reader_readName_38 : decode b_Reader_readName 38 = .ok (.getfield 48, 3) := by decide +kernel
theorem d_Reader_readName_41 : decode b_Reader_readName 41 = .ok (.invokevirtual 69, 3) := by decide +kernel
theorem d_Reader_readName_44 : decode b_Reader_readName 44 = .ok (.ireturn, 1) := by decide +kernel
theorem d_Reader_readName_45 : decode b_Reader_readName 45 = .ok (.aload_n 0, 1) := by decide +kernel
theorem d_Reader_readName_46 : decode b_Reader_readName 46 = .ok (.getfield 18, 3) := by decide +kernel
theorem d_Reader_readName_49 : decode b_Reader_readName 49 = .ok (.aload_n 0, 1) := by decide +kernel
theorem d_Reader_readName_50 : decode b_Reader_readName 50 = .ok (.getfield 32, 3) := by decide +kernel
theorem d_Reader_readName_53 : decode b_Reader_readName 53 = .ok (.aload_n 0, 1) := by decide +kernel
theorem d_Reader_readName_54 : decode b_Reader_readName 54 = .ok (.getfield 48, 3) := by decide +kernel
theorem d_Reader_readName_57 : decode b_Reader_readName 57 = .ok (.iastore, 1) := by decide +kernel
theorem d_Reader_readName_58 : decode b_Reader_readName 58 = .ok (.aload_n 0, 1) := by decide +kernel
theorem d_Reader_readName_59 : decode b_Reader_readName 59 = .ok (.getfield 22, 3) := by decide +kernel
theorem d_Reader_readName_62 : decode b_Reader_readName 62 = .ok (.aload_n 0, 1) := by decide +kernel
theorem d_Reader_readName_63 : decode b_Reader_readName 63 = .ok (.getfield 32, 3) := by decide +kernel
theorem d_Reader_readName_66 : decode b_Reader_readName 66 = .ok (.aload_n 0, 1) := by decide +kernel
theorem d_Reader_readName_67 : decode b_Reader_readName 67 = .ok (.getfield 51, 3) := by decide +kernel
theorem d_Reader_readName_70 : decode b_Reader_readName 70 = .ok (.iastore, 1) := by decide +kernel
theorem d_Reader_readName_71 : decode b_Reader_readName 71 = .ok (.aload_n 0, 1) := by decide +kernel
theorem d_Reader_readName_72 : decode b_Reader_readName 72 = .ok (.dup, 1) := by decide +kernel
theorem d_Reader_readName_73 : decode b_Reader_readName 73 = .ok (.getfield 32, 3) := by decide +kernel
theorem d_Reader_readName_76 : decode b_Reader_readName 76 = .ok (.iconst 1, 1) := by decide +kernel
theorem d_Reader_readName_77 : decode b_Reader_readName 77 = .ok (.iadd, 1) := by decide +kernel
theorem d_Reader_readName_78 : decode b_Reader_readName 78 = .ok (.putfield 32, 3) := by decide +kernel
theorem d_Reader_readName_81 : decode b_Reader_readName 81 = .ok (.iconst 1, 1) := by decide +kernel
theorem d_Reader_readName_82 : decode b_Reader_readName 82 = .ok (.ireturn, 1) := by decide +kernel
theorem d_Reader_takeLetters_0 : decode b_Reader_takeLetters 0 = .ok (.aload_n 0, 1) := by decide +kernel
theorem d_Reader_takeLetters_1 : decode b_Reader_takeLetters 1 = .ok (.aload_n 0, 1) := by decide +kernel
theorem d_Reader_takeLetters_2 : decode b_Reader_takeLetters 2 = .ok (.getfield 39, 3) := by decide +kernel
theorem d_Reader_takeLetters_5 : decode b_Reader_takeLetters 5 = .ok (.putfield 48, 3) := by decide +kernel
theorem d_Reader_takeLetters_8 : decode b_Reader_takeLetters 8 = .ok (.iconst 0, 1) := by decide +kernel
theorem d_Reader_takeLetters_9 : decode b_Reader_takeLetters 9 = .ok (.istore_n 2, 1) := by decide +kernel
theorem d_Reader_takeLetters_10 : decode b_Reader_takeLetters 10 = .ok (.iload_n 2, 1) := by decide +kernel
theorem d_Reader_takeLetters_11 : decode b_Reader_takeLetters 11 = .ok (.iload_n 1, 1) := by decide +kernel
theorem d_Reader_takeLetters_12 : decode b_Reader_takeLetters 12 = .ok (.if_icmp .gt 29, 3) := by decide +kernel
theorem d_Reader_takeLetters_15 : decode b_Reader_takeLetters 15 = .ok (.aload_n 0, 1) := by decide +kernel
theorem d_Reader_takeLetters_16 : decode b_Reader_takeLetters 16 = .ok (.invokevirtual 65, 3) := by decide +kernel
theorem d_Reader_takeLetters_19 : decode b_Reader_takeLetters 19 = .ok (.invokestatic 197, 3) := by decide +kernel
theorem d_Reader_takeLetters_22 : decode b_Reader_takeLetters 22 = .ok (.ifCond .eq 19, 3) := by decide +kernel
theorem d_Reader_takeLetters_25 : decode b_Reader_takeLetters 25 = .ok (.aload_n 0, 1) := by decide +kernel
theorem d_Reader_takeLetters_26 : decode b_Reader_takeLetters 26 = .ok (.dup, 1) := by decide +kernel
theorem d_Reader_takeLetters_27 : decode b_Reader_takeLetters 27 = .ok (.getfield 39, 3) := by decide +kernel
theorem d_Reader_takeLetters_30 : decode b_Reader_takeLetters 30 = .ok (.iconst 1, 1) := by decide +kernel
theorem d_Reader_takeLetters_31 : decode b_Reader_takeLetters 31 = .ok (.iadd, 1) := by decide +kernel
theorem d_Reader_takeLetters_32 : decode b_Reader_takeLetters 32 = .ok (.putfield 39, 3) := by decide +kernel
theorem d_Reader_takeLetters_35 : decode b_Reader_takeLetters 35 = .ok (.iinc 2 1, 3) := by decide +kernel
theorem d_Reader_takeLetters_38 : decode b_Reader_takeLetters 38 = .ok (.goto (-28), 3) := by decide +kernel
theorem d_Reader_takeLetters_41 : decode b_Reader_takeLetters 41 = .ok (.aload_n 0, 1) := by decide +kernel
theorem d_Reader_takeLetters_42 : decode b_Reader_takeLetters 42 = .ok (.aload_n 0, 1) := by decide +kernel
theorem d_Reader_takeLetters_43 : decode b_Reader_takeLetters 43 = .ok (.getfield 39, 3) := by decide +kernel
theorem d_Reader_takeLetters_46 : decode b_Reader_takeLetters 46 = .ok (.putfield 51, 3) := by decide +kernel
theorem d_Reader_takeLetters_49 : decode b_Reader_takeLetters 49 = .ok (.aload_n 0, 1) := by decide +kernel
theorem d_Reader_takeLetters_50 : decode b_Reader_takeLetters 50 = .ok (.getfield 51, 3) := by decide +kernel
theorem d_Reader_takeLetters_53 : decode b_Reader_takeLetters 53 = .ok (.aload_n 0, 1) := by decide +kernel
theorem d_Reader_takeLetters_54 : decode b_Reader_takeLetters 54 = .ok (.getfield 48, 3) := by decide +kernel
theorem d_Reader_takeLetters_57 : decode b_Reader_takeLetters 57 = .ok (.if_icmp .ne 12, 3) := by decide +kernel
theorem d_Reader_takeLetters_60 : decode b_Reader_takeLetters 60 = .ok (.aload_n 0, 1) := by decide +kernel
theorem d_Reader_takeLetters_61 : decode b_Reader_takeLetters 61 = .ok (.aload_n 0, 1) := by decide +kernel
theorem d_Reader_takeLetters_62 : decode b_Reader_takeLetters 62 = .ok (.getfield 39, 3) := by decide +kernel
theorem d_Reader_takeLetters_65 : decode b_Reader_takeLetters 65 = .ok (.invokevirtual 69, 3) := by decide +kernel
theorem d_Reader_takeLetters_68 : decode b_Reader_takeLetters 68 = .ok (.ireturn, 1) := by decide +kernel
theorem d_Reader_takeLetters_69 : decode b_Reader_takeLetters 69 = .ok (.aload_n 0, 1) := by decide +kernel
theorem d_Reader_takeLetters_70 : decode b_Reader_takeLetters 70 = .ok (.getfield 51, 3) := by decide +kernel
theorem d_Reader_takeLetters_73 : decode b_Reader_takeLetters 73 = .ok (.aload_n 0, 1) := by decide +kernel
theorem d_Reader_takeLetters_74 : decode b_Reader_takeLetters 74 = .ok (.getfield 48, 3) := by decide +kernel
theorem d_Reader_takeLetters_77 : decode b_Reader_takeLetters 77 = .ok (.isub, 1) := by decide +kernel
theorem d_Reader_takeLetters_78 : decode b_Reader_takeLetters 78 = .ok (.iload_n 1, 1) := by decide +kernel
theorem d_Reader_takeLetters_79 : decode b_Reader_takeLetters 79 = .ok (.if_icmp .le 14, 3) := by decide +kernel
theorem d_Reader_takeLetters_82 : decode b_Reader_takeLetters 82 = .ok (.aload_n 0, 1) := by decide +kernel
theorem d_Reader_takeLetters_83 : decode b_Reader_takeLetters 83 = .ok (.aload_n 0, 1) := by decide +kernel
theorem d_Reader_takeLetters_84 : decode b_Reader_takeLetters 84 = .ok (.getfield 48, 3) := by decide +kernel
theorem d_Reader_takeLetters_87 : decode b_Reader_takeLetters 87 = .ok (.invokevirtual 69, 3) := by decide +kernel
theorem d_Reader_takeLetters_90 : decode b_Reader_takeLetters 90 = .ok (.ifCond .eq 7, 3) := by decide +kernel
theorem d_Reader_takeLetters_93 : decode b_Reader_takeLetters 93 = .ok (.iconst 1, 1) := by decide +kernel
theorem d_Reader_takeLetters_94 : decode b_Reader_takeLetters 94 = .ok (.goto 4, 3) := by decide +kernel
theorem d_Reader_takeLetters_97 : decode b_Reader_takeLetters 97 = .ok (.iconst 0, 1) := by decide +kernel
theorem d_Reader_takeLetters_98 : decode b_Reader_takeLetters 98 = .ok (.ireturn, 1) := by decide +kernel
theorem d_Reader_isLetter_0 : decode b_Reader_isLetter 0 = .ok (.iload_n 0, 1) := by decide +kernel
theorem d_Reader_isLetter_1 : decode b_Reader_isLetter 1 = .ok (.bipush 97, 2) := by decide +kernel
theorem d_Reader_isLetter_3 : decode b_Reader_isLetter 3 = .ok (.if_icmp .lt 9, 3) := by decide +kernel
theorem d_Reader_isLetter_6 : decode b_Reader_isLetter 6 = .ok (.iload_n 0, 1) := by decide +kernel
theorem d_Reader_isLetter_7 : decode b_Reader_isLetter 7 = .ok (.bipush 122, 2) := by decide +kernel
theorem d_Reader_isLetter_9 : decode b_Reader_isLetter 9 = .ok (.if_icmp .le 9, 3) := by decide +kernel
theorem d_Reader_isLetter_12 : decode b_Reader_isLetter 12 = .ok (.iload_n 0, 1) := by decide +kernel
theorem d_Reader_isLetter_13 : decode b_Reader_isLetter 13 = .ok (.bipush 45, 2) := by decide +kernel
theorem d_Reader_isLetter_15 : decode b_Reader_isLetter 15 = .ok (.if_icmp .ne 7, 3) := by decide +kernel
theorem d_Reader_isLetter_18 : decode b_Reader_isLetter 18 = .ok (.iconst 1, 1) := by decide +kernel
theorem d_Reader_isLetter_19 : decode b_Reader_isLetter 19 = .ok (.goto 4, 3) := by decide +kernel
theorem d_Reader_isLetter_22 : decode b_Reader_isLetter 22 = .ok (.iconst 0, 1) := by decide +kernel
theorem d_Reader_isLetter_23 : decode b_Reader_isLetter 23 = .ok (.ireturn, 1) := by decide +kernel
theorem d_Reader_wasThere_0 : decode b_Reader_wasThere 0 = .ok (.iconst 0, 1) := by decide +kernel
theorem d_Reader_wasThere_1 : decode b_Reader_wasThere 1 = .ok (.istore_n 1, 1) := by decide +kernel
theorem d_Reader_wasThere_2 : decode b_Reader_wasThere 2 = .ok (.iload_n 1, 1) := by decide +kernel
theorem d_Reader_wasThere_3 : decode b_Reader_wasThere 3 = .ok (.aload_n 0, 1) := by decide +kernel
theorem d_Reader_wasThere_4 : decode b_Reader_wasThere 4 = .ok (.getfield 32, 3) := by decide +kernel
theorem d_Reader_wasThere_7 : decode b_Reader_wasThere 7 = .ok (.if_icmp .ge 36, 3) := by decide +kernel
theorem d_Reader_wasThere_10 : decode b_Reader_wasThere 10 = .ok (.iload_n 1, 1) := by decide +kernel
theorem d_Reader_wasThere_11 : decode b_Reader_wasThere 11 = .ok (.bipush 100, 2) := by decide +kernel
theorem d_Reader_wasThere_13 : decode b_Reader_wasThere 13 = .ok (.if_icmp .ge 30, 3) := by decide +kernel
theorem d_Reader_wasThere_16 : decode b_Reader_wasThere 16 = .ok (.aload_n 0, 1) := by decide +kernel
theorem d_Reader_wasThere_17 : decode b_Reader_wasThere 17 = .ok (.aload_n 0, 1) := by decide +kernel
theorem d_Reader_wasThere_18 : decode b_Reader_wasThere 18 = .ok (.getfield 18, 3) := by decide +kernel
theorem d_Reader_wasThere_21 : decode b_Reader_wasThere 21 = .ok (.iload_n 1, 1) := by decide +kernel
theorem d_Reader_wasThere_22 : decode b_Reader_wasThere 22 = .ok (.iaload, 1) := by decide +kernel
theorem d_Reader_wasThere_23 : decode b_Reader_wasThere 23 = .ok (.aload_n 0, 1) := by decide +kernel
theorem d_Reader_wasThere_24 : decode b_Reader_wasThere 24 = .ok (.getfield 22, 3) := by decide +kernel
theorem d_Reader_wasThere_27 : decode b_Reader_wasThere 27 = .ok (.iload_n 1, 1) := by decide +kernel
theorem d_Reader_wasThere_28 : decode b_Reader_wasThere 28 = .ok (.iaload, 1) := by decide +kernel
theorem d_Reader_wasThere_29 : decode b_Reader_wasThere 29 = .ok (.invokevirtual 111, 3) := by decide +kernel
theorem d_Reader_wasThere_32 : decode b_Reader_wasThere 32 = .ok (.ifCond .eq 5, 3) := by decide +kernel
theorem d_Reader_wasThere_35 : decode b_Reader_wasThere 35 = .ok (.iconst 1, 1) := by decide +kernel
theorem d_Reader_wasThere_36 : decode b_Reader_wasThere 36 = .ok (.ireturn, 1) := by decide +kernel
theorem d_Reader_wasThere_37 : decode b_Reader_wasThere 37 = .ok (.iinc 1 1, 3) := by decide +kernel
theorem d_Reader_wasThere_40 : decode b_Reader_wasThere 40 = .ok (.goto (-38), 3) := by decide +kernel
theorem d_Reader_wasThere_43 : decode b_Reader_wasThere 43 = .ok (.iconst 0, 1) := by decide +kernel
theorem d_Reader_wasThere_44 : decode b_Reader_wasThere 44 = .ok (.ireturn, 1) := by decide +kernel
theorem d_Reader_isWordFrom_0 : decode b_Reader_isWordFrom 0 = .ok (.aload_n 0, 1) := by decide +kernel
theorem d_Reader_isWordFrom_1 : decode b_Reader_isWordFrom 1 = .ok (.getfield 51, 3) := by decide +kernel
theorem d_Reader_isWordFrom_4 : decode b_Reader_isWordFrom 4 = .ok (.aload_n 0, 1) := by decide +kernel
theorem d_Reader_isWordFrom_5 : decode b_Reader_isWordFrom 5 = .ok (.getfield 48, 3) := by decide +kernel
theorem d_Reader_isWordFrom_8 : decode b_Reader_isWordFrom 8 = .ok (.isub, 1) := by decide +kernel
theorem d_Reader_isWordFrom_9 : decode b_Reader_isWordFrom 9 = .ok (.iload_n 2, 1) := by decide +kernel
theorem d_Reader_isWordFrom_10 : decode b_Reader_isWordFrom 10 = .ok (.iload_n 1, 1) := by decide +kernel
theorem d_Reader_isWordFrom_11 : decode b_Reader_isWordFrom 11 = .ok (.isub, 1) := by decide +kernel
theorem d_Reader_isWordFrom_12 : decode b_Reader_isWordFrom 12 = .ok (.if_icmp .eq 5, 3) := by decide +kernel
theorem d_Reader_isWordFrom_15 : decode b_Reader_isWordFrom 15 = .ok (.iconst 0, 1) := by decide +kernel
theorem d_Reader_isWordFrom_16 : decode b_Reader_isWordFrom 16 = .ok (.ireturn, 1) := by decide +kernel
theorem d_Reader_isWordFrom_17 : decode b_Reader_isWordFrom 17 = .ok (.iconst 0, 1) := by decide +kernel
theorem d_Reader_isWordFrom_18 : decode b_Reader_isWordFrom 18 = .ok (.istore_n 3, 1) := by decide +kernel
theorem d_Reader_isWordFrom_19 : decode b_Reader_isWordFrom 19 = .ok (.iload_n 3, 1) := by decide +kernel
theorem d_Reader_isWordFrom_20 : decode b_Reader_isWordFrom 20 = .ok (.iload_n 2, 1) := by decide +kernel
theorem d_Reader_isWordFrom_21 : decode b_Reader_isWordFrom 21 = .ok (.iload_n 1, 1) := by decide +kernel
theorem d_Reader_isWordFrom_22 : decode b_Reader_isWordFrom 22 = .ok (.isub, 1) := by decide +kernel
theorem d_Reader_isWordFrom_23 : decode b_Reader_isWordFrom 23 = .ok (.if_icmp .ge 37, 3) := by decide +kernel
theorem d_Reader_isWordFrom_26 : decode b_Reader_isWordFrom 26 = .ok (.aload_n 0, 1) := by decide +kernel
theorem d_Reader_isWordFrom_27 : decode b_Reader_isWordFrom 27 = .ok (.getfield 12, 3) := by decide +kernel
theorem d_Reader_isWordFrom_30 : decode b_Reader_isWordFrom 30 = .ok (.aload_n 0, 1) := by decide +kernel
theorem d_Reader_isWordFrom_31 : decode b_Reader_isWordFrom 31 = .ok (.getfield 48, 3) := by decide +kernel
theorem d_Reader_isWordFrom_34 : decode b_Reader_isWordFrom 34 = .ok (.iload_n 3, 1) := by decide +kernel
theorem d_Reader_isWordFrom_35 : decode b_Reader_isWordFrom 35 = .ok (.iadd, 1) := by decide +kernel
theorem d_Reader_isWordFrom_36 : decode b_Reader_isWordFrom 36 = .ok (.invokevirtual 185, 3) := by decide +kernel
theorem d_Reader_isWordFrom_39 : decode b_Reader_isWordFrom 39 = .ok (.aload_n 0, 1) := by decide +kernel
theorem d_Reader_isWordFrom_40 : decode b_Reader_isWordFrom 40 = .ok (.getfield 12, 3) := by decide +kernel
theorem d_Reader_isWordFrom_43 : decode b_Reader_isWordFrom 43 = .ok (.iload_n 1, 1) := by decide +kernel
theorem d_Reader_isWordFrom_44 : decode b_Reader_isWordFrom 44 = .ok (.iload_n 3, 1) := by decide +kernel
theorem d_Reader_isWordFrom_45 : decode b_Reader_isWordFrom 45 = .ok (.iadd, 1) := by decide +kernel
theorem d_Reader_isWordFrom_46 : decode b_Reader_isWordFrom 46 = .ok (.invokevirtual 185, 3) := by decide +kernel
theorem d_Reader_isWordFrom_49 : decode b_Reader_isWordFrom 49 = .ok (.if_icmp .eq 5, 3) := by decide +kernel
theorem d_Reader_isWordFrom_52 : decode b_Reader_isWordFrom 52 = .ok (.iconst 0, 1) := by decide +kernel
theorem d_Reader_isWordFrom_53 : decode b_Reader_isWordFrom 53 = .ok (.ireturn, 1) := by decide +kernel
theorem d_Reader_isWordFrom_54 : decode b_Reader_isWordFrom 54 = .ok (.iinc 3 1, 3) := by decide +kernel
theorem d_Reader_isWordFrom_57 : decode b_Reader_isWordFrom 57 = .ok (.goto (-38), 3) := by decide +kernel
theorem d_Reader_isWordFrom_60 : decode b_Reader_isWordFrom 60 = .ok (.iconst 1, 1) := by decide +kernel
theorem d_Reader_isWordFrom_61 : decode b_Reader_isWordFrom 61 = .ok (.ireturn, 1) := by decide +kernel
theorem d_Reader_readValue_0 : decode b_Reader_readValue 0 = .ok (.aload_n 0, 1) := by decide +kernel
theorem d_Reader_readValue_1 : decode b_Reader_readValue 1 = .ok (.bipush 32, 2) := by decide +kernel
theorem d_Reader_readValue_3 : decode b_Reader_readValue 3 = .ok (.invokevirtual 61, 3) := by decide +kernel
theorem d_Reader_readValue_6 : decode b_Reader_readValue 6 = .ok (.pop, 1) := by decide +kernel
theorem d_Reader_readValue_7 : decode b_Reader_readValue 7 = .ok (.aload_n 0, 1) := by decide +kernel
theorem d_Reader_readValue_8 : decode b_Reader_readValue 8 = .ok (.ldc 115, 2) := by decide +kernel
theorem d_Reader_readValue_10 : decode b_Reader_readValue 10 = .ok (.invokevirtual 117, 3) := by decide +kernel
theorem d_Reader_readValue_13 : decode b_Reader_readValue 13 = .ok (.ifCond .eq 8, 3) := by decide +kernel
theorem d_Reader_readValue_16 : decode b_Reader_readValue 16 = .ok (.aload_n 0, 1) := by decide +kernel
theorem d_Reader_readValue_17 : decode b_Reader_readValue 17 = .ok (.invokevirtual 120, 3) := by decide +kernel
theorem d_Reader_readValue_20 : decode b_Reader_readValue 20 = .ok (.ireturn, 1) := by decide +kernel
theorem d_Reader_readValue_21 : decode b_Reader_readValue 21 = .ok (.aload_n 0, 1) := by decide +kernel
theorem d_Reader_readValue_22 : decode b_Reader_readValue 22 = .ok (.getfield 36, 3) := by decide +kernel
theorem d_Reader_readValue_25 : decode b_Reader_readValue 25 = .ok (.ifCond .ne 17, 3) := by decide +kernel
theorem d_Reader_readValue_28 : decode b_Reader_readValue 28 = .ok (.aload_n 0, 1) := by decide +kernel
theorem d_Reader_readValue_29 : decode b_Reader_readValue 29 = .ok (.ldc 123, 2) := by decide +kernel
theorem d_Reader_readValue_31 : decode b_Reader_readValue 31 = .ok (.invokevirtual 117, 3) := by decide +kernel
theorem d_Reader_readValue_34 : decode b_Reader_readValue 34 = .ok (.ifCond .eq 8, 3) := by decide +kernel
theorem d_Reader_readValue_37 : decode b_Reader_readValue 37 = .ok (.aload_n 0, 1) := by decide +kernel
theorem d_Reader_readValue_38 : decode b_Reader_readValue 38 = .ok (.invokevirtual 125, 3) := by decide +kernel
theorem d_Reader_readValue_41 : decode b_Reader_readValue 41 = .ok (.ireturn, 1) := by decide +kernel
theorem d_Reader_readValue_42 : decode b_Reader_readValue 42 = .ok (.aload_n 0, 1) := by decide +kernel
theorem d_Reader_readValue_43 : decode b_Reader_readValue 43 = .ok (.getfield 36, 3) := by decide +kernel
theorem d_Reader_readValue_46 : decode b_Reader_readValue 46 = .ok (.ifCond .ne 17, 3) := by decide +kernel
theorem d_Reader_readValue_49 : decode b_Reader_readValue 49 = .ok (.aload_n 0, 1) := by decide +kernel
theorem d_Reader_readValue_50 : decode b_Reader_readValue 50 = .ok (.ldc 128, 2) := by decide +kernel
theorem d_Reader_readValue_52 : decode b_Reader_readValue 52 = .ok (.invokevirtual 117, 3) := by decide +kernel
theorem d_Reader_readValue_55 : decode b_Reader_readValue 55 = .ok (.ifCond .eq 8, 3) := by decide +kernel
theorem d_Reader_readValue_58 : decode b_Reader_readValue 58 = .ok (.aload_n 0, 1) := by decide +kernel
theorem d_Reader_readValue_59 : decode b_Reader_readValue 59 = .ok (.invokevirtual 130, 3) := by decide +kernel
theorem d_Reader_readValue_62 : decode b_Reader_readValue 62 = .ok (.ireturn, 1) := by decide +kernel
theorem d_Reader_readValue_63 : decode b_Reader_readValue 63 = .ok (.aload_n 0, 1) := by decide +kernel
theorem d_Reader_readValue_64 : decode b_Reader_readValue 64 = .ok (.getfield 36, 3) := by decide +kernel
theorem d_Reader_readValue_67 : decode b_Reader_readValue 67 = .ok (.iconst 1, 1) := by decide +kernel
theorem d_Reader_readValue_68 : decode b_Reader_readValue 68 = .ok (.if_icmp .ne 17, 3) := by decide +kernel
theorem d_Reader_readValue_71 : decode b_Reader_readValue 71 = .ok (.aload_n 0, 1) := by decide +kernel
theorem d_Reader_readValue_72 : decode b_Reader_readValue 72 = .ok (.ldc 133, 2) := by decide +kernel
theorem d_Reader_readValue_74 : decode b_Reader_readValue 74 = .ok (.invokevirtual 117, 3) := by decide +kernel
theorem d_Reader_readValue_77 : decode b_Reader_readValue 77 = .ok (.ifCond .eq 8, 3) := by decide +kernel
theorem d_Reader_readValue_80 : decode b_Reader_readValue 80 = .ok (.aload_n 0, 1) := by decide +kernel
theorem d_Reader_readValue_81 : decode b_Reader_readValue 81 = .ok (.invokevirtual 135, 3) := by decide +kernel
theorem d_Reader_readValue_84 : decode b_Reader_readValue 84 = .ok (.ireturn, 1) := by decide +kernel
theorem d_Reader_readValue_85 : decode b_Reader_readValue 85 = .ok (.aload_n 0, 1) := by decide +kernel
theorem d_Reader_readValue_86 : decode b_Reader_readValue 86 = .ok (.getfield 36, 3) := by decide +kernel
theorem d_Reader_readValue_89 : decode b_Reader_readValue 89 = .ok (.iconst 1, 1) := by decide +kernel
theorem d_Reader_readValue_90 : decode b_Reader_readValue 90 = .ok (.if_icmp .ne 17, 3) := by decide +kernel
theorem d_Reader_readValue_93 : decode b_Reader_readValue 93 = .ok (.aload_n 0, 1) := by decide +kernel
theorem d_Reader_readValue_94 : decode b_Reader_readValue 94 = .ok (.ldc 138, 2) := by decide +kernel
theorem d_Reader_readValue_96 : decode b_Reader_readValue 96 = .ok (.invokevirtual 117, 3) := by decide +kernel
theorem d_Reader_readValue_99 : decode b_Reader_readValue 99 = .ok (.ifCond .eq 8, 3) := by decide +kernel
theorem d_Reader_readValue_102 : decode b_Reader_readValue 102 = .ok (.aload_n 0, 1) := by decide +kernel
theorem d_Reader_readValue_103 : decode b_Reader_readValue 103 = .ok (.invokevirtual 140, 3) := by decide +kernel
theorem d_Reader_readValue_106 : decode b_Reader_readValue 106 = .ok (.ireturn, 1) := by decide +kernel
theorem d_Reader_readValue_107 : decode b_Reader_readValue 107 = .ok (.aload_n 0, 1) := by decide +kernel
theorem d_Reader_readValue_108 : decode b_Reader_readValue 108 = .ok (.invokevirtual 143, 3) := by decide +kernel
theorem d_Reader_readValue_111 : decode b_Reader_readValue 111 = .ok (.ireturn, 1) := by decide +kernel
theorem d_Reader_isWord_0 : decode b_Reader_isWord 0 = .ok (.aload_n 0, 1) := by decide +kernel
theorem d_Reader_isWord_1 : decode b_Reader_isWord 1 = .ok (.getfield 51, 3) := by decide +kernel
theorem d_Reader_isWord_4 : decode b_Reader_isWord 4 = .ok (.aload_n 0, 1) := by decide +kernel
theorem d_Reader_isWord_5 : decode b_Reader_isWord 5 = .ok (.getfield 48, 3) := by decide +kernel
theorem d_Reader_isWord_8 : decode b_Reader_isWord 8 = .ok (.isub, 1) := by decide +kernel
theorem d_Reader_isWord_9 : decode b_Reader_isWord 9 = .ok (.aload_n 1, 1) := by decide +kernel
theorem d_Reader_isWord_10 : decode b_Reader_isWord 10 = .ok (.invokevirtual 189, 3) := by decide +kernel
theorem d_Reader_isWord_13 : decode b_Reader_isWord 13 = .ok (.if_icmp .eq 5, 3) := by decide +kernel
theorem d_Reader_isWord_16 : decode b_Reader_isWord 16 = .ok (.iconst 0, 1) := by decide +kernel
theorem d_Reader_isWord_17 : decode b_Reader_isWord 17 = .ok (.ireturn, 1) := by decide +kernel
theorem d_Reader_isWord_18 : decode b_Reader_isWord 18 = .ok (.iconst 0, 1) := by decide +kernel
theorem d_Reader_isWord_19 : decode b_Reader_isWord 19 = .ok (.istore_n 2, 1) := by decide +kernel
theorem d_Reader_isWord_20 : decode b_Reader_isWord 20 = .ok (.iload_n 2, 1) := by decide +kernel
theorem d_Reader_isWord_21 : decode b_Reader_isWord 21 = .ok (.aload_n 1, 1) := by decide +kernel
theorem d_Reader_isWord_22 : decode b_Reader_isWord 22 = .ok (.invokevirtual 189, 3) := by decide +kernel
theorem d_Reader_isWord_25 : decode b_Reader_isWord 25 = .ok (.if_icmp .ge 32, 3) := by decide +kernel
theorem d_Reader_isWord_28 : decode b_Reader_isWord 28 = .ok (.aload_n 0, 1) := by decide +kernel
theorem d_Reader_isWord_29 : decode b_Reader_isWord 29 = .ok (.getfield 12, 3) := by decide +kernel
theorem d_Reader_isWord_32 : decode b_Reader_isWord 32 = .ok (.aload_n 0, 1) := by decide +kernel
theorem d_Reader_isWord_33 : decode b_Reader_isWord 33 = .ok (.getfield 48, 3) := by decide +kernel
theorem d_Reader_isWord_36 : decode b_Reader_isWord 36 = .ok (.iload_n 2, 1) := by decide +kernel
theorem d_Reader_isWord_37 : decode b_Reader_isWord 37 = .ok (.iadd, 1) := by decide +kernel
theorem d_Reader_isWord_38 : decode b_Reader_isWord 38 = .ok (.invokevirtual 185, 3) := by decide +kernel
theorem d_Reader_isWord_41 : decode b_Reader_isWord 41 = .ok (.aload_n 1, 1) := by decide +kernel
theorem d_Reader_isWord_42 : decode b_Reader_isWord 42 = .ok (.iload_n 2, 1) := by decide +kernel
theorem d_Reader_isWord_43 : decode b_Reader_isWord 43 = .ok (.invokevirtual 193, 3) := by decide +kernel
theorem d_Reader_isWord_46 : decode b_Reader_isWord 46 = .ok (.if_icmp .eq 5, 3) := by decide +kernel
theorem d_Reader_isWord_49 : decode b_Reader_isWord 49 = .ok (.iconst 0, 1) := by decide +kernel
theorem d_Reader_isWord_50 : decode b_Reader_isWord 50 = .ok (.ireturn, 1) := by decide +kernel
theorem d_Reader_isWord_51 : decode b_Reader_isWord 51 = .ok (.iinc 2 1, 3) := by decide +kernel
theorem d_Reader_isWord_54 : decode b_Reader_isWord 54 = .ok (.goto (-34), 3) := by decide +kernel
theorem d_Reader_isWord_57 : decode b_Reader_isWord 57 = .ok (.iconst 1, 1) := by decide +kernel
theorem d_Reader_isWord_58 : decode b_Reader_isWord 58 = .ok (.ireturn, 1) := by decide +kernel
theorem d_Reader_readList_0 : decode b_Reader_readList 0 = .ok (.iconst 0, 1) := by decide +kernel
theorem d_Reader_readList_1 : decode b_Reader_readList 1 = .ok (.istore_n 1, 1) := by decide +kernel
theorem d_Reader_readList_2 : decode b_Reader_readList 2 = .ok (.iload_n 1, 1) := by decide +kernel
theorem d_Reader_readList_3 : decode b_Reader_readList 3 = .ok (.sipush 300, 3) := by decide +kernel
theorem d_Reader_readList_6 : decode b_Reader_readList 6 = .ok (.if_icmp .ge 76, 3) := by decide +kernel
theorem d_Reader_readList_9 : decode b_Reader_readList 9 = .ok (.aload_n 0, 1) := by decide +kernel
theorem d_Reader_readList_10 : decode b_Reader_readList 10 = .ok (.bipush 30, 2) := by decide +kernel
theorem d_Reader_readList_12 : decode b_Reader_readList 12 = .ok (.invokevirtual 105, 3) := by decide +kernel
theorem d_Reader_readList_15 : decode b_Reader_readList 15 = .ok (.ifCond .ne 5, 3) := by decide +kernel
theorem d_Reader_readList_18 : decode b_Reader_readList 18 = .ok (.iconst 0, 1) := by decide +kernel
theorem d_Reader_readList_19 : decode b_Reader_readList 19 = .ok (.ireturn, 1) := by decide +kernel
theorem d_Reader_readList_20 : decode b_Reader_readList 20 = .ok (.aload_n 0, 1) := by decide +kernel
theorem d_Reader_readList_21 : decode b_Reader_readList 21 = .ok (.bipush 61, 2) := by decide +kernel
theorem d_Reader_readList_23 : decode b_Reader_readList 23 = .ok (.invokevirtual 61, 3) := by decide +kernel
theorem d_Reader_readList_26 : decode b_Reader_readList 26 = .ok (.ifCond .ne 10, 3) := by decide +kernel
theorem d_Reader_readList_29 : decode b_Reader_readList 29 = .ok (.aload_n 0, 1) := by decide +kernel
theorem d_Reader_readList_30 : decode b_Reader_readList 30 = .ok (.invokevirtual 163, 3) := by decide +kernel
theorem d_Reader_readList_33 : decode b_Reader_readList 33 = .ok (.goto 21, 3) := by decide +kernel
theorem d_Reader_readList_36 : decode b_Reader_readList 36 = .ok (.aload_n 0, 1) := by decide +kernel
theorem d_Reader_readList_37 : decode b_Reader_readList 37 = .ok (.ldc 148, 2) := by decide +kernel
theorem d_Reader_readList_39 : decode b_Reader_readList 39 = .ok (.invokevirtual 102, 3) := by decide +kernel
theorem d_Reader_readList_42 : decode b_Reader_readList 42 = .ok (.ifCond .eq 10, 3) := by decide +kernel
theorem d_Reader_readList_45 : decode b_Reader_readList 45 = .ok (.aload_n 0, 1) := by decide +kernel
theorem d_Reader_readList_46 : decode b_Reader_readList 46 = .ok (.invokevirtual 166, 3) := by decide +kernel
theorem d_Reader_readList_49 : decode b_Reader_readList 49 = .ok (.goto 5, 3) := by decide +kernel
theorem d_Reader_readList_52 : decode b_Reader_readList 52 = .ok (.iconst 0, 1) := by decide +kernel
theorem d_Reader_readList_53 : decode b_Reader_readList 53 = .ok (.ireturn, 1) := by decide +kernel
theorem d_Reader_readList_54 : decode b_Reader_readList 54 = .ok (.aload_n 0, 1) := by decide +kernel
theorem d_Reader_readList_55 : decode b_Reader_readList 55 = .ok (.bipush 44, 2) := by decide +kernel
theorem d_Reader_readList_57 : decode b_Reader_readList 57 = .ok (.invokevirtual 61, 3) := by decide +kernel
theorem d_Reader_readList_60 : decode b_Reader_readList 60 = .ok (.ifCond .ne 5, 3) := by decide +kernel
theorem d_Reader_readList_63 : decode b_Reader_readList 63 = .ok (.iconst 1, 1) := by decide +kernel
theorem d_Reader_readList_64 : decode b_Reader_readList 64 = .ok (.ireturn, 1) := by decide +kernel
theorem d_Reader_readList_65 : decode b_Reader_readList 65 = .ok (.aload_n 0, 1) := by decide +kernel
theorem d_Reader_readList_66 : decode b_Reader_readList 66 = .ok (.bipush 32, 2) := by decide +kernel
theorem d_Reader_readList_68 : decode b_Reader_readList 68 = .ok (.invokevirtual 79, 3) := by decide +kernel
theorem d_Reader_readList_71 : decode b_Reader_readList 71 = .ok (.ifCond .ne 5, 3) := by decide +kernel
theorem d_Reader_readList_74 : decode b_Reader_readList 74 = .ok (.iconst 0, 1) := by decide +kernel
theorem d_Reader_readList_75 : decode b_Reader_readList 75 = .ok (.ireturn, 1) := by decide +kernel
theorem d_Reader_readList_76 : decode b_Reader_readList 76 = .ok (.iinc 1 1, 3) := by decide +kernel
theorem d_Reader_readList_79 : decode b_Reader_readList 79 = .ok (.goto (-77), 3) := by decide +kernel
theorem d_Reader_readList_82 : decode b_Reader_readList 82 = .ok (.aload_n 0, 1) := by decide +kernel
theorem d_Reader_readList_83 : decode b_Reader_readList 83 = .ok (.aload_n 0, 1) := by decide +kernel
theorem d_Reader_readList_84 : decode b_Reader_readList 84 = .ok (.getfield 39, 3) := by decide +kernel
theorem d_Reader_readList_87 : decode b_Reader_readList 87 = .ok (.invokevirtual 69, 3) := by decide +kernel
theorem d_Reader_readList_90 : decode b_Reader_readList 90 = .ok (.ireturn, 1) := by decide +kernel
theorem d_Reader_countBare_0 : decode b_Reader_countBare 0 = .ok (.aload_n 0, 1) := by decide +kernel
theorem d_Reader_countBare_1 : decode b_Reader_countBare 1 = .ok (.ldc 169, 2) := by decide +kernel
theorem d_Reader_countBare_3 : decode b_Reader_countBare 3 = .ok (.invokevirtual 117, 3) := by decide +kernel
theorem d_Reader_countBare_6 : decode b_Reader_countBare 6 = .ok (.ifCond .eq 16, 3) := by decide +kernel
theorem d_Reader_countBare_9 : decode b_Reader_countBare 9 = .ok (.aload_n 0, 1) := by decide +kernel
theorem d_Reader_countBare_10 : decode b_Reader_countBare 10 = .ok (.getfield 28, 3) := by decide +kernel
theorem d_Reader_countBare_13 : decode b_Reader_countBare 13 = .ok (.bipush 10, 2) := by decide +kernel
theorem d_Reader_countBare_15 : decode b_Reader_countBare 15 = .ok (.iconst 1, 1) := by decide +kernel
theorem d_Reader_countBare_16 : decode b_Reader_countBare 16 = .ok (.invokevirtual 88, 3) := by decide +kernel
theorem d_Reader_countBare_19 : decode b_Reader_countBare 19 = .ok (.goto 75, 3) := by decide +kernel
theorem d_Reader_countBare_22 : decode b_Reader_countBare 22 = .ok (.aload_n 0, 1) := by decide +kernel
theorem d_Reader_countBare_23 : decode b_Reader_countBare 23 = .ok (.getfield 36, 3) := by decide +kernel
theorem d_Reader_countBare_26 : decode b_Reader_countBare 26 = .ok (.iconst 1, 1) := by decide +kernel
theorem d_Reader_countBare_27 : decode b_Reader_countBare 27 = .ok (.if_icmp .ne 25, 3) := by decide +kernel
theorem d_Reader_countBare_30 : decode b_Reader_countBare 30 = .ok (.aload_n 0, 1) := by decide +kernel
theorem d_Reader_countBare_31 : decode b_Reader_countBare 31 = .ok (.ldc 171, 2) := by decide +kernel
theorem d_Reader_countBare_33 : decode b_Reader_countBare 33 = .ok (.invokevirtual 117, 3) := by decide +kernel
theorem d_Reader_countBare_36 : decode b_Reader_countBare 36 = .ok (.ifCond .eq 58, 3) := by decide +kernel
theorem d_Reader_countBare_39 : decode b_Reader_countBare 39 = .ok (.aload_n 0, 1) := by decide +kernel
theorem d_Reader_countBare_40 : decode b_Reader_countBare 40 = .ok (.getfield 28, 3) := by decide +kernel
theorem d_Reader_countBare_43 : decode b_Reader_countBare 43 = .ok (.bipush 15, 2) := by decide +kernel
theorem d_Reader_countBare_45 : decode b_Reader_countBare 45 = .ok (.iconst 1, 1) := by decide +kernel
theorem d_Reader_countBare_46 : decode b_Reader_countBare 46 = .ok (.invokevirtual 88, 3) := by decide +kernel
theorem d_Reader_countBare_49 : decode b_Reader_countBare 49 = .ok (.goto 45, 3) := by decide +kernel
theorem d_Reader_countBare_52 : decode b_Reader_countBare 52 = .ok (.aload_n 0, 1) := by decide +kernel
theorem d_Reader_countBare_53 : decode b_Reader_countBare 53 = .ok (.ldc 173, 2) := by decide +kernel
theorem d_Reader_countBare_55 : decode b_Reader_countBare 55 = .ok (.invokevirtual 117, 3) := by decide +kernel
theorem d_Reader_countBare_58 : decode b_Reader_countBare 58 = .ok (.ifCond .eq 16, 3) := by decide +kernel
theorem d_Reader_countBare_61 : decode b_Reader_countBare 61 = .ok (.aload_n 0, 1) := by decide +kernel
theorem d_Reader_countBare_62 : decode b_Reader_countBare 62 = .ok (.getfield 28, 3) := by decide +kernel
theorem d_Reader_countBare_65 : decode b_Reader_countBare 65 = .ok (.bipush 11, 2) := by decide +kernel
theorem d_Reader_countBare_67 : decode b_Reader_countBare 67 = .ok (.iconst 1, 1) := by decide +kernel
theorem d_Reader_countBare_68 : decode b_Reader_countBare 68 = .ok (.invokevirtual 88, 3) := by decide +kernel
theorem d_Reader_countBare_71 : decode b_Reader_countBare 71 = .ok (.goto 23, 3) := by decide +kernel
theorem d_Reader_countBare_74 : decode b_Reader_countBare 74 = .ok (.aload_n 0, 1) := by decide +kernel
theorem d_Reader_countBare_75 : decode b_Reader_countBare 75 = .ok (.ldc 175, 2) := by decide +kernel
theorem d_Reader_countBare_77 : decode b_Reader_countBare 77 = .ok (.invokevirtual 117, 3) := by decide +kernel
theorem d_Reader_countBare_80 : decode b_Reader_countBare 80 = .ok (.ifCond .eq 14, 3) := by decide +kernel
theorem d_Reader_countBare_83 : decode b_Reader_countBare 83 = .ok (.aload_n 0, 1) := by decide +kernel
theorem d_Reader_countBare_84 : decode b_Reader_countBare 84 = .ok (.getfield 28, 3) := by decide +kernel
theorem d_Reader_countBare_87 : decode b_Reader_countBare 87 = .ok (.bipush 13, 2) := by decide +kernel
theorem d_Reader_countBare_89 : decode b_Reader_countBare 89 = .ok (.bipush (-2), 2) := by decide +kernel
theorem d_Reader_countBare_91 : decode b_Reader_countBare 91 = .ok (.invokevirtual 88, 3) := by decide +kernel
theorem d_Reader_countBare_94 : decode b_Reader_countBare 94 = .ok (.return_, 1) := by decide +kernel
theorem d_Reader_countWithNumber_0 : decode b_Reader_countWithNumber 0 = .ok (.aload_n 0, 1) := by decide +kernel
theorem d_Reader_countWithNumber_1 : decode b_Reader_countWithNumber 1 = .ok (.ldc 177, 2) := by decide +kernel
theorem d_Reader_countWithNumber_3 : decode b_Reader_countWithNumber 3 = .ok (.invokevirtual 117, 3) := by decide +kernel
theorem d_Reader_countWithNumber_6 : decode b_Reader_countWithNumber 6 = .ok (.ifCond .eq 19, 3) := by decide +kernel
theorem d_Reader_countWithNumber_9 : decode b_Reader_countWithNumber 9 = .ok (.aload_n 0, 1) := by decide +kernel
theorem d_Reader_countWithNumber_10 : decode b_Reader_countWithNumber 10 = .ok (.getfield 28, 3) := by decide +kernel
theorem d_Reader_countWithNumber_13 : decode b_Reader_countWithNumber 13 = .ok (.bipush 12, 2) := by decide +kernel
theorem d_Reader_countWithNumber_15 : decode b_Reader_countWithNumber 15 = .ok (.aload_n 0, 1) := by decide +kernel
theorem d_Reader_countWithNumber_16 : decode b_Reader_countWithNumber 16 = .ok (.getfield 45, 3) := by decide +kernel
theorem d_Reader_countWithNumber_19 : decode b_Reader_countWithNumber 19 = .ok (.invokevirtual 88, 3) := by decide +kernel
theorem d_Reader_countWithNumber_22 : decode b_Reader_countWithNumber 22 = .ok (.goto 108, 3) := by decide +kernel
theorem d_Reader_countWithNumber_25 : decode b_Reader_countWithNumber 25 = .ok (.aload_n 0, 1) := by decide +kernel
theorem d_Reader_countWithNumber_26 : decode b_Reader_countWithNumber 26 = .ok (.getfield 36, 3) := by decide +kernel
theorem d_Reader_countWithNumber_29 : decode b_Reader_countWithNumber 29 = .ok (.iconst 1, 1) := by decide +kernel
theorem d_Reader_countWithNumber_30 : decode b_Reader_countWithNumber 30 = .ok (.if_icmp .ne 53, 3) := by decide +kernel
theorem d_Reader_countWithNumber_33 : decode b_Reader_countWithNumber 33 = .ok (.aload_n 0, 1) := by decide +kernel
theorem d_Reader_countWithNumber_34 : decode b_Reader_countWithNumber 34 = .ok (.ldc 179, 2) := by decide +kernel
theorem d_Reader_countWithNumber_36 : decode b_Reader_countWithNumber 36 = .ok (.invokevirtual 117, 3) := by decide +kernel
theorem d_Reader_countWithNumber_39 : decode b_Reader_countWithNumber 39 = .ok (.ifCond .eq 19, 3) := by decide +kernel
theorem d_Reader_countWithNumber_42 : decode b_Reader_countWithNumber 42 = .ok (.aload_n 0, 1) := by decide +kernel
theorem d_Reader_countWithNumber_43 : decode b_Reader_countWithNumber 43 = .ok (.getfield 28, 3) := by decide +kernel
theorem d_Reader_countWithNumber_46 : decode b_Reader_countWithNumber 46 = .ok (.bipush 16, 2) := by decide +kernel
theorem d_Reader_countWithNumber_48 : decode b_Reader_countWithNumber 48 = .ok (.aload_n 0, 1) := by decide +kernel
theorem d_Reader_countWithNumber_49 : decode b_Reader_countWithNumber 49 = .ok (.getfield 45, 3) := by decide +kernel
theorem d_Reader_countWithNumber_52 : decode b_Reader_countWithNumber 52 = .ok (.invokevirtual 88, 3) := by decide +kernel
theorem d_Reader_countWithNumber_55 : decode b_Reader_countWithNumber 55 = .ok (.goto 75, 3) := by decide +kernel
theorem d_Reader_countWithNumber_58 : decode b_Reader_countWithNumber 58 = .ok (.aload_n 0, 1) := by decide +kernel
theorem d_Reader_countWithNumber_59 : decode b_Reader_countWithNumber 59 = .ok (.ldc 181, 2) := by decide +kernel
theorem d_Reader_countWithNumber_61 : decode b_Reader_countWithNumber 61 = .ok (.invokevirtual 117, 3) := by decide +kernel
theorem d_Reader_countWithNumber_64 : decode b_Reader_countWithNumber 64 = .ok (.ifCond .eq 66, 3) := by decide +kernel
theorem d_Reader_countWithNumber_67 : decode b_Reader_countWithNumber 67 = .ok (.aload_n 0, 1) := by decide +kernel
theorem d_Reader_countWithNumber_68 : decode b_Reader_countWithNumber 68 = .ok (.getfield 28, 3) := by decide +kernel
theorem d_Reader_countWithNumber_71 : decode b_Reader_countWithNumber 71 = .ok (.bipush 17, 2) := by decide +kernel
theorem d_Reader_countWithNumber_73 : decode b_Reader_countWithNumber 73 = .ok (.aload_n 0, 1) := by decide +kernel
theorem d_Reader_countWithNumber_74 : decode b_Reader_countWithNumber 74 = .ok (.getfield 45, 3) := by decide +kernel
theorem d_Reader_countWithNumber_77 : decode b_Reader_countWithNumber 77 = .ok (.invokevirtual 88, 3) := by decide +kernel
theorem d_Reader_countWithNumber_80 : decode b_Reader_countWithNumber 80 = .ok (.goto 50, 3) := by decide +kernel
theorem d_Reader_countWithNumber_83 : decode b_Reader_countWithNumber 83 = .ok (.aload_n 0, 1) := by decide +kernel
theorem d_Reader_countWithNumber_84 : decode b_Reader_countWithNumber 84 = .ok (.ldc 175, 2) := by decide +kernel
theorem d_Reader_countWithNumber_86 : decode b_Reader_countWithNumber 86 = .ok (.invokevirtual 117, 3) := by decide +kernel
theorem d_Reader_countWithNumber_89 : decode b_Reader_countWithNumber 89 = .ok (.ifCond .eq 19, 3) := by decide +kernel
theorem d_Reader_countWithNumber_92 : decode b_Reader_countWithNumber 92 = .ok (.aload_n 0, 1) := by decide +kernel
theorem d_Reader_countWithNumber_93 : decode b_Reader_countWithNumber 93 = .ok (.getfield 28, 3) := by decide +kernel
theorem d_Reader_countWithNumber_96 : decode b_Reader_countWithNumber 96 = .ok (.bipush 13, 2) := by decide +kernel
theorem d_Reader_countWithNumber_98 : decode b_Reader_countWithNumber 98 = .ok (.aload_n 0, 1) := by decide +kernel
theorem d_Reader_countWithNumber_99 : decode b_Reader_countWithNumber 99 = .ok (.getfield 45, 3) := by decide +kernel
theorem d_Reader_countWithNumber_102 : decode b_Reader_countWithNumber 102 = .ok (.invokevirtual 88, 3) := by decide +kernel
theorem d_Reader_countWithNumber_105 : decode b_Reader_countWithNumber 105 = .ok (.goto 25, 3) := by decide +kernel
theorem d_Reader_countWithNumber_108 : decode b_Reader_countWithNumber 108 = .ok (.aload_n 0, 1) := by decide +kernel
theorem d_Reader_countWithNumber_109 : decode b_Reader_countWithNumber 109 = .ok (.ldc 183, 2) := by decide +kernel
theorem d_Reader_countWithNumber_111 : decode b_Reader_countWithNumber 111 = .ok (.invokevirtual 117, 3) := by decide +kernel
theorem d_Reader_countWithNumber_114 : decode b_Reader_countWithNumber 114 = .ok (.ifCond .eq 16, 3) := by decide +kernel
theorem d_Reader_countWithNumber_117 : decode b_Reader_countWithNumber 117 = .ok (.aload_n 0, 1) := by decide +kernel
theorem d_Reader_countWithNumber_118 : decode b_Reader_countWithNumber 118 = .ok (.getfield 28, 3) := by decide +kernel
theorem d_Reader_countWithNumber_121 : decode b_Reader_countWithNumber 121 = .ok (.bipush 14, 2) := by decide +kernel
theorem d_Reader_countWithNumber_123 : decode b_Reader_countWithNumber 123 = .ok (.aload_n 0, 1) := by decide +kernel
theorem d_Reader_countWithNumber_124 : decode b_Reader_countWithNumber 124 = .ok (.getfield 45, 3) := by decide +kernel
theorem d_Reader_countWithNumber_127 : decode b_Reader_countWithNumber 127 = .ok (.invokevirtual 88, 3) := by decide +kernel
theorem d_Reader_countWithNumber_130 : decode b_Reader_countWithNumber 130 = .ok (.return_, 1) := by decide +kernel
theorem d_Reader_readRange_0 : decode b_Reader_readRange 0 = .ok (.aload_n 0, 1) := by decide +kernel
theorem d_Reader_readRange_1 : decode b_Reader_readRange 1 = .ok (.ldc 146, 2) := by decide +kernel
theorem d_Reader_readRange_3 : decode b_Reader_readRange 3 = .ok (.invokevirtual 94, 3) := by decide +kernel
theorem d_Reader_readRange_6 : decode b_Reader_readRange 6 = .ok (.ifCond .ne 5, 3) := by decide +kernel
theorem d_Reader_readRange_9 : decode b_Reader_readRange 9 = .ok (.iconst 0, 1) := by decide +kernel
theorem d_Reader_readRange_10 : decode b_Reader_readRange 10 = .ok (.ireturn, 1) := by decide +kernel
theorem d_Reader_readRange_11 : decode b_Reader_readRange 11 = .ok (.aload_n 0, 1) := by decide +kernel
theorem d_Reader_readRange_12 : decode b_Reader_readRange 12 = .ok (.bipush 45, 2) := by decide +kernel
theorem d_Reader_readRange_14 : decode b_Reader_readRange 14 = .ok (.invokevirtual 61, 3) := by decide +kernel
theorem d_Reader_readRange_17 : decode b_Reader_readRange 17 = .ok (.istore_n 1, 1) := by decide +kernel
theorem d_Reader_readRange_18 : decode b_Reader_readRange 18 = .ok (.aload_n 0, 1) := by decide +kernel
theorem d_Reader_readRange_19 : decode b_Reader_readRange 19 = .ok (.ldc 148, 2) := by decide +kernel
theorem d_Reader_readRange_21 : decode b_Reader_readRange 21 = .ok (.invokevirtual 102, 3) := by decide +kernel
theorem d_Reader_readRange_24 : decode b_Reader_readRange 24 = .ok (.ifCond .ne 5, 3) := by decide +kernel
theorem d_Reader_readRange_27 : decode b_Reader_readRange 27 = .ok (.iconst 0, 1) := by decide +kernel
theorem d_Reader_readRange_28 : decode b_Reader_readRange 28 = .ok (.ireturn, 1) := by decide +kernel
theorem d_Reader_readRange_29 : decode b_Reader_readRange 29 = .ok (.aload_n 0, 1) := by decide +kernel
theorem d_Reader_readRange_30 : decode b_Reader_readRange 30 = .ok (.getfield 45, 3) := by decide +kernel
theorem d_Reader_readRange_33 : decode b_Reader_readRange 33 = .ok (.istore_n 2, 1) := by decide +kernel
theorem d_Reader_readRange_34 : decode b_Reader_readRange 34 = .ok (.iload_n 1, 1) := by decide +kernel
theorem d_Reader_readRange_35 : decode b_Reader_readRange 35 = .ok (.ifCond .eq 15, 3) := by decide +kernel
theorem d_Reader_readRange_38 : decode b_Reader_readRange 38 = .ok (.aload_n 0, 1) := by decide +kernel
theorem d_Reader_readRange_39 : decode b_Reader_readRange 39 = .ok (.getfield 28, 3) := by decide +kernel
theorem d_Reader_readRange_42 : decode b_Reader_readRange 42 = .ok (.iconst 3, 1) := by decide +kernel
theorem d_Reader_readRange_43 : decode b_Reader_readRange 43 = .ok (.iload_n 2, 1) := by decide +kernel
theorem d_Reader_readRange_44 : decode b_Reader_readRange 44 = .ok (.iconst (-1), 1) := by decide +kernel
theorem d_Reader_readRange_45 : decode b_Reader_readRange 45 = .ok (.invokevirtual 149, 3) := by decide +kernel
theorem d_Reader_readRange_48 : decode b_Reader_readRange 48 = .ok (.iconst 1, 1) := by decide +kernel
theorem d_Reader_readRange_49 : decode b_Reader_readRange 49 = .ok (.ireturn, 1) := by decide +kernel
theorem d_Reader_readRange_50 : decode b_Reader_readRange 50 = .ok (.aload_n 0, 1) := by decide +kernel
theorem d_Reader_readRange_51 : decode b_Reader_readRange 51 = .ok (.bipush 45, 2) := by decide +kernel
theorem d_Reader_readRange_53 : decode b_Reader_readRange 53 = .ok (.invokevirtual 79, 3) := by decide +kernel
theorem d_Reader_readRange_56 : decode b_Reader_readRange 56 = .ok (.ifCond .ne 5, 3) := by decide +kernel
theorem d_Reader_readRange_59 : decode b_Reader_readRange 59 = .ok (.iconst 0, 1) := by decide +kernel
theorem d_Reader_readRange_60 : decode b_Reader_readRange 60 = .ok (.ireturn, 1) := by decide +kernel
theorem d_Reader_readRange_61 : decode b_Reader_readRange 61 = .ok (.aload_n 0, 1) := by decide +kernel
theorem d_Reader_readRange_62 : decode b_Reader_readRange 62 = .ok (.invokevirtual 65, 3) := by decide +kernel
theorem d_Reader_readRange_65 : decode b_Reader_readRange 65 = .ok (.invokestatic 153, 3) := by decide +kernel
theorem d_Reader_readRange_68 : decode b_Reader_readRange 68 = .ok (.ifCond .ne 15, 3) := by decide +kernel
theorem d_Reader_readRange_71 : decode b_Reader_readRange 71 = .ok (.aload_n 0, 1) := by decide +kernel
theorem d_Reader_readRange_72 : decode b_Reader_readRange 72 = .ok (.getfield 28, 3) := by decide +kernel
theorem d_Reader_readRange_75 : decode b_Reader_readRange 75 = .ok (.iconst 2, 1) := by decide +kernel
theorem d_Reader_readRange_76 : decode b_Reader_readRange 76 = .ok (.iload_n 2, 1) := by decide +kernel
theorem d_Reader_readRange_77 : decode b_Reader_readRange 77 = .ok (.iconst (-1), 1) := by decide +kernel
theorem d_Reader_readRange_78 : decode b_Reader_readRange 78 = .ok (.invokevirtual 149, 3) := by decide +kernel
theorem d_Reader_readRange_81 : decode b_Reader_readRange 81 = .ok (.iconst 1, 1) := by decide +kernel
theorem d_Reader_readRange_82 : decode b_Reader_readRange 82 = .ok (.ireturn, 1) := by decide +kernel
theorem d_Reader_readRange_83 : decode b_Reader_readRange 83 = .ok (.aload_n 0, 1) := by decide +kernel
theorem d_Reader_readRange_84 : decode b_Reader_readRange 84 = .ok (.ldc 148, 2) := by decide +kernel
theorem d_Reader_readRange_86 : decode b_Reader_readRange 86 = .ok (.invokevirtual 102, 3) := by decide +kernel
theorem d_Reader_readRange_89 : decode b_Reader_readRange 89 = .ok (.ifCond .ne 5, 3) := by decide +kernel
theorem d_Reader_readRange_92 : decode b_Reader_readRange 92 = .ok (.iconst 0, 1) := by decide +kernel
theorem d_Reader_readRange_93 : decode b_Reader_readRange 93 = .ok (.ireturn, 1) := by decide +kernel
theorem d_Reader_readRange_94 : decode b_Reader_readRange 94 = .ok (.iload_n 2, 1) := by decide +kernel
theorem d_Reader_readRange_95 : decode b_Reader_readRange 95 = .ok (.aload_n 0, 1) := by decide +kernel
theorem d_Reader_readRange_96 : decode b_Reader_readRange 96 = .ok (.getfield 45, 3) := by decide +kernel
theorem d_Reader_readRange_99 : decode b_Reader_readRange 99 = .ok (.if_icmp .gt 16, 3) := by decide +kernel
theorem d_Reader_readRange_102 : decode b_Reader_readRange 102 = .ok (.aload_n 0, 1) := by decide +kernel
theorem d_Reader_readRange_103 : decode b_Reader_readRange 103 = .ok (.getfield 28, 3) := by decide +kernel
theorem d_Reader_readRange_106 : decode b_Reader_readRange 106 = .ok (.iconst 1, 1) := by decide +kernel
theorem d_Reader_readRange_107 : decode b_Reader_readRange 107 = .ok (.iload_n 2, 1) := by decide +kernel
theorem d_Reader_readRange_108 : decode b_Reader_readRange 108 = .ok (.aload_n 0, 1) := by decide +kernel
theorem d_Reader_readRange_109 : decode b_Reader_readRange 109 = .ok (.getfield 45, 3) := by decide +kernel
theorem d_Reader_readRange_112 : decode b_Reader_readRange 112 = .ok (.invokevirtual 149, 3) := by decide +kernel
theorem d_Reader_readRange_115 : decode b_Reader_readRange 115 = .ok (.iconst 1, 1) := by decide +kernel
theorem d_Reader_readRange_116 : decode b_Reader_readRange 116 = .ok (.ireturn, 1) := by decide +kernel
theorem d_Reader_readVersions_0 : decode b_Reader_readVersions 0 = .ok (.aload_n 0, 1) := by decide +kernel
theorem d_Reader_readVersions_1 : decode b_Reader_readVersions 1 = .ok (.bipush 42, 2) := by decide +kernel
theorem d_Reader_readVersions_3 : decode b_Reader_readVersions 3 = .ok (.invokevirtual 61, 3) := by decide +kernel
theorem d_Reader_readVersions_6 : decode b_Reader_readVersions 6 = .ok (.ifCond .eq 15, 3) := by decide +kernel
theorem d_Reader_readVersions_9 : decode b_Reader_readVersions 9 = .ok (.aload_n 0, 1) := by decide +kernel
theorem d_Reader_readVersions_10 : decode b_Reader_readVersions 10 = .ok (.getfield 28, 3) := by decide +kernel
theorem d_Reader_readVersions_13 : decode b_Reader_readVersions 13 = .ok (.bipush 6, 2) := by decide +kernel
theorem d_Reader_readVersions_15 : decode b_Reader_readVersions 15 = .ok (.iconst 1, 1) := by decide +kernel
theorem d_Reader_readVersions_16 : decode b_Reader_readVersions 16 = .ok (.invokevirtual 88, 3) := by decide +kernel
theorem d_Reader_readVersions_19 : decode b_Reader_readVersions 19 = .ok (.iconst 1, 1) := by decide +kernel
theorem d_Reader_readVersions_20 : decode b_Reader_readVersions 20 = .ok (.ireturn, 1) := by decide +kernel
theorem d_Reader_readVersions_21 : decode b_Reader_readVersions 21 = .ok (.iconst 1, 1) := by decide +kernel
theorem d_Reader_readVersions_22 : decode b_Reader_readVersions 22 = .ok (.istore_n 1, 1) := by decide +kernel
theorem d_Reader_readVersions_23 : decode b_Reader_readVersions 23 = .ok (.iload_n 1, 1) := by decide +kernel
theorem d_Reader_readVersions_24 : decode b_Reader_readVersions 24 = .ok (.bipush 8, 2) := by decide +kernel
theorem d_Reader_readVersions_26 : decode b_Reader_readVersions 26 = .ok (.if_icmp .gt 77, 3) := by decide +kernel
theorem d_Reader_readVersions_29 : decode b_Reader_readVersions 29 = .ok (.aload_n 0, 1) := by decide +kernel
theorem d_Reader_readVersions_30 : decode b_Reader_readVersions 30 = .ok (.bipush 34, 2) := by decide +kernel
theorem d_Reader_readVersions_32 : decode b_Reader_readVersions 32 = .ok (.invokevirtual 79, 3) := by decide +kernel
theorem d_Reader_readVersions_35 : decode b_Reader_readVersions 35 = .ok (.ifCond .eq 21, 3) := by decide +kernel
theorem d_Reader_readVersions_38 : decode b_Reader_readVersions 38 = .ok (.aload_n 0, 1) := by decide +kernel
theorem d_Reader_readVersions_39 : decode b_Reader_readVersions 39 = .ok (.ldc 148, 2) := by decide +kernel
theorem d_Reader_readVersions_41 : decode b_Reader_readVersions 41 = .ok (.invokevirtual 102, 3) := by decide +kernel
theorem d_Reader_readVersions_44 : decode b_Reader_readVersions 44 = .ok (.ifCond .eq 12, 3) := by decide +kernel
theorem d_Reader_readVersions_47 : decode b_Reader_readVersions 47 = .ok (.aload_n 0, 1) := by decide +kernel
theorem d_Reader_readVersions_48 : decode b_Reader_readVersions 48 = .ok (.bipush 34, 2) := by decide +kernel
theorem d_Reader_readVersions_50 : decode b_Reader_readVersions 50 = .ok (.invokevirtual 79, 3) := by decide +kernel
theorem d_Reader_readVersions_53 : decode b_Reader_readVersions 53 = .ok (.ifCond .ne 5, 3) := by decide +kernel
theorem d_Reader_readVersions_56 : decode b_Reader_readVersions 56 = .ok (.iconst 0, 1) := by decide +kernel
theorem d_Reader_readVersions_57 : decode b_Reader_readVersions 57 = .ok (.ireturn, 1) := by decide +kernel
theorem d_Reader_readVersions_58 : decode b_Reader_readVersions 58 = .ok (.aload_n 0, 1) := by decide +kernel
theorem d_Reader_readVersions_59 : decode b_Reader_readVersions 59 = .ok (.getfield 28, 3) := by decide +kernel
theorem d_Reader_readVersions_62 : decode b_Reader_readVersions 62 = .ok (.aload_n 0, 1) := by decide +kernel
theorem d_Reader_readVersions_63 : decode b_Reader_readVersions 63 = .ok (.getfield 45, 3) := by decide +kernel
theorem d_Reader_readVersions_66 : decode b_Reader_readVersions 66 = .ok (.invokevirtual 156, 3) := by decide +kernel
theorem d_Reader_readVersions_69 : decode b_Reader_readVersions 69 = .ok (.iload_n 1, 1) := by decide +kernel
theorem d_Reader_readVersions_70 : decode b_Reader_readVersions 70 = .ok (.bipush 8, 2) := by decide +kernel
theorem d_Reader_readVersions_72 : decode b_Reader_readVersions 72 = .ok (.if_icmp .eq 12, 3) := by decide +kernel
theorem d_Reader_readVersions_75 : decode b_Reader_readVersions 75 = .ok (.aload_n 0, 1) := by decide +kernel
theorem d_Reader_readVersions_76 : decode b_Reader_readVersions 76 = .ok (.bipush 44, 2) := by decide +kernel
theorem d_Reader_readVersions_78 : decode b_Reader_readVersions 78 = .ok (.invokevirtual 61, 3) := by decide +kernel
theorem d_Reader_readVersions_81 : decode b_Reader_readVersions 81 = .ok (.ifCond .ne 5, 3) := by decide +kernel
theorem d_Reader_readVersions_84 : decode b_Reader_readVersions 84 = .ok (.iconst 1, 1) := by decide +kernel
theorem d_Reader_readVersions_85 : decode b_Reader_readVersions 85 = .ok (.ireturn, 1) := by decide +kernel
theorem d_Reader_readVersions_86 : decode b_Reader_readVersions 86 = .ok (.aload_n 0, 1) := by decide +kernel
theorem d_Reader_readVersions_87 : decode b_Reader_readVersions 87 = .ok (.bipush 32, 2) := by decide +kernel
theorem d_Reader_readVersions_89 : decode b_Reader_readVersions 89 = .ok (.invokevirtual 79, 3) := by decide +kernel
theorem d_Reader_readVersions_92 : decode b_Reader_readVersions 92 = .ok (.ifCond .ne 5, 3) := by decide +kernel
theorem d_Reader_readVersions_95 : decode b_Reader_readVersions 95 = .ok (.iconst 0, 1) := by decide +kernel
theorem d_Reader_readVersions_96 : decode b_Reader_readVersions 96 = .ok (.ireturn, 1) := by decide +kernel
theorem d_Reader_readVersions_97 : decode b_Reader_readVersions 97 = .ok (.iinc 1 1, 3) := by decide +kernel
theorem d_Reader_readVersions_100 : decode b_Reader_readVersions 100 = .ok (.goto (-77), 3) := by decide +kernel
theorem d_Reader_readVersions_103 : decode b_Reader_readVersions 103 = .ok (.iconst 1, 1) := by decide +kernel
theorem d_Reader_readVersions_104 : decode b_Reader_readVersions 104 = .ok (.ireturn, 1) := by decide +kernel
theorem d_Reader_readLength_0 : decode b_Reader_readLength 0 = .ok (.aload_n 0, 1) := by decide +kernel
theorem d_Reader_readLength_1 : decode b_Reader_readLength 1 = .ok (.sipush 255, 3) := by decide +kernel
theorem d_Reader_readLength_4 : decode b_Reader_readLength 4 = .ok (.invokevirtual 102, 3) := by decide +kernel
theorem d_Reader_readLength_7 : decode b_Reader_readLength 7 = .ok (.ifCond .ne 5, 3) := by decide +kernel
theorem d_Reader_readLength_10 : decode b_Reader_readLength 10 = .ok (.iconst 0, 1) := by decide +kernel
theorem d_Reader_readLength_11 : decode b_Reader_readLength 11 = .ok (.ireturn, 1) := by decide +kernel
theorem d_Reader_readLength_12 : decode b_Reader_readLength 12 = .ok (.aload_n 0, 1) := by decide +kernel
theorem d_Reader_readLength_13 : decode b_Reader_readLength 13 = .ok (.getfield 28, 3) := by decide +kernel
theorem d_Reader_readLength_16 : decode b_Reader_readLength 16 = .ok (.bipush 8, 2) := by decide +kernel
theorem d_Reader_readLength_18 : decode b_Reader_readLength 18 = .ok (.aload_n 0, 1) := by decide +kernel
theorem d_Reader_readLength_19 : decode b_Reader_readLength 19 = .ok (.getfield 45, 3) := by decide +kernel
theorem d_Reader_readLength_22 : decode b_Reader_readLength 22 = .ok (.invokevirtual 88, 3) := by decide +kernel
theorem d_Reader_readLength_25 : decode b_Reader_readLength 25 = .ok (.iconst 1, 1) := by decide +kernel
theorem d_Reader_readLength_26 : decode b_Reader_readLength 26 = .ok (.ireturn, 1) := by decide +kernel
theorem d_Reader_readKeys_0 : decode b_Reader_readKeys 0 = .ok (.iconst 1, 1) := by decide +kernel
theorem d_Reader_readKeys_1 : decode b_Reader_readKeys 1 = .ok (.istore_n 1, 1) := by decide +kernel
theorem d_Reader_readKeys_2 : decode b_Reader_readKeys 2 = .ok (.iload_n 1, 1) := by decide +kernel
theorem d_Reader_readKeys_3 : decode b_Reader_readKeys 3 = .ok (.bipush 8, 2) := by decide +kernel
theorem d_Reader_readKeys_5 : decode b_Reader_readKeys 5 = .ok (.if_icmp .gt 70, 3) := by decide +kernel
theorem d_Reader_readKeys_8 : decode b_Reader_readKeys 8 = .ok (.aload_n 0, 1) := by decide +kernel
theorem d_Reader_readKeys_9 : decode b_Reader_readKeys 9 = .ok (.invokevirtual 65, 3) := by decide +kernel
theorem d_Reader_readKeys_12 : decode b_Reader_readKeys 12 = .ok (.istore_n 2, 1) := by decide +kernel
theorem d_Reader_readKeys_13 : decode b_Reader_readKeys 13 = .ok (.iload_n 2, 1) := by decide +kernel
theorem d_Reader_readKeys_14 : decode b_Reader_readKeys 14 = .ok (.bipush 97, 2) := by decide +kernel
theorem d_Reader_readKeys_16 : decode b_Reader_readKeys 16 = .ok (.if_icmp .lt 9, 3) := by decide +kernel
theorem d_Reader_readKeys_19 : decode b_Reader_readKeys 19 = .ok (.iload_n 2, 1) := by decide +kernel
theorem d_Reader_readKeys_20 : decode b_Reader_readKeys 20 = .ok (.bipush 104, 2) := by decide +kernel
theorem d_Reader_readKeys_22 : decode b_Reader_readKeys 22 = .ok (.if_icmp .le 12, 3) := by decide +kernel
theorem d_Reader_readKeys_25 : decode b_Reader_readKeys 25 = .ok (.aload_n 0, 1) := by decide +kernel
theorem d_Reader_readKeys_26 : decode b_Reader_readKeys 26 = .ok (.aload_n 0, 1) := by decide +kernel
theorem d_Reader_readKeys_27 : decode b_Reader_readKeys 27 = .ok (.getfield 39, 3) := by decide +kernel
theorem d_Reader_readKeys_30 : decode b_Reader_readKeys 30 = .ok (.invokevirtual 69, 3) := by decide +kernel
theorem d_Reader_readKeys_33 : decode b_Reader_readKeys 33 = .ok (.ireturn, 1) := by decide +kernel
theorem d_Reader_readKeys_34 : decode b_Reader_readKeys 34 = .ok (.aload_n 0, 1) := by decide +kernel
theorem d_Reader_readKeys_35 : decode b_Reader_readKeys 35 = .ok (.getfield 28, 3) := by decide +kernel
theorem d_Reader_readKeys_38 : decode b_Reader_readKeys 38 = .ok (.iload_n 2, 1) := by decide +kernel
theorem d_Reader_readKeys_39 : decode b_Reader_readKeys 39 = .ok (.invokevirtual 160, 3) := by decide +kernel
theorem d_Reader_readKeys_42 : decode b_Reader_readKeys 42 = .ok (.aload_n 0, 1) := by decide +kernel
theorem d_Reader_readKeys_43 : decode b_Reader_readKeys 43 = .ok (.dup, 1) := by decide +kernel
theorem d_Reader_readKeys_44 : decode b_Reader_readKeys 44 = .ok (.getfield 39, 3) := by decide +kernel
theorem d_Reader_readKeys_47 : decode b_Reader_readKeys 47 = .ok (.iconst 1, 1) := by decide +kernel
theorem d_Reader_readKeys_48 : decode b_Reader_readKeys 48 = .ok (.iadd, 1) := by decide +kernel
theorem d_Reader_readKeys_49 : decode b_Reader_readKeys 49 = .ok (.putfield 39, 3) := by decide +kernel
theorem d_Reader_readKeys_52 : decode b_Reader_readKeys 52 = .ok (.iload_n 1, 1) := by decide +kernel
theorem d_Reader_readKeys_53 : decode b_Reader_readKeys 53 = .ok (.bipush 8, 2) := by decide +kernel
theorem d_Reader_readKeys_55 : decode b_Reader_readKeys 55 = .ok (.if_icmp .eq 12, 3) := by decide +kernel
theorem d_Reader_readKeys_58 : decode b_Reader_readKeys 58 = .ok (.aload_n 0, 1) := by decide +kernel
theorem d_Reader_readKeys_59 : decode b_Reader_readKeys 59 = .ok (.bipush 32, 2) := by decide +kernel
theorem d_Reader_readKeys_61 : decode b_Reader_readKeys 61 = .ok (.invokevirtual 61, 3) := by decide +kernel
theorem d_Reader_readKeys_64 : decode b_Reader_readKeys 64 = .ok (.ifCond .ne 5, 3) := by decide +kernel
theorem d_Reader_readKeys_67 : decode b_Reader_readKeys 67 = .ok (.iconst 1, 1) := by decide +kernel
theorem d_Reader_readKeys_68 : decode b_Reader_readKeys 68 = .ok (.ireturn, 1) := by decide +kernel
theorem d_Reader_readKeys_69 : decode b_Reader_readKeys 69 = .ok (.iinc 1 1, 3) := by decide +kernel
theorem d_Reader_readKeys_72 : decode b_Reader_readKeys 72 = .ok (.goto (-70), 3) := by decide +kernel
theorem d_Reader_readKeys_75 : decode b_Reader_readKeys 75 = .ok (.iconst 1, 1) := by decide +kernel
theorem d_Reader_readKeys_76 : decode b_Reader_readKeys 76 = .ok (.ireturn, 1) := by decide +kernel
theorem d_Reader_readAnything_0 : decode b_Reader_readAnything 0 = .ok (.iconst 0, 1) := by decide +kernel
theorem d_Reader_readAnything_1 : decode b_Reader_readAnything 1 = .ok (.istore_n 1, 1) := by decide +kernel
theorem d_Reader_readAnything_2 : decode b_Reader_readAnything 2 = .ok (.iload_n 1, 1) := by decide +kernel
theorem d_Reader_readAnything_3 : decode b_Reader_readAnything 3 = .ok (.sipush 300, 3) := by decide +kernel
theorem d_Reader_readAnything_6 : decode b_Reader_readAnything 6 = .ok (.if_icmp .ge 38, 3) := by decide +kernel
theorem d_Reader_readAnything_9 : decode b_Reader_readAnything 9 = .ok (.aload_n 0, 1) := by decide +kernel
theorem d_Reader_readAnything_10 : decode b_Reader_readAnything 10 = .ok (.invokevirtual 65, 3) := by decide +kernel
theorem d_Reader_readAnything_13 : decode b_Reader_readAnything 13 = .ok (.iconst (-1), 1) := by decide +kernel
theorem d_Reader_readAnything_14 : decode b_Reader_readAnything 14 = .ok (.if_icmp .eq 12, 3) := by decide +kernel
theorem d_Reader_readAnything_17 : decode b_Reader_readAnything 17 = .ok (.aload_n 0, 1) := by decide +kernel
theorem d_Reader_readAnything_18 : decode b_Reader_readAnything 18 = .ok (.invokevirtual 65, 3) := by decide +kernel
theorem d_Reader_readAnything_21 : decode b_Reader_readAnything 21 = .ok (.bipush 10, 2) := by decide +kernel
theorem d_Reader_readAnything_23 : decode b_Reader_readAnything 23 = .ok (.if_icmp .ne 5, 3) := by decide +kernel
theorem d_Reader_readAnything_26 : decode b_Reader_readAnything 26 = .ok (.iconst 1, 1) := by decide +kernel
theorem d_Reader_readAnything_27 : decode b_Reader_readAnything 27 = .ok (.ireturn, 1) := by decide +kernel
theorem d_Reader_readAnything_28 : decode b_Reader_readAnything 28 = .ok (.aload_n 0, 1) := by decide +kernel
theorem d_Reader_readAnything_29 : decode b_Reader_readAnything 29 = .ok (.dup, 1) := by decide +kernel
theorem d_Reader_readAnything_30 : decode b_Reader_readAnything 30 = .ok (.getfield 39, 3) := by decide +kernel
theorem d_Reader_readAnything_33 : decode b_Reader_readAnything 33 = .ok (.iconst 1, 1) := by decide +kernel
theorem d_Reader_readAnything_34 : decode b_Reader_readAnything 34 = .ok (.iadd, 1) := by decide +kernel
theorem d_Reader_readAnything_35 : decode b_Reader_readAnything 35 = .ok (.putfield 39, 3) := by decide +kernel
theorem d_Reader_readAnything_38 : decode b_Reader_readAnything 38 = .ok (.iinc 1 1, 3) := by decide +kernel
theorem d_Reader_readAnything_41 : decode b_Reader_readAnything 41 = .ok (.goto (-39), 3) := by decide +kernel
theorem d_Reader_readAnything_44 : decode b_Reader_readAnything 44 = .ok (.iconst 1, 1) := by decide +kernel
theorem d_Reader_readAnything_45 : decode b_Reader_readAnything 45 = .ok (.ireturn, 1) := by decide +kernel
theorem d_Reader_stuckAt_0 : decode b_Reader_stuckAt 0 = .ok (.aload_n 0, 1) := by decide +kernel
theorem d_Reader_stuckAt_1 : decode b_Reader_stuckAt 1 = .ok (.getfield 42, 3) := by decide +kernel
theorem d_Reader_stuckAt_4 : decode b_Reader_stuckAt 4 = .ok (.ireturn, 1) := by decide +kernel
theorem d_Reader_trade_0 : decode b_Reader_trade 0 = .ok (.aload_n 0, 1) := by decide +kernel
theorem d_Reader_trade_1 : decode b_Reader_trade 1 = .ok (.getfield 28, 3) := by decide +kernel
theorem d_Reader_trade_4 : decode b_Reader_trade 4 = .ok (.astore_n 2, 1) := by decide +kernel
theorem d_Reader_trade_5 : decode b_Reader_trade 5 = .ok (.aload_n 0, 1) := by decide +kernel
theorem d_Reader_trade_6 : decode b_Reader_trade 6 = .ok (.aload_n 1, 1) := by decide +kernel
theorem d_Reader_trade_7 : decode b_Reader_trade 7 = .ok (.putfield 28, 3) := by decide +kernel
theorem d_Reader_trade_10 : decode b_Reader_trade 10 = .ok (.aload_n 2, 1) := by decide +kernel
theorem d_Reader_trade_11 : decode b_Reader_trade 11 = .ok (.areturn, 1) := by decide +kernel
