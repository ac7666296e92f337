theorem d_Mod_thrown_0 : decode b_Mod_thrown 0 = .ok (.aload_n 0, 1) := by decide +kernel
theorem d_Mod_thrown_1 : decode b_Mod_thrown 1 = .ok (.getfield 32, 3) := by decide +kernel
theorem d_Mod_thrown_4 : decode b_Mod_thrown 4 = .ok (.ireturn, 1) := by decide +kernel
theorem d_Mod_type_0 : decode b_Mod_type 0 = .ok (.aload_n 0, 1) := by decide +kernel
theorem d_Mod_type_1 : decode b_Mod_type 1 = .ok (.iconst 0, 1) := by decide +kernel
theorem d_Mod_type_2 : decode b_Mod_type 2 = .ok (.putfield 32, 3) := by decide +kernel
theorem d_Mod_type_5 : decode b_Mod_type 5 = .ok (.iload_n 3, 1) := by decide +kernel
theorem d_Mod_type_6 : decode b_Mod_type 6 = .ok (.iconst 1, 1) := by decide +kernel
theorem d_Mod_type_7 : decode b_Mod_type 7 = .ok (.if_icmp .lt 21, 3) := by decide +kernel
theorem d_Mod_type_10 : decode b_Mod_type 10 = .ok (.iload_n 3, 1) := by decide +kernel
theorem d_Mod_type_11 : decode b_Mod_type 11 = .ok (.bipush 8, 2) := by decide +kernel
theorem d_Mod_type_13 : decode b_Mod_type 13 = .ok (.if_icmp .gt 15, 3) := by decide +kernel
theorem d_Mod_type_16 : decode b_Mod_type 16 = .ok (.aload_n 0, 1) := by decide +kernel
theorem d_Mod_type_17 : decode b_Mod_type 17 = .ok (.getfield 35, 3) := by decide +kernel
theorem d_Mod_type_20 : decode b_Mod_type 20 = .ok (.iload_n 3, 1) := by decide +kernel
theorem d_Mod_type_21 : decode b_Mod_type 21 = .ok (.iadd, 1) := by decide +kernel
theorem d_Mod_type_22 : decode b_Mod_type 22 = .ok (.sipush 300, 3) := by decide +kernel
theorem d_Mod_type_25 : decode b_Mod_type 25 = .ok (.if_icmp .le 5, 3) := by decide +kernel
theorem d_Mod_type_28 : decode b_Mod_type 28 = .ok (.iconst 0, 1) := by decide +kernel
theorem d_Mod_type_29 : decode b_Mod_type 29 = .ok (.ireturn, 1) := by decide +kernel
theorem d_Mod_type_30 : decode b_Mod_type 30 = .ok (.iconst 0, 1) := by decide +kernel
theorem d_Mod_type_31 : decode b_Mod_type 31 = .ok (.istore 4, 2) := by decide +kernel
theorem d_Mod_type_33 : decode b_Mod_type 33 = .ok (.iload 4, 2) := by decide +kernel
theorem d_Mod_type_35 : decode b_Mod_type 35 = .ok (.iload_n 3, 1) := by decide +kernel
theorem d_Mod_type_36 : decode b_Mod_type 36 = .ok (.if_icmp .ge 46, 3) := by decide +kernel
theorem d_Mod_type_39 : decode b_Mod_type 39 = .ok (.lload_n 1, 1) := by decide +kernel
theorem d_Mod_type_40 : decode b_Mod_type 40 = .ok (.bipush 8, 2) := by decide +kernel
theorem d_Mod_type_42 : decode b_Mod_type 42 = .ok (.iload 4, 2) := by decide +kernel
theorem d_Mod_type_44 : decode b_Mod_type 44 = .ok (.imul, 1) := by decide +kernel
theorem d_Mod_type_45 : decode b_Mod_type 45 = .ok (.lshr, 1) := by decide +kernel
theorem d_Mod_type_46 : decode b_Mod_type 46 = .ok (.ldc2_w 38, 3) := by decide +kernel
theorem d_Mod_type_49 : decode b_Mod_type 49 = .ok (.land, 1) := by decide +kernel
theorem d_Mod_type_50 : decode b_Mod_type 50 = .ok (.l2i, 1) := by decide +kernel
theorem d_Mod_type_51 : decode b_Mod_type 51 = .ok (.istore 5, 2) := by decide +kernel
theorem d_Mod_type_53 : decode b_Mod_type 53 = .ok (.iload 5, 2) := by decide +kernel
theorem d_Mod_type_55 : decode b_Mod_type 55 = .ok (.bipush 10, 2) := by decide +kernel
theorem d_Mod_type_57 : decode b_Mod_type 57 = .ok (.if_icmp .eq 19, 3) := by decide +kernel
theorem d_Mod_type_60 : decode b_Mod_type 60 = .ok (.iload 5, 2) := by decide +kernel
theorem d_Mod_type_62 : decode b_Mod_type 62 = .ok (.bipush 32, 2) := by decide +kernel
theorem d_Mod_type_64 : decode b_Mod_type 64 = .ok (.if_icmp .lt 10, 3) := by decide +kernel
theorem d_Mod_type_67 : decode b_Mod_type 67 = .ok (.iload 5, 2) := by decide +kernel
theorem d_Mod_type_69 : decode b_Mod_type 69 = .ok (.bipush 126, 2) := by decide +kernel
theorem d_Mod_type_71 : decode b_Mod_type 71 = .ok (.if_icmp .le 5, 3) := by decide +kernel
theorem d_Mod_type_74 : decode b_Mod_type 74 = .ok (.iconst 0, 1) := by decide +kernel
theorem d_Mod_type_75 : decode b_Mod_type 75 = .ok (.ireturn, 1) := by decide +kernel
theorem d_Mod_type_76 : decode b_Mod_type 76 = .ok (.iinc 4 1, 3) := by decide +kernel
theorem d_Mod_type_79 : decode b_Mod_type 79 = .ok (.goto (-46), 3) := by decide +kernel
theorem d_Mod_type_82 : decode b_Mod_type 82 = .ok (.iload_n 3, 1) := by decide +kernel
theorem d_Mod_type_83 : decode b_Mod_type 83 = .ok (.iconst 1, 1) := by decide +kernel
theorem d_Mod_type_84 : decode b_Mod_type 84 = .ok (.isub, 1) := by decide +kernel
theorem d_Mod_type_85 : decode b_Mod_type 85 = .ok (.istore 4, 2) := by decide +kernel
theorem d_Mod_type_87 : decode b_Mod_type 87 = .ok (.iload 4, 2) := by decide +kernel
theorem d_Mod_type_89 : decode b_Mod_type 89 = .ok (.ifCond .lt 40, 3) := by decide +kernel
theorem d_Mod_type_92 : decode b_Mod_type 92 = .ok (.aload_n 0, 1) := by decide +kernel
theorem d_Mod_type_93 : decode b_Mod_type 93 = .ok (.getfield 7, 3) := by decide +kernel
theorem d_Mod_type_96 : decode b_Mod_type 96 = .ok (.aload_n 0, 1) := by decide +kernel
theorem d_Mod_type_97 : decode b_Mod_type 97 = .ok (.getfield 35, 3) := by decide +kernel
theorem d_Mod_type_100 : decode b_Mod_type 100 = .ok (.lload_n 1, 1) := by decide +kernel
theorem d_Mod_type_101 : decode b_Mod_type 101 = .ok (.bipush 8, 2) := by decide +kernel
theorem d_Mod_type_103 : decode b_Mod_type 103 = .ok (.iload 4, 2) := by decide +kernel
theorem d_Mod_type_105 : decode b_Mod_type 105 = .ok (.imul, 1) := by decide +kernel
theorem d_Mod_type_106 : decode b_Mod_type 106 = .ok (.lshr, 1) := by decide +kernel
theorem d_Mod_type_107 : decode b_Mod_type 107 = .ok (.ldc2_w 38, 3) := by decide +kernel
theorem d_Mod_type_110 : decode b_Mod_type 110 = .ok (.land, 1) := by decide +kernel
theorem d_Mod_type_111 : decode b_Mod_type 111 = .ok (.l2i, 1) := by decide +kernel
theorem d_Mod_type_112 : decode b_Mod_type 112 = .ok (.iastore, 1) := by decide +kernel
theorem d_Mod_type_113 : decode b_Mod_type 113 = .ok (.aload_n 0, 1) := by decide +kernel
theorem d_Mod_type_114 : decode b_Mod_type 114 = .ok (.dup, 1) := by decide +kernel
theorem d_Mod_type_115 : decode b_Mod_type 115 = .ok (.getfield 35, 3) := by decide +kernel
theorem d_Mod_type_118 : decode b_Mod_type 118 = .ok (.iconst 1, 1) := by decide +kernel
theorem d_Mod_type_119 : decode b_Mod_type 119 = .ok (.iadd, 1) := by decide +kernel
theorem d_Mod_type_120 : decode b_Mod_type 120 = .ok (.putfield 35, 3) := by decide +kernel
theorem d_Mod_type_123 : decode b_Mod_type 123 = .ok (.iinc 4 (-1), 3) := by decide +kernel
theorem d_Mod_type_126 : decode b_Mod_type 126 = .ok (.goto (-39), 3) := by decide +kernel
theorem d_Mod_type_129 : decode b_Mod_type 129 = .ok (.iconst 1, 1) := by decide +kernel
theorem d_Mod_type_130 : decode b_Mod_type 130 = .ok (.ireturn, 1) := by decide +kernel
theorem d_Mod_read_0 : decode b_Mod_read 0 = .ok (.aload_n 0, 1) := by decide +kernel
theorem d_Mod_read_1 : decode b_Mod_read 1 = .ok (.iload_n 1, 1) := by decide +kernel
theorem d_Mod_read_2 : decode b_Mod_read 2 = .ok (.ifCond .lt 24, 3) := by decide +kernel
theorem d_Mod_read_5 : decode b_Mod_read 5 = .ok (.iload_n 1, 1) := by decide +kernel
theorem d_Mod_read_6 : decode b_Mod_read 6 = .ok (.iconst 1, 1) := by decide +kernel
theorem d_Mod_read_7 : decode b_Mod_read 7 = .ok (.if_icmp .gt 19, 3) := by decide +kernel
theorem d_Mod_read_10 : decode b_Mod_read 10 = .ok (.aload_n 0, 1) := by decide +kernel
theorem d_Mod_read_11 : decode b_Mod_read 11 = .ok (.iload_n 1, 1) := by decide +kernel
theorem d_Mod_read_12 : decode b_Mod_read 12 = .ok (.ifCond .ne 7, 3) := by decide +kernel
theorem d_Mod_read_15 : decode b_Mod_read 15 = .ok (.iconst 1, 1) := by decide +kernel
theorem d_Mod_read_16 : decode b_Mod_read 16 = .ok (.goto 4, 3) := by decide +kernel
theorem d_Mod_read_19 : decode b_Mod_read 19 = .ok (.iconst 0, 1) := by decide +kernel
theorem d_Mod_read_20 : decode b_Mod_read 20 = .ok (.invokevirtual 233, 3) := by decide +kernel
theorem d_Mod_read_23 : decode b_Mod_read 23 = .ok (.ifCond .ne 7, 3) := by decide +kernel
theorem d_Mod_read_26 : decode b_Mod_read 26 = .ok (.iconst 1, 1) := by decide +kernel
theorem d_Mod_read_27 : decode b_Mod_read 27 = .ok (.goto 4, 3) := by decide +kernel
theorem d_Mod_read_30 : decode b_Mod_read 30 = .ok (.iconst 0, 1) := by decide +kernel
theorem d_Mod_read_31 : decode b_Mod_read 31 = .ok (.putfield 32, 3) := by decide +kernel
theorem d_Mod_read_34 : decode b_Mod_read 34 = .ok (.aload_n 0, 1) := by decide +kernel
theorem d_Mod_read_35 : decode b_Mod_read 35 = .ok (.getfield 32, 3) := by decide +kernel
theorem d_Mod_read_38 : decode b_Mod_read 38 = .ok (.ifCond .le 5, 3) := by decide +kernel
theorem d_Mod_read_41 : decode b_Mod_read 41 = .ok (.iconst 0, 1) := by decide +kernel
theorem d_Mod_read_42 : decode b_Mod_read 42 = .ok (.ireturn, 1) := by decide +kernel
theorem d_Mod_read_43 : decode b_Mod_read 43 = .ok (.aload_n 0, 1) := by decide +kernel
theorem d_Mod_read_44 : decode b_Mod_read 44 = .ok (.iload_n 1, 1) := by decide +kernel
theorem d_Mod_read_45 : decode b_Mod_read 45 = .ok (.ifCond .ne 7, 3) := by decide +kernel
theorem d_Mod_read_48 : decode b_Mod_read 48 = .ok (.iconst 1, 1) := by decide +kernel
theorem d_Mod_read_49 : decode b_Mod_read 49 = .ok (.goto 4, 3) := by decide +kernel
theorem d_Mod_read_52 : decode b_Mod_read 52 = .ok (.iconst 0, 1) := by decide +kernel
theorem d_Mod_read_53 : decode b_Mod_read 53 = .ok (.invokevirtual 237, 3) := by decide +kernel
theorem d_Mod_read_56 : decode b_Mod_read 56 = .ok (.aload_n 0, 1) := by decide +kernel
theorem d_Mod_read_57 : decode b_Mod_read 57 = .ok (.dup, 1) := by decide +kernel
theorem d_Mod_read_58 : decode b_Mod_read 58 = .ok (.getfield 240, 3) := by decide +kernel
theorem d_Mod_read_61 : decode b_Mod_read 61 = .ok (.iconst 1, 1) := by decide +kernel
theorem d_Mod_read_62 : decode b_Mod_read 62 = .ok (.iadd, 1) := by decide +kernel
theorem d_Mod_read_63 : decode b_Mod_read 63 = .ok (.putfield 240, 3) := by decide +kernel
theorem d_Mod_read_66 : decode b_Mod_read 66 = .ok (.aload_n 0, 1) := by decide +kernel
theorem d_Mod_read_67 : decode b_Mod_read 67 = .ok (.getfield 240, 3) := by decide +kernel
theorem d_Mod_read_70 : decode b_Mod_read 70 = .ok (.ireturn, 1) := by decide +kernel
theorem d_Mod_readText_0 : decode b_Mod_readText 0 = .ok (.aload_n 0, 1) := by decide +kernel
theorem d_Mod_readText_1 : decode b_Mod_readText 1 = .ok (.iconst 0, 1) := by decide +kernel
theorem d_Mod_readText_2 : decode b_Mod_readText 2 = .ok (.putfield 40, 3) := by decide +kernel
theorem d_Mod_readText_5 : decode b_Mod_readText 5 = .ok (.aload_n 0, 1) := by decide +kernel
theorem d_Mod_readText_6 : decode b_Mod_readText 6 = .ok (.iconst 0, 1) := by decide +kernel
theorem d_Mod_readText_7 : decode b_Mod_readText 7 = .ok (.putfield 43, 3) := by decide +kernel
theorem d_Mod_readText_10 : decode b_Mod_readText 10 = .ok (.aload_n 0, 1) := by decide +kernel
theorem d_Mod_readText_11 : decode b_Mod_readText 11 = .ok (.iconst 0, 1) := by decide +kernel
theorem d_Mod_readText_12 : decode b_Mod_readText 12 = .ok (.putfield 86, 3) := by decide +kernel
theorem d_Mod_readText_15 : decode b_Mod_readText 15 = .ok (.aload_n 0, 1) := by decide +kernel
theorem d_Mod_readText_16 : decode b_Mod_readText 16 = .ok (.iconst 0, 1) := by decide +kernel
theorem d_Mod_readText_17 : decode b_Mod_readText 17 = .ok (.putfield 99, 3) := by decide +kernel
theorem d_Mod_readText_20 : decode b_Mod_readText 20 = .ok (.aload_n 0, 1) := by decide +kernel
theorem d_Mod_readText_21 : decode b_Mod_readText 21 = .ok (.iconst 0, 1) := by decide +kernel
theorem d_Mod_readText_22 : decode b_Mod_readText 22 = .ok (.putfield 112, 3) := by decide +kernel
theorem d_Mod_readText_25 : decode b_Mod_readText 25 = .ok (.aload_n 0, 1) := by decide +kernel
theorem d_Mod_readText_26 : decode b_Mod_readText 26 = .ok (.iconst (-1), 1) := by decide +kernel
theorem d_Mod_readText_27 : decode b_Mod_readText 27 = .ok (.putfield 145, 3) := by decide +kernel
theorem d_Mod_readText_30 : decode b_Mod_readText 30 = .ok (.aload_n 0, 1) := by decide +kernel
theorem d_Mod_readText_31 : decode b_Mod_readText 31 = .ok (.iconst (-1), 1) := by decide +kernel
theorem d_Mod_readText_32 : decode b_Mod_readText 32 = .ok (.putfield 150, 3) := by decide +kernel
theorem d_Mod_readText_35 : decode b_Mod_readText 35 = .ok (.aload_n 0, 1) := by decide +kernel
theorem d_Mod_readText_36 : decode b_Mod_readText 36 = .ok (.iconst (-1), 1) := by decide +kernel
theorem d_Mod_readText_37 : decode b_Mod_readText 37 = .ok (.putfield 155, 3) := by decide +kernel
theorem d_Mod_readText_40 : decode b_Mod_readText 40 = .ok (.aload_n 0, 1) := by decide +kernel
theorem d_Mod_readText_41 : decode b_Mod_readText 41 = .ok (.iconst 0, 1) := by decide +kernel
theorem d_Mod_readText_42 : decode b_Mod_readText 42 = .ok (.putfield 109, 3) := by decide +kernel
theorem d_Mod_readText_45 : decode b_Mod_readText 45 = .ok (.aload_n 0, 1) := by decide +kernel
theorem d_Mod_readText_46 : decode b_Mod_readText 46 = .ok (.iconst 0, 1) := by decide +kernel
theorem d_Mod_readText_47 : decode b_Mod_readText 47 = .ok (.putfield 135, 3) := by decide +kernel
theorem d_Mod_readText_50 : decode b_Mod_readText 50 = .ok (.aload_n 0, 1) := by decide +kernel
theorem d_Mod_readText_51 : decode b_Mod_readText 51 = .ok (.iconst 0, 1) := by decide +kernel
theorem d_Mod_readText_52 : decode b_Mod_readText 52 = .ok (.putfield 140, 3) := by decide +kernel
theorem d_Mod_readText_55 : decode b_Mod_readText 55 = .ok (.aload_n 0, 1) := by decide +kernel
theorem d_Mod_readText_56 : decode b_Mod_readText 56 = .ok (.iconst 0, 1) := by decide +kernel
theorem d_Mod_readText_57 : decode b_Mod_readText 57 = .ok (.putfield 182, 3) := by decide +kernel
theorem d_Mod_readText_60 : decode b_Mod_readText 60 = .ok (.aload_n 0, 1) := by decide +kernel
theorem d_Mod_readText_61 : decode b_Mod_readText 61 = .ok (.iconst 0, 1) := by decide +kernel
theorem d_Mod_readText_62 : decode b_Mod_readText 62 = .ok (.putfield 185, 3) := by decide +kernel
theorem d_Mod_readText_65 : decode b_Mod_readText 65 = .ok (.aload_n 0, 1) := by decide +kernel
theorem d_Mod_readText_66 : decode b_Mod_readText 66 = .ok (.iconst 0, 1) := by decide +kernel
theorem d_Mod_readText_67 : decode b_Mod_readText 67 = .ok (.putfield 179, 3) := by decide +kernel
theorem d_Mod_readText_70 : decode b_Mod_readText 70 = .ok (.aload_n 0, 1) := by decide +kernel
theorem d_Mod_readText_71 : decode b_Mod_readText 71 = .ok (.iconst (-1), 1) := by decide +kernel
theorem d_Mod_readText_72 : decode b_Mod_readText 72 = .ok (.putfield 166, 3) := by decide +kernel
theorem d_Mod_readText_75 : decode b_Mod_readText 75 = .ok (.aload_n 0, 1) := by decide +kernel
theorem d_Mod_readText_76 : decode b_Mod_readText 76 = .ok (.iconst (-1), 1) := by decide +kernel
theorem d_Mod_readText_77 : decode b_Mod_readText 77 = .ok (.putfield 171, 3) := by decide +kernel
theorem d_Mod_readText_80 : decode b_Mod_readText 80 = .ok (.aload_n 0, 1) := by decide +kernel
theorem d_Mod_readText_81 : decode b_Mod_readText 81 = .ok (.iconst (-1), 1) := by decide +kernel
theorem d_Mod_readText_82 : decode b_Mod_readText 82 = .ok (.putfield 176, 3) := by decide +kernel
theorem d_Mod_readText_85 : decode b_Mod_readText 85 = .ok (.aload_n 0, 1) := by decide +kernel
theorem d_Mod_readText_86 : decode b_Mod_readText 86 = .ok (.iconst 0, 1) := by decide +kernel
theorem d_Mod_readText_87 : decode b_Mod_readText 87 = .ok (.putfield 160, 3) := by decide +kernel
theorem d_Mod_readText_90 : decode b_Mod_readText 90 = .ok (.aload_n 0, 1) := by decide +kernel
theorem d_Mod_readText_91 : decode b_Mod_readText 91 = .ok (.iconst 0, 1) := by decide +kernel
theorem d_Mod_readText_92 : decode b_Mod_readText 92 = .ok (.putfield 163, 3) := by decide +kernel
theorem d_Mod_readText_95 : decode b_Mod_readText 95 = .ok (.iload_n 1, 1) := by decide +kernel
theorem d_Mod_readText_96 : decode b_Mod_readText 96 = .ok (.ifCond .eq 27, 3) := by decide +kernel
theorem d_Mod_readText_99 : decode b_Mod_readText 99 = .ok (.aload_n 0, 1) := by decide +kernel
theorem d_Mod_readText_100 : decode b_Mod_readText 100 = .ok (.invokevirtual 50, 3) := by decide +kernel
theorem d_Mod_readText_103 : decode b_Mod_readText 103 = .ok (.bipush 72, 2) := by decide +kernel
theorem d_Mod_readText_105 : decode b_Mod_readText 105 = .ok (.if_icmp .ne 18, 3) := by decide +kernel
theorem d_Mod_readText_108 : decode b_Mod_readText 108 = .ok (.aload_n 0, 1) := by decide +kernel
theorem d_Mod_readText_109 : decode b_Mod_readText 109 = .ok (.ldc 187, 2) := by decide +kernel
theorem d_Mod_readText_111 : decode b_Mod_readText 111 = .ok (.invokevirtual 95, 3) := by decide +kernel
theorem d_Mod_readText_114 : decode b_Mod_readText 114 = .ok (.pop, 1) := by decide +kernel
theorem d_Mod_readText_115 : decode b_Mod_readText 115 = .ok (.aload_n 0, 1) := by decide +kernel
theorem d_Mod_readText_116 : decode b_Mod_readText 116 = .ok (.iconst 1, 1) := by decide +kernel
theorem d_Mod_readText_117 : decode b_Mod_readText 117 = .ok (.putfield 182, 3) := by decide +kernel
theorem d_Mod_readText_120 : decode b_Mod_readText 120 = .ok (.goto 19, 3) := by decide +kernel
theorem d_Mod_readText_123 : decode b_Mod_readText 123 = .ok (.aload_n 0, 1) := by decide +kernel
theorem d_Mod_readText_124 : decode b_Mod_readText 124 = .ok (.iload_n 1, 1) := by decide +kernel
theorem d_Mod_readText_125 : decode b_Mod_readText 125 = .ok (.ifCond .eq 8, 3) := by decide +kernel
theorem d_Mod_readText_128 : decode b_Mod_readText 128 = .ok (.ldc 189, 2) := by decide +kernel
theorem d_Mod_readText_130 : decode b_Mod_readText 130 = .ok (.goto 5, 3) := by decide +kernel
theorem d_Mod_readText_133 : decode b_Mod_readText 133 = .ok (.ldc 191, 2) := by decide +kernel
theorem d_Mod_readText_135 : decode b_Mod_readText 135 = .ok (.invokevirtual 95, 3) := by decide +kernel
theorem d_Mod_readText_138 : decode b_Mod_readText 138 = .ok (.pop, 1) := by decide +kernel
theorem d_Mod_readText_139 : decode b_Mod_readText 139 = .ok (.aload_n 0, 1) := by decide +kernel
theorem d_Mod_readText_140 : decode b_Mod_readText 140 = .ok (.iload_n 1, 1) := by decide +kernel
theorem d_Mod_readText_141 : decode b_Mod_readText 141 = .ok (.invokevirtual 193, 3) := by decide +kernel
theorem d_Mod_readText_144 : decode b_Mod_readText 144 = .ok (.aload_n 0, 1) := by decide +kernel
theorem d_Mod_readText_145 : decode b_Mod_readText 145 = .ok (.getfield 43, 3) := by decide +kernel
theorem d_Mod_readText_148 : decode b_Mod_readText 148 = .ok (.ifCond .ne 20, 3) := by decide +kernel
theorem d_Mod_readText_151 : decode b_Mod_readText 151 = .ok (.aload_n 0, 1) := by decide +kernel
theorem d_Mod_readText_152 : decode b_Mod_readText 152 = .ok (.invokevirtual 50, 3) := by decide +kernel
theorem d_Mod_readText_155 : decode b_Mod_readText 155 = .ok (.bipush 10, 2) := by decide +kernel
theorem d_Mod_readText_157 : decode b_Mod_readText 157 = .ok (.if_icmp .eq 11, 3) := by decide +kernel
theorem d_Mod_readText_160 : decode b_Mod_readText 160 = .ok (.aload_n 0, 1) := by decide +kernel
theorem d_Mod_readText_161 : decode b_Mod_readText 161 = .ok (.iload_n 1, 1) := by decide +kernel
theorem d_Mod_readText_162 : decode b_Mod_readText 162 = .ok (.invokevirtual 197, 3) := by decide +kernel
theorem d_Mod_readText_165 : decode b_Mod_readText 165 = .ok (.goto (-21), 3) := by decide +kernel
theorem d_Mod_readText_168 : decode b_Mod_readText 168 = .ok (.aload_n 0, 1) := by decide +kernel
theorem d_Mod_readText_169 : decode b_Mod_readText 169 = .ok (.bipush 10, 2) := by decide +kernel
theorem d_Mod_readText_171 : decode b_Mod_readText 171 = .ok (.invokevirtual 67, 3) := by decide +kernel
theorem d_Mod_readText_174 : decode b_Mod_readText 174 = .ok (.pop, 1) := by decide +kernel
theorem d_Mod_readText_175 : decode b_Mod_readText 175 = .ok (.aload_n 0, 1) := by decide +kernel
theorem d_Mod_readText_176 : decode b_Mod_readText 176 = .ok (.getfield 43, 3) := by decide +kernel
theorem d_Mod_readText_179 : decode b_Mod_readText 179 = .ok (.ifCond .ne 23, 3) := by decide +kernel
theorem d_Mod_readText_182 : decode b_Mod_readText 182 = .ok (.aload_n 0, 1) := by decide +kernel
theorem d_Mod_readText_183 : decode b_Mod_readText 183 = .ok (.getfield 40, 3) := by decide +kernel
theorem d_Mod_readText_186 : decode b_Mod_readText 186 = .ok (.aload_n 0, 1) := by decide +kernel
theorem d_Mod_readText_187 : decode b_Mod_readText 187 = .ok (.getfield 35, 3) := by decide +kernel
theorem d_Mod_readText_190 : decode b_Mod_readText 190 = .ok (.if_icmp .ge 12, 3) := by decide +kernel
theorem d_Mod_readText_193 : decode b_Mod_readText 193 = .ok (.aload_n 0, 1) := by decide +kernel
theorem d_Mod_readText_194 : decode b_Mod_readText 194 = .ok (.aload_n 0, 1) := by decide +kernel
theorem d_Mod_readText_195 : decode b_Mod_readText 195 = .ok (.getfield 40, 3) := by decide +kernel
theorem d_Mod_readText_198 : decode b_Mod_readText 198 = .ok (.invokevirtual 54, 3) := by decide +kernel
theorem d_Mod_readText_201 : decode b_Mod_readText 201 = .ok (.pop, 1) := by decide +kernel
theorem d_Mod_readText_202 : decode b_Mod_readText 202 = .ok (.aload_n 0, 1) := by decide +kernel
theorem d_Mod_readText_203 : decode b_Mod_readText 203 = .ok (.iconst 0, 1) := by decide +kernel
theorem d_Mod_readText_204 : decode b_Mod_readText 204 = .ok (.putfield 35, 3) := by decide +kernel
theorem d_Mod_readText_207 : decode b_Mod_readText 207 = .ok (.aload_n 0, 1) := by decide +kernel
theorem d_Mod_readText_208 : decode b_Mod_readText 208 = .ok (.aload_n 0, 1) := by decide +kernel
theorem d_Mod_readText_209 : decode b_Mod_readText 209 = .ok (.getfield 43, 3) := by decide +kernel
theorem d_Mod_readText_212 : decode b_Mod_readText 212 = .ok (.ifCond .eq 10, 3) := by decide +kernel
theorem d_Mod_readText_215 : decode b_Mod_readText 215 = .ok (.aload_n 0, 1) := by decide +kernel
theorem d_Mod_readText_216 : decode b_Mod_readText 216 = .ok (.getfield 47, 3) := by decide +kernel
theorem d_Mod_readText_219 : decode b_Mod_readText 219 = .ok (.goto 4, 3) := by decide +kernel
theorem d_Mod_readText_222 : decode b_Mod_readText 222 = .ok (.iconst (-1), 1) := by decide +kernel
theorem d_Mod_readText_223 : decode b_Mod_readText 223 = .ok (.putfield 13, 3) := by decide +kernel
theorem d_Mod_readText_226 : decode b_Mod_readText 226 = .ok (.aload_n 0, 1) := by decide +kernel
theorem d_Mod_readText_227 : decode b_Mod_readText 227 = .ok (.getfield 43, 3) := by decide +kernel
theorem d_Mod_readText_230 : decode b_Mod_readText 230 = .ok (.ifCond .ne 7, 3) := by decide +kernel
theorem d_Mod_readText_233 : decode b_Mod_readText 233 = .ok (.iconst 1, 1) := by decide +kernel
theorem d_Mod_readText_234 : decode b_Mod_readText 234 = .ok (.goto 4, 3) := by decide +kernel
theorem d_Mod_readText_237 : decode b_Mod_readText 237 = .ok (.iconst 0, 1) := by decide +kernel
theorem d_Mod_readText_238 : decode b_Mod_readText 238 = .ok (.ireturn, 1) := by decide +kernel
theorem d_Mod_see_0 : decode b_Mod_see 0 = .ok (.aload_n 0, 1) := by decide +kernel
theorem d_Mod_see_1 : decode b_Mod_see 1 = .ok (.getfield 40, 3) := by decide +kernel
theorem d_Mod_see_4 : decode b_Mod_see 4 = .ok (.aload_n 0, 1) := by decide +kernel
theorem d_Mod_see_5 : decode b_Mod_see 5 = .ok (.getfield 35, 3) := by decide +kernel
theorem d_Mod_see_8 : decode b_Mod_see 8 = .ok (.if_icmp .ge 15, 3) := by decide +kernel
theorem d_Mod_see_11 : decode b_Mod_see 11 = .ok (.aload_n 0, 1) := by decide +kernel
theorem d_Mod_see_12 : decode b_Mod_see 12 = .ok (.getfield 7, 3) := by decide +kernel
theorem d_Mod_see_15 : decode b_Mod_see 15 = .ok (.aload_n 0, 1) := by decide +kernel
theorem d_Mod_see_16 : decode b_Mod_see 16 = .ok (.getfield 40, 3) := by decide +kernel
theorem d_Mod_see_19 : decode b_Mod_see 19 = .ok (.iaload, 1) := by decide +kernel
theorem d_Mod_see_20 : decode b_Mod_see 20 = .ok (.goto 4, 3) := by decide +kernel
theorem d_Mod_see_23 : decode b_Mod_see 23 = .ok (.iconst (-1), 1) := by decide +kernel
theorem d_Mod_see_24 : decode b_Mod_see 24 = .ok (.ireturn, 1) := by decide +kernel
theorem d_Mod_wrong_0 : decode b_Mod_wrong 0 = .ok (.aload_n 0, 1) := by decide +kernel
theorem d_Mod_wrong_1 : decode b_Mod_wrong 1 = .ok (.getfield 43, 3) := by decide +kernel
theorem d_Mod_wrong_4 : decode b_Mod_wrong 4 = .ok (.ifCond .ne 13, 3) := by decide +kernel
theorem d_Mod_wrong_7 : decode b_Mod_wrong 7 = .ok (.aload_n 0, 1) := by decide +kernel
theorem d_Mod_wrong_8 : decode b_Mod_wrong 8 = .ok (.iconst 1, 1) := by decide +kernel
theorem d_Mod_wrong_9 : decode b_Mod_wrong 9 = .ok (.putfield 43, 3) := by decide +kernel
theorem d_Mod_wrong_12 : decode b_Mod_wrong 12 = .ok (.aload_n 0, 1) := by decide +kernel
theorem d_Mod_wrong_13 : decode b_Mod_wrong 13 = .ok (.iload_n 1, 1) := by decide +kernel
theorem d_Mod_wrong_14 : decode b_Mod_wrong 14 = .ok (.putfield 47, 3) := by decide +kernel
theorem d_Mod_wrong_17 : decode b_Mod_wrong 17 = .ok (.iconst 0, 1) := by decide +kernel
theorem d_Mod_wrong_18 : decode b_Mod_wrong 18 = .ok (.ireturn, 1) := by decide +kernel
theorem d_Mod_target_0 : decode b_Mod_target 0 = .ok (.aload_n 0, 1) := by decide +kernel
theorem d_Mod_target_1 : decode b_Mod_target 1 = .ok (.bipush 32, 2) := by decide +kernel
theorem d_Mod_target_3 : decode b_Mod_target 3 = .ok (.invokevirtual 67, 3) := by decide +kernel
theorem d_Mod_target_6 : decode b_Mod_target 6 = .ok (.pop, 1) := by decide +kernel
theorem d_Mod_target_7 : decode b_Mod_target 7 = .ok (.aload_n 0, 1) := by decide +kernel
theorem d_Mod_target_8 : decode b_Mod_target 8 = .ok (.bipush 47, 2) := by decide +kernel
theorem d_Mod_target_10 : decode b_Mod_target 10 = .ok (.invokevirtual 67, 3) := by decide +kernel
theorem d_Mod_target_13 : decode b_Mod_target 13 = .ok (.pop, 1) := by decide +kernel
theorem d_Mod_target_14 : decode b_Mod_target 14 = .ok (.aload_n 0, 1) := by decide +kernel
theorem d_Mod_target_15 : decode b_Mod_target 15 = .ok (.aload_n 0, 1) := by decide +kernel
theorem d_Mod_target_16 : decode b_Mod_target 16 = .ok (.bipush 31, 2) := by decide +kernel
theorem d_Mod_target_18 : decode b_Mod_target 18 = .ok (.invokevirtual 73, 3) := by decide +kernel
theorem d_Mod_target_21 : decode b_Mod_target 21 = .ok (.putfield 77, 3) := by decide +kernel
theorem d_Mod_target_24 : decode b_Mod_target 24 = .ok (.aload_n 0, 1) := by decide +kernel
theorem d_Mod_target_25 : decode b_Mod_target 25 = .ok (.iconst 0, 1) := by decide +kernel
theorem d_Mod_target_26 : decode b_Mod_target 26 = .ok (.putfield 80, 3) := by decide +kernel
theorem d_Mod_target_29 : decode b_Mod_target 29 = .ok (.aload_n 0, 1) := by decide +kernel
theorem d_Mod_target_30 : decode b_Mod_target 30 = .ok (.getfield 43, 3) := by decide +kernel
theorem d_Mod_target_33 : decode b_Mod_target 33 = .ok (.ifCond .ne 35, 3) := by decide +kernel
theorem d_Mod_target_36 : decode b_Mod_target 36 = .ok (.iload_n 1, 1) := by decide +kernel
theorem d_Mod_target_37 : decode b_Mod_target 37 = .ok (.ifCond .eq 31, 3) := by decide +kernel
theorem d_Mod_target_40 : decode b_Mod_target 40 = .ok (.aload_n 0, 1) := by decide +kernel
theorem d_Mod_target_41 : decode b_Mod_target 41 = .ok (.invokevirtual 50, 3) := by decide +kernel
theorem d_Mod_target_44 : decode b_Mod_target 44 = .ok (.bipush 47, 2) := by decide +kernel
theorem d_Mod_target_46 : decode b_Mod_target 46 = .ok (.if_icmp .ne 22, 3) := by decide +kernel
theorem d_Mod_target_49 : decode b_Mod_target 49 = .ok (.aload_n 0, 1) := by decide +kernel
theorem d_Mod_target_50 : decode b_Mod_target 50 = .ok (.dup, 1) := by decide +kernel
theorem d_Mod_target_51 : decode b_Mod_target 51 = .ok (.getfield 40, 3) := by decide +kernel
theorem d_Mod_target_54 : decode b_Mod_target 54 = .ok (.iconst 1, 1) := by decide +kernel
theorem d_Mod_target_55 : decode b_Mod_target 55 = .ok (.iadd, 1) := by decide +kernel
theorem d_Mod_target_56 : decode b_Mod_target 56 = .ok (.putfield 40, 3) := by decide +kernel
theorem d_Mod_target_59 : decode b_Mod_target 59 = .ok (.aload_n 0, 1) := by decide +kernel
theorem d_Mod_target_60 : decode b_Mod_target 60 = .ok (.aload_n 0, 1) := by decide +kernel
theorem d_Mod_target_61 : decode b_Mod_target 61 = .ok (.iconst 3, 1) := by decide +kernel
theorem d_Mod_target_62 : decode b_Mod_target 62 = .ok (.invokevirtual 73, 3) := by decide +kernel
theorem d_Mod_target_65 : decode b_Mod_target 65 = .ok (.putfield 80, 3) := by decide +kernel
theorem d_Mod_target_68 : decode b_Mod_target 68 = .ok (.aload_n 0, 1) := by decide +kernel
theorem d_Mod_target_69 : decode b_Mod_target 69 = .ok (.bipush 10, 2) := by decide +kernel
theorem d_Mod_target_71 : decode b_Mod_target 71 = .ok (.invokevirtual 67, 3) := by decide +kernel
theorem d_Mod_target_74 : decode b_Mod_target 74 = .ok (.pop, 1) := by decide +kernel
theorem d_Mod_target_75 : decode b_Mod_target 75 = .ok (.return_, 1) := by decide +kernel
theorem d_Mod_number_0 : decode b_Mod_number 0 = .ok (.aload_n 0, 1) := by decide +kernel
theorem d_Mod_number_1 : decode b_Mod_number 1 = .ok (.getfield 43, 3) := by decide +kernel
theorem d_Mod_number_4 : decode b_Mod_number 4 = .ok (.ifCond .eq 5, 3) := by decide +kernel
theorem d_Mod_number_7 : decode b_Mod_number 7 = .ok (.iconst (-1), 1) := by decide +kernel
theorem d_Mod_number_8 : decode b_Mod_number 8 = .ok (.ireturn, 1) := by decide +kernel
theorem d_Mod_number_9 : decode b_Mod_number 9 = .ok (.aload_n 0, 1) := by decide +kernel
theorem d_Mod_number_10 : decode b_Mod_number 10 = .ok (.getfield 40, 3) := by decide +kernel
theorem d_Mod_number_13 : decode b_Mod_number 13 = .ok (.istore_n 2, 1) := by decide +kernel
theorem d_Mod_number_14 : decode b_Mod_number 14 = .ok (.iconst 0, 1) := by decide +kernel
theorem d_Mod_number_15 : decode b_Mod_number 15 = .ok (.istore_n 3, 1) := by decide +kernel
theorem d_Mod_number_16 : decode b_Mod_number 16 = .ok (.aload_n 0, 1) := by decide +kernel
theorem d_Mod_number_17 : decode b_Mod_number 17 = .ok (.invokevirtual 50, 3) := by decide +kernel
theorem d_Mod_number_20 : decode b_Mod_number 20 = .ok (.invokestatic 70, 3) := by decide +kernel
theorem d_Mod_number_23 : decode b_Mod_number 23 = .ok (.ifCond .eq 39, 3) := by decide +kernel
theorem d_Mod_number_26 : decode b_Mod_number 26 = .ok (.aload_n 0, 1) := by decide +kernel
theorem d_Mod_number_27 : decode b_Mod_number 27 = .ok (.getfield 40, 3) := by decide +kernel
theorem d_Mod_number_30 : decode b_Mod_number 30 = .ok (.iload_n 2, 1) := by decide +kernel
theorem d_Mod_number_31 : decode b_Mod_number 31 = .ok (.isub, 1) := by decide +kernel
theorem d_Mod_number_32 : decode b_Mod_number 32 = .ok (.iconst 5, 1) := by decide +kernel
theorem d_Mod_number_33 : decode b_Mod_number 33 = .ok (.if_icmp .ge 29, 3) := by decide +kernel
theorem d_Mod_number_36 : decode b_Mod_number 36 = .ok (.bipush 10, 2) := by decide +kernel
theorem d_Mod_number_38 : decode b_Mod_number 38 = .ok (.iload_n 3, 1) := by decide +kernel
theorem d_Mod_number_39 : decode b_Mod_number 39 = .ok (.imul, 1) := by decide +kernel
theorem d_Mod_number_40 : decode b_Mod_number 40 = .ok (.aload_n 0, 1) := by decide +kernel
theorem d_Mod_number_41 : decode b_Mod_number 41 = .ok (.invokevirtual 50, 3) := by decide +kernel
theorem d_Mod_number_44 : decode b_Mod_number 44 = .ok (.iadd, 1) := by decide +kernel
theorem d_Mod_number_45 : decode b_Mod_number 45 = .ok (.bipush 48, 2) := by decide +kernel
theorem d_Mod_number_47 : decode b_Mod_number 47 = .ok (.isub, 1) := by decide +kernel
theorem d_Mod_number_48 : decode b_Mod_number 48 = .ok (.istore_n 3, 1) := by decide +kernel
theorem d_Mod_number_49 : decode b_Mod_number 49 = .ok (.aload_n 0, 1) := by decide +kernel
theorem d_Mod_number_50 : decode b_Mod_number 50 = .ok (.dup, 1) := by decide +kernel
theorem d_Mod_number_51 : decode b_Mod_number 51 = .ok (.getfield 40, 3) := by decide +kernel
theorem d_Mod_number_54 : decode b_Mod_number 54 = .ok (.iconst 1, 1) := by decide +kernel
theorem d_Mod_number_55 : decode b_Mod_number 55 = .ok (.iadd, 1) := by decide +kernel
theorem d_Mod_number_56 : decode b_Mod_number 56 = .ok (.putfield 40, 3) := by decide +kernel
theorem d_Mod_number_59 : decode b_Mod_number 59 = .ok (.goto (-43), 3) := by decide +kernel
theorem d_Mod_number_62 : decode b_Mod_number 62 = .ok (.aload_n 0, 1) := by decide +kernel
theorem d_Mod_number_63 : decode b_Mod_number 63 = .ok (.getfield 40, 3) := by decide +kernel
theorem d_Mod_number_66 : decode b_Mod_number 66 = .ok (.iload_n 2, 1) := by decide +kernel
theorem d_Mod_number_67 : decode b_Mod_number 67 = .ok (.if_icmp .ne 12, 3) := by decide +kernel
theorem d_Mod_number_70 : decode b_Mod_number 70 = .ok (.aload_n 0, 1) := by decide +kernel
theorem d_Mod_number_71 : decode b_Mod_number 71 = .ok (.aload_n 0, 1) := by decide +kernel
theorem d_Mod_number_72 : decode b_Mod_number 72 = .ok (.getfield 40, 3) := by decide +kernel
theorem d_Mod_number_75 : decode b_Mod_number 75 = .ok (.invokevirtual 54, 3) := by decide +kernel
theorem d_Mod_number_78 : decode b_Mod_number 78 = .ok (.pop, 1) := by decide +kernel
theorem d_Mod_number_79 : decode b_Mod_number 79 = .ok (.iload_n 3, 1) := by decide +kernel
theorem d_Mod_number_80 : decode b_Mod_number 80 = .ok (.iload_n 1, 1) := by decide +kernel
theorem d_Mod_number_81 : decode b_Mod_number 81 = .ok (.if_icmp .le 9, 3) := by decide +kernel
theorem d_Mod_number_84 : decode b_Mod_number 84 = .ok (.aload_n 0, 1) := by decide +kernel
theorem d_Mod_number_85 : decode b_Mod_number 85 = .ok (.iload_n 2, 1) := by decide +kernel
theorem d_Mod_number_86 : decode b_Mod_number 86 = .ok (.invokevirtual 54, 3) := by decide +kernel
theorem d_Mod_number_89 : decode b_Mod_number 89 = .ok (.pop, 1) := by decide +kernel
theorem d_Mod_number_90 : decode b_Mod_number 90 = .ok (.aload_n 0, 1) := by decide +kernel
theorem d_Mod_number_91 : decode b_Mod_number 91 = .ok (.getfield 43, 3) := by decide +kernel
theorem d_Mod_number_94 : decode b_Mod_number 94 = .ok (.ifCond .eq 7, 3) := by decide +kernel
theorem d_Mod_number_97 : decode b_Mod_number 97 = .ok (.iconst (-1), 1) := by decide +kernel
theorem d_Mod_number_98 : decode b_Mod_number 98 = .ok (.goto 4, 3) := by decide +kernel
theorem d_Mod_number_101 : decode b_Mod_number 101 = .ok (.iload_n 3, 1) := by decide +kernel
theorem d_Mod_number_102 : decode b_Mod_number 102 = .ok (.ireturn, 1) := by decide +kernel
theorem d_Mod_name_0 : decode b_Mod_name 0 = .ok (.aload_n 0, 1) := by decide +kernel
theorem d_Mod_name_1 : decode b_Mod_name 1 = .ok (.getfield 40, 3) := by decide +kernel
theorem d_Mod_name_4 : decode b_Mod_name 4 = .ok (.istore_n 1, 1) := by decide +kernel
theorem d_Mod_name_5 : decode b_Mod_name 5 = .ok (.aload_n 0, 1) := by decide +kernel
theorem d_Mod_name_6 : decode b_Mod_name 6 = .ok (.invokevirtual 50, 3) := by decide +kernel
theorem d_Mod_name_9 : decode b_Mod_name 9 = .ok (.invokestatic 83, 3) := by decide +kernel
theorem d_Mod_name_12 : decode b_Mod_name 12 = .ok (.ifCond .eq 16, 3) := by decide +kernel
theorem d_Mod_name_15 : decode b_Mod_name 15 = .ok (.aload_n 0, 1) := by decide +kernel
theorem d_Mod_name_16 : decode b_Mod_name 16 = .ok (.dup, 1) := by decide +kernel
theorem d_Mod_name_17 : decode b_Mod_name 17 = .ok (.getfield 40, 3) := by decide +kernel
theorem d_Mod_name_20 : decode b_Mod_name 20 = .ok (.iconst 1, 1) := by decide +kernel
theorem d_Mod_name_21 : decode b_Mod_name 21 = .ok (.iadd, 1) := by decide +kernel
theorem d_Mod_name_22 : decode b_Mod_name 22 = .ok (.putfield 40, 3) := by decide +kernel
theorem d_Mod_name_25 : decode b_Mod_name 25 = .ok (.goto (-20), 3) := by decide +kernel
theorem d_Mod_name_28 : decode b_Mod_name 28 = .ok (.aload_n 0, 1) := by decide +kernel
theorem d_Mod_name_29 : decode b_Mod_name 29 = .ok (.getfield 40, 3) := by decide +kernel
theorem d_Mod_name_32 : decode b_Mod_name 32 = .ok (.iload_n 1, 1) := by decide +kernel
theorem d_Mod_name_33 : decode b_Mod_name 33 = .ok (.if_icmp .ne 12, 3) := by decide +kernel
theorem d_Mod_name_36 : decode b_Mod_name 36 = .ok (.aload_n 0, 1) := by decide +kernel
theorem d_Mod_name_37 : decode b_Mod_name 37 = .ok (.aload_n 0, 1) := by decide +kernel
theorem d_Mod_name_38 : decode b_Mod_name 38 = .ok (.getfield 40, 3) := by decide +kernel
theorem d_Mod_name_41 : decode b_Mod_name 41 = .ok (.invokevirtual 54, 3) := by decide +kernel
theorem d_Mod_name_44 : decode b_Mod_name 44 = .ok (.ireturn, 1) := by decide +kernel
theorem d_Mod_name_45 : decode b_Mod_name 45 = .ok (.aload_n 0, 1) := by decide +kernel
theorem d_Mod_name_46 : decode b_Mod_name 46 = .ok (.getfield 40, 3) := by decide +kernel
theorem d_Mod_name_49 : decode b_Mod_name 49 = .ok (.iload_n 1, 1) := by decide +kernel
theorem d_Mod_name_50 : decode b_Mod_name 50 = .ok (.isub, 1) := by decide +kernel
theorem d_Mod_name_51 : decode b_Mod_name 51 = .ok (.bipush 20, 2) := by decide +kernel
theorem d_Mod_name_53 : decode b_Mod_name 53 = .ok (.if_icmp .le 9, 3) := by decide +kernel
theorem d_Mod_name_56 : decode b_Mod_name 56 = .ok (.aload_n 0, 1) := by decide +kernel
theorem d_Mod_name_57 : decode b_Mod_name 57 = .ok (.iload_n 1, 1) := by decide +kernel
theorem d_Mod_name_58 : decode b_Mod_name 58 = .ok (.invokevirtual 54, 3) := by decide +kernel
theorem d_Mod_name_61 : decode b_Mod_name 61 = .ok (.ireturn, 1) := by decide +kernel
theorem d_Mod_name_62 : decode b_Mod_name 62 = .ok (.aload_n 0, 1) := by decide +kernel
theorem d_Mod_name_63 : decode b_Mod_name 63 = .ok (.invokevirtual 50, 3) := by decide +kernel
theorem d_Mod_name_66 : decode b_Mod_name 66 = .ok (.bipush 58, 2) := by decide +kernel
theorem d_Mod_name_68 : decode b_Mod_name 68 = .ok (.if_icmp .eq 12, 3) := by decide +kernel
theorem d_Mod_name_71 : decode b_Mod_name 71 = .ok (.aload_n 0, 1) := by decide +kernel
theorem d_Mod_name_72 : decode b_Mod_name 72 = .ok (.aload_n 0, 1) := by decide +kernel
theorem d_Mod_name_73 : decode b_Mod_name 73 = .ok (.getfield 40, 3) := by decide +kernel
theorem d_Mod_name_76 : decode b_Mod_name 76 = .ok (.invokevirtual 54, 3) := by decide +kernel
theorem d_Mod_name_79 : decode b_Mod_name 79 = .ok (.ireturn, 1) := by decide +kernel
theorem d_Mod_name_80 : decode b_Mod_name 80 = .ok (.iconst 0, 1) := by decide +kernel
theorem d_Mod_name_81 : decode b_Mod_name 81 = .ok (.istore_n 2, 1) := by decide +kernel
theorem d_Mod_name_82 : decode b_Mod_name 82 = .ok (.iload_n 2, 1) := by decide +kernel
theorem d_Mod_name_83 : decode b_Mod_name 83 = .ok (.aload_n 0, 1) := by decide +kernel
theorem d_Mod_name_84 : decode b_Mod_name 84 = .ok (.getfield 86, 3) := by decide +kernel
theorem d_Mod_name_87 : decode b_Mod_name 87 = .ok (.if_icmp .ge 39, 3) := by decide +kernel
theorem d_Mod_name_90 : decode b_Mod_name 90 = .ok (.aload_n 0, 1) := by decide +kernel
theorem d_Mod_name_91 : decode b_Mod_name 91 = .ok (.aload_n 0, 1) := by decide +kernel
theorem d_Mod_name_92 : decode b_Mod_name 92 = .ok (.getfield 20, 3) := by decide +kernel
theorem d_Mod_name_95 : decode b_Mod_name 95 = .ok (.iload_n 2, 1) := by decide +kernel
theorem d_Mod_name_96 : decode b_Mod_name 96 = .ok (.iaload, 1) := by decide +kernel
theorem d_Mod_name_97 : decode b_Mod_name 97 = .ok (.aload_n 0, 1) := by decide +kernel
theorem d_Mod_name_98 : decode b_Mod_name 98 = .ok (.getfield 23, 3) := by decide +kernel
theorem d_Mod_name_101 : decode b_Mod_name 101 = .ok (.iload_n 2, 1) := by decide +kernel
theorem d_Mod_name_102 : decode b_Mod_name 102 = .ok (.iaload, 1) := by decide +kernel
theorem d_Mod_name_103 : decode b_Mod_name 103 = .ok (.iload_n 1, 1) := by decide +kernel
theorem d_Mod_name_104 : decode b_Mod_name 104 = .ok (.aload_n 0, 1) := by decide +kernel
theorem d_Mod_name_105 : decode b_Mod_name 105 = .ok (.getfield 40, 3) := by decide +kernel
theorem d_Mod_name_108 : decode b_Mod_name 108 = .ok (.invokevirtual 89, 3) := by decide +kernel
theorem d_Mod_name_111 : decode b_Mod_name 111 = .ok (.ifCond .eq 9, 3) := by decide +kernel
theorem d_Mod_name_114 : decode b_Mod_name 114 = .ok (.aload_n 0, 1) := by decide +kernel
theorem d_Mod_name_115 : decode b_Mod_name 115 = .ok (.iload_n 1, 1) := by decide +kernel
theorem d_Mod_name_116 : decode b_Mod_name 116 = .ok (.invokevirtual 54, 3) := by decide +kernel
theorem d_Mod_name_119 : decode b_Mod_name 119 = .ok (.ireturn, 1) := by decide +kernel
theorem d_Mod_name_120 : decode b_Mod_name 120 = .ok (.iinc 2 1, 3) := by decide +kernel
theorem d_Mod_name_123 : decode b_Mod_name 123 = .ok (.goto (-41), 3) := by decide +kernel
theorem d_Mod_name_126 : decode b_Mod_name 126 = .ok (.aload_n 0, 1) := by decide +kernel
theorem d_Mod_name_127 : decode b_Mod_name 127 = .ok (.getfield 20, 3) := by decide +kernel
theorem d_Mod_name_130 : decode b_Mod_name 130 = .ok (.aload_n 0, 1) := by decide +kernel
theorem d_Mod_name_131 : decode b_Mod_name 131 = .ok (.getfield 86, 3) := by decide +kernel
theorem d_Mod_name_134 : decode b_Mod_name 134 = .ok (.iload_n 1, 1) := by decide +kernel
theorem d_Mod_name_135 : decode b_Mod_name 135 = .ok (.iastore, 1) := by decide +kernel
theorem d_Mod_name_136 : decode b_Mod_name 136 = .ok (.aload_n 0, 1) := by decide +kernel
theorem d_Mod_name_137 : decode b_Mod_name 137 = .ok (.getfield 23, 3) := by decide +kernel
theorem d_Mod_name_140 : decode b_Mod_name 140 = .ok (.aload_n 0, 1) := by decide +kernel
theorem d_Mod_name_141 : decode b_Mod_name 141 = .ok (.getfield 86, 3) := by decide +kernel
theorem d_Mod_name_144 : decode b_Mod_name 144 = .ok (.aload_n 0, 1) := by decide +kernel
theorem d_Mod_name_145 : decode b_Mod_name 145 = .ok (.getfield 40, 3) := by decide +kernel
theorem d_Mod_name_148 : decode b_Mod_name 148 = .ok (.iastore, 1) := by decide +kernel
theorem d_Mod_name_149 : decode b_Mod_name 149 = .ok (.aload_n 0, 1) := by decide +kernel
theorem d_Mod_name_150 : decode b_Mod_name 150 = .ok (.dup, 1) := by decide +kernel
theorem d_Mod_name_151 : decode b_Mod_name 151 = .ok (.getfield 86, 3) := by decide +kernel
theorem d_Mod_name_154 : decode b_Mod_name 154 = .ok (.iconst 1, 1) := by decide +kernel
theorem d_Mod_name_155 : decode b_Mod_name 155 = .ok (.iadd, 1) := by decide +kernel
theorem d_Mod_name_156 : decode b_Mod_name 156 = .ok (.putfield 86, 3) := by decide +kernel
theorem d_Mod_name_159 : decode b_Mod_name 159 = .ok (.aload_n 0, 1) := by decide +kernel
theorem d_Mod_name_160 : decode b_Mod_name 160 = .ok (.dup, 1) := by decide +kernel
theorem d_Mod_name_161 : decode b_Mod_name 161 = .ok (.getfield 40, 3) := by decide +kernel
theorem d_Mod_name_164 : decode b_Mod_name 164 = .ok (.iconst 1, 1) := by decide +kernel
theorem d_Mod_name_165 : decode b_Mod_name 165 = .ok (.iadd, 1) := by decide +kernel
theorem d_Mod_name_166 : decode b_Mod_name 166 = .ok (.putfield 40, 3) := by decide +kernel
theorem d_Mod_name_169 : decode b_Mod_name 169 = .ok (.aload_n 0, 1) := by decide +kernel
theorem d_Mod_name_170 : decode b_Mod_name 170 = .ok (.invokevirtual 50, 3) := by decide +kernel
theorem d_Mod_name_173 : decode b_Mod_name 173 = .ok (.bipush 32, 2) := by decide +kernel
theorem d_Mod_name_175 : decode b_Mod_name 175 = .ok (.if_icmp .ne 13, 3) := by decide +kernel
theorem d_Mod_name_178 : decode b_Mod_name 178 = .ok (.aload_n 0, 1) := by decide +kernel
theorem d_Mod_name_179 : decode b_Mod_name 179 = .ok (.dup, 1) := by decide +kernel
theorem d_Mod_name_180 : decode b_Mod_name 180 = .ok (.getfield 40, 3) := by decide +kernel
theorem d_Mod_name_183 : decode b_Mod_name 183 = .ok (.iconst 1, 1) := by decide +kernel
theorem d_Mod_name_184 : decode b_Mod_name 184 = .ok (.iadd, 1) := by decide +kernel
theorem d_Mod_name_185 : decode b_Mod_name 185 = .ok (.putfield 40, 3) := by decide +kernel
theorem d_Mod_name_188 : decode b_Mod_name 188 = .ok (.iconst 1, 1) := by decide +kernel
theorem d_Mod_name_189 : decode b_Mod_name 189 = .ok (.ireturn, 1) := by decide +kernel
theorem d_Mod_range_0 : decode b_Mod_range 0 = .ok (.aload_n 0, 1) := by decide +kernel
theorem d_Mod_range_1 : decode b_Mod_range 1 = .ok (.ldc 93, 2) := by decide +kernel
theorem d_Mod_range_3 : decode b_Mod_range 3 = .ok (.invokevirtual 95, 3) := by decide +kernel
theorem d_Mod_range_6 : decode b_Mod_range 6 = .ok (.pop, 1) := by decide +kernel
theorem d_Mod_range_7 : decode b_Mod_range 7 = .ok (.aload_n 0, 1) := by decide +kernel
theorem d_Mod_range_8 : decode b_Mod_range 8 = .ok (.getfield 43, 3) := by decide +kernel
theorem d_Mod_range_11 : decode b_Mod_range 11 = .ok (.ifCond .eq 4, 3) := by decide +kernel
theorem d_Mod_range_14 : decode b_Mod_range 14 = .ok (.return_, 1) := by decide +kernel
theorem d_Mod_range_15 : decode b_Mod_range 15 = .ok (.aload_n 0, 1) := by decide +kernel
theorem d_Mod_range_16 : decode b_Mod_range 16 = .ok (.invokevirtual 50, 3) := by decide +kernel
theorem d_Mod_range_19 : decode b_Mod_range 19 = .ok (.bipush 45, 2) := by decide +kernel
theorem d_Mod_range_21 : decode b_Mod_range 21 = .ok (.if_icmp .ne 29, 3) := by decide +kernel
theorem d_Mod_range_24 : decode b_Mod_range 24 = .ok (.aload_n 0, 1) := by decide +kernel
theorem d_Mod_range_25 : decode b_Mod_range 25 = .ok (.dup, 1) := by decide +kernel
theorem d_Mod_range_26 : decode b_Mod_range 26 = .ok (.getfield 40, 3) := by decide +kernel
theorem d_Mod_range_29 : decode b_Mod_range 29 = .ok (.iconst 1, 1) := by decide +kernel
theorem d_Mod_range_30 : decode b_Mod_range 30 = .ok (.iadd, 1) := by decide +kernel
theorem d_Mod_range_31 : decode b_Mod_range 31 = .ok (.putfield 40, 3) := by decide +kernel
theorem d_Mod_range_34 : decode b_Mod_range 34 = .ok (.aload_n 0, 1) := by decide +kernel
theorem d_Mod_range_35 : decode b_Mod_range 35 = .ok (.iconst 3, 1) := by decide +kernel
theorem d_Mod_range_36 : decode b_Mod_range 36 = .ok (.putfield 99, 3) := by decide +kernel
theorem d_Mod_range_39 : decode b_Mod_range 39 = .ok (.aload_n 0, 1) := by decide +kernel
theorem d_Mod_range_40 : decode b_Mod_range 40 = .ok (.aload_n 0, 1) := by decide +kernel
theorem d_Mod_range_41 : decode b_Mod_range 41 = .ok (.ldc 102, 2) := by decide +kernel
theorem d_Mod_range_43 : decode b_Mod_range 43 = .ok (.invokevirtual 73, 3) := by decide +kernel
theorem d_Mod_range_46 : decode b_Mod_range 46 = .ok (.putfield 103, 3) := by decide +kernel
theorem d_Mod_range_49 : decode b_Mod_range 49 = .ok (.return_, 1) := by decide +kernel
theorem d_Mod_range_50 : decode b_Mod_range 50 = .ok (.aload_n 0, 1) := by decide +kernel
theorem d_Mod_range_51 : decode b_Mod_range 51 = .ok (.aload_n 0, 1) := by decide +kernel
theorem d_Mod_range_52 : decode b_Mod_range 52 = .ok (.ldc 102, 2) := by decide +kernel
theorem d_Mod_range_54 : decode b_Mod_range 54 = .ok (.invokevirtual 73, 3) := by decide +kernel
theorem d_Mod_range_57 : decode b_Mod_range 57 = .ok (.putfield 103, 3) := by decide +kernel
theorem d_Mod_range_60 : decode b_Mod_range 60 = .ok (.aload_n 0, 1) := by decide +kernel
theorem d_Mod_range_61 : decode b_Mod_range 61 = .ok (.bipush 45, 2) := by decide +kernel
theorem d_Mod_range_63 : decode b_Mod_range 63 = .ok (.invokevirtual 67, 3) := by decide +kernel
theorem d_Mod_range_66 : decode b_Mod_range 66 = .ok (.pop, 1) := by decide +kernel
theorem d_Mod_range_67 : decode b_Mod_range 67 = .ok (.aload_n 0, 1) := by decide +kernel
theorem d_Mod_range_68 : decode b_Mod_range 68 = .ok (.getfield 43, 3) := by decide +kernel
theorem d_Mod_range_71 : decode b_Mod_range 71 = .ok (.ifCond .eq 4, 3) := by decide +kernel
theorem d_Mod_range_74 : decode b_Mod_range 74 = .ok (.return_, 1) := by decide +kernel
theorem d_Mod_range_75 : decode b_Mod_range 75 = .ok (.aload_n 0, 1) := by decide +kernel
theorem d_Mod_range_76 : decode b_Mod_range 76 = .ok (.iconst 2, 1) := by decide +kernel
theorem d_Mod_range_77 : decode b_Mod_range 77 = .ok (.putfield 99, 3) := by decide +kernel
theorem d_Mod_range_80 : decode b_Mod_range 80 = .ok (.aload_n 0, 1) := by decide +kernel
theorem d_Mod_range_81 : decode b_Mod_range 81 = .ok (.invokevirtual 50, 3) := by decide +kernel
theorem d_Mod_range_84 : decode b_Mod_range 84 = .ok (.invokestatic 70, 3) := by decide +kernel
theorem d_Mod_range_87 : decode b_Mod_range 87 = .ok (.ifCond .ne 4, 3) := by decide +kernel
theorem d_Mod_range_90 : decode b_Mod_range 90 = .ok (.return_, 1) := by decide +kernel
theorem d_Mod_range_91 : decode b_Mod_range 91 = .ok (.aload_n 0, 1) := by decide +kernel
theorem d_Mod_range_92 : decode b_Mod_range 92 = .ok (.aload_n 0, 1) := by decide +kernel
theorem d_Mod_range_93 : decode b_Mod_range 93 = .ok (.ldc 102, 2) := by decide +kernel
theorem d_Mod_range_95 : decode b_Mod_range 95 = .ok (.invokevirtual 73, 3) := by decide +kernel
theorem d_Mod_range_98 : decode b_Mod_range 98 = .ok (.putfield 106, 3) := by decide +kernel
theorem d_Mod_range_101 : decode b_Mod_range 101 = .ok (.aload_n 0, 1) := by decide +kernel
theorem d_Mod_range_102 : decode b_Mod_range 102 = .ok (.aload_n 0, 1) := by decide +kernel
theorem d_Mod_range_103 : decode b_Mod_range 103 = .ok (.getfield 103, 3) := by decide +kernel
theorem d_Mod_range_106 : decode b_Mod_range 106 = .ok (.aload_n 0, 1) := by decide +kernel
theorem d_Mod_range_107 : decode b_Mod_range 107 = .ok (.getfield 106, 3) := by decide +kernel
theorem d_Mod_range_110 : decode b_Mod_range 110 = .ok (.if_icmp .le 7, 3) := by decide +kernel
theorem d_Mod_range_113 : decode b_Mod_range 113 = .ok (.iconst 0, 1) := by decide +kernel
theorem d_Mod_range_114 : decode b_Mod_range 114 = .ok (.goto 4, 3) := by decide +kernel
theorem d_Mod_range_117 : decode b_Mod_range 117 = .ok (.iconst 1, 1) := by decide +kernel
theorem d_Mod_range_118 : decode b_Mod_range 118 = .ok (.putfield 99, 3) := by decide +kernel
theorem d_Mod_range_121 : decode b_Mod_range 121 = .ok (.return_, 1) := by decide +kernel
theorem d_Mod_matching_0 : decode b_Mod_matching 0 = .ok (.aload_n 0, 1) := by decide +kernel
theorem d_Mod_matching_1 : decode b_Mod_matching 1 = .ok (.invokevirtual 50, 3) := by decide +kernel
theorem d_Mod_matching_4 : decode b_Mod_matching 4 = .ok (.bipush 42, 2) := by decide +kernel
theorem d_Mod_matching_6 : decode b_Mod_matching 6 = .ok (.if_icmp .ne 19, 3) := by decide +kernel
theorem d_Mod_matching_9 : decode b_Mod_matching 9 = .ok (.aload_n 0, 1) := by decide +kernel
theorem d_Mod_matching_10 : decode b_Mod_matching 10 = .ok (.dup, 1) := by decide +kernel
theorem d_Mod_matching_11 : decode b_Mod_matching 11 = .ok (.getfield 40, 3) := by decide +kernel
theorem d_Mod_matching_14 : decode b_Mod_matching 14 = .ok (.iconst 1, 1) := by decide +kernel
theorem d_Mod_matching_15 : decode b_Mod_matching 15 = .ok (.iadd, 1) := by decide +kernel
theorem d_Mod_matching_16 : decode b_Mod_matching 16 = .ok (.putfield 40, 3) := by decide +kernel
theorem d_Mod_matching_19 : decode b_Mod_matching 19 = .ok (.aload_n 0, 1) := by decide +kernel
theorem d_Mod_matching_20 : decode b_Mod_matching 20 = .ok (.iconst 1, 1) := by decide +kernel
theorem d_Mod_matching_21 : decode b_Mod_matching 21 = .ok (.putfield 109, 3) := by decide +kernel
theorem d_Mod_matching_24 : decode b_Mod_matching 24 = .ok (.return_, 1) := by decide +kernel
theorem d_Mod_matching_25 : decode b_Mod_matching 25 = .ok (.iconst 1, 1) := by decide +kernel
theorem d_Mod_matching_26 : decode b_Mod_matching 26 = .ok (.istore_n 1, 1) := by decide +kernel
theorem d_Mod_matching_27 : decode b_Mod_matching 27 = .ok (.iload_n 1, 1) := by decide +kernel
theorem d_Mod_matching_28 : decode b_Mod_matching 28 = .ok (.ifCond .eq 107, 3) := by decide +kernel
theorem d_Mod_matching_31 : decode b_Mod_matching 31 = .ok (.aload_n 0, 1) := by decide +kernel
theorem d_Mod_matching_32 : decode b_Mod_matching 32 = .ok (.getfield 43, 3) := by decide +kernel
theorem d_Mod_matching_35 : decode b_Mod_matching 35 = .ok (.ifCond .ne 100, 3) := by decide +kernel
theorem d_Mod_matching_38 : decode b_Mod_matching 38 = .ok (.aload_n 0, 1) := by decide +kernel
theorem d_Mod_matching_39 : decode b_Mod_matching 39 = .ok (.bipush 34, 2) := by decide +kernel
theorem d_Mod_matching_41 : decode b_Mod_matching 41 = .ok (.invokevirtual 67, 3) := by decide +kernel
theorem d_Mod_matching_44 : decode b_Mod_matching 44 = .ok (.pop, 1) := by decide +kernel
theorem d_Mod_matching_45 : decode b_Mod_matching 45 = .ok (.aload_n 0, 1) := by decide +kernel
theorem d_Mod_matching_46 : decode b_Mod_matching 46 = .ok (.ldc 102, 2) := by decide +kernel
theorem d_Mod_matching_48 : decode b_Mod_matching 48 = .ok (.invokevirtual 73, 3) := by decide +kernel
theorem d_Mod_matching_51 : decode b_Mod_matching 51 = .ok (.istore_n 2, 1) := by decide +kernel
theorem d_Mod_matching_52 : decode b_Mod_matching 52 = .ok (.aload_n 0, 1) := by decide +kernel
theorem d_Mod_matching_53 : decode b_Mod_matching 53 = .ok (.bipush 34, 2) := by decide +kernel
theorem d_Mod_matching_55 : decode b_Mod_matching 55 = .ok (.invokevirtual 67, 3) := by decide +kernel
theorem d_Mod_matching_58 : decode b_Mod_matching 58 = .ok (.pop, 1) := by decide +kernel
theorem d_Mod_matching_59 : decode b_Mod_matching 59 = .ok (.aload_n 0, 1) := by decide +kernel
theorem d_Mod_matching_60 : decode b_Mod_matching 60 = .ok (.getfield 43, 3) := by decide +kernel
theorem d_Mod_matching_63 : decode b_Mod_matching 63 = .ok (.ifCond .eq 4, 3) := by decide +kernel
theorem d_Mod_matching_66 : decode b_Mod_matching 66 = .ok (.return_, 1) := by decide +kernel
theorem d_Mod_matching_67 : decode b_Mod_matching 67 = .ok (.aload_n 0, 1) := by decide +kernel
theorem d_Mod_matching_68 : decode b_Mod_matching 68 = .ok (.getfield 17, 3) := by decide +kernel
theorem d_Mod_matching_71 : decode b_Mod_matching 71 = .ok (.aload_n 0, 1) := by decide +kernel
theorem d_Mod_matching_72 : decode b_Mod_matching 72 = .ok (.getfield 112, 3) := by decide +kernel
theorem d_Mod_matching_75 : decode b_Mod_matching 75 = .ok (.iload_n 2, 1) := by decide +kernel
theorem d_Mod_matching_76 : decode b_Mod_matching 76 = .ok (.iastore, 1) := by decide +kernel
theorem d_Mod_matching_77 : decode b_Mod_matching 77 = .ok (.aload_n 0, 1) := by decide +kernel
theorem d_Mod_matching_78 : decode b_Mod_matching 78 = .ok (.dup, 1) := by decide +kernel
theorem d_Mod_matching_79 : decode b_Mod_matching 79 = .ok (.getfield 112, 3) := by decide +kernel
theorem d_Mod_matching_82 : decode b_Mod_matching 82 = .ok (.iconst 1, 1) := by decide +kernel
theorem d_Mod_matching_83 : decode b_Mod_matching 83 = .ok (.iadd, 1) := by decide +kernel
theorem d_Mod_matching_84 : decode b_Mod_matching 84 = .ok (.putfield 112, 3) := by decide +kernel
theorem d_Mod_matching_87 : decode b_Mod_matching 87 = .ok (.aload_n 0, 1) := by decide +kernel
theorem d_Mod_matching_88 : decode b_Mod_matching 88 = .ok (.invokevirtual 50, 3) := by decide +kernel
theorem d_Mod_matching_91 : decode b_Mod_matching 91 = .ok (.bipush 44, 2) := by decide +kernel
theorem d_Mod_matching_93 : decode b_Mod_matching 93 = .ok (.if_icmp .ne 16, 3) := by decide +kernel
theorem d_Mod_matching_96 : decode b_Mod_matching 96 = .ok (.aload_n 0, 1) := by decide +kernel
theorem d_Mod_matching_97 : decode b_Mod_matching 97 = .ok (.getfield 112, 3) := by decide +kernel
theorem d_Mod_matching_100 : decode b_Mod_matching 100 = .ok (.bipush 8, 2) := by decide +kernel
theorem d_Mod_matching_102 : decode b_Mod_matching 102 = .ok (.if_icmp .ge 7, 3) := by decide +kernel
theorem d_Mod_matching_105 : decode b_Mod_matching 105 = .ok (.iconst 1, 1) := by decide +kernel
theorem d_Mod_matching_106 : decode b_Mod_matching 106 = .ok (.goto 4, 3) := by decide +kernel
theorem d_Mod_matching_109 : decode b_Mod_matching 109 = .ok (.iconst 0, 1) := by decide +kernel
theorem d_Mod_matching_110 : decode b_Mod_matching 110 = .ok (.istore_n 1, 1) := by decide +kernel
theorem d_Mod_matching_111 : decode b_Mod_matching 111 = .ok (.iload_n 1, 1) := by decide +kernel
theorem d_Mod_matching_112 : decode b_Mod_matching 112 = .ok (.ifCond .eq 20, 3) := by decide +kernel
theorem d_Mod_matching_115 : decode b_Mod_matching 115 = .ok (.aload_n 0, 1) := by decide +kernel
theorem d_Mod_matching_116 : decode b_Mod_matching 116 = .ok (.dup, 1) := by decide +kernel
theorem d_Mod_matching_117 : decode b_Mod_matching 117 = .ok (.getfield 40, 3) := by decide +kernel
theorem d_Mod_matching_120 : decode b_Mod_matching 120 = .ok (.iconst 1, 1) := by decide +kernel
theorem d_Mod_matching_121 : decode b_Mod_matching 121 = .ok (.iadd, 1) := by decide +kernel
theorem d_Mod_matching_122 : decode b_Mod_matching 122 = .ok (.putfield 40, 3) := by decide +kernel
theorem d_Mod_matching_125 : decode b_Mod_matching 125 = .ok (.aload_n 0, 1) := by decide +kernel
theorem d_Mod_matching_126 : decode b_Mod_matching 126 = .ok (.bipush 32, 2) := by decide +kernel
theorem d_Mod_matching_128 : decode b_Mod_matching 128 = .ok (.invokevirtual 67, 3) := by decide +kernel
theorem d_Mod_matching_131 : decode b_Mod_matching 131 = .ok (.pop, 1) := by decide +kernel
theorem d_Mod_matching_132 : decode b_Mod_matching 132 = .ok (.goto (-105), 3) := by decide +kernel
theorem d_Mod_matching_135 : decode b_Mod_matching 135 = .ok (.return_, 1) := by decide +kernel
theorem d_Mod_requestWord_0 : decode b_Mod_requestWord 0 = .ok (.aload_n 0, 1) := by decide +kernel
theorem d_Mod_requestWord_1 : decode b_Mod_requestWord 1 = .ok (.getfield 121, 3) := by decide +kernel
theorem d_Mod_requestWord_4 : decode b_Mod_requestWord 4 = .ok (.iconst (-1), 1) := by decide +kernel
theorem d_Mod_requestWord_5 : decode b_Mod_requestWord 5 = .ok (.if_icmp .eq 7, 3) := by decide +kernel
theorem d_Mod_requestWord_8 : decode b_Mod_requestWord 8 = .ok (.iconst 1, 1) := by decide +kernel
theorem d_Mod_requestWord_9 : decode b_Mod_requestWord 9 = .ok (.goto 4, 3) := by decide +kernel
theorem d_Mod_requestWord_12 : decode b_Mod_requestWord 12 = .ok (.iconst 0, 1) := by decide +kernel
theorem d_Mod_requestWord_13 : decode b_Mod_requestWord 13 = .ok (.istore_n 1, 1) := by decide +kernel
theorem d_Mod_requestWord_14 : decode b_Mod_requestWord 14 = .ok (.iload_n 1, 1) := by decide +kernel
theorem d_Mod_requestWord_15 : decode b_Mod_requestWord 15 = .ok (.ifCond .ne 17, 3) := by decide +kernel
theorem d_Mod_requestWord_18 : decode b_Mod_requestWord 18 = .ok (.aload_n 0, 1) := by decide +kernel
theorem d_Mod_requestWord_19 : decode b_Mod_requestWord 19 = .ok (.ldc 130, 2) := by decide +kernel
theorem d_Mod_requestWord_21 : decode b_Mod_requestWord 21 = .ok (.invokevirtual 132, 3) := by decide +kernel
theorem d_Mod_requestWord_24 : decode b_Mod_requestWord 24 = .ok (.ifCond .eq 8, 3) := by decide +kernel
theorem d_Mod_requestWord_27 : decode b_Mod_requestWord 27 = .ok (.aload_n 0, 1) := by decide +kernel
theorem d_Mod_requestWord_28 : decode b_Mod_requestWord 28 = .ok (.iconst 1, 1) := by decide +kernel
theorem d_Mod_requestWord_29 : decode b_Mod_requestWord 29 = .ok (.putfield 135, 3) := by decide +kernel
theorem d_Mod_requestWord_32 : decode b_Mod_requestWord 32 = .ok (.iload_n 1, 1) := by decide +kernel
theorem d_Mod_requestWord_33 : decode b_Mod_requestWord 33 = .ok (.ifCond .ne 17, 3) := by decide +kernel
theorem d_Mod_requestWord_36 : decode b_Mod_requestWord 36 = .ok (.aload_n 0, 1) := by decide +kernel
theorem d_Mod_requestWord_37 : decode b_Mod_requestWord 37 = .ok (.ldc 138, 2) := by decide +kernel
theorem d_Mod_requestWord_39 : decode b_Mod_requestWord 39 = .ok (.invokevirtual 132, 3) := by decide +kernel
theorem d_Mod_requestWord_42 : decode b_Mod_requestWord 42 = .ok (.ifCond .eq 8, 3) := by decide +kernel
theorem d_Mod_requestWord_45 : decode b_Mod_requestWord 45 = .ok (.aload_n 0, 1) := by decide +kernel
theorem d_Mod_requestWord_46 : decode b_Mod_requestWord 46 = .ok (.iconst 1, 1) := by decide +kernel
theorem d_Mod_requestWord_47 : decode b_Mod_requestWord 47 = .ok (.putfield 140, 3) := by decide +kernel
theorem d_Mod_requestWord_50 : decode b_Mod_requestWord 50 = .ok (.iload_n 1, 1) := by decide +kernel
theorem d_Mod_requestWord_51 : decode b_Mod_requestWord 51 = .ok (.ifCond .eq 20, 3) := by decide +kernel
theorem d_Mod_requestWord_54 : decode b_Mod_requestWord 54 = .ok (.aload_n 0, 1) := by decide +kernel
theorem d_Mod_requestWord_55 : decode b_Mod_requestWord 55 = .ok (.ldc 143, 2) := by decide +kernel
theorem d_Mod_requestWord_57 : decode b_Mod_requestWord 57 = .ok (.invokevirtual 132, 3) := by decide +kernel
theorem d_Mod_requestWord_60 : decode b_Mod_requestWord 60 = .ok (.ifCond .eq 11, 3) := by decide +kernel
theorem d_Mod_requestWord_63 : decode b_Mod_requestWord 63 = .ok (.aload_n 0, 1) := by decide +kernel
theorem d_Mod_requestWord_64 : decode b_Mod_requestWord 64 = .ok (.aload_n 0, 1) := by decide +kernel
theorem d_Mod_requestWord_65 : decode b_Mod_requestWord 65 = .ok (.getfield 121, 3) := by decide +kernel
theorem d_Mod_requestWord_68 : decode b_Mod_requestWord 68 = .ok (.putfield 145, 3) := by decide +kernel
theorem d_Mod_requestWord_71 : decode b_Mod_requestWord 71 = .ok (.aload_n 0, 1) := by decide +kernel
theorem d_Mod_requestWord_72 : decode b_Mod_requestWord 72 = .ok (.ldc 148, 2) := by decide +kernel
theorem d_Mod_requestWord_74 : decode b_Mod_requestWord 74 = .ok (.invokevirtual 132, 3) := by decide +kernel
theorem d_Mod_requestWord_77 : decode b_Mod_requestWord 77 = .ok (.ifCond .eq 20, 3) := by decide +kernel
theorem d_Mod_requestWord_80 : decode b_Mod_requestWord 80 = .ok (.aload_n 0, 1) := by decide +kernel
theorem d_Mod_requestWord_81 : decode b_Mod_requestWord 81 = .ok (.iload_n 1, 1) := by decide +kernel
theorem d_Mod_requestWord_82 : decode b_Mod_requestWord 82 = .ok (.ifCond .eq 10, 3) := by decide +kernel
theorem d_Mod_requestWord_85 : decode b_Mod_requestWord 85 = .ok (.aload_n 0, 1) := by decide +kernel
theorem d_Mod_requestWord_86 : decode b_Mod_requestWord 86 = .ok (.getfield 121, 3) := by decide +kernel
theorem d_Mod_requestWord_89 : decode b_Mod_requestWord 89 = .ok (.goto 5, 3) := by decide +kernel
theorem d_Mod_requestWord_92 : decode b_Mod_requestWord 92 = .ok (.bipush (-2), 2) := by decide +kernel
theorem d_Mod_requestWord_94 : decode b_Mod_requestWord 94 = .ok (.putfield 150, 3) := by decide +kernel
theorem d_Mod_requestWord_97 : decode b_Mod_requestWord 97 = .ok (.iload_n 1, 1) := by decide +kernel
theorem d_Mod_requestWord_98 : decode b_Mod_requestWord 98 = .ok (.ifCond .eq 20, 3) := by decide +kernel
theorem d_Mod_requestWord_101 : decode b_Mod_requestWord 101 = .ok (.aload_n 0, 1) := by decide +kernel
theorem d_Mod_requestWord_102 : decode b_Mod_requestWord 102 = .ok (.ldc 153, 2) := by decide +kernel
theorem d_Mod_requestWord_104 : decode b_Mod_requestWord 104 = .ok (.invokevirtual 132, 3) := by decide +kernel
theorem d_Mod_requestWord_107 : decode b_Mod_requestWord 107 = .ok (.ifCond .eq 11, 3) := by decide +kernel
theorem d_Mod_requestWord_110 : decode b_Mod_requestWord 110 = .ok (.aload_n 0, 1) := by decide +kernel
theorem d_Mod_requestWord_111 : decode b_Mod_requestWord 111 = .ok (.aload_n 0, 1) := by decide +kernel
theorem d_Mod_requestWord_112 : decode b_Mod_requestWord 112 = .ok (.getfield 121, 3) := by decide +kernel
theorem d_Mod_requestWord_115 : decode b_Mod_requestWord 115 = .ok (.putfield 155, 3) := by decide +kernel
theorem d_Mod_requestWord_118 : decode b_Mod_requestWord 118 = .ok (.return_, 1) := by decide +kernel
theorem d_Mod_thingWord_0 : decode b_Mod_thingWord 0 = .ok (.aload_n 0, 1) := by decide +kernel
theorem d_Mod_thingWord_1 : decode b_Mod_thingWord 1 = .ok (.getfield 121, 3) := by decide +kernel
theorem d_Mod_thingWord_4 : decode b_Mod_thingWord 4 = .ok (.iconst (-1), 1) := by decide +kernel
theorem d_Mod_thingWord_5 : decode b_Mod_thingWord 5 = .ok (.if_icmp .eq 7, 3) := by decide +kernel
theorem d_Mod_thingWord_8 : decode b_Mod_thingWord 8 = .ok (.iconst 1, 1) := by decide +kernel
theorem d_Mod_thingWord_9 : decode b_Mod_thingWord 9 = .ok (.goto 4, 3) := by decide +kernel
theorem d_Mod_thingWord_12 : decode b_Mod_thingWord 12 = .ok (.iconst 0, 1) := by decide +kernel
theorem d_Mod_thingWord_13 : decode b_Mod_thingWord 13 = .ok (.istore_n 1, 1) := by decide +kernel
theorem d_Mod_thingWord_14 : decode b_Mod_thingWord 14 = .ok (.iload_n 1, 1) := by decide +kernel
theorem d_Mod_thingWord_15 : decode b_Mod_thingWord 15 = .ok (.ifCond .ne 17, 3) := by decide +kernel
theorem d_Mod_thingWord_18 : decode b_Mod_thingWord 18 = .ok (.aload_n 0, 1) := by decide +kernel
theorem d_Mod_thingWord_19 : decode b_Mod_thingWord 19 = .ok (.ldc 158, 2) := by decide +kernel
theorem d_Mod_thingWord_21 : decode b_Mod_thingWord 21 = .ok (.invokevirtual 132, 3) := by decide +kernel
theorem d_Mod_thingWord_24 : decode b_Mod_thingWord 24 = .ok (.ifCond .eq 8, 3) := by decide +kernel
theorem d_Mod_thingWord_27 : decode b_Mod_thingWord 27 = .ok (.aload_n 0, 1) := by decide +kernel
theorem d_Mod_thingWord_28 : decode b_Mod_thingWord 28 = .ok (.iconst 1, 1) := by decide +kernel
theorem d_Mod_thingWord_29 : decode b_Mod_thingWord 29 = .ok (.putfield 160, 3) := by decide +kernel
theorem d_Mod_thingWord_32 : decode b_Mod_thingWord 32 = .ok (.iload_n 1, 1) := by decide +kernel
theorem d_Mod_thingWord_33 : decode b_Mod_thingWord 33 = .ok (.ifCond .ne 17, 3) := by decide +kernel
theorem d_Mod_thingWord_36 : decode b_Mod_thingWord 36 = .ok (.aload_n 0, 1) := by decide +kernel
theorem d_Mod_thingWord_37 : decode b_Mod_thingWord 37 = .ok (.ldc 130, 2) := by decide +kernel
theorem d_Mod_thingWord_39 : decode b_Mod_thingWord 39 = .ok (.invokevirtual 132, 3) := by decide +kernel
theorem d_Mod_thingWord_42 : decode b_Mod_thingWord 42 = .ok (.ifCond .eq 8, 3) := by decide +kernel
theorem d_Mod_thingWord_45 : decode b_Mod_thingWord 45 = .ok (.aload_n 0, 1) := by decide +kernel
theorem d_Mod_thingWord_46 : decode b_Mod_thingWord 46 = .ok (.iconst 1, 1) := by decide +kernel
theorem d_Mod_thingWord_47 : decode b_Mod_thingWord 47 = .ok (.putfield 163, 3) := by decide +kernel
theorem d_Mod_thingWord_50 : decode b_Mod_thingWord 50 = .ok (.iload_n 1, 1) := by decide +kernel
theorem d_Mod_thingWord_51 : decode b_Mod_thingWord 51 = .ok (.ifCond .eq 20, 3) := by decide +kernel
theorem d_Mod_thingWord_54 : decode b_Mod_thingWord 54 = .ok (.aload_n 0, 1) := by decide +kernel
theorem d_Mod_thingWord_55 : decode b_Mod_thingWord 55 = .ok (.ldc 143, 2) := by decide +kernel
theorem d_Mod_thingWord_57 : decode b_Mod_thingWord 57 = .ok (.invokevirtual 132, 3) := by decide +kernel
theorem d_Mod_thingWord_60 : decode b_Mod_thingWord 60 = .ok (.ifCond .eq 11, 3) := by decide +kernel
theorem d_Mod_thingWord_63 : decode b_Mod_thingWord 63 = .ok (.aload_n 0, 1) := by decide +kernel
theorem d_Mod_thingWord_64 : decode b_Mod_thingWord 64 = .ok (.aload_n 0, 1) := by decide +kernel
theorem d_Mod_thingWord_65 : decode b_Mod_thingWord 65 = .ok (.getfield 121, 3) := by decide +kernel
theorem d_Mod_thingWord_68 : decode b_Mod_thingWord 68 = .ok (.putfield 166, 3) := by decide +kernel
theorem d_Mod_thingWord_71 : decode b_Mod_thingWord 71 = .ok (.iload_n 1, 1) := by decide +kernel
theorem d_Mod_thingWord_72 : decode b_Mod_thingWord 72 = .ok (.ifCond .eq 20, 3) := by decide +kernel
theorem d_Mod_thingWord_75 : decode b_Mod_thingWord 75 = .ok (.aload_n 0, 1) := by decide +kernel
theorem d_Mod_thingWord_76 : decode b_Mod_thingWord 76 = .ok (.ldc 169, 2) := by decide +kernel
theorem d_Mod_thingWord_78 : decode b_Mod_thingWord 78 = .ok (.invokevirtual 132, 3) := by decide +kernel
theorem d_Mod_thingWord_81 : decode b_Mod_thingWord 81 = .ok (.ifCond .eq 11, 3) := by decide +kernel
theorem d_Mod_thingWord_84 : decode b_Mod_thingWord 84 = .ok (.aload_n 0, 1) := by decide +kernel
theorem d_Mod_thingWord_85 : decode b_Mod_thingWord 85 = .ok (.aload_n 0, 1) := by decide +kernel
theorem d_Mod_thingWord_86 : decode b_Mod_thingWord 86 = .ok (.getfield 121, 3) := by decide +kernel
theorem d_Mod_thingWord_89 : decode b_Mod_thingWord 89 = .ok (.putfield 171, 3) := by decide +kernel
theorem d_Mod_thingWord_92 : decode b_Mod_thingWord 92 = .ok (.iload_n 1, 1) := by decide +kernel
theorem d_Mod_thingWord_93 : decode b_Mod_thingWord 93 = .ok (.ifCond .eq 20, 3) := by decide +kernel
theorem d_Mod_thingWord_96 : decode b_Mod_thingWord 96 = .ok (.aload_n 0, 1) := by decide +kernel
theorem d_Mod_thingWord_97 : decode b_Mod_thingWord 97 = .ok (.ldc 174, 2) := by decide +kernel
theorem d_Mod_thingWord_99 : decode b_Mod_thingWord 99 = .ok (.invokevirtual 132, 3) := by decide +kernel
theorem d_Mod_thingWord_102 : decode b_Mod_thingWord 102 = .ok (.ifCond .eq 11, 3) := by decide +kernel
theorem d_Mod_thingWord_105 : decode b_Mod_thingWord 105 = .ok (.aload_n 0, 1) := by decide +kernel
theorem d_Mod_thingWord_106 : decode b_Mod_thingWord 106 = .ok (.aload_n 0, 1) := by decide +kernel
theorem d_Mod_thingWord_107 : decode b_Mod_thingWord 107 = .ok (.getfield 121, 3) := by decide +kernel
theorem d_Mod_thingWord_110 : decode b_Mod_thingWord 110 = .ok (.putfield 176, 3) := by decide +kernel
theorem d_Mod_thingWord_113 : decode b_Mod_thingWord 113 = .ok (.return_, 1) := by decide +kernel
theorem d_Mod_told_0 : decode b_Mod_told 0 = .ok (.aload_n 0, 1) := by decide +kernel
theorem d_Mod_told_1 : decode b_Mod_told 1 = .ok (.iconst 0, 1) := by decide +kernel
theorem d_Mod_told_2 : decode b_Mod_told 2 = .ok (.putfield 32, 3) := by decide +kernel
theorem d_Mod_told_5 : decode b_Mod_told 5 = .ok (.aload_n 0, 1) := by decide +kernel
theorem d_Mod_told_6 : decode b_Mod_told 6 = .ok (.getfield 240, 3) := by decide +kernel
theorem d_Mod_told_9 : decode b_Mod_told 9 = .ok (.ifCond .eq 13, 3) := by decide +kernel
theorem d_Mod_told_12 : decode b_Mod_told 12 = .ok (.iload_n 1, 1) := by decide +kernel
theorem d_Mod_told_13 : decode b_Mod_told 13 = .ok (.ifCond .lt 9, 3) := by decide +kernel
theorem d_Mod_told_16 : decode b_Mod_told 16 = .ok (.iload_n 1, 1) := by decide +kernel
theorem d_Mod_told_17 : decode b_Mod_told 17 = .ok (.bipush 17, 2) := by decide +kernel
theorem d_Mod_told_19 : decode b_Mod_told 19 = .ok (.if_icmp .le 7, 3) := by decide +kernel
theorem d_Mod_told_22 : decode b_Mod_told 22 = .ok (.iconst (-1), 1) := by decide +kernel
theorem d_Mod_told_23 : decode b_Mod_told 23 = .ok (.goto 9, 3) := by decide +kernel
theorem d_Mod_told_26 : decode b_Mod_told 26 = .ok (.aload_n 0, 1) := by decide +kernel
theorem d_Mod_told_27 : decode b_Mod_told 27 = .ok (.getfield 26, 3) := by decide +kernel
theorem d_Mod_told_30 : decode b_Mod_told 30 = .ok (.iload_n 1, 1) := by decide +kernel
theorem d_Mod_told_31 : decode b_Mod_told 31 = .ok (.iaload, 1) := by decide +kernel
theorem d_Mod_told_32 : decode b_Mod_told 32 = .ok (.ireturn, 1) := by decide +kernel
theorem d_Mod_matches_0 : decode b_Mod_matches 0 = .ok (.aload_n 0, 1) := by decide +kernel
theorem d_Mod_matches_1 : decode b_Mod_matches 1 = .ok (.iconst 0, 1) := by decide +kernel
theorem d_Mod_matches_2 : decode b_Mod_matches 2 = .ok (.putfield 32, 3) := by decide +kernel
theorem d_Mod_matches_5 : decode b_Mod_matches 5 = .ok (.aload_n 0, 1) := by decide +kernel
theorem d_Mod_matches_6 : decode b_Mod_matches 6 = .ok (.getfield 240, 3) := by decide +kernel
theorem d_Mod_matches_9 : decode b_Mod_matches 9 = .ok (.ifCond .ne 5, 3) := by decide +kernel
theorem d_Mod_matches_12 : decode b_Mod_matches 12 = .ok (.iconst 0, 1) := by decide +kernel
theorem d_Mod_matches_13 : decode b_Mod_matches 13 = .ok (.ireturn, 1) := by decide +kernel
theorem d_Mod_matches_14 : decode b_Mod_matches 14 = .ok (.aload_n 0, 1) := by decide +kernel
theorem d_Mod_matches_15 : decode b_Mod_matches 15 = .ok (.getfield 26, 3) := by decide +kernel
theorem d_Mod_matches_18 : decode b_Mod_matches 18 = .ok (.bipush 6, 2) := by decide +kernel
theorem d_Mod_matches_20 : decode b_Mod_matches 20 = .ok (.iaload, 1) := by decide +kernel
theorem d_Mod_matches_21 : decode b_Mod_matches 21 = .ok (.iconst 1, 1) := by decide +kernel
theorem d_Mod_matches_22 : decode b_Mod_matches 22 = .ok (.if_icmp .ne 7, 3) := by decide +kernel
theorem d_Mod_matches_25 : decode b_Mod_matches 25 = .ok (.iconst 1, 1) := by decide +kernel
theorem d_Mod_matches_26 : decode b_Mod_matches 26 = .ok (.goto 4, 3) := by decide +kernel
theorem d_Mod_matches_29 : decode b_Mod_matches 29 = .ok (.iconst 0, 1) := by decide +kernel
theorem d_Mod_matches_30 : decode b_Mod_matches 30 = .ok (.istore_n 2, 1) := by decide +kernel
theorem d_Mod_matches_31 : decode b_Mod_matches 31 = .ok (.iconst 0, 1) := by decide +kernel
theorem d_Mod_matches_32 : decode b_Mod_matches 32 = .ok (.istore_n 3, 1) := by decide +kernel
theorem d_Mod_matches_33 : decode b_Mod_matches 33 = .ok (.iload_n 3, 1) := by decide +kernel
theorem d_Mod_matches_34 : decode b_Mod_matches 34 = .ok (.aload_n 0, 1) := by decide +kernel
theorem d_Mod_matches_35 : decode b_Mod_matches 35 = .ok (.getfield 230, 3) := by decide +kernel
theorem d_Mod_matches_38 : decode b_Mod_matches 38 = .ok (.if_icmp .ge 29, 3) := by decide +kernel
theorem d_Mod_matches_41 : decode b_Mod_matches 41 = .ok (.iload_n 2, 1) := by decide +kernel
theorem d_Mod_matches_42 : decode b_Mod_matches 42 = .ok (.ifCond .ne 13, 3) := by decide +kernel
theorem d_Mod_matches_45 : decode b_Mod_matches 45 = .ok (.aload_n 0, 1) := by decide +kernel
theorem d_Mod_matches_46 : decode b_Mod_matches 46 = .ok (.getfield 29, 3) := by decide +kernel
theorem d_Mod_matches_49 : decode b_Mod_matches 49 = .ok (.iload_n 3, 1) := by decide +kernel
theorem d_Mod_matches_50 : decode b_Mod_matches 50 = .ok (.iaload, 1) := by decide +kernel
theorem d_Mod_matches_51 : decode b_Mod_matches 51 = .ok (.iload_n 1, 1) := by decide +kernel
theorem d_Mod_matches_52 : decode b_Mod_matches 52 = .ok (.if_icmp .ne 7, 3) := by decide +kernel
theorem d_Mod_matches_55 : decode b_Mod_matches 55 = .ok (.iconst 1, 1) := by decide +kernel
theorem d_Mod_matches_56 : decode b_Mod_matches 56 = .ok (.goto 4, 3) := by decide +kernel
theorem d_Mod_matches_59 : decode b_Mod_matches 59 = .ok (.iconst 0, 1) := by decide +kernel
theorem d_Mod_matches_60 : decode b_Mod_matches 60 = .ok (.istore_n 2, 1) := by decide +kernel
theorem d_Mod_matches_61 : decode b_Mod_matches 61 = .ok (.iinc 3 1, 3) := by decide +kernel
theorem d_Mod_matches_64 : decode b_Mod_matches 64 = .ok (.goto (-31), 3) := by decide +kernel
theorem d_Mod_matches_67 : decode b_Mod_matches 67 = .ok (.iload_n 2, 1) := by decide +kernel
theorem d_Mod_matches_68 : decode b_Mod_matches 68 = .ok (.ireturn, 1) := by decide +kernel
