theorem d_Tape_init_0 : decode b_Tape_init 0 = .ok (.aload_n 0, 1) := by decide +kernel
theorem d_Tape_init_1 : decode b_Tape_init 1 = .ok (.invokespecial 1, 3) := by decide +kernel
theorem d_Tape_init_4 : decode b_Tape_init 4 = .ok (.aload_n 0, 1) := by decide +kernel
theorem d_Tape_init_5 : decode b_Tape_init 5 = .ok (.sipush 300, 3) := by decide +kernel
theorem d_Tape_init_8 : decode b_Tape_init 8 = .ok (.newarray .char, 2) := by decide +kernel
theorem d_Tape_init_10 : decode b_Tape_init 10 = .ok (.putfield 9, 3) := by decide +kernel
theorem d_Tape_init_13 : decode b_Tape_init 13 = .ok (.aload_n 0, 1) := by decide +kernel
theorem d_Tape_init_14 : decode b_Tape_init 14 = .ok (.iconst 0, 1) := by decide +kernel
theorem d_Tape_init_15 : decode b_Tape_init 15 = .ok (.putfield 13, 3) := by decide +kernel
theorem d_Tape_init_18 : decode b_Tape_init 18 = .ok (.return_, 1) := by decide +kernel
theorem d_Tape_append_0 : decode b_Tape_append 0 = .ok (.iload_n 3, 1) := by decide +kernel
theorem d_Tape_append_1 : decode b_Tape_append 1 = .ok (.iconst 1, 1) := by decide +kernel
theorem d_Tape_append_2 : decode b_Tape_append 2 = .ok (.if_icmp .lt 21, 3) := by decide +kernel
theorem d_Tape_append_5 : decode b_Tape_append 5 = .ok (.iload_n 3, 1) := by decide +kernel
theorem d_Tape_append_6 : decode b_Tape_append 6 = .ok (.bipush 8, 2) := by decide +kernel
theorem d_Tape_append_8 : decode b_Tape_append 8 = .ok (.if_icmp .gt 15, 3) := by decide +kernel
theorem d_Tape_append_11 : decode b_Tape_append 11 = .ok (.iload_n 3, 1) := by decide +kernel
theorem d_Tape_append_12 : decode b_Tape_append 12 = .ok (.sipush 300, 3) := by decide +kernel
theorem d_Tape_append_15 : decode b_Tape_append 15 = .ok (.aload_n 0, 1) := by decide +kernel
theorem d_Tape_append_16 : decode b_Tape_append 16 = .ok (.getfield 13, 3) := by decide +kernel
theorem d_Tape_append_19 : decode b_Tape_append 19 = .ok (.isub, 1) := by decide +kernel
theorem d_Tape_append_20 : decode b_Tape_append 20 = .ok (.if_icmp .le 5, 3) := by decide +kernel
theorem d_Tape_append_23 : decode b_Tape_append 23 = .ok (.iconst 0, 1) := by decide +kernel
theorem d_Tape_append_24 : decode b_Tape_append 24 = .ok (.ireturn, 1) := by decide +kernel
theorem d_Tape_append_25 : decode b_Tape_append 25 = .ok (.iconst 0, 1) := by decide +kernel
theorem d_Tape_append_26 : decode b_Tape_append 26 = .ok (.istore 4, 2) := by decide +kernel
theorem d_Tape_append_28 : decode b_Tape_append 28 = .ok (.iload 4, 2) := by decide +kernel
theorem d_Tape_append_30 : decode b_Tape_append 30 = .ok (.iload_n 3, 1) := by decide +kernel
theorem d_Tape_append_31 : decode b_Tape_append 31 = .ok (.if_icmp .ge 23, 3) := by decide +kernel
theorem d_Tape_append_34 : decode b_Tape_append 34 = .ok (.lload_n 1, 1) := by decide +kernel
theorem d_Tape_append_35 : decode b_Tape_append 35 = .ok (.iload 4, 2) := by decide +kernel
theorem d_Tape_append_37 : decode b_Tape_append 37 = .ok (.invokestatic 17, 3) := by decide +kernel
theorem d_Tape_append_40 : decode b_Tape_append 40 = .ok (.invokestatic 21, 3) := by decide +kernel
theorem d_Tape_append_43 : decode b_Tape_append 43 = .ok (.ifCond .ne 5, 3) := by decide +kernel
theorem d_Tape_append_46 : decode b_Tape_append 46 = .ok (.iconst 0, 1) := by decide +kernel
theorem d_Tape_append_47 : decode b_Tape_append 47 = .ok (.ireturn, 1) := by decide +kernel
theorem d_Tape_append_48 : decode b_Tape_append 48 = .ok (.iinc 4 1, 3) := by decide +kernel
theorem d_Tape_append_51 : decode b_Tape_append 51 = .ok (.goto (-23), 3) := by decide +kernel
theorem d_Tape_append_54 : decode b_Tape_append 54 = .ok (.iload_n 3, 1) := by decide +kernel
theorem d_Tape_append_55 : decode b_Tape_append 55 = .ok (.iconst 1, 1) := by decide +kernel
theorem d_Tape_append_56 : decode b_Tape_append 56 = .ok (.isub, 1) := by decide +kernel
theorem d_Tape_append_57 : decode b_Tape_append 57 = .ok (.istore 4, 2) := by decide +kernel
theorem d_Tape_append_59 : decode b_Tape_append 59 = .ok (.iload 4, 2) := by decide +kernel
theorem d_Tape_append_61 : decode b_Tape_append 61 = .ok (.ifCond .lt 35, 3) := by decide +kernel
theorem d_Tape_append_64 : decode b_Tape_append 64 = .ok (.aload_n 0, 1) := by decide +kernel
theorem d_Tape_append_65 : decode b_Tape_append 65 = .ok (.getfield 9, 3) := by decide +kernel
theorem d_Tape_append_68 : decode b_Tape_append 68 = .ok (.aload_n 0, 1) := by decide +kernel
theorem d_Tape_append_69 : decode b_Tape_append 69 = .ok (.getfield 13, 3) := by decide +kernel
theorem d_Tape_append_72 : decode b_Tape_append 72 = .ok (.lload_n 1, 1) := by decide +kernel
theorem d_Tape_append_73 : decode b_Tape_append 73 = .ok (.iload 4, 2) := by decide +kernel
theorem d_Tape_append_75 : decode b_Tape_append 75 = .ok (.invokestatic 17, 3) := by decide +kernel
theorem d_Tape_append_78 : decode b_Tape_append 78 = .ok (.i2c, 1) := by decide +kernel
theorem d_Tape_append_79 : decode b_Tape_append 79 = .ok (.castore, 1) := by decide +kernel
theorem d_Tape_append_80 : decode b_Tape_append 80 = .ok (.aload_n 0, 1) := by decide +kernel
theorem d_Tape_append_81 : decode b_Tape_append 81 = .ok (.dup, 1) := by decide +kernel
theorem d_Tape_append_82 : decode b_Tape_append 82 = .ok (.getfield 13, 3) := by decide +kernel
theorem d_Tape_append_85 : decode b_Tape_append 85 = .ok (.iconst 1, 1) := by decide +kernel
theorem d_Tape_append_86 : decode b_Tape_append 86 = .ok (.iadd, 1) := by decide +kernel
theorem d_Tape_append_87 : decode b_Tape_append 87 = .ok (.putfield 13, 3) := by decide +kernel
theorem d_Tape_append_90 : decode b_Tape_append 90 = .ok (.iinc 4 (-1), 3) := by decide +kernel
theorem d_Tape_append_93 : decode b_Tape_append 93 = .ok (.goto (-34), 3) := by decide +kernel
theorem d_Tape_append_96 : decode b_Tape_append 96 = .ok (.iconst 1, 1) := by decide +kernel
theorem d_Tape_append_97 : decode b_Tape_append 97 = .ok (.ireturn, 1) := by decide +kernel
theorem d_Tape_byteOf_0 : decode b_Tape_byteOf 0 = .ok (.lload_n 0, 1) := by decide +kernel
theorem d_Tape_byteOf_1 : decode b_Tape_byteOf 1 = .ok (.bipush 8, 2) := by decide +kernel
theorem d_Tape_byteOf_3 : decode b_Tape_byteOf 3 = .ok (.iload_n 2, 1) := by decide +kernel
theorem d_Tape_byteOf_4 : decode b_Tape_byteOf 4 = .ok (.imul, 1) := by decide +kernel
theorem d_Tape_byteOf_5 : decode b_Tape_byteOf 5 = .ok (.lushr, 1) := by decide +kernel
theorem d_Tape_byteOf_6 : decode b_Tape_byteOf 6 = .ok (.l2i, 1) := by decide +kernel
theorem d_Tape_byteOf_7 : decode b_Tape_byteOf 7 = .ok (.sipush 255, 3) := by decide +kernel
theorem d_Tape_byteOf_10 : decode b_Tape_byteOf 10 = .ok (.iand, 1) := by decide +kernel
theorem d_Tape_byteOf_11 : decode b_Tape_byteOf 11 = .ok (.ireturn, 1) := by decide +kernel
theorem d_Tape_mayStand_0 : decode b_Tape_mayStand 0 = .ok (.iload_n 0, 1) := by decide +kernel
theorem d_Tape_mayStand_1 : decode b_Tape_mayStand 1 = .ok (.bipush 10, 2) := by decide +kernel
theorem d_Tape_mayStand_3 : decode b_Tape_mayStand 3 = .ok (.if_icmp .eq 15, 3) := by decide +kernel
theorem d_Tape_mayStand_6 : decode b_Tape_mayStand 6 = .ok (.iload_n 0, 1) := by decide +kernel
theorem d_Tape_mayStand_7 : decode b_Tape_mayStand 7 = .ok (.bipush 32, 2) := by decide +kernel
theorem d_Tape_mayStand_9 : decode b_Tape_mayStand 9 = .ok (.if_icmp .lt 13, 3) := by decide +kernel
theorem d_Tape_mayStand_12 : decode b_Tape_mayStand 12 = .ok (.iload_n 0, 1) := by decide +kernel
theorem d_Tape_mayStand_13 : decode b_Tape_mayStand 13 = .ok (.bipush 126, 2) := by decide +kernel
theorem d_Tape_mayStand_15 : decode b_Tape_mayStand 15 = .ok (.if_icmp .gt 7, 3) := by decide +kernel
theorem d_Tape_mayStand_18 : decode b_Tape_mayStand 18 = .ok (.iconst 1, 1) := by decide +kernel
theorem d_Tape_mayStand_19 : decode b_Tape_mayStand 19 = .ok (.goto 4, 3) := by decide +kernel
theorem d_Tape_mayStand_22 : decode b_Tape_mayStand 22 = .ok (.iconst 0, 1) := by decide +kernel
theorem d_Tape_mayStand_23 : decode b_Tape_mayStand 23 = .ok (.ireturn, 1) := by decide +kernel
theorem d_Tape_markAt_0 : decode b_Tape_markAt 0 = .ok (.iload_n 1, 1) := by decide +kernel
theorem d_Tape_markAt_1 : decode b_Tape_markAt 1 = .ok (.ifCond .lt 20, 3) := by decide +kernel
theorem d_Tape_markAt_4 : decode b_Tape_markAt 4 = .ok (.iload_n 1, 1) := by decide +kernel
theorem d_Tape_markAt_5 : decode b_Tape_markAt 5 = .ok (.aload_n 0, 1) := by decide +kernel
theorem d_Tape_markAt_6 : decode b_Tape_markAt 6 = .ok (.getfield 13, 3) := by decide +kernel
theorem d_Tape_markAt_9 : decode b_Tape_markAt 9 = .ok (.if_icmp .ge 12, 3) := by decide +kernel
theorem d_Tape_markAt_12 : decode b_Tape_markAt 12 = .ok (.aload_n 0, 1) := by decide +kernel
theorem d_Tape_markAt_13 : decode b_Tape_markAt 13 = .ok (.getfield 9, 3) := by decide +kernel
theorem d_Tape_markAt_16 : decode b_Tape_markAt 16 = .ok (.iload_n 1, 1) := by decide +kernel
theorem d_Tape_markAt_17 : decode b_Tape_markAt 17 = .ok (.caload, 1) := by decide +kernel
theorem d_Tape_markAt_18 : decode b_Tape_markAt 18 = .ok (.goto 4, 3) := by decide +kernel
theorem d_Tape_markAt_21 : decode b_Tape_markAt 21 = .ok (.iconst (-1), 1) := by decide +kernel
theorem d_Tape_markAt_22 : decode b_Tape_markAt 22 = .ok (.ireturn, 1) := by decide +kernel
theorem d_Tape_empty_0 : decode b_Tape_empty 0 = .ok (.aload_n 0, 1) := by decide +kernel
theorem d_Tape_empty_1 : decode b_Tape_empty 1 = .ok (.iconst 0, 1) := by decide +kernel
theorem d_Tape_empty_2 : decode b_Tape_empty 2 = .ok (.putfield 13, 3) := by decide +kernel
theorem d_Tape_empty_5 : decode b_Tape_empty 5 = .ok (.return_, 1) := by decide +kernel
