theorem d_Head_init_0 : decode b_Head_init 0 = .ok (.aload_n 0, 1) := by decide +kernel
theorem d_Head_init_1 : decode b_Head_init 1 = .ok (.invokespecial 3, 3) := by decide +kernel
theorem d_Head_init_4 : decode b_Head_init 4 = .ok (.aload_n 0, 1) := by decide +kernel
theorem d_Head_init_5 : decode b_Head_init 5 = .ok (.getstatic 9, 3) := by decide +kernel
theorem d_Head_init_8 : decode b_Head_init 8 = .ok (.arraylength, 1) := by decide +kernel
theorem d_Head_init_9 : decode b_Head_init 9 = .ok (.newarray .int, 2) := by decide +kernel
theorem d_Head_init_11 : decode b_Head_init 11 = .ok (.putfield 15, 3) := by decide +kernel
theorem d_Head_init_14 : decode b_Head_init 14 = .ok (.aload_n 0, 1) := by decide +kernel
theorem d_Head_init_15 : decode b_Head_init 15 = .ok (.bipush 8, 2) := by decide +kernel
theorem d_Head_init_17 : decode b_Head_init 17 = .ok (.newarray .int, 2) := by decide +kernel
theorem d_Head_init_19 : decode b_Head_init 19 = .ok (.putfield 18, 3) := by decide +kernel
theorem d_Head_init_22 : decode b_Head_init 22 = .ok (.return_, 1) := by decide +kernel
theorem d_Head_get_0 : decode b_Head_get 0 = .ok (.iload_n 1, 1) := by decide +kernel
theorem d_Head_get_1 : decode b_Head_get 1 = .ok (.ifCond .lt 21, 3) := by decide +kernel
theorem d_Head_get_4 : decode b_Head_get 4 = .ok (.iload_n 1, 1) := by decide +kernel
theorem d_Head_get_5 : decode b_Head_get 5 = .ok (.aload_n 0, 1) := by decide +kernel
theorem d_Head_get_6 : decode b_Head_get 6 = .ok (.getfield 15, 3) := by decide +kernel
theorem d_Head_get_9 : decode b_Head_get 9 = .ok (.arraylength, 1) := by decide +kernel
theorem d_Head_get_10 : decode b_Head_get 10 = .ok (.if_icmp .ge 12, 3) := by decide +kernel
theorem d_Head_get_13 : decode b_Head_get 13 = .ok (.aload_n 0, 1) := by decide +kernel
theorem d_Head_get_14 : decode b_Head_get 14 = .ok (.getfield 15, 3) := by decide +kernel
theorem d_Head_get_17 : decode b_Head_get 17 = .ok (.iload_n 1, 1) := by decide +kernel
theorem d_Head_get_18 : decode b_Head_get 18 = .ok (.iaload, 1) := by decide +kernel
theorem d_Head_get_19 : decode b_Head_get 19 = .ok (.goto 4, 3) := by decide +kernel
theorem d_Head_get_22 : decode b_Head_get 22 = .ok (.iconst (-1), 1) := by decide +kernel
theorem d_Head_get_23 : decode b_Head_get 23 = .ok (.ireturn, 1) := by decide +kernel
theorem d_Head_coversVersion_0 : decode b_Head_coversVersion 0 = .ok (.aload_n 0, 1) := by decide +kernel
theorem d_Head_coversVersion_1 : decode b_Head_coversVersion 1 = .ok (.getfield 15, 3) := by decide +kernel
theorem d_Head_coversVersion_4 : decode b_Head_coversVersion 4 = .ok (.bipush 6, 2) := by decide +kernel
theorem d_Head_coversVersion_6 : decode b_Head_coversVersion 6 = .ok (.iaload, 1) := by decide +kernel
theorem d_Head_coversVersion_7 : decode b_Head_coversVersion 7 = .ok (.iconst 1, 1) := by decide +kernel
theorem d_Head_coversVersion_8 : decode b_Head_coversVersion 8 = .ok (.if_icmp .eq 11, 3) := by decide +kernel
theorem d_Head_coversVersion_11 : decode b_Head_coversVersion 11 = .ok (.aload_n 0, 1) := by decide +kernel
theorem d_Head_coversVersion_12 : decode b_Head_coversVersion 12 = .ok (.iload_n 1, 1) := by decide +kernel
theorem d_Head_coversVersion_13 : decode b_Head_coversVersion 13 = .ok (.invokevirtual 27, 3) := by decide +kernel
theorem d_Head_coversVersion_16 : decode b_Head_coversVersion 16 = .ok (.ifCond .eq 7, 3) := by decide +kernel
theorem d_Head_coversVersion_19 : decode b_Head_coversVersion 19 = .ok (.iconst 1, 1) := by decide +kernel
theorem d_Head_coversVersion_20 : decode b_Head_coversVersion 20 = .ok (.goto 4, 3) := by decide +kernel
theorem d_Head_coversVersion_23 : decode b_Head_coversVersion 23 = .ok (.iconst 0, 1) := by decide +kernel
theorem d_Head_coversVersion_24 : decode b_Head_coversVersion 24 = .ok (.ireturn, 1) := by decide +kernel
theorem d_Head_hasVersion_0 : decode b_Head_hasVersion 0 = .ok (.iconst 0, 1) := by decide +kernel
theorem d_Head_hasVersion_1 : decode b_Head_hasVersion 1 = .ok (.istore_n 2, 1) := by decide +kernel
theorem d_Head_hasVersion_2 : decode b_Head_hasVersion 2 = .ok (.iload_n 2, 1) := by decide +kernel
theorem d_Head_hasVersion_3 : decode b_Head_hasVersion 3 = .ok (.aload_n 0, 1) := by decide +kernel
theorem d_Head_hasVersion_4 : decode b_Head_hasVersion 4 = .ok (.getfield 18, 3) := by decide +kernel
theorem d_Head_hasVersion_7 : decode b_Head_hasVersion 7 = .ok (.arraylength, 1) := by decide +kernel
theorem d_Head_hasVersion_8 : decode b_Head_hasVersion 8 = .ok (.if_icmp .ge 32, 3) := by decide +kernel
theorem d_Head_hasVersion_11 : decode b_Head_hasVersion 11 = .ok (.iload_n 2, 1) := by decide +kernel
theorem d_Head_hasVersion_12 : decode b_Head_hasVersion 12 = .ok (.aload_n 0, 1) := by decide +kernel
theorem d_Head_hasVersion_13 : decode b_Head_hasVersion 13 = .ok (.getfield 15, 3) := by decide +kernel
theorem d_Head_hasVersion_16 : decode b_Head_hasVersion 16 = .ok (.bipush 7, 2) := by decide +kernel
theorem d_Head_hasVersion_18 : decode b_Head_hasVersion 18 = .ok (.iaload, 1) := by decide +kernel
theorem d_Head_hasVersion_19 : decode b_Head_hasVersion 19 = .ok (.if_icmp .ge 21, 3) := by decide +kernel
theorem d_Head_hasVersion_22 : decode b_Head_hasVersion 22 = .ok (.aload_n 0, 1) := by decide +kernel
theorem d_Head_hasVersion_23 : decode b_Head_hasVersion 23 = .ok (.getfield 18, 3) := by decide +kernel
theorem d_Head_hasVersion_26 : decode b_Head_hasVersion 26 = .ok (.iload_n 2, 1) := by decide +kernel
theorem d_Head_hasVersion_27 : decode b_Head_hasVersion 27 = .ok (.iaload, 1) := by decide +kernel
theorem d_Head_hasVersion_28 : decode b_Head_hasVersion 28 = .ok (.iload_n 1, 1) := by decide +kernel
theorem d_Head_hasVersion_29 : decode b_Head_hasVersion 29 = .ok (.if_icmp .ne 5, 3) := by decide +kernel
theorem d_Head_hasVersion_32 : decode b_Head_hasVersion 32 = .ok (.iconst 1, 1) := by decide +kernel
theorem d_Head_hasVersion_33 : decode b_Head_hasVersion 33 = .ok (.ireturn, 1) := by decide +kernel
theorem d_Head_hasVersion_34 : decode b_Head_hasVersion 34 = .ok (.iinc 2 1, 3) := by decide +kernel
theorem d_Head_hasVersion_37 : decode b_Head_hasVersion 37 = .ok (.goto (-35), 3) := by decide +kernel
theorem d_Head_hasVersion_40 : decode b_Head_hasVersion 40 = .ok (.iconst 0, 1) := by decide +kernel
theorem d_Head_hasVersion_41 : decode b_Head_hasVersion 41 = .ok (.ireturn, 1) := by decide +kernel
theorem d_Head_firstByte_0 : decode b_Head_firstByte 0 = .ok (.aload_n 0, 1) := by decide +kernel
theorem d_Head_firstByte_1 : decode b_Head_firstByte 1 = .ok (.getfield 15, 3) := by decide +kernel
theorem d_Head_firstByte_4 : decode b_Head_firstByte 4 = .ok (.iconst 3, 1) := by decide +kernel
theorem d_Head_firstByte_5 : decode b_Head_firstByte 5 = .ok (.iaload, 1) := by decide +kernel
theorem d_Head_firstByte_6 : decode b_Head_firstByte 6 = .ok (.tableswitch 46 1 3 #[26, 26, 33], 26) := by decide +kernel
theorem d_Head_firstByte_32 : decode b_Head_firstByte 32 = .ok (.aload_n 0, 1) := by decide +kernel
theorem d_Head_firstByte_33 : decode b_Head_firstByte 33 = .ok (.getfield 15, 3) := by decide +kernel
theorem d_Head_firstByte_36 : decode b_Head_firstByte 36 = .ok (.iconst 4, 1) := by decide +kernel
theorem d_Head_firstByte_37 : decode b_Head_firstByte 37 = .ok (.iaload, 1) := by decide +kernel
theorem d_Head_firstByte_38 : decode b_Head_firstByte 38 = .ok (.ireturn, 1) := by decide +kernel
theorem d_Head_firstByte_39 : decode b_Head_firstByte 39 = .ok (.iload_n 1, 1) := by decide +kernel
theorem d_Head_firstByte_40 : decode b_Head_firstByte 40 = .ok (.aload_n 0, 1) := by decide +kernel
theorem d_Head_firstByte_41 : decode b_Head_firstByte 41 = .ok (.getfield 15, 3) := by decide +kernel
theorem d_Head_firstByte_44 : decode b_Head_firstByte 44 = .ok (.iconst 4, 1) := by decide +kernel
theorem d_Head_firstByte_45 : decode b_Head_firstByte 45 = .ok (.iaload, 1) := by decide +kernel
theorem d_Head_firstByte_46 : decode b_Head_firstByte 46 = .ok (.iload_n 1, 1) := by decide +kernel
theorem d_Head_firstByte_47 : decode b_Head_firstByte 47 = .ok (.invokestatic 31, 3) := by decide +kernel
theorem d_Head_firstByte_50 : decode b_Head_firstByte 50 = .ok (.isub, 1) := by decide +kernel
theorem d_Head_firstByte_51 : decode b_Head_firstByte 51 = .ok (.ireturn, 1) := by decide +kernel
theorem d_Head_firstByte_52 : decode b_Head_firstByte 52 = .ok (.iconst 0, 1) := by decide +kernel
theorem d_Head_firstByte_53 : decode b_Head_firstByte 53 = .ok (.ireturn, 1) := by decide +kernel
theorem d_Head_lastByte_0 : decode b_Head_lastByte 0 = .ok (.aload_n 0, 1) := by decide +kernel
theorem d_Head_lastByte_1 : decode b_Head_lastByte 1 = .ok (.getfield 15, 3) := by decide +kernel
theorem d_Head_lastByte_4 : decode b_Head_lastByte 4 = .ok (.iconst 3, 1) := by decide +kernel
theorem d_Head_lastByte_5 : decode b_Head_lastByte 5 = .ok (.iaload, 1) := by decide +kernel
theorem d_Head_lastByte_6 : decode b_Head_lastByte 6 = .ok (.iconst 1, 1) := by decide +kernel
theorem d_Head_lastByte_7 : decode b_Head_lastByte 7 = .ok (.if_icmp .ne 18, 3) := by decide +kernel
theorem d_Head_lastByte_10 : decode b_Head_lastByte 10 = .ok (.aload_n 0, 1) := by decide +kernel
theorem d_Head_lastByte_11 : decode b_Head_lastByte 11 = .ok (.getfield 15, 3) := by decide +kernel
theorem d_Head_lastByte_14 : decode b_Head_lastByte 14 = .ok (.iconst 5, 1) := by decide +kernel
theorem d_Head_lastByte_15 : decode b_Head_lastByte 15 = .ok (.iaload, 1) := by decide +kernel
theorem d_Head_lastByte_16 : decode b_Head_lastByte 16 = .ok (.iload_n 1, 1) := by decide +kernel
theorem d_Head_lastByte_17 : decode b_Head_lastByte 17 = .ok (.iconst 1, 1) := by decide +kernel
theorem d_Head_lastByte_18 : decode b_Head_lastByte 18 = .ok (.isub, 1) := by decide +kernel
theorem d_Head_lastByte_19 : decode b_Head_lastByte 19 = .ok (.invokestatic 31, 3) := by decide +kernel
theorem d_Head_lastByte_22 : decode b_Head_lastByte 22 = .ok (.goto 6, 3) := by decide +kernel
theorem d_Head_lastByte_25 : decode b_Head_lastByte 25 = .ok (.iload_n 1, 1) := by decide +kernel
theorem d_Head_lastByte_26 : decode b_Head_lastByte 26 = .ok (.iconst 1, 1) := by decide +kernel
theorem d_Head_lastByte_27 : decode b_Head_lastByte 27 = .ok (.isub, 1) := by decide +kernel
theorem d_Head_lastByte_28 : decode b_Head_lastByte 28 = .ok (.ireturn, 1) := by decide +kernel
theorem d_Head_clear_0 : decode b_Head_clear 0 = .ok (.getstatic 9, 3) := by decide +kernel
theorem d_Head_clear_3 : decode b_Head_clear 3 = .ok (.iconst 0, 1) := by decide +kernel
theorem d_Head_clear_4 : decode b_Head_clear 4 = .ok (.aload_n 0, 1) := by decide +kernel
theorem d_Head_clear_5 : decode b_Head_clear 5 = .ok (.getfield 15, 3) := by decide +kernel
theorem d_Head_clear_8 : decode b_Head_clear 8 = .ok (.iconst 0, 1) := by decide +kernel
theorem d_Head_clear_9 : decode b_Head_clear 9 = .ok (.getstatic 9, 3) := by decide +kernel
theorem d_Head_clear_12 : decode b_Head_clear 12 = .ok (.arraylength, 1) := by decide +kernel
theorem d_Head_clear_13 : decode b_Head_clear 13 = .ok (.invokestatic 21, 3) := by decide +kernel
theorem d_Head_clear_16 : decode b_Head_clear 16 = .ok (.return_, 1) := by decide +kernel
theorem d_Head_set_0 : decode b_Head_set 0 = .ok (.iload_n 1, 1) := by decide +kernel
theorem d_Head_set_1 : decode b_Head_set 1 = .ok (.ifCond .lt 19, 3) := by decide +kernel
theorem d_Head_set_4 : decode b_Head_set 4 = .ok (.iload_n 1, 1) := by decide +kernel
theorem d_Head_set_5 : decode b_Head_set 5 = .ok (.aload_n 0, 1) := by decide +kernel
theorem d_Head_set_6 : decode b_Head_set 6 = .ok (.getfield 15, 3) := by decide +kernel
theorem d_Head_set_9 : decode b_Head_set 9 = .ok (.arraylength, 1) := by decide +kernel
theorem d_Head_set_10 : decode b_Head_set 10 = .ok (.if_icmp .ge 10, 3) := by decide +kernel
theorem d_Head_set_13 : decode b_Head_set 13 = .ok (.aload_n 0, 1) := by decide +kernel
theorem d_Head_set_14 : decode b_Head_set 14 = .ok (.getfield 15, 3) := by decide +kernel
theorem d_Head_set_17 : decode b_Head_set 17 = .ok (.iload_n 1, 1) := by decide +kernel
theorem d_Head_set_18 : decode b_Head_set 18 = .ok (.iload_n 2, 1) := by decide +kernel
theorem d_Head_set_19 : decode b_Head_set 19 = .ok (.iastore, 1) := by decide +kernel
theorem d_Head_set_20 : decode b_Head_set 20 = .ok (.return_, 1) := by decide +kernel
theorem d_Head_setRange_0 : decode b_Head_setRange 0 = .ok (.aload_n 0, 1) := by decide +kernel
theorem d_Head_setRange_1 : decode b_Head_setRange 1 = .ok (.getfield 15, 3) := by decide +kernel
theorem d_Head_setRange_4 : decode b_Head_setRange 4 = .ok (.iconst 3, 1) := by decide +kernel
theorem d_Head_setRange_5 : decode b_Head_setRange 5 = .ok (.iload_n 1, 1) := by decide +kernel
theorem d_Head_setRange_6 : decode b_Head_setRange 6 = .ok (.iastore, 1) := by decide +kernel
theorem d_Head_setRange_7 : decode b_Head_setRange 7 = .ok (.aload_n 0, 1) := by decide +kernel
theorem d_Head_setRange_8 : decode b_Head_setRange 8 = .ok (.getfield 15, 3) := by decide +kernel
theorem d_Head_setRange_11 : decode b_Head_setRange 11 = .ok (.iconst 4, 1) := by decide +kernel
theorem d_Head_setRange_12 : decode b_Head_setRange 12 = .ok (.iload_n 2, 1) := by decide +kernel
theorem d_Head_setRange_13 : decode b_Head_setRange 13 = .ok (.iastore, 1) := by decide +kernel
theorem d_Head_setRange_14 : decode b_Head_setRange 14 = .ok (.aload_n 0, 1) := by decide +kernel
theorem d_Head_setRange_15 : decode b_Head_setRange 15 = .ok (.getfield 15, 3) := by decide +kernel
theorem d_Head_setRange_18 : decode b_Head_setRange 18 = .ok (.iconst 5, 1) := by decide +kernel
theorem d_Head_setRange_19 : decode b_Head_setRange 19 = .ok (.iload_n 3, 1) := by decide +kernel
theorem d_Head_setRange_20 : decode b_Head_setRange 20 = .ok (.iastore, 1) := by decide +kernel
theorem d_Head_setRange_21 : decode b_Head_setRange 21 = .ok (.return_, 1) := by decide +kernel
theorem d_Head_addVersion_0 : decode b_Head_addVersion 0 = .ok (.aload_n 0, 1) := by decide +kernel
theorem d_Head_addVersion_1 : decode b_Head_addVersion 1 = .ok (.getfield 15, 3) := by decide +kernel
theorem d_Head_addVersion_4 : decode b_Head_addVersion 4 = .ok (.bipush 7, 2) := by decide +kernel
theorem d_Head_addVersion_6 : decode b_Head_addVersion 6 = .ok (.iaload, 1) := by decide +kernel
theorem d_Head_addVersion_7 : decode b_Head_addVersion 7 = .ok (.istore_n 2, 1) := by decide +kernel
theorem d_Head_addVersion_8 : decode b_Head_addVersion 8 = .ok (.aload_n 0, 1) := by decide +kernel
theorem d_Head_addVersion_9 : decode b_Head_addVersion 9 = .ok (.iload_n 1, 1) := by decide +kernel
theorem d_Head_addVersion_10 : decode b_Head_addVersion 10 = .ok (.invokevirtual 27, 3) := by decide +kernel
theorem d_Head_addVersion_13 : decode b_Head_addVersion 13 = .ok (.ifCond .ne 33, 3) := by decide +kernel
theorem d_Head_addVersion_16 : decode b_Head_addVersion 16 = .ok (.iload_n 2, 1) := by decide +kernel
theorem d_Head_addVersion_17 : decode b_Head_addVersion 17 = .ok (.ifCond .lt 29, 3) := by decide +kernel
theorem d_Head_addVersion_20 : decode b_Head_addVersion 20 = .ok (.iload_n 2, 1) := by decide +kernel
theorem d_Head_addVersion_21 : decode b_Head_addVersion 21 = .ok (.aload_n 0, 1) := by decide +kernel
theorem d_Head_addVersion_22 : decode b_Head_addVersion 22 = .ok (.getfield 18, 3) := by decide +kernel
theorem d_Head_addVersion_25 : decode b_Head_addVersion 25 = .ok (.arraylength, 1) := by decide +kernel
theorem d_Head_addVersion_26 : decode b_Head_addVersion 26 = .ok (.if_icmp .ge 20, 3) := by decide +kernel
theorem d_Head_addVersion_29 : decode b_Head_addVersion 29 = .ok (.aload_n 0, 1) := by decide +kernel
theorem d_Head_addVersion_30 : decode b_Head_addVersion 30 = .ok (.getfield 18, 3) := by decide +kernel
theorem d_Head_addVersion_33 : decode b_Head_addVersion 33 = .ok (.iload_n 2, 1) := by decide +kernel
theorem d_Head_addVersion_34 : decode b_Head_addVersion 34 = .ok (.iload_n 1, 1) := by decide +kernel
theorem d_Head_addVersion_35 : decode b_Head_addVersion 35 = .ok (.iastore, 1) := by decide +kernel
theorem d_Head_addVersion_36 : decode b_Head_addVersion 36 = .ok (.aload_n 0, 1) := by decide +kernel
theorem d_Head_addVersion_37 : decode b_Head_addVersion 37 = .ok (.getfield 15, 3) := by decide +kernel
theorem d_Head_addVersion_40 : decode b_Head_addVersion 40 = .ok (.bipush 7, 2) := by decide +kernel
theorem d_Head_addVersion_42 : decode b_Head_addVersion 42 = .ok (.iload_n 2, 1) := by decide +kernel
theorem d_Head_addVersion_43 : decode b_Head_addVersion 43 = .ok (.iconst 1, 1) := by decide +kernel
theorem d_Head_addVersion_44 : decode b_Head_addVersion 44 = .ok (.iadd, 1) := by decide +kernel
theorem d_Head_addVersion_45 : decode b_Head_addVersion 45 = .ok (.iastore, 1) := by decide +kernel
theorem d_Head_addVersion_46 : decode b_Head_addVersion 46 = .ok (.return_, 1) := by decide +kernel
theorem d_Head_addKey_0 : decode b_Head_addKey 0 = .ok (.aload_n 0, 1) := by decide +kernel
theorem d_Head_addKey_1 : decode b_Head_addKey 1 = .ok (.getfield 15, 3) := by decide +kernel
theorem d_Head_addKey_4 : decode b_Head_addKey 4 = .ok (.bipush 9, 2) := by decide +kernel
theorem d_Head_addKey_6 : decode b_Head_addKey 6 = .ok (.dup2, 1) := by decide +kernel
theorem d_Head_addKey_7 : decode b_Head_addKey 7 = .ok (.iaload, 1) := by decide +kernel
theorem d_Head_addKey_8 : decode b_Head_addKey 8 = .ok (.iconst 1, 1) := by decide +kernel
theorem d_Head_addKey_9 : decode b_Head_addKey 9 = .ok (.iload_n 1, 1) := by decide +kernel
theorem d_Head_addKey_10 : decode b_Head_addKey 10 = .ok (.bipush 97, 2) := by decide +kernel
theorem d_Head_addKey_12 : decode b_Head_addKey 12 = .ok (.isub, 1) := by decide +kernel
theorem d_Head_addKey_13 : decode b_Head_addKey 13 = .ok (.ishl, 1) := by decide +kernel
theorem d_Head_addKey_14 : decode b_Head_addKey 14 = .ok (.ior, 1) := by decide +kernel
theorem d_Head_addKey_15 : decode b_Head_addKey 15 = .ok (.iastore, 1) := by decide +kernel
theorem d_Head_addKey_16 : decode b_Head_addKey 16 = .ok (.return_, 1) := by decide +kernel
