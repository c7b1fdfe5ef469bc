theorem dX8_init_0 : decode cX8_init 0 = .ok (.aload_n 0, 1) := by decide +kernel
theorem dX8_init_1 : decode cX8_init 1 = .ok (.invokespecial 3, 3) := by decide +kernel
theorem dX8_init_4 : decode cX8_init 4 = .ok (.aload_n 0, 1) := by decide +kernel
theorem dX8_init_5 : decode cX8_init 5 = .ok (.sipush 940, 3) := by decide +kernel
theorem dX8_init_8 : decode cX8_init 8 = .ok (.newarray .int, 2) := by decide +kernel
theorem dX8_init_10 : decode cX8_init 10 = .ok (.putfield 11, 3) := by decide +kernel
theorem dX8_init_13 : decode cX8_init 13 = .ok (.aload_n 0, 1) := by decide +kernel
theorem dX8_init_14 : decode cX8_init 14 = .ok (.bipush 24, 2) := by decide +kernel
theorem dX8_init_16 : decode cX8_init 16 = .ok (.newarray .long, 2) := by decide +kernel
theorem dX8_init_18 : decode cX8_init 18 = .ok (.putfield 15, 3) := by decide +kernel
theorem dX8_init_21 : decode cX8_init 21 = .ok (.iconst 0, 1) := by decide +kernel
theorem dX8_init_22 : decode cX8_init 22 = .ok (.istore_n 1, 1) := by decide +kernel
theorem dX8_init_23 : decode cX8_init 23 = .ok (.iconst 0, 1) := by decide +kernel
theorem dX8_init_24 : decode cX8_init 24 = .ok (.istore_n 2, 1) := by decide +kernel
theorem dX8_init_25 : decode cX8_init 25 = .ok (.iload_n 2, 1) := by decide +kernel
theorem dX8_init_26 : decode cX8_init 26 = .ok (.ldc 19, 2) := by decide +kernel
theorem dX8_init_28 : decode cX8_init 28 = .ok (.invokevirtual 21, 3) := by decide +kernel
theorem dX8_init_31 : decode cX8_init 31 = .ok (.if_icmp .ge 57, 3) := by decide +kernel
theorem dX8_init_34 : decode cX8_init 34 = .ok (.iload_n 1, 1) := by decide +kernel
theorem dX8_init_35 : decode cX8_init 35 = .ok (.bipush 24, 2) := by decide +kernel
theorem dX8_init_37 : decode cX8_init 37 = .ok (.if_icmp .ge 51, 3) := by decide +kernel
theorem dX8_init_40 : decode cX8_init 40 = .ok (.ldc 19, 2) := by decide +kernel
theorem dX8_init_42 : decode cX8_init 42 = .ok (.iload_n 2, 1) := by decide +kernel
theorem dX8_init_43 : decode cX8_init 43 = .ok (.invokevirtual 27, 3) := by decide +kernel
theorem dX8_init_46 : decode cX8_init 46 = .ok (.istore_n 3, 1) := by decide +kernel
theorem dX8_init_47 : decode cX8_init 47 = .ok (.iload_n 3, 1) := by decide +kernel
theorem dX8_init_48 : decode cX8_init 48 = .ok (.bipush 32, 2) := by decide +kernel
theorem dX8_init_50 : decode cX8_init 50 = .ok (.if_icmp .ne 9, 3) := by decide +kernel
theorem dX8_init_53 : decode cX8_init 53 = .ok (.iinc 1 1, 3) := by decide +kernel
theorem dX8_init_56 : decode cX8_init 56 = .ok (.goto 26, 3) := by decide +kernel
theorem dX8_init_59 : decode cX8_init 59 = .ok (.aload_n 0, 1) := by decide +kernel
theorem dX8_init_60 : decode cX8_init 60 = .ok (.getfield 15, 3) := by decide +kernel
theorem dX8_init_63 : decode cX8_init 63 = .ok (.iload_n 1, 1) := by decide +kernel
theorem dX8_init_64 : decode cX8_init 64 = .ok (.aload_n 0, 1) := by decide +kernel
theorem dX8_init_65 : decode cX8_init 65 = .ok (.getfield 15, 3) := by decide +kernel
theorem dX8_init_68 : decode cX8_init 68 = .ok (.iload_n 1, 1) := by decide +kernel
theorem dX8_init_69 : decode cX8_init 69 = .ok (.laload, 1) := by decide +kernel
theorem dX8_init_70 : decode cX8_init 70 = .ok (.ldc2_w 31, 3) := by decide +kernel
theorem dX8_init_73 : decode cX8_init 73 = .ok (.lmul, 1) := by decide +kernel
theorem dX8_init_74 : decode cX8_init 74 = .ok (.iload_n 3, 1) := by decide +kernel
theorem dX8_init_75 : decode cX8_init 75 = .ok (.i2l, 1) := by decide +kernel
theorem dX8_init_76 : decode cX8_init 76 = .ok (.ladd, 1) := by decide +kernel
theorem dX8_init_77 : decode cX8_init 77 = .ok (.ldc2_w 33, 3) := by decide +kernel
theorem dX8_init_80 : decode cX8_init 80 = .ok (.lsub, 1) := by decide +kernel
theorem dX8_init_81 : decode cX8_init 81 = .ok (.lastore, 1) := by decide +kernel
theorem dX8_init_82 : decode cX8_init 82 = .ok (.iinc 2 1, 3) := by decide +kernel
theorem dX8_init_85 : decode cX8_init 85 = .ok (.goto (-60), 3) := by decide +kernel
theorem dX8_init_88 : decode cX8_init 88 = .ok (.return_, 1) := by decide +kernel
theorem dX8_hasRoomForFeed_0 : decode cX8_hasRoomForFeed 0 = .ok (.aload_n 0, 1) := by decide +kernel
theorem dX8_hasRoomForFeed_1 : decode cX8_hasRoomForFeed 1 = .ok (.getfield 35, 3) := by decide +kernel
theorem dX8_hasRoomForFeed_4 : decode cX8_hasRoomForFeed 4 = .ok (.sipush 920, 3) := by decide +kernel
theorem dX8_hasRoomForFeed_7 : decode cX8_hasRoomForFeed 7 = .ok (.if_icmp .gt 7, 3) := by decide +kernel
theorem dX8_hasRoomForFeed_10 : decode cX8_hasRoomForFeed 10 = .ok (.iconst 1, 1) := by decide +kernel
theorem dX8_hasRoomForFeed_11 : decode cX8_hasRoomForFeed 11 = .ok (.goto 4, 3) := by decide +kernel
theorem dX8_hasRoomForFeed_14 : decode cX8_hasRoomForFeed 14 = .ok (.iconst 0, 1) := by decide +kernel
theorem dX8_hasRoomForFeed_15 : decode cX8_hasRoomForFeed 15 = .ok (.ireturn, 1) := by decide +kernel
theorem dX8_append_0 : decode cX8_append 0 = .ok (.bipush 24, 2) := by decide +kernel
theorem dX8_append_2 : decode cX8_append 2 = .ok (.istore_n 2, 1) := by decide +kernel
theorem dX8_append_3 : decode cX8_append 3 = .ok (.iload_n 2, 1) := by decide +kernel
theorem dX8_append_4 : decode cX8_append 4 = .ok (.ifCond .lt 45, 3) := by decide +kernel
theorem dX8_append_7 : decode cX8_append 7 = .ok (.aload_n 0, 1) := by decide +kernel
theorem dX8_append_8 : decode cX8_append 8 = .ok (.getfield 35, 3) := by decide +kernel
theorem dX8_append_11 : decode cX8_append 11 = .ok (.sipush 940, 3) := by decide +kernel
theorem dX8_append_14 : decode cX8_append 14 = .ok (.if_icmp .ge 35, 3) := by decide +kernel
theorem dX8_append_17 : decode cX8_append 17 = .ok (.aload_n 0, 1) := by decide +kernel
theorem dX8_append_18 : decode cX8_append 18 = .ok (.getfield 11, 3) := by decide +kernel
theorem dX8_append_21 : decode cX8_append 21 = .ok (.aload_n 0, 1) := by decide +kernel
theorem dX8_append_22 : decode cX8_append 22 = .ok (.getfield 35, 3) := by decide +kernel
theorem dX8_append_25 : decode cX8_append 25 = .ok (.iload_n 1, 1) := by decide +kernel
theorem dX8_append_26 : decode cX8_append 26 = .ok (.iload_n 2, 1) := by decide +kernel
theorem dX8_append_27 : decode cX8_append 27 = .ok (.iushr, 1) := by decide +kernel
theorem dX8_append_28 : decode cX8_append 28 = .ok (.sipush 255, 3) := by decide +kernel
theorem dX8_append_31 : decode cX8_append 31 = .ok (.iand, 1) := by decide +kernel
theorem dX8_append_32 : decode cX8_append 32 = .ok (.iastore, 1) := by decide +kernel
theorem dX8_append_33 : decode cX8_append 33 = .ok (.aload_n 0, 1) := by decide +kernel
theorem dX8_append_34 : decode cX8_append 34 = .ok (.dup, 1) := by decide +kernel
theorem dX8_append_35 : decode cX8_append 35 = .ok (.getfield 35, 3) := by decide +kernel
theorem dX8_append_38 : decode cX8_append 38 = .ok (.iconst 1, 1) := by decide +kernel
theorem dX8_append_39 : decode cX8_append 39 = .ok (.iadd, 1) := by decide +kernel
theorem dX8_append_40 : decode cX8_append 40 = .ok (.putfield 35, 3) := by decide +kernel
theorem dX8_append_43 : decode cX8_append 43 = .ok (.iinc 2 (-8), 3) := by decide +kernel
theorem dX8_append_46 : decode cX8_append 46 = .ok (.goto (-43), 3) := by decide +kernel
theorem dX8_append_49 : decode cX8_append 49 = .ok (.return_, 1) := by decide +kernel
theorem dX8_open_0 : decode cX8_open 0 = .ok (.aload_n 0, 1) := by decide +kernel
theorem dX8_open_1 : decode cX8_open 1 = .ok (.aload_n 0, 1) := by decide +kernel
theorem dX8_open_2 : decode cX8_open 2 = .ok (.getfield 35, 3) := by decide +kernel
theorem dX8_open_5 : decode cX8_open 5 = .ok (.iload_n 1, 1) := by decide +kernel
theorem dX8_open_6 : decode cX8_open 6 = .ok (.invokestatic 38, 3) := by decide +kernel
theorem dX8_open_9 : decode cX8_open 9 = .ok (.putfield 44, 3) := by decide +kernel
theorem dX8_open_12 : decode cX8_open 12 = .ok (.aload_n 0, 1) := by decide +kernel
theorem dX8_open_13 : decode cX8_open 13 = .ok (.aload_n 0, 1) := by decide +kernel
theorem dX8_open_14 : decode cX8_open 14 = .ok (.getfield 35, 3) := by decide +kernel
theorem dX8_open_17 : decode cX8_open 17 = .ok (.iload_n 1, 1) := by decide +kernel
theorem dX8_open_18 : decode cX8_open 18 = .ok (.if_icmp .le 7, 3) := by decide +kernel
theorem dX8_open_21 : decode cX8_open 21 = .ok (.iconst 1, 1) := by decide +kernel
theorem dX8_open_22 : decode cX8_open 22 = .ok (.goto 4, 3) := by decide +kernel
theorem dX8_open_25 : decode cX8_open 25 = .ok (.iconst 0, 1) := by decide +kernel
theorem dX8_open_26 : decode cX8_open 26 = .ok (.putfield 47, 3) := by decide +kernel
theorem dX8_open_29 : decode cX8_open 29 = .ok (.aload_n 0, 1) := by decide +kernel
theorem dX8_open_30 : decode cX8_open 30 = .ok (.iconst 0, 1) := by decide +kernel
theorem dX8_open_31 : decode cX8_open 31 = .ok (.putfield 51, 3) := by decide +kernel
theorem dX8_open_34 : decode cX8_open 34 = .ok (.aload_n 0, 1) := by decide +kernel
theorem dX8_open_35 : decode cX8_open 35 = .ok (.iconst 0, 1) := by decide +kernel
theorem dX8_open_36 : decode cX8_open 36 = .ok (.putfield 54, 3) := by decide +kernel
theorem dX8_open_39 : decode cX8_open 39 = .ok (.aload_n 0, 1) := by decide +kernel
theorem dX8_open_40 : decode cX8_open 40 = .ok (.iconst 0, 1) := by decide +kernel
theorem dX8_open_41 : decode cX8_open 41 = .ok (.putfield 57, 3) := by decide +kernel
theorem dX8_open_44 : decode cX8_open 44 = .ok (.aload_n 0, 1) := by decide +kernel
theorem dX8_open_45 : decode cX8_open 45 = .ok (.invokevirtual 60, 3) := by decide +kernel
theorem dX8_open_48 : decode cX8_open 48 = .ok (.return_, 1) := by decide +kernel
theorem dX8_next_0 : decode cX8_next 0 = .ok (.aload_n 0, 1) := by decide +kernel
theorem dX8_next_1 : decode cX8_next 1 = .ok (.getfield 51, 3) := by decide +kernel
theorem dX8_next_4 : decode cX8_next 4 = .ok (.aload_n 0, 1) := by decide +kernel
theorem dX8_next_5 : decode cX8_next 5 = .ok (.getfield 44, 3) := by decide +kernel
theorem dX8_next_8 : decode cX8_next 8 = .ok (.if_icmp .ge 44, 3) := by decide +kernel
theorem dX8_next_11 : decode cX8_next 11 = .ok (.aload_n 0, 1) := by decide +kernel
theorem dX8_next_12 : decode cX8_next 12 = .ok (.getfield 11, 3) := by decide +kernel
theorem dX8_next_15 : decode cX8_next 15 = .ok (.aload_n 0, 1) := by decide +kernel
theorem dX8_next_16 : decode cX8_next 16 = .ok (.getfield 51, 3) := by decide +kernel
theorem dX8_next_19 : decode cX8_next 19 = .ok (.iaload, 1) := by decide +kernel
theorem dX8_next_20 : decode cX8_next 20 = .ok (.bipush 32, 2) := by decide +kernel
theorem dX8_next_22 : decode cX8_next 22 = .ok (.if_icmp .eq 17, 3) := by decide +kernel
theorem dX8_next_25 : decode cX8_next 25 = .ok (.aload_n 0, 1) := by decide +kernel
theorem dX8_next_26 : decode cX8_next 26 = .ok (.getfield 11, 3) := by decide +kernel
theorem dX8_next_29 : decode cX8_next 29 = .ok (.aload_n 0, 1) := by decide +kernel
theorem dX8_next_30 : decode cX8_next 30 = .ok (.getfield 51, 3) := by decide +kernel
theorem dX8_next_33 : decode cX8_next 33 = .ok (.iaload, 1) := by decide +kernel
theorem dX8_next_34 : decode cX8_next 34 = .ok (.bipush 10, 2) := by decide +kernel
theorem dX8_next_36 : decode cX8_next 36 = .ok (.if_icmp .ne 16, 3) := by decide +kernel
theorem dX8_next_39 : decode cX8_next 39 = .ok (.aload_n 0, 1) := by decide +kernel
theorem dX8_next_40 : decode cX8_next 40 = .ok (.dup, 1) := by decide +kernel
theorem dX8_next_41 : decode cX8_next 41 = .ok (.getfield 51, 3) := by decide +kernel
theorem dX8_next_44 : decode cX8_next 44 = .ok (.iconst 1, 1) := by decide +kernel
theorem dX8_next_45 : decode cX8_next 45 = .ok (.iadd, 1) := by decide +kernel
theorem dX8_next_46 : decode cX8_next 46 = .ok (.putfield 51, 3) := by decide +kernel
theorem dX8_next_49 : decode cX8_next 49 = .ok (.goto (-49), 3) := by decide +kernel
theorem dX8_next_52 : decode cX8_next 52 = .ok (.aload_n 0, 1) := by decide +kernel
theorem dX8_next_53 : decode cX8_next 53 = .ok (.aload_n 0, 1) := by decide +kernel
theorem dX8_next_54 : decode cX8_next 54 = .ok (.getfield 51, 3) := by decide +kernel
theorem dX8_next_57 : decode cX8_next 57 = .ok (.aload_n 0, 1) := by decide +kernel
theorem dX8_next_58 : decode cX8_next 58 = .ok (.getfield 44, 3) := by decide +kernel
theorem dX8_next_61 : decode cX8_next 61 = .ok (.invokestatic 38, 3) := by decide +kernel
theorem dX8_next_64 : decode cX8_next 64 = .ok (.putfield 63, 3) := by decide +kernel
theorem dX8_next_67 : decode cX8_next 67 = .ok (.aload_n 0, 1) := by decide +kernel
theorem dX8_next_68 : decode cX8_next 68 = .ok (.iconst (-1), 1) := by decide +kernel
theorem dX8_next_69 : decode cX8_next 69 = .ok (.putfield 66, 3) := by decide +kernel
theorem dX8_next_72 : decode cX8_next 72 = .ok (.aload_n 0, 1) := by decide +kernel
theorem dX8_next_73 : decode cX8_next 73 = .ok (.iconst (-1), 1) := by decide +kernel
theorem dX8_next_74 : decode cX8_next 74 = .ok (.putfield 69, 3) := by decide +kernel
theorem dX8_next_77 : decode cX8_next 77 = .ok (.aload_n 0, 1) := by decide +kernel
theorem dX8_next_78 : decode cX8_next 78 = .ok (.getfield 51, 3) := by decide +kernel
theorem dX8_next_81 : decode cX8_next 81 = .ok (.aload_n 0, 1) := by decide +kernel
theorem dX8_next_82 : decode cX8_next 82 = .ok (.getfield 44, 3) := by decide +kernel
theorem dX8_next_85 : decode cX8_next 85 = .ok (.if_icmp .lt 9, 3) := by decide +kernel
theorem dX8_next_88 : decode cX8_next 88 = .ok (.aload_n 0, 1) := by decide +kernel
theorem dX8_next_89 : decode cX8_next 89 = .ok (.iconst 0, 1) := by decide +kernel
theorem dX8_next_90 : decode cX8_next 90 = .ok (.putfield 72, 3) := by decide +kernel
theorem dX8_next_93 : decode cX8_next 93 = .ok (.return_, 1) := by decide +kernel
theorem dX8_next_94 : decode cX8_next 94 = .ok (.aload_n 0, 1) := by decide +kernel
theorem dX8_next_95 : decode cX8_next 95 = .ok (.invokevirtual 75, 3) := by decide +kernel
theorem dX8_next_98 : decode cX8_next 98 = .ok (.aload_n 0, 1) := by decide +kernel
theorem dX8_next_99 : decode cX8_next 99 = .ok (.getfield 51, 3) := by decide +kernel
theorem dX8_next_102 : decode cX8_next 102 = .ok (.aload_n 0, 1) := by decide +kernel
theorem dX8_next_103 : decode cX8_next 103 = .ok (.getfield 63, 3) := by decide +kernel
theorem dX8_next_106 : decode cX8_next 106 = .ok (.if_icmp .ne 19, 3) := by decide +kernel
theorem dX8_next_109 : decode cX8_next 109 = .ok (.aload_n 0, 1) := by decide +kernel
theorem dX8_next_110 : decode cX8_next 110 = .ok (.aload_n 0, 1) := by decide +kernel
theorem dX8_next_111 : decode cX8_next 111 = .ok (.getfield 11, 3) := by decide +kernel
theorem dX8_next_114 : decode cX8_next 114 = .ok (.aload_n 0, 1) := by decide +kernel
theorem dX8_next_115 : decode cX8_next 115 = .ok (.getfield 51, 3) := by decide +kernel
theorem dX8_next_118 : decode cX8_next 118 = .ok (.iaload, 1) := by decide +kernel
theorem dX8_next_119 : decode cX8_next 119 = .ok (.invokevirtual 78, 3) := by decide +kernel
theorem dX8_next_122 : decode cX8_next 122 = .ok (.goto 23, 3) := by decide +kernel
theorem dX8_next_125 : decode cX8_next 125 = .ok (.aload_n 0, 1) := by decide +kernel
theorem dX8_next_126 : decode cX8_next 126 = .ok (.getfield 72, 3) := by decide +kernel
theorem dX8_next_129 : decode cX8_next 129 = .ok (.iconst 1, 1) := by decide +kernel
theorem dX8_next_130 : decode cX8_next 130 = .ok (.if_icmp .ne 15, 3) := by decide +kernel
theorem dX8_next_133 : decode cX8_next 133 = .ok (.aload_n 0, 1) := by decide +kernel
theorem dX8_next_134 : decode cX8_next 134 = .ok (.aload_n 0, 1) := by decide +kernel
theorem dX8_next_135 : decode cX8_next 135 = .ok (.aload_n 0, 1) := by decide +kernel
theorem dX8_next_136 : decode cX8_next 136 = .ok (.getfield 82, 3) := by decide +kernel
theorem dX8_next_139 : decode cX8_next 139 = .ok (.invokevirtual 86, 3) := by decide +kernel
theorem dX8_next_142 : decode cX8_next 142 = .ok (.putfield 66, 3) := by decide +kernel
theorem dX8_next_145 : decode cX8_next 145 = .ok (.return_, 1) := by decide +kernel
theorem dX8_readRun_0 : decode cX8_readRun 0 = .ok (.iconst 0, 1) := by decide +kernel
theorem dX8_readRun_1 : decode cX8_readRun 1 = .ok (.istore_n 1, 1) := by decide +kernel
theorem dX8_readRun_2 : decode cX8_readRun 2 = .ok (.aload_n 0, 1) := by decide +kernel
theorem dX8_readRun_3 : decode cX8_readRun 3 = .ok (.lconst 0, 1) := by decide +kernel
theorem dX8_readRun_4 : decode cX8_readRun 4 = .ok (.putfield 82, 3) := by decide +kernel
theorem dX8_readRun_7 : decode cX8_readRun 7 = .ok (.aload_n 0, 1) := by decide +kernel
theorem dX8_readRun_8 : decode cX8_readRun 8 = .ok (.iconst 0, 1) := by decide +kernel
theorem dX8_readRun_9 : decode cX8_readRun 9 = .ok (.putfield 90, 3) := by decide +kernel
theorem dX8_readRun_12 : decode cX8_readRun 12 = .ok (.aload_n 0, 1) := by decide +kernel
theorem dX8_readRun_13 : decode cX8_readRun 13 = .ok (.getfield 51, 3) := by decide +kernel
theorem dX8_readRun_16 : decode cX8_readRun 16 = .ok (.aload_n 0, 1) := by decide +kernel
theorem dX8_readRun_17 : decode cX8_readRun 17 = .ok (.getfield 35, 3) := by decide +kernel
theorem dX8_readRun_20 : decode cX8_readRun 20 = .ok (.if_icmp .ge 91, 3) := by decide +kernel
theorem dX8_readRun_23 : decode cX8_readRun 23 = .ok (.aload_n 0, 1) := by decide +kernel
theorem dX8_readRun_24 : decode cX8_readRun 24 = .ok (.getfield 11, 3) := by decide +kernel
theorem dX8_readRun_27 : decode cX8_readRun 27 = .ok (.aload_n 0, 1) := by decide +kernel
theorem dX8_readRun_28 : decode cX8_readRun 28 = .ok (.getfield 51, 3) := by decide +kernel
theorem dX8_readRun_31 : decode cX8_readRun 31 = .ok (.iaload, 1) := by decide +kernel
theorem dX8_readRun_32 : decode cX8_readRun 32 = .ok (.istore_n 2, 1) := by decide +kernel
theorem dX8_readRun_33 : decode cX8_readRun 33 = .ok (.iload_n 2, 1) := by decide +kernel
theorem dX8_readRun_34 : decode cX8_readRun 34 = .ok (.bipush 48, 2) := by decide +kernel
theorem dX8_readRun_36 : decode cX8_readRun 36 = .ok (.if_icmp .lt 31, 3) := by decide +kernel
theorem dX8_readRun_39 : decode cX8_readRun 39 = .ok (.iload_n 2, 1) := by decide +kernel
theorem dX8_readRun_40 : decode cX8_readRun 40 = .ok (.bipush 57, 2) := by decide +kernel
theorem dX8_readRun_42 : decode cX8_readRun 42 = .ok (.if_icmp .gt 25, 3) := by decide +kernel
theorem dX8_readRun_45 : decode cX8_readRun 45 = .ok (.aload_n 0, 1) := by decide +kernel
theorem dX8_readRun_46 : decode cX8_readRun 46 = .ok (.aload_n 0, 1) := by decide +kernel
theorem dX8_readRun_47 : decode cX8_readRun 47 = .ok (.getfield 90, 3) := by decide +kernel
theorem dX8_readRun_50 : decode cX8_readRun 50 = .ok (.bipush 10, 2) := by decide +kernel
theorem dX8_readRun_52 : decode cX8_readRun 52 = .ok (.imul, 1) := by decide +kernel
theorem dX8_readRun_53 : decode cX8_readRun 53 = .ok (.iload_n 2, 1) := by decide +kernel
theorem dX8_readRun_54 : decode cX8_readRun 54 = .ok (.iadd, 1) := by decide +kernel
theorem dX8_readRun_55 : decode cX8_readRun 55 = .ok (.bipush 48, 2) := by decide +kernel
theorem dX8_readRun_57 : decode cX8_readRun 57 = .ok (.isub, 1) := by decide +kernel
theorem dX8_readRun_58 : decode cX8_readRun 58 = .ok (.putfield 90, 3) := by decide +kernel
theorem dX8_readRun_61 : decode cX8_readRun 61 = .ok (.iinc 1 1, 3) := by decide +kernel
theorem dX8_readRun_64 : decode cX8_readRun 64 = .ok (.goto 34, 3) := by decide +kernel
theorem dX8_readRun_67 : decode cX8_readRun 67 = .ok (.iload_n 2, 1) := by decide +kernel
theorem dX8_readRun_68 : decode cX8_readRun 68 = .ok (.bipush 97, 2) := by decide +kernel
theorem dX8_readRun_70 : decode cX8_readRun 70 = .ok (.if_icmp .lt 41, 3) := by decide +kernel
theorem dX8_readRun_73 : decode cX8_readRun 73 = .ok (.iload_n 2, 1) := by decide +kernel
theorem dX8_readRun_74 : decode cX8_readRun 74 = .ok (.bipush 122, 2) := by decide +kernel
theorem dX8_readRun_76 : decode cX8_readRun 76 = .ok (.if_icmp .gt 35, 3) := by decide +kernel
theorem dX8_readRun_79 : decode cX8_readRun 79 = .ok (.aload_n 0, 1) := by decide +kernel
theorem dX8_readRun_80 : decode cX8_readRun 80 = .ok (.aload_n 0, 1) := by decide +kernel
theorem dX8_readRun_81 : decode cX8_readRun 81 = .ok (.getfield 82, 3) := by decide +kernel
theorem dX8_readRun_84 : decode cX8_readRun 84 = .ok (.ldc2_w 31, 3) := by decide +kernel
theorem dX8_readRun_87 : decode cX8_readRun 87 = .ok (.lmul, 1) := by decide +kernel
theorem dX8_readRun_88 : decode cX8_readRun 88 = .ok (.iload_n 2, 1) := by decide +kernel
theorem dX8_readRun_89 : decode cX8_readRun 89 = .ok (.i2l, 1) := by decide +kernel
theorem dX8_readRun_90 : decode cX8_readRun 90 = .ok (.ladd, 1) := by decide +kernel
theorem dX8_readRun_91 : decode cX8_readRun 91 = .ok (.ldc2_w 33, 3) := by decide +kernel
theorem dX8_readRun_94 : decode cX8_readRun 94 = .ok (.lsub, 1) := by decide +kernel
theorem dX8_readRun_95 : decode cX8_readRun 95 = .ok (.putfield 82, 3) := by decide +kernel
theorem dX8_readRun_98 : decode cX8_readRun 98 = .ok (.aload_n 0, 1) := by decide +kernel
theorem dX8_readRun_99 : decode cX8_readRun 99 = .ok (.dup, 1) := by decide +kernel
theorem dX8_readRun_100 : decode cX8_readRun 100 = .ok (.getfield 51, 3) := by decide +kernel
theorem dX8_readRun_103 : decode cX8_readRun 103 = .ok (.iconst 1, 1) := by decide +kernel
theorem dX8_readRun_104 : decode cX8_readRun 104 = .ok (.iadd, 1) := by decide +kernel
theorem dX8_readRun_105 : decode cX8_readRun 105 = .ok (.putfield 51, 3) := by decide +kernel
theorem dX8_readRun_108 : decode cX8_readRun 108 = .ok (.goto (-96), 3) := by decide +kernel
theorem dX8_readRun_111 : decode cX8_readRun 111 = .ok (.aload_n 0, 1) := by decide +kernel
theorem dX8_readRun_112 : decode cX8_readRun 112 = .ok (.getfield 51, 3) := by decide +kernel
theorem dX8_readRun_115 : decode cX8_readRun 115 = .ok (.aload_n 0, 1) := by decide +kernel
theorem dX8_readRun_116 : decode cX8_readRun 116 = .ok (.getfield 63, 3) := by decide +kernel
theorem dX8_readRun_119 : decode cX8_readRun 119 = .ok (.isub, 1) := by decide +kernel
theorem dX8_readRun_120 : decode cX8_readRun 120 = .ok (.istore_n 2, 1) := by decide +kernel
theorem dX8_readRun_121 : decode cX8_readRun 121 = .ok (.iload_n 1, 1) := by decide +kernel
theorem dX8_readRun_122 : decode cX8_readRun 122 = .ok (.ifCond .ne 17, 3) := by decide +kernel
theorem dX8_readRun_125 : decode cX8_readRun 125 = .ok (.iload_n 2, 1) := by decide +kernel
theorem dX8_readRun_126 : decode cX8_readRun 126 = .ok (.bipush 7, 2) := by decide +kernel
theorem dX8_readRun_128 : decode cX8_readRun 128 = .ok (.if_icmp .gt 11, 3) := by decide +kernel
theorem dX8_readRun_131 : decode cX8_readRun 131 = .ok (.aload_n 0, 1) := by decide +kernel
theorem dX8_readRun_132 : decode cX8_readRun 132 = .ok (.iconst 1, 1) := by decide +kernel
theorem dX8_readRun_133 : decode cX8_readRun 133 = .ok (.putfield 72, 3) := by decide +kernel
theorem dX8_readRun_136 : decode cX8_readRun 136 = .ok (.goto 26, 3) := by decide +kernel
theorem dX8_readRun_139 : decode cX8_readRun 139 = .ok (.iload_n 1, 1) := by decide +kernel
theorem dX8_readRun_140 : decode cX8_readRun 140 = .ok (.iload_n 2, 1) := by decide +kernel
theorem dX8_readRun_141 : decode cX8_readRun 141 = .ok (.if_icmp .ne 16, 3) := by decide +kernel
theorem dX8_readRun_144 : decode cX8_readRun 144 = .ok (.iload_n 2, 1) := by decide +kernel
theorem dX8_readRun_145 : decode cX8_readRun 145 = .ok (.iconst 3, 1) := by decide +kernel
theorem dX8_readRun_146 : decode cX8_readRun 146 = .ok (.if_icmp .gt 11, 3) := by decide +kernel
theorem dX8_readRun_149 : decode cX8_readRun 149 = .ok (.aload_n 0, 1) := by decide +kernel
theorem dX8_readRun_150 : decode cX8_readRun 150 = .ok (.iconst 2, 1) := by decide +kernel
theorem dX8_readRun_151 : decode cX8_readRun 151 = .ok (.putfield 72, 3) := by decide +kernel
theorem dX8_readRun_154 : decode cX8_readRun 154 = .ok (.goto 8, 3) := by decide +kernel
theorem dX8_readRun_157 : decode cX8_readRun 157 = .ok (.aload_n 0, 1) := by decide +kernel
theorem dX8_readRun_158 : decode cX8_readRun 158 = .ok (.iconst 4, 1) := by decide +kernel
theorem dX8_readRun_159 : decode cX8_readRun 159 = .ok (.putfield 72, 3) := by decide +kernel
theorem dX8_readRun_162 : decode cX8_readRun 162 = .ok (.return_, 1) := by decide +kernel
theorem dX8_readSign_0 : decode cX8_readSign 0 = .ok (.iload_n 1, 1) := by decide +kernel
theorem dX8_readSign_1 : decode cX8_readSign 1 = .ok (.bipush 59, 2) := by decide +kernel
theorem dX8_readSign_3 : decode cX8_readSign 3 = .ok (.if_icmp .eq 33, 3) := by decide +kernel
theorem dX8_readSign_6 : decode cX8_readSign 6 = .ok (.iload_n 1, 1) := by decide +kernel
theorem dX8_readSign_7 : decode cX8_readSign 7 = .ok (.bipush 60, 2) := by decide +kernel
theorem dX8_readSign_9 : decode cX8_readSign 9 = .ok (.if_icmp .eq 27, 3) := by decide +kernel
theorem dX8_readSign_12 : decode cX8_readSign 12 = .ok (.iload_n 1, 1) := by decide +kernel
theorem dX8_readSign_13 : decode cX8_readSign 13 = .ok (.bipush 61, 2) := by decide +kernel
theorem dX8_readSign_15 : decode cX8_readSign 15 = .ok (.if_icmp .eq 21, 3) := by decide +kernel
theorem dX8_readSign_18 : decode cX8_readSign 18 = .ok (.iload_n 1, 1) := by decide +kernel
theorem dX8_readSign_19 : decode cX8_readSign 19 = .ok (.bipush 62, 2) := by decide +kernel
theorem dX8_readSign_21 : decode cX8_readSign 21 = .ok (.if_icmp .eq 15, 3) := by decide +kernel
theorem dX8_readSign_24 : decode cX8_readSign 24 = .ok (.iload_n 1, 1) := by decide +kernel
theorem dX8_readSign_25 : decode cX8_readSign 25 = .ok (.bipush 40, 2) := by decide +kernel
theorem dX8_readSign_27 : decode cX8_readSign 27 = .ok (.if_icmp .eq 9, 3) := by decide +kernel
theorem dX8_readSign_30 : decode cX8_readSign 30 = .ok (.iload_n 1, 1) := by decide +kernel
theorem dX8_readSign_31 : decode cX8_readSign 31 = .ok (.bipush 41, 2) := by decide +kernel
theorem dX8_readSign_33 : decode cX8_readSign 33 = .ok (.if_icmp .ne 7, 3) := by decide +kernel
theorem dX8_readSign_36 : decode cX8_readSign 36 = .ok (.iconst 1, 1) := by decide +kernel
theorem dX8_readSign_37 : decode cX8_readSign 37 = .ok (.goto 4, 3) := by decide +kernel
theorem dX8_readSign_40 : decode cX8_readSign 40 = .ok (.iconst 0, 1) := by decide +kernel
theorem dX8_readSign_41 : decode cX8_readSign 41 = .ok (.istore_n 2, 1) := by decide +kernel
theorem dX8_readSign_42 : decode cX8_readSign 42 = .ok (.aload_n 0, 1) := by decide +kernel
theorem dX8_readSign_43 : decode cX8_readSign 43 = .ok (.iload_n 2, 1) := by decide +kernel
theorem dX8_readSign_44 : decode cX8_readSign 44 = .ok (.ifCond .eq 7, 3) := by decide +kernel
theorem dX8_readSign_47 : decode cX8_readSign 47 = .ok (.iconst 3, 1) := by decide +kernel
theorem dX8_readSign_48 : decode cX8_readSign 48 = .ok (.goto 4, 3) := by decide +kernel
theorem dX8_readSign_51 : decode cX8_readSign 51 = .ok (.iconst 4, 1) := by decide +kernel
theorem dX8_readSign_52 : decode cX8_readSign 52 = .ok (.putfield 72, 3) := by decide +kernel
theorem dX8_readSign_55 : decode cX8_readSign 55 = .ok (.aload_n 0, 1) := by decide +kernel
theorem dX8_readSign_56 : decode cX8_readSign 56 = .ok (.iload_n 2, 1) := by decide +kernel
theorem dX8_readSign_57 : decode cX8_readSign 57 = .ok (.ifCond .eq 7, 3) := by decide +kernel
theorem dX8_readSign_60 : decode cX8_readSign 60 = .ok (.iload_n 1, 1) := by decide +kernel
theorem dX8_readSign_61 : decode cX8_readSign 61 = .ok (.goto 4, 3) := by decide +kernel
theorem dX8_readSign_64 : decode cX8_readSign 64 = .ok (.iconst (-1), 1) := by decide +kernel
theorem dX8_readSign_65 : decode cX8_readSign 65 = .ok (.putfield 69, 3) := by decide +kernel
theorem dX8_readSign_68 : decode cX8_readSign 68 = .ok (.aload_n 0, 1) := by decide +kernel
theorem dX8_readSign_69 : decode cX8_readSign 69 = .ok (.dup, 1) := by decide +kernel
theorem dX8_readSign_70 : decode cX8_readSign 70 = .ok (.getfield 51, 3) := by decide +kernel
theorem dX8_readSign_73 : decode cX8_readSign 73 = .ok (.iconst 1, 1) := by decide +kernel
theorem dX8_readSign_74 : decode cX8_readSign 74 = .ok (.iadd, 1) := by decide +kernel
theorem dX8_readSign_75 : decode cX8_readSign 75 = .ok (.putfield 51, 3) := by decide +kernel
theorem dX8_readSign_78 : decode cX8_readSign 78 = .ok (.return_, 1) := by decide +kernel
theorem dX8_placeInWords_0 : decode cX8_placeInWords 0 = .ok (.iconst 0, 1) := by decide +kernel
theorem dX8_placeInWords_1 : decode cX8_placeInWords 1 = .ok (.istore_n 3, 1) := by decide +kernel
theorem dX8_placeInWords_2 : decode cX8_placeInWords 2 = .ok (.iload_n 3, 1) := by decide +kernel
theorem dX8_placeInWords_3 : decode cX8_placeInWords 3 = .ok (.bipush 24, 2) := by decide +kernel
theorem dX8_placeInWords_5 : decode cX8_placeInWords 5 = .ok (.if_icmp .ge 22, 3) := by decide +kernel
theorem dX8_placeInWords_8 : decode cX8_placeInWords 8 = .ok (.aload_n 0, 1) := by decide +kernel
theorem dX8_placeInWords_9 : decode cX8_placeInWords 9 = .ok (.getfield 15, 3) := by decide +kernel
theorem dX8_placeInWords_12 : decode cX8_placeInWords 12 = .ok (.iload_n 3, 1) := by decide +kernel
theorem dX8_placeInWords_13 : decode cX8_placeInWords 13 = .ok (.laload, 1) := by decide +kernel
theorem dX8_placeInWords_14 : decode cX8_placeInWords 14 = .ok (.lload_n 1, 1) := by decide +kernel
theorem dX8_placeInWords_15 : decode cX8_placeInWords 15 = .ok (.lcmp, 1) := by decide +kernel
theorem dX8_placeInWords_16 : decode cX8_placeInWords 16 = .ok (.ifCond .ne 5, 3) := by decide +kernel
theorem dX8_placeInWords_19 : decode cX8_placeInWords 19 = .ok (.iload_n 3, 1) := by decide +kernel
theorem dX8_placeInWords_20 : decode cX8_placeInWords 20 = .ok (.ireturn, 1) := by decide +kernel
theorem dX8_placeInWords_21 : decode cX8_placeInWords 21 = .ok (.iinc 3 1, 3) := by decide +kernel
theorem dX8_placeInWords_24 : decode cX8_placeInWords 24 = .ok (.goto (-22), 3) := by decide +kernel
theorem dX8_placeInWords_27 : decode cX8_placeInWords 27 = .ok (.iconst (-1), 1) := by decide +kernel
theorem dX8_placeInWords_28 : decode cX8_placeInWords 28 = .ok (.ireturn, 1) := by decide +kernel
theorem dX8_refuse_0 : decode cX8_refuse 0 = .ok (.aload_n 0, 1) := by decide +kernel
theorem dX8_refuse_1 : decode cX8_refuse 1 = .ok (.iload_n 1, 1) := by decide +kernel
theorem dX8_refuse_2 : decode cX8_refuse 2 = .ok (.putfield 54, 3) := by decide +kernel
theorem dX8_refuse_5 : decode cX8_refuse 5 = .ok (.aload_n 0, 1) := by decide +kernel
theorem dX8_refuse_6 : decode cX8_refuse 6 = .ok (.aload_n 0, 1) := by decide +kernel
theorem dX8_refuse_7 : decode cX8_refuse 7 = .ok (.getfield 63, 3) := by decide +kernel
theorem dX8_refuse_10 : decode cX8_refuse 10 = .ok (.putfield 57, 3) := by decide +kernel
theorem dX8_refuse_13 : decode cX8_refuse 13 = .ok (.iconst 0, 1) := by decide +kernel
theorem dX8_refuse_14 : decode cX8_refuse 14 = .ok (.ireturn, 1) := by decide +kernel
theorem dX8_isAtEnd_0 : decode cX8_isAtEnd 0 = .ok (.aload_n 0, 1) := by decide +kernel
theorem dX8_isAtEnd_1 : decode cX8_isAtEnd 1 = .ok (.getfield 72, 3) := by decide +kernel
theorem dX8_isAtEnd_4 : decode cX8_isAtEnd 4 = .ok (.ifCond .ne 7, 3) := by decide +kernel
theorem dX8_isAtEnd_7 : decode cX8_isAtEnd 7 = .ok (.iconst 1, 1) := by decide +kernel
theorem dX8_isAtEnd_8 : decode cX8_isAtEnd 8 = .ok (.goto 4, 3) := by decide +kernel
theorem dX8_isAtEnd_11 : decode cX8_isAtEnd 11 = .ok (.iconst 0, 1) := by decide +kernel
theorem dX8_isAtEnd_12 : decode cX8_isAtEnd 12 = .ok (.ireturn, 1) := by decide +kernel
theorem dX8_isName_0 : decode cX8_isName 0 = .ok (.aload_n 0, 1) := by decide +kernel
theorem dX8_isName_1 : decode cX8_isName 1 = .ok (.getfield 72, 3) := by decide +kernel
theorem dX8_isName_4 : decode cX8_isName 4 = .ok (.iconst 1, 1) := by decide +kernel
theorem dX8_isName_5 : decode cX8_isName 5 = .ok (.if_icmp .ne 15, 3) := by decide +kernel
theorem dX8_isName_8 : decode cX8_isName 8 = .ok (.aload_n 0, 1) := by decide +kernel
theorem dX8_isName_9 : decode cX8_isName 9 = .ok (.getfield 66, 3) := by decide +kernel
theorem dX8_isName_12 : decode cX8_isName 12 = .ok (.iconst (-1), 1) := by decide +kernel
theorem dX8_isName_13 : decode cX8_isName 13 = .ok (.if_icmp .ne 7, 3) := by decide +kernel
theorem dX8_isName_16 : decode cX8_isName 16 = .ok (.iconst 1, 1) := by decide +kernel
theorem dX8_isName_17 : decode cX8_isName 17 = .ok (.goto 4, 3) := by decide +kernel
theorem dX8_isName_20 : decode cX8_isName 20 = .ok (.iconst 0, 1) := by decide +kernel
theorem dX8_isName_21 : decode cX8_isName 21 = .ok (.ireturn, 1) := by decide +kernel
theorem dX8_passSign_0 : decode cX8_passSign 0 = .ok (.aload_n 0, 1) := by decide +kernel
theorem dX8_passSign_1 : decode cX8_passSign 1 = .ok (.getfield 69, 3) := by decide +kernel
theorem dX8_passSign_4 : decode cX8_passSign 4 = .ok (.iload_n 1, 1) := by decide +kernel
theorem dX8_passSign_5 : decode cX8_passSign 5 = .ok (.if_icmp .eq 9, 3) := by decide +kernel
theorem dX8_passSign_8 : decode cX8_passSign 8 = .ok (.aload_n 0, 1) := by decide +kernel
theorem dX8_passSign_9 : decode cX8_passSign 9 = .ok (.iconst 1, 1) := by decide +kernel
theorem dX8_passSign_10 : decode cX8_passSign 10 = .ok (.invokevirtual 93, 3) := by decide +kernel
theorem dX8_passSign_13 : decode cX8_passSign 13 = .ok (.ireturn, 1) := by decide +kernel
theorem dX8_passSign_14 : decode cX8_passSign 14 = .ok (.aload_n 0, 1) := by decide +kernel
theorem dX8_passSign_15 : decode cX8_passSign 15 = .ok (.invokevirtual 60, 3) := by decide +kernel
theorem dX8_passSign_18 : decode cX8_passSign 18 = .ok (.iconst 1, 1) := by decide +kernel
theorem dX8_passSign_19 : decode cX8_passSign 19 = .ok (.ireturn, 1) := by decide +kernel
theorem dX8_passEnd_0 : decode cX8_passEnd 0 = .ok (.aload_n 0, 1) := by decide +kernel
theorem dX8_passEnd_1 : decode cX8_passEnd 1 = .ok (.getfield 72, 3) := by decide +kernel
theorem dX8_passEnd_4 : decode cX8_passEnd 4 = .ok (.ifCond .ne 10, 3) := by decide +kernel
theorem dX8_passEnd_7 : decode cX8_passEnd 7 = .ok (.aload_n 0, 1) := by decide +kernel
theorem dX8_passEnd_8 : decode cX8_passEnd 8 = .ok (.getfield 47, 3) := by decide +kernel
theorem dX8_passEnd_11 : decode cX8_passEnd 11 = .ok (.ifCond .eq 11, 3) := by decide +kernel
theorem dX8_passEnd_14 : decode cX8_passEnd 14 = .ok (.aload_n 0, 1) := by decide +kernel
theorem dX8_passEnd_15 : decode cX8_passEnd 15 = .ok (.iconst 1, 1) := by decide +kernel
theorem dX8_passEnd_16 : decode cX8_passEnd 16 = .ok (.invokevirtual 93, 3) := by decide +kernel
theorem dX8_passEnd_19 : decode cX8_passEnd 19 = .ok (.ifCond .eq 7, 3) := by decide +kernel
theorem dX8_passEnd_22 : decode cX8_passEnd 22 = .ok (.iconst 1, 1) := by decide +kernel
theorem dX8_passEnd_23 : decode cX8_passEnd 23 = .ok (.goto 4, 3) := by decide +kernel
theorem dX8_passEnd_26 : decode cX8_passEnd 26 = .ok (.iconst 0, 1) := by decide +kernel
theorem dX8_passEnd_27 : decode cX8_passEnd 27 = .ok (.ireturn, 1) := by decide +kernel
theorem dX8_passNumber_0 : decode cX8_passNumber 0 = .ok (.aload_n 0, 1) := by decide +kernel
theorem dX8_passNumber_1 : decode cX8_passNumber 1 = .ok (.getfield 72, 3) := by decide +kernel
theorem dX8_passNumber_4 : decode cX8_passNumber 4 = .ok (.iconst 2, 1) := by decide +kernel
theorem dX8_passNumber_5 : decode cX8_passNumber 5 = .ok (.if_icmp .eq 11, 3) := by decide +kernel
theorem dX8_passNumber_8 : decode cX8_passNumber 8 = .ok (.aload_n 0, 1) := by decide +kernel
theorem dX8_passNumber_9 : decode cX8_passNumber 9 = .ok (.iconst 1, 1) := by decide +kernel
theorem dX8_passNumber_10 : decode cX8_passNumber 10 = .ok (.invokevirtual 93, 3) := by decide +kernel
theorem dX8_passNumber_13 : decode cX8_passNumber 13 = .ok (.pop, 1) := by decide +kernel
theorem dX8_passNumber_14 : decode cX8_passNumber 14 = .ok (.iconst (-1), 1) := by decide +kernel
theorem dX8_passNumber_15 : decode cX8_passNumber 15 = .ok (.ireturn, 1) := by decide +kernel
theorem dX8_passNumber_16 : decode cX8_passNumber 16 = .ok (.aload_n 0, 1) := by decide +kernel
theorem dX8_passNumber_17 : decode cX8_passNumber 17 = .ok (.getfield 90, 3) := by decide +kernel
theorem dX8_passNumber_20 : decode cX8_passNumber 20 = .ok (.iload_n 1, 1) := by decide +kernel
theorem dX8_passNumber_21 : decode cX8_passNumber 21 = .ok (.if_icmp .lt 11, 3) := by decide +kernel
theorem dX8_passNumber_24 : decode cX8_passNumber 24 = .ok (.aload_n 0, 1) := by decide +kernel
theorem dX8_passNumber_25 : decode cX8_passNumber 25 = .ok (.getfield 90, 3) := by decide +kernel
theorem dX8_passNumber_28 : decode cX8_passNumber 28 = .ok (.iload_n 2, 1) := by decide +kernel
theorem dX8_passNumber_29 : decode cX8_passNumber 29 = .ok (.if_icmp .le 11, 3) := by decide +kernel
theorem dX8_passNumber_32 : decode cX8_passNumber 32 = .ok (.aload_n 0, 1) := by decide +kernel
theorem dX8_passNumber_33 : decode cX8_passNumber 33 = .ok (.iconst 2, 1) := by decide +kernel
theorem dX8_passNumber_34 : decode cX8_passNumber 34 = .ok (.invokevirtual 93, 3) := by decide +kernel
theorem dX8_passNumber_37 : decode cX8_passNumber 37 = .ok (.pop, 1) := by decide +kernel
theorem dX8_passNumber_38 : decode cX8_passNumber 38 = .ok (.iconst (-1), 1) := by decide +kernel
theorem dX8_passNumber_39 : decode cX8_passNumber 39 = .ok (.ireturn, 1) := by decide +kernel
theorem dX8_passNumber_40 : decode cX8_passNumber 40 = .ok (.aload_n 0, 1) := by decide +kernel
theorem dX8_passNumber_41 : decode cX8_passNumber 41 = .ok (.getfield 90, 3) := by decide +kernel
theorem dX8_passNumber_44 : decode cX8_passNumber 44 = .ok (.istore_n 3, 1) := by decide +kernel
theorem dX8_passNumber_45 : decode cX8_passNumber 45 = .ok (.aload_n 0, 1) := by decide +kernel
theorem dX8_passNumber_46 : decode cX8_passNumber 46 = .ok (.invokevirtual 60, 3) := by decide +kernel
theorem dX8_passNumber_49 : decode cX8_passNumber 49 = .ok (.iload_n 3, 1) := by decide +kernel
theorem dX8_passNumber_50 : decode cX8_passNumber 50 = .ok (.ireturn, 1) := by decide +kernel
theorem dX8_personHere_0 : decode cX8_personHere 0 = .ok (.aload_n 0, 1) := by decide +kernel
theorem dX8_personHere_1 : decode cX8_personHere 1 = .ok (.invokevirtual 97, 3) := by decide +kernel
theorem dX8_personHere_4 : decode cX8_personHere 4 = .ok (.ifCond .eq 14, 3) := by decide +kernel
theorem dX8_personHere_7 : decode cX8_personHere 7 = .ok (.aload_n 1, 1) := by decide +kernel
theorem dX8_personHere_8 : decode cX8_personHere 8 = .ok (.aload_n 0, 1) := by decide +kernel
theorem dX8_personHere_9 : decode cX8_personHere 9 = .ok (.getfield 82, 3) := by decide +kernel
theorem dX8_personHere_12 : decode cX8_personHere 12 = .ok (.invokevirtual 101, 3) := by decide +kernel
theorem dX8_personHere_15 : decode cX8_personHere 15 = .ok (.goto 4, 3) := by decide +kernel
theorem dX8_personHere_18 : decode cX8_personHere 18 = .ok (.iconst (-1), 1) := by decide +kernel
theorem dX8_personHere_19 : decode cX8_personHere 19 = .ok (.istore_n 2, 1) := by decide +kernel
theorem dX8_personHere_20 : decode cX8_personHere 20 = .ok (.iload_n 2, 1) := by decide +kernel
theorem dX8_personHere_21 : decode cX8_personHere 21 = .ok (.ifCond .lt 9, 3) := by decide +kernel
theorem dX8_personHere_24 : decode cX8_personHere 24 = .ok (.iload_n 2, 1) := by decide +kernel
theorem dX8_personHere_25 : decode cX8_personHere 25 = .ok (.bipush 7, 2) := by decide +kernel
theorem dX8_personHere_27 : decode cX8_personHere 27 = .ok (.if_icmp .lt 22, 3) := by decide +kernel
theorem dX8_personHere_30 : decode cX8_personHere 30 = .ok (.aload_n 0, 1) := by decide +kernel
theorem dX8_personHere_31 : decode cX8_personHere 31 = .ok (.aload_n 0, 1) := by decide +kernel
theorem dX8_personHere_32 : decode cX8_personHere 32 = .ok (.invokevirtual 97, 3) := by decide +kernel
theorem dX8_personHere_35 : decode cX8_personHere 35 = .ok (.ifCond .eq 7, 3) := by decide +kernel
theorem dX8_personHere_38 : decode cX8_personHere 38 = .ok (.iconst 3, 1) := by decide +kernel
theorem dX8_personHere_39 : decode cX8_personHere 39 = .ok (.goto 4, 3) := by decide +kernel
theorem dX8_personHere_42 : decode cX8_personHere 42 = .ok (.iconst 1, 1) := by decide +kernel
theorem dX8_personHere_43 : decode cX8_personHere 43 = .ok (.invokevirtual 93, 3) := by decide +kernel
theorem dX8_personHere_46 : decode cX8_personHere 46 = .ok (.pop, 1) := by decide +kernel
theorem dX8_personHere_47 : decode cX8_personHere 47 = .ok (.iconst (-1), 1) := by decide +kernel
theorem dX8_personHere_48 : decode cX8_personHere 48 = .ok (.ireturn, 1) := by decide +kernel
theorem dX8_personHere_49 : decode cX8_personHere 49 = .ok (.iload_n 2, 1) := by decide +kernel
theorem dX8_personHere_50 : decode cX8_personHere 50 = .ok (.ireturn, 1) := by decide +kernel
theorem dX8_passPerson_0 : decode cX8_passPerson 0 = .ok (.aload_n 0, 1) := by decide +kernel
theorem dX8_passPerson_1 : decode cX8_passPerson 1 = .ok (.aload_n 1, 1) := by decide +kernel
theorem dX8_passPerson_2 : decode cX8_passPerson 2 = .ok (.invokevirtual 106, 3) := by decide +kernel
theorem dX8_passPerson_5 : decode cX8_passPerson 5 = .ok (.istore_n 2, 1) := by decide +kernel
theorem dX8_passPerson_6 : decode cX8_passPerson 6 = .ok (.iload_n 2, 1) := by decide +kernel
theorem dX8_passPerson_7 : decode cX8_passPerson 7 = .ok (.iconst (-1), 1) := by decide +kernel
theorem dX8_passPerson_8 : decode cX8_passPerson 8 = .ok (.if_icmp .eq 7, 3) := by decide +kernel
theorem dX8_passPerson_11 : decode cX8_passPerson 11 = .ok (.aload_n 0, 1) := by decide +kernel
theorem dX8_passPerson_12 : decode cX8_passPerson 12 = .ok (.invokevirtual 60, 3) := by decide +kernel
theorem dX8_passPerson_15 : decode cX8_passPerson 15 = .ok (.iload_n 2, 1) := by decide +kernel
theorem dX8_passPerson_16 : decode cX8_passPerson 16 = .ok (.ireturn, 1) := by decide +kernel
theorem dX8_goodHere_0 : decode cX8_goodHere 0 = .ok (.aload_n 0, 1) := by decide +kernel
theorem dX8_goodHere_1 : decode cX8_goodHere 1 = .ok (.invokevirtual 97, 3) := by decide +kernel
theorem dX8_goodHere_4 : decode cX8_goodHere 4 = .ok (.ifCond .eq 14, 3) := by decide +kernel
theorem dX8_goodHere_7 : decode cX8_goodHere 7 = .ok (.aload_n 1, 1) := by decide +kernel
theorem dX8_goodHere_8 : decode cX8_goodHere 8 = .ok (.aload_n 0, 1) := by decide +kernel
theorem dX8_goodHere_9 : decode cX8_goodHere 9 = .ok (.getfield 82, 3) := by decide +kernel
theorem dX8_goodHere_12 : decode cX8_goodHere 12 = .ok (.invokevirtual 101, 3) := by decide +kernel
theorem dX8_goodHere_15 : decode cX8_goodHere 15 = .ok (.goto 4, 3) := by decide +kernel
theorem dX8_goodHere_18 : decode cX8_goodHere 18 = .ok (.iconst (-1), 1) := by decide +kernel
theorem dX8_goodHere_19 : decode cX8_goodHere 19 = .ok (.istore_n 2, 1) := by decide +kernel
theorem dX8_goodHere_20 : decode cX8_goodHere 20 = .ok (.iload_n 2, 1) := by decide +kernel
theorem dX8_goodHere_21 : decode cX8_goodHere 21 = .ok (.bipush 7, 2) := by decide +kernel
theorem dX8_goodHere_23 : decode cX8_goodHere 23 = .ok (.if_icmp .ge 22, 3) := by decide +kernel
theorem dX8_goodHere_26 : decode cX8_goodHere 26 = .ok (.aload_n 0, 1) := by decide +kernel
theorem dX8_goodHere_27 : decode cX8_goodHere 27 = .ok (.aload_n 0, 1) := by decide +kernel
theorem dX8_goodHere_28 : decode cX8_goodHere 28 = .ok (.invokevirtual 97, 3) := by decide +kernel
theorem dX8_goodHere_31 : decode cX8_goodHere 31 = .ok (.ifCond .eq 7, 3) := by decide +kernel
theorem dX8_goodHere_34 : decode cX8_goodHere 34 = .ok (.iconst 3, 1) := by decide +kernel
theorem dX8_goodHere_35 : decode cX8_goodHere 35 = .ok (.goto 4, 3) := by decide +kernel
theorem dX8_goodHere_38 : decode cX8_goodHere 38 = .ok (.iconst 1, 1) := by decide +kernel
theorem dX8_goodHere_39 : decode cX8_goodHere 39 = .ok (.invokevirtual 93, 3) := by decide +kernel
theorem dX8_goodHere_42 : decode cX8_goodHere 42 = .ok (.pop, 1) := by decide +kernel
theorem dX8_goodHere_43 : decode cX8_goodHere 43 = .ok (.iconst (-1), 1) := by decide +kernel
theorem dX8_goodHere_44 : decode cX8_goodHere 44 = .ok (.ireturn, 1) := by decide +kernel
theorem dX8_goodHere_45 : decode cX8_goodHere 45 = .ok (.iload_n 2, 1) := by decide +kernel
theorem dX8_goodHere_46 : decode cX8_goodHere 46 = .ok (.bipush 7, 2) := by decide +kernel
theorem dX8_goodHere_48 : decode cX8_goodHere 48 = .ok (.isub, 1) := by decide +kernel
theorem dX8_goodHere_49 : decode cX8_goodHere 49 = .ok (.ireturn, 1) := by decide +kernel
theorem dX8_passGood_0 : decode cX8_passGood 0 = .ok (.aload_n 0, 1) := by decide +kernel
theorem dX8_passGood_1 : decode cX8_passGood 1 = .ok (.aload_n 1, 1) := by decide +kernel
theorem dX8_passGood_2 : decode cX8_passGood 2 = .ok (.invokevirtual 110, 3) := by decide +kernel
theorem dX8_passGood_5 : decode cX8_passGood 5 = .ok (.istore_n 2, 1) := by decide +kernel
theorem dX8_passGood_6 : decode cX8_passGood 6 = .ok (.iload_n 2, 1) := by decide +kernel
theorem dX8_passGood_7 : decode cX8_passGood 7 = .ok (.iconst (-1), 1) := by decide +kernel
theorem dX8_passGood_8 : decode cX8_passGood 8 = .ok (.if_icmp .eq 7, 3) := by decide +kernel
theorem dX8_passGood_11 : decode cX8_passGood 11 = .ok (.aload_n 0, 1) := by decide +kernel
theorem dX8_passGood_12 : decode cX8_passGood 12 = .ok (.invokevirtual 60, 3) := by decide +kernel
theorem dX8_passGood_15 : decode cX8_passGood 15 = .ok (.iload_n 2, 1) := by decide +kernel
theorem dX8_passGood_16 : decode cX8_passGood 16 = .ok (.ireturn, 1) := by decide +kernel
