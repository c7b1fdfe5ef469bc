theorem dX5_init_0 : decode cX5_init 0 = .ok (.aload_n 0, 1) := by decide +kernel
theorem dX5_init_1 : decode cX5_init 1 = .ok (.invokespecial 3, 3) := by decide +kernel
theorem dX5_init_4 : decode cX5_init 4 = .ok (.aload_n 0, 1) := by decide +kernel
theorem dX5_init_5 : decode cX5_init 5 = .ok (.bipush 80, 2) := by decide +kernel
theorem dX5_init_7 : decode cX5_init 7 = .ok (.newarray .int, 2) := by decide +kernel
theorem dX5_init_9 : decode cX5_init 9 = .ok (.putfield 11, 3) := by decide +kernel
theorem dX5_init_12 : decode cX5_init 12 = .ok (.return_, 1) := by decide +kernel
theorem dX5_signAt_0 : decode cX5_signAt 0 = .ok (.iload_n 1, 1) := by decide +kernel
theorem dX5_signAt_1 : decode cX5_signAt 1 = .ok (.ifCond .lt 26, 3) := by decide +kernel
theorem dX5_signAt_4 : decode cX5_signAt 4 = .ok (.iload_n 1, 1) := by decide +kernel
theorem dX5_signAt_5 : decode cX5_signAt 5 = .ok (.aload_n 0, 1) := by decide +kernel
theorem dX5_signAt_6 : decode cX5_signAt 6 = .ok (.getfield 15, 3) := by decide +kernel
theorem dX5_signAt_9 : decode cX5_signAt 9 = .ok (.if_icmp .ge 18, 3) := by decide +kernel
theorem dX5_signAt_12 : decode cX5_signAt 12 = .ok (.iload_n 1, 1) := by decide +kernel
theorem dX5_signAt_13 : decode cX5_signAt 13 = .ok (.bipush 80, 2) := by decide +kernel
theorem dX5_signAt_15 : decode cX5_signAt 15 = .ok (.if_icmp .ge 12, 3) := by decide +kernel
theorem dX5_signAt_18 : decode cX5_signAt 18 = .ok (.aload_n 0, 1) := by decide +kernel
theorem dX5_signAt_19 : decode cX5_signAt 19 = .ok (.getfield 11, 3) := by decide +kernel
theorem dX5_signAt_22 : decode cX5_signAt 22 = .ok (.iload_n 1, 1) := by decide +kernel
theorem dX5_signAt_23 : decode cX5_signAt 23 = .ok (.iaload, 1) := by decide +kernel
theorem dX5_signAt_24 : decode cX5_signAt 24 = .ok (.goto 4, 3) := by decide +kernel
theorem dX5_signAt_27 : decode cX5_signAt 27 = .ok (.iconst (-1), 1) := by decide +kernel
theorem dX5_signAt_28 : decode cX5_signAt 28 = .ok (.ireturn, 1) := by decide +kernel
theorem dX5_draw_0 : decode cX5_draw 0 = .ok (.aload_n 0, 1) := by decide +kernel
theorem dX5_draw_1 : decode cX5_draw 1 = .ok (.iconst 0, 1) := by decide +kernel
theorem dX5_draw_2 : decode cX5_draw 2 = .ok (.putfield 15, 3) := by decide +kernel
theorem dX5_draw_5 : decode cX5_draw 5 = .ok (.aload_n 0, 1) := by decide +kernel
theorem dX5_draw_6 : decode cX5_draw 6 = .ok (.aload_n 2, 1) := by decide +kernel
theorem dX5_draw_7 : decode cX5_draw 7 = .ok (.getfield 19, 3) := by decide +kernel
theorem dX5_draw_10 : decode cX5_draw 10 = .ok (.iload_n 1, 1) := by decide +kernel
theorem dX5_draw_11 : decode cX5_draw 11 = .ok (.laload, 1) := by decide +kernel
theorem dX5_draw_12 : decode cX5_draw 12 = .ok (.invokevirtual 25, 3) := by decide +kernel
theorem dX5_draw_15 : decode cX5_draw 15 = .ok (.aload_n 0, 1) := by decide +kernel
theorem dX5_draw_16 : decode cX5_draw 16 = .ok (.ldc 29, 2) := by decide +kernel
theorem dX5_draw_18 : decode cX5_draw 18 = .ok (.invokevirtual 31, 3) := by decide +kernel
theorem dX5_draw_21 : decode cX5_draw 21 = .ok (.aload_n 3, 1) := by decide +kernel
theorem dX5_draw_22 : decode cX5_draw 22 = .ok (.iload_n 1, 1) := by decide +kernel
theorem dX5_draw_23 : decode cX5_draw 23 = .ok (.invokevirtual 35, 3) := by decide +kernel
theorem dX5_draw_26 : decode cX5_draw 26 = .ok (.istore 4, 2) := by decide +kernel
theorem dX5_draw_28 : decode cX5_draw 28 = .ok (.iconst 0, 1) := by decide +kernel
theorem dX5_draw_29 : decode cX5_draw 29 = .ok (.istore 5, 2) := by decide +kernel
theorem dX5_draw_31 : decode cX5_draw 31 = .ok (.iload 5, 2) := by decide +kernel
theorem dX5_draw_33 : decode cX5_draw 33 = .ok (.aload_n 2, 1) := by decide +kernel
theorem dX5_draw_34 : decode cX5_draw 34 = .ok (.getfield 41, 3) := by decide +kernel
theorem dX5_draw_37 : decode cX5_draw 37 = .ok (.if_icmp .ge 36, 3) := by decide +kernel
theorem dX5_draw_40 : decode cX5_draw 40 = .ok (.iload 4, 2) := by decide +kernel
theorem dX5_draw_42 : decode cX5_draw 42 = .ok (.iload 5, 2) := by decide +kernel
theorem dX5_draw_44 : decode cX5_draw 44 = .ok (.invokestatic 44, 3) := by decide +kernel
theorem dX5_draw_47 : decode cX5_draw 47 = .ok (.ifCond .eq 20, 3) := by decide +kernel
theorem dX5_draw_50 : decode cX5_draw 50 = .ok (.aload_n 0, 1) := by decide +kernel
theorem dX5_draw_51 : decode cX5_draw 51 = .ok (.bipush 32, 2) := by decide +kernel
theorem dX5_draw_53 : decode cX5_draw 53 = .ok (.invokevirtual 48, 3) := by decide +kernel
theorem dX5_draw_56 : decode cX5_draw 56 = .ok (.aload_n 0, 1) := by decide +kernel
theorem dX5_draw_57 : decode cX5_draw 57 = .ok (.aload_n 2, 1) := by decide +kernel
theorem dX5_draw_58 : decode cX5_draw 58 = .ok (.getfield 19, 3) := by decide +kernel
theorem dX5_draw_61 : decode cX5_draw 61 = .ok (.iload 5, 2) := by decide +kernel
theorem dX5_draw_63 : decode cX5_draw 63 = .ok (.laload, 1) := by decide +kernel
theorem dX5_draw_64 : decode cX5_draw 64 = .ok (.invokevirtual 25, 3) := by decide +kernel
theorem dX5_draw_67 : decode cX5_draw 67 = .ok (.iinc 5 1, 3) := by decide +kernel
theorem dX5_draw_70 : decode cX5_draw 70 = .ok (.goto (-39), 3) := by decide +kernel
theorem dX5_draw_73 : decode cX5_draw 73 = .ok (.iload 4, 2) := by decide +kernel
theorem dX5_draw_75 : decode cX5_draw 75 = .ok (.ifCond .ne 9, 3) := by decide +kernel
theorem dX5_draw_78 : decode cX5_draw 78 = .ok (.aload_n 0, 1) := by decide +kernel
theorem dX5_draw_79 : decode cX5_draw 79 = .ok (.ldc 52, 2) := by decide +kernel
theorem dX5_draw_81 : decode cX5_draw 81 = .ok (.invokevirtual 31, 3) := by decide +kernel
theorem dX5_draw_84 : decode cX5_draw 84 = .ok (.aload_n 3, 1) := by decide +kernel
theorem dX5_draw_85 : decode cX5_draw 85 = .ok (.getfield 54, 3) := by decide +kernel
theorem dX5_draw_88 : decode cX5_draw 88 = .ok (.iload_n 1, 1) := by decide +kernel
theorem dX5_draw_89 : decode cX5_draw 89 = .ok (.invokestatic 44, 3) := by decide +kernel
theorem dX5_draw_92 : decode cX5_draw 92 = .ok (.ifCond .eq 9, 3) := by decide +kernel
theorem dX5_draw_95 : decode cX5_draw 95 = .ok (.aload_n 0, 1) := by decide +kernel
theorem dX5_draw_96 : decode cX5_draw 96 = .ok (.ldc 57, 2) := by decide +kernel
theorem dX5_draw_98 : decode cX5_draw 98 = .ok (.invokevirtual 31, 3) := by decide +kernel
theorem dX5_draw_101 : decode cX5_draw 101 = .ok (.aload_n 3, 1) := by decide +kernel
theorem dX5_draw_102 : decode cX5_draw 102 = .ok (.getfield 59, 3) := by decide +kernel
theorem dX5_draw_105 : decode cX5_draw 105 = .ok (.iload_n 1, 1) := by decide +kernel
theorem dX5_draw_106 : decode cX5_draw 106 = .ok (.invokestatic 44, 3) := by decide +kernel
theorem dX5_draw_109 : decode cX5_draw 109 = .ok (.ifCond .eq 9, 3) := by decide +kernel
theorem dX5_draw_112 : decode cX5_draw 112 = .ok (.aload_n 0, 1) := by decide +kernel
theorem dX5_draw_113 : decode cX5_draw 113 = .ok (.ldc 62, 2) := by decide +kernel
theorem dX5_draw_115 : decode cX5_draw 115 = .ok (.invokevirtual 31, 3) := by decide +kernel
theorem dX5_draw_118 : decode cX5_draw 118 = .ok (.return_, 1) := by decide +kernel
theorem dX5_add_0 : decode cX5_add 0 = .ok (.aload_n 0, 1) := by decide +kernel
theorem dX5_add_1 : decode cX5_add 1 = .ok (.getfield 15, 3) := by decide +kernel
theorem dX5_add_4 : decode cX5_add 4 = .ok (.bipush 80, 2) := by decide +kernel
theorem dX5_add_6 : decode cX5_add 6 = .ok (.if_icmp .ge 23, 3) := by decide +kernel
theorem dX5_add_9 : decode cX5_add 9 = .ok (.aload_n 0, 1) := by decide +kernel
theorem dX5_add_10 : decode cX5_add 10 = .ok (.getfield 11, 3) := by decide +kernel
theorem dX5_add_13 : decode cX5_add 13 = .ok (.aload_n 0, 1) := by decide +kernel
theorem dX5_add_14 : decode cX5_add 14 = .ok (.getfield 15, 3) := by decide +kernel
theorem dX5_add_17 : decode cX5_add 17 = .ok (.iload_n 1, 1) := by decide +kernel
theorem dX5_add_18 : decode cX5_add 18 = .ok (.iastore, 1) := by decide +kernel
theorem dX5_add_19 : decode cX5_add 19 = .ok (.aload_n 0, 1) := by decide +kernel
theorem dX5_add_20 : decode cX5_add 20 = .ok (.dup, 1) := by decide +kernel
theorem dX5_add_21 : decode cX5_add 21 = .ok (.getfield 15, 3) := by decide +kernel
theorem dX5_add_24 : decode cX5_add 24 = .ok (.iconst 1, 1) := by decide +kernel
theorem dX5_add_25 : decode cX5_add 25 = .ok (.iadd, 1) := by decide +kernel
theorem dX5_add_26 : decode cX5_add 26 = .ok (.putfield 15, 3) := by decide +kernel
theorem dX5_add_29 : decode cX5_add 29 = .ok (.return_, 1) := by decide +kernel
theorem dX5_addText_0 : decode cX5_addText 0 = .ok (.iconst 0, 1) := by decide +kernel
theorem dX5_addText_1 : decode cX5_addText 1 = .ok (.istore_n 2, 1) := by decide +kernel
theorem dX5_addText_2 : decode cX5_addText 2 = .ok (.iload_n 2, 1) := by decide +kernel
theorem dX5_addText_3 : decode cX5_addText 3 = .ok (.aload_n 1, 1) := by decide +kernel
theorem dX5_addText_4 : decode cX5_addText 4 = .ok (.invokevirtual 64, 3) := by decide +kernel
theorem dX5_addText_7 : decode cX5_addText 7 = .ok (.if_icmp .ge 18, 3) := by decide +kernel
theorem dX5_addText_10 : decode cX5_addText 10 = .ok (.aload_n 0, 1) := by decide +kernel
theorem dX5_addText_11 : decode cX5_addText 11 = .ok (.aload_n 1, 1) := by decide +kernel
theorem dX5_addText_12 : decode cX5_addText 12 = .ok (.iload_n 2, 1) := by decide +kernel
theorem dX5_addText_13 : decode cX5_addText 13 = .ok (.invokevirtual 69, 3) := by decide +kernel
theorem dX5_addText_16 : decode cX5_addText 16 = .ok (.invokevirtual 48, 3) := by decide +kernel
theorem dX5_addText_19 : decode cX5_addText 19 = .ok (.iinc 2 1, 3) := by decide +kernel
theorem dX5_addText_22 : decode cX5_addText 22 = .ok (.goto (-20), 3) := by decide +kernel
theorem dX5_addText_25 : decode cX5_addText 25 = .ok (.return_, 1) := by decide +kernel
theorem dX5_addName_0 : decode cX5_addName 0 = .ok (.bipush 30, 2) := by decide +kernel
theorem dX5_addName_2 : decode cX5_addName 2 = .ok (.istore_n 3, 1) := by decide +kernel
theorem dX5_addName_3 : decode cX5_addName 3 = .ok (.iload_n 3, 1) := by decide +kernel
theorem dX5_addName_4 : decode cX5_addName 4 = .ok (.ifCond .lt 32, 3) := by decide +kernel
theorem dX5_addName_7 : decode cX5_addName 7 = .ok (.lload_n 1, 1) := by decide +kernel
theorem dX5_addName_8 : decode cX5_addName 8 = .ok (.iload_n 3, 1) := by decide +kernel
theorem dX5_addName_9 : decode cX5_addName 9 = .ok (.lushr, 1) := by decide +kernel
theorem dX5_addName_10 : decode cX5_addName 10 = .ok (.l2i, 1) := by decide +kernel
theorem dX5_addName_11 : decode cX5_addName 11 = .ok (.bipush 31, 2) := by decide +kernel
theorem dX5_addName_13 : decode cX5_addName 13 = .ok (.iand, 1) := by decide +kernel
theorem dX5_addName_14 : decode cX5_addName 14 = .ok (.istore 4, 2) := by decide +kernel
theorem dX5_addName_16 : decode cX5_addName 16 = .ok (.iload 4, 2) := by decide +kernel
theorem dX5_addName_18 : decode cX5_addName 18 = .ok (.ifCond .le 12, 3) := by decide +kernel
theorem dX5_addName_21 : decode cX5_addName 21 = .ok (.aload_n 0, 1) := by decide +kernel
theorem dX5_addName_22 : decode cX5_addName 22 = .ok (.iload 4, 2) := by decide +kernel
theorem dX5_addName_24 : decode cX5_addName 24 = .ok (.bipush 96, 2) := by decide +kernel
theorem dX5_addName_26 : decode cX5_addName 26 = .ok (.iadd, 1) := by decide +kernel
theorem dX5_addName_27 : decode cX5_addName 27 = .ok (.invokevirtual 48, 3) := by decide +kernel
theorem dX5_addName_30 : decode cX5_addName 30 = .ok (.iinc 3 (-5), 3) := by decide +kernel
theorem dX5_addName_33 : decode cX5_addName 33 = .ok (.goto (-30), 3) := by decide +kernel
theorem dX5_addName_36 : decode cX5_addName 36 = .ok (.return_, 1) := by decide +kernel
