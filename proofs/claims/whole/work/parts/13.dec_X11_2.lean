theorem dX11_feed_0 : decode cX11_feed 0 = .ok (.aload_n 0, 1) := by decide +kernel
theorem dX11_feed_1 : decode cX11_feed 1 = .ok (.iconst 0, 1) := by decide +kernel
theorem dX11_feed_2 : decode cX11_feed 2 = .ok (.putfield 1, 3) := by decide +kernel
theorem dX11_feed_5 : decode cX11_feed 5 = .ok (.aload_n 0, 1) := by decide +kernel
theorem dX11_feed_6 : decode cX11_feed 6 = .ok (.getfield 7, 3) := by decide +kernel
theorem dX11_feed_9 : decode cX11_feed 9 = .ok (.bipush 20, 2) := by decide +kernel
theorem dX11_feed_11 : decode cX11_feed 11 = .ok (.iadd, 1) := by decide +kernel
theorem dX11_feed_12 : decode cX11_feed 12 = .ok (.sipush 940, 3) := by decide +kernel
theorem dX11_feed_15 : decode cX11_feed 15 = .ok (.if_icmp .le 5, 3) := by decide +kernel
theorem dX11_feed_18 : decode cX11_feed 18 = .ok (.iconst (-1), 1) := by decide +kernel
theorem dX11_feed_19 : decode cX11_feed 19 = .ok (.ireturn, 1) := by decide +kernel
theorem dX11_feed_20 : decode cX11_feed 20 = .ok (.aload_n 0, 1) := by decide +kernel
theorem dX11_feed_21 : decode cX11_feed 21 = .ok (.iload_n 1, 1) := by decide +kernel
theorem dX11_feed_22 : decode cX11_feed 22 = .ok (.invokevirtual 10, 3) := by decide +kernel
theorem dX11_feed_25 : decode cX11_feed 25 = .ok (.aload_n 0, 1) := by decide +kernel
theorem dX11_feed_26 : decode cX11_feed 26 = .ok (.iload_n 2, 1) := by decide +kernel
theorem dX11_feed_27 : decode cX11_feed 27 = .ok (.invokevirtual 10, 3) := by decide +kernel
theorem dX11_feed_30 : decode cX11_feed 30 = .ok (.aload_n 0, 1) := by decide +kernel
theorem dX11_feed_31 : decode cX11_feed 31 = .ok (.iload_n 3, 1) := by decide +kernel
theorem dX11_feed_32 : decode cX11_feed 32 = .ok (.invokevirtual 10, 3) := by decide +kernel
theorem dX11_feed_35 : decode cX11_feed 35 = .ok (.aload_n 0, 1) := by decide +kernel
theorem dX11_feed_36 : decode cX11_feed 36 = .ok (.iload 4, 2) := by decide +kernel
theorem dX11_feed_38 : decode cX11_feed 38 = .ok (.invokevirtual 10, 3) := by decide +kernel
theorem dX11_feed_41 : decode cX11_feed 41 = .ok (.aload_n 0, 1) := by decide +kernel
theorem dX11_feed_42 : decode cX11_feed 42 = .ok (.iload 5, 2) := by decide +kernel
theorem dX11_feed_44 : decode cX11_feed 44 = .ok (.invokevirtual 10, 3) := by decide +kernel
theorem dX11_feed_47 : decode cX11_feed 47 = .ok (.aload_n 0, 1) := by decide +kernel
theorem dX11_feed_48 : decode cX11_feed 48 = .ok (.getfield 7, 3) := by decide +kernel
theorem dX11_feed_51 : decode cX11_feed 51 = .ok (.ireturn, 1) := by decide +kernel
theorem dX11_isIn_0 : decode cX11_isIn 0 = .ok (.iload_n 0, 1) := by decide +kernel
theorem dX11_isIn_1 : decode cX11_isIn 1 = .ok (.iload_n 1, 1) := by decide +kernel
theorem dX11_isIn_2 : decode cX11_isIn 2 = .ok (.if_icmp .lt 12, 3) := by decide +kernel
theorem dX11_isIn_5 : decode cX11_isIn 5 = .ok (.iload_n 0, 1) := by decide +kernel
theorem dX11_isIn_6 : decode cX11_isIn 6 = .ok (.iload_n 2, 1) := by decide +kernel
theorem dX11_isIn_7 : decode cX11_isIn 7 = .ok (.if_icmp .gt 7, 3) := by decide +kernel
theorem dX11_isIn_10 : decode cX11_isIn 10 = .ok (.iconst 1, 1) := by decide +kernel
theorem dX11_isIn_11 : decode cX11_isIn 11 = .ok (.goto 4, 3) := by decide +kernel
theorem dX11_isIn_14 : decode cX11_isIn 14 = .ok (.iconst 0, 1) := by decide +kernel
theorem dX11_isIn_15 : decode cX11_isIn 15 = .ok (.ireturn, 1) := by decide +kernel
theorem dX11_bits_0 : decode cX11_bits 0 = .ok (.iconst 0, 1) := by decide +kernel
theorem dX11_bits_1 : decode cX11_bits 1 = .ok (.istore_n 1, 1) := by decide +kernel
theorem dX11_bits_2 : decode cX11_bits 2 = .ok (.iload_n 0, 1) := by decide +kernel
theorem dX11_bits_3 : decode cX11_bits 3 = .ok (.istore_n 2, 1) := by decide +kernel
theorem dX11_bits_4 : decode cX11_bits 4 = .ok (.iload_n 2, 1) := by decide +kernel
theorem dX11_bits_5 : decode cX11_bits 5 = .ok (.ifCond .eq 15, 3) := by decide +kernel
theorem dX11_bits_8 : decode cX11_bits 8 = .ok (.iinc 1 1, 3) := by decide +kernel
theorem dX11_bits_11 : decode cX11_bits 11 = .ok (.iload_n 2, 1) := by decide +kernel
theorem dX11_bits_12 : decode cX11_bits 12 = .ok (.iload_n 2, 1) := by decide +kernel
theorem dX11_bits_13 : decode cX11_bits 13 = .ok (.iconst 1, 1) := by decide +kernel
theorem dX11_bits_14 : decode cX11_bits 14 = .ok (.isub, 1) := by decide +kernel
theorem dX11_bits_15 : decode cX11_bits 15 = .ok (.iand, 1) := by decide +kernel
theorem dX11_bits_16 : decode cX11_bits 16 = .ok (.istore_n 2, 1) := by decide +kernel
theorem dX11_bits_17 : decode cX11_bits 17 = .ok (.goto (-13), 3) := by decide +kernel
theorem dX11_bits_20 : decode cX11_bits 20 = .ok (.iload_n 1, 1) := by decide +kernel
theorem dX11_bits_21 : decode cX11_bits 21 = .ok (.ireturn, 1) := by decide +kernel
theorem dX11_peek_0 : decode cX11_peek 0 = .ok (.aload_n 0, 1) := by decide +kernel
theorem dX11_peek_1 : decode cX11_peek 1 = .ok (.getfield 21, 3) := by decide +kernel
theorem dX11_peek_4 : decode cX11_peek 4 = .ok (.aload_n 0, 1) := by decide +kernel
theorem dX11_peek_5 : decode cX11_peek 5 = .ok (.getfield 18, 3) := by decide +kernel
theorem dX11_peek_8 : decode cX11_peek 8 = .ok (.if_icmp .ge 19, 3) := by decide +kernel
theorem dX11_peek_11 : decode cX11_peek 11 = .ok (.aload_n 0, 1) := by decide +kernel
theorem dX11_peek_12 : decode cX11_peek 12 = .ok (.getfield 14, 3) := by decide +kernel
theorem dX11_peek_15 : decode cX11_peek 15 = .ok (.aload_n 0, 1) := by decide +kernel
theorem dX11_peek_16 : decode cX11_peek 16 = .ok (.getfield 21, 3) := by decide +kernel
theorem dX11_peek_19 : decode cX11_peek 19 = .ok (.baload, 1) := by decide +kernel
theorem dX11_peek_20 : decode cX11_peek 20 = .ok (.sipush 255, 3) := by decide +kernel
theorem dX11_peek_23 : decode cX11_peek 23 = .ok (.iand, 1) := by decide +kernel
theorem dX11_peek_24 : decode cX11_peek 24 = .ok (.goto 4, 3) := by decide +kernel
theorem dX11_peek_27 : decode cX11_peek 27 = .ok (.iconst (-1), 1) := by decide +kernel
theorem dX11_peek_28 : decode cX11_peek 28 = .ok (.ireturn, 1) := by decide +kernel
theorem dX11_bad_0 : decode cX11_bad 0 = .ok (.aload_n 0, 1) := by decide +kernel
theorem dX11_bad_1 : decode cX11_bad 1 = .ok (.iload_n 1, 1) := by decide +kernel
theorem dX11_bad_2 : decode cX11_bad 2 = .ok (.putfield 174, 3) := by decide +kernel
theorem dX11_bad_5 : decode cX11_bad 5 = .ok (.aload_n 0, 1) := by decide +kernel
theorem dX11_bad_6 : decode cX11_bad 6 = .ok (.aload_n 0, 1) := by decide +kernel
theorem dX11_bad_7 : decode cX11_bad 7 = .ok (.getfield 151, 3) := by decide +kernel
theorem dX11_bad_10 : decode cX11_bad 10 = .ok (.putfield 177, 3) := by decide +kernel
theorem dX11_bad_13 : decode cX11_bad 13 = .ok (.iconst 0, 1) := by decide +kernel
theorem dX11_bad_14 : decode cX11_bad 14 = .ok (.ireturn, 1) := by decide +kernel
theorem dX11_isName_0 : decode cX11_isName 0 = .ok (.aload_n 0, 1) := by decide +kernel
theorem dX11_isName_1 : decode cX11_isName 1 = .ok (.getfield 157, 3) := by decide +kernel
theorem dX11_isName_4 : decode cX11_isName 4 = .ok (.iconst 1, 1) := by decide +kernel
theorem dX11_isName_5 : decode cX11_isName 5 = .ok (.if_icmp .ne 7, 3) := by decide +kernel
theorem dX11_isName_8 : decode cX11_isName 8 = .ok (.iconst 1, 1) := by decide +kernel
theorem dX11_isName_9 : decode cX11_isName 9 = .ok (.goto 4, 3) := by decide +kernel
theorem dX11_isName_12 : decode cX11_isName 12 = .ok (.iconst 0, 1) := by decide +kernel
theorem dX11_isName_13 : decode cX11_isName 13 = .ok (.istore_n 1, 1) := by decide +kernel
theorem dX11_isName_14 : decode cX11_isName 14 = .ok (.iconst 0, 1) := by decide +kernel
theorem dX11_isName_15 : decode cX11_isName 15 = .ok (.istore_n 2, 1) := by decide +kernel
theorem dX11_isName_16 : decode cX11_isName 16 = .ok (.iload_n 2, 1) := by decide +kernel
theorem dX11_isName_17 : decode cX11_isName 17 = .ok (.bipush 24, 2) := by decide +kernel
theorem dX11_isName_19 : decode cX11_isName 19 = .ok (.if_icmp .ge 33, 3) := by decide +kernel
theorem dX11_isName_22 : decode cX11_isName 22 = .ok (.iload_n 1, 1) := by decide +kernel
theorem dX11_isName_23 : decode cX11_isName 23 = .ok (.ifCond .eq 21, 3) := by decide +kernel
theorem dX11_isName_26 : decode cX11_isName 26 = .ok (.aload_n 0, 1) := by decide +kernel
theorem dX11_isName_27 : decode cX11_isName 27 = .ok (.getfield 170, 3) := by decide +kernel
theorem dX11_isName_30 : decode cX11_isName 30 = .ok (.aload_n 0, 1) := by decide +kernel
theorem dX11_isName_31 : decode cX11_isName 31 = .ok (.getfield 47, 3) := by decide +kernel
theorem dX11_isName_34 : decode cX11_isName 34 = .ok (.iload_n 2, 1) := by decide +kernel
theorem dX11_isName_35 : decode cX11_isName 35 = .ok (.laload, 1) := by decide +kernel
theorem dX11_isName_36 : decode cX11_isName 36 = .ok (.lcmp, 1) := by decide +kernel
theorem dX11_isName_37 : decode cX11_isName 37 = .ok (.ifCond .eq 7, 3) := by decide +kernel
theorem dX11_isName_40 : decode cX11_isName 40 = .ok (.iconst 1, 1) := by decide +kernel
theorem dX11_isName_41 : decode cX11_isName 41 = .ok (.goto 4, 3) := by decide +kernel
theorem dX11_isName_44 : decode cX11_isName 44 = .ok (.iconst 0, 1) := by decide +kernel
theorem dX11_isName_45 : decode cX11_isName 45 = .ok (.istore_n 1, 1) := by decide +kernel
theorem dX11_isName_46 : decode cX11_isName 46 = .ok (.iinc 2 1, 3) := by decide +kernel
theorem dX11_isName_49 : decode cX11_isName 49 = .ok (.goto (-33), 3) := by decide +kernel
theorem dX11_isName_52 : decode cX11_isName 52 = .ok (.iload_n 1, 1) := by decide +kernel
theorem dX11_isName_53 : decode cX11_isName 53 = .ok (.ireturn, 1) := by decide +kernel
theorem dX11_fresh_0 : decode cX11_fresh 0 = .ok (.aload_n 0, 1) := by decide +kernel
theorem dX11_fresh_1 : decode cX11_fresh 1 = .ok (.invokevirtual 200, 3) := by decide +kernel
theorem dX11_fresh_4 : decode cX11_fresh 4 = .ok (.ifCond .ne 9, 3) := by decide +kernel
theorem dX11_fresh_7 : decode cX11_fresh 7 = .ok (.aload_n 0, 1) := by decide +kernel
theorem dX11_fresh_8 : decode cX11_fresh 8 = .ok (.iconst 1, 1) := by decide +kernel
theorem dX11_fresh_9 : decode cX11_fresh 9 = .ok (.invokevirtual 183, 3) := by decide +kernel
theorem dX11_fresh_12 : decode cX11_fresh 12 = .ok (.ireturn, 1) := by decide +kernel
theorem dX11_fresh_13 : decode cX11_fresh 13 = .ok (.aload_n 0, 1) := by decide +kernel
theorem dX11_fresh_14 : decode cX11_fresh 14 = .ok (.bipush 12, 2) := by decide +kernel
theorem dX11_fresh_16 : decode cX11_fresh 16 = .ok (.aload_n 0, 1) := by decide +kernel
theorem dX11_fresh_17 : decode cX11_fresh 17 = .ok (.getfield 37, 3) := by decide +kernel
theorem dX11_fresh_20 : decode cX11_fresh 20 = .ok (.iconst 0, 1) := by decide +kernel
theorem dX11_fresh_21 : decode cX11_fresh 21 = .ok (.iaload, 1) := by decide +kernel
theorem dX11_fresh_22 : decode cX11_fresh 22 = .ok (.invokevirtual 204, 3) := by decide +kernel
theorem dX11_fresh_25 : decode cX11_fresh 25 = .ok (.ifCond .ge 18, 3) := by decide +kernel
theorem dX11_fresh_28 : decode cX11_fresh 28 = .ok (.aload_n 0, 1) := by decide +kernel
theorem dX11_fresh_29 : decode cX11_fresh 29 = .ok (.bipush 19, 2) := by decide +kernel
theorem dX11_fresh_31 : decode cX11_fresh 31 = .ok (.aload_n 0, 1) := by decide +kernel
theorem dX11_fresh_32 : decode cX11_fresh 32 = .ok (.getfield 37, 3) := by decide +kernel
theorem dX11_fresh_35 : decode cX11_fresh 35 = .ok (.iconst 1, 1) := by decide +kernel
theorem dX11_fresh_36 : decode cX11_fresh 36 = .ok (.iaload, 1) := by decide +kernel
theorem dX11_fresh_37 : decode cX11_fresh 37 = .ok (.invokevirtual 204, 3) := by decide +kernel
theorem dX11_fresh_40 : decode cX11_fresh 40 = .ok (.ifCond .lt 9, 3) := by decide +kernel
theorem dX11_fresh_43 : decode cX11_fresh 43 = .ok (.aload_n 0, 1) := by decide +kernel
theorem dX11_fresh_44 : decode cX11_fresh 44 = .ok (.iconst 3, 1) := by decide +kernel
theorem dX11_fresh_45 : decode cX11_fresh 45 = .ok (.invokevirtual 183, 3) := by decide +kernel
theorem dX11_fresh_48 : decode cX11_fresh 48 = .ok (.ireturn, 1) := by decide +kernel
theorem dX11_fresh_49 : decode cX11_fresh 49 = .ok (.aload_n 0, 1) := by decide +kernel
theorem dX11_fresh_50 : decode cX11_fresh 50 = .ok (.getfield 43, 3) := by decide +kernel
theorem dX11_fresh_53 : decode cX11_fresh 53 = .ok (.iload_n 1, 1) := by decide +kernel
theorem dX11_fresh_54 : decode cX11_fresh 54 = .ok (.aload_n 0, 1) := by decide +kernel
theorem dX11_fresh_55 : decode cX11_fresh 55 = .ok (.getfield 170, 3) := by decide +kernel
theorem dX11_fresh_58 : decode cX11_fresh 58 = .ok (.lastore, 1) := by decide +kernel
theorem dX11_fresh_59 : decode cX11_fresh 59 = .ok (.aload_n 0, 1) := by decide +kernel
theorem dX11_fresh_60 : decode cX11_fresh 60 = .ok (.invokevirtual 186, 3) := by decide +kernel
theorem dX11_fresh_63 : decode cX11_fresh 63 = .ok (.iconst 1, 1) := by decide +kernel
theorem dX11_fresh_64 : decode cX11_fresh 64 = .ok (.ireturn, 1) := by decide +kernel
theorem dX11_line_0 : decode cX11_line 0 = .ok (.aload_n 0, 1) := by decide +kernel
theorem dX11_line_1 : decode cX11_line 1 = .ok (.ldc2_w 96, 3) := by decide +kernel
theorem dX11_line_4 : decode cX11_line 4 = .ok (.invokevirtual 220, 3) := by decide +kernel
theorem dX11_line_7 : decode cX11_line 7 = .ok (.ifCond .eq 8, 3) := by decide +kernel
theorem dX11_line_10 : decode cX11_line 10 = .ok (.aload_n 0, 1) := by decide +kernel
theorem dX11_line_11 : decode cX11_line 11 = .ok (.invokevirtual 224, 3) := by decide +kernel
theorem dX11_line_14 : decode cX11_line 14 = .ok (.ireturn, 1) := by decide +kernel
theorem dX11_line_15 : decode cX11_line 15 = .ok (.aload_n 0, 1) := by decide +kernel
theorem dX11_line_16 : decode cX11_line 16 = .ok (.ldc2_w 98, 3) := by decide +kernel
theorem dX11_line_19 : decode cX11_line 19 = .ok (.invokevirtual 220, 3) := by decide +kernel
theorem dX11_line_22 : decode cX11_line 22 = .ok (.ifCond .eq 8, 3) := by decide +kernel
theorem dX11_line_25 : decode cX11_line 25 = .ok (.aload_n 0, 1) := by decide +kernel
theorem dX11_line_26 : decode cX11_line 26 = .ok (.invokevirtual 227, 3) := by decide +kernel
theorem dX11_line_29 : decode cX11_line 29 = .ok (.ireturn, 1) := by decide +kernel
theorem dX11_line_30 : decode cX11_line 30 = .ok (.aload_n 0, 1) := by decide +kernel
theorem dX11_line_31 : decode cX11_line 31 = .ok (.ldc2_w 100, 3) := by decide +kernel
theorem dX11_line_34 : decode cX11_line 34 = .ok (.invokevirtual 220, 3) := by decide +kernel
theorem dX11_line_37 : decode cX11_line 37 = .ok (.ifCond .eq 9, 3) := by decide +kernel
theorem dX11_line_40 : decode cX11_line 40 = .ok (.aload_n 0, 1) := by decide +kernel
theorem dX11_line_41 : decode cX11_line 41 = .ok (.iconst 1, 1) := by decide +kernel
theorem dX11_line_42 : decode cX11_line 42 = .ok (.invokevirtual 230, 3) := by decide +kernel
theorem dX11_line_45 : decode cX11_line 45 = .ok (.ireturn, 1) := by decide +kernel
theorem dX11_line_46 : decode cX11_line 46 = .ok (.aload_n 0, 1) := by decide +kernel
theorem dX11_line_47 : decode cX11_line 47 = .ok (.ldc2_w 102, 3) := by decide +kernel
theorem dX11_line_50 : decode cX11_line 50 = .ok (.invokevirtual 220, 3) := by decide +kernel
theorem dX11_line_53 : decode cX11_line 53 = .ok (.ifCond .eq 9, 3) := by decide +kernel
theorem dX11_line_56 : decode cX11_line 56 = .ok (.aload_n 0, 1) := by decide +kernel
theorem dX11_line_57 : decode cX11_line 57 = .ok (.iconst 0, 1) := by decide +kernel
theorem dX11_line_58 : decode cX11_line 58 = .ok (.invokevirtual 230, 3) := by decide +kernel
theorem dX11_line_61 : decode cX11_line 61 = .ok (.ireturn, 1) := by decide +kernel
theorem dX11_line_62 : decode cX11_line 62 = .ok (.aload_n 0, 1) := by decide +kernel
theorem dX11_line_63 : decode cX11_line 63 = .ok (.ldc2_w 104, 3) := by decide +kernel
theorem dX11_line_66 : decode cX11_line 66 = .ok (.invokevirtual 220, 3) := by decide +kernel
theorem dX11_line_69 : decode cX11_line 69 = .ok (.ifCond .eq 10, 3) := by decide +kernel
theorem dX11_line_72 : decode cX11_line 72 = .ok (.aload_n 0, 1) := by decide +kernel
theorem dX11_line_73 : decode cX11_line 73 = .ok (.bipush 117, 2) := by decide +kernel
theorem dX11_line_75 : decode cX11_line 75 = .ok (.invokevirtual 234, 3) := by decide +kernel
theorem dX11_line_78 : decode cX11_line 78 = .ok (.ireturn, 1) := by decide +kernel
theorem dX11_line_79 : decode cX11_line 79 = .ok (.aload_n 0, 1) := by decide +kernel
theorem dX11_line_80 : decode cX11_line 80 = .ok (.ldc2_w 106, 3) := by decide +kernel
theorem dX11_line_83 : decode cX11_line 83 = .ok (.invokevirtual 220, 3) := by decide +kernel
theorem dX11_line_86 : decode cX11_line 86 = .ok (.ifCond .eq 10, 3) := by decide +kernel
theorem dX11_line_89 : decode cX11_line 89 = .ok (.aload_n 0, 1) := by decide +kernel
theorem dX11_line_90 : decode cX11_line 90 = .ok (.bipush 124, 2) := by decide +kernel
theorem dX11_line_92 : decode cX11_line 92 = .ok (.invokevirtual 234, 3) := by decide +kernel
theorem dX11_line_95 : decode cX11_line 95 = .ok (.ireturn, 1) := by decide +kernel
theorem dX11_line_96 : decode cX11_line 96 = .ok (.aload_n 0, 1) := by decide +kernel
theorem dX11_line_97 : decode cX11_line 97 = .ok (.ldc2_w 108, 3) := by decide +kernel
theorem dX11_line_100 : decode cX11_line 100 = .ok (.invokevirtual 220, 3) := by decide +kernel
theorem dX11_line_103 : decode cX11_line 103 = .ok (.ifCond .eq 13, 3) := by decide +kernel
theorem dX11_line_106 : decode cX11_line 106 = .ok (.aload_n 0, 1) := by decide +kernel
theorem dX11_line_107 : decode cX11_line 107 = .ok (.iconst 0, 1) := by decide +kernel
theorem dX11_line_108 : decode cX11_line 108 = .ok (.iconst 2, 1) := by decide +kernel
theorem dX11_line_109 : decode cX11_line 109 = .ok (.iconst 1, 1) := by decide +kernel
theorem dX11_line_110 : decode cX11_line 110 = .ok (.bipush 9, 2) := by decide +kernel
theorem dX11_line_112 : decode cX11_line 112 = .ok (.invokevirtual 237, 3) := by decide +kernel
theorem dX11_line_115 : decode cX11_line 115 = .ok (.ireturn, 1) := by decide +kernel
theorem dX11_line_116 : decode cX11_line 116 = .ok (.aload_n 0, 1) := by decide +kernel
theorem dX11_line_117 : decode cX11_line 117 = .ok (.ldc2_w 110, 3) := by decide +kernel
theorem dX11_line_120 : decode cX11_line 120 = .ok (.invokevirtual 220, 3) := by decide +kernel
theorem dX11_line_123 : decode cX11_line 123 = .ok (.ifCond .eq 13, 3) := by decide +kernel
theorem dX11_line_126 : decode cX11_line 126 = .ok (.aload_n 0, 1) := by decide +kernel
theorem dX11_line_127 : decode cX11_line 127 = .ok (.iconst 1, 1) := by decide +kernel
theorem dX11_line_128 : decode cX11_line 128 = .ok (.iconst 3, 1) := by decide +kernel
theorem dX11_line_129 : decode cX11_line 129 = .ok (.iconst 0, 1) := by decide +kernel
theorem dX11_line_130 : decode cX11_line 130 = .ok (.bipush 9, 2) := by decide +kernel
theorem dX11_line_132 : decode cX11_line 132 = .ok (.invokevirtual 237, 3) := by decide +kernel
theorem dX11_line_135 : decode cX11_line 135 = .ok (.ireturn, 1) := by decide +kernel
theorem dX11_line_136 : decode cX11_line 136 = .ok (.aload_n 0, 1) := by decide +kernel
theorem dX11_line_137 : decode cX11_line 137 = .ok (.ldc2_w 112, 3) := by decide +kernel
theorem dX11_line_140 : decode cX11_line 140 = .ok (.invokevirtual 220, 3) := by decide +kernel
theorem dX11_line_143 : decode cX11_line 143 = .ok (.ifCond .eq 15, 3) := by decide +kernel
theorem dX11_line_146 : decode cX11_line 146 = .ok (.aload_n 0, 1) := by decide +kernel
theorem dX11_line_147 : decode cX11_line 147 = .ok (.iconst 2, 1) := by decide +kernel
theorem dX11_line_148 : decode cX11_line 148 = .ok (.iconst 4, 1) := by decide +kernel
theorem dX11_line_149 : decode cX11_line 149 = .ok (.iconst 2, 1) := by decide +kernel
theorem dX11_line_150 : decode cX11_line 150 = .ok (.bipush 30, 2) := by decide +kernel
theorem dX11_line_152 : decode cX11_line 152 = .ok (.invokevirtual 237, 3) := by decide +kernel
theorem dX11_line_155 : decode cX11_line 155 = .ok (.goto 8, 3) := by decide +kernel
theorem dX11_line_158 : decode cX11_line 158 = .ok (.aload_n 0, 1) := by decide +kernel
theorem dX11_line_159 : decode cX11_line 159 = .ok (.iconst 1, 1) := by decide +kernel
theorem dX11_line_160 : decode cX11_line 160 = .ok (.invokevirtual 183, 3) := by decide +kernel
theorem dX11_line_163 : decode cX11_line 163 = .ok (.ireturn, 1) := by decide +kernel
theorem dX11_readPair_0 : decode cX11_readPair 0 = .ok (.aload_n 0, 1) := by decide +kernel
theorem dX11_readPair_1 : decode cX11_readPair 1 = .ok (.invokevirtual 186, 3) := by decide +kernel
theorem dX11_readPair_4 : decode cX11_readPair 4 = .ok (.aload_n 0, 1) := by decide +kernel
theorem dX11_readPair_5 : decode cX11_readPair 5 = .ok (.bipush 12, 2) := by decide +kernel
theorem dX11_readPair_7 : decode cX11_readPair 7 = .ok (.aload_n 0, 1) := by decide +kernel
theorem dX11_readPair_8 : decode cX11_readPair 8 = .ok (.getfield 37, 3) := by decide +kernel
theorem dX11_readPair_11 : decode cX11_readPair 11 = .ok (.iconst 0, 1) := by decide +kernel
theorem dX11_readPair_12 : decode cX11_readPair 12 = .ok (.iaload, 1) := by decide +kernel
theorem dX11_readPair_13 : decode cX11_readPair 13 = .ok (.invokevirtual 244, 3) := by decide +kernel
theorem dX11_readPair_16 : decode cX11_readPair 16 = .ok (.ifCond .ne 5, 3) := by decide +kernel
theorem dX11_readPair_19 : decode cX11_readPair 19 = .ok (.iconst 0, 1) := by decide +kernel
theorem dX11_readPair_20 : decode cX11_readPair 20 = .ok (.ireturn, 1) := by decide +kernel
theorem dX11_readPair_21 : decode cX11_readPair 21 = .ok (.aload_n 0, 1) := by decide +kernel
theorem dX11_readPair_22 : decode cX11_readPair 22 = .ok (.getfield 193, 3) := by decide +kernel
theorem dX11_readPair_25 : decode cX11_readPair 25 = .ok (.istore_n 2, 1) := by decide +kernel
theorem dX11_readPair_26 : decode cX11_readPair 26 = .ok (.aload_n 0, 1) := by decide +kernel
theorem dX11_readPair_27 : decode cX11_readPair 27 = .ok (.bipush 12, 2) := by decide +kernel
theorem dX11_readPair_29 : decode cX11_readPair 29 = .ok (.aload_n 0, 1) := by decide +kernel
theorem dX11_readPair_30 : decode cX11_readPair 30 = .ok (.getfield 37, 3) := by decide +kernel
theorem dX11_readPair_33 : decode cX11_readPair 33 = .ok (.iconst 0, 1) := by decide +kernel
theorem dX11_readPair_34 : decode cX11_readPair 34 = .ok (.iaload, 1) := by decide +kernel
theorem dX11_readPair_35 : decode cX11_readPair 35 = .ok (.invokevirtual 208, 3) := by decide +kernel
theorem dX11_readPair_38 : decode cX11_readPair 38 = .ok (.ifCond .ne 5, 3) := by decide +kernel
theorem dX11_readPair_41 : decode cX11_readPair 41 = .ok (.iconst 0, 1) := by decide +kernel
theorem dX11_readPair_42 : decode cX11_readPair 42 = .ok (.ireturn, 1) := by decide +kernel
theorem dX11_readPair_43 : decode cX11_readPair 43 = .ok (.aload_n 0, 1) := by decide +kernel
theorem dX11_readPair_44 : decode cX11_readPair 44 = .ok (.getfield 193, 3) := by decide +kernel
theorem dX11_readPair_47 : decode cX11_readPair 47 = .ok (.iload_n 2, 1) := by decide +kernel
theorem dX11_readPair_48 : decode cX11_readPair 48 = .ok (.if_icmp .eq 21, 3) := by decide +kernel
theorem dX11_readPair_51 : decode cX11_readPair 51 = .ok (.aload_n 0, 1) := by decide +kernel
theorem dX11_readPair_52 : decode cX11_readPair 52 = .ok (.getfield 37, 3) := by decide +kernel
theorem dX11_readPair_55 : decode cX11_readPair 55 = .ok (.iload_n 1, 1) := by decide +kernel
theorem dX11_readPair_56 : decode cX11_readPair 56 = .ok (.iload_n 2, 1) := by decide +kernel
theorem dX11_readPair_57 : decode cX11_readPair 57 = .ok (.iadd, 1) := by decide +kernel
theorem dX11_readPair_58 : decode cX11_readPair 58 = .ok (.iaload, 1) := by decide +kernel
theorem dX11_readPair_59 : decode cX11_readPair 59 = .ok (.aload_n 0, 1) := by decide +kernel
theorem dX11_readPair_60 : decode cX11_readPair 60 = .ok (.getfield 193, 3) := by decide +kernel
theorem dX11_readPair_63 : decode cX11_readPair 63 = .ok (.invokestatic 214, 3) := by decide +kernel
theorem dX11_readPair_66 : decode cX11_readPair 66 = .ok (.ifCond .eq 9, 3) := by decide +kernel
theorem dX11_readPair_69 : decode cX11_readPair 69 = .ok (.aload_n 0, 1) := by decide +kernel
theorem dX11_readPair_70 : decode cX11_readPair 70 = .ok (.iconst 3, 1) := by decide +kernel
theorem dX11_readPair_71 : decode cX11_readPair 71 = .ok (.invokevirtual 183, 3) := by decide +kernel
theorem dX11_readPair_74 : decode cX11_readPair 74 = .ok (.ireturn, 1) := by decide +kernel
theorem dX11_readPair_75 : decode cX11_readPair 75 = .ok (.aload_n 0, 1) := by decide +kernel
theorem dX11_readPair_76 : decode cX11_readPair 76 = .ok (.getfield 37, 3) := by decide +kernel
theorem dX11_readPair_79 : decode cX11_readPair 79 = .ok (.iload_n 1, 1) := by decide +kernel
theorem dX11_readPair_80 : decode cX11_readPair 80 = .ok (.iload_n 2, 1) := by decide +kernel
theorem dX11_readPair_81 : decode cX11_readPair 81 = .ok (.iadd, 1) := by decide +kernel
theorem dX11_readPair_82 : decode cX11_readPair 82 = .ok (.dup2, 1) := by decide +kernel
theorem dX11_readPair_83 : decode cX11_readPair 83 = .ok (.iaload, 1) := by decide +kernel
theorem dX11_readPair_84 : decode cX11_readPair 84 = .ok (.iconst 1, 1) := by decide +kernel
theorem dX11_readPair_85 : decode cX11_readPair 85 = .ok (.aload_n 0, 1) := by decide +kernel
theorem dX11_readPair_86 : decode cX11_readPair 86 = .ok (.getfield 193, 3) := by decide +kernel
theorem dX11_readPair_89 : decode cX11_readPair 89 = .ok (.ishl, 1) := by decide +kernel
theorem dX11_readPair_90 : decode cX11_readPair 90 = .ok (.ior, 1) := by decide +kernel
theorem dX11_readPair_91 : decode cX11_readPair 91 = .ok (.iastore, 1) := by decide +kernel
theorem dX11_readPair_92 : decode cX11_readPair 92 = .ok (.aload_n 0, 1) := by decide +kernel
theorem dX11_readPair_93 : decode cX11_readPair 93 = .ok (.getfield 37, 3) := by decide +kernel
theorem dX11_readPair_96 : decode cX11_readPair 96 = .ok (.iload_n 1, 1) := by decide +kernel
theorem dX11_readPair_97 : decode cX11_readPair 97 = .ok (.aload_n 0, 1) := by decide +kernel
theorem dX11_readPair_98 : decode cX11_readPair 98 = .ok (.getfield 193, 3) := by decide +kernel
theorem dX11_readPair_101 : decode cX11_readPair 101 = .ok (.iadd, 1) := by decide +kernel
theorem dX11_readPair_102 : decode cX11_readPair 102 = .ok (.dup2, 1) := by decide +kernel
theorem dX11_readPair_103 : decode cX11_readPair 103 = .ok (.iaload, 1) := by decide +kernel
theorem dX11_readPair_104 : decode cX11_readPair 104 = .ok (.iconst 1, 1) := by decide +kernel
theorem dX11_readPair_105 : decode cX11_readPair 105 = .ok (.iload_n 2, 1) := by decide +kernel
theorem dX11_readPair_106 : decode cX11_readPair 106 = .ok (.ishl, 1) := by decide +kernel
theorem dX11_readPair_107 : decode cX11_readPair 107 = .ok (.ior, 1) := by decide +kernel
theorem dX11_readPair_108 : decode cX11_readPair 108 = .ok (.iastore, 1) := by decide +kernel
theorem dX11_readPair_109 : decode cX11_readPair 109 = .ok (.aload_n 0, 1) := by decide +kernel
theorem dX11_readPair_110 : decode cX11_readPair 110 = .ok (.invokevirtual 186, 3) := by decide +kernel
theorem dX11_readPair_113 : decode cX11_readPair 113 = .ok (.iconst 1, 1) := by decide +kernel
theorem dX11_readPair_114 : decode cX11_readPair 114 = .ok (.ireturn, 1) := by decide +kernel
theorem dX11_isGood_0 : decode cX11_isGood 0 = .ok (.iload_n 1, 1) := by decide +kernel
theorem dX11_isGood_1 : decode cX11_isGood 1 = .ok (.iconst 0, 1) := by decide +kernel
theorem dX11_isGood_2 : decode cX11_isGood 2 = .ok (.aload_n 0, 1) := by decide +kernel
theorem dX11_isGood_3 : decode cX11_isGood 3 = .ok (.getfield 33, 3) := by decide +kernel
theorem dX11_isGood_6 : decode cX11_isGood 6 = .ok (.iconst 1, 1) := by decide +kernel
theorem dX11_isGood_7 : decode cX11_isGood 7 = .ok (.iaload, 1) := by decide +kernel
theorem dX11_isGood_8 : decode cX11_isGood 8 = .ok (.iconst 1, 1) := by decide +kernel
theorem dX11_isGood_9 : decode cX11_isGood 9 = .ok (.isub, 1) := by decide +kernel
theorem dX11_isGood_10 : decode cX11_isGood 10 = .ok (.invokestatic 189, 3) := by decide +kernel
theorem dX11_isGood_13 : decode cX11_isGood 13 = .ok (.ireturn, 1) := by decide +kernel
theorem dX11_isVeiled_0 : decode cX11_isVeiled 0 = .ok (.aload_n 0, 1) := by decide +kernel
theorem dX11_isVeiled_1 : decode cX11_isVeiled 1 = .ok (.getfield 33, 3) := by decide +kernel
theorem dX11_isVeiled_4 : decode cX11_isVeiled 4 = .ok (.sipush 134, 3) := by decide +kernel
theorem dX11_isVeiled_7 : decode cX11_isVeiled 7 = .ok (.iaload, 1) := by decide +kernel
theorem dX11_isVeiled_8 : decode cX11_isVeiled 8 = .ok (.iload_n 1, 1) := by decide +kernel
theorem dX11_isVeiled_9 : decode cX11_isVeiled 9 = .ok (.invokestatic 214, 3) := by decide +kernel
theorem dX11_isVeiled_12 : decode cX11_isVeiled 12 = .ok (.ireturn, 1) := by decide +kernel
theorem dX11_good_0 : decode cX11_good 0 = .ok (.aload_n 0, 1) := by decide +kernel
theorem dX11_good_1 : decode cX11_good 1 = .ok (.iconst 0, 1) := by decide +kernel
theorem dX11_good_2 : decode cX11_good 2 = .ok (.putfield 1, 3) := by decide +kernel
theorem dX11_good_5 : decode cX11_good 5 = .ok (.aload_n 0, 1) := by decide +kernel
theorem dX11_good_6 : decode cX11_good 6 = .ok (.iload_n 1, 1) := by decide +kernel
theorem dX11_good_7 : decode cX11_good 7 = .ok (.invokevirtual 272, 3) := by decide +kernel
theorem dX11_good_10 : decode cX11_good 10 = .ok (.ifCond .eq 11, 3) := by decide +kernel
theorem dX11_good_13 : decode cX11_good 13 = .ok (.aload_n 0, 1) := by decide +kernel
theorem dX11_good_14 : decode cX11_good 14 = .ok (.iload_n 2, 1) := by decide +kernel
theorem dX11_good_15 : decode cX11_good 15 = .ok (.invokevirtual 281, 3) := by decide +kernel
theorem dX11_good_18 : decode cX11_good 18 = .ok (.ifCond .ne 5, 3) := by decide +kernel
theorem dX11_good_21 : decode cX11_good 21 = .ok (.iconst (-1), 1) := by decide +kernel
theorem dX11_good_22 : decode cX11_good 22 = .ok (.ireturn, 1) := by decide +kernel
theorem dX11_good_23 : decode cX11_good 23 = .ok (.iconst 5, 1) := by decide +kernel
theorem dX11_good_24 : decode cX11_good 24 = .ok (.iload_n 1, 1) := by decide +kernel
theorem dX11_good_25 : decode cX11_good 25 = .ok (.imul, 1) := by decide +kernel
theorem dX11_good_26 : decode cX11_good 26 = .ok (.iload_n 2, 1) := by decide +kernel
theorem dX11_good_27 : decode cX11_good 27 = .ok (.iadd, 1) := by decide +kernel
theorem dX11_good_28 : decode cX11_good 28 = .ok (.istore 4, 2) := by decide +kernel
theorem dX11_good_30 : decode cX11_good 30 = .ok (.iload_n 3, 1) := by decide +kernel
theorem dX11_good_31 : decode cX11_good 31 = .ok (.ifCond .ne 17, 3) := by decide +kernel
theorem dX11_good_34 : decode cX11_good 34 = .ok (.aload_n 0, 1) := by decide +kernel
theorem dX11_good_35 : decode cX11_good 35 = .ok (.getfield 33, 3) := by decide +kernel
theorem dX11_good_38 : decode cX11_good 38 = .ok (.sipush 143, 3) := by decide +kernel
theorem dX11_good_41 : decode cX11_good 41 = .ok (.iload 4, 2) := by decide +kernel
theorem dX11_good_43 : decode cX11_good 43 = .ok (.iadd, 1) := by decide +kernel
theorem dX11_good_44 : decode cX11_good 44 = .ok (.iaload, 1) := by decide +kernel
theorem dX11_good_45 : decode cX11_good 45 = .ok (.goto 43, 3) := by decide +kernel
theorem dX11_good_48 : decode cX11_good 48 = .ok (.iload_n 3, 1) := by decide +kernel
theorem dX11_good_49 : decode cX11_good 49 = .ok (.iconst 1, 1) := by decide +kernel
theorem dX11_good_50 : decode cX11_good 50 = .ok (.if_icmp .ne 17, 3) := by decide +kernel
theorem dX11_good_53 : decode cX11_good 53 = .ok (.aload_n 0, 1) := by decide +kernel
theorem dX11_good_54 : decode cX11_good 54 = .ok (.getfield 33, 3) := by decide +kernel
theorem dX11_good_57 : decode cX11_good 57 = .ok (.sipush 178, 3) := by decide +kernel
theorem dX11_good_60 : decode cX11_good 60 = .ok (.iload 4, 2) := by decide +kernel
theorem dX11_good_62 : decode cX11_good 62 = .ok (.iadd, 1) := by decide +kernel
theorem dX11_good_63 : decode cX11_good 63 = .ok (.iaload, 1) := by decide +kernel
theorem dX11_good_64 : decode cX11_good 64 = .ok (.goto 24, 3) := by decide +kernel
theorem dX11_good_67 : decode cX11_good 67 = .ok (.iload_n 3, 1) := by decide +kernel
theorem dX11_good_68 : decode cX11_good 68 = .ok (.iconst 2, 1) := by decide +kernel
theorem dX11_good_69 : decode cX11_good 69 = .ok (.if_icmp .ne 18, 3) := by decide +kernel
theorem dX11_good_72 : decode cX11_good 72 = .ok (.aload_n 0, 1) := by decide +kernel
theorem dX11_good_73 : decode cX11_good 73 = .ok (.getfield 33, 3) := by decide +kernel
theorem dX11_good_76 : decode cX11_good 76 = .ok (.bipush 47, 2) := by decide +kernel
theorem dX11_good_78 : decode cX11_good 78 = .ok (.iload 4, 2) := by decide +kernel
theorem dX11_good_80 : decode cX11_good 80 = .ok (.iadd, 1) := by decide +kernel
theorem dX11_good_81 : decode cX11_good 81 = .ok (.iaload, 1) := by decide +kernel
theorem dX11_good_82 : decode cX11_good 82 = .ok (.iconst 1, 1) := by decide +kernel
theorem dX11_good_83 : decode cX11_good 83 = .ok (.isub, 1) := by decide +kernel
theorem dX11_good_84 : decode cX11_good 84 = .ok (.goto 4, 3) := by decide +kernel
theorem dX11_good_87 : decode cX11_good 87 = .ok (.iconst (-1), 1) := by decide +kernel
theorem dX11_good_88 : decode cX11_good 88 = .ok (.ireturn, 1) := by decide +kernel
theorem dX11_whyBuy_0 : decode cX11_whyBuy 0 = .ok (.iload_n 1, 1) := by decide +kernel
theorem dX11_whyBuy_1 : decode cX11_whyBuy 1 = .ok (.iload_n 3, 1) := by decide +kernel
theorem dX11_whyBuy_2 : decode cX11_whyBuy 2 = .ok (.if_icmp .ne 5, 3) := by decide +kernel
theorem dX11_whyBuy_5 : decode cX11_whyBuy 5 = .ok (.iconst 1, 1) := by decide +kernel
theorem dX11_whyBuy_6 : decode cX11_whyBuy 6 = .ok (.ireturn, 1) := by decide +kernel
theorem dX11_whyBuy_7 : decode cX11_whyBuy 7 = .ok (.aload_n 0, 1) := by decide +kernel
theorem dX11_whyBuy_8 : decode cX11_whyBuy 8 = .ok (.iload_n 1, 1) := by decide +kernel
theorem dX11_whyBuy_9 : decode cX11_whyBuy 9 = .ok (.invokevirtual 290, 3) := by decide +kernel
theorem dX11_whyBuy_12 : decode cX11_whyBuy 12 = .ok (.ifCond .ne 11, 3) := by decide +kernel
theorem dX11_whyBuy_15 : decode cX11_whyBuy 15 = .ok (.aload_n 0, 1) := by decide +kernel
theorem dX11_whyBuy_16 : decode cX11_whyBuy 16 = .ok (.iload_n 3, 1) := by decide +kernel
theorem dX11_whyBuy_17 : decode cX11_whyBuy 17 = .ok (.invokevirtual 290, 3) := by decide +kernel
theorem dX11_whyBuy_20 : decode cX11_whyBuy 20 = .ok (.ifCond .eq 5, 3) := by decide +kernel
theorem dX11_whyBuy_23 : decode cX11_whyBuy 23 = .ok (.iconst 2, 1) := by decide +kernel
theorem dX11_whyBuy_24 : decode cX11_whyBuy 24 = .ok (.ireturn, 1) := by decide +kernel
theorem dX11_whyBuy_25 : decode cX11_whyBuy 25 = .ok (.aload_n 0, 1) := by decide +kernel
theorem dX11_whyBuy_26 : decode cX11_whyBuy 26 = .ok (.iload_n 1, 1) := by decide +kernel
theorem dX11_whyBuy_27 : decode cX11_whyBuy 27 = .ok (.invokevirtual 278, 3) := by decide +kernel
theorem dX11_whyBuy_30 : decode cX11_whyBuy 30 = .ok (.iload_n 3, 1) := by decide +kernel
theorem dX11_whyBuy_31 : decode cX11_whyBuy 31 = .ok (.invokestatic 214, 3) := by decide +kernel
theorem dX11_whyBuy_34 : decode cX11_whyBuy 34 = .ok (.ifCond .ne 21, 3) := by decide +kernel
theorem dX11_whyBuy_37 : decode cX11_whyBuy 37 = .ok (.aload_n 0, 1) := by decide +kernel
theorem dX11_whyBuy_38 : decode cX11_whyBuy 38 = .ok (.iload_n 1, 1) := by decide +kernel
theorem dX11_whyBuy_39 : decode cX11_whyBuy 39 = .ok (.invokevirtual 293, 3) := by decide +kernel
theorem dX11_whyBuy_42 : decode cX11_whyBuy 42 = .ok (.ifCond .ne 13, 3) := by decide +kernel
theorem dX11_whyBuy_45 : decode cX11_whyBuy 45 = .ok (.aload_n 0, 1) := by decide +kernel
theorem dX11_whyBuy_46 : decode cX11_whyBuy 46 = .ok (.iload_n 3, 1) := by decide +kernel
theorem dX11_whyBuy_47 : decode cX11_whyBuy 47 = .ok (.invokevirtual 293, 3) := by decide +kernel
theorem dX11_whyBuy_50 : decode cX11_whyBuy 50 = .ok (.ifCond .ne 5, 3) := by decide +kernel
theorem dX11_whyBuy_53 : decode cX11_whyBuy 53 = .ok (.iconst 3, 1) := by decide +kernel
theorem dX11_whyBuy_54 : decode cX11_whyBuy 54 = .ok (.ireturn, 1) := by decide +kernel
theorem dX11_whyBuy_55 : decode cX11_whyBuy 55 = .ok (.iconst 5, 1) := by decide +kernel
theorem dX11_whyBuy_56 : decode cX11_whyBuy 56 = .ok (.iload_n 3, 1) := by decide +kernel
theorem dX11_whyBuy_57 : decode cX11_whyBuy 57 = .ok (.imul, 1) := by decide +kernel
theorem dX11_whyBuy_58 : decode cX11_whyBuy 58 = .ok (.iload_n 2, 1) := by decide +kernel
theorem dX11_whyBuy_59 : decode cX11_whyBuy 59 = .ok (.iadd, 1) := by decide +kernel
theorem dX11_whyBuy_60 : decode cX11_whyBuy 60 = .ok (.istore 4, 2) := by decide +kernel
theorem dX11_whyBuy_62 : decode cX11_whyBuy 62 = .ok (.aload_n 0, 1) := by decide +kernel
theorem dX11_whyBuy_63 : decode cX11_whyBuy 63 = .ok (.getfield 33, 3) := by decide +kernel
theorem dX11_whyBuy_66 : decode cX11_whyBuy 66 = .ok (.sipush 143, 3) := by decide +kernel
theorem dX11_whyBuy_69 : decode cX11_whyBuy 69 = .ok (.iload 4, 2) := by decide +kernel
theorem dX11_whyBuy_71 : decode cX11_whyBuy 71 = .ok (.iadd, 1) := by decide +kernel
theorem dX11_whyBuy_72 : decode cX11_whyBuy 72 = .ok (.iaload, 1) := by decide +kernel
theorem dX11_whyBuy_73 : decode cX11_whyBuy 73 = .ok (.ifCond .ne 5, 3) := by decide +kernel
theorem dX11_whyBuy_76 : decode cX11_whyBuy 76 = .ok (.iconst 4, 1) := by decide +kernel
theorem dX11_whyBuy_77 : decode cX11_whyBuy 77 = .ok (.ireturn, 1) := by decide +kernel
theorem dX11_whyBuy_78 : decode cX11_whyBuy 78 = .ok (.aload_n 0, 1) := by decide +kernel
theorem dX11_whyBuy_79 : decode cX11_whyBuy 79 = .ok (.getfield 33, 3) := by decide +kernel
theorem dX11_whyBuy_82 : decode cX11_whyBuy 82 = .ok (.bipush 47, 2) := by decide +kernel
theorem dX11_whyBuy_84 : decode cX11_whyBuy 84 = .ok (.iload 4, 2) := by decide +kernel
theorem dX11_whyBuy_86 : decode cX11_whyBuy 86 = .ok (.iadd, 1) := by decide +kernel
theorem dX11_whyBuy_87 : decode cX11_whyBuy 87 = .ok (.iaload, 1) := by decide +kernel
theorem dX11_whyBuy_88 : decode cX11_whyBuy 88 = .ok (.iconst 1, 1) := by decide +kernel
theorem dX11_whyBuy_89 : decode cX11_whyBuy 89 = .ok (.isub, 1) := by decide +kernel
theorem dX11_whyBuy_90 : decode cX11_whyBuy 90 = .ok (.aload_n 0, 1) := by decide +kernel
theorem dX11_whyBuy_91 : decode cX11_whyBuy 91 = .ok (.getfield 33, 3) := by decide +kernel
theorem dX11_whyBuy_94 : decode cX11_whyBuy 94 = .ok (.sipush 136, 3) := by decide +kernel
theorem dX11_whyBuy_97 : decode cX11_whyBuy 97 = .ok (.iload_n 1, 1) := by decide +kernel
theorem dX11_whyBuy_98 : decode cX11_whyBuy 98 = .ok (.iadd, 1) := by decide +kernel
theorem dX11_whyBuy_99 : decode cX11_whyBuy 99 = .ok (.iaload, 1) := by decide +kernel
theorem dX11_whyBuy_100 : decode cX11_whyBuy 100 = .ok (.if_icmp .le 5, 3) := by decide +kernel
theorem dX11_whyBuy_103 : decode cX11_whyBuy 103 = .ok (.iconst 5, 1) := by decide +kernel
theorem dX11_whyBuy_104 : decode cX11_whyBuy 104 = .ok (.ireturn, 1) := by decide +kernel
theorem dX11_whyBuy_105 : decode cX11_whyBuy 105 = .ok (.aload_n 0, 1) := by decide +kernel
theorem dX11_whyBuy_106 : decode cX11_whyBuy 106 = .ok (.getfield 33, 3) := by decide +kernel
theorem dX11_whyBuy_109 : decode cX11_whyBuy 109 = .ok (.sipush 178, 3) := by decide +kernel
theorem dX11_whyBuy_112 : decode cX11_whyBuy 112 = .ok (.iconst 5, 1) := by decide +kernel
theorem dX11_whyBuy_113 : decode cX11_whyBuy 113 = .ok (.iload_n 1, 1) := by decide +kernel
theorem dX11_whyBuy_114 : decode cX11_whyBuy 114 = .ok (.imul, 1) := by decide +kernel
theorem dX11_whyBuy_115 : decode cX11_whyBuy 115 = .ok (.iadd, 1) := by decide +kernel
theorem dX11_whyBuy_116 : decode cX11_whyBuy 116 = .ok (.iload_n 2, 1) := by decide +kernel
theorem dX11_whyBuy_117 : decode cX11_whyBuy 117 = .ok (.iadd, 1) := by decide +kernel
theorem dX11_whyBuy_118 : decode cX11_whyBuy 118 = .ok (.iaload, 1) := by decide +kernel
theorem dX11_whyBuy_119 : decode cX11_whyBuy 119 = .ok (.ifCond .ne 8, 3) := by decide +kernel
theorem dX11_whyBuy_122 : decode cX11_whyBuy 122 = .ok (.bipush 6, 2) := by decide +kernel
theorem dX11_whyBuy_124 : decode cX11_whyBuy 124 = .ok (.goto 4, 3) := by decide +kernel
theorem dX11_whyBuy_127 : decode cX11_whyBuy 127 = .ok (.iconst 0, 1) := by decide +kernel
theorem dX11_whyBuy_128 : decode cX11_whyBuy 128 = .ok (.ireturn, 1) := by decide +kernel
theorem dX11_whyVeil_0 : decode cX11_whyVeil 0 = .ok (.aload_n 0, 1) := by decide +kernel
theorem dX11_whyVeil_1 : decode cX11_whyVeil 1 = .ok (.iload_n 1, 1) := by decide +kernel
theorem dX11_whyVeil_2 : decode cX11_whyVeil 2 = .ok (.invokevirtual 293, 3) := by decide +kernel
theorem dX11_whyVeil_5 : decode cX11_whyVeil 5 = .ok (.ifCond .eq 7, 3) := by decide +kernel
theorem dX11_whyVeil_8 : decode cX11_whyVeil 8 = .ok (.iconst 1, 1) := by decide +kernel
theorem dX11_whyVeil_9 : decode cX11_whyVeil 9 = .ok (.goto 19, 3) := by decide +kernel
theorem dX11_whyVeil_12 : decode cX11_whyVeil 12 = .ok (.aload_n 0, 1) := by decide +kernel
theorem dX11_whyVeil_13 : decode cX11_whyVeil 13 = .ok (.getfield 33, 3) := by decide +kernel
theorem dX11_whyVeil_16 : decode cX11_whyVeil 16 = .ok (.sipush 135, 3) := by decide +kernel
theorem dX11_whyVeil_19 : decode cX11_whyVeil 19 = .ok (.iaload, 1) := by decide +kernel
theorem dX11_whyVeil_20 : decode cX11_whyVeil 20 = .ok (.ifCond .ne 7, 3) := by decide +kernel
theorem dX11_whyVeil_23 : decode cX11_whyVeil 23 = .ok (.iconst 2, 1) := by decide +kernel
theorem dX11_whyVeil_24 : decode cX11_whyVeil 24 = .ok (.goto 4, 3) := by decide +kernel
theorem dX11_whyVeil_27 : decode cX11_whyVeil 27 = .ok (.iconst 0, 1) := by decide +kernel
theorem dX11_whyVeil_28 : decode cX11_whyVeil 28 = .ok (.ireturn, 1) := by decide +kernel
theorem dX11_day_0 : decode cX11_day 0 = .ok (.iconst 0, 1) := by decide +kernel
theorem dX11_day_1 : decode cX11_day 1 = .ok (.istore_n 1, 1) := by decide +kernel
theorem dX11_day_2 : decode cX11_day 2 = .ok (.iload_n 1, 1) := by decide +kernel
theorem dX11_day_3 : decode cX11_day 3 = .ok (.aload_n 0, 1) := by decide +kernel
theorem dX11_day_4 : decode cX11_day 4 = .ok (.getfield 33, 3) := by decide +kernel
theorem dX11_day_7 : decode cX11_day 7 = .ok (.iconst 0, 1) := by decide +kernel
theorem dX11_day_8 : decode cX11_day 8 = .ok (.iaload, 1) := by decide +kernel
theorem dX11_day_9 : decode cX11_day 9 = .ok (.if_icmp .ge 41, 3) := by decide +kernel
theorem dX11_day_12 : decode cX11_day 12 = .ok (.aload_n 0, 1) := by decide +kernel
theorem dX11_day_13 : decode cX11_day 13 = .ok (.getfield 33, 3) := by decide +kernel
theorem dX11_day_16 : decode cX11_day 16 = .ok (.sipush 213, 3) := by decide +kernel
theorem dX11_day_19 : decode cX11_day 19 = .ok (.iload_n 1, 1) := by decide +kernel
theorem dX11_day_20 : decode cX11_day 20 = .ok (.iadd, 1) := by decide +kernel
theorem dX11_day_21 : decode cX11_day 21 = .ok (.sipush 9999, 3) := by decide +kernel
theorem dX11_day_24 : decode cX11_day 24 = .ok (.aload_n 0, 1) := by decide +kernel
theorem dX11_day_25 : decode cX11_day 25 = .ok (.getfield 33, 3) := by decide +kernel
theorem dX11_day_28 : decode cX11_day 28 = .ok (.sipush 213, 3) := by decide +kernel
theorem dX11_day_31 : decode cX11_day 31 = .ok (.iload_n 1, 1) := by decide +kernel
theorem dX11_day_32 : decode cX11_day 32 = .ok (.iadd, 1) := by decide +kernel
theorem dX11_day_33 : decode cX11_day 33 = .ok (.iaload, 1) := by decide +kernel
theorem dX11_day_34 : decode cX11_day 34 = .ok (.aload_n 0, 1) := by decide +kernel
theorem dX11_day_35 : decode cX11_day 35 = .ok (.iload_n 1, 1) := by decide +kernel
theorem dX11_day_36 : decode cX11_day 36 = .ok (.invokevirtual 269, 3) := by decide +kernel
theorem dX11_day_39 : decode cX11_day 39 = .ok (.iadd, 1) := by decide +kernel
theorem dX11_day_40 : decode cX11_day 40 = .ok (.invokestatic 300, 3) := by decide +kernel
theorem dX11_day_43 : decode cX11_day 43 = .ok (.iastore, 1) := by decide +kernel
theorem dX11_day_44 : decode cX11_day 44 = .ok (.iinc 1 1, 3) := by decide +kernel
theorem dX11_day_47 : decode cX11_day 47 = .ok (.goto (-45), 3) := by decide +kernel
theorem dX11_day_50 : decode cX11_day 50 = .ok (.aload_n 0, 1) := by decide +kernel
theorem dX11_day_51 : decode cX11_day 51 = .ok (.invokevirtual 259, 3) := by decide +kernel
theorem dX11_day_54 : decode cX11_day 54 = .ok (.aload_n 0, 1) := by decide +kernel
theorem dX11_day_55 : decode cX11_day 55 = .ok (.getfield 33, 3) := by decide +kernel
theorem dX11_day_58 : decode cX11_day 58 = .ok (.sipush 131, 3) := by decide +kernel
theorem dX11_day_61 : decode cX11_day 61 = .ok (.dup2, 1) := by decide +kernel
theorem dX11_day_62 : decode cX11_day 62 = .ok (.iaload, 1) := by decide +kernel
theorem dX11_day_63 : decode cX11_day 63 = .ok (.iconst 1, 1) := by decide +kernel
theorem dX11_day_64 : decode cX11_day 64 = .ok (.iadd, 1) := by decide +kernel
theorem dX11_day_65 : decode cX11_day 65 = .ok (.iastore, 1) := by decide +kernel
theorem dX11_day_66 : decode cX11_day 66 = .ok (.aload_n 0, 1) := by decide +kernel
theorem dX11_day_67 : decode cX11_day 67 = .ok (.getfield 33, 3) := by decide +kernel
theorem dX11_day_70 : decode cX11_day 70 = .ok (.iconst 4, 1) := by decide +kernel
theorem dX11_day_71 : decode cX11_day 71 = .ok (.iaload, 1) := by decide +kernel
theorem dX11_day_72 : decode cX11_day 72 = .ok (.ifCond .eq 21, 3) := by decide +kernel
theorem dX11_day_75 : decode cX11_day 75 = .ok (.aload_n 0, 1) := by decide +kernel
theorem dX11_day_76 : decode cX11_day 76 = .ok (.getfield 33, 3) := by decide +kernel
theorem dX11_day_79 : decode cX11_day 79 = .ok (.sipush 131, 3) := by decide +kernel
theorem dX11_day_82 : decode cX11_day 82 = .ok (.iaload, 1) := by decide +kernel
theorem dX11_day_83 : decode cX11_day 83 = .ok (.aload_n 0, 1) := by decide +kernel
theorem dX11_day_84 : decode cX11_day 84 = .ok (.getfield 33, 3) := by decide +kernel
theorem dX11_day_87 : decode cX11_day 87 = .ok (.iconst 4, 1) := by decide +kernel
theorem dX11_day_88 : decode cX11_day 88 = .ok (.iaload, 1) := by decide +kernel
theorem dX11_day_89 : decode cX11_day 89 = .ok (.irem, 1) := by decide +kernel
theorem dX11_day_90 : decode cX11_day 90 = .ok (.ifCond .eq 4, 3) := by decide +kernel
theorem dX11_day_93 : decode cX11_day 93 = .ok (.return_, 1) := by decide +kernel
theorem dX11_day_94 : decode cX11_day 94 = .ok (.iconst 0, 1) := by decide +kernel
theorem dX11_day_95 : decode cX11_day 95 = .ok (.istore_n 1, 1) := by decide +kernel
theorem dX11_day_96 : decode cX11_day 96 = .ok (.iload_n 1, 1) := by decide +kernel
theorem dX11_day_97 : decode cX11_day 97 = .ok (.bipush 56, 2) := by decide +kernel
theorem dX11_day_99 : decode cX11_day 99 = .ok (.if_icmp .ge 20, 3) := by decide +kernel
theorem dX11_day_102 : decode cX11_day 102 = .ok (.aload_n 0, 1) := by decide +kernel
theorem dX11_day_103 : decode cX11_day 103 = .ok (.getfield 33, 3) := by decide +kernel
theorem dX11_day_106 : decode cX11_day 106 = .ok (.sipush 220, 3) := by decide +kernel
theorem dX11_day_109 : decode cX11_day 109 = .ok (.iload_n 1, 1) := by decide +kernel
theorem dX11_day_110 : decode cX11_day 110 = .ok (.iadd, 1) := by decide +kernel
theorem dX11_day_111 : decode cX11_day 111 = .ok (.iconst 0, 1) := by decide +kernel
theorem dX11_day_112 : decode cX11_day 112 = .ok (.iastore, 1) := by decide +kernel
theorem dX11_day_113 : decode cX11_day 113 = .ok (.iinc 1 1, 3) := by decide +kernel
theorem dX11_day_116 : decode cX11_day 116 = .ok (.goto (-20), 3) := by decide +kernel
theorem dX11_day_119 : decode cX11_day 119 = .ok (.return_, 1) := by decide +kernel
theorem dX11_veil_0 : decode cX11_veil 0 = .ok (.aload_n 0, 1) := by decide +kernel
theorem dX11_veil_1 : decode cX11_veil 1 = .ok (.iconst 0, 1) := by decide +kernel
theorem dX11_veil_2 : decode cX11_veil 2 = .ok (.putfield 1, 3) := by decide +kernel
theorem dX11_veil_5 : decode cX11_veil 5 = .ok (.aload_n 0, 1) := by decide +kernel
theorem dX11_veil_6 : decode cX11_veil 6 = .ok (.iload_n 1, 1) := by decide +kernel
theorem dX11_veil_7 : decode cX11_veil 7 = .ok (.invokevirtual 272, 3) := by decide +kernel
theorem dX11_veil_10 : decode cX11_veil 10 = .ok (.ifCond .ne 5, 3) := by decide +kernel
theorem dX11_veil_13 : decode cX11_veil 13 = .ok (.iconst (-1), 1) := by decide +kernel
theorem dX11_veil_14 : decode cX11_veil 14 = .ok (.ireturn, 1) := by decide +kernel
theorem dX11_veil_15 : decode cX11_veil 15 = .ok (.aload_n 0, 1) := by decide +kernel
theorem dX11_veil_16 : decode cX11_veil 16 = .ok (.iload_n 1, 1) := by decide +kernel
theorem dX11_veil_17 : decode cX11_veil 17 = .ok (.invokevirtual 323, 3) := by decide +kernel
theorem dX11_veil_20 : decode cX11_veil 20 = .ok (.istore_n 2, 1) := by decide +kernel
theorem dX11_veil_21 : decode cX11_veil 21 = .ok (.iload_n 2, 1) := by decide +kernel
theorem dX11_veil_22 : decode cX11_veil 22 = .ok (.ifCond .le 5, 3) := by decide +kernel
theorem dX11_veil_25 : decode cX11_veil 25 = .ok (.iload_n 2, 1) := by decide +kernel
theorem dX11_veil_26 : decode cX11_veil 26 = .ok (.ireturn, 1) := by decide +kernel
theorem dX11_veil_27 : decode cX11_veil 27 = .ok (.aload_n 0, 1) := by decide +kernel
theorem dX11_veil_28 : decode cX11_veil 28 = .ok (.invokevirtual 310, 3) := by decide +kernel
theorem dX11_veil_31 : decode cX11_veil 31 = .ok (.aload_n 0, 1) := by decide +kernel
theorem dX11_veil_32 : decode cX11_veil 32 = .ok (.iload_n 1, 1) := by decide +kernel
theorem dX11_veil_33 : decode cX11_veil 33 = .ok (.invokevirtual 326, 3) := by decide +kernel
theorem dX11_veil_36 : decode cX11_veil 36 = .ok (.iconst 0, 1) := by decide +kernel
theorem dX11_veil_37 : decode cX11_veil 37 = .ok (.ireturn, 1) := by decide +kernel
theorem dX11_undo_0 : decode cX11_undo 0 = .ok (.aload_n 0, 1) := by decide +kernel
theorem dX11_undo_1 : decode cX11_undo 1 = .ok (.iconst 0, 1) := by decide +kernel
theorem dX11_undo_2 : decode cX11_undo 2 = .ok (.putfield 1, 3) := by decide +kernel
theorem dX11_undo_5 : decode cX11_undo 5 = .ok (.aload_n 0, 1) := by decide +kernel
theorem dX11_undo_6 : decode cX11_undo 6 = .ok (.getfield 262, 3) := by decide +kernel
theorem dX11_undo_9 : decode cX11_undo 9 = .ok (.ifCond .ne 5, 3) := by decide +kernel
theorem dX11_undo_12 : decode cX11_undo 12 = .ok (.iconst (-1), 1) := by decide +kernel
theorem dX11_undo_13 : decode cX11_undo 13 = .ok (.ireturn, 1) := by decide +kernel
theorem dX11_undo_14 : decode cX11_undo 14 = .ok (.aload_n 0, 1) := by decide +kernel
theorem dX11_undo_15 : decode cX11_undo 15 = .ok (.dup, 1) := by decide +kernel
theorem dX11_undo_16 : decode cX11_undo 16 = .ok (.getfield 262, 3) := by decide +kernel
theorem dX11_undo_19 : decode cX11_undo 19 = .ok (.iconst 1, 1) := by decide +kernel
theorem dX11_undo_20 : decode cX11_undo 20 = .ok (.isub, 1) := by decide +kernel
theorem dX11_undo_21 : decode cX11_undo 21 = .ok (.putfield 262, 3) := by decide +kernel
theorem dX11_undo_24 : decode cX11_undo 24 = .ok (.iconst 0, 1) := by decide +kernel
theorem dX11_undo_25 : decode cX11_undo 25 = .ok (.istore_n 1, 1) := by decide +kernel
theorem dX11_undo_26 : decode cX11_undo 26 = .ok (.iload_n 1, 1) := by decide +kernel
theorem dX11_undo_27 : decode cX11_undo 27 = .ok (.sipush 145, 3) := by decide +kernel
theorem dX11_undo_30 : decode cX11_undo 30 = .ok (.if_icmp .ge 34, 3) := by decide +kernel
theorem dX11_undo_33 : decode cX11_undo 33 = .ok (.aload_n 0, 1) := by decide +kernel
theorem dX11_undo_34 : decode cX11_undo 34 = .ok (.getfield 33, 3) := by decide +kernel
theorem dX11_undo_37 : decode cX11_undo 37 = .ok (.sipush 131, 3) := by decide +kernel
theorem dX11_undo_40 : decode cX11_undo 40 = .ok (.iload_n 1, 1) := by decide +kernel
theorem dX11_undo_41 : decode cX11_undo 41 = .ok (.iadd, 1) := by decide +kernel
theorem dX11_undo_42 : decode cX11_undo 42 = .ok (.aload_n 0, 1) := by decide +kernel
theorem dX11_undo_43 : decode cX11_undo 43 = .ok (.getfield 50, 3) := by decide +kernel
theorem dX11_undo_46 : decode cX11_undo 46 = .ok (.sipush 145, 3) := by decide +kernel
theorem dX11_undo_49 : decode cX11_undo 49 = .ok (.aload_n 0, 1) := by decide +kernel
theorem dX11_undo_50 : decode cX11_undo 50 = .ok (.getfield 262, 3) := by decide +kernel
theorem dX11_undo_53 : decode cX11_undo 53 = .ok (.imul, 1) := by decide +kernel
theorem dX11_undo_54 : decode cX11_undo 54 = .ok (.iload_n 1, 1) := by decide +kernel
theorem dX11_undo_55 : decode cX11_undo 55 = .ok (.iadd, 1) := by decide +kernel
theorem dX11_undo_56 : decode cX11_undo 56 = .ok (.iaload, 1) := by decide +kernel
theorem dX11_undo_57 : decode cX11_undo 57 = .ok (.iastore, 1) := by decide +kernel
theorem dX11_undo_58 : decode cX11_undo 58 = .ok (.iinc 1 1, 3) := by decide +kernel
theorem dX11_undo_61 : decode cX11_undo 61 = .ok (.goto (-35), 3) := by decide +kernel
theorem dX11_undo_64 : decode cX11_undo 64 = .ok (.aload_n 0, 1) := by decide +kernel
theorem dX11_undo_65 : decode cX11_undo 65 = .ok (.getfield 262, 3) := by decide +kernel
theorem dX11_undo_68 : decode cX11_undo 68 = .ok (.ireturn, 1) := by decide +kernel
theorem dX11_dealsLeft_0 : decode cX11_dealsLeft 0 = .ok (.aload_n 0, 1) := by decide +kernel
theorem dX11_dealsLeft_1 : decode cX11_dealsLeft 1 = .ok (.iload_n 1, 1) := by decide +kernel
theorem dX11_dealsLeft_2 : decode cX11_dealsLeft 2 = .ok (.invokevirtual 278, 3) := by decide +kernel
theorem dX11_dealsLeft_5 : decode cX11_dealsLeft 5 = .ok (.iload_n 2, 1) := by decide +kernel
theorem dX11_dealsLeft_6 : decode cX11_dealsLeft 6 = .ok (.invokestatic 214, 3) := by decide +kernel
theorem dX11_dealsLeft_9 : decode cX11_dealsLeft 9 = .ok (.ifCond .ne 7, 3) := by decide +kernel
theorem dX11_dealsLeft_12 : decode cX11_dealsLeft 12 = .ok (.iconst 0, 1) := by decide +kernel
theorem dX11_dealsLeft_13 : decode cX11_dealsLeft 13 = .ok (.goto 51, 3) := by decide +kernel
theorem dX11_dealsLeft_16 : decode cX11_dealsLeft 16 = .ok (.aload_n 0, 1) := by decide +kernel
theorem dX11_dealsLeft_17 : decode cX11_dealsLeft 17 = .ok (.getfield 33, 3) := by decide +kernel
theorem dX11_dealsLeft_20 : decode cX11_dealsLeft 20 = .ok (.bipush 124, 2) := by decide +kernel
theorem dX11_dealsLeft_22 : decode cX11_dealsLeft 22 = .ok (.iload_n 1, 1) := by decide +kernel
theorem dX11_dealsLeft_23 : decode cX11_dealsLeft 23 = .ok (.iadd, 1) := by decide +kernel
theorem dX11_dealsLeft_24 : decode cX11_dealsLeft 24 = .ok (.iaload, 1) := by decide +kernel
theorem dX11_dealsLeft_25 : decode cX11_dealsLeft 25 = .ok (.iload_n 2, 1) := by decide +kernel
theorem dX11_dealsLeft_26 : decode cX11_dealsLeft 26 = .ok (.invokestatic 214, 3) := by decide +kernel
theorem dX11_dealsLeft_29 : decode cX11_dealsLeft 29 = .ok (.ifCond .eq 9, 3) := by decide +kernel
theorem dX11_dealsLeft_32 : decode cX11_dealsLeft 32 = .ok (.ldc_w 335, 3) := by decide +kernel
theorem dX11_dealsLeft_35 : decode cX11_dealsLeft 35 = .ok (.goto 29, 3) := by decide +kernel
theorem dX11_dealsLeft_38 : decode cX11_dealsLeft 38 = .ok (.iconst 0, 1) := by decide +kernel
theorem dX11_dealsLeft_39 : decode cX11_dealsLeft 39 = .ok (.aload_n 0, 1) := by decide +kernel
theorem dX11_dealsLeft_40 : decode cX11_dealsLeft 40 = .ok (.getfield 33, 3) := by decide +kernel
theorem dX11_dealsLeft_43 : decode cX11_dealsLeft 43 = .ok (.iconst 2, 1) := by decide +kernel
theorem dX11_dealsLeft_44 : decode cX11_dealsLeft 44 = .ok (.iaload, 1) := by decide +kernel
theorem dX11_dealsLeft_45 : decode cX11_dealsLeft 45 = .ok (.aload_n 0, 1) := by decide +kernel
theorem dX11_dealsLeft_46 : decode cX11_dealsLeft 46 = .ok (.getfield 33, 3) := by decide +kernel
theorem dX11_dealsLeft_49 : decode cX11_dealsLeft 49 = .ok (.sipush 227, 3) := by decide +kernel
theorem dX11_dealsLeft_52 : decode cX11_dealsLeft 52 = .ok (.bipush 7, 2) := by decide +kernel
theorem dX11_dealsLeft_54 : decode cX11_dealsLeft 54 = .ok (.iload_n 1, 1) := by decide +kernel
theorem dX11_dealsLeft_55 : decode cX11_dealsLeft 55 = .ok (.imul, 1) := by decide +kernel
theorem dX11_dealsLeft_56 : decode cX11_dealsLeft 56 = .ok (.iadd, 1) := by decide +kernel
theorem dX11_dealsLeft_57 : decode cX11_dealsLeft 57 = .ok (.iload_n 2, 1) := by decide +kernel
theorem dX11_dealsLeft_58 : decode cX11_dealsLeft 58 = .ok (.iadd, 1) := by decide +kernel
theorem dX11_dealsLeft_59 : decode cX11_dealsLeft 59 = .ok (.iaload, 1) := by decide +kernel
theorem dX11_dealsLeft_60 : decode cX11_dealsLeft 60 = .ok (.isub, 1) := by decide +kernel
theorem dX11_dealsLeft_61 : decode cX11_dealsLeft 61 = .ok (.invokestatic 336, 3) := by decide +kernel
theorem dX11_dealsLeft_64 : decode cX11_dealsLeft 64 = .ok (.ireturn, 1) := by decide +kernel
theorem dX11_ask_0 : decode cX11_ask 0 = .ok (.aload_n 0, 1) := by decide +kernel
theorem dX11_ask_1 : decode cX11_ask 1 = .ok (.iconst 0, 1) := by decide +kernel
theorem dX11_ask_2 : decode cX11_ask 2 = .ok (.putfield 1, 3) := by decide +kernel
theorem dX11_ask_5 : decode cX11_ask 5 = .ok (.aload_n 0, 1) := by decide +kernel
theorem dX11_ask_6 : decode cX11_ask 6 = .ok (.getfield 351, 3) := by decide +kernel
theorem dX11_ask_9 : decode cX11_ask 9 = .ok (.ifCond .eq 10, 3) := by decide +kernel
theorem dX11_ask_12 : decode cX11_ask 12 = .ok (.aload_n 0, 1) := by decide +kernel
theorem dX11_ask_13 : decode cX11_ask 13 = .ok (.getfield 355, 3) := by decide +kernel
theorem dX11_ask_16 : decode cX11_ask 16 = .ok (.goto 4, 3) := by decide +kernel
theorem dX11_ask_19 : decode cX11_ask 19 = .ok (.iconst (-1), 1) := by decide +kernel
theorem dX11_ask_20 : decode cX11_ask 20 = .ok (.ireturn, 1) := by decide +kernel
theorem dX11_laysSteps_0 : decode cX11_laysSteps 0 = .ok (.iconst 0, 1) := by decide +kernel
theorem dX11_laysSteps_1 : decode cX11_laysSteps 1 = .ok (.istore_n 2, 1) := by decide +kernel
theorem dX11_laysSteps_2 : decode cX11_laysSteps 2 = .ok (.iload_n 2, 1) := by decide +kernel
theorem dX11_laysSteps_3 : decode cX11_laysSteps 3 = .ok (.bipush 7, 2) := by decide +kernel
theorem dX11_laysSteps_5 : decode cX11_laysSteps 5 = .ok (.if_icmp .ge 27, 3) := by decide +kernel
theorem dX11_laysSteps_8 : decode cX11_laysSteps 8 = .ok (.aload_n 0, 1) := by decide +kernel
theorem dX11_laysSteps_9 : decode cX11_laysSteps 9 = .ok (.getfield 65, 3) := by decide +kernel
theorem dX11_laysSteps_12 : decode cX11_laysSteps 12 = .ok (.iload_n 2, 1) := by decide +kernel
theorem dX11_laysSteps_13 : decode cX11_laysSteps 13 = .ok (.iload_n 2, 1) := by decide +kernel
theorem dX11_laysSteps_14 : decode cX11_laysSteps 14 = .ok (.iload_n 1, 1) := by decide +kernel
theorem dX11_laysSteps_15 : decode cX11_laysSteps 15 = .ok (.if_icmp .ne 7, 3) := by decide +kernel
theorem dX11_laysSteps_18 : decode cX11_laysSteps 18 = .ok (.iconst 0, 1) := by decide +kernel
theorem dX11_laysSteps_19 : decode cX11_laysSteps 19 = .ok (.goto 6, 3) := by decide +kernel
theorem dX11_laysSteps_22 : decode cX11_laysSteps 22 = .ok (.ldc_w 335, 3) := by decide +kernel
theorem dX11_laysSteps_25 : decode cX11_laysSteps 25 = .ok (.iastore, 1) := by decide +kernel
theorem dX11_laysSteps_26 : decode cX11_laysSteps 26 = .ok (.iinc 2 1, 3) := by decide +kernel
theorem dX11_laysSteps_29 : decode cX11_laysSteps 29 = .ok (.goto (-27), 3) := by decide +kernel
theorem dX11_laysSteps_32 : decode cX11_laysSteps 32 = .ok (.iconst 0, 1) := by decide +kernel
theorem dX11_laysSteps_33 : decode cX11_laysSteps 33 = .ok (.istore_n 2, 1) := by decide +kernel
theorem dX11_laysSteps_34 : decode cX11_laysSteps 34 = .ok (.iload_n 2, 1) := by decide +kernel
theorem dX11_laysSteps_35 : decode cX11_laysSteps 35 = .ok (.bipush 7, 2) := by decide +kernel
theorem dX11_laysSteps_37 : decode cX11_laysSteps 37 = .ok (.if_icmp .ge 97, 3) := by decide +kernel
theorem dX11_laysSteps_40 : decode cX11_laysSteps 40 = .ok (.iconst 0, 1) := by decide +kernel
theorem dX11_laysSteps_41 : decode cX11_laysSteps 41 = .ok (.istore_n 3, 1) := by decide +kernel
theorem dX11_laysSteps_42 : decode cX11_laysSteps 42 = .ok (.iload_n 3, 1) := by decide +kernel
theorem dX11_laysSteps_43 : decode cX11_laysSteps 43 = .ok (.aload_n 0, 1) := by decide +kernel
theorem dX11_laysSteps_44 : decode cX11_laysSteps 44 = .ok (.getfield 33, 3) := by decide +kernel
theorem dX11_laysSteps_47 : decode cX11_laysSteps 47 = .ok (.iconst 0, 1) := by decide +kernel
theorem dX11_laysSteps_48 : decode cX11_laysSteps 48 = .ok (.iaload, 1) := by decide +kernel
theorem dX11_laysSteps_49 : decode cX11_laysSteps 49 = .ok (.if_icmp .ge 79, 3) := by decide +kernel
theorem dX11_laysSteps_52 : decode cX11_laysSteps 52 = .ok (.aload_n 0, 1) := by decide +kernel
theorem dX11_laysSteps_53 : decode cX11_laysSteps 53 = .ok (.iload_n 3, 1) := by decide +kernel
theorem dX11_laysSteps_54 : decode cX11_laysSteps 54 = .ok (.invokevirtual 278, 3) := by decide +kernel
theorem dX11_laysSteps_57 : decode cX11_laysSteps 57 = .ok (.istore 4, 2) := by decide +kernel
theorem dX11_laysSteps_59 : decode cX11_laysSteps 59 = .ok (.iconst 0, 1) := by decide +kernel
theorem dX11_laysSteps_60 : decode cX11_laysSteps 60 = .ok (.istore 5, 2) := by decide +kernel
theorem dX11_laysSteps_62 : decode cX11_laysSteps 62 = .ok (.iload 5, 2) := by decide +kernel
theorem dX11_laysSteps_64 : decode cX11_laysSteps 64 = .ok (.aload_n 0, 1) := by decide +kernel
theorem dX11_laysSteps_65 : decode cX11_laysSteps 65 = .ok (.getfield 33, 3) := by decide +kernel
theorem dX11_laysSteps_68 : decode cX11_laysSteps 68 = .ok (.iconst 0, 1) := by decide +kernel
theorem dX11_laysSteps_69 : decode cX11_laysSteps 69 = .ok (.iaload, 1) := by decide +kernel
theorem dX11_laysSteps_70 : decode cX11_laysSteps 70 = .ok (.if_icmp .ge 52, 3) := by decide +kernel
theorem dX11_laysSteps_73 : decode cX11_laysSteps 73 = .ok (.iload 4, 2) := by decide +kernel
theorem dX11_laysSteps_75 : decode cX11_laysSteps 75 = .ok (.iload 5, 2) := by decide +kernel
theorem dX11_laysSteps_77 : decode cX11_laysSteps 77 = .ok (.invokestatic 214, 3) := by decide +kernel
theorem dX11_laysSteps_80 : decode cX11_laysSteps 80 = .ok (.ifCond .eq 36, 3) := by decide +kernel
theorem dX11_laysSteps_83 : decode cX11_laysSteps 83 = .ok (.aload_n 0, 1) := by decide +kernel
theorem dX11_laysSteps_84 : decode cX11_laysSteps 84 = .ok (.getfield 65, 3) := by decide +kernel
theorem dX11_laysSteps_87 : decode cX11_laysSteps 87 = .ok (.iload 5, 2) := by decide +kernel
theorem dX11_laysSteps_89 : decode cX11_laysSteps 89 = .ok (.iaload, 1) := by decide +kernel
theorem dX11_laysSteps_90 : decode cX11_laysSteps 90 = .ok (.iconst 1, 1) := by decide +kernel
theorem dX11_laysSteps_91 : decode cX11_laysSteps 91 = .ok (.iadd, 1) := by decide +kernel
theorem dX11_laysSteps_92 : decode cX11_laysSteps 92 = .ok (.aload_n 0, 1) := by decide +kernel
theorem dX11_laysSteps_93 : decode cX11_laysSteps 93 = .ok (.getfield 65, 3) := by decide +kernel
theorem dX11_laysSteps_96 : decode cX11_laysSteps 96 = .ok (.iload_n 3, 1) := by decide +kernel
theorem dX11_laysSteps_97 : decode cX11_laysSteps 97 = .ok (.iaload, 1) := by decide +kernel
theorem dX11_laysSteps_98 : decode cX11_laysSteps 98 = .ok (.if_icmp .ge 18, 3) := by decide +kernel
theorem dX11_laysSteps_101 : decode cX11_laysSteps 101 = .ok (.aload_n 0, 1) := by decide +kernel
theorem dX11_laysSteps_102 : decode cX11_laysSteps 102 = .ok (.getfield 65, 3) := by decide +kernel
theorem dX11_laysSteps_105 : decode cX11_laysSteps 105 = .ok (.iload_n 3, 1) := by decide +kernel
theorem dX11_laysSteps_106 : decode cX11_laysSteps 106 = .ok (.aload_n 0, 1) := by decide +kernel
theorem dX11_laysSteps_107 : decode cX11_laysSteps 107 = .ok (.getfield 65, 3) := by decide +kernel
theorem dX11_laysSteps_110 : decode cX11_laysSteps 110 = .ok (.iload 5, 2) := by decide +kernel
theorem dX11_laysSteps_112 : decode cX11_laysSteps 112 = .ok (.iaload, 1) := by decide +kernel
theorem dX11_laysSteps_113 : decode cX11_laysSteps 113 = .ok (.iconst 1, 1) := by decide +kernel
theorem dX11_laysSteps_114 : decode cX11_laysSteps 114 = .ok (.iadd, 1) := by decide +kernel
theorem dX11_laysSteps_115 : decode cX11_laysSteps 115 = .ok (.iastore, 1) := by decide +kernel
theorem dX11_laysSteps_116 : decode cX11_laysSteps 116 = .ok (.iinc 5 1, 3) := by decide +kernel
theorem dX11_laysSteps_119 : decode cX11_laysSteps 119 = .ok (.goto (-57), 3) := by decide +kernel
theorem dX11_laysSteps_122 : decode cX11_laysSteps 122 = .ok (.iinc 3 1, 3) := by decide +kernel
theorem dX11_laysSteps_125 : decode cX11_laysSteps 125 = .ok (.goto (-83), 3) := by decide +kernel
theorem dX11_laysSteps_128 : decode cX11_laysSteps 128 = .ok (.iinc 2 1, 3) := by decide +kernel
theorem dX11_laysSteps_131 : decode cX11_laysSteps 131 = .ok (.goto (-97), 3) := by decide +kernel
theorem dX11_laysSteps_134 : decode cX11_laysSteps 134 = .ok (.return_, 1) := by decide +kernel
theorem dX11_out_0 : decode cX11_out 0 = .ok (.aload_n 0, 1) := by decide +kernel
theorem dX11_out_1 : decode cX11_out 1 = .ok (.iconst 0, 1) := by decide +kernel
theorem dX11_out_2 : decode cX11_out 2 = .ok (.putfield 1, 3) := by decide +kernel
theorem dX11_out_5 : decode cX11_out 5 = .ok (.aload_n 0, 1) := by decide +kernel
theorem dX11_out_6 : decode cX11_out 6 = .ok (.iload_n 1, 1) := by decide +kernel
theorem dX11_out_7 : decode cX11_out 7 = .ok (.invokevirtual 272, 3) := by decide +kernel
theorem dX11_out_10 : decode cX11_out 10 = .ok (.ifCond .ne 5, 3) := by decide +kernel
theorem dX11_out_13 : decode cX11_out 13 = .ok (.iconst (-1), 1) := by decide +kernel
theorem dX11_out_14 : decode cX11_out 14 = .ok (.ireturn, 1) := by decide +kernel
theorem dX11_out_15 : decode cX11_out 15 = .ok (.iconst 1, 1) := by decide +kernel
theorem dX11_out_16 : decode cX11_out 16 = .ok (.aload_n 0, 1) := by decide +kernel
theorem dX11_out_17 : decode cX11_out 17 = .ok (.getfield 33, 3) := by decide +kernel
theorem dX11_out_20 : decode cX11_out 20 = .ok (.iconst 0, 1) := by decide +kernel
theorem dX11_out_21 : decode cX11_out 21 = .ok (.iaload, 1) := by decide +kernel
theorem dX11_out_22 : decode cX11_out 22 = .ok (.ishl, 1) := by decide +kernel
theorem dX11_out_23 : decode cX11_out 23 = .ok (.iconst 1, 1) := by decide +kernel
theorem dX11_out_24 : decode cX11_out 24 = .ok (.isub, 1) := by decide +kernel
theorem dX11_out_25 : decode cX11_out 25 = .ok (.istore_n 2, 1) := by decide +kernel
theorem dX11_out_26 : decode cX11_out 26 = .ok (.iconst 1, 1) := by decide +kernel
theorem dX11_out_27 : decode cX11_out 27 = .ok (.iload_n 1, 1) := by decide +kernel
theorem dX11_out_28 : decode cX11_out 28 = .ok (.ishl, 1) := by decide +kernel
theorem dX11_out_29 : decode cX11_out 29 = .ok (.istore_n 3, 1) := by decide +kernel
theorem dX11_out_30 : decode cX11_out 30 = .ok (.iconst 0, 1) := by decide +kernel
theorem dX11_out_31 : decode cX11_out 31 = .ok (.istore 4, 2) := by decide +kernel
theorem dX11_out_33 : decode cX11_out 33 = .ok (.iload_n 3, 1) := by decide +kernel
theorem dX11_out_34 : decode cX11_out 34 = .ok (.iload_n 2, 1) := by decide +kernel
theorem dX11_out_35 : decode cX11_out 35 = .ok (.if_icmp .eq 28, 3) := by decide +kernel
theorem dX11_out_38 : decode cX11_out 38 = .ok (.aload_n 0, 1) := by decide +kernel
theorem dX11_out_39 : decode cX11_out 39 = .ok (.iload_n 3, 1) := by decide +kernel
theorem dX11_out_40 : decode cX11_out 40 = .ok (.iconst 0, 1) := by decide +kernel
theorem dX11_out_41 : decode cX11_out 41 = .ok (.invokevirtual 370, 3) := by decide +kernel
theorem dX11_out_44 : decode cX11_out 44 = .ok (.istore 5, 2) := by decide +kernel
theorem dX11_out_46 : decode cX11_out 46 = .ok (.iload 5, 2) := by decide +kernel
theorem dX11_out_48 : decode cX11_out 48 = .ok (.iload_n 3, 1) := by decide +kernel
theorem dX11_out_49 : decode cX11_out 49 = .ok (.if_icmp .ne 5, 3) := by decide +kernel
theorem dX11_out_52 : decode cX11_out 52 = .ok (.iconst (-1), 1) := by decide +kernel
theorem dX11_out_53 : decode cX11_out 53 = .ok (.ireturn, 1) := by decide +kernel
theorem dX11_out_54 : decode cX11_out 54 = .ok (.iload 5, 2) := by decide +kernel
theorem dX11_out_56 : decode cX11_out 56 = .ok (.istore_n 3, 1) := by decide +kernel
theorem dX11_out_57 : decode cX11_out 57 = .ok (.iinc 4 1, 3) := by decide +kernel
theorem dX11_out_60 : decode cX11_out 60 = .ok (.goto (-27), 3) := by decide +kernel
theorem dX11_out_63 : decode cX11_out 63 = .ok (.iload 4, 2) := by decide +kernel
theorem dX11_out_65 : decode cX11_out 65 = .ok (.ireturn, 1) := by decide +kernel
theorem dX11_recluse_0 : decode cX11_recluse 0 = .ok (.aload_n 0, 1) := by decide +kernel
theorem dX11_recluse_1 : decode cX11_recluse 1 = .ok (.iconst 0, 1) := by decide +kernel
theorem dX11_recluse_2 : decode cX11_recluse 2 = .ok (.putfield 1, 3) := by decide +kernel
theorem dX11_recluse_5 : decode cX11_recluse 5 = .ok (.iconst (-1), 1) := by decide +kernel
theorem dX11_recluse_6 : decode cX11_recluse 6 = .ok (.istore_n 1, 1) := by decide +kernel
theorem dX11_recluse_7 : decode cX11_recluse 7 = .ok (.iconst 0, 1) := by decide +kernel
theorem dX11_recluse_8 : decode cX11_recluse 8 = .ok (.istore_n 2, 1) := by decide +kernel
theorem dX11_recluse_9 : decode cX11_recluse 9 = .ok (.iload_n 2, 1) := by decide +kernel
theorem dX11_recluse_10 : decode cX11_recluse 10 = .ok (.aload_n 0, 1) := by decide +kernel
theorem dX11_recluse_11 : decode cX11_recluse 11 = .ok (.getfield 33, 3) := by decide +kernel
theorem dX11_recluse_14 : decode cX11_recluse 14 = .ok (.iconst 0, 1) := by decide +kernel
theorem dX11_recluse_15 : decode cX11_recluse 15 = .ok (.iaload, 1) := by decide +kernel
theorem dX11_recluse_16 : decode cX11_recluse 16 = .ok (.if_icmp .ge 34, 3) := by decide +kernel
theorem dX11_recluse_19 : decode cX11_recluse 19 = .ok (.iload_n 1, 1) := by decide +kernel
theorem dX11_recluse_20 : decode cX11_recluse 20 = .ok (.ifCond .lt 22, 3) := by decide +kernel
theorem dX11_recluse_23 : decode cX11_recluse 23 = .ok (.aload_n 0, 1) := by decide +kernel
theorem dX11_recluse_24 : decode cX11_recluse 24 = .ok (.iload_n 2, 1) := by decide +kernel
theorem dX11_recluse_25 : decode cX11_recluse 25 = .ok (.invokevirtual 265, 3) := by decide +kernel
theorem dX11_recluse_28 : decode cX11_recluse 28 = .ok (.invokestatic 284, 3) := by decide +kernel
theorem dX11_recluse_31 : decode cX11_recluse 31 = .ok (.aload_n 0, 1) := by decide +kernel
theorem dX11_recluse_32 : decode cX11_recluse 32 = .ok (.iload_n 1, 1) := by decide +kernel
theorem dX11_recluse_33 : decode cX11_recluse 33 = .ok (.invokevirtual 265, 3) := by decide +kernel
theorem dX11_recluse_36 : decode cX11_recluse 36 = .ok (.invokestatic 284, 3) := by decide +kernel
theorem dX11_recluse_39 : decode cX11_recluse 39 = .ok (.if_icmp .ge 5, 3) := by decide +kernel
theorem dX11_recluse_42 : decode cX11_recluse 42 = .ok (.iload_n 2, 1) := by decide +kernel
theorem dX11_recluse_43 : decode cX11_recluse 43 = .ok (.istore_n 1, 1) := by decide +kernel
theorem dX11_recluse_44 : decode cX11_recluse 44 = .ok (.iinc 2 1, 3) := by decide +kernel
theorem dX11_recluse_47 : decode cX11_recluse 47 = .ok (.goto (-38), 3) := by decide +kernel
theorem dX11_recluse_50 : decode cX11_recluse 50 = .ok (.iload_n 1, 1) := by decide +kernel
theorem dX11_recluse_51 : decode cX11_recluse 51 = .ok (.ireturn, 1) := by decide +kernel
theorem dX11_face_0 : decode cX11_face 0 = .ok (.aload_n 0, 1) := by decide +kernel
theorem dX11_face_1 : decode cX11_face 1 = .ok (.iconst 0, 1) := by decide +kernel
theorem dX11_face_2 : decode cX11_face 2 = .ok (.putfield 1, 3) := by decide +kernel
theorem dX11_face_5 : decode cX11_face 5 = .ok (.aload_n 0, 1) := by decide +kernel
theorem dX11_face_6 : decode cX11_face 6 = .ok (.iload_n 1, 1) := by decide +kernel
theorem dX11_face_7 : decode cX11_face 7 = .ok (.invokevirtual 272, 3) := by decide +kernel
theorem dX11_face_10 : decode cX11_face 10 = .ok (.ifCond .ne 5, 3) := by decide +kernel
theorem dX11_face_13 : decode cX11_face 13 = .ok (.iconst (-1), 1) := by decide +kernel
theorem dX11_face_14 : decode cX11_face 14 = .ok (.ireturn, 1) := by decide +kernel
theorem dX11_face_15 : decode cX11_face 15 = .ok (.aload_n 0, 1) := by decide +kernel
theorem dX11_face_16 : decode cX11_face 16 = .ok (.iconst 0, 1) := by decide +kernel
theorem dX11_face_17 : decode cX11_face 17 = .ok (.putfield 382, 3) := by decide +kernel
theorem dX11_face_20 : decode cX11_face 20 = .ok (.aload_n 0, 1) := by decide +kernel
theorem dX11_face_21 : decode cX11_face 21 = .ok (.aload_n 0, 1) := by decide +kernel
theorem dX11_face_22 : decode cX11_face 22 = .ok (.getfield 43, 3) := by decide +kernel
theorem dX11_face_25 : decode cX11_face 25 = .ok (.iload_n 1, 1) := by decide +kernel
theorem dX11_face_26 : decode cX11_face 26 = .ok (.laload, 1) := by decide +kernel
theorem dX11_face_27 : decode cX11_face 27 = .ok (.invokevirtual 390, 3) := by decide +kernel
theorem dX11_face_30 : decode cX11_face 30 = .ok (.aload_n 0, 1) := by decide +kernel
theorem dX11_face_31 : decode cX11_face 31 = .ok (.ldc2_w 104, 3) := by decide +kernel
theorem dX11_face_34 : decode cX11_face 34 = .ok (.invokevirtual 394, 3) := by decide +kernel
theorem dX11_face_37 : decode cX11_face 37 = .ok (.aload_n 0, 1) := by decide +kernel
theorem dX11_face_38 : decode cX11_face 38 = .ok (.iload_n 1, 1) := by decide +kernel
theorem dX11_face_39 : decode cX11_face 39 = .ok (.invokevirtual 265, 3) := by decide +kernel
theorem dX11_face_42 : decode cX11_face 42 = .ok (.ifCond .ne 10, 3) := by decide +kernel
theorem dX11_face_45 : decode cX11_face 45 = .ok (.aload_n 0, 1) := by decide +kernel
theorem dX11_face_46 : decode cX11_face 46 = .ok (.ldc2_w 397, 3) := by decide +kernel
theorem dX11_face_49 : decode cX11_face 49 = .ok (.invokevirtual 394, 3) := by decide +kernel
theorem dX11_face_52 : decode cX11_face 52 = .ok (.iconst 0, 1) := by decide +kernel
theorem dX11_face_53 : decode cX11_face 53 = .ok (.istore_n 2, 1) := by decide +kernel
theorem dX11_face_54 : decode cX11_face 54 = .ok (.iload_n 2, 1) := by decide +kernel
theorem dX11_face_55 : decode cX11_face 55 = .ok (.aload_n 0, 1) := by decide +kernel
theorem dX11_face_56 : decode cX11_face 56 = .ok (.getfield 33, 3) := by decide +kernel
theorem dX11_face_59 : decode cX11_face 59 = .ok (.iconst 0, 1) := by decide +kernel
theorem dX11_face_60 : decode cX11_face 60 = .ok (.iaload, 1) := by decide +kernel
theorem dX11_face_61 : decode cX11_face 61 = .ok (.if_icmp .ge 31, 3) := by decide +kernel
theorem dX11_face_64 : decode cX11_face 64 = .ok (.aload_n 0, 1) := by decide +kernel
theorem dX11_face_65 : decode cX11_face 65 = .ok (.iload_n 1, 1) := by decide +kernel
theorem dX11_face_66 : decode cX11_face 66 = .ok (.invokevirtual 265, 3) := by decide +kernel
theorem dX11_face_69 : decode cX11_face 69 = .ok (.iload_n 2, 1) := by decide +kernel
theorem dX11_face_70 : decode cX11_face 70 = .ok (.invokestatic 214, 3) := by decide +kernel
theorem dX11_face_73 : decode cX11_face 73 = .ok (.ifCond .eq 13, 3) := by decide +kernel
theorem dX11_face_76 : decode cX11_face 76 = .ok (.aload_n 0, 1) := by decide +kernel
theorem dX11_face_77 : decode cX11_face 77 = .ok (.aload_n 0, 1) := by decide +kernel
theorem dX11_face_78 : decode cX11_face 78 = .ok (.getfield 43, 3) := by decide +kernel
theorem dX11_face_81 : decode cX11_face 81 = .ok (.iload_n 2, 1) := by decide +kernel
theorem dX11_face_82 : decode cX11_face 82 = .ok (.laload, 1) := by decide +kernel
theorem dX11_face_83 : decode cX11_face 83 = .ok (.invokevirtual 394, 3) := by decide +kernel
theorem dX11_face_86 : decode cX11_face 86 = .ok (.iinc 2 1, 3) := by decide +kernel
theorem dX11_face_89 : decode cX11_face 89 = .ok (.goto (-35), 3) := by decide +kernel
theorem dX11_face_92 : decode cX11_face 92 = .ok (.aload_n 0, 1) := by decide +kernel
theorem dX11_face_93 : decode cX11_face 93 = .ok (.iload_n 1, 1) := by decide +kernel
theorem dX11_face_94 : decode cX11_face 94 = .ok (.invokevirtual 293, 3) := by decide +kernel
theorem dX11_face_97 : decode cX11_face 97 = .ok (.ifCond .eq 10, 3) := by decide +kernel
theorem dX11_face_100 : decode cX11_face 100 = .ok (.aload_n 0, 1) := by decide +kernel
theorem dX11_face_101 : decode cX11_face 101 = .ok (.ldc2_w 130, 3) := by decide +kernel
theorem dX11_face_104 : decode cX11_face 104 = .ok (.invokevirtual 394, 3) := by decide +kernel
theorem dX11_face_107 : decode cX11_face 107 = .ok (.aload_n 0, 1) := by decide +kernel
theorem dX11_face_108 : decode cX11_face 108 = .ok (.iload_n 1, 1) := by decide +kernel
theorem dX11_face_109 : decode cX11_face 109 = .ok (.invokevirtual 290, 3) := by decide +kernel
theorem dX11_face_112 : decode cX11_face 112 = .ok (.ifCond .eq 10, 3) := by decide +kernel
theorem dX11_face_115 : decode cX11_face 115 = .ok (.aload_n 0, 1) := by decide +kernel
theorem dX11_face_116 : decode cX11_face 116 = .ok (.ldc2_w 128, 3) := by decide +kernel
theorem dX11_face_119 : decode cX11_face 119 = .ok (.invokevirtual 394, 3) := by decide +kernel
theorem dX11_face_122 : decode cX11_face 122 = .ok (.aload_n 0, 1) := by decide +kernel
theorem dX11_face_123 : decode cX11_face 123 = .ok (.getfield 382, 3) := by decide +kernel
theorem dX11_face_126 : decode cX11_face 126 = .ok (.ireturn, 1) := by decide +kernel
theorem dX11_draws_0 : decode cX11_draws 0 = .ok (.aload_n 0, 1) := by decide +kernel
theorem dX11_draws_1 : decode cX11_draws 1 = .ok (.iload_n 2, 1) := by decide +kernel
theorem dX11_draws_2 : decode cX11_draws 2 = .ok (.putfield 399, 3) := by decide +kernel
theorem dX11_draws_5 : decode cX11_draws 5 = .ok (.iconst 0, 1) := by decide +kernel
theorem dX11_draws_6 : decode cX11_draws 6 = .ok (.istore_n 3, 1) := by decide +kernel
theorem dX11_draws_7 : decode cX11_draws 7 = .ok (.iload_n 3, 1) := by decide +kernel
theorem dX11_draws_8 : decode cX11_draws 8 = .ok (.iload_n 1, 1) := by decide +kernel
theorem dX11_draws_9 : decode cX11_draws 9 = .ok (.if_icmp .ge 53, 3) := by decide +kernel
theorem dX11_draws_12 : decode cX11_draws 12 = .ok (.aload_n 0, 1) := by decide +kernel
theorem dX11_draws_13 : decode cX11_draws 13 = .ok (.getfield 33, 3) := by decide +kernel
theorem dX11_draws_16 : decode cX11_draws 16 = .ok (.sipush 131, 3) := by decide +kernel
theorem dX11_draws_19 : decode cX11_draws 19 = .ok (.iaload, 1) := by decide +kernel
theorem dX11_draws_20 : decode cX11_draws 20 = .ok (.sipush 400, 3) := by decide +kernel
theorem dX11_draws_23 : decode cX11_draws 23 = .ok (.if_icmp .ge 39, 3) := by decide +kernel
theorem dX11_draws_26 : decode cX11_draws 26 = .ok (.iconst 0, 1) := by decide +kernel
theorem dX11_draws_27 : decode cX11_draws 27 = .ok (.istore 4, 2) := by decide +kernel
theorem dX11_draws_29 : decode cX11_draws 29 = .ok (.iload 4, 2) := by decide +kernel
theorem dX11_draws_31 : decode cX11_draws 31 = .ok (.aload_n 0, 1) := by decide +kernel
theorem dX11_draws_32 : decode cX11_draws 32 = .ok (.getfield 33, 3) := by decide +kernel
theorem dX11_draws_35 : decode cX11_draws 35 = .ok (.iconst 0, 1) := by decide +kernel
theorem dX11_draws_36 : decode cX11_draws 36 = .ok (.iaload, 1) := by decide +kernel
theorem dX11_draws_37 : decode cX11_draws 37 = .ok (.if_icmp .ge 15, 3) := by decide +kernel
theorem dX11_draws_40 : decode cX11_draws 40 = .ok (.aload_n 0, 1) := by decide +kernel
theorem dX11_draws_41 : decode cX11_draws 41 = .ok (.iload 4, 2) := by decide +kernel
theorem dX11_draws_43 : decode cX11_draws 43 = .ok (.invokevirtual 406, 3) := by decide +kernel
theorem dX11_draws_46 : decode cX11_draws 46 = .ok (.iinc 4 1, 3) := by decide +kernel
theorem dX11_draws_49 : decode cX11_draws 49 = .ok (.goto (-20), 3) := by decide +kernel
theorem dX11_draws_52 : decode cX11_draws 52 = .ok (.aload_n 0, 1) := by decide +kernel
theorem dX11_draws_53 : decode cX11_draws 53 = .ok (.invokevirtual 303, 3) := by decide +kernel
theorem dX11_draws_56 : decode cX11_draws 56 = .ok (.iinc 3 1, 3) := by decide +kernel
theorem dX11_draws_59 : decode cX11_draws 59 = .ok (.goto (-52), 3) := by decide +kernel
theorem dX11_draws_62 : decode cX11_draws 62 = .ok (.iload_n 3, 1) := by decide +kernel
theorem dX11_draws_63 : decode cX11_draws 63 = .ok (.ireturn, 1) := by decide +kernel
theorem dX11_does_0 : decode cX11_does 0 = .ok (.iconst 0, 1) := by decide +kernel
theorem dX11_does_1 : decode cX11_does 1 = .ok (.istore 5, 2) := by decide +kernel
theorem dX11_does_3 : decode cX11_does 3 = .ok (.iload_n 1, 1) := by decide +kernel
theorem dX11_does_4 : decode cX11_does 4 = .ok (.tableswitch 125 0 3 #[32, 58, 80, 100], 32) := by decide +kernel
theorem dX11_does_36 : decode cX11_does 36 = .ok (.aload_n 0, 1) := by decide +kernel
theorem dX11_does_37 : decode cX11_does 37 = .ok (.iload_n 2, 1) := by decide +kernel
theorem dX11_does_38 : decode cX11_does 38 = .ok (.iload_n 3, 1) := by decide +kernel
theorem dX11_does_39 : decode cX11_does 39 = .ok (.iload 4, 2) := by decide +kernel
theorem dX11_does_41 : decode cX11_does 41 = .ok (.invokevirtual 306, 3) := by decide +kernel
theorem dX11_does_44 : decode cX11_does 44 = .ok (.istore 5, 2) := by decide +kernel
theorem dX11_does_46 : decode cX11_does 46 = .ok (.iload 5, 2) := by decide +kernel
theorem dX11_does_48 : decode cX11_does 48 = .ok (.ifCond .ne 106, 3) := by decide +kernel
theorem dX11_does_51 : decode cX11_does 51 = .ok (.aload_n 0, 1) := by decide +kernel
theorem dX11_does_52 : decode cX11_does 52 = .ok (.iload_n 2, 1) := by decide +kernel
theorem dX11_does_53 : decode cX11_does 53 = .ok (.iload_n 3, 1) := by decide +kernel
theorem dX11_does_54 : decode cX11_does 54 = .ok (.iload 4, 2) := by decide +kernel
theorem dX11_does_56 : decode cX11_does 56 = .ok (.invokevirtual 313, 3) := by decide +kernel
theorem dX11_does_59 : decode cX11_does 59 = .ok (.goto 95, 3) := by decide +kernel
theorem dX11_does_62 : decode cX11_does 62 = .ok (.aload_n 0, 1) := by decide +kernel
theorem dX11_does_63 : decode cX11_does 63 = .ok (.iload_n 2, 1) := by decide +kernel
theorem dX11_does_64 : decode cX11_does 64 = .ok (.iload_n 3, 1) := by decide +kernel
theorem dX11_does_65 : decode cX11_does 65 = .ok (.invokevirtual 317, 3) := by decide +kernel
theorem dX11_does_68 : decode cX11_does 68 = .ok (.istore 5, 2) := by decide +kernel
theorem dX11_does_70 : decode cX11_does 70 = .ok (.iload 5, 2) := by decide +kernel
theorem dX11_does_72 : decode cX11_does 72 = .ok (.ifCond .ne 82, 3) := by decide +kernel
theorem dX11_does_75 : decode cX11_does 75 = .ok (.aload_n 0, 1) := by decide +kernel
theorem dX11_does_76 : decode cX11_does 76 = .ok (.iload_n 2, 1) := by decide +kernel
theorem dX11_does_77 : decode cX11_does 77 = .ok (.iload_n 3, 1) := by decide +kernel
theorem dX11_does_78 : decode cX11_does 78 = .ok (.invokevirtual 320, 3) := by decide +kernel
theorem dX11_does_81 : decode cX11_does 81 = .ok (.goto 73, 3) := by decide +kernel
theorem dX11_does_84 : decode cX11_does 84 = .ok (.aload_n 0, 1) := by decide +kernel
theorem dX11_does_85 : decode cX11_does 85 = .ok (.iload_n 2, 1) := by decide +kernel
theorem dX11_does_86 : decode cX11_does 86 = .ok (.invokevirtual 323, 3) := by decide +kernel
theorem dX11_does_89 : decode cX11_does 89 = .ok (.istore 5, 2) := by decide +kernel
theorem dX11_does_91 : decode cX11_does 91 = .ok (.iload 5, 2) := by decide +kernel
theorem dX11_does_93 : decode cX11_does 93 = .ok (.ifCond .ne 61, 3) := by decide +kernel
theorem dX11_does_96 : decode cX11_does 96 = .ok (.aload_n 0, 1) := by decide +kernel
theorem dX11_does_97 : decode cX11_does 97 = .ok (.iload_n 2, 1) := by decide +kernel
theorem dX11_does_98 : decode cX11_does 98 = .ok (.invokevirtual 326, 3) := by decide +kernel
theorem dX11_does_101 : decode cX11_does 101 = .ok (.goto 53, 3) := by decide +kernel
theorem dX11_does_104 : decode cX11_does 104 = .ok (.aload_n 0, 1) := by decide +kernel
theorem dX11_does_105 : decode cX11_does 105 = .ok (.iload_n 2, 1) := by decide +kernel
theorem dX11_does_106 : decode cX11_does 106 = .ok (.iload_n 3, 1) := by decide +kernel
theorem dX11_does_107 : decode cX11_does 107 = .ok (.iload 4, 2) := by decide +kernel
theorem dX11_does_109 : decode cX11_does 109 = .ok (.invokevirtual 329, 3) := by decide +kernel
theorem dX11_does_112 : decode cX11_does 112 = .ok (.istore 5, 2) := by decide +kernel
theorem dX11_does_114 : decode cX11_does 114 = .ok (.iload 5, 2) := by decide +kernel
theorem dX11_does_116 : decode cX11_does 116 = .ok (.ifCond .ne 38, 3) := by decide +kernel
theorem dX11_does_119 : decode cX11_does 119 = .ok (.aload_n 0, 1) := by decide +kernel
theorem dX11_does_120 : decode cX11_does 120 = .ok (.iload_n 3, 1) := by decide +kernel
theorem dX11_does_121 : decode cX11_does 121 = .ok (.iload 4, 2) := by decide +kernel
theorem dX11_does_123 : decode cX11_does 123 = .ok (.invokevirtual 296, 3) := by decide +kernel
theorem dX11_does_126 : decode cX11_does 126 = .ok (.goto 28, 3) := by decide +kernel
theorem dX11_does_129 : decode cX11_does 129 = .ok (.aload_n 0, 1) := by decide +kernel
theorem dX11_does_130 : decode cX11_does 130 = .ok (.getfield 33, 3) := by decide +kernel
theorem dX11_does_133 : decode cX11_does 133 = .ok (.sipush 131, 3) := by decide +kernel
theorem dX11_does_136 : decode cX11_does 136 = .ok (.iaload, 1) := by decide +kernel
theorem dX11_does_137 : decode cX11_does 137 = .ok (.iload_n 2, 1) := by decide +kernel
theorem dX11_does_138 : decode cX11_does 138 = .ok (.iadd, 1) := by decide +kernel
theorem dX11_does_139 : decode cX11_does 139 = .ok (.sipush 400, 3) := by decide +kernel
theorem dX11_does_142 : decode cX11_does 142 = .ok (.if_icmp .le 6, 3) := by decide +kernel
theorem dX11_does_145 : decode cX11_does 145 = .ok (.bipush 41, 2) := by decide +kernel
theorem dX11_does_147 : decode cX11_does 147 = .ok (.ireturn, 1) := by decide +kernel
theorem dX11_does_148 : decode cX11_does 148 = .ok (.aload_n 0, 1) := by decide +kernel
theorem dX11_does_149 : decode cX11_does 149 = .ok (.iload_n 2, 1) := by decide +kernel
theorem dX11_does_150 : decode cX11_does 150 = .ok (.invokevirtual 332, 3) := by decide +kernel
theorem dX11_does_153 : decode cX11_does 153 = .ok (.pop, 1) := by decide +kernel
theorem dX11_does_154 : decode cX11_does 154 = .ok (.iload 5, 2) := by decide +kernel
theorem dX11_does_156 : decode cX11_does 156 = .ok (.ifCond .le 13, 3) := by decide +kernel
theorem dX11_does_159 : decode cX11_does 159 = .ok (.bipush 10, 2) := by decide +kernel
theorem dX11_does_161 : decode cX11_does 161 = .ok (.iload_n 1, 1) := by decide +kernel
theorem dX11_does_162 : decode cX11_does 162 = .ok (.imul, 1) := by decide +kernel
theorem dX11_does_163 : decode cX11_does 163 = .ok (.iload 5, 2) := by decide +kernel
theorem dX11_does_165 : decode cX11_does 165 = .ok (.iadd, 1) := by decide +kernel
theorem dX11_does_166 : decode cX11_does 166 = .ok (.goto 4, 3) := by decide +kernel
theorem dX11_does_169 : decode cX11_does 169 = .ok (.iconst 0, 1) := by decide +kernel
theorem dX11_does_170 : decode cX11_does 170 = .ok (.ireturn, 1) := by decide +kernel
theorem dX11_joins_0 : decode cX11_joins 0 = .ok (.aload_n 0, 1) := by decide +kernel
theorem dX11_joins_1 : decode cX11_joins 1 = .ok (.getfield 434, 3) := by decide +kernel
theorem dX11_joins_4 : decode cX11_joins 4 = .ok (.ifCond .le 69, 3) := by decide +kernel
theorem dX11_joins_7 : decode cX11_joins 7 = .ok (.aload_n 0, 1) := by decide +kernel
theorem dX11_joins_8 : decode cX11_joins 8 = .ok (.getfield 80, 3) := by decide +kernel
theorem dX11_joins_11 : decode cX11_joins 11 = .ok (.aload_n 0, 1) := by decide +kernel
theorem dX11_joins_12 : decode cX11_joins 12 = .ok (.getfield 434, 3) := by decide +kernel
theorem dX11_joins_15 : decode cX11_joins 15 = .ok (.iconst 1, 1) := by decide +kernel
theorem dX11_joins_16 : decode cX11_joins 16 = .ok (.isub, 1) := by decide +kernel
theorem dX11_joins_17 : decode cX11_joins 17 = .ok (.iaload, 1) := by decide +kernel
theorem dX11_joins_18 : decode cX11_joins 18 = .ok (.bipush 21, 2) := by decide +kernel
theorem dX11_joins_20 : decode cX11_joins 20 = .ok (.if_icmp .eq 25, 3) := by decide +kernel
theorem dX11_joins_23 : decode cX11_joins 23 = .ok (.aload_n 0, 1) := by decide +kernel
theorem dX11_joins_24 : decode cX11_joins 24 = .ok (.getfield 80, 3) := by decide +kernel
theorem dX11_joins_27 : decode cX11_joins 27 = .ok (.aload_n 0, 1) := by decide +kernel
theorem dX11_joins_28 : decode cX11_joins 28 = .ok (.getfield 434, 3) := by decide +kernel
theorem dX11_joins_31 : decode cX11_joins 31 = .ok (.iconst 1, 1) := by decide +kernel
theorem dX11_joins_32 : decode cX11_joins 32 = .ok (.isub, 1) := by decide +kernel
theorem dX11_joins_33 : decode cX11_joins 33 = .ok (.iaload, 1) := by decide +kernel
theorem dX11_joins_34 : decode cX11_joins 34 = .ok (.bipush 22, 2) := by decide +kernel
theorem dX11_joins_36 : decode cX11_joins 36 = .ok (.if_icmp .ne 37, 3) := by decide +kernel
theorem dX11_joins_39 : decode cX11_joins 39 = .ok (.iload_n 1, 1) := by decide +kernel
theorem dX11_joins_40 : decode cX11_joins 40 = .ok (.bipush 22, 2) := by decide +kernel
theorem dX11_joins_42 : decode cX11_joins 42 = .ok (.if_icmp .ne 31, 3) := by decide +kernel
theorem dX11_joins_45 : decode cX11_joins 45 = .ok (.aload_n 0, 1) := by decide +kernel
theorem dX11_joins_46 : decode cX11_joins 46 = .ok (.dup, 1) := by decide +kernel
theorem dX11_joins_47 : decode cX11_joins 47 = .ok (.getfield 434, 3) := by decide +kernel
theorem dX11_joins_50 : decode cX11_joins 50 = .ok (.iconst 1, 1) := by decide +kernel
theorem dX11_joins_51 : decode cX11_joins 51 = .ok (.isub, 1) := by decide +kernel
theorem dX11_joins_52 : decode cX11_joins 52 = .ok (.putfield 434, 3) := by decide +kernel
theorem dX11_joins_55 : decode cX11_joins 55 = .ok (.aload_n 0, 1) := by decide +kernel
theorem dX11_joins_56 : decode cX11_joins 56 = .ok (.aload_n 0, 1) := by decide +kernel
theorem dX11_joins_57 : decode cX11_joins 57 = .ok (.getfield 80, 3) := by decide +kernel
theorem dX11_joins_60 : decode cX11_joins 60 = .ok (.aload_n 0, 1) := by decide +kernel
theorem dX11_joins_61 : decode cX11_joins 61 = .ok (.getfield 434, 3) := by decide +kernel
theorem dX11_joins_64 : decode cX11_joins 64 = .ok (.iaload, 1) := by decide +kernel
theorem dX11_joins_65 : decode cX11_joins 65 = .ok (.iconst 0, 1) := by decide +kernel
theorem dX11_joins_66 : decode cX11_joins 66 = .ok (.iconst 0, 1) := by decide +kernel
theorem dX11_joins_67 : decode cX11_joins 67 = .ok (.invokevirtual 437, 3) := by decide +kernel
theorem dX11_joins_70 : decode cX11_joins 70 = .ok (.goto (-70), 3) := by decide +kernel
theorem dX11_joins_73 : decode cX11_joins 73 = .ok (.return_, 1) := by decide +kernel
theorem dX11_behind_0 : decode cX11_behind 0 = .ok (.aload_n 0, 1) := by decide +kernel
theorem dX11_behind_1 : decode cX11_behind 1 = .ok (.invokevirtual 452, 3) := by decide +kernel
theorem dX11_behind_4 : decode cX11_behind 4 = .ok (.aload_n 0, 1) := by decide +kernel
theorem dX11_behind_5 : decode cX11_behind 5 = .ok (.ldc2_w 124, 3) := by decide +kernel
theorem dX11_behind_8 : decode cX11_behind 8 = .ok (.invokevirtual 220, 3) := by decide +kernel
theorem dX11_behind_11 : decode cX11_behind 11 = .ok (.ifCond .ne 13, 3) := by decide +kernel
theorem dX11_behind_14 : decode cX11_behind 14 = .ok (.aload_n 0, 1) := by decide +kernel
theorem dX11_behind_15 : decode cX11_behind 15 = .ok (.ldc2_w 122, 3) := by decide +kernel
theorem dX11_behind_18 : decode cX11_behind 18 = .ok (.invokevirtual 220, 3) := by decide +kernel
theorem dX11_behind_21 : decode cX11_behind 21 = .ok (.ifCond .eq 71, 3) := by decide +kernel
theorem dX11_behind_24 : decode cX11_behind 24 = .ok (.aload_n 0, 1) := by decide +kernel
theorem dX11_behind_25 : decode cX11_behind 25 = .ok (.aload_n 0, 1) := by decide +kernel
theorem dX11_behind_26 : decode cX11_behind 26 = .ok (.ldc2_w 124, 3) := by decide +kernel
theorem dX11_behind_29 : decode cX11_behind 29 = .ok (.invokevirtual 220, 3) := by decide +kernel
theorem dX11_behind_32 : decode cX11_behind 32 = .ok (.ifCond .eq 8, 3) := by decide +kernel
theorem dX11_behind_35 : decode cX11_behind 35 = .ok (.bipush 21, 2) := by decide +kernel
theorem dX11_behind_37 : decode cX11_behind 37 = .ok (.goto 5, 3) := by decide +kernel
theorem dX11_behind_40 : decode cX11_behind 40 = .ok (.bipush 22, 2) := by decide +kernel
theorem dX11_behind_42 : decode cX11_behind 42 = .ok (.invokevirtual 455, 3) := by decide +kernel
theorem dX11_behind_45 : decode cX11_behind 45 = .ok (.aload_n 0, 1) := by decide +kernel
theorem dX11_behind_46 : decode cX11_behind 46 = .ok (.getfield 80, 3) := by decide +kernel
theorem dX11_behind_49 : decode cX11_behind 49 = .ok (.aload_n 0, 1) := by decide +kernel
theorem dX11_behind_50 : decode cX11_behind 50 = .ok (.getfield 434, 3) := by decide +kernel
theorem dX11_behind_53 : decode cX11_behind 53 = .ok (.aload_n 0, 1) := by decide +kernel
theorem dX11_behind_54 : decode cX11_behind 54 = .ok (.ldc2_w 124, 3) := by decide +kernel
theorem dX11_behind_57 : decode cX11_behind 57 = .ok (.invokevirtual 220, 3) := by decide +kernel
theorem dX11_behind_60 : decode cX11_behind 60 = .ok (.ifCond .eq 8, 3) := by decide +kernel
theorem dX11_behind_63 : decode cX11_behind 63 = .ok (.bipush 21, 2) := by decide +kernel
theorem dX11_behind_65 : decode cX11_behind 65 = .ok (.goto 5, 3) := by decide +kernel
theorem dX11_behind_68 : decode cX11_behind 68 = .ok (.bipush 22, 2) := by decide +kernel
theorem dX11_behind_70 : decode cX11_behind 70 = .ok (.iastore, 1) := by decide +kernel
theorem dX11_behind_71 : decode cX11_behind 71 = .ok (.aload_n 0, 1) := by decide +kernel
theorem dX11_behind_72 : decode cX11_behind 72 = .ok (.dup, 1) := by decide +kernel
theorem dX11_behind_73 : decode cX11_behind 73 = .ok (.getfield 434, 3) := by decide +kernel
theorem dX11_behind_76 : decode cX11_behind 76 = .ok (.iconst 1, 1) := by decide +kernel
theorem dX11_behind_77 : decode cX11_behind 77 = .ok (.iadd, 1) := by decide +kernel
theorem dX11_behind_78 : decode cX11_behind 78 = .ok (.putfield 434, 3) := by decide +kernel
theorem dX11_behind_81 : decode cX11_behind 81 = .ok (.aload_n 0, 1) := by decide +kernel
theorem dX11_behind_82 : decode cX11_behind 82 = .ok (.iconst 0, 1) := by decide +kernel
theorem dX11_behind_83 : decode cX11_behind 83 = .ok (.putfield 449, 3) := by decide +kernel
theorem dX11_behind_86 : decode cX11_behind 86 = .ok (.aload_n 0, 1) := by decide +kernel
theorem dX11_behind_87 : decode cX11_behind 87 = .ok (.invokevirtual 186, 3) := by decide +kernel
theorem dX11_behind_90 : decode cX11_behind 90 = .ok (.iconst 1, 1) := by decide +kernel
theorem dX11_behind_91 : decode cX11_behind 91 = .ok (.ireturn, 1) := by decide +kernel
theorem dX11_behind_92 : decode cX11_behind 92 = .ok (.aload_n 0, 1) := by decide +kernel
theorem dX11_behind_93 : decode cX11_behind 93 = .ok (.bipush 22, 2) := by decide +kernel
theorem dX11_behind_95 : decode cX11_behind 95 = .ok (.invokevirtual 455, 3) := by decide +kernel
theorem dX11_behind_98 : decode cX11_behind 98 = .ok (.aload_n 0, 1) := by decide +kernel
theorem dX11_behind_99 : decode cX11_behind 99 = .ok (.bipush 41, 2) := by decide +kernel
theorem dX11_behind_101 : decode cX11_behind 101 = .ok (.invokevirtual 180, 3) := by decide +kernel
theorem dX11_behind_104 : decode cX11_behind 104 = .ok (.ifCond .eq 10, 3) := by decide +kernel
theorem dX11_behind_107 : decode cX11_behind 107 = .ok (.aload_n 0, 1) := by decide +kernel
theorem dX11_behind_108 : decode cX11_behind 108 = .ok (.getfield 434, 3) := by decide +kernel
theorem dX11_behind_111 : decode cX11_behind 111 = .ok (.ifCond .ne 9, 3) := by decide +kernel
theorem dX11_behind_114 : decode cX11_behind 114 = .ok (.aload_n 0, 1) := by decide +kernel
theorem dX11_behind_115 : decode cX11_behind 115 = .ok (.iconst 1, 1) := by decide +kernel
theorem dX11_behind_116 : decode cX11_behind 116 = .ok (.invokevirtual 183, 3) := by decide +kernel
theorem dX11_behind_119 : decode cX11_behind 119 = .ok (.ireturn, 1) := by decide +kernel
theorem dX11_behind_120 : decode cX11_behind 120 = .ok (.aload_n 0, 1) := by decide +kernel
theorem dX11_behind_121 : decode cX11_behind 121 = .ok (.dup, 1) := by decide +kernel
theorem dX11_behind_122 : decode cX11_behind 122 = .ok (.getfield 434, 3) := by decide +kernel
theorem dX11_behind_125 : decode cX11_behind 125 = .ok (.iconst 1, 1) := by decide +kernel
theorem dX11_behind_126 : decode cX11_behind 126 = .ok (.isub, 1) := by decide +kernel
theorem dX11_behind_127 : decode cX11_behind 127 = .ok (.putfield 434, 3) := by decide +kernel
theorem dX11_behind_130 : decode cX11_behind 130 = .ok (.aload_n 0, 1) := by decide +kernel
theorem dX11_behind_131 : decode cX11_behind 131 = .ok (.dup, 1) := by decide +kernel
theorem dX11_behind_132 : decode cX11_behind 132 = .ok (.getfield 440, 3) := by decide +kernel
theorem dX11_behind_135 : decode cX11_behind 135 = .ok (.iconst 1, 1) := by decide +kernel
theorem dX11_behind_136 : decode cX11_behind 136 = .ok (.isub, 1) := by decide +kernel
theorem dX11_behind_137 : decode cX11_behind 137 = .ok (.putfield 440, 3) := by decide +kernel
theorem dX11_behind_140 : decode cX11_behind 140 = .ok (.aload_n 0, 1) := by decide +kernel
theorem dX11_behind_141 : decode cX11_behind 141 = .ok (.invokevirtual 186, 3) := by decide +kernel
theorem dX11_behind_144 : decode cX11_behind 144 = .ok (.iconst 1, 1) := by decide +kernel
theorem dX11_behind_145 : decode cX11_behind 145 = .ok (.ireturn, 1) := by decide +kernel
theorem dX11_isSaid_0 : decode cX11_isSaid 0 = .ok (.iconst 0, 1) := by decide +kernel
theorem dX11_isSaid_1 : decode cX11_isSaid 1 = .ok (.istore_n 2, 1) := by decide +kernel
theorem dX11_isSaid_2 : decode cX11_isSaid 2 = .ok (.iconst 0, 1) := by decide +kernel
theorem dX11_isSaid_3 : decode cX11_isSaid 3 = .ok (.istore_n 3, 1) := by decide +kernel
theorem dX11_isSaid_4 : decode cX11_isSaid 4 = .ok (.iload_n 3, 1) := by decide +kernel
theorem dX11_isSaid_5 : decode cX11_isSaid 5 = .ok (.aload_n 0, 1) := by decide +kernel
theorem dX11_isSaid_6 : decode cX11_isSaid 6 = .ok (.getfield 33, 3) := by decide +kernel
theorem dX11_isSaid_9 : decode cX11_isSaid 9 = .ok (.sipush 276, 3) := by decide +kernel
theorem dX11_isSaid_12 : decode cX11_isSaid 12 = .ok (.iaload, 1) := by decide +kernel
theorem dX11_isSaid_13 : decode cX11_isSaid 13 = .ok (.if_icmp .ge 199, 3) := by decide +kernel
theorem dX11_isSaid_16 : decode cX11_isSaid 16 = .ok (.sipush 277, 3) := by decide +kernel
theorem dX11_isSaid_19 : decode cX11_isSaid 19 = .ok (.iconst 3, 1) := by decide +kernel
theorem dX11_isSaid_20 : decode cX11_isSaid 20 = .ok (.iload_n 3, 1) := by decide +kernel
theorem dX11_isSaid_21 : decode cX11_isSaid 21 = .ok (.imul, 1) := by decide +kernel
theorem dX11_isSaid_22 : decode cX11_isSaid 22 = .ok (.iadd, 1) := by decide +kernel
theorem dX11_isSaid_23 : decode cX11_isSaid 23 = .ok (.istore 4, 2) := by decide +kernel
theorem dX11_isSaid_25 : decode cX11_isSaid 25 = .ok (.aload_n 0, 1) := by decide +kernel
theorem dX11_isSaid_26 : decode cX11_isSaid 26 = .ok (.getfield 33, 3) := by decide +kernel
theorem dX11_isSaid_29 : decode cX11_isSaid 29 = .ok (.iload 4, 2) := by decide +kernel
theorem dX11_isSaid_31 : decode cX11_isSaid 31 = .ok (.iaload, 1) := by decide +kernel
theorem dX11_isSaid_32 : decode cX11_isSaid 32 = .ok (.bipush 20, 2) := by decide +kernel
theorem dX11_isSaid_34 : decode cX11_isSaid 34 = .ok (.if_icmp .ne 30, 3) := by decide +kernel
theorem dX11_isSaid_37 : decode cX11_isSaid 37 = .ok (.aload_n 0, 1) := by decide +kernel
theorem dX11_isSaid_38 : decode cX11_isSaid 38 = .ok (.getfield 83, 3) := by decide +kernel
theorem dX11_isSaid_41 : decode cX11_isSaid 41 = .ok (.iload_n 2, 1) := by decide +kernel
theorem dX11_isSaid_42 : decode cX11_isSaid 42 = .ok (.iconst 1, 1) := by decide +kernel
theorem dX11_isSaid_43 : decode cX11_isSaid 43 = .ok (.isub, 1) := by decide +kernel
theorem dX11_isSaid_44 : decode cX11_isSaid 44 = .ok (.aload_n 0, 1) := by decide +kernel
theorem dX11_isSaid_45 : decode cX11_isSaid 45 = .ok (.getfield 83, 3) := by decide +kernel
theorem dX11_isSaid_48 : decode cX11_isSaid 48 = .ok (.iload_n 2, 1) := by decide +kernel
theorem dX11_isSaid_49 : decode cX11_isSaid 49 = .ok (.iconst 1, 1) := by decide +kernel
theorem dX11_isSaid_50 : decode cX11_isSaid 50 = .ok (.isub, 1) := by decide +kernel
theorem dX11_isSaid_51 : decode cX11_isSaid 51 = .ok (.baload, 1) := by decide +kernel
theorem dX11_isSaid_52 : decode cX11_isSaid 52 = .ok (.ifCond .ne 7, 3) := by decide +kernel
theorem dX11_isSaid_55 : decode cX11_isSaid 55 = .ok (.iconst 1, 1) := by decide +kernel
theorem dX11_isSaid_56 : decode cX11_isSaid 56 = .ok (.goto 4, 3) := by decide +kernel
theorem dX11_isSaid_59 : decode cX11_isSaid 59 = .ok (.iconst 0, 1) := by decide +kernel
theorem dX11_isSaid_60 : decode cX11_isSaid 60 = .ok (.bastore, 1) := by decide +kernel
theorem dX11_isSaid_61 : decode cX11_isSaid 61 = .ok (.goto 145, 3) := by decide +kernel
theorem dX11_isSaid_64 : decode cX11_isSaid 64 = .ok (.aload_n 0, 1) := by decide +kernel
theorem dX11_isSaid_65 : decode cX11_isSaid 65 = .ok (.getfield 33, 3) := by decide +kernel
theorem dX11_isSaid_68 : decode cX11_isSaid 68 = .ok (.iload 4, 2) := by decide +kernel
theorem dX11_isSaid_70 : decode cX11_isSaid 70 = .ok (.iaload, 1) := by decide +kernel
theorem dX11_isSaid_71 : decode cX11_isSaid 71 = .ok (.bipush 21, 2) := by decide +kernel
theorem dX11_isSaid_73 : decode cX11_isSaid 73 = .ok (.if_icmp .eq 15, 3) := by decide +kernel
theorem dX11_isSaid_76 : decode cX11_isSaid 76 = .ok (.aload_n 0, 1) := by decide +kernel
theorem dX11_isSaid_77 : decode cX11_isSaid 77 = .ok (.getfield 33, 3) := by decide +kernel
theorem dX11_isSaid_80 : decode cX11_isSaid 80 = .ok (.iload 4, 2) := by decide +kernel
theorem dX11_isSaid_82 : decode cX11_isSaid 82 = .ok (.iaload, 1) := by decide +kernel
theorem dX11_isSaid_83 : decode cX11_isSaid 83 = .ok (.bipush 22, 2) := by decide +kernel
theorem dX11_isSaid_85 : decode cX11_isSaid 85 = .ok (.if_icmp .ne 82, 3) := by decide +kernel
theorem dX11_isSaid_88 : decode cX11_isSaid 88 = .ok (.iinc 2 (-1), 3) := by decide +kernel
theorem dX11_isSaid_91 : decode cX11_isSaid 91 = .ok (.aload_n 0, 1) := by decide +kernel
theorem dX11_isSaid_92 : decode cX11_isSaid 92 = .ok (.getfield 83, 3) := by decide +kernel
theorem dX11_isSaid_95 : decode cX11_isSaid 95 = .ok (.iload_n 2, 1) := by decide +kernel
theorem dX11_isSaid_96 : decode cX11_isSaid 96 = .ok (.iconst 1, 1) := by decide +kernel
theorem dX11_isSaid_97 : decode cX11_isSaid 97 = .ok (.isub, 1) := by decide +kernel
theorem dX11_isSaid_98 : decode cX11_isSaid 98 = .ok (.aload_n 0, 1) := by decide +kernel
theorem dX11_isSaid_99 : decode cX11_isSaid 99 = .ok (.getfield 33, 3) := by decide +kernel
theorem dX11_isSaid_102 : decode cX11_isSaid 102 = .ok (.iload 4, 2) := by decide +kernel
theorem dX11_isSaid_104 : decode cX11_isSaid 104 = .ok (.iaload, 1) := by decide +kernel
theorem dX11_isSaid_105 : decode cX11_isSaid 105 = .ok (.bipush 21, 2) := by decide +kernel
theorem dX11_isSaid_107 : decode cX11_isSaid 107 = .ok (.if_icmp .ne 31, 3) := by decide +kernel
theorem dX11_isSaid_110 : decode cX11_isSaid 110 = .ok (.aload_n 0, 1) := by decide +kernel
theorem dX11_isSaid_111 : decode cX11_isSaid 111 = .ok (.getfield 83, 3) := by decide +kernel
theorem dX11_isSaid_114 : decode cX11_isSaid 114 = .ok (.iload_n 2, 1) := by decide +kernel
theorem dX11_isSaid_115 : decode cX11_isSaid 115 = .ok (.iconst 1, 1) := by decide +kernel
theorem dX11_isSaid_116 : decode cX11_isSaid 116 = .ok (.isub, 1) := by decide +kernel
theorem dX11_isSaid_117 : decode cX11_isSaid 117 = .ok (.baload, 1) := by decide +kernel
theorem dX11_isSaid_118 : decode cX11_isSaid 118 = .ok (.ifCond .eq 16, 3) := by decide +kernel
theorem dX11_isSaid_121 : decode cX11_isSaid 121 = .ok (.aload_n 0, 1) := by decide +kernel
theorem dX11_isSaid_122 : decode cX11_isSaid 122 = .ok (.getfield 83, 3) := by decide +kernel
theorem dX11_isSaid_125 : decode cX11_isSaid 125 = .ok (.iload_n 2, 1) := by decide +kernel
theorem dX11_isSaid_126 : decode cX11_isSaid 126 = .ok (.baload, 1) := by decide +kernel
theorem dX11_isSaid_127 : decode cX11_isSaid 127 = .ok (.ifCond .eq 7, 3) := by decide +kernel
theorem dX11_isSaid_130 : decode cX11_isSaid 130 = .ok (.iconst 1, 1) := by decide +kernel
theorem dX11_isSaid_131 : decode cX11_isSaid 131 = .ok (.goto 32, 3) := by decide +kernel
theorem dX11_isSaid_134 : decode cX11_isSaid 134 = .ok (.iconst 0, 1) := by decide +kernel
theorem dX11_isSaid_135 : decode cX11_isSaid 135 = .ok (.goto 28, 3) := by decide +kernel
theorem dX11_isSaid_138 : decode cX11_isSaid 138 = .ok (.aload_n 0, 1) := by decide +kernel
theorem dX11_isSaid_139 : decode cX11_isSaid 139 = .ok (.getfield 83, 3) := by decide +kernel
theorem dX11_isSaid_142 : decode cX11_isSaid 142 = .ok (.iload_n 2, 1) := by decide +kernel
theorem dX11_isSaid_143 : decode cX11_isSaid 143 = .ok (.iconst 1, 1) := by decide +kernel
theorem dX11_isSaid_144 : decode cX11_isSaid 144 = .ok (.isub, 1) := by decide +kernel
theorem dX11_isSaid_145 : decode cX11_isSaid 145 = .ok (.baload, 1) := by decide +kernel
theorem dX11_isSaid_146 : decode cX11_isSaid 146 = .ok (.ifCond .ne 12, 3) := by decide +kernel
theorem dX11_isSaid_149 : decode cX11_isSaid 149 = .ok (.aload_n 0, 1) := by decide +kernel
theorem dX11_isSaid_150 : decode cX11_isSaid 150 = .ok (.getfield 83, 3) := by decide +kernel
theorem dX11_isSaid_153 : decode cX11_isSaid 153 = .ok (.iload_n 2, 1) := by decide +kernel
theorem dX11_isSaid_154 : decode cX11_isSaid 154 = .ok (.baload, 1) := by decide +kernel
theorem dX11_isSaid_155 : decode cX11_isSaid 155 = .ok (.ifCond .eq 7, 3) := by decide +kernel
theorem dX11_isSaid_158 : decode cX11_isSaid 158 = .ok (.iconst 1, 1) := by decide +kernel
theorem dX11_isSaid_159 : decode cX11_isSaid 159 = .ok (.goto 4, 3) := by decide +kernel
theorem dX11_isSaid_162 : decode cX11_isSaid 162 = .ok (.iconst 0, 1) := by decide +kernel
theorem dX11_isSaid_163 : decode cX11_isSaid 163 = .ok (.bastore, 1) := by decide +kernel
theorem dX11_isSaid_164 : decode cX11_isSaid 164 = .ok (.goto 42, 3) := by decide +kernel
theorem dX11_isSaid_167 : decode cX11_isSaid 167 = .ok (.aload_n 0, 1) := by decide +kernel
theorem dX11_isSaid_168 : decode cX11_isSaid 168 = .ok (.getfield 83, 3) := by decide +kernel
theorem dX11_isSaid_171 : decode cX11_isSaid 171 = .ok (.iload_n 2, 1) := by decide +kernel
theorem dX11_isSaid_172 : decode cX11_isSaid 172 = .ok (.aload_n 0, 1) := by decide +kernel
theorem dX11_isSaid_173 : decode cX11_isSaid 173 = .ok (.iload_n 1, 1) := by decide +kernel
theorem dX11_isSaid_174 : decode cX11_isSaid 174 = .ok (.aload_n 0, 1) := by decide +kernel
theorem dX11_isSaid_175 : decode cX11_isSaid 175 = .ok (.getfield 33, 3) := by decide +kernel
theorem dX11_isSaid_178 : decode cX11_isSaid 178 = .ok (.iload 4, 2) := by decide +kernel
theorem dX11_isSaid_180 : decode cX11_isSaid 180 = .ok (.iaload, 1) := by decide +kernel
theorem dX11_isSaid_181 : decode cX11_isSaid 181 = .ok (.aload_n 0, 1) := by decide +kernel
theorem dX11_isSaid_182 : decode cX11_isSaid 182 = .ok (.getfield 33, 3) := by decide +kernel
theorem dX11_isSaid_185 : decode cX11_isSaid 185 = .ok (.iload 4, 2) := by decide +kernel
theorem dX11_isSaid_187 : decode cX11_isSaid 187 = .ok (.iconst 1, 1) := by decide +kernel
theorem dX11_isSaid_188 : decode cX11_isSaid 188 = .ok (.iadd, 1) := by decide +kernel
theorem dX11_isSaid_189 : decode cX11_isSaid 189 = .ok (.iaload, 1) := by decide +kernel
theorem dX11_isSaid_190 : decode cX11_isSaid 190 = .ok (.aload_n 0, 1) := by decide +kernel
theorem dX11_isSaid_191 : decode cX11_isSaid 191 = .ok (.getfield 33, 3) := by decide +kernel
theorem dX11_isSaid_194 : decode cX11_isSaid 194 = .ok (.iload 4, 2) := by decide +kernel
theorem dX11_isSaid_196 : decode cX11_isSaid 196 = .ok (.iconst 2, 1) := by decide +kernel
theorem dX11_isSaid_197 : decode cX11_isSaid 197 = .ok (.iadd, 1) := by decide +kernel
theorem dX11_isSaid_198 : decode cX11_isSaid 198 = .ok (.iaload, 1) := by decide +kernel
theorem dX11_isSaid_199 : decode cX11_isSaid 199 = .ok (.invokevirtual 467, 3) := by decide +kernel
theorem dX11_isSaid_202 : decode cX11_isSaid 202 = .ok (.bastore, 1) := by decide +kernel
theorem dX11_isSaid_203 : decode cX11_isSaid 203 = .ok (.iinc 2 1, 3) := by decide +kernel
theorem dX11_isSaid_206 : decode cX11_isSaid 206 = .ok (.iinc 3 1, 3) := by decide +kernel
theorem dX11_isSaid_209 : decode cX11_isSaid 209 = .ok (.goto (-205), 3) := by decide +kernel
theorem dX11_isSaid_212 : decode cX11_isSaid 212 = .ok (.aload_n 0, 1) := by decide +kernel
theorem dX11_isSaid_213 : decode cX11_isSaid 213 = .ok (.getfield 83, 3) := by decide +kernel
theorem dX11_isSaid_216 : decode cX11_isSaid 216 = .ok (.iconst 0, 1) := by decide +kernel
theorem dX11_isSaid_217 : decode cX11_isSaid 217 = .ok (.baload, 1) := by decide +kernel
theorem dX11_isSaid_218 : decode cX11_isSaid 218 = .ok (.ireturn, 1) := by decide +kernel
theorem dX11_count_0 : decode cX11_count 0 = .ok (.aload_n 0, 1) := by decide +kernel
theorem dX11_count_1 : decode cX11_count 1 = .ok (.iconst 0, 1) := by decide +kernel
theorem dX11_count_2 : decode cX11_count 2 = .ok (.putfield 1, 3) := by decide +kernel
theorem dX11_count_5 : decode cX11_count 5 = .ok (.iload_n 1, 1) := by decide +kernel
theorem dX11_count_6 : decode cX11_count 6 = .ok (.iconst 5, 1) := by decide +kernel
theorem dX11_count_7 : decode cX11_count 7 = .ok (.if_icmp .ne 10, 3) := by decide +kernel
theorem dX11_count_10 : decode cX11_count 10 = .ok (.aload_n 0, 1) := by decide +kernel
theorem dX11_count_11 : decode cX11_count 11 = .ok (.getfield 7, 3) := by decide +kernel
theorem dX11_count_14 : decode cX11_count 14 = .ok (.goto 22, 3) := by decide +kernel
theorem dX11_count_17 : decode cX11_count 17 = .ok (.iload_n 1, 1) := by decide +kernel
theorem dX11_count_18 : decode cX11_count 18 = .ok (.iconst 0, 1) := by decide +kernel
theorem dX11_count_19 : decode cX11_count 19 = .ok (.iconst 4, 1) := by decide +kernel
theorem dX11_count_20 : decode cX11_count 20 = .ok (.invokestatic 189, 3) := by decide +kernel
theorem dX11_count_23 : decode cX11_count 23 = .ok (.ifCond .eq 12, 3) := by decide +kernel
theorem dX11_count_26 : decode cX11_count 26 = .ok (.aload_n 0, 1) := by decide +kernel
theorem dX11_count_27 : decode cX11_count 27 = .ok (.getfield 33, 3) := by decide +kernel
theorem dX11_count_30 : decode cX11_count 30 = .ok (.iload_n 1, 1) := by decide +kernel
theorem dX11_count_31 : decode cX11_count 31 = .ok (.iaload, 1) := by decide +kernel
theorem dX11_count_32 : decode cX11_count 32 = .ok (.goto 4, 3) := by decide +kernel
theorem dX11_count_35 : decode cX11_count 35 = .ok (.iconst (-1), 1) := by decide +kernel
theorem dX11_count_36 : decode cX11_count 36 = .ok (.ireturn, 1) := by decide +kernel
