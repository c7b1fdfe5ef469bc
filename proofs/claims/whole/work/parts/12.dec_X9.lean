theorem dX9_init_0 : decode cX9_init 0 = .ok (.aload_n 0, 1) := by decide +kernel
theorem dX9_init_1 : decode cX9_init 1 = .ok (.invokespecial 3, 3) := by decide +kernel
theorem dX9_init_4 : decode cX9_init 4 = .ok (.aload_n 0, 1) := by decide +kernel
theorem dX9_init_5 : decode cX9_init 5 = .ok (.iconst (-1), 1) := by decide +kernel
theorem dX9_init_6 : decode cX9_init 6 = .ok (.putfield 9, 3) := by decide +kernel
theorem dX9_init_9 : decode cX9_init 9 = .ok (.aload_n 0, 1) := by decide +kernel
theorem dX9_init_10 : decode cX9_init 10 = .ok (.iconst (-1), 1) := by decide +kernel
theorem dX9_init_11 : decode cX9_init 11 = .ok (.putfield 15, 3) := by decide +kernel
theorem dX9_init_14 : decode cX9_init 14 = .ok (.aload_n 0, 1) := by decide +kernel
theorem dX9_init_15 : decode cX9_init 15 = .ok (.bipush 7, 2) := by decide +kernel
theorem dX9_init_17 : decode cX9_init 17 = .ok (.newarray .int, 2) := by decide +kernel
theorem dX9_init_19 : decode cX9_init 19 = .ok (.putfield 18, 3) := by decide +kernel
theorem dX9_init_22 : decode cX9_init 22 = .ok (.aload_n 0, 1) := by decide +kernel
theorem dX9_init_23 : decode cX9_init 23 = .ok (.iconst (-1), 1) := by decide +kernel
theorem dX9_init_24 : decode cX9_init 24 = .ok (.putfield 22, 3) := by decide +kernel
theorem dX9_init_27 : decode cX9_init 27 = .ok (.aload_n 0, 1) := by decide +kernel
theorem dX9_init_28 : decode cX9_init 28 = .ok (.bipush 8, 2) := by decide +kernel
theorem dX9_init_30 : decode cX9_init 30 = .ok (.newarray .int, 2) := by decide +kernel
theorem dX9_init_32 : decode cX9_init 32 = .ok (.putfield 25, 3) := by decide +kernel
theorem dX9_init_35 : decode cX9_init 35 = .ok (.aload_n 0, 1) := by decide +kernel
theorem dX9_init_36 : decode cX9_init 36 = .ok (.aload_n 1, 1) := by decide +kernel
theorem dX9_init_37 : decode cX9_init 37 = .ok (.putfield 28, 3) := by decide +kernel
theorem dX9_init_40 : decode cX9_init 40 = .ok (.aload_n 0, 1) := by decide +kernel
theorem dX9_init_41 : decode cX9_init 41 = .ok (.aload_n 2, 1) := by decide +kernel
theorem dX9_init_42 : decode cX9_init 42 = .ok (.putfield 32, 3) := by decide +kernel
theorem dX9_init_45 : decode cX9_init 45 = .ok (.return_, 1) := by decide +kernel
theorem dX9_mostOf_0 : decode cX9_mostOf 0 = .ok (.sipush 999, 3) := by decide +kernel
theorem dX9_mostOf_3 : decode cX9_mostOf 3 = .ok (.istore_n 2, 1) := by decide +kernel
theorem dX9_mostOf_4 : decode cX9_mostOf 4 = .ok (.aload_n 0, 1) := by decide +kernel
theorem dX9_mostOf_5 : decode cX9_mostOf 5 = .ok (.getfield 28, 3) := by decide +kernel
theorem dX9_mostOf_8 : decode cX9_mostOf 8 = .ok (.invokevirtual 36, 3) := by decide +kernel
theorem dX9_mostOf_11 : decode cX9_mostOf 11 = .ok (.istore_n 3, 1) := by decide +kernel
theorem dX9_mostOf_12 : decode cX9_mostOf 12 = .ok (.iconst 0, 1) := by decide +kernel
theorem dX9_mostOf_13 : decode cX9_mostOf 13 = .ok (.istore 4, 2) := by decide +kernel
theorem dX9_mostOf_15 : decode cX9_mostOf 15 = .ok (.iload 4, 2) := by decide +kernel
theorem dX9_mostOf_17 : decode cX9_mostOf 17 = .ok (.iload_n 3, 1) := by decide +kernel
theorem dX9_mostOf_18 : decode cX9_mostOf 18 = .ok (.if_icmp .gt 112, 3) := by decide +kernel
theorem dX9_mostOf_21 : decode cX9_mostOf 21 = .ok (.iconst 0, 1) := by decide +kernel
theorem dX9_mostOf_22 : decode cX9_mostOf 22 = .ok (.istore 5, 2) := by decide +kernel
theorem dX9_mostOf_24 : decode cX9_mostOf 24 = .ok (.iconst 0, 1) := by decide +kernel
theorem dX9_mostOf_25 : decode cX9_mostOf 25 = .ok (.istore 6, 2) := by decide +kernel
theorem dX9_mostOf_27 : decode cX9_mostOf 27 = .ok (.iload 6, 2) := by decide +kernel
theorem dX9_mostOf_29 : decode cX9_mostOf 29 = .ok (.aload_n 0, 1) := by decide +kernel
theorem dX9_mostOf_30 : decode cX9_mostOf 30 = .ok (.getfield 28, 3) := by decide +kernel
theorem dX9_mostOf_33 : decode cX9_mostOf 33 = .ok (.getfield 42, 3) := by decide +kernel
theorem dX9_mostOf_36 : decode cX9_mostOf 36 = .ok (.if_icmp .ge 81, 3) := by decide +kernel
theorem dX9_mostOf_39 : decode cX9_mostOf 39 = .ok (.iload 6, 2) := by decide +kernel
theorem dX9_mostOf_41 : decode cX9_mostOf 41 = .ok (.iload_n 1, 1) := by decide +kernel
theorem dX9_mostOf_42 : decode cX9_mostOf 42 = .ok (.invokestatic 45, 3) := by decide +kernel
theorem dX9_mostOf_45 : decode cX9_mostOf 45 = .ok (.istore 7, 2) := by decide +kernel
theorem dX9_mostOf_47 : decode cX9_mostOf 47 = .ok (.iload 4, 2) := by decide +kernel
theorem dX9_mostOf_49 : decode cX9_mostOf 49 = .ok (.iload 6, 2) := by decide +kernel
theorem dX9_mostOf_51 : decode cX9_mostOf 51 = .ok (.invokestatic 49, 3) := by decide +kernel
theorem dX9_mostOf_54 : decode cX9_mostOf 54 = .ok (.ifCond .ne 18, 3) := by decide +kernel
theorem dX9_mostOf_57 : decode cX9_mostOf 57 = .ok (.iload 5, 2) := by decide +kernel
theorem dX9_mostOf_59 : decode cX9_mostOf 59 = .ok (.aload_n 0, 1) := by decide +kernel
theorem dX9_mostOf_60 : decode cX9_mostOf 60 = .ok (.getfield 32, 3) := by decide +kernel
theorem dX9_mostOf_63 : decode cX9_mostOf 63 = .ok (.getfield 53, 3) := by decide +kernel
theorem dX9_mostOf_66 : decode cX9_mostOf 66 = .ok (.iload 7, 2) := by decide +kernel
theorem dX9_mostOf_68 : decode cX9_mostOf 68 = .ok (.iaload, 1) := by decide +kernel
theorem dX9_mostOf_69 : decode cX9_mostOf 69 = .ok (.iadd, 1) := by decide +kernel
theorem dX9_mostOf_70 : decode cX9_mostOf 70 = .ok (.istore 5, 2) := by decide +kernel
theorem dX9_mostOf_72 : decode cX9_mostOf 72 = .ok (.aload_n 0, 1) := by decide +kernel
theorem dX9_mostOf_73 : decode cX9_mostOf 73 = .ok (.getfield 32, 3) := by decide +kernel
theorem dX9_mostOf_76 : decode cX9_mostOf 76 = .ok (.getfield 58, 3) := by decide +kernel
theorem dX9_mostOf_79 : decode cX9_mostOf 79 = .ok (.iload 7, 2) := by decide +kernel
theorem dX9_mostOf_81 : decode cX9_mostOf 81 = .ok (.iaload, 1) := by decide +kernel
theorem dX9_mostOf_82 : decode cX9_mostOf 82 = .ok (.ifCond .le 29, 3) := by decide +kernel
theorem dX9_mostOf_85 : decode cX9_mostOf 85 = .ok (.iload 5, 2) := by decide +kernel
theorem dX9_mostOf_87 : decode cX9_mostOf 87 = .ok (.aload_n 0, 1) := by decide +kernel
theorem dX9_mostOf_88 : decode cX9_mostOf 88 = .ok (.getfield 32, 3) := by decide +kernel
theorem dX9_mostOf_91 : decode cX9_mostOf 91 = .ok (.getfield 58, 3) := by decide +kernel
theorem dX9_mostOf_94 : decode cX9_mostOf 94 = .ok (.iload 7, 2) := by decide +kernel
theorem dX9_mostOf_96 : decode cX9_mostOf 96 = .ok (.iaload, 1) := by decide +kernel
theorem dX9_mostOf_97 : decode cX9_mostOf 97 = .ok (.aload_n 0, 1) := by decide +kernel
theorem dX9_mostOf_98 : decode cX9_mostOf 98 = .ok (.iload 6, 2) := by decide +kernel
theorem dX9_mostOf_100 : decode cX9_mostOf 100 = .ok (.iload 4, 2) := by decide +kernel
theorem dX9_mostOf_102 : decode cX9_mostOf 102 = .ok (.invokevirtual 61, 3) := by decide +kernel
theorem dX9_mostOf_105 : decode cX9_mostOf 105 = .ok (.invokestatic 64, 3) := by decide +kernel
theorem dX9_mostOf_108 : decode cX9_mostOf 108 = .ok (.iadd, 1) := by decide +kernel
theorem dX9_mostOf_109 : decode cX9_mostOf 109 = .ok (.istore 5, 2) := by decide +kernel
theorem dX9_mostOf_111 : decode cX9_mostOf 111 = .ok (.iinc 6 1, 3) := by decide +kernel
theorem dX9_mostOf_114 : decode cX9_mostOf 114 = .ok (.goto (-87), 3) := by decide +kernel
theorem dX9_mostOf_117 : decode cX9_mostOf 117 = .ok (.iload_n 2, 1) := by decide +kernel
theorem dX9_mostOf_118 : decode cX9_mostOf 118 = .ok (.iload 5, 2) := by decide +kernel
theorem dX9_mostOf_120 : decode cX9_mostOf 120 = .ok (.invokestatic 64, 3) := by decide +kernel
theorem dX9_mostOf_123 : decode cX9_mostOf 123 = .ok (.istore_n 2, 1) := by decide +kernel
theorem dX9_mostOf_124 : decode cX9_mostOf 124 = .ok (.iinc 4 1, 3) := by decide +kernel
theorem dX9_mostOf_127 : decode cX9_mostOf 127 = .ok (.goto (-112), 3) := by decide +kernel
theorem dX9_mostOf_130 : decode cX9_mostOf 130 = .ok (.iload_n 2, 1) := by decide +kernel
theorem dX9_mostOf_131 : decode cX9_mostOf 131 = .ok (.ireturn, 1) := by decide +kernel
theorem dX9_canReach_0 : decode cX9_canReach 0 = .ok (.iconst 0, 1) := by decide +kernel
theorem dX9_canReach_1 : decode cX9_canReach 1 = .ok (.istore_n 3, 1) := by decide +kernel
theorem dX9_canReach_2 : decode cX9_canReach 2 = .ok (.aload_n 0, 1) := by decide +kernel
theorem dX9_canReach_3 : decode cX9_canReach 3 = .ok (.getfield 32, 3) := by decide +kernel
theorem dX9_canReach_6 : decode cX9_canReach 6 = .ok (.iload_n 1, 1) := by decide +kernel
theorem dX9_canReach_7 : decode cX9_canReach 7 = .ok (.invokevirtual 69, 3) := by decide +kernel
theorem dX9_canReach_10 : decode cX9_canReach 10 = .ok (.istore 4, 2) := by decide +kernel
theorem dX9_canReach_12 : decode cX9_canReach 12 = .ok (.iconst 0, 1) := by decide +kernel
theorem dX9_canReach_13 : decode cX9_canReach 13 = .ok (.istore 5, 2) := by decide +kernel
theorem dX9_canReach_15 : decode cX9_canReach 15 = .ok (.iload 5, 2) := by decide +kernel
theorem dX9_canReach_17 : decode cX9_canReach 17 = .ok (.aload_n 0, 1) := by decide +kernel
theorem dX9_canReach_18 : decode cX9_canReach 18 = .ok (.getfield 28, 3) := by decide +kernel
theorem dX9_canReach_21 : decode cX9_canReach 21 = .ok (.getfield 42, 3) := by decide +kernel
theorem dX9_canReach_24 : decode cX9_canReach 24 = .ok (.if_icmp .ge 92, 3) := by decide +kernel
theorem dX9_canReach_27 : decode cX9_canReach 27 = .ok (.iload_n 2, 1) := by decide +kernel
theorem dX9_canReach_28 : decode cX9_canReach 28 = .ok (.iload 5, 2) := by decide +kernel
theorem dX9_canReach_30 : decode cX9_canReach 30 = .ok (.invokestatic 49, 3) := by decide +kernel
theorem dX9_canReach_33 : decode cX9_canReach 33 = .ok (.ifCond .eq 29, 3) := by decide +kernel
theorem dX9_canReach_36 : decode cX9_canReach 36 = .ok (.aload_n 0, 1) := by decide +kernel
theorem dX9_canReach_37 : decode cX9_canReach 37 = .ok (.getfield 28, 3) := by decide +kernel
theorem dX9_canReach_40 : decode cX9_canReach 40 = .ok (.getfield 73, 3) := by decide +kernel
theorem dX9_canReach_43 : decode cX9_canReach 43 = .ok (.iload_n 1, 1) := by decide +kernel
theorem dX9_canReach_44 : decode cX9_canReach 44 = .ok (.iaload, 1) := by decide +kernel
theorem dX9_canReach_45 : decode cX9_canReach 45 = .ok (.iload 5, 2) := by decide +kernel
theorem dX9_canReach_47 : decode cX9_canReach 47 = .ok (.invokestatic 49, 3) := by decide +kernel
theorem dX9_canReach_50 : decode cX9_canReach 50 = .ok (.ifCond .eq 12, 3) := by decide +kernel
theorem dX9_canReach_53 : decode cX9_canReach 53 = .ok (.iinc 3 999, 6) := by decide +kernel
theorem dX9_canReach_59 : decode cX9_canReach 59 = .ok (.goto 51, 3) := by decide +kernel
theorem dX9_canReach_62 : decode cX9_canReach 62 = .ok (.iload_n 2, 1) := by decide +kernel
theorem dX9_canReach_63 : decode cX9_canReach 63 = .ok (.iload 5, 2) := by decide +kernel
theorem dX9_canReach_65 : decode cX9_canReach 65 = .ok (.invokestatic 49, 3) := by decide +kernel
theorem dX9_canReach_68 : decode cX9_canReach 68 = .ok (.ifCond .eq 42, 3) := by decide +kernel
theorem dX9_canReach_71 : decode cX9_canReach 71 = .ok (.iload 4, 2) := by decide +kernel
theorem dX9_canReach_73 : decode cX9_canReach 73 = .ok (.iload 5, 2) := by decide +kernel
theorem dX9_canReach_75 : decode cX9_canReach 75 = .ok (.invokestatic 49, 3) := by decide +kernel
theorem dX9_canReach_78 : decode cX9_canReach 78 = .ok (.ifCond .eq 32, 3) := by decide +kernel
theorem dX9_canReach_81 : decode cX9_canReach 81 = .ok (.iload_n 3, 1) := by decide +kernel
theorem dX9_canReach_82 : decode cX9_canReach 82 = .ok (.iconst 0, 1) := by decide +kernel
theorem dX9_canReach_83 : decode cX9_canReach 83 = .ok (.aload_n 0, 1) := by decide +kernel
theorem dX9_canReach_84 : decode cX9_canReach 84 = .ok (.getfield 28, 3) := by decide +kernel
theorem dX9_canReach_87 : decode cX9_canReach 87 = .ok (.getfield 76, 3) := by decide +kernel
theorem dX9_canReach_90 : decode cX9_canReach 90 = .ok (.aload_n 0, 1) := by decide +kernel
theorem dX9_canReach_91 : decode cX9_canReach 91 = .ok (.getfield 32, 3) := by decide +kernel
theorem dX9_canReach_94 : decode cX9_canReach 94 = .ok (.getfield 79, 3) := by decide +kernel
theorem dX9_canReach_97 : decode cX9_canReach 97 = .ok (.iload_n 1, 1) := by decide +kernel
theorem dX9_canReach_98 : decode cX9_canReach 98 = .ok (.iload 5, 2) := by decide +kernel
theorem dX9_canReach_100 : decode cX9_canReach 100 = .ok (.invokestatic 81, 3) := by decide +kernel
theorem dX9_canReach_103 : decode cX9_canReach 103 = .ok (.iaload, 1) := by decide +kernel
theorem dX9_canReach_104 : decode cX9_canReach 104 = .ok (.isub, 1) := by decide +kernel
theorem dX9_canReach_105 : decode cX9_canReach 105 = .ok (.invokestatic 84, 3) := by decide +kernel
theorem dX9_canReach_108 : decode cX9_canReach 108 = .ok (.iadd, 1) := by decide +kernel
theorem dX9_canReach_109 : decode cX9_canReach 109 = .ok (.istore_n 3, 1) := by decide +kernel
theorem dX9_canReach_110 : decode cX9_canReach 110 = .ok (.iinc 5 1, 3) := by decide +kernel
theorem dX9_canReach_113 : decode cX9_canReach 113 = .ok (.goto (-98), 3) := by decide +kernel
theorem dX9_canReach_116 : decode cX9_canReach 116 = .ok (.iload_n 3, 1) := by decide +kernel
theorem dX9_canReach_117 : decode cX9_canReach 117 = .ok (.ireturn, 1) := by decide +kernel
theorem dX9_maskedBy_0 : decode cX9_maskedBy 0 = .ok (.aload_n 1, 1) := by decide +kernel
theorem dX9_maskedBy_1 : decode cX9_maskedBy 1 = .ok (.getfield 87, 3) := by decide +kernel
theorem dX9_maskedBy_4 : decode cX9_maskedBy 4 = .ok (.iconst 2, 1) := by decide +kernel
theorem dX9_maskedBy_5 : decode cX9_maskedBy 5 = .ok (.idiv, 1) := by decide +kernel
theorem dX9_maskedBy_6 : decode cX9_maskedBy 6 = .ok (.istore_n 2, 1) := by decide +kernel
theorem dX9_maskedBy_7 : decode cX9_maskedBy 7 = .ok (.aload_n 1, 1) := by decide +kernel
theorem dX9_maskedBy_8 : decode cX9_maskedBy 8 = .ok (.getfield 87, 3) := by decide +kernel
theorem dX9_maskedBy_11 : decode cX9_maskedBy 11 = .ok (.iconst 2, 1) := by decide +kernel
theorem dX9_maskedBy_12 : decode cX9_maskedBy 12 = .ok (.irem, 1) := by decide +kernel
theorem dX9_maskedBy_13 : decode cX9_maskedBy 13 = .ok (.ifCond .ne 14, 3) := by decide +kernel
theorem dX9_maskedBy_16 : decode cX9_maskedBy 16 = .ok (.iload_n 2, 1) := by decide +kernel
theorem dX9_maskedBy_17 : decode cX9_maskedBy 17 = .ok (.iconst 1, 1) := by decide +kernel
theorem dX9_maskedBy_18 : decode cX9_maskedBy 18 = .ok (.if_icmp .lt 9, 3) := by decide +kernel
theorem dX9_maskedBy_21 : decode cX9_maskedBy 21 = .ok (.iload_n 2, 1) := by decide +kernel
theorem dX9_maskedBy_22 : decode cX9_maskedBy 22 = .ok (.bipush 8, 2) := by decide +kernel
theorem dX9_maskedBy_24 : decode cX9_maskedBy 24 = .ok (.if_icmp .le 5, 3) := by decide +kernel
theorem dX9_maskedBy_27 : decode cX9_maskedBy 27 = .ok (.iconst (-1), 1) := by decide +kernel
theorem dX9_maskedBy_28 : decode cX9_maskedBy 28 = .ok (.ireturn, 1) := by decide +kernel
theorem dX9_maskedBy_29 : decode cX9_maskedBy 29 = .ok (.aload_n 0, 1) := by decide +kernel
theorem dX9_maskedBy_30 : decode cX9_maskedBy 30 = .ok (.getfield 28, 3) := by decide +kernel
theorem dX9_maskedBy_33 : decode cX9_maskedBy 33 = .ok (.invokevirtual 36, 3) := by decide +kernel
theorem dX9_maskedBy_36 : decode cX9_maskedBy 36 = .ok (.istore_n 3, 1) := by decide +kernel
theorem dX9_maskedBy_37 : decode cX9_maskedBy 37 = .ok (.iconst 0, 1) := by decide +kernel
theorem dX9_maskedBy_38 : decode cX9_maskedBy 38 = .ok (.istore 4, 2) := by decide +kernel
theorem dX9_maskedBy_40 : decode cX9_maskedBy 40 = .ok (.iload 4, 2) := by decide +kernel
theorem dX9_maskedBy_42 : decode cX9_maskedBy 42 = .ok (.iload_n 2, 1) := by decide +kernel
theorem dX9_maskedBy_43 : decode cX9_maskedBy 43 = .ok (.if_icmp .ge 94, 3) := by decide +kernel
theorem dX9_maskedBy_46 : decode cX9_maskedBy 46 = .ok (.aload_n 1, 1) := by decide +kernel
theorem dX9_maskedBy_47 : decode cX9_maskedBy 47 = .ok (.getfield 92, 3) := by decide +kernel
theorem dX9_maskedBy_50 : decode cX9_maskedBy 50 = .ok (.iconst 2, 1) := by decide +kernel
theorem dX9_maskedBy_51 : decode cX9_maskedBy 51 = .ok (.iload 4, 2) := by decide +kernel
theorem dX9_maskedBy_53 : decode cX9_maskedBy 53 = .ok (.imul, 1) := by decide +kernel
theorem dX9_maskedBy_54 : decode cX9_maskedBy 54 = .ok (.iaload, 1) := by decide +kernel
theorem dX9_maskedBy_55 : decode cX9_maskedBy 55 = .ok (.istore 5, 2) := by decide +kernel
theorem dX9_maskedBy_57 : decode cX9_maskedBy 57 = .ok (.aload_n 1, 1) := by decide +kernel
theorem dX9_maskedBy_58 : decode cX9_maskedBy 58 = .ok (.getfield 92, 3) := by decide +kernel
theorem dX9_maskedBy_61 : decode cX9_maskedBy 61 = .ok (.iconst 2, 1) := by decide +kernel
theorem dX9_maskedBy_62 : decode cX9_maskedBy 62 = .ok (.iload 4, 2) := by decide +kernel
theorem dX9_maskedBy_64 : decode cX9_maskedBy 64 = .ok (.imul, 1) := by decide +kernel
theorem dX9_maskedBy_65 : decode cX9_maskedBy 65 = .ok (.iconst 1, 1) := by decide +kernel
theorem dX9_maskedBy_66 : decode cX9_maskedBy 66 = .ok (.iadd, 1) := by decide +kernel
theorem dX9_maskedBy_67 : decode cX9_maskedBy 67 = .ok (.iaload, 1) := by decide +kernel
theorem dX9_maskedBy_68 : decode cX9_maskedBy 68 = .ok (.istore 6, 2) := by decide +kernel
theorem dX9_maskedBy_70 : decode cX9_maskedBy 70 = .ok (.aload_n 0, 1) := by decide +kernel
theorem dX9_maskedBy_71 : decode cX9_maskedBy 71 = .ok (.getfield 28, 3) := by decide +kernel
theorem dX9_maskedBy_74 : decode cX9_maskedBy 74 = .ok (.iload 5, 2) := by decide +kernel
theorem dX9_maskedBy_76 : decode cX9_maskedBy 76 = .ok (.invokevirtual 95, 3) := by decide +kernel
theorem dX9_maskedBy_79 : decode cX9_maskedBy 79 = .ok (.ifCond .eq 9, 3) := by decide +kernel
theorem dX9_maskedBy_82 : decode cX9_maskedBy 82 = .ok (.iload 6, 2) := by decide +kernel
theorem dX9_maskedBy_84 : decode cX9_maskedBy 84 = .ok (.iconst 1, 1) := by decide +kernel
theorem dX9_maskedBy_85 : decode cX9_maskedBy 85 = .ok (.if_icmp .le 5, 3) := by decide +kernel
theorem dX9_maskedBy_88 : decode cX9_maskedBy 88 = .ok (.iconst (-1), 1) := by decide +kernel
theorem dX9_maskedBy_89 : decode cX9_maskedBy 89 = .ok (.ireturn, 1) := by decide +kernel
theorem dX9_maskedBy_90 : decode cX9_maskedBy 90 = .ok (.iload_n 3, 1) := by decide +kernel
theorem dX9_maskedBy_91 : decode cX9_maskedBy 91 = .ok (.iload 6, 2) := by decide +kernel
theorem dX9_maskedBy_93 : decode cX9_maskedBy 93 = .ok (.iconst 1, 1) := by decide +kernel
theorem dX9_maskedBy_94 : decode cX9_maskedBy 94 = .ok (.if_icmp .ne 15, 3) := by decide +kernel
theorem dX9_maskedBy_97 : decode cX9_maskedBy 97 = .ok (.aload_n 0, 1) := by decide +kernel
theorem dX9_maskedBy_98 : decode cX9_maskedBy 98 = .ok (.getfield 32, 3) := by decide +kernel
theorem dX9_maskedBy_101 : decode cX9_maskedBy 101 = .ok (.iload 5, 2) := by decide +kernel
theorem dX9_maskedBy_103 : decode cX9_maskedBy 103 = .ok (.invokevirtual 69, 3) := by decide +kernel
theorem dX9_maskedBy_106 : decode cX9_maskedBy 106 = .ok (.goto 14, 3) := by decide +kernel
theorem dX9_maskedBy_109 : decode cX9_maskedBy 109 = .ok (.aload_n 0, 1) := by decide +kernel
theorem dX9_maskedBy_110 : decode cX9_maskedBy 110 = .ok (.getfield 32, 3) := by decide +kernel
theorem dX9_maskedBy_113 : decode cX9_maskedBy 113 = .ok (.iload 5, 2) := by decide +kernel
theorem dX9_maskedBy_115 : decode cX9_maskedBy 115 = .ok (.invokevirtual 69, 3) := by decide +kernel
theorem dX9_maskedBy_118 : decode cX9_maskedBy 118 = .ok (.iconst (-1), 1) := by decide +kernel
theorem dX9_maskedBy_119 : decode cX9_maskedBy 119 = .ok (.ixor, 1) := by decide +kernel
theorem dX9_maskedBy_120 : decode cX9_maskedBy 120 = .ok (.iand, 1) := by decide +kernel
theorem dX9_maskedBy_121 : decode cX9_maskedBy 121 = .ok (.istore_n 3, 1) := by decide +kernel
theorem dX9_maskedBy_122 : decode cX9_maskedBy 122 = .ok (.iload_n 3, 1) := by decide +kernel
theorem dX9_maskedBy_123 : decode cX9_maskedBy 123 = .ok (.iconst 1, 1) := by decide +kernel
theorem dX9_maskedBy_124 : decode cX9_maskedBy 124 = .ok (.iload 5, 2) := by decide +kernel
theorem dX9_maskedBy_126 : decode cX9_maskedBy 126 = .ok (.ishl, 1) := by decide +kernel
theorem dX9_maskedBy_127 : decode cX9_maskedBy 127 = .ok (.iconst (-1), 1) := by decide +kernel
theorem dX9_maskedBy_128 : decode cX9_maskedBy 128 = .ok (.ixor, 1) := by decide +kernel
theorem dX9_maskedBy_129 : decode cX9_maskedBy 129 = .ok (.iand, 1) := by decide +kernel
theorem dX9_maskedBy_130 : decode cX9_maskedBy 130 = .ok (.istore_n 3, 1) := by decide +kernel
theorem dX9_maskedBy_131 : decode cX9_maskedBy 131 = .ok (.iinc 4 1, 3) := by decide +kernel
theorem dX9_maskedBy_134 : decode cX9_maskedBy 134 = .ok (.goto (-94), 3) := by decide +kernel
theorem dX9_maskedBy_137 : decode cX9_maskedBy 137 = .ok (.iload_n 3, 1) := by decide +kernel
theorem dX9_maskedBy_138 : decode cX9_maskedBy 138 = .ok (.ifCond .le 12, 3) := by decide +kernel
theorem dX9_maskedBy_141 : decode cX9_maskedBy 141 = .ok (.aload_n 0, 1) := by decide +kernel
theorem dX9_maskedBy_142 : decode cX9_maskedBy 142 = .ok (.aload_n 0, 1) := by decide +kernel
theorem dX9_maskedBy_143 : decode cX9_maskedBy 143 = .ok (.iload_n 3, 1) := by decide +kernel
theorem dX9_maskedBy_144 : decode cX9_maskedBy 144 = .ok (.invokevirtual 99, 3) := by decide +kernel
theorem dX9_maskedBy_147 : decode cX9_maskedBy 147 = .ok (.putfield 9, 3) := by decide +kernel
theorem dX9_maskedBy_150 : decode cX9_maskedBy 150 = .ok (.iload_n 3, 1) := by decide +kernel
theorem dX9_maskedBy_151 : decode cX9_maskedBy 151 = .ok (.ireturn, 1) := by decide +kernel
theorem dX9_bestToAsk_0 : decode cX9_bestToAsk 0 = .ok (.iconst (-1), 1) := by decide +kernel
theorem dX9_bestToAsk_1 : decode cX9_bestToAsk 1 = .ok (.istore_n 2, 1) := by decide +kernel
theorem dX9_bestToAsk_2 : decode cX9_bestToAsk 2 = .ok (.bipush 8, 2) := by decide +kernel
theorem dX9_bestToAsk_4 : decode cX9_bestToAsk 4 = .ok (.istore_n 3, 1) := by decide +kernel
theorem dX9_bestToAsk_5 : decode cX9_bestToAsk 5 = .ok (.iconst 0, 1) := by decide +kernel
theorem dX9_bestToAsk_6 : decode cX9_bestToAsk 6 = .ok (.istore 4, 2) := by decide +kernel
theorem dX9_bestToAsk_8 : decode cX9_bestToAsk 8 = .ok (.iload 4, 2) := by decide +kernel
theorem dX9_bestToAsk_10 : decode cX9_bestToAsk 10 = .ok (.aload_n 0, 1) := by decide +kernel
theorem dX9_bestToAsk_11 : decode cX9_bestToAsk 11 = .ok (.getfield 28, 3) := by decide +kernel
theorem dX9_bestToAsk_14 : decode cX9_bestToAsk 14 = .ok (.getfield 42, 3) := by decide +kernel
theorem dX9_bestToAsk_17 : decode cX9_bestToAsk 17 = .ok (.if_icmp .ge 53, 3) := by decide +kernel
theorem dX9_bestToAsk_20 : decode cX9_bestToAsk 20 = .ok (.aload_n 0, 1) := by decide +kernel
theorem dX9_bestToAsk_21 : decode cX9_bestToAsk 21 = .ok (.getfield 32, 3) := by decide +kernel
theorem dX9_bestToAsk_24 : decode cX9_bestToAsk 24 = .ok (.iload 4, 2) := by decide +kernel
theorem dX9_bestToAsk_26 : decode cX9_bestToAsk 26 = .ok (.invokevirtual 69, 3) := by decide +kernel
theorem dX9_bestToAsk_29 : decode cX9_bestToAsk 29 = .ok (.istore 5, 2) := by decide +kernel
theorem dX9_bestToAsk_31 : decode cX9_bestToAsk 31 = .ok (.iload_n 1, 1) := by decide +kernel
theorem dX9_bestToAsk_32 : decode cX9_bestToAsk 32 = .ok (.iload 5, 2) := by decide +kernel
theorem dX9_bestToAsk_34 : decode cX9_bestToAsk 34 = .ok (.iand, 1) := by decide +kernel
theorem dX9_bestToAsk_35 : decode cX9_bestToAsk 35 = .ok (.invokestatic 102, 3) := by decide +kernel
theorem dX9_bestToAsk_38 : decode cX9_bestToAsk 38 = .ok (.iload_n 1, 1) := by decide +kernel
theorem dX9_bestToAsk_39 : decode cX9_bestToAsk 39 = .ok (.iload 5, 2) := by decide +kernel
theorem dX9_bestToAsk_41 : decode cX9_bestToAsk 41 = .ok (.iconst (-1), 1) := by decide +kernel
theorem dX9_bestToAsk_42 : decode cX9_bestToAsk 42 = .ok (.ixor, 1) := by decide +kernel
theorem dX9_bestToAsk_43 : decode cX9_bestToAsk 43 = .ok (.iand, 1) := by decide +kernel
theorem dX9_bestToAsk_44 : decode cX9_bestToAsk 44 = .ok (.invokestatic 102, 3) := by decide +kernel
theorem dX9_bestToAsk_47 : decode cX9_bestToAsk 47 = .ok (.invokestatic 84, 3) := by decide +kernel
theorem dX9_bestToAsk_50 : decode cX9_bestToAsk 50 = .ok (.istore 6, 2) := by decide +kernel
theorem dX9_bestToAsk_52 : decode cX9_bestToAsk 52 = .ok (.iload 6, 2) := by decide +kernel
theorem dX9_bestToAsk_54 : decode cX9_bestToAsk 54 = .ok (.iload_n 3, 1) := by decide +kernel
theorem dX9_bestToAsk_55 : decode cX9_bestToAsk 55 = .ok (.if_icmp .ge 9, 3) := by decide +kernel
theorem dX9_bestToAsk_58 : decode cX9_bestToAsk 58 = .ok (.iload 6, 2) := by decide +kernel
theorem dX9_bestToAsk_60 : decode cX9_bestToAsk 60 = .ok (.istore_n 3, 1) := by decide +kernel
theorem dX9_bestToAsk_61 : decode cX9_bestToAsk 61 = .ok (.iload 4, 2) := by decide +kernel
theorem dX9_bestToAsk_63 : decode cX9_bestToAsk 63 = .ok (.istore_n 2, 1) := by decide +kernel
theorem dX9_bestToAsk_64 : decode cX9_bestToAsk 64 = .ok (.iinc 4 1, 3) := by decide +kernel
theorem dX9_bestToAsk_67 : decode cX9_bestToAsk 67 = .ok (.goto (-59), 3) := by decide +kernel
theorem dX9_bestToAsk_70 : decode cX9_bestToAsk 70 = .ok (.iload_n 2, 1) := by decide +kernel
theorem dX9_bestToAsk_71 : decode cX9_bestToAsk 71 = .ok (.ireturn, 1) := by decide +kernel
theorem dX9_fewestSellers_0 : decode cX9_fewestSellers 0 = .ok (.iconst (-1), 1) := by decide +kernel
theorem dX9_fewestSellers_1 : decode cX9_fewestSellers 1 = .ok (.istore_n 2, 1) := by decide +kernel
theorem dX9_fewestSellers_2 : decode cX9_fewestSellers 2 = .ok (.aload_n 0, 1) := by decide +kernel
theorem dX9_fewestSellers_3 : decode cX9_fewestSellers 3 = .ok (.iload_n 1, 1) := by decide +kernel
theorem dX9_fewestSellers_4 : decode cX9_fewestSellers 4 = .ok (.invokevirtual 107, 3) := by decide +kernel
theorem dX9_fewestSellers_7 : decode cX9_fewestSellers 7 = .ok (.istore_n 3, 1) := by decide +kernel
theorem dX9_fewestSellers_8 : decode cX9_fewestSellers 8 = .ok (.aload_n 0, 1) := by decide +kernel
theorem dX9_fewestSellers_9 : decode cX9_fewestSellers 9 = .ok (.getfield 28, 3) := by decide +kernel
theorem dX9_fewestSellers_12 : decode cX9_fewestSellers 12 = .ok (.invokevirtual 36, 3) := by decide +kernel
theorem dX9_fewestSellers_15 : decode cX9_fewestSellers 15 = .ok (.istore 4, 2) := by decide +kernel
theorem dX9_fewestSellers_17 : decode cX9_fewestSellers 17 = .ok (.iconst 0, 1) := by decide +kernel
theorem dX9_fewestSellers_18 : decode cX9_fewestSellers 18 = .ok (.istore 5, 2) := by decide +kernel
theorem dX9_fewestSellers_20 : decode cX9_fewestSellers 20 = .ok (.iload 5, 2) := by decide +kernel
theorem dX9_fewestSellers_22 : decode cX9_fewestSellers 22 = .ok (.iload 4, 2) := by decide +kernel
theorem dX9_fewestSellers_24 : decode cX9_fewestSellers 24 = .ok (.if_icmp .gt 60, 3) := by decide +kernel
theorem dX9_fewestSellers_27 : decode cX9_fewestSellers 27 = .ok (.iload_n 2, 1) := by decide +kernel
theorem dX9_fewestSellers_28 : decode cX9_fewestSellers 28 = .ok (.iconst (-1), 1) := by decide +kernel
theorem dX9_fewestSellers_29 : decode cX9_fewestSellers 29 = .ok (.if_icmp .eq 15, 3) := by decide +kernel
theorem dX9_fewestSellers_32 : decode cX9_fewestSellers 32 = .ok (.iload 5, 2) := by decide +kernel
theorem dX9_fewestSellers_34 : decode cX9_fewestSellers 34 = .ok (.invokestatic 102, 3) := by decide +kernel
theorem dX9_fewestSellers_37 : decode cX9_fewestSellers 37 = .ok (.iload_n 2, 1) := by decide +kernel
theorem dX9_fewestSellers_38 : decode cX9_fewestSellers 38 = .ok (.invokestatic 102, 3) := by decide +kernel
theorem dX9_fewestSellers_41 : decode cX9_fewestSellers 41 = .ok (.if_icmp .ge 7, 3) := by decide +kernel
theorem dX9_fewestSellers_44 : decode cX9_fewestSellers 44 = .ok (.iconst 1, 1) := by decide +kernel
theorem dX9_fewestSellers_45 : decode cX9_fewestSellers 45 = .ok (.goto 4, 3) := by decide +kernel
theorem dX9_fewestSellers_48 : decode cX9_fewestSellers 48 = .ok (.iconst 0, 1) := by decide +kernel
theorem dX9_fewestSellers_49 : decode cX9_fewestSellers 49 = .ok (.istore 6, 2) := by decide +kernel
theorem dX9_fewestSellers_51 : decode cX9_fewestSellers 51 = .ok (.iload 5, 2) := by decide +kernel
theorem dX9_fewestSellers_53 : decode cX9_fewestSellers 53 = .ok (.iload_n 3, 1) := by decide +kernel
theorem dX9_fewestSellers_54 : decode cX9_fewestSellers 54 = .ok (.iconst (-1), 1) := by decide +kernel
theorem dX9_fewestSellers_55 : decode cX9_fewestSellers 55 = .ok (.ixor, 1) := by decide +kernel
theorem dX9_fewestSellers_56 : decode cX9_fewestSellers 56 = .ok (.iand, 1) := by decide +kernel
theorem dX9_fewestSellers_57 : decode cX9_fewestSellers 57 = .ok (.ifCond .ne 21, 3) := by decide +kernel
theorem dX9_fewestSellers_60 : decode cX9_fewestSellers 60 = .ok (.iload 6, 2) := by decide +kernel
theorem dX9_fewestSellers_62 : decode cX9_fewestSellers 62 = .ok (.ifCond .eq 16, 3) := by decide +kernel
theorem dX9_fewestSellers_65 : decode cX9_fewestSellers 65 = .ok (.aload_n 0, 1) := by decide +kernel
theorem dX9_fewestSellers_66 : decode cX9_fewestSellers 66 = .ok (.iload_n 1, 1) := by decide +kernel
theorem dX9_fewestSellers_67 : decode cX9_fewestSellers 67 = .ok (.iload 5, 2) := by decide +kernel
theorem dX9_fewestSellers_69 : decode cX9_fewestSellers 69 = .ok (.invokevirtual 110, 3) := by decide +kernel
theorem dX9_fewestSellers_72 : decode cX9_fewestSellers 72 = .ok (.ifCond .eq 6, 3) := by decide +kernel
theorem dX9_fewestSellers_75 : decode cX9_fewestSellers 75 = .ok (.iload 5, 2) := by decide +kernel
theorem dX9_fewestSellers_77 : decode cX9_fewestSellers 77 = .ok (.istore_n 2, 1) := by decide +kernel
theorem dX9_fewestSellers_78 : decode cX9_fewestSellers 78 = .ok (.iinc 5 1, 3) := by decide +kernel
theorem dX9_fewestSellers_81 : decode cX9_fewestSellers 81 = .ok (.goto (-61), 3) := by decide +kernel
theorem dX9_fewestSellers_84 : decode cX9_fewestSellers 84 = .ok (.iload_n 2, 1) := by decide +kernel
theorem dX9_fewestSellers_85 : decode cX9_fewestSellers 85 = .ok (.iconst (-1), 1) := by decide +kernel
theorem dX9_fewestSellers_86 : decode cX9_fewestSellers 86 = .ok (.if_icmp .ne 5, 3) := by decide +kernel
theorem dX9_fewestSellers_89 : decode cX9_fewestSellers 89 = .ok (.iconst (-1), 1) := by decide +kernel
theorem dX9_fewestSellers_90 : decode cX9_fewestSellers 90 = .ok (.ireturn, 1) := by decide +kernel
theorem dX9_fewestSellers_91 : decode cX9_fewestSellers 91 = .ok (.aload_n 0, 1) := by decide +kernel
theorem dX9_fewestSellers_92 : decode cX9_fewestSellers 92 = .ok (.iload_n 2, 1) := by decide +kernel
theorem dX9_fewestSellers_93 : decode cX9_fewestSellers 93 = .ok (.putfield 15, 3) := by decide +kernel
theorem dX9_fewestSellers_96 : decode cX9_fewestSellers 96 = .ok (.iload_n 2, 1) := by decide +kernel
theorem dX9_fewestSellers_97 : decode cX9_fewestSellers 97 = .ok (.invokestatic 102, 3) := by decide +kernel
theorem dX9_fewestSellers_100 : decode cX9_fewestSellers 100 = .ok (.ireturn, 1) := by decide +kernel
theorem dX9_sellersOf_0 : decode cX9_sellersOf 0 = .ok (.iconst 0, 1) := by decide +kernel
theorem dX9_sellersOf_1 : decode cX9_sellersOf 1 = .ok (.istore_n 2, 1) := by decide +kernel
theorem dX9_sellersOf_2 : decode cX9_sellersOf 2 = .ok (.iconst 0, 1) := by decide +kernel
theorem dX9_sellersOf_3 : decode cX9_sellersOf 3 = .ok (.istore_n 3, 1) := by decide +kernel
theorem dX9_sellersOf_4 : decode cX9_sellersOf 4 = .ok (.iload_n 3, 1) := by decide +kernel
theorem dX9_sellersOf_5 : decode cX9_sellersOf 5 = .ok (.aload_n 0, 1) := by decide +kernel
theorem dX9_sellersOf_6 : decode cX9_sellersOf 6 = .ok (.getfield 28, 3) := by decide +kernel
theorem dX9_sellersOf_9 : decode cX9_sellersOf 9 = .ok (.getfield 42, 3) := by decide +kernel
theorem dX9_sellersOf_12 : decode cX9_sellersOf 12 = .ok (.if_icmp .ge 32, 3) := by decide +kernel
theorem dX9_sellersOf_15 : decode cX9_sellersOf 15 = .ok (.aload_n 0, 1) := by decide +kernel
theorem dX9_sellersOf_16 : decode cX9_sellersOf 16 = .ok (.getfield 28, 3) := by decide +kernel
theorem dX9_sellersOf_19 : decode cX9_sellersOf 19 = .ok (.getfield 113, 3) := by decide +kernel
theorem dX9_sellersOf_22 : decode cX9_sellersOf 22 = .ok (.iload_n 3, 1) := by decide +kernel
theorem dX9_sellersOf_23 : decode cX9_sellersOf 23 = .ok (.iload_n 1, 1) := by decide +kernel
theorem dX9_sellersOf_24 : decode cX9_sellersOf 24 = .ok (.invokestatic 45, 3) := by decide +kernel
theorem dX9_sellersOf_27 : decode cX9_sellersOf 27 = .ok (.iaload, 1) := by decide +kernel
theorem dX9_sellersOf_28 : decode cX9_sellersOf 28 = .ok (.iconst (-1), 1) := by decide +kernel
theorem dX9_sellersOf_29 : decode cX9_sellersOf 29 = .ok (.if_icmp .eq 9, 3) := by decide +kernel
theorem dX9_sellersOf_32 : decode cX9_sellersOf 32 = .ok (.iload_n 2, 1) := by decide +kernel
theorem dX9_sellersOf_33 : decode cX9_sellersOf 33 = .ok (.iconst 1, 1) := by decide +kernel
theorem dX9_sellersOf_34 : decode cX9_sellersOf 34 = .ok (.iload_n 3, 1) := by decide +kernel
theorem dX9_sellersOf_35 : decode cX9_sellersOf 35 = .ok (.ishl, 1) := by decide +kernel
theorem dX9_sellersOf_36 : decode cX9_sellersOf 36 = .ok (.ior, 1) := by decide +kernel
theorem dX9_sellersOf_37 : decode cX9_sellersOf 37 = .ok (.istore_n 2, 1) := by decide +kernel
theorem dX9_sellersOf_38 : decode cX9_sellersOf 38 = .ok (.iinc 3 1, 3) := by decide +kernel
theorem dX9_sellersOf_41 : decode cX9_sellersOf 41 = .ok (.goto (-37), 3) := by decide +kernel
theorem dX9_sellersOf_44 : decode cX9_sellersOf 44 = .ok (.iload_n 2, 1) := by decide +kernel
theorem dX9_sellersOf_45 : decode cX9_sellersOf 45 = .ok (.ireturn, 1) := by decide +kernel
theorem dX9_areAllServed_0 : decode cX9_areAllServed 0 = .ok (.iconst 0, 1) := by decide +kernel
theorem dX9_areAllServed_1 : decode cX9_areAllServed 1 = .ok (.istore_n 3, 1) := by decide +kernel
theorem dX9_areAllServed_2 : decode cX9_areAllServed 2 = .ok (.iload_n 3, 1) := by decide +kernel
theorem dX9_areAllServed_3 : decode cX9_areAllServed 3 = .ok (.aload_n 0, 1) := by decide +kernel
theorem dX9_areAllServed_4 : decode cX9_areAllServed 4 = .ok (.getfield 28, 3) := by decide +kernel
theorem dX9_areAllServed_7 : decode cX9_areAllServed 7 = .ok (.getfield 42, 3) := by decide +kernel
theorem dX9_areAllServed_10 : decode cX9_areAllServed 10 = .ok (.if_icmp .ge 40, 3) := by decide +kernel
theorem dX9_areAllServed_13 : decode cX9_areAllServed 13 = .ok (.aload_n 0, 1) := by decide +kernel
theorem dX9_areAllServed_14 : decode cX9_areAllServed 14 = .ok (.getfield 28, 3) := by decide +kernel
theorem dX9_areAllServed_17 : decode cX9_areAllServed 17 = .ok (.getfield 116, 3) := by decide +kernel
theorem dX9_areAllServed_20 : decode cX9_areAllServed 20 = .ok (.iload_n 3, 1) := by decide +kernel
theorem dX9_areAllServed_21 : decode cX9_areAllServed 21 = .ok (.iload_n 1, 1) := by decide +kernel
theorem dX9_areAllServed_22 : decode cX9_areAllServed 22 = .ok (.invokestatic 45, 3) := by decide +kernel
theorem dX9_areAllServed_25 : decode cX9_areAllServed 25 = .ok (.iaload, 1) := by decide +kernel
theorem dX9_areAllServed_26 : decode cX9_areAllServed 26 = .ok (.ifCond .le 18, 3) := by decide +kernel
theorem dX9_areAllServed_29 : decode cX9_areAllServed 29 = .ok (.aload_n 0, 1) := by decide +kernel
theorem dX9_areAllServed_30 : decode cX9_areAllServed 30 = .ok (.getfield 32, 3) := by decide +kernel
theorem dX9_areAllServed_33 : decode cX9_areAllServed 33 = .ok (.iload_n 3, 1) := by decide +kernel
theorem dX9_areAllServed_34 : decode cX9_areAllServed 34 = .ok (.invokevirtual 69, 3) := by decide +kernel
theorem dX9_areAllServed_37 : decode cX9_areAllServed 37 = .ok (.iload_n 2, 1) := by decide +kernel
theorem dX9_areAllServed_38 : decode cX9_areAllServed 38 = .ok (.iand, 1) := by decide +kernel
theorem dX9_areAllServed_39 : decode cX9_areAllServed 39 = .ok (.ifCond .ne 5, 3) := by decide +kernel
theorem dX9_areAllServed_42 : decode cX9_areAllServed 42 = .ok (.iconst 0, 1) := by decide +kernel
theorem dX9_areAllServed_43 : decode cX9_areAllServed 43 = .ok (.ireturn, 1) := by decide +kernel
theorem dX9_areAllServed_44 : decode cX9_areAllServed 44 = .ok (.iinc 3 1, 3) := by decide +kernel
theorem dX9_areAllServed_47 : decode cX9_areAllServed 47 = .ok (.goto (-45), 3) := by decide +kernel
theorem dX9_areAllServed_50 : decode cX9_areAllServed 50 = .ok (.iconst 1, 1) := by decide +kernel
theorem dX9_areAllServed_51 : decode cX9_areAllServed 51 = .ok (.ireturn, 1) := by decide +kernel
theorem dX9_goBetweens_0 : decode cX9_goBetweens 0 = .ok (.aload_n 0, 1) := by decide +kernel
theorem dX9_goBetweens_1 : decode cX9_goBetweens 1 = .ok (.getfield 25, 3) := by decide +kernel
theorem dX9_goBetweens_4 : decode cX9_goBetweens 4 = .ok (.iconst 0, 1) := by decide +kernel
theorem dX9_goBetweens_5 : decode cX9_goBetweens 5 = .ok (.iconst 1, 1) := by decide +kernel
theorem dX9_goBetweens_6 : decode cX9_goBetweens 6 = .ok (.iload_n 2, 1) := by decide +kernel
theorem dX9_goBetweens_7 : decode cX9_goBetweens 7 = .ok (.ishl, 1) := by decide +kernel
theorem dX9_goBetweens_8 : decode cX9_goBetweens 8 = .ok (.iastore, 1) := by decide +kernel
theorem dX9_goBetweens_9 : decode cX9_goBetweens 9 = .ok (.iconst 0, 1) := by decide +kernel
theorem dX9_goBetweens_10 : decode cX9_goBetweens 10 = .ok (.istore_n 3, 1) := by decide +kernel
theorem dX9_goBetweens_11 : decode cX9_goBetweens 11 = .ok (.iload_n 3, 1) := by decide +kernel
theorem dX9_goBetweens_12 : decode cX9_goBetweens 12 = .ok (.bipush 7, 2) := by decide +kernel
theorem dX9_goBetweens_14 : decode cX9_goBetweens 14 = .ok (.if_icmp .ge 40, 3) := by decide +kernel
theorem dX9_goBetweens_17 : decode cX9_goBetweens 17 = .ok (.aload_n 0, 1) := by decide +kernel
theorem dX9_goBetweens_18 : decode cX9_goBetweens 18 = .ok (.getfield 25, 3) := by decide +kernel
theorem dX9_goBetweens_21 : decode cX9_goBetweens 21 = .ok (.iload_n 3, 1) := by decide +kernel
theorem dX9_goBetweens_22 : decode cX9_goBetweens 22 = .ok (.iaload, 1) := by decide +kernel
theorem dX9_goBetweens_23 : decode cX9_goBetweens 23 = .ok (.iload_n 1, 1) := by decide +kernel
theorem dX9_goBetweens_24 : decode cX9_goBetweens 24 = .ok (.invokestatic 49, 3) := by decide +kernel
theorem dX9_goBetweens_27 : decode cX9_goBetweens 27 = .ok (.ifCond .ne 27, 3) := by decide +kernel
theorem dX9_goBetweens_30 : decode cX9_goBetweens 30 = .ok (.aload_n 0, 1) := by decide +kernel
theorem dX9_goBetweens_31 : decode cX9_goBetweens 31 = .ok (.getfield 25, 3) := by decide +kernel
theorem dX9_goBetweens_34 : decode cX9_goBetweens 34 = .ok (.iload_n 3, 1) := by decide +kernel
theorem dX9_goBetweens_35 : decode cX9_goBetweens 35 = .ok (.iconst 1, 1) := by decide +kernel
theorem dX9_goBetweens_36 : decode cX9_goBetweens 36 = .ok (.iadd, 1) := by decide +kernel
theorem dX9_goBetweens_37 : decode cX9_goBetweens 37 = .ok (.aload_n 0, 1) := by decide +kernel
theorem dX9_goBetweens_38 : decode cX9_goBetweens 38 = .ok (.aload_n 0, 1) := by decide +kernel
theorem dX9_goBetweens_39 : decode cX9_goBetweens 39 = .ok (.getfield 25, 3) := by decide +kernel
theorem dX9_goBetweens_42 : decode cX9_goBetweens 42 = .ok (.iload_n 3, 1) := by decide +kernel
theorem dX9_goBetweens_43 : decode cX9_goBetweens 43 = .ok (.iaload, 1) := by decide +kernel
theorem dX9_goBetweens_44 : decode cX9_goBetweens 44 = .ok (.invokevirtual 117, 3) := by decide +kernel
theorem dX9_goBetweens_47 : decode cX9_goBetweens 47 = .ok (.iastore, 1) := by decide +kernel
theorem dX9_goBetweens_48 : decode cX9_goBetweens 48 = .ok (.iinc 3 1, 3) := by decide +kernel
theorem dX9_goBetweens_51 : decode cX9_goBetweens 51 = .ok (.goto (-40), 3) := by decide +kernel
theorem dX9_goBetweens_54 : decode cX9_goBetweens 54 = .ok (.aload_n 0, 1) := by decide +kernel
theorem dX9_goBetweens_55 : decode cX9_goBetweens 55 = .ok (.getfield 25, 3) := by decide +kernel
theorem dX9_goBetweens_58 : decode cX9_goBetweens 58 = .ok (.iload_n 3, 1) := by decide +kernel
theorem dX9_goBetweens_59 : decode cX9_goBetweens 59 = .ok (.iaload, 1) := by decide +kernel
theorem dX9_goBetweens_60 : decode cX9_goBetweens 60 = .ok (.iload_n 1, 1) := by decide +kernel
theorem dX9_goBetweens_61 : decode cX9_goBetweens 61 = .ok (.invokestatic 49, 3) := by decide +kernel
theorem dX9_goBetweens_64 : decode cX9_goBetweens 64 = .ok (.ifCond .ne 5, 3) := by decide +kernel
theorem dX9_goBetweens_67 : decode cX9_goBetweens 67 = .ok (.iconst (-1), 1) := by decide +kernel
theorem dX9_goBetweens_68 : decode cX9_goBetweens 68 = .ok (.ireturn, 1) := by decide +kernel
theorem dX9_goBetweens_69 : decode cX9_goBetweens 69 = .ok (.aload_n 0, 1) := by decide +kernel
theorem dX9_goBetweens_70 : decode cX9_goBetweens 70 = .ok (.iload_n 3, 1) := by decide +kernel
theorem dX9_goBetweens_71 : decode cX9_goBetweens 71 = .ok (.iconst 1, 1) := by decide +kernel
theorem dX9_goBetweens_72 : decode cX9_goBetweens 72 = .ok (.isub, 1) := by decide +kernel
theorem dX9_goBetweens_73 : decode cX9_goBetweens 73 = .ok (.putfield 120, 3) := by decide +kernel
theorem dX9_goBetweens_76 : decode cX9_goBetweens 76 = .ok (.iload_n 1, 1) := by decide +kernel
theorem dX9_goBetweens_77 : decode cX9_goBetweens 77 = .ok (.istore 4, 2) := by decide +kernel
theorem dX9_goBetweens_79 : decode cX9_goBetweens 79 = .ok (.iconst 0, 1) := by decide +kernel
theorem dX9_goBetweens_80 : decode cX9_goBetweens 80 = .ok (.istore 5, 2) := by decide +kernel
theorem dX9_goBetweens_82 : decode cX9_goBetweens 82 = .ok (.iload 5, 2) := by decide +kernel
theorem dX9_goBetweens_84 : decode cX9_goBetweens 84 = .ok (.aload_n 0, 1) := by decide +kernel
theorem dX9_goBetweens_85 : decode cX9_goBetweens 85 = .ok (.getfield 120, 3) := by decide +kernel
theorem dX9_goBetweens_88 : decode cX9_goBetweens 88 = .ok (.if_icmp .ge 44, 3) := by decide +kernel
theorem dX9_goBetweens_91 : decode cX9_goBetweens 91 = .ok (.iload 5, 2) := by decide +kernel
theorem dX9_goBetweens_93 : decode cX9_goBetweens 93 = .ok (.bipush 7, 2) := by decide +kernel
theorem dX9_goBetweens_95 : decode cX9_goBetweens 95 = .ok (.if_icmp .ge 37, 3) := by decide +kernel
theorem dX9_goBetweens_98 : decode cX9_goBetweens 98 = .ok (.aload_n 0, 1) := by decide +kernel
theorem dX9_goBetweens_99 : decode cX9_goBetweens 99 = .ok (.iload 4, 2) := by decide +kernel
theorem dX9_goBetweens_101 : decode cX9_goBetweens 101 = .ok (.aload_n 0, 1) := by decide +kernel
theorem dX9_goBetweens_102 : decode cX9_goBetweens 102 = .ok (.getfield 25, 3) := by decide +kernel
theorem dX9_goBetweens_105 : decode cX9_goBetweens 105 = .ok (.iload_n 3, 1) := by decide +kernel
theorem dX9_goBetweens_106 : decode cX9_goBetweens 106 = .ok (.iconst 1, 1) := by decide +kernel
theorem dX9_goBetweens_107 : decode cX9_goBetweens 107 = .ok (.isub, 1) := by decide +kernel
theorem dX9_goBetweens_108 : decode cX9_goBetweens 108 = .ok (.iload 5, 2) := by decide +kernel
theorem dX9_goBetweens_110 : decode cX9_goBetweens 110 = .ok (.isub, 1) := by decide +kernel
theorem dX9_goBetweens_111 : decode cX9_goBetweens 111 = .ok (.iaload, 1) := by decide +kernel
theorem dX9_goBetweens_112 : decode cX9_goBetweens 112 = .ok (.invokevirtual 123, 3) := by decide +kernel
theorem dX9_goBetweens_115 : decode cX9_goBetweens 115 = .ok (.istore 4, 2) := by decide +kernel
theorem dX9_goBetweens_117 : decode cX9_goBetweens 117 = .ok (.aload_n 0, 1) := by decide +kernel
theorem dX9_goBetweens_118 : decode cX9_goBetweens 118 = .ok (.getfield 18, 3) := by decide +kernel
theorem dX9_goBetweens_121 : decode cX9_goBetweens 121 = .ok (.iload 5, 2) := by decide +kernel
theorem dX9_goBetweens_123 : decode cX9_goBetweens 123 = .ok (.iload 4, 2) := by decide +kernel
theorem dX9_goBetweens_125 : decode cX9_goBetweens 125 = .ok (.iastore, 1) := by decide +kernel
theorem dX9_goBetweens_126 : decode cX9_goBetweens 126 = .ok (.iinc 5 1, 3) := by decide +kernel
theorem dX9_goBetweens_129 : decode cX9_goBetweens 129 = .ok (.goto (-47), 3) := by decide +kernel
theorem dX9_goBetweens_132 : decode cX9_goBetweens 132 = .ok (.aload_n 0, 1) := by decide +kernel
theorem dX9_goBetweens_133 : decode cX9_goBetweens 133 = .ok (.getfield 120, 3) := by decide +kernel
theorem dX9_goBetweens_136 : decode cX9_goBetweens 136 = .ok (.ireturn, 1) := by decide +kernel
theorem dX9_leastDealer_0 : decode cX9_leastDealer 0 = .ok (.aload_n 0, 1) := by decide +kernel
theorem dX9_leastDealer_1 : decode cX9_leastDealer 1 = .ok (.getfield 32, 3) := by decide +kernel
theorem dX9_leastDealer_4 : decode cX9_leastDealer 4 = .ok (.iload_n 1, 1) := by decide +kernel
theorem dX9_leastDealer_5 : decode cX9_leastDealer 5 = .ok (.invokevirtual 69, 3) := by decide +kernel
theorem dX9_leastDealer_8 : decode cX9_leastDealer 8 = .ok (.iload_n 2, 1) := by decide +kernel
theorem dX9_leastDealer_9 : decode cX9_leastDealer 9 = .ok (.iand, 1) := by decide +kernel
theorem dX9_leastDealer_10 : decode cX9_leastDealer 10 = .ok (.iconst 0, 1) := by decide +kernel
theorem dX9_leastDealer_11 : decode cX9_leastDealer 11 = .ok (.invokestatic 126, 3) := by decide +kernel
theorem dX9_leastDealer_14 : decode cX9_leastDealer 14 = .ok (.istore_n 3, 1) := by decide +kernel
theorem dX9_leastDealer_15 : decode cX9_leastDealer 15 = .ok (.iload_n 3, 1) := by decide +kernel
theorem dX9_leastDealer_16 : decode cX9_leastDealer 16 = .ok (.iconst (-1), 1) := by decide +kernel
theorem dX9_leastDealer_17 : decode cX9_leastDealer 17 = .ok (.if_icmp .ne 7, 3) := by decide +kernel
theorem dX9_leastDealer_20 : decode cX9_leastDealer 20 = .ok (.iload_n 1, 1) := by decide +kernel
theorem dX9_leastDealer_21 : decode cX9_leastDealer 21 = .ok (.goto 4, 3) := by decide +kernel
theorem dX9_leastDealer_24 : decode cX9_leastDealer 24 = .ok (.iload_n 3, 1) := by decide +kernel
theorem dX9_leastDealer_25 : decode cX9_leastDealer 25 = .ok (.ireturn, 1) := by decide +kernel
theorem dX9_withDealers_0 : decode cX9_withDealers 0 = .ok (.iload_n 1, 1) := by decide +kernel
theorem dX9_withDealers_1 : decode cX9_withDealers 1 = .ok (.istore_n 2, 1) := by decide +kernel
theorem dX9_withDealers_2 : decode cX9_withDealers 2 = .ok (.iconst 0, 1) := by decide +kernel
theorem dX9_withDealers_3 : decode cX9_withDealers 3 = .ok (.istore_n 3, 1) := by decide +kernel
theorem dX9_withDealers_4 : decode cX9_withDealers 4 = .ok (.iload_n 3, 1) := by decide +kernel
theorem dX9_withDealers_5 : decode cX9_withDealers 5 = .ok (.aload_n 0, 1) := by decide +kernel
theorem dX9_withDealers_6 : decode cX9_withDealers 6 = .ok (.getfield 28, 3) := by decide +kernel
theorem dX9_withDealers_9 : decode cX9_withDealers 9 = .ok (.getfield 42, 3) := by decide +kernel
theorem dX9_withDealers_12 : decode cX9_withDealers 12 = .ok (.if_icmp .ge 28, 3) := by decide +kernel
theorem dX9_withDealers_15 : decode cX9_withDealers 15 = .ok (.iload_n 1, 1) := by decide +kernel
theorem dX9_withDealers_16 : decode cX9_withDealers 16 = .ok (.iload_n 3, 1) := by decide +kernel
theorem dX9_withDealers_17 : decode cX9_withDealers 17 = .ok (.invokestatic 49, 3) := by decide +kernel
theorem dX9_withDealers_20 : decode cX9_withDealers 20 = .ok (.ifCond .eq 14, 3) := by decide +kernel
theorem dX9_withDealers_23 : decode cX9_withDealers 23 = .ok (.iload_n 2, 1) := by decide +kernel
theorem dX9_withDealers_24 : decode cX9_withDealers 24 = .ok (.aload_n 0, 1) := by decide +kernel
theorem dX9_withDealers_25 : decode cX9_withDealers 25 = .ok (.getfield 32, 3) := by decide +kernel
theorem dX9_withDealers_28 : decode cX9_withDealers 28 = .ok (.iload_n 3, 1) := by decide +kernel
theorem dX9_withDealers_29 : decode cX9_withDealers 29 = .ok (.invokevirtual 69, 3) := by decide +kernel
theorem dX9_withDealers_32 : decode cX9_withDealers 32 = .ok (.ior, 1) := by decide +kernel
theorem dX9_withDealers_33 : decode cX9_withDealers 33 = .ok (.istore_n 2, 1) := by decide +kernel
theorem dX9_withDealers_34 : decode cX9_withDealers 34 = .ok (.iinc 3 1, 3) := by decide +kernel
theorem dX9_withDealers_37 : decode cX9_withDealers 37 = .ok (.goto (-33), 3) := by decide +kernel
theorem dX9_withDealers_40 : decode cX9_withDealers 40 = .ok (.iload_n 2, 1) := by decide +kernel
theorem dX9_withDealers_41 : decode cX9_withDealers 41 = .ok (.ireturn, 1) := by decide +kernel
theorem dX9_withKnown_0 : decode cX9_withKnown 0 = .ok (.iload_n 1, 1) := by decide +kernel
theorem dX9_withKnown_1 : decode cX9_withKnown 1 = .ok (.istore_n 2, 1) := by decide +kernel
theorem dX9_withKnown_2 : decode cX9_withKnown 2 = .ok (.iconst 0, 1) := by decide +kernel
theorem dX9_withKnown_3 : decode cX9_withKnown 3 = .ok (.istore_n 3, 1) := by decide +kernel
theorem dX9_withKnown_4 : decode cX9_withKnown 4 = .ok (.iload_n 3, 1) := by decide +kernel
theorem dX9_withKnown_5 : decode cX9_withKnown 5 = .ok (.aload_n 0, 1) := by decide +kernel
theorem dX9_withKnown_6 : decode cX9_withKnown 6 = .ok (.getfield 28, 3) := by decide +kernel
theorem dX9_withKnown_9 : decode cX9_withKnown 9 = .ok (.getfield 42, 3) := by decide +kernel
theorem dX9_withKnown_12 : decode cX9_withKnown 12 = .ok (.if_icmp .ge 28, 3) := by decide +kernel
theorem dX9_withKnown_15 : decode cX9_withKnown 15 = .ok (.iload_n 1, 1) := by decide +kernel
theorem dX9_withKnown_16 : decode cX9_withKnown 16 = .ok (.iload_n 3, 1) := by decide +kernel
theorem dX9_withKnown_17 : decode cX9_withKnown 17 = .ok (.invokestatic 49, 3) := by decide +kernel
theorem dX9_withKnown_20 : decode cX9_withKnown 20 = .ok (.ifCond .eq 14, 3) := by decide +kernel
theorem dX9_withKnown_23 : decode cX9_withKnown 23 = .ok (.iload_n 2, 1) := by decide +kernel
theorem dX9_withKnown_24 : decode cX9_withKnown 24 = .ok (.aload_n 0, 1) := by decide +kernel
theorem dX9_withKnown_25 : decode cX9_withKnown 25 = .ok (.getfield 32, 3) := by decide +kernel
theorem dX9_withKnown_28 : decode cX9_withKnown 28 = .ok (.iload_n 3, 1) := by decide +kernel
theorem dX9_withKnown_29 : decode cX9_withKnown 29 = .ok (.invokevirtual 129, 3) := by decide +kernel
theorem dX9_withKnown_32 : decode cX9_withKnown 32 = .ok (.ior, 1) := by decide +kernel
theorem dX9_withKnown_33 : decode cX9_withKnown 33 = .ok (.istore_n 2, 1) := by decide +kernel
theorem dX9_withKnown_34 : decode cX9_withKnown 34 = .ok (.iinc 3 1, 3) := by decide +kernel
theorem dX9_withKnown_37 : decode cX9_withKnown 37 = .ok (.goto (-33), 3) := by decide +kernel
theorem dX9_withKnown_40 : decode cX9_withKnown 40 = .ok (.iload_n 2, 1) := by decide +kernel
theorem dX9_withKnown_41 : decode cX9_withKnown 41 = .ok (.ireturn, 1) := by decide +kernel
theorem dX9_daysTillOut_0 : decode cX9_daysTillOut 0 = .ok (.iconst 1, 1) := by decide +kernel
theorem dX9_daysTillOut_1 : decode cX9_daysTillOut 1 = .ok (.iload_n 1, 1) := by decide +kernel
theorem dX9_daysTillOut_2 : decode cX9_daysTillOut 2 = .ok (.ishl, 1) := by decide +kernel
theorem dX9_daysTillOut_3 : decode cX9_daysTillOut 3 = .ok (.istore_n 2, 1) := by decide +kernel
theorem dX9_daysTillOut_4 : decode cX9_daysTillOut 4 = .ok (.iconst 0, 1) := by decide +kernel
theorem dX9_daysTillOut_5 : decode cX9_daysTillOut 5 = .ok (.istore_n 3, 1) := by decide +kernel
theorem dX9_daysTillOut_6 : decode cX9_daysTillOut 6 = .ok (.iload_n 3, 1) := by decide +kernel
theorem dX9_daysTillOut_7 : decode cX9_daysTillOut 7 = .ok (.bipush 7, 2) := by decide +kernel
theorem dX9_daysTillOut_9 : decode cX9_daysTillOut 9 = .ok (.if_icmp .ge 28, 3) := by decide +kernel
theorem dX9_daysTillOut_12 : decode cX9_daysTillOut 12 = .ok (.iload_n 2, 1) := by decide +kernel
theorem dX9_daysTillOut_13 : decode cX9_daysTillOut 13 = .ok (.aload_n 0, 1) := by decide +kernel
theorem dX9_daysTillOut_14 : decode cX9_daysTillOut 14 = .ok (.getfield 28, 3) := by decide +kernel
theorem dX9_daysTillOut_17 : decode cX9_daysTillOut 17 = .ok (.invokevirtual 36, 3) := by decide +kernel
theorem dX9_daysTillOut_20 : decode cX9_daysTillOut 20 = .ok (.if_icmp .ne 5, 3) := by decide +kernel
theorem dX9_daysTillOut_23 : decode cX9_daysTillOut 23 = .ok (.iload_n 3, 1) := by decide +kernel
theorem dX9_daysTillOut_24 : decode cX9_daysTillOut 24 = .ok (.ireturn, 1) := by decide +kernel
theorem dX9_daysTillOut_25 : decode cX9_daysTillOut 25 = .ok (.aload_n 0, 1) := by decide +kernel
theorem dX9_daysTillOut_26 : decode cX9_daysTillOut 26 = .ok (.iload_n 2, 1) := by decide +kernel
theorem dX9_daysTillOut_27 : decode cX9_daysTillOut 27 = .ok (.invokevirtual 132, 3) := by decide +kernel
theorem dX9_daysTillOut_30 : decode cX9_daysTillOut 30 = .ok (.istore_n 2, 1) := by decide +kernel
theorem dX9_daysTillOut_31 : decode cX9_daysTillOut 31 = .ok (.iinc 3 1, 3) := by decide +kernel
theorem dX9_daysTillOut_34 : decode cX9_daysTillOut 34 = .ok (.goto (-28), 3) := by decide +kernel
theorem dX9_daysTillOut_37 : decode cX9_daysTillOut 37 = .ok (.iconst (-1), 1) := by decide +kernel
theorem dX9_daysTillOut_38 : decode cX9_daysTillOut 38 = .ok (.ireturn, 1) := by decide +kernel
theorem dX9_fewestForgotten_0 : decode cX9_fewestForgotten 0 = .ok (.aload_n 0, 1) := by decide +kernel
theorem dX9_fewestForgotten_1 : decode cX9_fewestForgotten 1 = .ok (.getfield 28, 3) := by decide +kernel
theorem dX9_fewestForgotten_4 : decode cX9_fewestForgotten 4 = .ok (.invokevirtual 36, 3) := by decide +kernel
theorem dX9_fewestForgotten_7 : decode cX9_fewestForgotten 7 = .ok (.iconst 1, 1) := by decide +kernel
theorem dX9_fewestForgotten_8 : decode cX9_fewestForgotten 8 = .ok (.iload_n 1, 1) := by decide +kernel
theorem dX9_fewestForgotten_9 : decode cX9_fewestForgotten 9 = .ok (.ishl, 1) := by decide +kernel
theorem dX9_fewestForgotten_10 : decode cX9_fewestForgotten 10 = .ok (.iconst (-1), 1) := by decide +kernel
theorem dX9_fewestForgotten_11 : decode cX9_fewestForgotten 11 = .ok (.ixor, 1) := by decide +kernel
theorem dX9_fewestForgotten_12 : decode cX9_fewestForgotten 12 = .ok (.iand, 1) := by decide +kernel
theorem dX9_fewestForgotten_13 : decode cX9_fewestForgotten 13 = .ok (.iconst 1, 1) := by decide +kernel
theorem dX9_fewestForgotten_14 : decode cX9_fewestForgotten 14 = .ok (.iload_n 2, 1) := by decide +kernel
theorem dX9_fewestForgotten_15 : decode cX9_fewestForgotten 15 = .ok (.ishl, 1) := by decide +kernel
theorem dX9_fewestForgotten_16 : decode cX9_fewestForgotten 16 = .ok (.iconst (-1), 1) := by decide +kernel
theorem dX9_fewestForgotten_17 : decode cX9_fewestForgotten 17 = .ok (.ixor, 1) := by decide +kernel
theorem dX9_fewestForgotten_18 : decode cX9_fewestForgotten 18 = .ok (.iand, 1) := by decide +kernel
theorem dX9_fewestForgotten_19 : decode cX9_fewestForgotten 19 = .ok (.istore_n 3, 1) := by decide +kernel
theorem dX9_fewestForgotten_20 : decode cX9_fewestForgotten 20 = .ok (.iload_n 3, 1) := by decide +kernel
theorem dX9_fewestForgotten_21 : decode cX9_fewestForgotten 21 = .ok (.istore 4, 2) := by decide +kernel
theorem dX9_fewestForgotten_23 : decode cX9_fewestForgotten 23 = .ok (.iconst 0, 1) := by decide +kernel
theorem dX9_fewestForgotten_24 : decode cX9_fewestForgotten 24 = .ok (.istore 5, 2) := by decide +kernel
theorem dX9_fewestForgotten_26 : decode cX9_fewestForgotten 26 = .ok (.iload 5, 2) := by decide +kernel
theorem dX9_fewestForgotten_28 : decode cX9_fewestForgotten 28 = .ok (.iload_n 3, 1) := by decide +kernel
theorem dX9_fewestForgotten_29 : decode cX9_fewestForgotten 29 = .ok (.if_icmp .ge 58, 3) := by decide +kernel
theorem dX9_fewestForgotten_32 : decode cX9_fewestForgotten 32 = .ok (.iload 5, 2) := by decide +kernel
theorem dX9_fewestForgotten_34 : decode cX9_fewestForgotten 34 = .ok (.invokestatic 102, 3) := by decide +kernel
theorem dX9_fewestForgotten_37 : decode cX9_fewestForgotten 37 = .ok (.iload 4, 2) := by decide +kernel
theorem dX9_fewestForgotten_39 : decode cX9_fewestForgotten 39 = .ok (.invokestatic 102, 3) := by decide +kernel
theorem dX9_fewestForgotten_42 : decode cX9_fewestForgotten 42 = .ok (.if_icmp .ge 7, 3) := by decide +kernel
theorem dX9_fewestForgotten_45 : decode cX9_fewestForgotten 45 = .ok (.iconst 1, 1) := by decide +kernel
theorem dX9_fewestForgotten_46 : decode cX9_fewestForgotten 46 = .ok (.goto 4, 3) := by decide +kernel
theorem dX9_fewestForgotten_49 : decode cX9_fewestForgotten 49 = .ok (.iconst 0, 1) := by decide +kernel
theorem dX9_fewestForgotten_50 : decode cX9_fewestForgotten 50 = .ok (.istore 6, 2) := by decide +kernel
theorem dX9_fewestForgotten_52 : decode cX9_fewestForgotten 52 = .ok (.iload 5, 2) := by decide +kernel
theorem dX9_fewestForgotten_54 : decode cX9_fewestForgotten 54 = .ok (.iload_n 3, 1) := by decide +kernel
theorem dX9_fewestForgotten_55 : decode cX9_fewestForgotten 55 = .ok (.iconst (-1), 1) := by decide +kernel
theorem dX9_fewestForgotten_56 : decode cX9_fewestForgotten 56 = .ok (.ixor, 1) := by decide +kernel
theorem dX9_fewestForgotten_57 : decode cX9_fewestForgotten 57 = .ok (.iand, 1) := by decide +kernel
theorem dX9_fewestForgotten_58 : decode cX9_fewestForgotten 58 = .ok (.ifCond .ne 23, 3) := by decide +kernel
theorem dX9_fewestForgotten_61 : decode cX9_fewestForgotten 61 = .ok (.iload 6, 2) := by decide +kernel
theorem dX9_fewestForgotten_63 : decode cX9_fewestForgotten 63 = .ok (.ifCond .eq 18, 3) := by decide +kernel
theorem dX9_fewestForgotten_66 : decode cX9_fewestForgotten 66 = .ok (.aload_n 0, 1) := by decide +kernel
theorem dX9_fewestForgotten_67 : decode cX9_fewestForgotten 67 = .ok (.iload_n 1, 1) := by decide +kernel
theorem dX9_fewestForgotten_68 : decode cX9_fewestForgotten 68 = .ok (.iload_n 2, 1) := by decide +kernel
theorem dX9_fewestForgotten_69 : decode cX9_fewestForgotten 69 = .ok (.iload 5, 2) := by decide +kernel
theorem dX9_fewestForgotten_71 : decode cX9_fewestForgotten 71 = .ok (.invokevirtual 135, 3) := by decide +kernel
theorem dX9_fewestForgotten_74 : decode cX9_fewestForgotten 74 = .ok (.ifCond .ne 7, 3) := by decide +kernel
theorem dX9_fewestForgotten_77 : decode cX9_fewestForgotten 77 = .ok (.iload 5, 2) := by decide +kernel
theorem dX9_fewestForgotten_79 : decode cX9_fewestForgotten 79 = .ok (.istore 4, 2) := by decide +kernel
theorem dX9_fewestForgotten_81 : decode cX9_fewestForgotten 81 = .ok (.iinc 5 1, 3) := by decide +kernel
theorem dX9_fewestForgotten_84 : decode cX9_fewestForgotten 84 = .ok (.goto (-58), 3) := by decide +kernel
theorem dX9_fewestForgotten_87 : decode cX9_fewestForgotten 87 = .ok (.aload_n 0, 1) := by decide +kernel
theorem dX9_fewestForgotten_88 : decode cX9_fewestForgotten 88 = .ok (.iload 4, 2) := by decide +kernel
theorem dX9_fewestForgotten_90 : decode cX9_fewestForgotten 90 = .ok (.putfield 22, 3) := by decide +kernel
theorem dX9_fewestForgotten_93 : decode cX9_fewestForgotten 93 = .ok (.iload 4, 2) := by decide +kernel
theorem dX9_fewestForgotten_95 : decode cX9_fewestForgotten 95 = .ok (.invokestatic 102, 3) := by decide +kernel
theorem dX9_fewestForgotten_98 : decode cX9_fewestForgotten 98 = .ok (.ireturn, 1) := by decide +kernel
theorem dX9_isLinked_0 : decode cX9_isLinked 0 = .ok (.iconst 1, 1) := by decide +kernel
theorem dX9_isLinked_1 : decode cX9_isLinked 1 = .ok (.iload_n 1, 1) := by decide +kernel
theorem dX9_isLinked_2 : decode cX9_isLinked 2 = .ok (.ishl, 1) := by decide +kernel
theorem dX9_isLinked_3 : decode cX9_isLinked 3 = .ok (.istore 4, 2) := by decide +kernel
theorem dX9_isLinked_5 : decode cX9_isLinked 5 = .ok (.iconst 1, 1) := by decide +kernel
theorem dX9_isLinked_6 : decode cX9_isLinked 6 = .ok (.istore 5, 2) := by decide +kernel
theorem dX9_isLinked_8 : decode cX9_isLinked 8 = .ok (.iload 5, 2) := by decide +kernel
theorem dX9_isLinked_10 : decode cX9_isLinked 10 = .ok (.aload_n 0, 1) := by decide +kernel
theorem dX9_isLinked_11 : decode cX9_isLinked 11 = .ok (.getfield 28, 3) := by decide +kernel
theorem dX9_isLinked_14 : decode cX9_isLinked 14 = .ok (.getfield 42, 3) := by decide +kernel
theorem dX9_isLinked_17 : decode cX9_isLinked 17 = .ok (.if_icmp .ge 21, 3) := by decide +kernel
theorem dX9_isLinked_20 : decode cX9_isLinked 20 = .ok (.aload_n 0, 1) := by decide +kernel
theorem dX9_isLinked_21 : decode cX9_isLinked 21 = .ok (.iload 4, 2) := by decide +kernel
theorem dX9_isLinked_23 : decode cX9_isLinked 23 = .ok (.invokevirtual 132, 3) := by decide +kernel
theorem dX9_isLinked_26 : decode cX9_isLinked 26 = .ok (.iload_n 3, 1) := by decide +kernel
theorem dX9_isLinked_27 : decode cX9_isLinked 27 = .ok (.iconst (-1), 1) := by decide +kernel
theorem dX9_isLinked_28 : decode cX9_isLinked 28 = .ok (.ixor, 1) := by decide +kernel
theorem dX9_isLinked_29 : decode cX9_isLinked 29 = .ok (.iand, 1) := by decide +kernel
theorem dX9_isLinked_30 : decode cX9_isLinked 30 = .ok (.istore 4, 2) := by decide +kernel
theorem dX9_isLinked_32 : decode cX9_isLinked 32 = .ok (.iinc 5 1, 3) := by decide +kernel
theorem dX9_isLinked_35 : decode cX9_isLinked 35 = .ok (.goto (-27), 3) := by decide +kernel
theorem dX9_isLinked_38 : decode cX9_isLinked 38 = .ok (.iload 4, 2) := by decide +kernel
theorem dX9_isLinked_40 : decode cX9_isLinked 40 = .ok (.iload_n 2, 1) := by decide +kernel
theorem dX9_isLinked_41 : decode cX9_isLinked 41 = .ok (.invokestatic 49, 3) := by decide +kernel
theorem dX9_isLinked_44 : decode cX9_isLinked 44 = .ok (.ireturn, 1) := by decide +kernel
theorem dX9_loneliest_0 : decode cX9_loneliest 0 = .ok (.iconst (-1), 1) := by decide +kernel
theorem dX9_loneliest_1 : decode cX9_loneliest 1 = .ok (.istore_n 1, 1) := by decide +kernel
theorem dX9_loneliest_2 : decode cX9_loneliest 2 = .ok (.bipush 7, 2) := by decide +kernel
theorem dX9_loneliest_4 : decode cX9_loneliest 4 = .ok (.istore_n 2, 1) := by decide +kernel
theorem dX9_loneliest_5 : decode cX9_loneliest 5 = .ok (.iconst 0, 1) := by decide +kernel
theorem dX9_loneliest_6 : decode cX9_loneliest 6 = .ok (.istore_n 3, 1) := by decide +kernel
theorem dX9_loneliest_7 : decode cX9_loneliest 7 = .ok (.iload_n 3, 1) := by decide +kernel
theorem dX9_loneliest_8 : decode cX9_loneliest 8 = .ok (.aload_n 0, 1) := by decide +kernel
theorem dX9_loneliest_9 : decode cX9_loneliest 9 = .ok (.getfield 28, 3) := by decide +kernel
theorem dX9_loneliest_12 : decode cX9_loneliest 12 = .ok (.getfield 42, 3) := by decide +kernel
theorem dX9_loneliest_15 : decode cX9_loneliest 15 = .ok (.if_icmp .ge 33, 3) := by decide +kernel
theorem dX9_loneliest_18 : decode cX9_loneliest 18 = .ok (.aload_n 0, 1) := by decide +kernel
theorem dX9_loneliest_19 : decode cX9_loneliest 19 = .ok (.getfield 32, 3) := by decide +kernel
theorem dX9_loneliest_22 : decode cX9_loneliest 22 = .ok (.iload_n 3, 1) := by decide +kernel
theorem dX9_loneliest_23 : decode cX9_loneliest 23 = .ok (.invokevirtual 129, 3) := by decide +kernel
theorem dX9_loneliest_26 : decode cX9_loneliest 26 = .ok (.invokestatic 102, 3) := by decide +kernel
theorem dX9_loneliest_29 : decode cX9_loneliest 29 = .ok (.istore 4, 2) := by decide +kernel
theorem dX9_loneliest_31 : decode cX9_loneliest 31 = .ok (.iload 4, 2) := by decide +kernel
theorem dX9_loneliest_33 : decode cX9_loneliest 33 = .ok (.iload_n 2, 1) := by decide +kernel
theorem dX9_loneliest_34 : decode cX9_loneliest 34 = .ok (.if_icmp .ge 8, 3) := by decide +kernel
theorem dX9_loneliest_37 : decode cX9_loneliest 37 = .ok (.iload 4, 2) := by decide +kernel
theorem dX9_loneliest_39 : decode cX9_loneliest 39 = .ok (.istore_n 2, 1) := by decide +kernel
theorem dX9_loneliest_40 : decode cX9_loneliest 40 = .ok (.iload_n 3, 1) := by decide +kernel
theorem dX9_loneliest_41 : decode cX9_loneliest 41 = .ok (.istore_n 1, 1) := by decide +kernel
theorem dX9_loneliest_42 : decode cX9_loneliest 42 = .ok (.iinc 3 1, 3) := by decide +kernel
theorem dX9_loneliest_45 : decode cX9_loneliest 45 = .ok (.goto (-38), 3) := by decide +kernel
theorem dX9_loneliest_48 : decode cX9_loneliest 48 = .ok (.iload_n 1, 1) := by decide +kernel
theorem dX9_loneliest_49 : decode cX9_loneliest 49 = .ok (.ireturn, 1) := by decide +kernel
