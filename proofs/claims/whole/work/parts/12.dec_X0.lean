theorem dX0_init_0 : decode cX0_init 0 = .ok (.aload_n 0, 1) := by decide +kernel
theorem dX0_init_1 : decode cX0_init 1 = .ok (.invokespecial 3, 3) := by decide +kernel
theorem dX0_init_4 : decode cX0_init 4 = .ok (.aload_n 0, 1) := by decide +kernel
theorem dX0_init_5 : decode cX0_init 5 = .ok (.bipush 40, 2) := by decide +kernel
theorem dX0_init_7 : decode cX0_init 7 = .ok (.newarray .int, 2) := by decide +kernel
theorem dX0_init_9 : decode cX0_init 9 = .ok (.putfield 11, 3) := by decide +kernel
theorem dX0_init_12 : decode cX0_init 12 = .ok (.aload_n 0, 1) := by decide +kernel
theorem dX0_init_13 : decode cX0_init 13 = .ok (.bipush 40, 2) := by decide +kernel
theorem dX0_init_15 : decode cX0_init 15 = .ok (.newarray .int, 2) := by decide +kernel
theorem dX0_init_17 : decode cX0_init 17 = .ok (.putfield 15, 3) := by decide +kernel
theorem dX0_init_20 : decode cX0_init 20 = .ok (.aload_n 0, 1) := by decide +kernel
theorem dX0_init_21 : decode cX0_init 21 = .ok (.bipush 40, 2) := by decide +kernel
theorem dX0_init_23 : decode cX0_init 23 = .ok (.newarray .int, 2) := by decide +kernel
theorem dX0_init_25 : decode cX0_init 25 = .ok (.putfield 18, 3) := by decide +kernel
theorem dX0_init_28 : decode cX0_init 28 = .ok (.aload_n 0, 1) := by decide +kernel
theorem dX0_init_29 : decode cX0_init 29 = .ok (.bipush 40, 2) := by decide +kernel
theorem dX0_init_31 : decode cX0_init 31 = .ok (.newarray .int, 2) := by decide +kernel
theorem dX0_init_33 : decode cX0_init 33 = .ok (.putfield 21, 3) := by decide +kernel
theorem dX0_init_36 : decode cX0_init 36 = .ok (.aload_n 0, 1) := by decide +kernel
theorem dX0_init_37 : decode cX0_init 37 = .ok (.aload_n 1, 1) := by decide +kernel
theorem dX0_init_38 : decode cX0_init 38 = .ok (.putfield 24, 3) := by decide +kernel
theorem dX0_init_41 : decode cX0_init 41 = .ok (.aload_n 0, 1) := by decide +kernel
theorem dX0_init_42 : decode cX0_init 42 = .ok (.aload_n 2, 1) := by decide +kernel
theorem dX0_init_43 : decode cX0_init 43 = .ok (.putfield 28, 3) := by decide +kernel
theorem dX0_init_46 : decode cX0_init 46 = .ok (.return_, 1) := by decide +kernel
theorem dX0_readText_0 : decode cX0_readText 0 = .ok (.aload_n 0, 1) := by decide +kernel
theorem dX0_readText_1 : decode cX0_readText 1 = .ok (.iconst 0, 1) := by decide +kernel
theorem dX0_readText_2 : decode cX0_readText 2 = .ok (.putfield 32, 3) := by decide +kernel
theorem dX0_readText_5 : decode cX0_readText 5 = .ok (.aload_n 0, 1) := by decide +kernel
theorem dX0_readText_6 : decode cX0_readText 6 = .ok (.getfield 24, 3) := by decide +kernel
theorem dX0_readText_9 : decode cX0_readText 9 = .ok (.sipush 400, 3) := by decide +kernel
theorem dX0_readText_12 : decode cX0_readText 12 = .ok (.invokevirtual 36, 3) := by decide +kernel
theorem dX0_readText_15 : decode cX0_readText 15 = .ok (.iconst 0, 1) := by decide +kernel
theorem dX0_readText_16 : decode cX0_readText 16 = .ok (.istore_n 1, 1) := by decide +kernel
theorem dX0_readText_17 : decode cX0_readText 17 = .ok (.iload_n 1, 1) := by decide +kernel
theorem dX0_readText_18 : decode cX0_readText 18 = .ok (.bipush 40, 2) := by decide +kernel
theorem dX0_readText_20 : decode cX0_readText 20 = .ok (.if_icmp .gt 50, 3) := by decide +kernel
theorem dX0_readText_23 : decode cX0_readText 23 = .ok (.aload_n 0, 1) := by decide +kernel
theorem dX0_readText_24 : decode cX0_readText 24 = .ok (.getfield 24, 3) := by decide +kernel
theorem dX0_readText_27 : decode cX0_readText 27 = .ok (.invokevirtual 42, 3) := by decide +kernel
theorem dX0_readText_30 : decode cX0_readText 30 = .ok (.ifCond .ne 40, 3) := by decide +kernel
theorem dX0_readText_33 : decode cX0_readText 33 = .ok (.aload_n 0, 1) := by decide +kernel
theorem dX0_readText_34 : decode cX0_readText 34 = .ok (.invokevirtual 46, 3) := by decide +kernel
theorem dX0_readText_37 : decode cX0_readText 37 = .ok (.ifCond .eq 15, 3) := by decide +kernel
theorem dX0_readText_40 : decode cX0_readText 40 = .ok (.aload_n 0, 1) := by decide +kernel
theorem dX0_readText_41 : decode cX0_readText 41 = .ok (.getfield 24, 3) := by decide +kernel
theorem dX0_readText_44 : decode cX0_readText 44 = .ok (.bipush 59, 2) := by decide +kernel
theorem dX0_readText_46 : decode cX0_readText 46 = .ok (.invokevirtual 49, 3) := by decide +kernel
theorem dX0_readText_49 : decode cX0_readText 49 = .ok (.ifCond .ne 5, 3) := by decide +kernel
theorem dX0_readText_52 : decode cX0_readText 52 = .ok (.iconst 0, 1) := by decide +kernel
theorem dX0_readText_53 : decode cX0_readText 53 = .ok (.ireturn, 1) := by decide +kernel
theorem dX0_readText_54 : decode cX0_readText 54 = .ok (.aload_n 0, 1) := by decide +kernel
theorem dX0_readText_55 : decode cX0_readText 55 = .ok (.dup, 1) := by decide +kernel
theorem dX0_readText_56 : decode cX0_readText 56 = .ok (.getfield 32, 3) := by decide +kernel
theorem dX0_readText_59 : decode cX0_readText 59 = .ok (.iconst 1, 1) := by decide +kernel
theorem dX0_readText_60 : decode cX0_readText 60 = .ok (.iadd, 1) := by decide +kernel
theorem dX0_readText_61 : decode cX0_readText 61 = .ok (.putfield 32, 3) := by decide +kernel
theorem dX0_readText_64 : decode cX0_readText 64 = .ok (.iinc 1 1, 3) := by decide +kernel
theorem dX0_readText_67 : decode cX0_readText 67 = .ok (.goto (-50), 3) := by decide +kernel
theorem dX0_readText_70 : decode cX0_readText 70 = .ok (.aload_n 0, 1) := by decide +kernel
theorem dX0_readText_71 : decode cX0_readText 71 = .ok (.getfield 24, 3) := by decide +kernel
theorem dX0_readText_74 : decode cX0_readText 74 = .ok (.invokevirtual 53, 3) := by decide +kernel
theorem dX0_readText_77 : decode cX0_readText 77 = .ok (.ireturn, 1) := by decide +kernel
theorem dX0_readLine_0 : decode cX0_readLine 0 = .ok (.aload_n 0, 1) := by decide +kernel
theorem dX0_readLine_1 : decode cX0_readLine 1 = .ok (.getfield 24, 3) := by decide +kernel
theorem dX0_readLine_4 : decode cX0_readLine 4 = .ok (.getfield 56, 3) := by decide +kernel
theorem dX0_readLine_7 : decode cX0_readLine 7 = .ok (.bipush 12, 2) := by decide +kernel
theorem dX0_readLine_9 : decode cX0_readLine 9 = .ok (.if_icmp .ne 7, 3) := by decide +kernel
theorem dX0_readLine_12 : decode cX0_readLine 12 = .ok (.iconst 1, 1) := by decide +kernel
theorem dX0_readLine_13 : decode cX0_readLine 13 = .ok (.goto 4, 3) := by decide +kernel
theorem dX0_readLine_16 : decode cX0_readLine 16 = .ok (.iconst 0, 1) := by decide +kernel
theorem dX0_readLine_17 : decode cX0_readLine 17 = .ok (.istore_n 1, 1) := by decide +kernel
theorem dX0_readLine_18 : decode cX0_readLine 18 = .ok (.iload_n 1, 1) := by decide +kernel
theorem dX0_readLine_19 : decode cX0_readLine 19 = .ok (.ifCond .eq 7, 3) := by decide +kernel
theorem dX0_readLine_22 : decode cX0_readLine 22 = .ok (.iconst (-1), 1) := by decide +kernel
theorem dX0_readLine_23 : decode cX0_readLine 23 = .ok (.goto 14, 3) := by decide +kernel
theorem dX0_readLine_26 : decode cX0_readLine 26 = .ok (.aload_n 0, 1) := by decide +kernel
theorem dX0_readLine_27 : decode cX0_readLine 27 = .ok (.getfield 24, 3) := by decide +kernel
theorem dX0_readLine_30 : decode cX0_readLine 30 = .ok (.aload_n 0, 1) := by decide +kernel
theorem dX0_readLine_31 : decode cX0_readLine 31 = .ok (.getfield 28, 3) := by decide +kernel
theorem dX0_readLine_34 : decode cX0_readLine 34 = .ok (.invokevirtual 58, 3) := by decide +kernel
theorem dX0_readLine_37 : decode cX0_readLine 37 = .ok (.istore_n 2, 1) := by decide +kernel
theorem dX0_readLine_38 : decode cX0_readLine 38 = .ok (.iload_n 1, 1) := by decide +kernel
theorem dX0_readLine_39 : decode cX0_readLine 39 = .ok (.ifCond .ne 10, 3) := by decide +kernel
theorem dX0_readLine_42 : decode cX0_readLine 42 = .ok (.iload_n 2, 1) := by decide +kernel
theorem dX0_readLine_43 : decode cX0_readLine 43 = .ok (.iconst (-1), 1) := by decide +kernel
theorem dX0_readLine_44 : decode cX0_readLine 44 = .ok (.if_icmp .ne 5, 3) := by decide +kernel
theorem dX0_readLine_47 : decode cX0_readLine 47 = .ok (.iconst 0, 1) := by decide +kernel
theorem dX0_readLine_48 : decode cX0_readLine 48 = .ok (.ireturn, 1) := by decide +kernel
theorem dX0_readLine_49 : decode cX0_readLine 49 = .ok (.aload_n 0, 1) := by decide +kernel
theorem dX0_readLine_50 : decode cX0_readLine 50 = .ok (.getfield 32, 3) := by decide +kernel
theorem dX0_readLine_53 : decode cX0_readLine 53 = .ok (.bipush 40, 2) := by decide +kernel
theorem dX0_readLine_55 : decode cX0_readLine 55 = .ok (.if_icmp .lt 12, 3) := by decide +kernel
theorem dX0_readLine_58 : decode cX0_readLine 58 = .ok (.aload_n 0, 1) := by decide +kernel
theorem dX0_readLine_59 : decode cX0_readLine 59 = .ok (.getfield 24, 3) := by decide +kernel
theorem dX0_readLine_62 : decode cX0_readLine 62 = .ok (.iconst 4, 1) := by decide +kernel
theorem dX0_readLine_63 : decode cX0_readLine 63 = .ok (.invokevirtual 62, 3) := by decide +kernel
theorem dX0_readLine_66 : decode cX0_readLine 66 = .ok (.ireturn, 1) := by decide +kernel
theorem dX0_readLine_67 : decode cX0_readLine 67 = .ok (.aload_n 0, 1) := by decide +kernel
theorem dX0_readLine_68 : decode cX0_readLine 68 = .ok (.getfield 24, 3) := by decide +kernel
theorem dX0_readLine_71 : decode cX0_readLine 71 = .ok (.invokevirtual 65, 3) := by decide +kernel
theorem dX0_readLine_74 : decode cX0_readLine 74 = .ok (.iload_n 1, 1) := by decide +kernel
theorem dX0_readLine_75 : decode cX0_readLine 75 = .ok (.ifCond .eq 52, 3) := by decide +kernel
theorem dX0_readLine_78 : decode cX0_readLine 78 = .ok (.aload_n 0, 1) := by decide +kernel
theorem dX0_readLine_79 : decode cX0_readLine 79 = .ok (.getfield 11, 3) := by decide +kernel
theorem dX0_readLine_82 : decode cX0_readLine 82 = .ok (.aload_n 0, 1) := by decide +kernel
theorem dX0_readLine_83 : decode cX0_readLine 83 = .ok (.getfield 32, 3) := by decide +kernel
theorem dX0_readLine_86 : decode cX0_readLine 86 = .ok (.bipush 12, 2) := by decide +kernel
theorem dX0_readLine_88 : decode cX0_readLine 88 = .ok (.iastore, 1) := by decide +kernel
theorem dX0_readLine_89 : decode cX0_readLine 89 = .ok (.aload_n 0, 1) := by decide +kernel
theorem dX0_readLine_90 : decode cX0_readLine 90 = .ok (.getfield 15, 3) := by decide +kernel
theorem dX0_readLine_93 : decode cX0_readLine 93 = .ok (.aload_n 0, 1) := by decide +kernel
theorem dX0_readLine_94 : decode cX0_readLine 94 = .ok (.getfield 32, 3) := by decide +kernel
theorem dX0_readLine_97 : decode cX0_readLine 97 = .ok (.aload_n 0, 1) := by decide +kernel
theorem dX0_readLine_98 : decode cX0_readLine 98 = .ok (.getfield 24, 3) := by decide +kernel
theorem dX0_readLine_101 : decode cX0_readLine 101 = .ok (.iconst 1, 1) := by decide +kernel
theorem dX0_readLine_102 : decode cX0_readLine 102 = .ok (.bipush 60, 2) := by decide +kernel
theorem dX0_readLine_104 : decode cX0_readLine 104 = .ok (.invokevirtual 68, 3) := by decide +kernel
theorem dX0_readLine_107 : decode cX0_readLine 107 = .ok (.iastore, 1) := by decide +kernel
theorem dX0_readLine_108 : decode cX0_readLine 108 = .ok (.aload_n 0, 1) := by decide +kernel
theorem dX0_readLine_109 : decode cX0_readLine 109 = .ok (.getfield 15, 3) := by decide +kernel
theorem dX0_readLine_112 : decode cX0_readLine 112 = .ok (.aload_n 0, 1) := by decide +kernel
theorem dX0_readLine_113 : decode cX0_readLine 113 = .ok (.getfield 32, 3) := by decide +kernel
theorem dX0_readLine_116 : decode cX0_readLine 116 = .ok (.iaload, 1) := by decide +kernel
theorem dX0_readLine_117 : decode cX0_readLine 117 = .ok (.iconst (-1), 1) := by decide +kernel
theorem dX0_readLine_118 : decode cX0_readLine 118 = .ok (.if_icmp .eq 7, 3) := by decide +kernel
theorem dX0_readLine_121 : decode cX0_readLine 121 = .ok (.iconst 1, 1) := by decide +kernel
theorem dX0_readLine_122 : decode cX0_readLine 122 = .ok (.goto 4, 3) := by decide +kernel
theorem dX0_readLine_125 : decode cX0_readLine 125 = .ok (.iconst 0, 1) := by decide +kernel
theorem dX0_readLine_126 : decode cX0_readLine 126 = .ok (.ireturn, 1) := by decide +kernel
theorem dX0_readLine_127 : decode cX0_readLine 127 = .ok (.aload_n 0, 1) := by decide +kernel
theorem dX0_readLine_128 : decode cX0_readLine 128 = .ok (.getfield 15, 3) := by decide +kernel
theorem dX0_readLine_131 : decode cX0_readLine 131 = .ok (.aload_n 0, 1) := by decide +kernel
theorem dX0_readLine_132 : decode cX0_readLine 132 = .ok (.getfield 32, 3) := by decide +kernel
theorem dX0_readLine_135 : decode cX0_readLine 135 = .ok (.iload_n 2, 1) := by decide +kernel
theorem dX0_readLine_136 : decode cX0_readLine 136 = .ok (.iastore, 1) := by decide +kernel
theorem dX0_readLine_137 : decode cX0_readLine 137 = .ok (.aload_n 0, 1) := by decide +kernel
theorem dX0_readLine_138 : decode cX0_readLine 138 = .ok (.invokevirtual 72, 3) := by decide +kernel
theorem dX0_readLine_141 : decode cX0_readLine 141 = .ok (.ireturn, 1) := by decide +kernel
theorem dX0_readAct_0 : decode cX0_readAct 0 = .ok (.aload_n 0, 1) := by decide +kernel
theorem dX0_readAct_1 : decode cX0_readAct 1 = .ok (.getfield 24, 3) := by decide +kernel
theorem dX0_readAct_4 : decode cX0_readAct 4 = .ok (.getfield 56, 3) := by decide +kernel
theorem dX0_readAct_7 : decode cX0_readAct 7 = .ok (.istore_n 1, 1) := by decide +kernel
theorem dX0_readAct_8 : decode cX0_readAct 8 = .ok (.iload_n 1, 1) := by decide +kernel
theorem dX0_readAct_9 : decode cX0_readAct 9 = .ok (.bipush 9, 2) := by decide +kernel
theorem dX0_readAct_11 : decode cX0_readAct 11 = .ok (.if_icmp .eq 30, 3) := by decide +kernel
theorem dX0_readAct_14 : decode cX0_readAct 14 = .ok (.iload_n 1, 1) := by decide +kernel
theorem dX0_readAct_15 : decode cX0_readAct 15 = .ok (.bipush 10, 2) := by decide +kernel
theorem dX0_readAct_17 : decode cX0_readAct 17 = .ok (.if_icmp .eq 24, 3) := by decide +kernel
theorem dX0_readAct_20 : decode cX0_readAct 20 = .ok (.iload_n 1, 1) := by decide +kernel
theorem dX0_readAct_21 : decode cX0_readAct 21 = .ok (.bipush 7, 2) := by decide +kernel
theorem dX0_readAct_23 : decode cX0_readAct 23 = .ok (.if_icmp .eq 18, 3) := by decide +kernel
theorem dX0_readAct_26 : decode cX0_readAct 26 = .ok (.iload_n 1, 1) := by decide +kernel
theorem dX0_readAct_27 : decode cX0_readAct 27 = .ok (.bipush 11, 2) := by decide +kernel
theorem dX0_readAct_29 : decode cX0_readAct 29 = .ok (.if_icmp .eq 12, 3) := by decide +kernel
theorem dX0_readAct_32 : decode cX0_readAct 32 = .ok (.aload_n 0, 1) := by decide +kernel
theorem dX0_readAct_33 : decode cX0_readAct 33 = .ok (.getfield 24, 3) := by decide +kernel
theorem dX0_readAct_36 : decode cX0_readAct 36 = .ok (.iconst 1, 1) := by decide +kernel
theorem dX0_readAct_37 : decode cX0_readAct 37 = .ok (.invokevirtual 62, 3) := by decide +kernel
theorem dX0_readAct_40 : decode cX0_readAct 40 = .ok (.ireturn, 1) := by decide +kernel
theorem dX0_readAct_41 : decode cX0_readAct 41 = .ok (.aload_n 0, 1) := by decide +kernel
theorem dX0_readAct_42 : decode cX0_readAct 42 = .ok (.getfield 11, 3) := by decide +kernel
theorem dX0_readAct_45 : decode cX0_readAct 45 = .ok (.aload_n 0, 1) := by decide +kernel
theorem dX0_readAct_46 : decode cX0_readAct 46 = .ok (.getfield 32, 3) := by decide +kernel
theorem dX0_readAct_49 : decode cX0_readAct 49 = .ok (.iload_n 1, 1) := by decide +kernel
theorem dX0_readAct_50 : decode cX0_readAct 50 = .ok (.iastore, 1) := by decide +kernel
theorem dX0_readAct_51 : decode cX0_readAct 51 = .ok (.aload_n 0, 1) := by decide +kernel
theorem dX0_readAct_52 : decode cX0_readAct 52 = .ok (.getfield 24, 3) := by decide +kernel
theorem dX0_readAct_55 : decode cX0_readAct 55 = .ok (.invokevirtual 65, 3) := by decide +kernel
theorem dX0_readAct_58 : decode cX0_readAct 58 = .ok (.iload_n 1, 1) := by decide +kernel
theorem dX0_readAct_59 : decode cX0_readAct 59 = .ok (.bipush 7, 2) := by decide +kernel
theorem dX0_readAct_61 : decode cX0_readAct 61 = .ok (.if_icmp .ne 5, 3) := by decide +kernel
theorem dX0_readAct_64 : decode cX0_readAct 64 = .ok (.iconst 1, 1) := by decide +kernel
theorem dX0_readAct_65 : decode cX0_readAct 65 = .ok (.ireturn, 1) := by decide +kernel
theorem dX0_readAct_66 : decode cX0_readAct 66 = .ok (.aload_n 0, 1) := by decide +kernel
theorem dX0_readAct_67 : decode cX0_readAct 67 = .ok (.getfield 18, 3) := by decide +kernel
theorem dX0_readAct_70 : decode cX0_readAct 70 = .ok (.aload_n 0, 1) := by decide +kernel
theorem dX0_readAct_71 : decode cX0_readAct 71 = .ok (.getfield 32, 3) := by decide +kernel
theorem dX0_readAct_74 : decode cX0_readAct 74 = .ok (.iload_n 1, 1) := by decide +kernel
theorem dX0_readAct_75 : decode cX0_readAct 75 = .ok (.bipush 9, 2) := by decide +kernel
theorem dX0_readAct_77 : decode cX0_readAct 77 = .ok (.if_icmp .ne 17, 3) := by decide +kernel
theorem dX0_readAct_80 : decode cX0_readAct 80 = .ok (.aload_n 0, 1) := by decide +kernel
theorem dX0_readAct_81 : decode cX0_readAct 81 = .ok (.getfield 24, 3) := by decide +kernel
theorem dX0_readAct_84 : decode cX0_readAct 84 = .ok (.aload_n 0, 1) := by decide +kernel
theorem dX0_readAct_85 : decode cX0_readAct 85 = .ok (.getfield 28, 3) := by decide +kernel
theorem dX0_readAct_88 : decode cX0_readAct 88 = .ok (.invokevirtual 75, 3) := by decide +kernel
theorem dX0_readAct_91 : decode cX0_readAct 91 = .ok (.goto 14, 3) := by decide +kernel
theorem dX0_readAct_94 : decode cX0_readAct 94 = .ok (.aload_n 0, 1) := by decide +kernel
theorem dX0_readAct_95 : decode cX0_readAct 95 = .ok (.getfield 24, 3) := by decide +kernel
theorem dX0_readAct_98 : decode cX0_readAct 98 = .ok (.aload_n 0, 1) := by decide +kernel
theorem dX0_readAct_99 : decode cX0_readAct 99 = .ok (.getfield 28, 3) := by decide +kernel
theorem dX0_readAct_102 : decode cX0_readAct 102 = .ok (.invokevirtual 78, 3) := by decide +kernel
theorem dX0_readAct_105 : decode cX0_readAct 105 = .ok (.iastore, 1) := by decide +kernel
theorem dX0_readAct_106 : decode cX0_readAct 106 = .ok (.aload_n 0, 1) := by decide +kernel
theorem dX0_readAct_107 : decode cX0_readAct 107 = .ok (.getfield 18, 3) := by decide +kernel
theorem dX0_readAct_110 : decode cX0_readAct 110 = .ok (.aload_n 0, 1) := by decide +kernel
theorem dX0_readAct_111 : decode cX0_readAct 111 = .ok (.getfield 32, 3) := by decide +kernel
theorem dX0_readAct_114 : decode cX0_readAct 114 = .ok (.iaload, 1) := by decide +kernel
theorem dX0_readAct_115 : decode cX0_readAct 115 = .ok (.iconst (-1), 1) := by decide +kernel
theorem dX0_readAct_116 : decode cX0_readAct 116 = .ok (.if_icmp .ne 5, 3) := by decide +kernel
theorem dX0_readAct_119 : decode cX0_readAct 119 = .ok (.iconst 0, 1) := by decide +kernel
theorem dX0_readAct_120 : decode cX0_readAct 120 = .ok (.ireturn, 1) := by decide +kernel
theorem dX0_readAct_121 : decode cX0_readAct 121 = .ok (.iload_n 1, 1) := by decide +kernel
theorem dX0_readAct_122 : decode cX0_readAct 122 = .ok (.bipush 10, 2) := by decide +kernel
theorem dX0_readAct_124 : decode cX0_readAct 124 = .ok (.if_icmp .ne 5, 3) := by decide +kernel
theorem dX0_readAct_127 : decode cX0_readAct 127 = .ok (.iconst 1, 1) := by decide +kernel
theorem dX0_readAct_128 : decode cX0_readAct 128 = .ok (.ireturn, 1) := by decide +kernel
theorem dX0_readAct_129 : decode cX0_readAct 129 = .ok (.aload_n 0, 1) := by decide +kernel
theorem dX0_readAct_130 : decode cX0_readAct 130 = .ok (.getfield 21, 3) := by decide +kernel
theorem dX0_readAct_133 : decode cX0_readAct 133 = .ok (.aload_n 0, 1) := by decide +kernel
theorem dX0_readAct_134 : decode cX0_readAct 134 = .ok (.getfield 32, 3) := by decide +kernel
theorem dX0_readAct_137 : decode cX0_readAct 137 = .ok (.aload_n 0, 1) := by decide +kernel
theorem dX0_readAct_138 : decode cX0_readAct 138 = .ok (.getfield 24, 3) := by decide +kernel
theorem dX0_readAct_141 : decode cX0_readAct 141 = .ok (.aload_n 0, 1) := by decide +kernel
theorem dX0_readAct_142 : decode cX0_readAct 142 = .ok (.getfield 28, 3) := by decide +kernel
theorem dX0_readAct_145 : decode cX0_readAct 145 = .ok (.invokevirtual 78, 3) := by decide +kernel
theorem dX0_readAct_148 : decode cX0_readAct 148 = .ok (.iastore, 1) := by decide +kernel
theorem dX0_readAct_149 : decode cX0_readAct 149 = .ok (.aload_n 0, 1) := by decide +kernel
theorem dX0_readAct_150 : decode cX0_readAct 150 = .ok (.getfield 21, 3) := by decide +kernel
theorem dX0_readAct_153 : decode cX0_readAct 153 = .ok (.aload_n 0, 1) := by decide +kernel
theorem dX0_readAct_154 : decode cX0_readAct 154 = .ok (.getfield 32, 3) := by decide +kernel
theorem dX0_readAct_157 : decode cX0_readAct 157 = .ok (.iaload, 1) := by decide +kernel
theorem dX0_readAct_158 : decode cX0_readAct 158 = .ok (.iconst (-1), 1) := by decide +kernel
theorem dX0_readAct_159 : decode cX0_readAct 159 = .ok (.if_icmp .eq 7, 3) := by decide +kernel
theorem dX0_readAct_162 : decode cX0_readAct 162 = .ok (.iconst 1, 1) := by decide +kernel
theorem dX0_readAct_163 : decode cX0_readAct 163 = .ok (.goto 4, 3) := by decide +kernel
theorem dX0_readAct_166 : decode cX0_readAct 166 = .ok (.iconst 0, 1) := by decide +kernel
theorem dX0_readAct_167 : decode cX0_readAct 167 = .ok (.ireturn, 1) := by decide +kernel
theorem dX0_judge_0 : decode cX0_judge 0 = .ok (.aload_n 0, 1) := by decide +kernel
theorem dX0_judge_1 : decode cX0_judge 1 = .ok (.iconst 1, 1) := by decide +kernel
theorem dX0_judge_2 : decode cX0_judge 2 = .ok (.putfield 81, 3) := by decide +kernel
theorem dX0_judge_5 : decode cX0_judge 5 = .ok (.aload_n 0, 1) := by decide +kernel
theorem dX0_judge_6 : decode cX0_judge 6 = .ok (.iconst 0, 1) := by decide +kernel
theorem dX0_judge_7 : decode cX0_judge 7 = .ok (.putfield 85, 3) := by decide +kernel
theorem dX0_judge_10 : decode cX0_judge 10 = .ok (.aload_n 0, 1) := by decide +kernel
theorem dX0_judge_11 : decode cX0_judge 11 = .ok (.iconst 0, 1) := by decide +kernel
theorem dX0_judge_12 : decode cX0_judge 12 = .ok (.putfield 88, 3) := by decide +kernel
theorem dX0_judge_15 : decode cX0_judge 15 = .ok (.aload_n 0, 1) := by decide +kernel
theorem dX0_judge_16 : decode cX0_judge 16 = .ok (.getfield 85, 3) := by decide +kernel
theorem dX0_judge_19 : decode cX0_judge 19 = .ok (.ifCond .ne 47, 3) := by decide +kernel
theorem dX0_judge_22 : decode cX0_judge 22 = .ok (.aload_n 0, 1) := by decide +kernel
theorem dX0_judge_23 : decode cX0_judge 23 = .ok (.getfield 88, 3) := by decide +kernel
theorem dX0_judge_26 : decode cX0_judge 26 = .ok (.aload_n 0, 1) := by decide +kernel
theorem dX0_judge_27 : decode cX0_judge 27 = .ok (.getfield 32, 3) := by decide +kernel
theorem dX0_judge_30 : decode cX0_judge 30 = .ok (.if_icmp .ge 36, 3) := by decide +kernel
theorem dX0_judge_33 : decode cX0_judge 33 = .ok (.aload_n 0, 1) := by decide +kernel
theorem dX0_judge_34 : decode cX0_judge 34 = .ok (.aload_n 0, 1) := by decide +kernel
theorem dX0_judge_35 : decode cX0_judge 35 = .ok (.aload_n 1, 1) := by decide +kernel
theorem dX0_judge_36 : decode cX0_judge 36 = .ok (.aload_n 0, 1) := by decide +kernel
theorem dX0_judge_37 : decode cX0_judge 37 = .ok (.getfield 88, 3) := by decide +kernel
theorem dX0_judge_40 : decode cX0_judge 40 = .ok (.invokevirtual 91, 3) := by decide +kernel
theorem dX0_judge_43 : decode cX0_judge 43 = .ok (.putfield 85, 3) := by decide +kernel
theorem dX0_judge_46 : decode cX0_judge 46 = .ok (.aload_n 0, 1) := by decide +kernel
theorem dX0_judge_47 : decode cX0_judge 47 = .ok (.getfield 85, 3) := by decide +kernel
theorem dX0_judge_50 : decode cX0_judge 50 = .ok (.ifCond .ne (-35), 3) := by decide +kernel
theorem dX0_judge_53 : decode cX0_judge 53 = .ok (.aload_n 0, 1) := by decide +kernel
theorem dX0_judge_54 : decode cX0_judge 54 = .ok (.dup, 1) := by decide +kernel
theorem dX0_judge_55 : decode cX0_judge 55 = .ok (.getfield 88, 3) := by decide +kernel
theorem dX0_judge_58 : decode cX0_judge 58 = .ok (.iconst 1, 1) := by decide +kernel
theorem dX0_judge_59 : decode cX0_judge 59 = .ok (.iadd, 1) := by decide +kernel
theorem dX0_judge_60 : decode cX0_judge 60 = .ok (.putfield 88, 3) := by decide +kernel
theorem dX0_judge_63 : decode cX0_judge 63 = .ok (.goto (-48), 3) := by decide +kernel
theorem dX0_judge_66 : decode cX0_judge 66 = .ok (.aload_n 0, 1) := by decide +kernel
theorem dX0_judge_67 : decode cX0_judge 67 = .ok (.aload_n 1, 1) := by decide +kernel
theorem dX0_judge_68 : decode cX0_judge 68 = .ok (.getfield 95, 3) := by decide +kernel
theorem dX0_judge_71 : decode cX0_judge 71 = .ok (.putfield 100, 3) := by decide +kernel
theorem dX0_judge_74 : decode cX0_judge 74 = .ok (.aload_n 0, 1) := by decide +kernel
theorem dX0_judge_75 : decode cX0_judge 75 = .ok (.aload_n 1, 1) := by decide +kernel
theorem dX0_judge_76 : decode cX0_judge 76 = .ok (.invokevirtual 103, 3) := by decide +kernel
theorem dX0_judge_79 : decode cX0_judge 79 = .ok (.putfield 107, 3) := by decide +kernel
theorem dX0_judge_82 : decode cX0_judge 82 = .ok (.return_, 1) := by decide +kernel
theorem dX0_liveLine_0 : decode cX0_liveLine 0 = .ok (.aload_n 0, 1) := by decide +kernel
theorem dX0_liveLine_1 : decode cX0_liveLine 1 = .ok (.getfield 11, 3) := by decide +kernel
theorem dX0_liveLine_4 : decode cX0_liveLine 4 = .ok (.iload_n 2, 1) := by decide +kernel
theorem dX0_liveLine_5 : decode cX0_liveLine 5 = .ok (.iaload, 1) := by decide +kernel
theorem dX0_liveLine_6 : decode cX0_liveLine 6 = .ok (.tableswitch 108 7 11 #[74, 108, 34, 57, 85], 34) := by decide +kernel
theorem dX0_liveLine_40 : decode cX0_liveLine 40 = .ok (.aload_n 1, 1) := by decide +kernel
theorem dX0_liveLine_41 : decode cX0_liveLine 41 = .ok (.aload_n 0, 1) := by decide +kernel
theorem dX0_liveLine_42 : decode cX0_liveLine 42 = .ok (.getfield 15, 3) := by decide +kernel
theorem dX0_liveLine_45 : decode cX0_liveLine 45 = .ok (.iload_n 2, 1) := by decide +kernel
theorem dX0_liveLine_46 : decode cX0_liveLine 46 = .ok (.iaload, 1) := by decide +kernel
theorem dX0_liveLine_47 : decode cX0_liveLine 47 = .ok (.aload_n 0, 1) := by decide +kernel
theorem dX0_liveLine_48 : decode cX0_liveLine 48 = .ok (.getfield 18, 3) := by decide +kernel
theorem dX0_liveLine_51 : decode cX0_liveLine 51 = .ok (.iload_n 2, 1) := by decide +kernel
theorem dX0_liveLine_52 : decode cX0_liveLine 52 = .ok (.iaload, 1) := by decide +kernel
theorem dX0_liveLine_53 : decode cX0_liveLine 53 = .ok (.aload_n 0, 1) := by decide +kernel
theorem dX0_liveLine_54 : decode cX0_liveLine 54 = .ok (.getfield 21, 3) := by decide +kernel
theorem dX0_liveLine_57 : decode cX0_liveLine 57 = .ok (.iload_n 2, 1) := by decide +kernel
theorem dX0_liveLine_58 : decode cX0_liveLine 58 = .ok (.iaload, 1) := by decide +kernel
theorem dX0_liveLine_59 : decode cX0_liveLine 59 = .ok (.invokestatic 110, 3) := by decide +kernel
theorem dX0_liveLine_62 : decode cX0_liveLine 62 = .ok (.ireturn, 1) := by decide +kernel
theorem dX0_liveLine_63 : decode cX0_liveLine 63 = .ok (.aload_n 1, 1) := by decide +kernel
theorem dX0_liveLine_64 : decode cX0_liveLine 64 = .ok (.aload_n 0, 1) := by decide +kernel
theorem dX0_liveLine_65 : decode cX0_liveLine 65 = .ok (.getfield 15, 3) := by decide +kernel
theorem dX0_liveLine_68 : decode cX0_liveLine 68 = .ok (.iload_n 2, 1) := by decide +kernel
theorem dX0_liveLine_69 : decode cX0_liveLine 69 = .ok (.iaload, 1) := by decide +kernel
theorem dX0_liveLine_70 : decode cX0_liveLine 70 = .ok (.aload_n 0, 1) := by decide +kernel
theorem dX0_liveLine_71 : decode cX0_liveLine 71 = .ok (.getfield 18, 3) := by decide +kernel
theorem dX0_liveLine_74 : decode cX0_liveLine 74 = .ok (.iload_n 2, 1) := by decide +kernel
theorem dX0_liveLine_75 : decode cX0_liveLine 75 = .ok (.iaload, 1) := by decide +kernel
theorem dX0_liveLine_76 : decode cX0_liveLine 76 = .ok (.invokestatic 114, 3) := by decide +kernel
theorem dX0_liveLine_79 : decode cX0_liveLine 79 = .ok (.ireturn, 1) := by decide +kernel
theorem dX0_liveLine_80 : decode cX0_liveLine 80 = .ok (.aload_n 1, 1) := by decide +kernel
theorem dX0_liveLine_81 : decode cX0_liveLine 81 = .ok (.aload_n 0, 1) := by decide +kernel
theorem dX0_liveLine_82 : decode cX0_liveLine 82 = .ok (.getfield 15, 3) := by decide +kernel
theorem dX0_liveLine_85 : decode cX0_liveLine 85 = .ok (.iload_n 2, 1) := by decide +kernel
theorem dX0_liveLine_86 : decode cX0_liveLine 86 = .ok (.iaload, 1) := by decide +kernel
theorem dX0_liveLine_87 : decode cX0_liveLine 87 = .ok (.invokestatic 118, 3) := by decide +kernel
theorem dX0_liveLine_90 : decode cX0_liveLine 90 = .ok (.ireturn, 1) := by decide +kernel
theorem dX0_liveLine_91 : decode cX0_liveLine 91 = .ok (.aload_n 1, 1) := by decide +kernel
theorem dX0_liveLine_92 : decode cX0_liveLine 92 = .ok (.aload_n 0, 1) := by decide +kernel
theorem dX0_liveLine_93 : decode cX0_liveLine 93 = .ok (.getfield 15, 3) := by decide +kernel
theorem dX0_liveLine_96 : decode cX0_liveLine 96 = .ok (.iload_n 2, 1) := by decide +kernel
theorem dX0_liveLine_97 : decode cX0_liveLine 97 = .ok (.iaload, 1) := by decide +kernel
theorem dX0_liveLine_98 : decode cX0_liveLine 98 = .ok (.aload_n 0, 1) := by decide +kernel
theorem dX0_liveLine_99 : decode cX0_liveLine 99 = .ok (.getfield 18, 3) := by decide +kernel
theorem dX0_liveLine_102 : decode cX0_liveLine 102 = .ok (.iload_n 2, 1) := by decide +kernel
theorem dX0_liveLine_103 : decode cX0_liveLine 103 = .ok (.iaload, 1) := by decide +kernel
theorem dX0_liveLine_104 : decode cX0_liveLine 104 = .ok (.aload_n 0, 1) := by decide +kernel
theorem dX0_liveLine_105 : decode cX0_liveLine 105 = .ok (.getfield 21, 3) := by decide +kernel
theorem dX0_liveLine_108 : decode cX0_liveLine 108 = .ok (.iload_n 2, 1) := by decide +kernel
theorem dX0_liveLine_109 : decode cX0_liveLine 109 = .ok (.iaload, 1) := by decide +kernel
theorem dX0_liveLine_110 : decode cX0_liveLine 110 = .ok (.invokestatic 121, 3) := by decide +kernel
theorem dX0_liveLine_113 : decode cX0_liveLine 113 = .ok (.ireturn, 1) := by decide +kernel
theorem dX0_liveLine_114 : decode cX0_liveLine 114 = .ok (.aload_n 1, 1) := by decide +kernel
theorem dX0_liveLine_115 : decode cX0_liveLine 115 = .ok (.aload_n 0, 1) := by decide +kernel
theorem dX0_liveLine_116 : decode cX0_liveLine 116 = .ok (.getfield 15, 3) := by decide +kernel
theorem dX0_liveLine_119 : decode cX0_liveLine 119 = .ok (.iload_n 2, 1) := by decide +kernel
theorem dX0_liveLine_120 : decode cX0_liveLine 120 = .ok (.iaload, 1) := by decide +kernel
theorem dX0_liveLine_121 : decode cX0_liveLine 121 = .ok (.invokestatic 124, 3) := by decide +kernel
theorem dX0_liveLine_124 : decode cX0_liveLine 124 = .ok (.ireturn, 1) := by decide +kernel
theorem dX0_liveBuy_0 : decode cX0_liveBuy 0 = .ok (.aload_n 0, 1) := by decide +kernel
theorem dX0_liveBuy_1 : decode cX0_liveBuy 1 = .ok (.iload_n 1, 1) := by decide +kernel
theorem dX0_liveBuy_2 : decode cX0_liveBuy 2 = .ok (.iload_n 2, 1) := by decide +kernel
theorem dX0_liveBuy_3 : decode cX0_liveBuy 3 = .ok (.iload_n 3, 1) := by decide +kernel
theorem dX0_liveBuy_4 : decode cX0_liveBuy 4 = .ok (.invokevirtual 127, 3) := by decide +kernel
theorem dX0_liveBuy_7 : decode cX0_liveBuy 7 = .ok (.istore 4, 2) := by decide +kernel
theorem dX0_liveBuy_9 : decode cX0_liveBuy 9 = .ok (.iload 4, 2) := by decide +kernel
theorem dX0_liveBuy_11 : decode cX0_liveBuy 11 = .ok (.ifCond .ne 10, 3) := by decide +kernel
theorem dX0_liveBuy_14 : decode cX0_liveBuy 14 = .ok (.aload_n 0, 1) := by decide +kernel
theorem dX0_liveBuy_15 : decode cX0_liveBuy 15 = .ok (.iload_n 1, 1) := by decide +kernel
theorem dX0_liveBuy_16 : decode cX0_liveBuy 16 = .ok (.iload_n 2, 1) := by decide +kernel
theorem dX0_liveBuy_17 : decode cX0_liveBuy 17 = .ok (.iload_n 3, 1) := by decide +kernel
theorem dX0_liveBuy_18 : decode cX0_liveBuy 18 = .ok (.invokevirtual 131, 3) := by decide +kernel
theorem dX0_liveBuy_21 : decode cX0_liveBuy 21 = .ok (.iload 4, 2) := by decide +kernel
theorem dX0_liveBuy_23 : decode cX0_liveBuy 23 = .ok (.ireturn, 1) := by decide +kernel
theorem dX0_liveNod_0 : decode cX0_liveNod 0 = .ok (.aload_n 0, 1) := by decide +kernel
theorem dX0_liveNod_1 : decode cX0_liveNod 1 = .ok (.iload_n 1, 1) := by decide +kernel
theorem dX0_liveNod_2 : decode cX0_liveNod 2 = .ok (.iload_n 2, 1) := by decide +kernel
theorem dX0_liveNod_3 : decode cX0_liveNod 3 = .ok (.invokevirtual 135, 3) := by decide +kernel
theorem dX0_liveNod_6 : decode cX0_liveNod 6 = .ok (.istore_n 3, 1) := by decide +kernel
theorem dX0_liveNod_7 : decode cX0_liveNod 7 = .ok (.iload_n 3, 1) := by decide +kernel
theorem dX0_liveNod_8 : decode cX0_liveNod 8 = .ok (.ifCond .ne 11, 3) := by decide +kernel
theorem dX0_liveNod_11 : decode cX0_liveNod 11 = .ok (.aload_n 0, 1) := by decide +kernel
theorem dX0_liveNod_12 : decode cX0_liveNod 12 = .ok (.iload_n 1, 1) := by decide +kernel
theorem dX0_liveNod_13 : decode cX0_liveNod 13 = .ok (.iload_n 2, 1) := by decide +kernel
theorem dX0_liveNod_14 : decode cX0_liveNod 14 = .ok (.invokevirtual 138, 3) := by decide +kernel
theorem dX0_liveNod_17 : decode cX0_liveNod 17 = .ok (.iconst 0, 1) := by decide +kernel
theorem dX0_liveNod_18 : decode cX0_liveNod 18 = .ok (.ireturn, 1) := by decide +kernel
theorem dX0_liveNod_19 : decode cX0_liveNod 19 = .ok (.bipush 10, 2) := by decide +kernel
theorem dX0_liveNod_21 : decode cX0_liveNod 21 = .ok (.iload_n 3, 1) := by decide +kernel
theorem dX0_liveNod_22 : decode cX0_liveNod 22 = .ok (.iadd, 1) := by decide +kernel
theorem dX0_liveNod_23 : decode cX0_liveNod 23 = .ok (.ireturn, 1) := by decide +kernel
theorem dX0_liveVeil_0 : decode cX0_liveVeil 0 = .ok (.aload_n 0, 1) := by decide +kernel
theorem dX0_liveVeil_1 : decode cX0_liveVeil 1 = .ok (.iload_n 1, 1) := by decide +kernel
theorem dX0_liveVeil_2 : decode cX0_liveVeil 2 = .ok (.invokevirtual 142, 3) := by decide +kernel
theorem dX0_liveVeil_5 : decode cX0_liveVeil 5 = .ok (.istore_n 2, 1) := by decide +kernel
theorem dX0_liveVeil_6 : decode cX0_liveVeil 6 = .ok (.iload_n 2, 1) := by decide +kernel
theorem dX0_liveVeil_7 : decode cX0_liveVeil 7 = .ok (.ifCond .ne 10, 3) := by decide +kernel
theorem dX0_liveVeil_10 : decode cX0_liveVeil 10 = .ok (.aload_n 0, 1) := by decide +kernel
theorem dX0_liveVeil_11 : decode cX0_liveVeil 11 = .ok (.iload_n 1, 1) := by decide +kernel
theorem dX0_liveVeil_12 : decode cX0_liveVeil 12 = .ok (.invokevirtual 146, 3) := by decide +kernel
theorem dX0_liveVeil_15 : decode cX0_liveVeil 15 = .ok (.iconst 0, 1) := by decide +kernel
theorem dX0_liveVeil_16 : decode cX0_liveVeil 16 = .ok (.ireturn, 1) := by decide +kernel
theorem dX0_liveVeil_17 : decode cX0_liveVeil 17 = .ok (.bipush 20, 2) := by decide +kernel
theorem dX0_liveVeil_19 : decode cX0_liveVeil 19 = .ok (.iload_n 2, 1) := by decide +kernel
theorem dX0_liveVeil_20 : decode cX0_liveVeil 20 = .ok (.iadd, 1) := by decide +kernel
theorem dX0_liveVeil_21 : decode cX0_liveVeil 21 = .ok (.ireturn, 1) := by decide +kernel
theorem dX0_liveTell_0 : decode cX0_liveTell 0 = .ok (.aload_n 0, 1) := by decide +kernel
theorem dX0_liveTell_1 : decode cX0_liveTell 1 = .ok (.iload_n 1, 1) := by decide +kernel
theorem dX0_liveTell_2 : decode cX0_liveTell 2 = .ok (.iload_n 2, 1) := by decide +kernel
theorem dX0_liveTell_3 : decode cX0_liveTell 3 = .ok (.iload_n 3, 1) := by decide +kernel
theorem dX0_liveTell_4 : decode cX0_liveTell 4 = .ok (.invokevirtual 149, 3) := by decide +kernel
theorem dX0_liveTell_7 : decode cX0_liveTell 7 = .ok (.istore 4, 2) := by decide +kernel
theorem dX0_liveTell_9 : decode cX0_liveTell 9 = .ok (.iload 4, 2) := by decide +kernel
theorem dX0_liveTell_11 : decode cX0_liveTell 11 = .ok (.ifCond .ne 11, 3) := by decide +kernel
theorem dX0_liveTell_14 : decode cX0_liveTell 14 = .ok (.aload_n 0, 1) := by decide +kernel
theorem dX0_liveTell_15 : decode cX0_liveTell 15 = .ok (.iload_n 2, 1) := by decide +kernel
theorem dX0_liveTell_16 : decode cX0_liveTell 16 = .ok (.iload_n 3, 1) := by decide +kernel
theorem dX0_liveTell_17 : decode cX0_liveTell 17 = .ok (.invokevirtual 152, 3) := by decide +kernel
theorem dX0_liveTell_20 : decode cX0_liveTell 20 = .ok (.iconst 0, 1) := by decide +kernel
theorem dX0_liveTell_21 : decode cX0_liveTell 21 = .ok (.ireturn, 1) := by decide +kernel
theorem dX0_liveTell_22 : decode cX0_liveTell 22 = .ok (.bipush 30, 2) := by decide +kernel
theorem dX0_liveTell_24 : decode cX0_liveTell 24 = .ok (.iload 4, 2) := by decide +kernel
theorem dX0_liveTell_26 : decode cX0_liveTell 26 = .ok (.iadd, 1) := by decide +kernel
theorem dX0_liveTell_27 : decode cX0_liveTell 27 = .ok (.ireturn, 1) := by decide +kernel
theorem dX0_liveDays_0 : decode cX0_liveDays 0 = .ok (.iload_n 1, 1) := by decide +kernel
theorem dX0_liveDays_1 : decode cX0_liveDays 1 = .ok (.sipush 400, 3) := by decide +kernel
theorem dX0_liveDays_4 : decode cX0_liveDays 4 = .ok (.aload_n 0, 1) := by decide +kernel
theorem dX0_liveDays_5 : decode cX0_liveDays 5 = .ok (.getfield 95, 3) := by decide +kernel
theorem dX0_liveDays_8 : decode cX0_liveDays 8 = .ok (.isub, 1) := by decide +kernel
theorem dX0_liveDays_9 : decode cX0_liveDays 9 = .ok (.if_icmp .le 6, 3) := by decide +kernel
theorem dX0_liveDays_12 : decode cX0_liveDays 12 = .ok (.bipush 41, 2) := by decide +kernel
theorem dX0_liveDays_14 : decode cX0_liveDays 14 = .ok (.ireturn, 1) := by decide +kernel
theorem dX0_liveDays_15 : decode cX0_liveDays 15 = .ok (.aload_n 0, 1) := by decide +kernel
theorem dX0_liveDays_16 : decode cX0_liveDays 16 = .ok (.iload_n 1, 1) := by decide +kernel
theorem dX0_liveDays_17 : decode cX0_liveDays 17 = .ok (.invokevirtual 155, 3) := by decide +kernel
theorem dX0_liveDays_20 : decode cX0_liveDays 20 = .ok (.pop, 1) := by decide +kernel
theorem dX0_liveDays_21 : decode cX0_liveDays 21 = .ok (.iconst 0, 1) := by decide +kernel
theorem dX0_liveDays_22 : decode cX0_liveDays 22 = .ok (.ireturn, 1) := by decide +kernel
