theorem dX7_init_0 : decode cX7_init 0 = .ok (.aload_n 0, 1) := by decide +kernel
theorem dX7_init_1 : decode cX7_init 1 = .ok (.invokespecial 3, 3) := by decide +kernel
theorem dX7_init_4 : decode cX7_init 4 = .ok (.aload_n 0, 1) := by decide +kernel
theorem dX7_init_5 : decode cX7_init 5 = .ok (.new 9, 3) := by decide +kernel
theorem dX7_init_8 : decode cX7_init 8 = .ok (.dup, 1) := by decide +kernel
theorem dX7_init_9 : decode cX7_init 9 = .ok (.invokespecial 11, 3) := by decide +kernel
theorem dX7_init_12 : decode cX7_init 12 = .ok (.putfield 12, 3) := by decide +kernel
theorem dX7_init_15 : decode cX7_init 15 = .ok (.aload_n 0, 1) := by decide +kernel
theorem dX7_init_16 : decode cX7_init 16 = .ok (.aload_n 1, 1) := by decide +kernel
theorem dX7_init_17 : decode cX7_init 17 = .ok (.putfield 18, 3) := by decide +kernel
theorem dX7_init_20 : decode cX7_init 20 = .ok (.aload_n 0, 1) := by decide +kernel
theorem dX7_init_21 : decode cX7_init 21 = .ok (.aload_n 2, 1) := by decide +kernel
theorem dX7_init_22 : decode cX7_init 22 = .ok (.putfield 22, 3) := by decide +kernel
theorem dX7_init_25 : decode cX7_init 25 = .ok (.return_, 1) := by decide +kernel
theorem dX7_readText_0 : decode cX7_readText 0 = .ok (.aload_n 0, 1) := by decide +kernel
theorem dX7_readText_1 : decode cX7_readText 1 = .ok (.getfield 12, 3) := by decide +kernel
theorem dX7_readText_4 : decode cX7_readText 4 = .ok (.invokevirtual 26, 3) := by decide +kernel
theorem dX7_readText_7 : decode cX7_readText 7 = .ok (.aload_n 0, 1) := by decide +kernel
theorem dX7_readText_8 : decode cX7_readText 8 = .ok (.getfield 18, 3) := by decide +kernel
theorem dX7_readText_11 : decode cX7_readText 11 = .ok (.sipush 200, 3) := by decide +kernel
theorem dX7_readText_14 : decode cX7_readText 14 = .ok (.invokevirtual 29, 3) := by decide +kernel
theorem dX7_readText_17 : decode cX7_readText 17 = .ok (.aload_n 0, 1) := by decide +kernel
theorem dX7_readText_18 : decode cX7_readText 18 = .ok (.iconst 1, 1) := by decide +kernel
theorem dX7_readText_19 : decode cX7_readText 19 = .ok (.invokevirtual 35, 3) := by decide +kernel
theorem dX7_readText_22 : decode cX7_readText 22 = .ok (.ifCond .eq 17, 3) := by decide +kernel
theorem dX7_readText_25 : decode cX7_readText 25 = .ok (.aload_n 0, 1) := by decide +kernel
theorem dX7_readText_26 : decode cX7_readText 26 = .ok (.getfield 18, 3) := by decide +kernel
theorem dX7_readText_29 : decode cX7_readText 29 = .ok (.invokevirtual 39, 3) := by decide +kernel
theorem dX7_readText_32 : decode cX7_readText 32 = .ok (.ifCond .eq 7, 3) := by decide +kernel
theorem dX7_readText_35 : decode cX7_readText 35 = .ok (.iconst 1, 1) := by decide +kernel
theorem dX7_readText_36 : decode cX7_readText 36 = .ok (.goto 4, 3) := by decide +kernel
theorem dX7_readText_39 : decode cX7_readText 39 = .ok (.iconst 0, 1) := by decide +kernel
theorem dX7_readText_40 : decode cX7_readText 40 = .ok (.ireturn, 1) := by decide +kernel
theorem dX7_readCond_0 : decode cX7_readCond 0 = .ok (.iconst 0, 1) := by decide +kernel
theorem dX7_readCond_1 : decode cX7_readCond 1 = .ok (.istore_n 2, 1) := by decide +kernel
theorem dX7_readCond_2 : decode cX7_readCond 2 = .ok (.iconst 0, 1) := by decide +kernel
theorem dX7_readCond_3 : decode cX7_readCond 3 = .ok (.istore_n 3, 1) := by decide +kernel
theorem dX7_readCond_4 : decode cX7_readCond 4 = .ok (.iconst 0, 1) := by decide +kernel
theorem dX7_readCond_5 : decode cX7_readCond 5 = .ok (.istore 4, 2) := by decide +kernel
theorem dX7_readCond_7 : decode cX7_readCond 7 = .ok (.iload 4, 2) := by decide +kernel
theorem dX7_readCond_9 : decode cX7_readCond 9 = .ok (.bipush 20, 2) := by decide +kernel
theorem dX7_readCond_11 : decode cX7_readCond 11 = .ok (.if_icmp .gt 110, 3) := by decide +kernel
theorem dX7_readCond_14 : decode cX7_readCond 14 = .ok (.aload_n 0, 1) := by decide +kernel
theorem dX7_readCond_15 : decode cX7_readCond 15 = .ok (.iload_n 1, 1) := by decide +kernel
theorem dX7_readCond_16 : decode cX7_readCond 16 = .ok (.invokevirtual 43, 3) := by decide +kernel
theorem dX7_readCond_19 : decode cX7_readCond 19 = .ok (.ifCond .ne 5, 3) := by decide +kernel
theorem dX7_readCond_22 : decode cX7_readCond 22 = .ok (.iconst 0, 1) := by decide +kernel
theorem dX7_readCond_23 : decode cX7_readCond 23 = .ok (.ireturn, 1) := by decide +kernel
theorem dX7_readCond_24 : decode cX7_readCond 24 = .ok (.iload_n 2, 1) := by decide +kernel
theorem dX7_readCond_25 : decode cX7_readCond 25 = .ok (.ifCond .eq 14, 3) := by decide +kernel
theorem dX7_readCond_28 : decode cX7_readCond 28 = .ok (.aload_n 0, 1) := by decide +kernel
theorem dX7_readCond_29 : decode cX7_readCond 29 = .ok (.getfield 12, 3) := by decide +kernel
theorem dX7_readCond_32 : decode cX7_readCond 32 = .ok (.bipush 14, 2) := by decide +kernel
theorem dX7_readCond_34 : decode cX7_readCond 34 = .ok (.iconst (-1), 1) := by decide +kernel
theorem dX7_readCond_35 : decode cX7_readCond 35 = .ok (.iconst (-1), 1) := by decide +kernel
theorem dX7_readCond_36 : decode cX7_readCond 36 = .ok (.invokevirtual 46, 3) := by decide +kernel
theorem dX7_readCond_39 : decode cX7_readCond 39 = .ok (.aload_n 0, 1) := by decide +kernel
theorem dX7_readCond_40 : decode cX7_readCond 40 = .ok (.getfield 18, 3) := by decide +kernel
theorem dX7_readCond_43 : decode cX7_readCond 43 = .ok (.getfield 50, 3) := by decide +kernel
theorem dX7_readCond_46 : decode cX7_readCond 46 = .ok (.bipush 14, 2) := by decide +kernel
theorem dX7_readCond_48 : decode cX7_readCond 48 = .ok (.if_icmp .ne 7, 3) := by decide +kernel
theorem dX7_readCond_51 : decode cX7_readCond 51 = .ok (.iconst 1, 1) := by decide +kernel
theorem dX7_readCond_52 : decode cX7_readCond 52 = .ok (.goto 4, 3) := by decide +kernel
theorem dX7_readCond_55 : decode cX7_readCond 55 = .ok (.iconst 0, 1) := by decide +kernel
theorem dX7_readCond_56 : decode cX7_readCond 56 = .ok (.istore_n 2, 1) := by decide +kernel
theorem dX7_readCond_57 : decode cX7_readCond 57 = .ok (.iload_n 2, 1) := by decide +kernel
theorem dX7_readCond_58 : decode cX7_readCond 58 = .ok (.ifCond .ne 18, 3) := by decide +kernel
theorem dX7_readCond_61 : decode cX7_readCond 61 = .ok (.iload_n 3, 1) := by decide +kernel
theorem dX7_readCond_62 : decode cX7_readCond 62 = .ok (.ifCond .eq 14, 3) := by decide +kernel
theorem dX7_readCond_65 : decode cX7_readCond 65 = .ok (.aload_n 0, 1) := by decide +kernel
theorem dX7_readCond_66 : decode cX7_readCond 66 = .ok (.getfield 12, 3) := by decide +kernel
theorem dX7_readCond_69 : decode cX7_readCond 69 = .ok (.bipush 13, 2) := by decide +kernel
theorem dX7_readCond_71 : decode cX7_readCond 71 = .ok (.iconst (-1), 1) := by decide +kernel
theorem dX7_readCond_72 : decode cX7_readCond 72 = .ok (.iconst (-1), 1) := by decide +kernel
theorem dX7_readCond_73 : decode cX7_readCond 73 = .ok (.invokevirtual 46, 3) := by decide +kernel
theorem dX7_readCond_76 : decode cX7_readCond 76 = .ok (.iload_n 2, 1) := by decide +kernel
theorem dX7_readCond_77 : decode cX7_readCond 77 = .ok (.ifCond .ne 17, 3) := by decide +kernel
theorem dX7_readCond_80 : decode cX7_readCond 80 = .ok (.aload_n 0, 1) := by decide +kernel
theorem dX7_readCond_81 : decode cX7_readCond 81 = .ok (.getfield 18, 3) := by decide +kernel
theorem dX7_readCond_84 : decode cX7_readCond 84 = .ok (.getfield 50, 3) := by decide +kernel
theorem dX7_readCond_87 : decode cX7_readCond 87 = .ok (.bipush 13, 2) := by decide +kernel
theorem dX7_readCond_89 : decode cX7_readCond 89 = .ok (.if_icmp .eq 5, 3) := by decide +kernel
theorem dX7_readCond_92 : decode cX7_readCond 92 = .ok (.iconst 1, 1) := by decide +kernel
theorem dX7_readCond_93 : decode cX7_readCond 93 = .ok (.ireturn, 1) := by decide +kernel
theorem dX7_readCond_94 : decode cX7_readCond 94 = .ok (.iload_n 3, 1) := by decide +kernel
theorem dX7_readCond_95 : decode cX7_readCond 95 = .ok (.ifCond .ne 7, 3) := by decide +kernel
theorem dX7_readCond_98 : decode cX7_readCond 98 = .ok (.iload_n 2, 1) := by decide +kernel
theorem dX7_readCond_99 : decode cX7_readCond 99 = .ok (.ifCond .ne 7, 3) := by decide +kernel
theorem dX7_readCond_102 : decode cX7_readCond 102 = .ok (.iconst 1, 1) := by decide +kernel
theorem dX7_readCond_103 : decode cX7_readCond 103 = .ok (.goto 4, 3) := by decide +kernel
theorem dX7_readCond_106 : decode cX7_readCond 106 = .ok (.iconst 0, 1) := by decide +kernel
theorem dX7_readCond_107 : decode cX7_readCond 107 = .ok (.istore_n 3, 1) := by decide +kernel
theorem dX7_readCond_108 : decode cX7_readCond 108 = .ok (.aload_n 0, 1) := by decide +kernel
theorem dX7_readCond_109 : decode cX7_readCond 109 = .ok (.getfield 18, 3) := by decide +kernel
theorem dX7_readCond_112 : decode cX7_readCond 112 = .ok (.invokevirtual 54, 3) := by decide +kernel
theorem dX7_readCond_115 : decode cX7_readCond 115 = .ok (.iinc 4 1, 3) := by decide +kernel
theorem dX7_readCond_118 : decode cX7_readCond 118 = .ok (.goto (-111), 3) := by decide +kernel
theorem dX7_readCond_121 : decode cX7_readCond 121 = .ok (.iconst 0, 1) := by decide +kernel
theorem dX7_readCond_122 : decode cX7_readCond 122 = .ok (.ireturn, 1) := by decide +kernel
theorem dX7_readOne_0 : decode cX7_readOne 0 = .ok (.aload_n 0, 1) := by decide +kernel
theorem dX7_readOne_1 : decode cX7_readOne 1 = .ok (.getfield 18, 3) := by decide +kernel
theorem dX7_readOne_4 : decode cX7_readOne 4 = .ok (.getfield 57, 3) := by decide +kernel
theorem dX7_readOne_7 : decode cX7_readOne 7 = .ok (.bipush 40, 2) := by decide +kernel
theorem dX7_readOne_9 : decode cX7_readOne 9 = .ok (.if_icmp .ne 7, 3) := by decide +kernel
theorem dX7_readOne_12 : decode cX7_readOne 12 = .ok (.iconst 1, 1) := by decide +kernel
theorem dX7_readOne_13 : decode cX7_readOne 13 = .ok (.goto 4, 3) := by decide +kernel
theorem dX7_readOne_16 : decode cX7_readOne 16 = .ok (.iconst 0, 1) := by decide +kernel
theorem dX7_readOne_17 : decode cX7_readOne 17 = .ok (.istore_n 2, 1) := by decide +kernel
theorem dX7_readOne_18 : decode cX7_readOne 18 = .ok (.aload_n 0, 1) := by decide +kernel
theorem dX7_readOne_19 : decode cX7_readOne 19 = .ok (.getfield 18, 3) := by decide +kernel
theorem dX7_readOne_22 : decode cX7_readOne 22 = .ok (.getfield 50, 3) := by decide +kernel
theorem dX7_readOne_25 : decode cX7_readOne 25 = .ok (.istore_n 3, 1) := by decide +kernel
theorem dX7_readOne_26 : decode cX7_readOne 26 = .ok (.iload_n 2, 1) := by decide +kernel
theorem dX7_readOne_27 : decode cX7_readOne 27 = .ok (.ifCond .ne 19, 3) := by decide +kernel
theorem dX7_readOne_30 : decode cX7_readOne 30 = .ok (.iload_n 3, 1) := by decide +kernel
theorem dX7_readOne_31 : decode cX7_readOne 31 = .ok (.invokestatic 60, 3) := by decide +kernel
theorem dX7_readOne_34 : decode cX7_readOne 34 = .ok (.ifCond .ne 12, 3) := by decide +kernel
theorem dX7_readOne_37 : decode cX7_readOne 37 = .ok (.aload_n 0, 1) := by decide +kernel
theorem dX7_readOne_38 : decode cX7_readOne 38 = .ok (.getfield 18, 3) := by decide +kernel
theorem dX7_readOne_41 : decode cX7_readOne 41 = .ok (.iconst 1, 1) := by decide +kernel
theorem dX7_readOne_42 : decode cX7_readOne 42 = .ok (.invokevirtual 63, 3) := by decide +kernel
theorem dX7_readOne_45 : decode cX7_readOne 45 = .ok (.ireturn, 1) := by decide +kernel
theorem dX7_readOne_46 : decode cX7_readOne 46 = .ok (.aload_n 0, 1) := by decide +kernel
theorem dX7_readOne_47 : decode cX7_readOne 47 = .ok (.getfield 12, 3) := by decide +kernel
theorem dX7_readOne_50 : decode cX7_readOne 50 = .ok (.getfield 66, 3) := by decide +kernel
theorem dX7_readOne_53 : decode cX7_readOne 53 = .ok (.bipush 20, 2) := by decide +kernel
theorem dX7_readOne_55 : decode cX7_readOne 55 = .ok (.if_icmp .ge 9, 3) := by decide +kernel
theorem dX7_readOne_58 : decode cX7_readOne 58 = .ok (.iload_n 1, 1) := by decide +kernel
theorem dX7_readOne_59 : decode cX7_readOne 59 = .ok (.bipush 8, 2) := by decide +kernel
theorem dX7_readOne_61 : decode cX7_readOne 61 = .ok (.if_icmp .le 12, 3) := by decide +kernel
theorem dX7_readOne_64 : decode cX7_readOne 64 = .ok (.aload_n 0, 1) := by decide +kernel
theorem dX7_readOne_65 : decode cX7_readOne 65 = .ok (.getfield 18, 3) := by decide +kernel
theorem dX7_readOne_68 : decode cX7_readOne 68 = .ok (.iconst 4, 1) := by decide +kernel
theorem dX7_readOne_69 : decode cX7_readOne 69 = .ok (.invokevirtual 63, 3) := by decide +kernel
theorem dX7_readOne_72 : decode cX7_readOne 72 = .ok (.ireturn, 1) := by decide +kernel
theorem dX7_readOne_73 : decode cX7_readOne 73 = .ok (.aload_n 0, 1) := by decide +kernel
theorem dX7_readOne_74 : decode cX7_readOne 74 = .ok (.getfield 12, 3) := by decide +kernel
theorem dX7_readOne_77 : decode cX7_readOne 77 = .ok (.dup, 1) := by decide +kernel
theorem dX7_readOne_78 : decode cX7_readOne 78 = .ok (.getfield 66, 3) := by decide +kernel
theorem dX7_readOne_81 : decode cX7_readOne 81 = .ok (.iconst 1, 1) := by decide +kernel
theorem dX7_readOne_82 : decode cX7_readOne 82 = .ok (.iadd, 1) := by decide +kernel
theorem dX7_readOne_83 : decode cX7_readOne 83 = .ok (.putfield 66, 3) := by decide +kernel
theorem dX7_readOne_86 : decode cX7_readOne 86 = .ok (.aload_n 0, 1) := by decide +kernel
theorem dX7_readOne_87 : decode cX7_readOne 87 = .ok (.getfield 18, 3) := by decide +kernel
theorem dX7_readOne_90 : decode cX7_readOne 90 = .ok (.invokevirtual 54, 3) := by decide +kernel
theorem dX7_readOne_93 : decode cX7_readOne 93 = .ok (.iload_n 2, 1) := by decide +kernel
theorem dX7_readOne_94 : decode cX7_readOne 94 = .ok (.ifCond .eq 31, 3) := by decide +kernel
theorem dX7_readOne_97 : decode cX7_readOne 97 = .ok (.aload_n 0, 1) := by decide +kernel
theorem dX7_readOne_98 : decode cX7_readOne 98 = .ok (.iload_n 1, 1) := by decide +kernel
theorem dX7_readOne_99 : decode cX7_readOne 99 = .ok (.iconst 1, 1) := by decide +kernel
theorem dX7_readOne_100 : decode cX7_readOne 100 = .ok (.iadd, 1) := by decide +kernel
theorem dX7_readOne_101 : decode cX7_readOne 101 = .ok (.invokevirtual 35, 3) := by decide +kernel
theorem dX7_readOne_104 : decode cX7_readOne 104 = .ok (.ifCond .eq 19, 3) := by decide +kernel
theorem dX7_readOne_107 : decode cX7_readOne 107 = .ok (.aload_n 0, 1) := by decide +kernel
theorem dX7_readOne_108 : decode cX7_readOne 108 = .ok (.getfield 18, 3) := by decide +kernel
theorem dX7_readOne_111 : decode cX7_readOne 111 = .ok (.bipush 41, 2) := by decide +kernel
theorem dX7_readOne_113 : decode cX7_readOne 113 = .ok (.invokevirtual 69, 3) := by decide +kernel
theorem dX7_readOne_116 : decode cX7_readOne 116 = .ok (.ifCond .eq 7, 3) := by decide +kernel
theorem dX7_readOne_119 : decode cX7_readOne 119 = .ok (.iconst 1, 1) := by decide +kernel
theorem dX7_readOne_120 : decode cX7_readOne 120 = .ok (.goto 4, 3) := by decide +kernel
theorem dX7_readOne_123 : decode cX7_readOne 123 = .ok (.iconst 0, 1) := by decide +kernel
theorem dX7_readOne_124 : decode cX7_readOne 124 = .ok (.ireturn, 1) := by decide +kernel
theorem dX7_readOne_125 : decode cX7_readOne 125 = .ok (.iload_n 3, 1) := by decide +kernel
theorem dX7_readOne_126 : decode cX7_readOne 126 = .ok (.bipush 15, 2) := by decide +kernel
theorem dX7_readOne_128 : decode cX7_readOne 128 = .ok (.if_icmp .eq 9, 3) := by decide +kernel
theorem dX7_readOne_131 : decode cX7_readOne 131 = .ok (.aload_n 0, 1) := by decide +kernel
theorem dX7_readOne_132 : decode cX7_readOne 132 = .ok (.iload_n 3, 1) := by decide +kernel
theorem dX7_readOne_133 : decode cX7_readOne 133 = .ok (.invokevirtual 72, 3) := by decide +kernel
theorem dX7_readOne_136 : decode cX7_readOne 136 = .ok (.ireturn, 1) := by decide +kernel
theorem dX7_readOne_137 : decode cX7_readOne 137 = .ok (.aload_n 0, 1) := by decide +kernel
theorem dX7_readOne_138 : decode cX7_readOne 138 = .ok (.iload_n 1, 1) := by decide +kernel
theorem dX7_readOne_139 : decode cX7_readOne 139 = .ok (.iconst 1, 1) := by decide +kernel
theorem dX7_readOne_140 : decode cX7_readOne 140 = .ok (.iadd, 1) := by decide +kernel
theorem dX7_readOne_141 : decode cX7_readOne 141 = .ok (.invokevirtual 43, 3) := by decide +kernel
theorem dX7_readOne_144 : decode cX7_readOne 144 = .ok (.ifCond .ne 5, 3) := by decide +kernel
theorem dX7_readOne_147 : decode cX7_readOne 147 = .ok (.iconst 0, 1) := by decide +kernel
theorem dX7_readOne_148 : decode cX7_readOne 148 = .ok (.ireturn, 1) := by decide +kernel
theorem dX7_readOne_149 : decode cX7_readOne 149 = .ok (.aload_n 0, 1) := by decide +kernel
theorem dX7_readOne_150 : decode cX7_readOne 150 = .ok (.getfield 12, 3) := by decide +kernel
theorem dX7_readOne_153 : decode cX7_readOne 153 = .ok (.bipush 15, 2) := by decide +kernel
theorem dX7_readOne_155 : decode cX7_readOne 155 = .ok (.iconst (-1), 1) := by decide +kernel
theorem dX7_readOne_156 : decode cX7_readOne 156 = .ok (.iconst (-1), 1) := by decide +kernel
theorem dX7_readOne_157 : decode cX7_readOne 157 = .ok (.invokevirtual 46, 3) := by decide +kernel
theorem dX7_readOne_160 : decode cX7_readOne 160 = .ok (.iconst 1, 1) := by decide +kernel
theorem dX7_readOne_161 : decode cX7_readOne 161 = .ok (.ireturn, 1) := by decide +kernel
theorem dX7_beginsOne_0 : decode cX7_beginsOne 0 = .ok (.iload_n 0, 1) := by decide +kernel
theorem dX7_beginsOne_1 : decode cX7_beginsOne 1 = .ok (.iconst 4, 1) := by decide +kernel
theorem dX7_beginsOne_2 : decode cX7_beginsOne 2 = .ok (.if_icmp .eq 20, 3) := by decide +kernel
theorem dX7_beginsOne_5 : decode cX7_beginsOne 5 = .ok (.iload_n 0, 1) := by decide +kernel
theorem dX7_beginsOne_6 : decode cX7_beginsOne 6 = .ok (.iconst 3, 1) := by decide +kernel
theorem dX7_beginsOne_7 : decode cX7_beginsOne 7 = .ok (.if_icmp .eq 15, 3) := by decide +kernel
theorem dX7_beginsOne_10 : decode cX7_beginsOne 10 = .ok (.iload_n 0, 1) := by decide +kernel
theorem dX7_beginsOne_11 : decode cX7_beginsOne 11 = .ok (.bipush 15, 2) := by decide +kernel
theorem dX7_beginsOne_13 : decode cX7_beginsOne 13 = .ok (.if_icmp .lt 13, 3) := by decide +kernel
theorem dX7_beginsOne_16 : decode cX7_beginsOne 16 = .ok (.iload_n 0, 1) := by decide +kernel
theorem dX7_beginsOne_17 : decode cX7_beginsOne 17 = .ok (.bipush 23, 2) := by decide +kernel
theorem dX7_beginsOne_19 : decode cX7_beginsOne 19 = .ok (.if_icmp .gt 7, 3) := by decide +kernel
theorem dX7_beginsOne_22 : decode cX7_beginsOne 22 = .ok (.iconst 1, 1) := by decide +kernel
theorem dX7_beginsOne_23 : decode cX7_beginsOne 23 = .ok (.goto 4, 3) := by decide +kernel
theorem dX7_beginsOne_26 : decode cX7_beginsOne 26 = .ok (.iconst 0, 1) := by decide +kernel
theorem dX7_beginsOne_27 : decode cX7_beginsOne 27 = .ok (.ireturn, 1) := by decide +kernel
theorem dX7_readPlain_0 : decode cX7_readPlain 0 = .ok (.iload_n 1, 1) := by decide +kernel
theorem dX7_readPlain_1 : decode cX7_readPlain 1 = .ok (.bipush 16, 2) := by decide +kernel
theorem dX7_readPlain_3 : decode cX7_readPlain 3 = .ok (.if_icmp .lt 21, 3) := by decide +kernel
theorem dX7_readPlain_6 : decode cX7_readPlain 6 = .ok (.iload_n 1, 1) := by decide +kernel
theorem dX7_readPlain_7 : decode cX7_readPlain 7 = .ok (.bipush 19, 2) := by decide +kernel
theorem dX7_readPlain_9 : decode cX7_readPlain 9 = .ok (.if_icmp .gt 15, 3) := by decide +kernel
theorem dX7_readPlain_12 : decode cX7_readPlain 12 = .ok (.aload_n 0, 1) := by decide +kernel
theorem dX7_readPlain_13 : decode cX7_readPlain 13 = .ok (.getfield 12, 3) := by decide +kernel
theorem dX7_readPlain_16 : decode cX7_readPlain 16 = .ok (.iload_n 1, 1) := by decide +kernel
theorem dX7_readPlain_17 : decode cX7_readPlain 17 = .ok (.iconst (-1), 1) := by decide +kernel
theorem dX7_readPlain_18 : decode cX7_readPlain 18 = .ok (.iconst (-1), 1) := by decide +kernel
theorem dX7_readPlain_19 : decode cX7_readPlain 19 = .ok (.invokevirtual 46, 3) := by decide +kernel
theorem dX7_readPlain_22 : decode cX7_readPlain 22 = .ok (.iconst 1, 1) := by decide +kernel
theorem dX7_readPlain_23 : decode cX7_readPlain 23 = .ok (.ireturn, 1) := by decide +kernel
theorem dX7_readPlain_24 : decode cX7_readPlain 24 = .ok (.iload_n 1, 1) := by decide +kernel
theorem dX7_readPlain_25 : decode cX7_readPlain 25 = .ok (.iconst 4, 1) := by decide +kernel
theorem dX7_readPlain_26 : decode cX7_readPlain 26 = .ok (.if_icmp .eq 8, 3) := by decide +kernel
theorem dX7_readPlain_29 : decode cX7_readPlain 29 = .ok (.iload_n 1, 1) := by decide +kernel
theorem dX7_readPlain_30 : decode cX7_readPlain 30 = .ok (.iconst 3, 1) := by decide +kernel
theorem dX7_readPlain_31 : decode cX7_readPlain 31 = .ok (.if_icmp .ne 53, 3) := by decide +kernel
theorem dX7_readPlain_34 : decode cX7_readPlain 34 = .ok (.iload_n 1, 1) := by decide +kernel
theorem dX7_readPlain_35 : decode cX7_readPlain 35 = .ok (.iconst 4, 1) := by decide +kernel
theorem dX7_readPlain_36 : decode cX7_readPlain 36 = .ok (.if_icmp .ne 17, 3) := by decide +kernel
theorem dX7_readPlain_39 : decode cX7_readPlain 39 = .ok (.aload_n 0, 1) := by decide +kernel
theorem dX7_readPlain_40 : decode cX7_readPlain 40 = .ok (.getfield 18, 3) := by decide +kernel
theorem dX7_readPlain_43 : decode cX7_readPlain 43 = .ok (.aload_n 0, 1) := by decide +kernel
theorem dX7_readPlain_44 : decode cX7_readPlain 44 = .ok (.getfield 22, 3) := by decide +kernel
theorem dX7_readPlain_47 : decode cX7_readPlain 47 = .ok (.invokevirtual 75, 3) := by decide +kernel
theorem dX7_readPlain_50 : decode cX7_readPlain 50 = .ok (.goto 14, 3) := by decide +kernel
theorem dX7_readPlain_53 : decode cX7_readPlain 53 = .ok (.aload_n 0, 1) := by decide +kernel
theorem dX7_readPlain_54 : decode cX7_readPlain 54 = .ok (.getfield 18, 3) := by decide +kernel
theorem dX7_readPlain_57 : decode cX7_readPlain 57 = .ok (.aload_n 0, 1) := by decide +kernel
theorem dX7_readPlain_58 : decode cX7_readPlain 58 = .ok (.getfield 22, 3) := by decide +kernel
theorem dX7_readPlain_61 : decode cX7_readPlain 61 = .ok (.invokevirtual 79, 3) := by decide +kernel
theorem dX7_readPlain_64 : decode cX7_readPlain 64 = .ok (.istore_n 2, 1) := by decide +kernel
theorem dX7_readPlain_65 : decode cX7_readPlain 65 = .ok (.iload_n 2, 1) := by decide +kernel
theorem dX7_readPlain_66 : decode cX7_readPlain 66 = .ok (.iconst (-1), 1) := by decide +kernel
theorem dX7_readPlain_67 : decode cX7_readPlain 67 = .ok (.if_icmp .ne 5, 3) := by decide +kernel
theorem dX7_readPlain_70 : decode cX7_readPlain 70 = .ok (.iconst 0, 1) := by decide +kernel
theorem dX7_readPlain_71 : decode cX7_readPlain 71 = .ok (.ireturn, 1) := by decide +kernel
theorem dX7_readPlain_72 : decode cX7_readPlain 72 = .ok (.aload_n 0, 1) := by decide +kernel
theorem dX7_readPlain_73 : decode cX7_readPlain 73 = .ok (.getfield 12, 3) := by decide +kernel
theorem dX7_readPlain_76 : decode cX7_readPlain 76 = .ok (.iload_n 1, 1) := by decide +kernel
theorem dX7_readPlain_77 : decode cX7_readPlain 77 = .ok (.iconst (-1), 1) := by decide +kernel
theorem dX7_readPlain_78 : decode cX7_readPlain 78 = .ok (.iload_n 2, 1) := by decide +kernel
theorem dX7_readPlain_79 : decode cX7_readPlain 79 = .ok (.invokevirtual 46, 3) := by decide +kernel
theorem dX7_readPlain_82 : decode cX7_readPlain 82 = .ok (.iconst 1, 1) := by decide +kernel
theorem dX7_readPlain_83 : decode cX7_readPlain 83 = .ok (.ireturn, 1) := by decide +kernel
theorem dX7_readPlain_84 : decode cX7_readPlain 84 = .ok (.aload_n 0, 1) := by decide +kernel
theorem dX7_readPlain_85 : decode cX7_readPlain 85 = .ok (.getfield 18, 3) := by decide +kernel
theorem dX7_readPlain_88 : decode cX7_readPlain 88 = .ok (.getfield 57, 3) := by decide +kernel
theorem dX7_readPlain_91 : decode cX7_readPlain 91 = .ok (.istore_n 2, 1) := by decide +kernel
theorem dX7_readPlain_92 : decode cX7_readPlain 92 = .ok (.iload_n 2, 1) := by decide +kernel
theorem dX7_readPlain_93 : decode cX7_readPlain 93 = .ok (.bipush 60, 2) := by decide +kernel
theorem dX7_readPlain_95 : decode cX7_readPlain 95 = .ok (.if_icmp .eq 24, 3) := by decide +kernel
theorem dX7_readPlain_98 : decode cX7_readPlain 98 = .ok (.iload_n 2, 1) := by decide +kernel
theorem dX7_readPlain_99 : decode cX7_readPlain 99 = .ok (.bipush 61, 2) := by decide +kernel
theorem dX7_readPlain_101 : decode cX7_readPlain 101 = .ok (.if_icmp .eq 18, 3) := by decide +kernel
theorem dX7_readPlain_104 : decode cX7_readPlain 104 = .ok (.iload_n 2, 1) := by decide +kernel
theorem dX7_readPlain_105 : decode cX7_readPlain 105 = .ok (.bipush 62, 2) := by decide +kernel
theorem dX7_readPlain_107 : decode cX7_readPlain 107 = .ok (.if_icmp .eq 12, 3) := by decide +kernel
theorem dX7_readPlain_110 : decode cX7_readPlain 110 = .ok (.aload_n 0, 1) := by decide +kernel
theorem dX7_readPlain_111 : decode cX7_readPlain 111 = .ok (.getfield 18, 3) := by decide +kernel
theorem dX7_readPlain_114 : decode cX7_readPlain 114 = .ok (.iconst 1, 1) := by decide +kernel
theorem dX7_readPlain_115 : decode cX7_readPlain 115 = .ok (.invokevirtual 63, 3) := by decide +kernel
theorem dX7_readPlain_118 : decode cX7_readPlain 118 = .ok (.ireturn, 1) := by decide +kernel
theorem dX7_readPlain_119 : decode cX7_readPlain 119 = .ok (.aload_n 0, 1) := by decide +kernel
theorem dX7_readPlain_120 : decode cX7_readPlain 120 = .ok (.getfield 18, 3) := by decide +kernel
theorem dX7_readPlain_123 : decode cX7_readPlain 123 = .ok (.invokevirtual 54, 3) := by decide +kernel
theorem dX7_readPlain_126 : decode cX7_readPlain 126 = .ok (.aload_n 0, 1) := by decide +kernel
theorem dX7_readPlain_127 : decode cX7_readPlain 127 = .ok (.getfield 18, 3) := by decide +kernel
theorem dX7_readPlain_130 : decode cX7_readPlain 130 = .ok (.iconst 0, 1) := by decide +kernel
theorem dX7_readPlain_131 : decode cX7_readPlain 131 = .ok (.sipush 999, 3) := by decide +kernel
theorem dX7_readPlain_134 : decode cX7_readPlain 134 = .ok (.invokevirtual 82, 3) := by decide +kernel
theorem dX7_readPlain_137 : decode cX7_readPlain 137 = .ok (.istore_n 3, 1) := by decide +kernel
theorem dX7_readPlain_138 : decode cX7_readPlain 138 = .ok (.iload_n 3, 1) := by decide +kernel
theorem dX7_readPlain_139 : decode cX7_readPlain 139 = .ok (.iconst (-1), 1) := by decide +kernel
theorem dX7_readPlain_140 : decode cX7_readPlain 140 = .ok (.if_icmp .ne 5, 3) := by decide +kernel
theorem dX7_readPlain_143 : decode cX7_readPlain 143 = .ok (.iconst 0, 1) := by decide +kernel
theorem dX7_readPlain_144 : decode cX7_readPlain 144 = .ok (.ireturn, 1) := by decide +kernel
theorem dX7_readPlain_145 : decode cX7_readPlain 145 = .ok (.aload_n 0, 1) := by decide +kernel
theorem dX7_readPlain_146 : decode cX7_readPlain 146 = .ok (.getfield 12, 3) := by decide +kernel
theorem dX7_readPlain_149 : decode cX7_readPlain 149 = .ok (.iload_n 1, 1) := by decide +kernel
theorem dX7_readPlain_150 : decode cX7_readPlain 150 = .ok (.iload_n 2, 1) := by decide +kernel
theorem dX7_readPlain_151 : decode cX7_readPlain 151 = .ok (.iload_n 3, 1) := by decide +kernel
theorem dX7_readPlain_152 : decode cX7_readPlain 152 = .ok (.invokevirtual 46, 3) := by decide +kernel
theorem dX7_readPlain_155 : decode cX7_readPlain 155 = .ok (.iconst 1, 1) := by decide +kernel
theorem dX7_readPlain_156 : decode cX7_readPlain 156 = .ok (.ireturn, 1) := by decide +kernel
