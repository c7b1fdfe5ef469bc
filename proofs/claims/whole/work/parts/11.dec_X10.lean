theorem dX10_init_0 : decode cX10_init 0 = .ok (.aload_n 0, 1) := by decide +kernel
theorem dX10_init_1 : decode cX10_init 1 = .ok (.invokespecial 1, 3) := by decide +kernel
theorem dX10_init_4 : decode cX10_init 4 = .ok (.aload_n 0, 1) := by decide +kernel
theorem dX10_init_5 : decode cX10_init 5 = .ok (.new 7, 3) := by decide +kernel
theorem dX10_init_8 : decode cX10_init 8 = .ok (.dup, 1) := by decide +kernel
theorem dX10_init_9 : decode cX10_init 9 = .ok (.invokespecial 9, 3) := by decide +kernel
theorem dX10_init_12 : decode cX10_init 12 = .ok (.putfield 10, 3) := by decide +kernel
theorem dX10_init_15 : decode cX10_init 15 = .ok (.aload_n 0, 1) := by decide +kernel
theorem dX10_init_16 : decode cX10_init 16 = .ok (.new 16, 3) := by decide +kernel
theorem dX10_init_19 : decode cX10_init 19 = .ok (.dup, 1) := by decide +kernel
theorem dX10_init_20 : decode cX10_init 20 = .ok (.invokespecial 18, 3) := by decide +kernel
theorem dX10_init_23 : decode cX10_init 23 = .ok (.putfield 19, 3) := by decide +kernel
theorem dX10_init_26 : decode cX10_init 26 = .ok (.aload_n 0, 1) := by decide +kernel
theorem dX10_init_27 : decode cX10_init 27 = .ok (.new 23, 3) := by decide +kernel
theorem dX10_init_30 : decode cX10_init 30 = .ok (.dup, 1) := by decide +kernel
theorem dX10_init_31 : decode cX10_init 31 = .ok (.aload_n 0, 1) := by decide +kernel
theorem dX10_init_32 : decode cX10_init 32 = .ok (.getfield 10, 3) := by decide +kernel
theorem dX10_init_35 : decode cX10_init 35 = .ok (.invokespecial 25, 3) := by decide +kernel
theorem dX10_init_38 : decode cX10_init 38 = .ok (.putfield 28, 3) := by decide +kernel
theorem dX10_init_41 : decode cX10_init 41 = .ok (.aload_n 0, 1) := by decide +kernel
theorem dX10_init_42 : decode cX10_init 42 = .ok (.new 32, 3) := by decide +kernel
theorem dX10_init_45 : decode cX10_init 45 = .ok (.dup, 1) := by decide +kernel
theorem dX10_init_46 : decode cX10_init 46 = .ok (.aload_n 0, 1) := by decide +kernel
theorem dX10_init_47 : decode cX10_init 47 = .ok (.getfield 19, 3) := by decide +kernel
theorem dX10_init_50 : decode cX10_init 50 = .ok (.invokespecial 34, 3) := by decide +kernel
theorem dX10_init_53 : decode cX10_init 53 = .ok (.putfield 37, 3) := by decide +kernel
theorem dX10_init_56 : decode cX10_init 56 = .ok (.aload_n 0, 1) := by decide +kernel
theorem dX10_init_57 : decode cX10_init 57 = .ok (.new 32, 3) := by decide +kernel
theorem dX10_init_60 : decode cX10_init 60 = .ok (.dup, 1) := by decide +kernel
theorem dX10_init_61 : decode cX10_init 61 = .ok (.aload_n 0, 1) := by decide +kernel
theorem dX10_init_62 : decode cX10_init 62 = .ok (.getfield 19, 3) := by decide +kernel
theorem dX10_init_65 : decode cX10_init 65 = .ok (.invokespecial 34, 3) := by decide +kernel
theorem dX10_init_68 : decode cX10_init 68 = .ok (.putfield 41, 3) := by decide +kernel
theorem dX10_init_71 : decode cX10_init 71 = .ok (.aload_n 0, 1) := by decide +kernel
theorem dX10_init_72 : decode cX10_init 72 = .ok (.bipush 8, 2) := by decide +kernel
theorem dX10_init_74 : decode cX10_init 74 = .ok (.anewarray 32, 3) := by decide +kernel
theorem dX10_init_77 : decode cX10_init 77 = .ok (.putfield 44, 3) := by decide +kernel
theorem dX10_init_80 : decode cX10_init 80 = .ok (.iconst 0, 1) := by decide +kernel
theorem dX10_init_81 : decode cX10_init 81 = .ok (.istore_n 1, 1) := by decide +kernel
theorem dX10_init_82 : decode cX10_init 82 = .ok (.iload_n 1, 1) := by decide +kernel
theorem dX10_init_83 : decode cX10_init 83 = .ok (.bipush 8, 2) := by decide +kernel
theorem dX10_init_85 : decode cX10_init 85 = .ok (.if_icmp .ge 26, 3) := by decide +kernel
theorem dX10_init_88 : decode cX10_init 88 = .ok (.aload_n 0, 1) := by decide +kernel
theorem dX10_init_89 : decode cX10_init 89 = .ok (.getfield 44, 3) := by decide +kernel
theorem dX10_init_92 : decode cX10_init 92 = .ok (.iload_n 1, 1) := by decide +kernel
theorem dX10_init_93 : decode cX10_init 93 = .ok (.new 32, 3) := by decide +kernel
theorem dX10_init_96 : decode cX10_init 96 = .ok (.dup, 1) := by decide +kernel
theorem dX10_init_97 : decode cX10_init 97 = .ok (.aload_n 0, 1) := by decide +kernel
theorem dX10_init_98 : decode cX10_init 98 = .ok (.getfield 19, 3) := by decide +kernel
theorem dX10_init_101 : decode cX10_init 101 = .ok (.invokespecial 34, 3) := by decide +kernel
theorem dX10_init_104 : decode cX10_init 104 = .ok (.aastore, 1) := by decide +kernel
theorem dX10_init_105 : decode cX10_init 105 = .ok (.iinc 1 1, 3) := by decide +kernel
theorem dX10_init_108 : decode cX10_init 108 = .ok (.goto (-26), 3) := by decide +kernel
theorem dX10_init_111 : decode cX10_init 111 = .ok (.aload_n 0, 1) := by decide +kernel
theorem dX10_init_112 : decode cX10_init 112 = .ok (.iconst 0, 1) := by decide +kernel
theorem dX10_init_113 : decode cX10_init 113 = .ok (.putfield 48, 3) := by decide +kernel
theorem dX10_init_116 : decode cX10_init 116 = .ok (.aload_n 0, 1) := by decide +kernel
theorem dX10_init_117 : decode cX10_init 117 = .ok (.new 52, 3) := by decide +kernel
theorem dX10_init_120 : decode cX10_init 120 = .ok (.dup, 1) := by decide +kernel
theorem dX10_init_121 : decode cX10_init 121 = .ok (.aload_n 0, 1) := by decide +kernel
theorem dX10_init_122 : decode cX10_init 122 = .ok (.getfield 19, 3) := by decide +kernel
theorem dX10_init_125 : decode cX10_init 125 = .ok (.aload_n 0, 1) := by decide +kernel
theorem dX10_init_126 : decode cX10_init 126 = .ok (.getfield 37, 3) := by decide +kernel
theorem dX10_init_129 : decode cX10_init 129 = .ok (.invokespecial 54, 3) := by decide +kernel
theorem dX10_init_132 : decode cX10_init 132 = .ok (.putfield 57, 3) := by decide +kernel
theorem dX10_init_135 : decode cX10_init 135 = .ok (.aload_n 0, 1) := by decide +kernel
theorem dX10_init_136 : decode cX10_init 136 = .ok (.new 61, 3) := by decide +kernel
theorem dX10_init_139 : decode cX10_init 139 = .ok (.dup, 1) := by decide +kernel
theorem dX10_init_140 : decode cX10_init 140 = .ok (.invokespecial 63, 3) := by decide +kernel
theorem dX10_init_143 : decode cX10_init 143 = .ok (.putfield 64, 3) := by decide +kernel
theorem dX10_init_146 : decode cX10_init 146 = .ok (.aload_n 0, 1) := by decide +kernel
theorem dX10_init_147 : decode cX10_init 147 = .ok (.new 68, 3) := by decide +kernel
theorem dX10_init_150 : decode cX10_init 150 = .ok (.dup, 1) := by decide +kernel
theorem dX10_init_151 : decode cX10_init 151 = .ok (.aload_n 0, 1) := by decide +kernel
theorem dX10_init_152 : decode cX10_init 152 = .ok (.getfield 10, 3) := by decide +kernel
theorem dX10_init_155 : decode cX10_init 155 = .ok (.aload_n 0, 1) := by decide +kernel
theorem dX10_init_156 : decode cX10_init 156 = .ok (.getfield 19, 3) := by decide +kernel
theorem dX10_init_159 : decode cX10_init 159 = .ok (.invokespecial 70, 3) := by decide +kernel
theorem dX10_init_162 : decode cX10_init 162 = .ok (.putfield 73, 3) := by decide +kernel
theorem dX10_init_165 : decode cX10_init 165 = .ok (.aload_n 0, 1) := by decide +kernel
theorem dX10_init_166 : decode cX10_init 166 = .ok (.new 77, 3) := by decide +kernel
theorem dX10_init_169 : decode cX10_init 169 = .ok (.dup, 1) := by decide +kernel
theorem dX10_init_170 : decode cX10_init 170 = .ok (.invokespecial 79, 3) := by decide +kernel
theorem dX10_init_173 : decode cX10_init 173 = .ok (.putfield 80, 3) := by decide +kernel
theorem dX10_init_176 : decode cX10_init 176 = .ok (.aload_n 0, 1) := by decide +kernel
theorem dX10_init_177 : decode cX10_init 177 = .ok (.new 84, 3) := by decide +kernel
theorem dX10_init_180 : decode cX10_init 180 = .ok (.dup, 1) := by decide +kernel
theorem dX10_init_181 : decode cX10_init 181 = .ok (.aload_n 0, 1) := by decide +kernel
theorem dX10_init_182 : decode cX10_init 182 = .ok (.getfield 10, 3) := by decide +kernel
theorem dX10_init_185 : decode cX10_init 185 = .ok (.aload_n 0, 1) := by decide +kernel
theorem dX10_init_186 : decode cX10_init 186 = .ok (.getfield 19, 3) := by decide +kernel
theorem dX10_init_189 : decode cX10_init 189 = .ok (.invokespecial 86, 3) := by decide +kernel
theorem dX10_init_192 : decode cX10_init 192 = .ok (.putfield 87, 3) := by decide +kernel
theorem dX10_init_195 : decode cX10_init 195 = .ok (.aload_n 0, 1) := by decide +kernel
theorem dX10_init_196 : decode cX10_init 196 = .ok (.new 91, 3) := by decide +kernel
theorem dX10_init_199 : decode cX10_init 199 = .ok (.dup, 1) := by decide +kernel
theorem dX10_init_200 : decode cX10_init 200 = .ok (.invokespecial 93, 3) := by decide +kernel
theorem dX10_init_203 : decode cX10_init 203 = .ok (.putfield 94, 3) := by decide +kernel
theorem dX10_init_206 : decode cX10_init 206 = .ok (.aload_n 0, 1) := by decide +kernel
theorem dX10_init_207 : decode cX10_init 207 = .ok (.new 91, 3) := by decide +kernel
theorem dX10_init_210 : decode cX10_init 210 = .ok (.dup, 1) := by decide +kernel
theorem dX10_init_211 : decode cX10_init 211 = .ok (.invokespecial 93, 3) := by decide +kernel
theorem dX10_init_214 : decode cX10_init 214 = .ok (.putfield 98, 3) := by decide +kernel
theorem dX10_init_217 : decode cX10_init 217 = .ok (.aload_n 0, 1) := by decide +kernel
theorem dX10_init_218 : decode cX10_init 218 = .ok (.getfield 37, 3) := by decide +kernel
theorem dX10_init_221 : decode cX10_init 221 = .ok (.invokevirtual 101, 3) := by decide +kernel
theorem dX10_init_224 : decode cX10_init 224 = .ok (.return_, 1) := by decide +kernel
theorem dX10_feed_0 : decode cX10_feed 0 = .ok (.aload_n 0, 1) := by decide +kernel
theorem dX10_feed_1 : decode cX10_feed 1 = .ok (.getfield 10, 3) := by decide +kernel
theorem dX10_feed_4 : decode cX10_feed 4 = .ok (.invokevirtual 104, 3) := by decide +kernel
theorem dX10_feed_7 : decode cX10_feed 7 = .ok (.ifCond .ne 5, 3) := by decide +kernel
theorem dX10_feed_10 : decode cX10_feed 10 = .ok (.iconst (-1), 1) := by decide +kernel
theorem dX10_feed_11 : decode cX10_feed 11 = .ok (.ireturn, 1) := by decide +kernel
theorem dX10_feed_12 : decode cX10_feed 12 = .ok (.aload_n 0, 1) := by decide +kernel
theorem dX10_feed_13 : decode cX10_feed 13 = .ok (.getfield 10, 3) := by decide +kernel
theorem dX10_feed_16 : decode cX10_feed 16 = .ok (.iload_n 1, 1) := by decide +kernel
theorem dX10_feed_17 : decode cX10_feed 17 = .ok (.invokevirtual 108, 3) := by decide +kernel
theorem dX10_feed_20 : decode cX10_feed 20 = .ok (.aload_n 0, 1) := by decide +kernel
theorem dX10_feed_21 : decode cX10_feed 21 = .ok (.getfield 10, 3) := by decide +kernel
theorem dX10_feed_24 : decode cX10_feed 24 = .ok (.iload_n 2, 1) := by decide +kernel
theorem dX10_feed_25 : decode cX10_feed 25 = .ok (.invokevirtual 108, 3) := by decide +kernel
theorem dX10_feed_28 : decode cX10_feed 28 = .ok (.aload_n 0, 1) := by decide +kernel
theorem dX10_feed_29 : decode cX10_feed 29 = .ok (.getfield 10, 3) := by decide +kernel
theorem dX10_feed_32 : decode cX10_feed 32 = .ok (.iload_n 3, 1) := by decide +kernel
theorem dX10_feed_33 : decode cX10_feed 33 = .ok (.invokevirtual 108, 3) := by decide +kernel
theorem dX10_feed_36 : decode cX10_feed 36 = .ok (.aload_n 0, 1) := by decide +kernel
theorem dX10_feed_37 : decode cX10_feed 37 = .ok (.getfield 10, 3) := by decide +kernel
theorem dX10_feed_40 : decode cX10_feed 40 = .ok (.iload 4, 2) := by decide +kernel
theorem dX10_feed_42 : decode cX10_feed 42 = .ok (.invokevirtual 108, 3) := by decide +kernel
theorem dX10_feed_45 : decode cX10_feed 45 = .ok (.aload_n 0, 1) := by decide +kernel
theorem dX10_feed_46 : decode cX10_feed 46 = .ok (.getfield 10, 3) := by decide +kernel
theorem dX10_feed_49 : decode cX10_feed 49 = .ok (.iload 5, 2) := by decide +kernel
theorem dX10_feed_51 : decode cX10_feed 51 = .ok (.invokevirtual 108, 3) := by decide +kernel
theorem dX10_feed_54 : decode cX10_feed 54 = .ok (.aload_n 0, 1) := by decide +kernel
theorem dX10_feed_55 : decode cX10_feed 55 = .ok (.getfield 10, 3) := by decide +kernel
theorem dX10_feed_58 : decode cX10_feed 58 = .ok (.getfield 112, 3) := by decide +kernel
theorem dX10_feed_61 : decode cX10_feed 61 = .ok (.ireturn, 1) := by decide +kernel
theorem dX10_end_0 : decode cX10_end 0 = .ok (.iload_n 1, 1) := by decide +kernel
theorem dX10_end_1 : decode cX10_end 1 = .ok (.ifCond .lt 14, 3) := by decide +kernel
theorem dX10_end_4 : decode cX10_end 4 = .ok (.iload_n 1, 1) := by decide +kernel
theorem dX10_end_5 : decode cX10_end 5 = .ok (.aload_n 0, 1) := by decide +kernel
theorem dX10_end_6 : decode cX10_end 6 = .ok (.getfield 10, 3) := by decide +kernel
theorem dX10_end_9 : decode cX10_end 9 = .ok (.getfield 112, 3) := by decide +kernel
theorem dX10_end_12 : decode cX10_end 12 = .ok (.if_icmp .le 5, 3) := by decide +kernel
theorem dX10_end_15 : decode cX10_end 15 = .ok (.iconst 0, 1) := by decide +kernel
theorem dX10_end_16 : decode cX10_end 16 = .ok (.ireturn, 1) := by decide +kernel
theorem dX10_end_17 : decode cX10_end 17 = .ok (.aload_n 0, 1) := by decide +kernel
theorem dX10_end_18 : decode cX10_end 18 = .ok (.getfield 10, 3) := by decide +kernel
theorem dX10_end_21 : decode cX10_end 21 = .ok (.iload_n 1, 1) := by decide +kernel
theorem dX10_end_22 : decode cX10_end 22 = .ok (.putfield 112, 3) := by decide +kernel
theorem dX10_end_25 : decode cX10_end 25 = .ok (.iconst 1, 1) := by decide +kernel
theorem dX10_end_26 : decode cX10_end 26 = .ok (.ireturn, 1) := by decide +kernel
theorem dX10_county_0 : decode cX10_county 0 = .ok (.aload_n 0, 1) := by decide +kernel
theorem dX10_county_1 : decode cX10_county 1 = .ok (.getfield 28, 3) := by decide +kernel
theorem dX10_county_4 : decode cX10_county 4 = .ok (.invokevirtual 115, 3) := by decide +kernel
theorem dX10_county_7 : decode cX10_county 7 = .ok (.istore_n 1, 1) := by decide +kernel
theorem dX10_county_8 : decode cX10_county 8 = .ok (.aload_n 0, 1) := by decide +kernel
theorem dX10_county_9 : decode cX10_county 9 = .ok (.getfield 10, 3) := by decide +kernel
theorem dX10_county_12 : decode cX10_county 12 = .ok (.iconst 0, 1) := by decide +kernel
theorem dX10_county_13 : decode cX10_county 13 = .ok (.putfield 112, 3) := by decide +kernel
theorem dX10_county_16 : decode cX10_county 16 = .ok (.iload_n 1, 1) := by decide +kernel
theorem dX10_county_17 : decode cX10_county 17 = .ok (.iconst (-1), 1) := by decide +kernel
theorem dX10_county_18 : decode cX10_county 18 = .ok (.if_icmp .ne 13, 3) := by decide +kernel
theorem dX10_county_21 : decode cX10_county 21 = .ok (.iconst (-1), 1) := by decide +kernel
theorem dX10_county_22 : decode cX10_county 22 = .ok (.aload_n 0, 1) := by decide +kernel
theorem dX10_county_23 : decode cX10_county 23 = .ok (.getfield 10, 3) := by decide +kernel
theorem dX10_county_26 : decode cX10_county 26 = .ok (.getfield 119, 3) := by decide +kernel
theorem dX10_county_29 : decode cX10_county 29 = .ok (.isub, 1) := by decide +kernel
theorem dX10_county_30 : decode cX10_county 30 = .ok (.ireturn, 1) := by decide +kernel
theorem dX10_county_31 : decode cX10_county 31 = .ok (.aload_n 0, 1) := by decide +kernel
theorem dX10_county_32 : decode cX10_county 32 = .ok (.getfield 19, 3) := by decide +kernel
theorem dX10_county_35 : decode cX10_county 35 = .ok (.aload_n 0, 1) := by decide +kernel
theorem dX10_county_36 : decode cX10_county 36 = .ok (.getfield 28, 3) := by decide +kernel
theorem dX10_county_39 : decode cX10_county 39 = .ok (.getfield 122, 3) := by decide +kernel
theorem dX10_county_42 : decode cX10_county 42 = .ok (.invokevirtual 125, 3) := by decide +kernel
theorem dX10_county_45 : decode cX10_county 45 = .ok (.aload_n 0, 1) := by decide +kernel
theorem dX10_county_46 : decode cX10_county 46 = .ok (.getfield 37, 3) := by decide +kernel
theorem dX10_county_49 : decode cX10_county 49 = .ok (.invokevirtual 101, 3) := by decide +kernel
theorem dX10_county_52 : decode cX10_county 52 = .ok (.aload_n 0, 1) := by decide +kernel
theorem dX10_county_53 : decode cX10_county 53 = .ok (.getfield 80, 3) := by decide +kernel
theorem dX10_county_56 : decode cX10_county 56 = .ok (.invokevirtual 128, 3) := by decide +kernel
theorem dX10_county_59 : decode cX10_county 59 = .ok (.aload_n 0, 1) := by decide +kernel
theorem dX10_county_60 : decode cX10_county 60 = .ok (.iconst 0, 1) := by decide +kernel
theorem dX10_county_61 : decode cX10_county 61 = .ok (.putfield 48, 3) := by decide +kernel
theorem dX10_county_64 : decode cX10_county 64 = .ok (.iload_n 1, 1) := by decide +kernel
theorem dX10_county_65 : decode cX10_county 65 = .ok (.ireturn, 1) := by decide +kernel
theorem dX10_fault_0 : decode cX10_fault 0 = .ok (.aload_n 0, 1) := by decide +kernel
theorem dX10_fault_1 : decode cX10_fault 1 = .ok (.getfield 10, 3) := by decide +kernel
theorem dX10_fault_4 : decode cX10_fault 4 = .ok (.getfield 131, 3) := by decide +kernel
theorem dX10_fault_7 : decode cX10_fault 7 = .ok (.ireturn, 1) := by decide +kernel
theorem dX10_person_0 : decode cX10_person 0 = .ok (.aload_n 0, 1) := by decide +kernel
theorem dX10_person_1 : decode cX10_person 1 = .ok (.getfield 19, 3) := by decide +kernel
theorem dX10_person_4 : decode cX10_person 4 = .ok (.iload_n 1, 1) := by decide +kernel
theorem dX10_person_5 : decode cX10_person 5 = .ok (.invokevirtual 134, 3) := by decide +kernel
theorem dX10_person_8 : decode cX10_person 8 = .ok (.ifCond .eq 13, 3) := by decide +kernel
theorem dX10_person_11 : decode cX10_person 11 = .ok (.iload_n 2, 1) := by decide +kernel
theorem dX10_person_12 : decode cX10_person 12 = .ok (.ifCond .lt 9, 3) := by decide +kernel
theorem dX10_person_15 : decode cX10_person 15 = .ok (.iload_n 2, 1) := by decide +kernel
theorem dX10_person_16 : decode cX10_person 16 = .ok (.bipush 7, 2) := by decide +kernel
theorem dX10_person_18 : decode cX10_person 18 = .ok (.if_icmp .le 11, 3) := by decide +kernel
theorem dX10_person_21 : decode cX10_person 21 = .ok (.new 138, 3) := by decide +kernel
theorem dX10_person_24 : decode cX10_person 24 = .ok (.dup, 1) := by decide +kernel
theorem dX10_person_25 : decode cX10_person 25 = .ok (.invokespecial 140, 3) := by decide +kernel
theorem dX10_person_28 : decode cX10_person 28 = .ok (.athrow, 1) := by decide +kernel
theorem dX10_person_29 : decode cX10_person 29 = .ok (.iload_n 2, 1) := by decide +kernel
theorem dX10_person_30 : decode cX10_person 30 = .ok (.tableswitch 114 0 6 #[42, 52, 61, 71, 80, 92, 104], 42) := by decide +kernel
theorem dX10_person_72 : decode cX10_person 72 = .ok (.aload_n 0, 1) := by decide +kernel
theorem dX10_person_73 : decode cX10_person 73 = .ok (.getfield 37, 3) := by decide +kernel
theorem dX10_person_76 : decode cX10_person 76 = .ok (.getfield 141, 3) := by decide +kernel
theorem dX10_person_79 : decode cX10_person 79 = .ok (.iload_n 1, 1) := by decide +kernel
theorem dX10_person_80 : decode cX10_person 80 = .ok (.iaload, 1) := by decide +kernel
theorem dX10_person_81 : decode cX10_person 81 = .ok (.ireturn, 1) := by decide +kernel
theorem dX10_person_82 : decode cX10_person 82 = .ok (.aload_n 0, 1) := by decide +kernel
theorem dX10_person_83 : decode cX10_person 83 = .ok (.getfield 37, 3) := by decide +kernel
theorem dX10_person_86 : decode cX10_person 86 = .ok (.iload_n 1, 1) := by decide +kernel
theorem dX10_person_87 : decode cX10_person 87 = .ok (.invokevirtual 145, 3) := by decide +kernel
theorem dX10_person_90 : decode cX10_person 90 = .ok (.ireturn, 1) := by decide +kernel
theorem dX10_person_91 : decode cX10_person 91 = .ok (.aload_n 0, 1) := by decide +kernel
theorem dX10_person_92 : decode cX10_person 92 = .ok (.getfield 19, 3) := by decide +kernel
theorem dX10_person_95 : decode cX10_person 95 = .ok (.getfield 149, 3) := by decide +kernel
theorem dX10_person_98 : decode cX10_person 98 = .ok (.iload_n 1, 1) := by decide +kernel
theorem dX10_person_99 : decode cX10_person 99 = .ok (.iaload, 1) := by decide +kernel
theorem dX10_person_100 : decode cX10_person 100 = .ok (.ireturn, 1) := by decide +kernel
theorem dX10_person_101 : decode cX10_person 101 = .ok (.aload_n 0, 1) := by decide +kernel
theorem dX10_person_102 : decode cX10_person 102 = .ok (.getfield 37, 3) := by decide +kernel
theorem dX10_person_105 : decode cX10_person 105 = .ok (.iload_n 1, 1) := by decide +kernel
theorem dX10_person_106 : decode cX10_person 106 = .ok (.invokevirtual 152, 3) := by decide +kernel
theorem dX10_person_109 : decode cX10_person 109 = .ok (.ireturn, 1) := by decide +kernel
theorem dX10_person_110 : decode cX10_person 110 = .ok (.aload_n 0, 1) := by decide +kernel
theorem dX10_person_111 : decode cX10_person 111 = .ok (.getfield 37, 3) := by decide +kernel
theorem dX10_person_114 : decode cX10_person 114 = .ok (.getfield 155, 3) := by decide +kernel
theorem dX10_person_117 : decode cX10_person 117 = .ok (.iload_n 1, 1) := by decide +kernel
theorem dX10_person_118 : decode cX10_person 118 = .ok (.iushr, 1) := by decide +kernel
theorem dX10_person_119 : decode cX10_person 119 = .ok (.iconst 1, 1) := by decide +kernel
theorem dX10_person_120 : decode cX10_person 120 = .ok (.iand, 1) := by decide +kernel
theorem dX10_person_121 : decode cX10_person 121 = .ok (.ireturn, 1) := by decide +kernel
theorem dX10_person_122 : decode cX10_person 122 = .ok (.aload_n 0, 1) := by decide +kernel
theorem dX10_person_123 : decode cX10_person 123 = .ok (.getfield 37, 3) := by decide +kernel
theorem dX10_person_126 : decode cX10_person 126 = .ok (.getfield 158, 3) := by decide +kernel
theorem dX10_person_129 : decode cX10_person 129 = .ok (.iload_n 1, 1) := by decide +kernel
theorem dX10_person_130 : decode cX10_person 130 = .ok (.iushr, 1) := by decide +kernel
theorem dX10_person_131 : decode cX10_person 131 = .ok (.iconst 1, 1) := by decide +kernel
theorem dX10_person_132 : decode cX10_person 132 = .ok (.iand, 1) := by decide +kernel
theorem dX10_person_133 : decode cX10_person 133 = .ok (.ireturn, 1) := by decide +kernel
theorem dX10_person_134 : decode cX10_person 134 = .ok (.aload_n 0, 1) := by decide +kernel
theorem dX10_person_135 : decode cX10_person 135 = .ok (.getfield 37, 3) := by decide +kernel
theorem dX10_person_138 : decode cX10_person 138 = .ok (.getfield 161, 3) := by decide +kernel
theorem dX10_person_141 : decode cX10_person 141 = .ok (.iload_n 1, 1) := by decide +kernel
theorem dX10_person_142 : decode cX10_person 142 = .ok (.iaload, 1) := by decide +kernel
theorem dX10_person_143 : decode cX10_person 143 = .ok (.ireturn, 1) := by decide +kernel
theorem dX10_person_144 : decode cX10_person 144 = .ok (.aload_n 0, 1) := by decide +kernel
theorem dX10_person_145 : decode cX10_person 145 = .ok (.getfield 37, 3) := by decide +kernel
theorem dX10_person_148 : decode cX10_person 148 = .ok (.iload_n 1, 1) := by decide +kernel
theorem dX10_person_149 : decode cX10_person 149 = .ok (.invokevirtual 164, 3) := by decide +kernel
theorem dX10_person_152 : decode cX10_person 152 = .ok (.ireturn, 1) := by decide +kernel
theorem dX10_good_0 : decode cX10_good 0 = .ok (.aload_n 0, 1) := by decide +kernel
theorem dX10_good_1 : decode cX10_good 1 = .ok (.getfield 19, 3) := by decide +kernel
theorem dX10_good_4 : decode cX10_good 4 = .ok (.iload_n 1, 1) := by decide +kernel
theorem dX10_good_5 : decode cX10_good 5 = .ok (.invokevirtual 134, 3) := by decide +kernel
theorem dX10_good_8 : decode cX10_good 8 = .ok (.ifCond .eq 14, 3) := by decide +kernel
theorem dX10_good_11 : decode cX10_good 11 = .ok (.aload_n 0, 1) := by decide +kernel
theorem dX10_good_12 : decode cX10_good 12 = .ok (.getfield 19, 3) := by decide +kernel
theorem dX10_good_15 : decode cX10_good 15 = .ok (.iload_n 2, 1) := by decide +kernel
theorem dX10_good_16 : decode cX10_good 16 = .ok (.invokevirtual 167, 3) := by decide +kernel
theorem dX10_good_19 : decode cX10_good 19 = .ok (.ifCond .ne 5, 3) := by decide +kernel
theorem dX10_good_22 : decode cX10_good 22 = .ok (.iconst (-1), 1) := by decide +kernel
theorem dX10_good_23 : decode cX10_good 23 = .ok (.ireturn, 1) := by decide +kernel
theorem dX10_good_24 : decode cX10_good 24 = .ok (.iload_n 1, 1) := by decide +kernel
theorem dX10_good_25 : decode cX10_good 25 = .ok (.iload_n 2, 1) := by decide +kernel
theorem dX10_good_26 : decode cX10_good 26 = .ok (.invokestatic 170, 3) := by decide +kernel
theorem dX10_good_29 : decode cX10_good 29 = .ok (.istore 4, 2) := by decide +kernel
theorem dX10_good_31 : decode cX10_good 31 = .ok (.iload_n 3, 1) := by decide +kernel
theorem dX10_good_32 : decode cX10_good 32 = .ok (.tableswitch 61 0 2 #[28, 39, 50], 28) := by decide +kernel
theorem dX10_good_60 : decode cX10_good 60 = .ok (.aload_n 0, 1) := by decide +kernel
theorem dX10_good_61 : decode cX10_good 61 = .ok (.getfield 37, 3) := by decide +kernel
theorem dX10_good_64 : decode cX10_good 64 = .ok (.getfield 174, 3) := by decide +kernel
theorem dX10_good_67 : decode cX10_good 67 = .ok (.iload 4, 2) := by decide +kernel
theorem dX10_good_69 : decode cX10_good 69 = .ok (.iaload, 1) := by decide +kernel
theorem dX10_good_70 : decode cX10_good 70 = .ok (.ireturn, 1) := by decide +kernel
theorem dX10_good_71 : decode cX10_good 71 = .ok (.aload_n 0, 1) := by decide +kernel
theorem dX10_good_72 : decode cX10_good 72 = .ok (.getfield 37, 3) := by decide +kernel
theorem dX10_good_75 : decode cX10_good 75 = .ok (.getfield 177, 3) := by decide +kernel
theorem dX10_good_78 : decode cX10_good 78 = .ok (.iload 4, 2) := by decide +kernel
theorem dX10_good_80 : decode cX10_good 80 = .ok (.iaload, 1) := by decide +kernel
theorem dX10_good_81 : decode cX10_good 81 = .ok (.ireturn, 1) := by decide +kernel
theorem dX10_good_82 : decode cX10_good 82 = .ok (.aload_n 0, 1) := by decide +kernel
theorem dX10_good_83 : decode cX10_good 83 = .ok (.getfield 19, 3) := by decide +kernel
theorem dX10_good_86 : decode cX10_good 86 = .ok (.getfield 180, 3) := by decide +kernel
theorem dX10_good_89 : decode cX10_good 89 = .ok (.iload 4, 2) := by decide +kernel
theorem dX10_good_91 : decode cX10_good 91 = .ok (.iaload, 1) := by decide +kernel
theorem dX10_good_92 : decode cX10_good 92 = .ok (.ireturn, 1) := by decide +kernel
theorem dX10_good_93 : decode cX10_good 93 = .ok (.iconst (-1), 1) := by decide +kernel
theorem dX10_good_94 : decode cX10_good 94 = .ok (.ireturn, 1) := by decide +kernel
theorem dX10_deals_0 : decode cX10_deals 0 = .ok (.aload_n 0, 1) := by decide +kernel
theorem dX10_deals_1 : decode cX10_deals 1 = .ok (.iload_n 1, 1) := by decide +kernel
theorem dX10_deals_2 : decode cX10_deals 2 = .ok (.iload_n 2, 1) := by decide +kernel
theorem dX10_deals_3 : decode cX10_deals 3 = .ok (.invokevirtual 183, 3) := by decide +kernel
theorem dX10_deals_6 : decode cX10_deals 6 = .ok (.ifCond .ne 5, 3) := by decide +kernel
theorem dX10_deals_9 : decode cX10_deals 9 = .ok (.iconst (-1), 1) := by decide +kernel
theorem dX10_deals_10 : decode cX10_deals 10 = .ok (.ireturn, 1) := by decide +kernel
theorem dX10_deals_11 : decode cX10_deals 11 = .ok (.aload_n 0, 1) := by decide +kernel
theorem dX10_deals_12 : decode cX10_deals 12 = .ok (.getfield 37, 3) := by decide +kernel
theorem dX10_deals_15 : decode cX10_deals 15 = .ok (.getfield 187, 3) := by decide +kernel
theorem dX10_deals_18 : decode cX10_deals 18 = .ok (.iload_n 1, 1) := by decide +kernel
theorem dX10_deals_19 : decode cX10_deals 19 = .ok (.iload_n 2, 1) := by decide +kernel
theorem dX10_deals_20 : decode cX10_deals 20 = .ok (.invokestatic 190, 3) := by decide +kernel
theorem dX10_deals_23 : decode cX10_deals 23 = .ok (.iaload, 1) := by decide +kernel
theorem dX10_deals_24 : decode cX10_deals 24 = .ok (.ireturn, 1) := by decide +kernel
theorem dX10_now_0 : decode cX10_now 0 = .ok (.iload_n 1, 1) := by decide +kernel
theorem dX10_now_1 : decode cX10_now 1 = .ok (.tableswitch 111 0 7 #[47, 55, 63, 71, 79, 87, 95, 103], 47) := by decide +kernel
theorem dX10_now_48 : decode cX10_now 48 = .ok (.aload_n 0, 1) := by decide +kernel
theorem dX10_now_49 : decode cX10_now 49 = .ok (.getfield 37, 3) := by decide +kernel
theorem dX10_now_52 : decode cX10_now 52 = .ok (.getfield 193, 3) := by decide +kernel
theorem dX10_now_55 : decode cX10_now 55 = .ok (.ireturn, 1) := by decide +kernel
theorem dX10_now_56 : decode cX10_now 56 = .ok (.aload_n 0, 1) := by decide +kernel
theorem dX10_now_57 : decode cX10_now 57 = .ok (.getfield 37, 3) := by decide +kernel
theorem dX10_now_60 : decode cX10_now 60 = .ok (.getfield 155, 3) := by decide +kernel
theorem dX10_now_63 : decode cX10_now 63 = .ok (.ireturn, 1) := by decide +kernel
theorem dX10_now_64 : decode cX10_now 64 = .ok (.aload_n 0, 1) := by decide +kernel
theorem dX10_now_65 : decode cX10_now 65 = .ok (.getfield 37, 3) := by decide +kernel
theorem dX10_now_68 : decode cX10_now 68 = .ok (.getfield 158, 3) := by decide +kernel
theorem dX10_now_71 : decode cX10_now 71 = .ok (.ireturn, 1) := by decide +kernel
theorem dX10_now_72 : decode cX10_now 72 = .ok (.aload_n 0, 1) := by decide +kernel
theorem dX10_now_73 : decode cX10_now 73 = .ok (.getfield 37, 3) := by decide +kernel
theorem dX10_now_76 : decode cX10_now 76 = .ok (.invokevirtual 196, 3) := by decide +kernel
theorem dX10_now_79 : decode cX10_now 79 = .ok (.ireturn, 1) := by decide +kernel
theorem dX10_now_80 : decode cX10_now 80 = .ok (.aload_n 0, 1) := by decide +kernel
theorem dX10_now_81 : decode cX10_now 81 = .ok (.getfield 37, 3) := by decide +kernel
theorem dX10_now_84 : decode cX10_now 84 = .ok (.getfield 199, 3) := by decide +kernel
theorem dX10_now_87 : decode cX10_now 87 = .ok (.ireturn, 1) := by decide +kernel
theorem dX10_now_88 : decode cX10_now 88 = .ok (.aload_n 0, 1) := by decide +kernel
theorem dX10_now_89 : decode cX10_now 89 = .ok (.getfield 37, 3) := by decide +kernel
theorem dX10_now_92 : decode cX10_now 92 = .ok (.getfield 202, 3) := by decide +kernel
theorem dX10_now_95 : decode cX10_now 95 = .ok (.ireturn, 1) := by decide +kernel
theorem dX10_now_96 : decode cX10_now 96 = .ok (.aload_n 0, 1) := by decide +kernel
theorem dX10_now_97 : decode cX10_now 97 = .ok (.getfield 37, 3) := by decide +kernel
theorem dX10_now_100 : decode cX10_now 100 = .ok (.invokevirtual 205, 3) := by decide +kernel
theorem dX10_now_103 : decode cX10_now 103 = .ok (.ireturn, 1) := by decide +kernel
theorem dX10_now_104 : decode cX10_now 104 = .ok (.aload_n 0, 1) := by decide +kernel
theorem dX10_now_105 : decode cX10_now 105 = .ok (.getfield 37, 3) := by decide +kernel
theorem dX10_now_108 : decode cX10_now 108 = .ok (.invokevirtual 208, 3) := by decide +kernel
theorem dX10_now_111 : decode cX10_now 111 = .ok (.ireturn, 1) := by decide +kernel
theorem dX10_now_112 : decode cX10_now 112 = .ok (.iconst (-1), 1) := by decide +kernel
theorem dX10_now_113 : decode cX10_now 113 = .ok (.ireturn, 1) := by decide +kernel
theorem dX10_buy_0 : decode cX10_buy 0 = .ok (.aload_n 0, 1) := by decide +kernel
theorem dX10_buy_1 : decode cX10_buy 1 = .ok (.getfield 19, 3) := by decide +kernel
theorem dX10_buy_4 : decode cX10_buy 4 = .ok (.iload_n 1, 1) := by decide +kernel
theorem dX10_buy_5 : decode cX10_buy 5 = .ok (.invokevirtual 134, 3) := by decide +kernel
theorem dX10_buy_8 : decode cX10_buy 8 = .ok (.ifCond .eq 25, 3) := by decide +kernel
theorem dX10_buy_11 : decode cX10_buy 11 = .ok (.aload_n 0, 1) := by decide +kernel
theorem dX10_buy_12 : decode cX10_buy 12 = .ok (.getfield 19, 3) := by decide +kernel
theorem dX10_buy_15 : decode cX10_buy 15 = .ok (.iload_n 2, 1) := by decide +kernel
theorem dX10_buy_16 : decode cX10_buy 16 = .ok (.invokevirtual 167, 3) := by decide +kernel
theorem dX10_buy_19 : decode cX10_buy 19 = .ok (.ifCond .eq 14, 3) := by decide +kernel
theorem dX10_buy_22 : decode cX10_buy 22 = .ok (.aload_n 0, 1) := by decide +kernel
theorem dX10_buy_23 : decode cX10_buy 23 = .ok (.getfield 19, 3) := by decide +kernel
theorem dX10_buy_26 : decode cX10_buy 26 = .ok (.iload_n 3, 1) := by decide +kernel
theorem dX10_buy_27 : decode cX10_buy 27 = .ok (.invokevirtual 134, 3) := by decide +kernel
theorem dX10_buy_30 : decode cX10_buy 30 = .ok (.ifCond .ne 5, 3) := by decide +kernel
theorem dX10_buy_33 : decode cX10_buy 33 = .ok (.iconst (-1), 1) := by decide +kernel
theorem dX10_buy_34 : decode cX10_buy 34 = .ok (.ireturn, 1) := by decide +kernel
theorem dX10_buy_35 : decode cX10_buy 35 = .ok (.aload_n 0, 1) := by decide +kernel
theorem dX10_buy_36 : decode cX10_buy 36 = .ok (.getfield 37, 3) := by decide +kernel
theorem dX10_buy_39 : decode cX10_buy 39 = .ok (.iload_n 1, 1) := by decide +kernel
theorem dX10_buy_40 : decode cX10_buy 40 = .ok (.iload_n 2, 1) := by decide +kernel
theorem dX10_buy_41 : decode cX10_buy 41 = .ok (.iload_n 3, 1) := by decide +kernel
theorem dX10_buy_42 : decode cX10_buy 42 = .ok (.invokevirtual 211, 3) := by decide +kernel
theorem dX10_buy_45 : decode cX10_buy 45 = .ok (.istore 4, 2) := by decide +kernel
theorem dX10_buy_47 : decode cX10_buy 47 = .ok (.iload 4, 2) := by decide +kernel
theorem dX10_buy_49 : decode cX10_buy 49 = .ok (.ifCond .ne 17, 3) := by decide +kernel
theorem dX10_buy_52 : decode cX10_buy 52 = .ok (.aload_n 0, 1) := by decide +kernel
theorem dX10_buy_53 : decode cX10_buy 53 = .ok (.invokevirtual 215, 3) := by decide +kernel
theorem dX10_buy_56 : decode cX10_buy 56 = .ok (.aload_n 0, 1) := by decide +kernel
theorem dX10_buy_57 : decode cX10_buy 57 = .ok (.getfield 37, 3) := by decide +kernel
theorem dX10_buy_60 : decode cX10_buy 60 = .ok (.iload_n 1, 1) := by decide +kernel
theorem dX10_buy_61 : decode cX10_buy 61 = .ok (.iload_n 2, 1) := by decide +kernel
theorem dX10_buy_62 : decode cX10_buy 62 = .ok (.iload_n 3, 1) := by decide +kernel
theorem dX10_buy_63 : decode cX10_buy 63 = .ok (.invokevirtual 218, 3) := by decide +kernel
theorem dX10_buy_66 : decode cX10_buy 66 = .ok (.iload 4, 2) := by decide +kernel
theorem dX10_buy_68 : decode cX10_buy 68 = .ok (.ireturn, 1) := by decide +kernel
theorem dX10_nod_0 : decode cX10_nod 0 = .ok (.aload_n 0, 1) := by decide +kernel
theorem dX10_nod_1 : decode cX10_nod 1 = .ok (.getfield 19, 3) := by decide +kernel
theorem dX10_nod_4 : decode cX10_nod 4 = .ok (.iload_n 1, 1) := by decide +kernel
theorem dX10_nod_5 : decode cX10_nod 5 = .ok (.invokevirtual 134, 3) := by decide +kernel
theorem dX10_nod_8 : decode cX10_nod 8 = .ok (.ifCond .eq 14, 3) := by decide +kernel
theorem dX10_nod_11 : decode cX10_nod 11 = .ok (.aload_n 0, 1) := by decide +kernel
theorem dX10_nod_12 : decode cX10_nod 12 = .ok (.getfield 19, 3) := by decide +kernel
theorem dX10_nod_15 : decode cX10_nod 15 = .ok (.iload_n 2, 1) := by decide +kernel
theorem dX10_nod_16 : decode cX10_nod 16 = .ok (.invokevirtual 134, 3) := by decide +kernel
theorem dX10_nod_19 : decode cX10_nod 19 = .ok (.ifCond .ne 5, 3) := by decide +kernel
theorem dX10_nod_22 : decode cX10_nod 22 = .ok (.iconst (-1), 1) := by decide +kernel
theorem dX10_nod_23 : decode cX10_nod 23 = .ok (.ireturn, 1) := by decide +kernel
theorem dX10_nod_24 : decode cX10_nod 24 = .ok (.aload_n 0, 1) := by decide +kernel
theorem dX10_nod_25 : decode cX10_nod 25 = .ok (.getfield 37, 3) := by decide +kernel
theorem dX10_nod_28 : decode cX10_nod 28 = .ok (.iload_n 1, 1) := by decide +kernel
theorem dX10_nod_29 : decode cX10_nod 29 = .ok (.iload_n 2, 1) := by decide +kernel
theorem dX10_nod_30 : decode cX10_nod 30 = .ok (.invokevirtual 222, 3) := by decide +kernel
theorem dX10_nod_33 : decode cX10_nod 33 = .ok (.istore_n 3, 1) := by decide +kernel
theorem dX10_nod_34 : decode cX10_nod 34 = .ok (.iload_n 3, 1) := by decide +kernel
theorem dX10_nod_35 : decode cX10_nod 35 = .ok (.ifCond .ne 16, 3) := by decide +kernel
theorem dX10_nod_38 : decode cX10_nod 38 = .ok (.aload_n 0, 1) := by decide +kernel
theorem dX10_nod_39 : decode cX10_nod 39 = .ok (.invokevirtual 215, 3) := by decide +kernel
theorem dX10_nod_42 : decode cX10_nod 42 = .ok (.aload_n 0, 1) := by decide +kernel
theorem dX10_nod_43 : decode cX10_nod 43 = .ok (.getfield 37, 3) := by decide +kernel
theorem dX10_nod_46 : decode cX10_nod 46 = .ok (.iload_n 1, 1) := by decide +kernel
theorem dX10_nod_47 : decode cX10_nod 47 = .ok (.iload_n 2, 1) := by decide +kernel
theorem dX10_nod_48 : decode cX10_nod 48 = .ok (.invokevirtual 225, 3) := by decide +kernel
theorem dX10_nod_51 : decode cX10_nod 51 = .ok (.iload_n 3, 1) := by decide +kernel
theorem dX10_nod_52 : decode cX10_nod 52 = .ok (.ireturn, 1) := by decide +kernel
theorem dX10_veil_0 : decode cX10_veil 0 = .ok (.aload_n 0, 1) := by decide +kernel
theorem dX10_veil_1 : decode cX10_veil 1 = .ok (.getfield 19, 3) := by decide +kernel
theorem dX10_veil_4 : decode cX10_veil 4 = .ok (.iload_n 1, 1) := by decide +kernel
theorem dX10_veil_5 : decode cX10_veil 5 = .ok (.invokevirtual 134, 3) := by decide +kernel
theorem dX10_veil_8 : decode cX10_veil 8 = .ok (.ifCond .ne 5, 3) := by decide +kernel
theorem dX10_veil_11 : decode cX10_veil 11 = .ok (.iconst (-1), 1) := by decide +kernel
theorem dX10_veil_12 : decode cX10_veil 12 = .ok (.ireturn, 1) := by decide +kernel
theorem dX10_veil_13 : decode cX10_veil 13 = .ok (.aload_n 0, 1) := by decide +kernel
theorem dX10_veil_14 : decode cX10_veil 14 = .ok (.getfield 37, 3) := by decide +kernel
theorem dX10_veil_17 : decode cX10_veil 17 = .ok (.iload_n 1, 1) := by decide +kernel
theorem dX10_veil_18 : decode cX10_veil 18 = .ok (.invokevirtual 229, 3) := by decide +kernel
theorem dX10_veil_21 : decode cX10_veil 21 = .ok (.istore_n 2, 1) := by decide +kernel
theorem dX10_veil_22 : decode cX10_veil 22 = .ok (.iload_n 2, 1) := by decide +kernel
theorem dX10_veil_23 : decode cX10_veil 23 = .ok (.ifCond .ne 15, 3) := by decide +kernel
theorem dX10_veil_26 : decode cX10_veil 26 = .ok (.aload_n 0, 1) := by decide +kernel
theorem dX10_veil_27 : decode cX10_veil 27 = .ok (.invokevirtual 215, 3) := by decide +kernel
theorem dX10_veil_30 : decode cX10_veil 30 = .ok (.aload_n 0, 1) := by decide +kernel
theorem dX10_veil_31 : decode cX10_veil 31 = .ok (.getfield 37, 3) := by decide +kernel
theorem dX10_veil_34 : decode cX10_veil 34 = .ok (.iload_n 1, 1) := by decide +kernel
theorem dX10_veil_35 : decode cX10_veil 35 = .ok (.invokevirtual 232, 3) := by decide +kernel
theorem dX10_veil_38 : decode cX10_veil 38 = .ok (.iload_n 2, 1) := by decide +kernel
theorem dX10_veil_39 : decode cX10_veil 39 = .ok (.ireturn, 1) := by decide +kernel
theorem dX10_tell_0 : decode cX10_tell 0 = .ok (.aload_n 0, 1) := by decide +kernel
theorem dX10_tell_1 : decode cX10_tell 1 = .ok (.getfield 19, 3) := by decide +kernel
theorem dX10_tell_4 : decode cX10_tell 4 = .ok (.iload_n 1, 1) := by decide +kernel
theorem dX10_tell_5 : decode cX10_tell 5 = .ok (.invokevirtual 134, 3) := by decide +kernel
theorem dX10_tell_8 : decode cX10_tell 8 = .ok (.ifCond .eq 25, 3) := by decide +kernel
theorem dX10_tell_11 : decode cX10_tell 11 = .ok (.aload_n 0, 1) := by decide +kernel
theorem dX10_tell_12 : decode cX10_tell 12 = .ok (.getfield 19, 3) := by decide +kernel
theorem dX10_tell_15 : decode cX10_tell 15 = .ok (.iload_n 2, 1) := by decide +kernel
theorem dX10_tell_16 : decode cX10_tell 16 = .ok (.invokevirtual 134, 3) := by decide +kernel
theorem dX10_tell_19 : decode cX10_tell 19 = .ok (.ifCond .eq 14, 3) := by decide +kernel
theorem dX10_tell_22 : decode cX10_tell 22 = .ok (.aload_n 0, 1) := by decide +kernel
theorem dX10_tell_23 : decode cX10_tell 23 = .ok (.getfield 19, 3) := by decide +kernel
theorem dX10_tell_26 : decode cX10_tell 26 = .ok (.iload_n 3, 1) := by decide +kernel
theorem dX10_tell_27 : decode cX10_tell 27 = .ok (.invokevirtual 134, 3) := by decide +kernel
theorem dX10_tell_30 : decode cX10_tell 30 = .ok (.ifCond .ne 5, 3) := by decide +kernel
theorem dX10_tell_33 : decode cX10_tell 33 = .ok (.iconst (-1), 1) := by decide +kernel
theorem dX10_tell_34 : decode cX10_tell 34 = .ok (.ireturn, 1) := by decide +kernel
theorem dX10_tell_35 : decode cX10_tell 35 = .ok (.aload_n 0, 1) := by decide +kernel
theorem dX10_tell_36 : decode cX10_tell 36 = .ok (.getfield 37, 3) := by decide +kernel
theorem dX10_tell_39 : decode cX10_tell 39 = .ok (.iload_n 1, 1) := by decide +kernel
theorem dX10_tell_40 : decode cX10_tell 40 = .ok (.iload_n 2, 1) := by decide +kernel
theorem dX10_tell_41 : decode cX10_tell 41 = .ok (.iload_n 3, 1) := by decide +kernel
theorem dX10_tell_42 : decode cX10_tell 42 = .ok (.invokevirtual 235, 3) := by decide +kernel
theorem dX10_tell_45 : decode cX10_tell 45 = .ok (.istore 4, 2) := by decide +kernel
theorem dX10_tell_47 : decode cX10_tell 47 = .ok (.iload 4, 2) := by decide +kernel
theorem dX10_tell_49 : decode cX10_tell 49 = .ok (.ifCond .ne 16, 3) := by decide +kernel
theorem dX10_tell_52 : decode cX10_tell 52 = .ok (.aload_n 0, 1) := by decide +kernel
theorem dX10_tell_53 : decode cX10_tell 53 = .ok (.invokevirtual 215, 3) := by decide +kernel
theorem dX10_tell_56 : decode cX10_tell 56 = .ok (.aload_n 0, 1) := by decide +kernel
theorem dX10_tell_57 : decode cX10_tell 57 = .ok (.getfield 37, 3) := by decide +kernel
theorem dX10_tell_60 : decode cX10_tell 60 = .ok (.iload_n 2, 1) := by decide +kernel
theorem dX10_tell_61 : decode cX10_tell 61 = .ok (.iload_n 3, 1) := by decide +kernel
theorem dX10_tell_62 : decode cX10_tell 62 = .ok (.invokevirtual 238, 3) := by decide +kernel
theorem dX10_tell_65 : decode cX10_tell 65 = .ok (.iload 4, 2) := by decide +kernel
theorem dX10_tell_67 : decode cX10_tell 67 = .ok (.ireturn, 1) := by decide +kernel
theorem dX10_days_0 : decode cX10_days 0 = .ok (.iload_n 1, 1) := by decide +kernel
theorem dX10_days_1 : decode cX10_days 1 = .ok (.iconst 1, 1) := by decide +kernel
theorem dX10_days_2 : decode cX10_days 2 = .ok (.if_icmp .lt 9, 3) := by decide +kernel
theorem dX10_days_5 : decode cX10_days 5 = .ok (.iload_n 1, 1) := by decide +kernel
theorem dX10_days_6 : decode cX10_days 6 = .ok (.bipush 60, 2) := by decide +kernel
theorem dX10_days_8 : decode cX10_days 8 = .ok (.if_icmp .le 5, 3) := by decide +kernel
theorem dX10_days_11 : decode cX10_days 11 = .ok (.iconst (-1), 1) := by decide +kernel
theorem dX10_days_12 : decode cX10_days 12 = .ok (.ireturn, 1) := by decide +kernel
theorem dX10_days_13 : decode cX10_days 13 = .ok (.aload_n 0, 1) := by decide +kernel
theorem dX10_days_14 : decode cX10_days 14 = .ok (.getfield 37, 3) := by decide +kernel
theorem dX10_days_17 : decode cX10_days 17 = .ok (.getfield 193, 3) := by decide +kernel
theorem dX10_days_20 : decode cX10_days 20 = .ok (.sipush 400, 3) := by decide +kernel
theorem dX10_days_23 : decode cX10_days 23 = .ok (.if_icmp .lt 5, 3) := by decide +kernel
theorem dX10_days_26 : decode cX10_days 26 = .ok (.iconst 0, 1) := by decide +kernel
theorem dX10_days_27 : decode cX10_days 27 = .ok (.ireturn, 1) := by decide +kernel
theorem dX10_days_28 : decode cX10_days 28 = .ok (.aload_n 0, 1) := by decide +kernel
theorem dX10_days_29 : decode cX10_days 29 = .ok (.invokevirtual 215, 3) := by decide +kernel
theorem dX10_days_32 : decode cX10_days 32 = .ok (.aload_n 0, 1) := by decide +kernel
theorem dX10_days_33 : decode cX10_days 33 = .ok (.getfield 37, 3) := by decide +kernel
theorem dX10_days_36 : decode cX10_days 36 = .ok (.iload_n 1, 1) := by decide +kernel
theorem dX10_days_37 : decode cX10_days 37 = .ok (.invokevirtual 241, 3) := by decide +kernel
theorem dX10_days_40 : decode cX10_days 40 = .ok (.ireturn, 1) := by decide +kernel
theorem dX10_undo_0 : decode cX10_undo 0 = .ok (.aload_n 0, 1) := by decide +kernel
theorem dX10_undo_1 : decode cX10_undo 1 = .ok (.getfield 48, 3) := by decide +kernel
theorem dX10_undo_4 : decode cX10_undo 4 = .ok (.iconst 1, 1) := by decide +kernel
theorem dX10_undo_5 : decode cX10_undo 5 = .ok (.if_icmp .lt 12, 3) := by decide +kernel
theorem dX10_undo_8 : decode cX10_undo 8 = .ok (.aload_n 0, 1) := by decide +kernel
theorem dX10_undo_9 : decode cX10_undo 9 = .ok (.getfield 48, 3) := by decide +kernel
theorem dX10_undo_12 : decode cX10_undo 12 = .ok (.bipush 8, 2) := by decide +kernel
theorem dX10_undo_14 : decode cX10_undo 14 = .ok (.if_icmp .le 5, 3) := by decide +kernel
theorem dX10_undo_17 : decode cX10_undo 17 = .ok (.iconst (-1), 1) := by decide +kernel
theorem dX10_undo_18 : decode cX10_undo 18 = .ok (.ireturn, 1) := by decide +kernel
theorem dX10_undo_19 : decode cX10_undo 19 = .ok (.aload_n 0, 1) := by decide +kernel
theorem dX10_undo_20 : decode cX10_undo 20 = .ok (.dup, 1) := by decide +kernel
theorem dX10_undo_21 : decode cX10_undo 21 = .ok (.getfield 48, 3) := by decide +kernel
theorem dX10_undo_24 : decode cX10_undo 24 = .ok (.iconst 1, 1) := by decide +kernel
theorem dX10_undo_25 : decode cX10_undo 25 = .ok (.isub, 1) := by decide +kernel
theorem dX10_undo_26 : decode cX10_undo 26 = .ok (.putfield 48, 3) := by decide +kernel
theorem dX10_undo_29 : decode cX10_undo 29 = .ok (.aload_n 0, 1) := by decide +kernel
theorem dX10_undo_30 : decode cX10_undo 30 = .ok (.getfield 37, 3) := by decide +kernel
theorem dX10_undo_33 : decode cX10_undo 33 = .ok (.aload_n 0, 1) := by decide +kernel
theorem dX10_undo_34 : decode cX10_undo 34 = .ok (.getfield 44, 3) := by decide +kernel
theorem dX10_undo_37 : decode cX10_undo 37 = .ok (.aload_n 0, 1) := by decide +kernel
theorem dX10_undo_38 : decode cX10_undo 38 = .ok (.getfield 48, 3) := by decide +kernel
theorem dX10_undo_41 : decode cX10_undo 41 = .ok (.aaload, 1) := by decide +kernel
theorem dX10_undo_42 : decode cX10_undo 42 = .ok (.invokevirtual 244, 3) := by decide +kernel
theorem dX10_undo_45 : decode cX10_undo 45 = .ok (.aload_n 0, 1) := by decide +kernel
theorem dX10_undo_46 : decode cX10_undo 46 = .ok (.getfield 48, 3) := by decide +kernel
theorem dX10_undo_49 : decode cX10_undo 49 = .ok (.ireturn, 1) := by decide +kernel
theorem dX10_most_0 : decode cX10_most 0 = .ok (.aload_n 0, 1) := by decide +kernel
theorem dX10_most_1 : decode cX10_most 1 = .ok (.getfield 19, 3) := by decide +kernel
theorem dX10_most_4 : decode cX10_most 4 = .ok (.iload_n 1, 1) := by decide +kernel
theorem dX10_most_5 : decode cX10_most 5 = .ok (.invokevirtual 167, 3) := by decide +kernel
theorem dX10_most_8 : decode cX10_most 8 = .ok (.ifCond .eq 14, 3) := by decide +kernel
theorem dX10_most_11 : decode cX10_most 11 = .ok (.aload_n 0, 1) := by decide +kernel
theorem dX10_most_12 : decode cX10_most 12 = .ok (.getfield 57, 3) := by decide +kernel
theorem dX10_most_15 : decode cX10_most 15 = .ok (.iload_n 1, 1) := by decide +kernel
theorem dX10_most_16 : decode cX10_most 16 = .ok (.invokevirtual 247, 3) := by decide +kernel
theorem dX10_most_19 : decode cX10_most 19 = .ok (.goto 4, 3) := by decide +kernel
theorem dX10_most_22 : decode cX10_most 22 = .ok (.iconst (-1), 1) := by decide +kernel
theorem dX10_most_23 : decode cX10_most 23 = .ok (.ireturn, 1) := by decide +kernel
theorem dX10_who_0 : decode cX10_who 0 = .ok (.aload_n 0, 1) := by decide +kernel
theorem dX10_who_1 : decode cX10_who 1 = .ok (.getfield 57, 3) := by decide +kernel
theorem dX10_who_4 : decode cX10_who 4 = .ok (.aload_n 0, 1) := by decide +kernel
theorem dX10_who_5 : decode cX10_who 5 = .ok (.getfield 10, 3) := by decide +kernel
theorem dX10_who_8 : decode cX10_who 8 = .ok (.invokevirtual 250, 3) := by decide +kernel
theorem dX10_who_11 : decode cX10_who 11 = .ok (.istore_n 1, 1) := by decide +kernel
theorem dX10_who_12 : decode cX10_who 12 = .ok (.aload_n 0, 1) := by decide +kernel
theorem dX10_who_13 : decode cX10_who 13 = .ok (.getfield 10, 3) := by decide +kernel
theorem dX10_who_16 : decode cX10_who 16 = .ok (.iconst 0, 1) := by decide +kernel
theorem dX10_who_17 : decode cX10_who 17 = .ok (.putfield 112, 3) := by decide +kernel
theorem dX10_who_20 : decode cX10_who 20 = .ok (.iload_n 1, 1) := by decide +kernel
theorem dX10_who_21 : decode cX10_who 21 = .ok (.ireturn, 1) := by decide +kernel
theorem dX10_ask_0 : decode cX10_ask 0 = .ok (.aload_n 0, 1) := by decide +kernel
theorem dX10_ask_1 : decode cX10_ask 1 = .ok (.getfield 57, 3) := by decide +kernel
theorem dX10_ask_4 : decode cX10_ask 4 = .ok (.getfield 254, 3) := by decide +kernel
theorem dX10_ask_7 : decode cX10_ask 7 = .ok (.ireturn, 1) := by decide +kernel
theorem dX10_serve_0 : decode cX10_serve 0 = .ok (.aload_n 0, 1) := by decide +kernel
theorem dX10_serve_1 : decode cX10_serve 1 = .ok (.getfield 19, 3) := by decide +kernel
theorem dX10_serve_4 : decode cX10_serve 4 = .ok (.iload_n 1, 1) := by decide +kernel
theorem dX10_serve_5 : decode cX10_serve 5 = .ok (.invokevirtual 167, 3) := by decide +kernel
theorem dX10_serve_8 : decode cX10_serve 8 = .ok (.ifCond .eq 14, 3) := by decide +kernel
theorem dX10_serve_11 : decode cX10_serve 11 = .ok (.aload_n 0, 1) := by decide +kernel
theorem dX10_serve_12 : decode cX10_serve 12 = .ok (.getfield 57, 3) := by decide +kernel
theorem dX10_serve_15 : decode cX10_serve 15 = .ok (.iload_n 1, 1) := by decide +kernel
theorem dX10_serve_16 : decode cX10_serve 16 = .ok (.invokevirtual 257, 3) := by decide +kernel
theorem dX10_serve_19 : decode cX10_serve 19 = .ok (.goto 4, 3) := by decide +kernel
theorem dX10_serve_22 : decode cX10_serve 22 = .ok (.iconst (-1), 1) := by decide +kernel
theorem dX10_serve_23 : decode cX10_serve 23 = .ok (.ireturn, 1) := by decide +kernel
theorem dX10_serving_0 : decode cX10_serving 0 = .ok (.aload_n 0, 1) := by decide +kernel
theorem dX10_serving_1 : decode cX10_serving 1 = .ok (.getfield 57, 3) := by decide +kernel
theorem dX10_serving_4 : decode cX10_serving 4 = .ok (.getfield 260, 3) := by decide +kernel
theorem dX10_serving_7 : decode cX10_serving 7 = .ok (.ireturn, 1) := by decide +kernel
theorem dX10_chain_0 : decode cX10_chain 0 = .ok (.aload_n 0, 1) := by decide +kernel
theorem dX10_chain_1 : decode cX10_chain 1 = .ok (.iload_n 1, 1) := by decide +kernel
theorem dX10_chain_2 : decode cX10_chain 2 = .ok (.iload_n 2, 1) := by decide +kernel
theorem dX10_chain_3 : decode cX10_chain 3 = .ok (.invokevirtual 183, 3) := by decide +kernel
theorem dX10_chain_6 : decode cX10_chain 6 = .ok (.ifCond .eq 15, 3) := by decide +kernel
theorem dX10_chain_9 : decode cX10_chain 9 = .ok (.aload_n 0, 1) := by decide +kernel
theorem dX10_chain_10 : decode cX10_chain 10 = .ok (.getfield 57, 3) := by decide +kernel
theorem dX10_chain_13 : decode cX10_chain 13 = .ok (.iload_n 1, 1) := by decide +kernel
theorem dX10_chain_14 : decode cX10_chain 14 = .ok (.iload_n 2, 1) := by decide +kernel
theorem dX10_chain_15 : decode cX10_chain 15 = .ok (.invokevirtual 263, 3) := by decide +kernel
theorem dX10_chain_18 : decode cX10_chain 18 = .ok (.goto 4, 3) := by decide +kernel
theorem dX10_chain_21 : decode cX10_chain 21 = .ok (.iconst (-1), 1) := by decide +kernel
theorem dX10_chain_22 : decode cX10_chain 22 = .ok (.ireturn, 1) := by decide +kernel
theorem dX10_chainAt_0 : decode cX10_chainAt 0 = .ok (.iload_n 1, 1) := by decide +kernel
theorem dX10_chainAt_1 : decode cX10_chainAt 1 = .ok (.ifCond .lt 20, 3) := by decide +kernel
theorem dX10_chainAt_4 : decode cX10_chainAt 4 = .ok (.iload_n 1, 1) := by decide +kernel
theorem dX10_chainAt_5 : decode cX10_chainAt 5 = .ok (.aload_n 0, 1) := by decide +kernel
theorem dX10_chainAt_6 : decode cX10_chainAt 6 = .ok (.getfield 57, 3) := by decide +kernel
theorem dX10_chainAt_9 : decode cX10_chainAt 9 = .ok (.getfield 266, 3) := by decide +kernel
theorem dX10_chainAt_12 : decode cX10_chainAt 12 = .ok (.if_icmp .ge 9, 3) := by decide +kernel
theorem dX10_chainAt_15 : decode cX10_chainAt 15 = .ok (.iload_n 1, 1) := by decide +kernel
theorem dX10_chainAt_16 : decode cX10_chainAt 16 = .ok (.bipush 7, 2) := by decide +kernel
theorem dX10_chainAt_18 : decode cX10_chainAt 18 = .ok (.if_icmp .lt 5, 3) := by decide +kernel
theorem dX10_chainAt_21 : decode cX10_chainAt 21 = .ok (.iconst (-1), 1) := by decide +kernel
theorem dX10_chainAt_22 : decode cX10_chainAt 22 = .ok (.ireturn, 1) := by decide +kernel
theorem dX10_chainAt_23 : decode cX10_chainAt 23 = .ok (.aload_n 0, 1) := by decide +kernel
theorem dX10_chainAt_24 : decode cX10_chainAt 24 = .ok (.getfield 57, 3) := by decide +kernel
theorem dX10_chainAt_27 : decode cX10_chainAt 27 = .ok (.getfield 269, 3) := by decide +kernel
theorem dX10_chainAt_30 : decode cX10_chainAt 30 = .ok (.iload_n 1, 1) := by decide +kernel
theorem dX10_chainAt_31 : decode cX10_chainAt 31 = .ok (.iaload, 1) := by decide +kernel
theorem dX10_chainAt_32 : decode cX10_chainAt 32 = .ok (.ireturn, 1) := by decide +kernel
theorem dX10_out_0 : decode cX10_out 0 = .ok (.aload_n 0, 1) := by decide +kernel
theorem dX10_out_1 : decode cX10_out 1 = .ok (.getfield 19, 3) := by decide +kernel
theorem dX10_out_4 : decode cX10_out 4 = .ok (.iload_n 1, 1) := by decide +kernel
theorem dX10_out_5 : decode cX10_out 5 = .ok (.invokevirtual 134, 3) := by decide +kernel
theorem dX10_out_8 : decode cX10_out 8 = .ok (.ifCond .eq 14, 3) := by decide +kernel
theorem dX10_out_11 : decode cX10_out 11 = .ok (.aload_n 0, 1) := by decide +kernel
theorem dX10_out_12 : decode cX10_out 12 = .ok (.getfield 57, 3) := by decide +kernel
theorem dX10_out_15 : decode cX10_out 15 = .ok (.iload_n 1, 1) := by decide +kernel
theorem dX10_out_16 : decode cX10_out 16 = .ok (.invokevirtual 272, 3) := by decide +kernel
theorem dX10_out_19 : decode cX10_out 19 = .ok (.goto 4, 3) := by decide +kernel
theorem dX10_out_22 : decode cX10_out 22 = .ok (.iconst (-1), 1) := by decide +kernel
theorem dX10_out_23 : decode cX10_out 23 = .ok (.ireturn, 1) := by decide +kernel
theorem dX10_apart_0 : decode cX10_apart 0 = .ok (.aload_n 0, 1) := by decide +kernel
theorem dX10_apart_1 : decode cX10_apart 1 = .ok (.iload_n 1, 1) := by decide +kernel
theorem dX10_apart_2 : decode cX10_apart 2 = .ok (.iload_n 2, 1) := by decide +kernel
theorem dX10_apart_3 : decode cX10_apart 3 = .ok (.invokevirtual 183, 3) := by decide +kernel
theorem dX10_apart_6 : decode cX10_apart 6 = .ok (.ifCond .eq 18, 3) := by decide +kernel
theorem dX10_apart_9 : decode cX10_apart 9 = .ok (.aload_n 0, 1) := by decide +kernel
theorem dX10_apart_10 : decode cX10_apart 10 = .ok (.getfield 37, 3) := by decide +kernel
theorem dX10_apart_13 : decode cX10_apart 13 = .ok (.iload_n 1, 1) := by decide +kernel
theorem dX10_apart_14 : decode cX10_apart 14 = .ok (.invokevirtual 145, 3) := by decide +kernel
theorem dX10_apart_17 : decode cX10_apart 17 = .ok (.iload_n 2, 1) := by decide +kernel
theorem dX10_apart_18 : decode cX10_apart 18 = .ok (.invokestatic 275, 3) := by decide +kernel
theorem dX10_apart_21 : decode cX10_apart 21 = .ok (.ifCond .eq 5, 3) := by decide +kernel
theorem dX10_apart_24 : decode cX10_apart 24 = .ok (.iconst (-1), 1) := by decide +kernel
theorem dX10_apart_25 : decode cX10_apart 25 = .ok (.ireturn, 1) := by decide +kernel
theorem dX10_apart_26 : decode cX10_apart 26 = .ok (.aload_n 0, 1) := by decide +kernel
theorem dX10_apart_27 : decode cX10_apart 27 = .ok (.getfield 57, 3) := by decide +kernel
theorem dX10_apart_30 : decode cX10_apart 30 = .ok (.iload_n 1, 1) := by decide +kernel
theorem dX10_apart_31 : decode cX10_apart 31 = .ok (.iload_n 2, 1) := by decide +kernel
theorem dX10_apart_32 : decode cX10_apart 32 = .ok (.invokevirtual 278, 3) := by decide +kernel
theorem dX10_apart_35 : decode cX10_apart 35 = .ok (.ireturn, 1) := by decide +kernel
theorem dX10_parting_0 : decode cX10_parting 0 = .ok (.aload_n 0, 1) := by decide +kernel
theorem dX10_parting_1 : decode cX10_parting 1 = .ok (.getfield 57, 3) := by decide +kernel
theorem dX10_parting_4 : decode cX10_parting 4 = .ok (.getfield 281, 3) := by decide +kernel
theorem dX10_parting_7 : decode cX10_parting 7 = .ok (.ireturn, 1) := by decide +kernel
theorem dX10_recluse_0 : decode cX10_recluse 0 = .ok (.aload_n 0, 1) := by decide +kernel
theorem dX10_recluse_1 : decode cX10_recluse 1 = .ok (.getfield 57, 3) := by decide +kernel
theorem dX10_recluse_4 : decode cX10_recluse 4 = .ok (.invokevirtual 284, 3) := by decide +kernel
theorem dX10_recluse_7 : decode cX10_recluse 7 = .ok (.ireturn, 1) := by decide +kernel
theorem dX10_face_0 : decode cX10_face 0 = .ok (.aload_n 0, 1) := by decide +kernel
theorem dX10_face_1 : decode cX10_face 1 = .ok (.getfield 19, 3) := by decide +kernel
theorem dX10_face_4 : decode cX10_face 4 = .ok (.iload_n 1, 1) := by decide +kernel
theorem dX10_face_5 : decode cX10_face 5 = .ok (.invokevirtual 134, 3) := by decide +kernel
theorem dX10_face_8 : decode cX10_face 8 = .ok (.ifCond .ne 5, 3) := by decide +kernel
theorem dX10_face_11 : decode cX10_face 11 = .ok (.iconst (-1), 1) := by decide +kernel
theorem dX10_face_12 : decode cX10_face 12 = .ok (.ireturn, 1) := by decide +kernel
theorem dX10_face_13 : decode cX10_face 13 = .ok (.aload_n 0, 1) := by decide +kernel
theorem dX10_face_14 : decode cX10_face 14 = .ok (.getfield 64, 3) := by decide +kernel
theorem dX10_face_17 : decode cX10_face 17 = .ok (.iload_n 1, 1) := by decide +kernel
theorem dX10_face_18 : decode cX10_face 18 = .ok (.aload_n 0, 1) := by decide +kernel
theorem dX10_face_19 : decode cX10_face 19 = .ok (.getfield 19, 3) := by decide +kernel
theorem dX10_face_22 : decode cX10_face 22 = .ok (.aload_n 0, 1) := by decide +kernel
theorem dX10_face_23 : decode cX10_face 23 = .ok (.getfield 37, 3) := by decide +kernel
theorem dX10_face_26 : decode cX10_face 26 = .ok (.invokevirtual 287, 3) := by decide +kernel
theorem dX10_face_29 : decode cX10_face 29 = .ok (.aload_n 0, 1) := by decide +kernel
theorem dX10_face_30 : decode cX10_face 30 = .ok (.getfield 64, 3) := by decide +kernel
theorem dX10_face_33 : decode cX10_face 33 = .ok (.getfield 291, 3) := by decide +kernel
theorem dX10_face_36 : decode cX10_face 36 = .ok (.ireturn, 1) := by decide +kernel
theorem dX10_byteAt_0 : decode cX10_byteAt 0 = .ok (.aload_n 0, 1) := by decide +kernel
theorem dX10_byteAt_1 : decode cX10_byteAt 1 = .ok (.getfield 64, 3) := by decide +kernel
theorem dX10_byteAt_4 : decode cX10_byteAt 4 = .ok (.iload_n 1, 1) := by decide +kernel
theorem dX10_byteAt_5 : decode cX10_byteAt 5 = .ok (.invokevirtual 292, 3) := by decide +kernel
theorem dX10_byteAt_8 : decode cX10_byteAt 8 = .ok (.ireturn, 1) := by decide +kernel
theorem dX10_drawn_0 : decode cX10_drawn 0 = .ok (.iload_n 1, 1) := by decide +kernel
theorem dX10_drawn_1 : decode cX10_drawn 1 = .ok (.iconst 1, 1) := by decide +kernel
theorem dX10_drawn_2 : decode cX10_drawn 2 = .ok (.if_icmp .lt 9, 3) := by decide +kernel
theorem dX10_drawn_5 : decode cX10_drawn 5 = .ok (.iload_n 1, 1) := by decide +kernel
theorem dX10_drawn_6 : decode cX10_drawn 6 = .ok (.bipush 60, 2) := by decide +kernel
theorem dX10_drawn_8 : decode cX10_drawn 8 = .ok (.if_icmp .le 5, 3) := by decide +kernel
theorem dX10_drawn_11 : decode cX10_drawn 11 = .ok (.iconst (-1), 1) := by decide +kernel
theorem dX10_drawn_12 : decode cX10_drawn 12 = .ok (.ireturn, 1) := by decide +kernel
theorem dX10_drawn_13 : decode cX10_drawn 13 = .ok (.aload_n 0, 1) := by decide +kernel
theorem dX10_drawn_14 : decode cX10_drawn 14 = .ok (.getfield 37, 3) := by decide +kernel
theorem dX10_drawn_17 : decode cX10_drawn 17 = .ok (.getfield 193, 3) := by decide +kernel
theorem dX10_drawn_20 : decode cX10_drawn 20 = .ok (.sipush 400, 3) := by decide +kernel
theorem dX10_drawn_23 : decode cX10_drawn 23 = .ok (.if_icmp .lt 5, 3) := by decide +kernel
theorem dX10_drawn_26 : decode cX10_drawn 26 = .ok (.iconst 0, 1) := by decide +kernel
theorem dX10_drawn_27 : decode cX10_drawn 27 = .ok (.ireturn, 1) := by decide +kernel
theorem dX10_drawn_28 : decode cX10_drawn 28 = .ok (.aload_n 0, 1) := by decide +kernel
theorem dX10_drawn_29 : decode cX10_drawn 29 = .ok (.invokevirtual 215, 3) := by decide +kernel
theorem dX10_drawn_32 : decode cX10_drawn 32 = .ok (.aload_n 0, 1) := by decide +kernel
theorem dX10_drawn_33 : decode cX10_drawn 33 = .ok (.getfield 37, 3) := by decide +kernel
theorem dX10_drawn_36 : decode cX10_drawn 36 = .ok (.iload_n 1, 1) := by decide +kernel
theorem dX10_drawn_37 : decode cX10_drawn 37 = .ok (.iload_n 2, 1) := by decide +kernel
theorem dX10_drawn_38 : decode cX10_drawn 38 = .ok (.invokevirtual 295, 3) := by decide +kernel
theorem dX10_drawn_41 : decode cX10_drawn 41 = .ok (.ireturn, 1) := by decide +kernel
theorem dX10_odds_0 : decode cX10_odds 0 = .ok (.aload_n 0, 1) := by decide +kernel
theorem dX10_odds_1 : decode cX10_odds 1 = .ok (.getfield 19, 3) := by decide +kernel
theorem dX10_odds_4 : decode cX10_odds 4 = .ok (.iload_n 1, 1) := by decide +kernel
theorem dX10_odds_5 : decode cX10_odds 5 = .ok (.invokevirtual 134, 3) := by decide +kernel
theorem dX10_odds_8 : decode cX10_odds 8 = .ok (.ifCond .eq 14, 3) := by decide +kernel
theorem dX10_odds_11 : decode cX10_odds 11 = .ok (.iload_n 2, 1) := by decide +kernel
theorem dX10_odds_12 : decode cX10_odds 12 = .ok (.iconst 1, 1) := by decide +kernel
theorem dX10_odds_13 : decode cX10_odds 13 = .ok (.if_icmp .lt 9, 3) := by decide +kernel
theorem dX10_odds_16 : decode cX10_odds 16 = .ok (.iload_n 2, 1) := by decide +kernel
theorem dX10_odds_17 : decode cX10_odds 17 = .ok (.bipush 30, 2) := by decide +kernel
theorem dX10_odds_19 : decode cX10_odds 19 = .ok (.if_icmp .le 5, 3) := by decide +kernel
theorem dX10_odds_22 : decode cX10_odds 22 = .ok (.iconst (-1), 1) := by decide +kernel
theorem dX10_odds_23 : decode cX10_odds 23 = .ok (.ireturn, 1) := by decide +kernel
theorem dX10_odds_24 : decode cX10_odds 24 = .ok (.iconst 0, 1) := by decide +kernel
theorem dX10_odds_25 : decode cX10_odds 25 = .ok (.istore 4, 2) := by decide +kernel
theorem dX10_odds_27 : decode cX10_odds 27 = .ok (.iconst 0, 1) := by decide +kernel
theorem dX10_odds_28 : decode cX10_odds 28 = .ok (.istore 5, 2) := by decide +kernel
theorem dX10_odds_30 : decode cX10_odds 30 = .ok (.iload 5, 2) := by decide +kernel
theorem dX10_odds_32 : decode cX10_odds 32 = .ok (.iload_n 2, 1) := by decide +kernel
theorem dX10_odds_33 : decode cX10_odds 33 = .ok (.if_icmp .ge 58, 3) := by decide +kernel
theorem dX10_odds_36 : decode cX10_odds 36 = .ok (.aload_n 0, 1) := by decide +kernel
theorem dX10_odds_37 : decode cX10_odds 37 = .ok (.getfield 41, 3) := by decide +kernel
theorem dX10_odds_40 : decode cX10_odds 40 = .ok (.aload_n 0, 1) := by decide +kernel
theorem dX10_odds_41 : decode cX10_odds 41 = .ok (.getfield 37, 3) := by decide +kernel
theorem dX10_odds_44 : decode cX10_odds 44 = .ok (.invokevirtual 244, 3) := by decide +kernel
theorem dX10_odds_47 : decode cX10_odds 47 = .ok (.aload_n 0, 1) := by decide +kernel
theorem dX10_odds_48 : decode cX10_odds 48 = .ok (.getfield 41, 3) := by decide +kernel
theorem dX10_odds_51 : decode cX10_odds 51 = .ok (.bipush 10, 2) := by decide +kernel
theorem dX10_odds_53 : decode cX10_odds 53 = .ok (.iload_n 3, 1) := by decide +kernel
theorem dX10_odds_54 : decode cX10_odds 54 = .ok (.iload 5, 2) := by decide +kernel
theorem dX10_odds_56 : decode cX10_odds 56 = .ok (.iadd, 1) := by decide +kernel
theorem dX10_odds_57 : decode cX10_odds 57 = .ok (.invokevirtual 295, 3) := by decide +kernel
theorem dX10_odds_60 : decode cX10_odds 60 = .ok (.pop, 1) := by decide +kernel
theorem dX10_odds_61 : decode cX10_odds 61 = .ok (.aload_n 0, 1) := by decide +kernel
theorem dX10_odds_62 : decode cX10_odds 62 = .ok (.getfield 41, 3) := by decide +kernel
theorem dX10_odds_65 : decode cX10_odds 65 = .ok (.getfield 141, 3) := by decide +kernel
theorem dX10_odds_68 : decode cX10_odds 68 = .ok (.iload_n 1, 1) := by decide +kernel
theorem dX10_odds_69 : decode cX10_odds 69 = .ok (.iaload, 1) := by decide +kernel
theorem dX10_odds_70 : decode cX10_odds 70 = .ok (.aload_n 0, 1) := by decide +kernel
theorem dX10_odds_71 : decode cX10_odds 71 = .ok (.getfield 37, 3) := by decide +kernel
theorem dX10_odds_74 : decode cX10_odds 74 = .ok (.getfield 141, 3) := by decide +kernel
theorem dX10_odds_77 : decode cX10_odds 77 = .ok (.iload_n 1, 1) := by decide +kernel
theorem dX10_odds_78 : decode cX10_odds 78 = .ok (.iaload, 1) := by decide +kernel
theorem dX10_odds_79 : decode cX10_odds 79 = .ok (.if_icmp .le 6, 3) := by decide +kernel
theorem dX10_odds_82 : decode cX10_odds 82 = .ok (.iinc 4 1, 3) := by decide +kernel
theorem dX10_odds_85 : decode cX10_odds 85 = .ok (.iinc 5 1, 3) := by decide +kernel
theorem dX10_odds_88 : decode cX10_odds 88 = .ok (.goto (-58), 3) := by decide +kernel
theorem dX10_odds_91 : decode cX10_odds 91 = .ok (.iload 4, 2) := by decide +kernel
theorem dX10_odds_93 : decode cX10_odds 93 = .ok (.ireturn, 1) := by decide +kernel
theorem dX10_book_0 : decode cX10_book 0 = .ok (.iload_n 1, 1) := by decide +kernel
theorem dX10_book_1 : decode cX10_book 1 = .ok (.ifCond .eq 12, 3) := by decide +kernel
theorem dX10_book_4 : decode cX10_book 4 = .ok (.iload_n 1, 1) := by decide +kernel
theorem dX10_book_5 : decode cX10_book 5 = .ok (.iconst 1, 1) := by decide +kernel
theorem dX10_book_6 : decode cX10_book 6 = .ok (.if_icmp .eq 7, 3) := by decide +kernel
theorem dX10_book_9 : decode cX10_book 9 = .ok (.sipush (-1000), 3) := by decide +kernel
theorem dX10_book_12 : decode cX10_book 12 = .ok (.ireturn, 1) := by decide +kernel
theorem dX10_book_13 : decode cX10_book 13 = .ok (.aload_n 0, 1) := by decide +kernel
theorem dX10_book_14 : decode cX10_book 14 = .ok (.getfield 73, 3) := by decide +kernel
theorem dX10_book_17 : decode cX10_book 17 = .ok (.invokevirtual 298, 3) := by decide +kernel
theorem dX10_book_20 : decode cX10_book 20 = .ok (.istore_n 2, 1) := by decide +kernel
theorem dX10_book_21 : decode cX10_book 21 = .ok (.aload_n 0, 1) := by decide +kernel
theorem dX10_book_22 : decode cX10_book 22 = .ok (.getfield 10, 3) := by decide +kernel
theorem dX10_book_25 : decode cX10_book 25 = .ok (.iconst 0, 1) := by decide +kernel
theorem dX10_book_26 : decode cX10_book 26 = .ok (.putfield 112, 3) := by decide +kernel
theorem dX10_book_29 : decode cX10_book 29 = .ok (.iload_n 2, 1) := by decide +kernel
theorem dX10_book_30 : decode cX10_book 30 = .ok (.ifCond .ne 14, 3) := by decide +kernel
theorem dX10_book_33 : decode cX10_book 33 = .ok (.bipush (-2), 2) := by decide +kernel
theorem dX10_book_35 : decode cX10_book 35 = .ok (.aload_n 0, 1) := by decide +kernel
theorem dX10_book_36 : decode cX10_book 36 = .ok (.getfield 10, 3) := by decide +kernel
theorem dX10_book_39 : decode cX10_book 39 = .ok (.getfield 119, 3) := by decide +kernel
theorem dX10_book_42 : decode cX10_book 42 = .ok (.isub, 1) := by decide +kernel
theorem dX10_book_43 : decode cX10_book 43 = .ok (.ireturn, 1) := by decide +kernel
theorem dX10_book_44 : decode cX10_book 44 = .ok (.aload_n 0, 1) := by decide +kernel
theorem dX10_book_45 : decode cX10_book 45 = .ok (.getfield 41, 3) := by decide +kernel
theorem dX10_book_48 : decode cX10_book 48 = .ok (.aload_n 0, 1) := by decide +kernel
theorem dX10_book_49 : decode cX10_book 49 = .ok (.getfield 37, 3) := by decide +kernel
theorem dX10_book_52 : decode cX10_book 52 = .ok (.invokevirtual 244, 3) := by decide +kernel
theorem dX10_book_55 : decode cX10_book 55 = .ok (.aload_n 0, 1) := by decide +kernel
theorem dX10_book_56 : decode cX10_book 56 = .ok (.getfield 73, 3) := by decide +kernel
theorem dX10_book_59 : decode cX10_book 59 = .ok (.aload_n 0, 1) := by decide +kernel
theorem dX10_book_60 : decode cX10_book 60 = .ok (.getfield 41, 3) := by decide +kernel
theorem dX10_book_63 : decode cX10_book 63 = .ok (.invokevirtual 300, 3) := by decide +kernel
theorem dX10_book_66 : decode cX10_book 66 = .ok (.iload_n 1, 1) := by decide +kernel
theorem dX10_book_67 : decode cX10_book 67 = .ok (.iconst 1, 1) := by decide +kernel
theorem dX10_book_68 : decode cX10_book 68 = .ok (.if_icmp .ne 28, 3) := by decide +kernel
theorem dX10_book_71 : decode cX10_book 71 = .ok (.aload_n 0, 1) := by decide +kernel
theorem dX10_book_72 : decode cX10_book 72 = .ok (.getfield 73, 3) := by decide +kernel
theorem dX10_book_75 : decode cX10_book 75 = .ok (.getfield 303, 3) := by decide +kernel
theorem dX10_book_78 : decode cX10_book 78 = .ok (.ifCond .le 18, 3) := by decide +kernel
theorem dX10_book_81 : decode cX10_book 81 = .ok (.aload_n 0, 1) := by decide +kernel
theorem dX10_book_82 : decode cX10_book 82 = .ok (.invokevirtual 215, 3) := by decide +kernel
theorem dX10_book_85 : decode cX10_book 85 = .ok (.aload_n 0, 1) := by decide +kernel
theorem dX10_book_86 : decode cX10_book 86 = .ok (.getfield 37, 3) := by decide +kernel
theorem dX10_book_89 : decode cX10_book 89 = .ok (.aload_n 0, 1) := by decide +kernel
theorem dX10_book_90 : decode cX10_book 90 = .ok (.getfield 41, 3) := by decide +kernel
theorem dX10_book_93 : decode cX10_book 93 = .ok (.invokevirtual 244, 3) := by decide +kernel
theorem dX10_book_96 : decode cX10_book 96 = .ok (.aload_n 0, 1) := by decide +kernel
theorem dX10_book_97 : decode cX10_book 97 = .ok (.getfield 73, 3) := by decide +kernel
theorem dX10_book_100 : decode cX10_book 100 = .ok (.getfield 306, 3) := by decide +kernel
theorem dX10_book_103 : decode cX10_book 103 = .ok (.ifCond .ne 7, 3) := by decide +kernel
theorem dX10_book_106 : decode cX10_book 106 = .ok (.iconst (-1), 1) := by decide +kernel
theorem dX10_book_107 : decode cX10_book 107 = .ok (.goto 10, 3) := by decide +kernel
theorem dX10_book_110 : decode cX10_book 110 = .ok (.aload_n 0, 1) := by decide +kernel
theorem dX10_book_111 : decode cX10_book 111 = .ok (.getfield 73, 3) := by decide +kernel
theorem dX10_book_114 : decode cX10_book 114 = .ok (.getfield 303, 3) := by decide +kernel
theorem dX10_book_117 : decode cX10_book 117 = .ok (.ireturn, 1) := by decide +kernel
theorem dX10_told_0 : decode cX10_told 0 = .ok (.aload_n 0, 1) := by decide +kernel
theorem dX10_told_1 : decode cX10_told 1 = .ok (.getfield 73, 3) := by decide +kernel
theorem dX10_told_4 : decode cX10_told 4 = .ok (.getfield 309, 3) := by decide +kernel
theorem dX10_told_7 : decode cX10_told 7 = .ok (.ifCond .ne 5, 3) := by decide +kernel
theorem dX10_told_10 : decode cX10_told 10 = .ok (.iconst (-1), 1) := by decide +kernel
theorem dX10_told_11 : decode cX10_told 11 = .ok (.ireturn, 1) := by decide +kernel
theorem dX10_told_12 : decode cX10_told 12 = .ok (.iload_n 1, 1) := by decide +kernel
theorem dX10_told_13 : decode cX10_told 13 = .ok (.tableswitch 63 0 3 #[31, 39, 47, 55], 31) := by decide +kernel
theorem dX10_told_44 : decode cX10_told 44 = .ok (.aload_n 0, 1) := by decide +kernel
theorem dX10_told_45 : decode cX10_told 45 = .ok (.getfield 73, 3) := by decide +kernel
theorem dX10_told_48 : decode cX10_told 48 = .ok (.getfield 306, 3) := by decide +kernel
theorem dX10_told_51 : decode cX10_told 51 = .ok (.ireturn, 1) := by decide +kernel
theorem dX10_told_52 : decode cX10_told 52 = .ok (.aload_n 0, 1) := by decide +kernel
theorem dX10_told_53 : decode cX10_told 53 = .ok (.getfield 73, 3) := by decide +kernel
theorem dX10_told_56 : decode cX10_told 56 = .ok (.getfield 303, 3) := by decide +kernel
theorem dX10_told_59 : decode cX10_told 59 = .ok (.ireturn, 1) := by decide +kernel
theorem dX10_told_60 : decode cX10_told 60 = .ok (.aload_n 0, 1) := by decide +kernel
theorem dX10_told_61 : decode cX10_told 61 = .ok (.getfield 73, 3) := by decide +kernel
theorem dX10_told_64 : decode cX10_told 64 = .ok (.getfield 313, 3) := by decide +kernel
theorem dX10_told_67 : decode cX10_told 67 = .ok (.ireturn, 1) := by decide +kernel
theorem dX10_told_68 : decode cX10_told 68 = .ok (.aload_n 0, 1) := by decide +kernel
theorem dX10_told_69 : decode cX10_told 69 = .ok (.getfield 73, 3) := by decide +kernel
theorem dX10_told_72 : decode cX10_told 72 = .ok (.getfield 316, 3) := by decide +kernel
theorem dX10_told_75 : decode cX10_told 75 = .ok (.ireturn, 1) := by decide +kernel
theorem dX10_told_76 : decode cX10_told 76 = .ok (.iconst (-1), 1) := by decide +kernel
theorem dX10_told_77 : decode cX10_told 77 = .ok (.ireturn, 1) := by decide +kernel
theorem dX10_sentence_0 : decode cX10_sentence 0 = .ok (.aload_n 0, 1) := by decide +kernel
theorem dX10_sentence_1 : decode cX10_sentence 1 = .ok (.getfield 87, 3) := by decide +kernel
theorem dX10_sentence_4 : decode cX10_sentence 4 = .ok (.invokevirtual 319, 3) := by decide +kernel
theorem dX10_sentence_7 : decode cX10_sentence 7 = .ok (.istore_n 1, 1) := by decide +kernel
theorem dX10_sentence_8 : decode cX10_sentence 8 = .ok (.aload_n 0, 1) := by decide +kernel
theorem dX10_sentence_9 : decode cX10_sentence 9 = .ok (.getfield 10, 3) := by decide +kernel
theorem dX10_sentence_12 : decode cX10_sentence 12 = .ok (.iconst 0, 1) := by decide +kernel
theorem dX10_sentence_13 : decode cX10_sentence 13 = .ok (.putfield 112, 3) := by decide +kernel
theorem dX10_sentence_16 : decode cX10_sentence 16 = .ok (.iload_n 1, 1) := by decide +kernel
theorem dX10_sentence_17 : decode cX10_sentence 17 = .ok (.ifCond .ne 13, 3) := by decide +kernel
theorem dX10_sentence_20 : decode cX10_sentence 20 = .ok (.iconst (-1), 1) := by decide +kernel
theorem dX10_sentence_21 : decode cX10_sentence 21 = .ok (.aload_n 0, 1) := by decide +kernel
theorem dX10_sentence_22 : decode cX10_sentence 22 = .ok (.getfield 10, 3) := by decide +kernel
theorem dX10_sentence_25 : decode cX10_sentence 25 = .ok (.getfield 119, 3) := by decide +kernel
theorem dX10_sentence_28 : decode cX10_sentence 28 = .ok (.isub, 1) := by decide +kernel
theorem dX10_sentence_29 : decode cX10_sentence 29 = .ok (.ireturn, 1) := by decide +kernel
theorem dX10_sentence_30 : decode cX10_sentence 30 = .ok (.aload_n 0, 1) := by decide +kernel
theorem dX10_sentence_31 : decode cX10_sentence 31 = .ok (.getfield 80, 3) := by decide +kernel
theorem dX10_sentence_34 : decode cX10_sentence 34 = .ok (.aload_n 0, 1) := by decide +kernel
theorem dX10_sentence_35 : decode cX10_sentence 35 = .ok (.getfield 87, 3) := by decide +kernel
theorem dX10_sentence_38 : decode cX10_sentence 38 = .ok (.getfield 320, 3) := by decide +kernel
theorem dX10_sentence_41 : decode cX10_sentence 41 = .ok (.invokevirtual 322, 3) := by decide +kernel
theorem dX10_sentence_44 : decode cX10_sentence 44 = .ok (.aload_n 0, 1) := by decide +kernel
theorem dX10_sentence_45 : decode cX10_sentence 45 = .ok (.getfield 80, 3) := by decide +kernel
theorem dX10_sentence_48 : decode cX10_sentence 48 = .ok (.getfield 325, 3) := by decide +kernel
theorem dX10_sentence_51 : decode cX10_sentence 51 = .ok (.ireturn, 1) := by decide +kernel
theorem dX10_said_0 : decode cX10_said 0 = .ok (.aload_n 0, 1) := by decide +kernel
theorem dX10_said_1 : decode cX10_said 1 = .ok (.getfield 80, 3) := by decide +kernel
theorem dX10_said_4 : decode cX10_said 4 = .ok (.getfield 325, 3) := by decide +kernel
theorem dX10_said_7 : decode cX10_said 7 = .ok (.ifCond .eq 8, 3) := by decide +kernel
theorem dX10_said_10 : decode cX10_said 10 = .ok (.iload_n 1, 1) := by decide +kernel
theorem dX10_said_11 : decode cX10_said 11 = .ok (.iconst (-1), 1) := by decide +kernel
theorem dX10_said_12 : decode cX10_said 12 = .ok (.if_icmp .ge 5, 3) := by decide +kernel
theorem dX10_said_15 : decode cX10_said 15 = .ok (.iconst (-1), 1) := by decide +kernel
theorem dX10_said_16 : decode cX10_said 16 = .ok (.ireturn, 1) := by decide +kernel
theorem dX10_said_17 : decode cX10_said 17 = .ok (.aload_n 0, 1) := by decide +kernel
theorem dX10_said_18 : decode cX10_said 18 = .ok (.getfield 80, 3) := by decide +kernel
theorem dX10_said_21 : decode cX10_said 21 = .ok (.aload_n 0, 1) := by decide +kernel
theorem dX10_said_22 : decode cX10_said 22 = .ok (.getfield 19, 3) := by decide +kernel
theorem dX10_said_25 : decode cX10_said 25 = .ok (.aload_n 0, 1) := by decide +kernel
theorem dX10_said_26 : decode cX10_said 26 = .ok (.getfield 37, 3) := by decide +kernel
theorem dX10_said_29 : decode cX10_said 29 = .ok (.invokevirtual 328, 3) := by decide +kernel
theorem dX10_said_32 : decode cX10_said 32 = .ok (.istore_n 2, 1) := by decide +kernel
theorem dX10_said_33 : decode cX10_said 33 = .ok (.iload_n 1, 1) := by decide +kernel
theorem dX10_said_34 : decode cX10_said 34 = .ok (.iconst (-1), 1) := by decide +kernel
theorem dX10_said_35 : decode cX10_said 35 = .ok (.if_icmp .ne 10, 3) := by decide +kernel
theorem dX10_said_38 : decode cX10_said 38 = .ok (.iload_n 2, 1) := by decide +kernel
theorem dX10_said_39 : decode cX10_said 39 = .ok (.invokestatic 332, 3) := by decide +kernel
theorem dX10_said_42 : decode cX10_said 42 = .ok (.goto 8, 3) := by decide +kernel
theorem dX10_said_45 : decode cX10_said 45 = .ok (.iload_n 2, 1) := by decide +kernel
theorem dX10_said_46 : decode cX10_said 46 = .ok (.iload_n 1, 1) := by decide +kernel
theorem dX10_said_47 : decode cX10_said 47 = .ok (.invokestatic 337, 3) := by decide +kernel
theorem dX10_said_50 : decode cX10_said 50 = .ok (.ireturn, 1) := by decide +kernel
theorem dX10_image_0 : decode cX10_image 0 = .ok (.iload_n 1, 1) := by decide +kernel
theorem dX10_image_1 : decode cX10_image 1 = .ok (.ifCond .eq 10, 3) := by decide +kernel
theorem dX10_image_4 : decode cX10_image 4 = .ok (.iload_n 1, 1) := by decide +kernel
theorem dX10_image_5 : decode cX10_image 5 = .ok (.iconst 1, 1) := by decide +kernel
theorem dX10_image_6 : decode cX10_image 6 = .ok (.if_icmp .eq 5, 3) := by decide +kernel
theorem dX10_image_9 : decode cX10_image 9 = .ok (.iconst 0, 1) := by decide +kernel
theorem dX10_image_10 : decode cX10_image 10 = .ok (.ireturn, 1) := by decide +kernel
theorem dX10_image_11 : decode cX10_image 11 = .ok (.iload_n 1, 1) := by decide +kernel
theorem dX10_image_12 : decode cX10_image 12 = .ok (.ifCond .ne 10, 3) := by decide +kernel
theorem dX10_image_15 : decode cX10_image 15 = .ok (.aload_n 0, 1) := by decide +kernel
theorem dX10_image_16 : decode cX10_image 16 = .ok (.getfield 94, 3) := by decide +kernel
theorem dX10_image_19 : decode cX10_image 19 = .ok (.goto 7, 3) := by decide +kernel
theorem dX10_image_22 : decode cX10_image 22 = .ok (.aload_n 0, 1) := by decide +kernel
theorem dX10_image_23 : decode cX10_image 23 = .ok (.getfield 98, 3) := by decide +kernel
theorem dX10_image_26 : decode cX10_image 26 = .ok (.astore_n 2, 1) := by decide +kernel
theorem dX10_image_27 : decode cX10_image 27 = .ok (.aload_n 2, 1) := by decide +kernel
theorem dX10_image_28 : decode cX10_image 28 = .ok (.getfield 340, 3) := by decide +kernel
theorem dX10_image_31 : decode cX10_image 31 = .ok (.aload_n 0, 1) := by decide +kernel
theorem dX10_image_32 : decode cX10_image 32 = .ok (.getfield 19, 3) := by decide +kernel
theorem dX10_image_35 : decode cX10_image 35 = .ok (.invokevirtual 125, 3) := by decide +kernel
theorem dX10_image_38 : decode cX10_image 38 = .ok (.aload_n 2, 1) := by decide +kernel
theorem dX10_image_39 : decode cX10_image 39 = .ok (.getfield 341, 3) := by decide +kernel
theorem dX10_image_42 : decode cX10_image 42 = .ok (.aload_n 0, 1) := by decide +kernel
theorem dX10_image_43 : decode cX10_image 43 = .ok (.getfield 37, 3) := by decide +kernel
theorem dX10_image_46 : decode cX10_image 46 = .ok (.invokevirtual 244, 3) := by decide +kernel
theorem dX10_image_49 : decode cX10_image 49 = .ok (.aload_n 2, 1) := by decide +kernel
theorem dX10_image_50 : decode cX10_image 50 = .ok (.getfield 342, 3) := by decide +kernel
theorem dX10_image_53 : decode cX10_image 53 = .ok (.aload_n 0, 1) := by decide +kernel
theorem dX10_image_54 : decode cX10_image 54 = .ok (.getfield 80, 3) := by decide +kernel
theorem dX10_image_57 : decode cX10_image 57 = .ok (.invokevirtual 322, 3) := by decide +kernel
theorem dX10_image_60 : decode cX10_image 60 = .ok (.aload_n 2, 1) := by decide +kernel
theorem dX10_image_61 : decode cX10_image 61 = .ok (.iconst 1, 1) := by decide +kernel
theorem dX10_image_62 : decode cX10_image 62 = .ok (.putfield 343, 3) := by decide +kernel
theorem dX10_image_65 : decode cX10_image 65 = .ok (.iconst 1, 1) := by decide +kernel
theorem dX10_image_66 : decode cX10_image 66 = .ok (.ireturn, 1) := by decide +kernel
theorem dX10_restore_0 : decode cX10_restore 0 = .ok (.iload_n 1, 1) := by decide +kernel
theorem dX10_restore_1 : decode cX10_restore 1 = .ok (.ifCond .eq 10, 3) := by decide +kernel
theorem dX10_restore_4 : decode cX10_restore 4 = .ok (.iload_n 1, 1) := by decide +kernel
theorem dX10_restore_5 : decode cX10_restore 5 = .ok (.iconst 1, 1) := by decide +kernel
theorem dX10_restore_6 : decode cX10_restore 6 = .ok (.if_icmp .eq 5, 3) := by decide +kernel
theorem dX10_restore_9 : decode cX10_restore 9 = .ok (.iconst 0, 1) := by decide +kernel
theorem dX10_restore_10 : decode cX10_restore 10 = .ok (.ireturn, 1) := by decide +kernel
theorem dX10_restore_11 : decode cX10_restore 11 = .ok (.iload_n 1, 1) := by decide +kernel
theorem dX10_restore_12 : decode cX10_restore 12 = .ok (.ifCond .ne 10, 3) := by decide +kernel
theorem dX10_restore_15 : decode cX10_restore 15 = .ok (.aload_n 0, 1) := by decide +kernel
theorem dX10_restore_16 : decode cX10_restore 16 = .ok (.getfield 94, 3) := by decide +kernel
theorem dX10_restore_19 : decode cX10_restore 19 = .ok (.goto 7, 3) := by decide +kernel
theorem dX10_restore_22 : decode cX10_restore 22 = .ok (.aload_n 0, 1) := by decide +kernel
theorem dX10_restore_23 : decode cX10_restore 23 = .ok (.getfield 98, 3) := by decide +kernel
theorem dX10_restore_26 : decode cX10_restore 26 = .ok (.astore_n 2, 1) := by decide +kernel
theorem dX10_restore_27 : decode cX10_restore 27 = .ok (.aload_n 2, 1) := by decide +kernel
theorem dX10_restore_28 : decode cX10_restore 28 = .ok (.getfield 343, 3) := by decide +kernel
theorem dX10_restore_31 : decode cX10_restore 31 = .ok (.ifCond .ne 5, 3) := by decide +kernel
theorem dX10_restore_34 : decode cX10_restore 34 = .ok (.iconst 0, 1) := by decide +kernel
theorem dX10_restore_35 : decode cX10_restore 35 = .ok (.ireturn, 1) := by decide +kernel
theorem dX10_restore_36 : decode cX10_restore 36 = .ok (.aload_n 0, 1) := by decide +kernel
theorem dX10_restore_37 : decode cX10_restore 37 = .ok (.getfield 19, 3) := by decide +kernel
theorem dX10_restore_40 : decode cX10_restore 40 = .ok (.aload_n 2, 1) := by decide +kernel
theorem dX10_restore_41 : decode cX10_restore 41 = .ok (.getfield 340, 3) := by decide +kernel
theorem dX10_restore_44 : decode cX10_restore 44 = .ok (.invokevirtual 125, 3) := by decide +kernel
theorem dX10_restore_47 : decode cX10_restore 47 = .ok (.aload_n 0, 1) := by decide +kernel
theorem dX10_restore_48 : decode cX10_restore 48 = .ok (.getfield 37, 3) := by decide +kernel
theorem dX10_restore_51 : decode cX10_restore 51 = .ok (.aload_n 2, 1) := by decide +kernel
theorem dX10_restore_52 : decode cX10_restore 52 = .ok (.getfield 341, 3) := by decide +kernel
theorem dX10_restore_55 : decode cX10_restore 55 = .ok (.invokevirtual 244, 3) := by decide +kernel
theorem dX10_restore_58 : decode cX10_restore 58 = .ok (.aload_n 0, 1) := by decide +kernel
theorem dX10_restore_59 : decode cX10_restore 59 = .ok (.getfield 80, 3) := by decide +kernel
theorem dX10_restore_62 : decode cX10_restore 62 = .ok (.aload_n 2, 1) := by decide +kernel
theorem dX10_restore_63 : decode cX10_restore 63 = .ok (.getfield 342, 3) := by decide +kernel
theorem dX10_restore_66 : decode cX10_restore 66 = .ok (.invokevirtual 322, 3) := by decide +kernel
theorem dX10_restore_69 : decode cX10_restore 69 = .ok (.aload_n 0, 1) := by decide +kernel
theorem dX10_restore_70 : decode cX10_restore 70 = .ok (.iconst 0, 1) := by decide +kernel
theorem dX10_restore_71 : decode cX10_restore 71 = .ok (.putfield 48, 3) := by decide +kernel
theorem dX10_restore_74 : decode cX10_restore 74 = .ok (.iconst 1, 1) := by decide +kernel
theorem dX10_restore_75 : decode cX10_restore 75 = .ok (.ireturn, 1) := by decide +kernel
theorem dX10_count_0 : decode cX10_count 0 = .ok (.iload_n 1, 1) := by decide +kernel
theorem dX10_count_1 : decode cX10_count 1 = .ok (.tableswitch 87 0 5 #[39, 47, 55, 63, 71, 79], 39) := by decide +kernel
theorem dX10_count_40 : decode cX10_count 40 = .ok (.aload_n 0, 1) := by decide +kernel
theorem dX10_count_41 : decode cX10_count 41 = .ok (.getfield 19, 3) := by decide +kernel
theorem dX10_count_44 : decode cX10_count 44 = .ok (.getfield 346, 3) := by decide +kernel
theorem dX10_count_47 : decode cX10_count 47 = .ok (.ireturn, 1) := by decide +kernel
theorem dX10_count_48 : decode cX10_count 48 = .ok (.aload_n 0, 1) := by decide +kernel
theorem dX10_count_49 : decode cX10_count 49 = .ok (.getfield 19, 3) := by decide +kernel
theorem dX10_count_52 : decode cX10_count 52 = .ok (.getfield 349, 3) := by decide +kernel
theorem dX10_count_55 : decode cX10_count 55 = .ok (.ireturn, 1) := by decide +kernel
theorem dX10_count_56 : decode cX10_count 56 = .ok (.aload_n 0, 1) := by decide +kernel
theorem dX10_count_57 : decode cX10_count 57 = .ok (.getfield 19, 3) := by decide +kernel
theorem dX10_count_60 : decode cX10_count 60 = .ok (.getfield 352, 3) := by decide +kernel
theorem dX10_count_63 : decode cX10_count 63 = .ok (.ireturn, 1) := by decide +kernel
theorem dX10_count_64 : decode cX10_count 64 = .ok (.aload_n 0, 1) := by decide +kernel
theorem dX10_count_65 : decode cX10_count 65 = .ok (.getfield 19, 3) := by decide +kernel
theorem dX10_count_68 : decode cX10_count 68 = .ok (.getfield 354, 3) := by decide +kernel
theorem dX10_count_71 : decode cX10_count 71 = .ok (.ireturn, 1) := by decide +kernel
theorem dX10_count_72 : decode cX10_count 72 = .ok (.aload_n 0, 1) := by decide +kernel
theorem dX10_count_73 : decode cX10_count 73 = .ok (.getfield 19, 3) := by decide +kernel
theorem dX10_count_76 : decode cX10_count 76 = .ok (.getfield 357, 3) := by decide +kernel
theorem dX10_count_79 : decode cX10_count 79 = .ok (.ireturn, 1) := by decide +kernel
theorem dX10_count_80 : decode cX10_count 80 = .ok (.aload_n 0, 1) := by decide +kernel
theorem dX10_count_81 : decode cX10_count 81 = .ok (.getfield 10, 3) := by decide +kernel
theorem dX10_count_84 : decode cX10_count 84 = .ok (.getfield 112, 3) := by decide +kernel
theorem dX10_count_87 : decode cX10_count 87 = .ok (.ireturn, 1) := by decide +kernel
theorem dX10_count_88 : decode cX10_count 88 = .ok (.iconst (-1), 1) := by decide +kernel
theorem dX10_count_89 : decode cX10_count 89 = .ok (.ireturn, 1) := by decide +kernel
theorem dX10_areTwo_0 : decode cX10_areTwo 0 = .ok (.aload_n 0, 1) := by decide +kernel
theorem dX10_areTwo_1 : decode cX10_areTwo 1 = .ok (.getfield 19, 3) := by decide +kernel
theorem dX10_areTwo_4 : decode cX10_areTwo 4 = .ok (.iload_n 1, 1) := by decide +kernel
theorem dX10_areTwo_5 : decode cX10_areTwo 5 = .ok (.invokevirtual 134, 3) := by decide +kernel
theorem dX10_areTwo_8 : decode cX10_areTwo 8 = .ok (.ifCond .eq 23, 3) := by decide +kernel
theorem dX10_areTwo_11 : decode cX10_areTwo 11 = .ok (.aload_n 0, 1) := by decide +kernel
theorem dX10_areTwo_12 : decode cX10_areTwo 12 = .ok (.getfield 19, 3) := by decide +kernel
theorem dX10_areTwo_15 : decode cX10_areTwo 15 = .ok (.iload_n 2, 1) := by decide +kernel
theorem dX10_areTwo_16 : decode cX10_areTwo 16 = .ok (.invokevirtual 134, 3) := by decide +kernel
theorem dX10_areTwo_19 : decode cX10_areTwo 19 = .ok (.ifCond .eq 12, 3) := by decide +kernel
theorem dX10_areTwo_22 : decode cX10_areTwo 22 = .ok (.iload_n 1, 1) := by decide +kernel
theorem dX10_areTwo_23 : decode cX10_areTwo 23 = .ok (.iload_n 2, 1) := by decide +kernel
theorem dX10_areTwo_24 : decode cX10_areTwo 24 = .ok (.if_icmp .eq 7, 3) := by decide +kernel
theorem dX10_areTwo_27 : decode cX10_areTwo 27 = .ok (.iconst 1, 1) := by decide +kernel
theorem dX10_areTwo_28 : decode cX10_areTwo 28 = .ok (.goto 4, 3) := by decide +kernel
theorem dX10_areTwo_31 : decode cX10_areTwo 31 = .ok (.iconst 0, 1) := by decide +kernel
theorem dX10_areTwo_32 : decode cX10_areTwo 32 = .ok (.ireturn, 1) := by decide +kernel
theorem dX10_keepForUndo_0 : decode cX10_keepForUndo 0 = .ok (.aload_n 0, 1) := by decide +kernel
theorem dX10_keepForUndo_1 : decode cX10_keepForUndo 1 = .ok (.getfield 48, 3) := by decide +kernel
theorem dX10_keepForUndo_4 : decode cX10_keepForUndo 4 = .ok (.bipush 8, 2) := by decide +kernel
theorem dX10_keepForUndo_6 : decode cX10_keepForUndo 6 = .ok (.if_icmp .lt 52, 3) := by decide +kernel
theorem dX10_keepForUndo_9 : decode cX10_keepForUndo 9 = .ok (.aload_n 0, 1) := by decide +kernel
theorem dX10_keepForUndo_10 : decode cX10_keepForUndo 10 = .ok (.getfield 44, 3) := by decide +kernel
theorem dX10_keepForUndo_13 : decode cX10_keepForUndo 13 = .ok (.iconst 0, 1) := by decide +kernel
theorem dX10_keepForUndo_14 : decode cX10_keepForUndo 14 = .ok (.aaload, 1) := by decide +kernel
theorem dX10_keepForUndo_15 : decode cX10_keepForUndo 15 = .ok (.astore_n 1, 1) := by decide +kernel
theorem dX10_keepForUndo_16 : decode cX10_keepForUndo 16 = .ok (.iconst 1, 1) := by decide +kernel
theorem dX10_keepForUndo_17 : decode cX10_keepForUndo 17 = .ok (.istore_n 2, 1) := by decide +kernel
theorem dX10_keepForUndo_18 : decode cX10_keepForUndo 18 = .ok (.iload_n 2, 1) := by decide +kernel
theorem dX10_keepForUndo_19 : decode cX10_keepForUndo 19 = .ok (.bipush 8, 2) := by decide +kernel
theorem dX10_keepForUndo_21 : decode cX10_keepForUndo 21 = .ok (.if_icmp .ge 23, 3) := by decide +kernel
theorem dX10_keepForUndo_24 : decode cX10_keepForUndo 24 = .ok (.aload_n 0, 1) := by decide +kernel
theorem dX10_keepForUndo_25 : decode cX10_keepForUndo 25 = .ok (.getfield 44, 3) := by decide +kernel
theorem dX10_keepForUndo_28 : decode cX10_keepForUndo 28 = .ok (.iload_n 2, 1) := by decide +kernel
theorem dX10_keepForUndo_29 : decode cX10_keepForUndo 29 = .ok (.iconst 1, 1) := by decide +kernel
theorem dX10_keepForUndo_30 : decode cX10_keepForUndo 30 = .ok (.isub, 1) := by decide +kernel
theorem dX10_keepForUndo_31 : decode cX10_keepForUndo 31 = .ok (.aload_n 0, 1) := by decide +kernel
theorem dX10_keepForUndo_32 : decode cX10_keepForUndo 32 = .ok (.getfield 44, 3) := by decide +kernel
theorem dX10_keepForUndo_35 : decode cX10_keepForUndo 35 = .ok (.iload_n 2, 1) := by decide +kernel
theorem dX10_keepForUndo_36 : decode cX10_keepForUndo 36 = .ok (.aaload, 1) := by decide +kernel
theorem dX10_keepForUndo_37 : decode cX10_keepForUndo 37 = .ok (.aastore, 1) := by decide +kernel
theorem dX10_keepForUndo_38 : decode cX10_keepForUndo 38 = .ok (.iinc 2 1, 3) := by decide +kernel
theorem dX10_keepForUndo_41 : decode cX10_keepForUndo 41 = .ok (.goto (-23), 3) := by decide +kernel
theorem dX10_keepForUndo_44 : decode cX10_keepForUndo 44 = .ok (.aload_n 0, 1) := by decide +kernel
theorem dX10_keepForUndo_45 : decode cX10_keepForUndo 45 = .ok (.getfield 44, 3) := by decide +kernel
theorem dX10_keepForUndo_48 : decode cX10_keepForUndo 48 = .ok (.bipush 7, 2) := by decide +kernel
theorem dX10_keepForUndo_50 : decode cX10_keepForUndo 50 = .ok (.aload_n 1, 1) := by decide +kernel
theorem dX10_keepForUndo_51 : decode cX10_keepForUndo 51 = .ok (.aastore, 1) := by decide +kernel
theorem dX10_keepForUndo_52 : decode cX10_keepForUndo 52 = .ok (.aload_n 0, 1) := by decide +kernel
theorem dX10_keepForUndo_53 : decode cX10_keepForUndo 53 = .ok (.bipush 7, 2) := by decide +kernel
theorem dX10_keepForUndo_55 : decode cX10_keepForUndo 55 = .ok (.putfield 48, 3) := by decide +kernel
theorem dX10_keepForUndo_58 : decode cX10_keepForUndo 58 = .ok (.aload_n 0, 1) := by decide +kernel
theorem dX10_keepForUndo_59 : decode cX10_keepForUndo 59 = .ok (.getfield 44, 3) := by decide +kernel
theorem dX10_keepForUndo_62 : decode cX10_keepForUndo 62 = .ok (.aload_n 0, 1) := by decide +kernel
theorem dX10_keepForUndo_63 : decode cX10_keepForUndo 63 = .ok (.getfield 48, 3) := by decide +kernel
theorem dX10_keepForUndo_66 : decode cX10_keepForUndo 66 = .ok (.aaload, 1) := by decide +kernel
theorem dX10_keepForUndo_67 : decode cX10_keepForUndo 67 = .ok (.aload_n 0, 1) := by decide +kernel
theorem dX10_keepForUndo_68 : decode cX10_keepForUndo 68 = .ok (.getfield 37, 3) := by decide +kernel
theorem dX10_keepForUndo_71 : decode cX10_keepForUndo 71 = .ok (.invokevirtual 244, 3) := by decide +kernel
theorem dX10_keepForUndo_74 : decode cX10_keepForUndo 74 = .ok (.aload_n 0, 1) := by decide +kernel
theorem dX10_keepForUndo_75 : decode cX10_keepForUndo 75 = .ok (.dup, 1) := by decide +kernel
theorem dX10_keepForUndo_76 : decode cX10_keepForUndo 76 = .ok (.getfield 48, 3) := by decide +kernel
theorem dX10_keepForUndo_79 : decode cX10_keepForUndo 79 = .ok (.iconst 1, 1) := by decide +kernel
theorem dX10_keepForUndo_80 : decode cX10_keepForUndo 80 = .ok (.iadd, 1) := by decide +kernel
theorem dX10_keepForUndo_81 : decode cX10_keepForUndo 81 = .ok (.putfield 48, 3) := by decide +kernel
theorem dX10_keepForUndo_84 : decode cX10_keepForUndo 84 = .ok (.return_, 1) := by decide +kernel
theorem dX10_has_0 : decode cX10_has 0 = .ok (.iload_n 0, 1) := by decide +kernel
theorem dX10_has_1 : decode cX10_has 1 = .ok (.iload_n 1, 1) := by decide +kernel
theorem dX10_has_2 : decode cX10_has 2 = .ok (.iushr, 1) := by decide +kernel
theorem dX10_has_3 : decode cX10_has 3 = .ok (.iconst 1, 1) := by decide +kernel
theorem dX10_has_4 : decode cX10_has 4 = .ok (.iand, 1) := by decide +kernel
theorem dX10_has_5 : decode cX10_has 5 = .ok (.ifCond .eq 7, 3) := by decide +kernel
theorem dX10_has_8 : decode cX10_has 8 = .ok (.iconst 1, 1) := by decide +kernel
theorem dX10_has_9 : decode cX10_has 9 = .ok (.goto 4, 3) := by decide +kernel
theorem dX10_has_12 : decode cX10_has 12 = .ok (.iconst 0, 1) := by decide +kernel
theorem dX10_has_13 : decode cX10_has 13 = .ok (.ireturn, 1) := by decide +kernel
theorem dX10_cellOf_0 : decode cX10_cellOf 0 = .ok (.iload_n 0, 1) := by decide +kernel
theorem dX10_cellOf_1 : decode cX10_cellOf 1 = .ok (.iconst 5, 1) := by decide +kernel
theorem dX10_cellOf_2 : decode cX10_cellOf 2 = .ok (.imul, 1) := by decide +kernel
theorem dX10_cellOf_3 : decode cX10_cellOf 3 = .ok (.iload_n 1, 1) := by decide +kernel
theorem dX10_cellOf_4 : decode cX10_cellOf 4 = .ok (.iadd, 1) := by decide +kernel
theorem dX10_cellOf_5 : decode cX10_cellOf 5 = .ok (.ireturn, 1) := by decide +kernel
theorem dX10_pairOf_0 : decode cX10_pairOf 0 = .ok (.iload_n 0, 1) := by decide +kernel
theorem dX10_pairOf_1 : decode cX10_pairOf 1 = .ok (.bipush 7, 2) := by decide +kernel
theorem dX10_pairOf_3 : decode cX10_pairOf 3 = .ok (.imul, 1) := by decide +kernel
theorem dX10_pairOf_4 : decode cX10_pairOf 4 = .ok (.iload_n 1, 1) := by decide +kernel
theorem dX10_pairOf_5 : decode cX10_pairOf 5 = .ok (.iadd, 1) := by decide +kernel
theorem dX10_pairOf_6 : decode cX10_pairOf 6 = .ok (.ireturn, 1) := by decide +kernel
theorem dX10_bitAt_0 : decode cX10_bitAt 0 = .ok (.iconst 0, 1) := by decide +kernel
theorem dX10_bitAt_1 : decode cX10_bitAt 1 = .ok (.istore_n 2, 1) := by decide +kernel
theorem dX10_bitAt_2 : decode cX10_bitAt 2 = .ok (.iconst 0, 1) := by decide +kernel
theorem dX10_bitAt_3 : decode cX10_bitAt 3 = .ok (.istore_n 3, 1) := by decide +kernel
theorem dX10_bitAt_4 : decode cX10_bitAt 4 = .ok (.iload_n 3, 1) := by decide +kernel
theorem dX10_bitAt_5 : decode cX10_bitAt 5 = .ok (.bipush 7, 2) := by decide +kernel
theorem dX10_bitAt_7 : decode cX10_bitAt 7 = .ok (.if_icmp .ge 27, 3) := by decide +kernel
theorem dX10_bitAt_10 : decode cX10_bitAt 10 = .ok (.iload_n 0, 1) := by decide +kernel
theorem dX10_bitAt_11 : decode cX10_bitAt 11 = .ok (.iload_n 3, 1) := by decide +kernel
theorem dX10_bitAt_12 : decode cX10_bitAt 12 = .ok (.invokestatic 275, 3) := by decide +kernel
theorem dX10_bitAt_15 : decode cX10_bitAt 15 = .ok (.ifCond .eq 13, 3) := by decide +kernel
theorem dX10_bitAt_18 : decode cX10_bitAt 18 = .ok (.iload_n 2, 1) := by decide +kernel
theorem dX10_bitAt_19 : decode cX10_bitAt 19 = .ok (.iload_n 1, 1) := by decide +kernel
theorem dX10_bitAt_20 : decode cX10_bitAt 20 = .ok (.if_icmp .ne 5, 3) := by decide +kernel
theorem dX10_bitAt_23 : decode cX10_bitAt 23 = .ok (.iload_n 3, 1) := by decide +kernel
theorem dX10_bitAt_24 : decode cX10_bitAt 24 = .ok (.ireturn, 1) := by decide +kernel
theorem dX10_bitAt_25 : decode cX10_bitAt 25 = .ok (.iinc 2 1, 3) := by decide +kernel
theorem dX10_bitAt_28 : decode cX10_bitAt 28 = .ok (.iinc 3 1, 3) := by decide +kernel
theorem dX10_bitAt_31 : decode cX10_bitAt 31 = .ok (.goto (-27), 3) := by decide +kernel
theorem dX10_bitAt_34 : decode cX10_bitAt 34 = .ok (.iconst (-1), 1) := by decide +kernel
theorem dX10_bitAt_35 : decode cX10_bitAt 35 = .ok (.ireturn, 1) := by decide +kernel
