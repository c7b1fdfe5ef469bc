theorem dX6_init_0 : decode cX6_init 0 = .ok (.aload_n 0, 1) := by decide +kernel
theorem dX6_init_1 : decode cX6_init 1 = .ok (.invokespecial 3, 3) := by decide +kernel
theorem dX6_init_4 : decode cX6_init 4 = .ok (.aload_n 0, 1) := by decide +kernel
theorem dX6_init_5 : decode cX6_init 5 = .ok (.bipush 40, 2) := by decide +kernel
theorem dX6_init_7 : decode cX6_init 7 = .ok (.newarray .int, 2) := by decide +kernel
theorem dX6_init_9 : decode cX6_init 9 = .ok (.putfield 11, 3) := by decide +kernel
theorem dX6_init_12 : decode cX6_init 12 = .ok (.aload_n 0, 1) := by decide +kernel
theorem dX6_init_13 : decode cX6_init 13 = .ok (.bipush 40, 2) := by decide +kernel
theorem dX6_init_15 : decode cX6_init 15 = .ok (.newarray .int, 2) := by decide +kernel
theorem dX6_init_17 : decode cX6_init 17 = .ok (.putfield 15, 3) := by decide +kernel
theorem dX6_init_20 : decode cX6_init 20 = .ok (.aload_n 0, 1) := by decide +kernel
theorem dX6_init_21 : decode cX6_init 21 = .ok (.bipush 40, 2) := by decide +kernel
theorem dX6_init_23 : decode cX6_init 23 = .ok (.newarray .int, 2) := by decide +kernel
theorem dX6_init_25 : decode cX6_init 25 = .ok (.putfield 18, 3) := by decide +kernel
theorem dX6_init_28 : decode cX6_init 28 = .ok (.aload_n 0, 1) := by decide +kernel
theorem dX6_init_29 : decode cX6_init 29 = .ok (.bipush 20, 2) := by decide +kernel
theorem dX6_init_31 : decode cX6_init 31 = .ok (.newarray .int, 2) := by decide +kernel
theorem dX6_init_33 : decode cX6_init 33 = .ok (.putfield 21, 3) := by decide +kernel
theorem dX6_init_36 : decode cX6_init 36 = .ok (.return_, 1) := by decide +kernel
theorem dX6_clear_0 : decode cX6_clear 0 = .ok (.aload_n 0, 1) := by decide +kernel
theorem dX6_clear_1 : decode cX6_clear 1 = .ok (.iconst 0, 1) := by decide +kernel
theorem dX6_clear_2 : decode cX6_clear 2 = .ok (.putfield 24, 3) := by decide +kernel
theorem dX6_clear_5 : decode cX6_clear 5 = .ok (.aload_n 0, 1) := by decide +kernel
theorem dX6_clear_6 : decode cX6_clear 6 = .ok (.iconst 0, 1) := by decide +kernel
theorem dX6_clear_7 : decode cX6_clear 7 = .ok (.putfield 28, 3) := by decide +kernel
theorem dX6_clear_10 : decode cX6_clear 10 = .ok (.return_, 1) := by decide +kernel
theorem dX6_copyFrom_0 : decode cX6_copyFrom 0 = .ok (.aload_n 0, 1) := by decide +kernel
theorem dX6_copyFrom_1 : decode cX6_copyFrom 1 = .ok (.aload_n 1, 1) := by decide +kernel
theorem dX6_copyFrom_2 : decode cX6_copyFrom 2 = .ok (.getfield 24, 3) := by decide +kernel
theorem dX6_copyFrom_5 : decode cX6_copyFrom 5 = .ok (.putfield 24, 3) := by decide +kernel
theorem dX6_copyFrom_8 : decode cX6_copyFrom 8 = .ok (.aload_n 0, 1) := by decide +kernel
theorem dX6_copyFrom_9 : decode cX6_copyFrom 9 = .ok (.aload_n 1, 1) := by decide +kernel
theorem dX6_copyFrom_10 : decode cX6_copyFrom 10 = .ok (.getfield 28, 3) := by decide +kernel
theorem dX6_copyFrom_13 : decode cX6_copyFrom 13 = .ok (.putfield 28, 3) := by decide +kernel
theorem dX6_copyFrom_16 : decode cX6_copyFrom 16 = .ok (.aload_n 1, 1) := by decide +kernel
theorem dX6_copyFrom_17 : decode cX6_copyFrom 17 = .ok (.getfield 11, 3) := by decide +kernel
theorem dX6_copyFrom_20 : decode cX6_copyFrom 20 = .ok (.iconst 0, 1) := by decide +kernel
theorem dX6_copyFrom_21 : decode cX6_copyFrom 21 = .ok (.aload_n 0, 1) := by decide +kernel
theorem dX6_copyFrom_22 : decode cX6_copyFrom 22 = .ok (.getfield 11, 3) := by decide +kernel
theorem dX6_copyFrom_25 : decode cX6_copyFrom 25 = .ok (.iconst 0, 1) := by decide +kernel
theorem dX6_copyFrom_26 : decode cX6_copyFrom 26 = .ok (.bipush 40, 2) := by decide +kernel
theorem dX6_copyFrom_28 : decode cX6_copyFrom 28 = .ok (.invokestatic 31, 3) := by decide +kernel
theorem dX6_copyFrom_31 : decode cX6_copyFrom 31 = .ok (.aload_n 1, 1) := by decide +kernel
theorem dX6_copyFrom_32 : decode cX6_copyFrom 32 = .ok (.getfield 15, 3) := by decide +kernel
theorem dX6_copyFrom_35 : decode cX6_copyFrom 35 = .ok (.iconst 0, 1) := by decide +kernel
theorem dX6_copyFrom_36 : decode cX6_copyFrom 36 = .ok (.aload_n 0, 1) := by decide +kernel
theorem dX6_copyFrom_37 : decode cX6_copyFrom 37 = .ok (.getfield 15, 3) := by decide +kernel
theorem dX6_copyFrom_40 : decode cX6_copyFrom 40 = .ok (.iconst 0, 1) := by decide +kernel
theorem dX6_copyFrom_41 : decode cX6_copyFrom 41 = .ok (.bipush 40, 2) := by decide +kernel
theorem dX6_copyFrom_43 : decode cX6_copyFrom 43 = .ok (.invokestatic 31, 3) := by decide +kernel
theorem dX6_copyFrom_46 : decode cX6_copyFrom 46 = .ok (.aload_n 1, 1) := by decide +kernel
theorem dX6_copyFrom_47 : decode cX6_copyFrom 47 = .ok (.getfield 18, 3) := by decide +kernel
theorem dX6_copyFrom_50 : decode cX6_copyFrom 50 = .ok (.iconst 0, 1) := by decide +kernel
theorem dX6_copyFrom_51 : decode cX6_copyFrom 51 = .ok (.aload_n 0, 1) := by decide +kernel
theorem dX6_copyFrom_52 : decode cX6_copyFrom 52 = .ok (.getfield 18, 3) := by decide +kernel
theorem dX6_copyFrom_55 : decode cX6_copyFrom 55 = .ok (.iconst 0, 1) := by decide +kernel
theorem dX6_copyFrom_56 : decode cX6_copyFrom 56 = .ok (.bipush 40, 2) := by decide +kernel
theorem dX6_copyFrom_58 : decode cX6_copyFrom 58 = .ok (.invokestatic 31, 3) := by decide +kernel
theorem dX6_copyFrom_61 : decode cX6_copyFrom 61 = .ok (.return_, 1) := by decide +kernel
theorem dX6_addStep_0 : decode cX6_addStep 0 = .ok (.aload_n 0, 1) := by decide +kernel
theorem dX6_addStep_1 : decode cX6_addStep 1 = .ok (.getfield 28, 3) := by decide +kernel
theorem dX6_addStep_4 : decode cX6_addStep 4 = .ok (.bipush 40, 2) := by decide +kernel
theorem dX6_addStep_6 : decode cX6_addStep 6 = .ok (.if_icmp .ge 43, 3) := by decide +kernel
theorem dX6_addStep_9 : decode cX6_addStep 9 = .ok (.aload_n 0, 1) := by decide +kernel
theorem dX6_addStep_10 : decode cX6_addStep 10 = .ok (.getfield 11, 3) := by decide +kernel
theorem dX6_addStep_13 : decode cX6_addStep 13 = .ok (.aload_n 0, 1) := by decide +kernel
theorem dX6_addStep_14 : decode cX6_addStep 14 = .ok (.getfield 28, 3) := by decide +kernel
theorem dX6_addStep_17 : decode cX6_addStep 17 = .ok (.iload_n 1, 1) := by decide +kernel
theorem dX6_addStep_18 : decode cX6_addStep 18 = .ok (.iastore, 1) := by decide +kernel
theorem dX6_addStep_19 : decode cX6_addStep 19 = .ok (.aload_n 0, 1) := by decide +kernel
theorem dX6_addStep_20 : decode cX6_addStep 20 = .ok (.getfield 15, 3) := by decide +kernel
theorem dX6_addStep_23 : decode cX6_addStep 23 = .ok (.aload_n 0, 1) := by decide +kernel
theorem dX6_addStep_24 : decode cX6_addStep 24 = .ok (.getfield 28, 3) := by decide +kernel
theorem dX6_addStep_27 : decode cX6_addStep 27 = .ok (.iload_n 2, 1) := by decide +kernel
theorem dX6_addStep_28 : decode cX6_addStep 28 = .ok (.iastore, 1) := by decide +kernel
theorem dX6_addStep_29 : decode cX6_addStep 29 = .ok (.aload_n 0, 1) := by decide +kernel
theorem dX6_addStep_30 : decode cX6_addStep 30 = .ok (.getfield 18, 3) := by decide +kernel
theorem dX6_addStep_33 : decode cX6_addStep 33 = .ok (.aload_n 0, 1) := by decide +kernel
theorem dX6_addStep_34 : decode cX6_addStep 34 = .ok (.getfield 28, 3) := by decide +kernel
theorem dX6_addStep_37 : decode cX6_addStep 37 = .ok (.iload_n 3, 1) := by decide +kernel
theorem dX6_addStep_38 : decode cX6_addStep 38 = .ok (.iastore, 1) := by decide +kernel
theorem dX6_addStep_39 : decode cX6_addStep 39 = .ok (.aload_n 0, 1) := by decide +kernel
theorem dX6_addStep_40 : decode cX6_addStep 40 = .ok (.dup, 1) := by decide +kernel
theorem dX6_addStep_41 : decode cX6_addStep 41 = .ok (.getfield 28, 3) := by decide +kernel
theorem dX6_addStep_44 : decode cX6_addStep 44 = .ok (.iconst 1, 1) := by decide +kernel
theorem dX6_addStep_45 : decode cX6_addStep 45 = .ok (.iadd, 1) := by decide +kernel
theorem dX6_addStep_46 : decode cX6_addStep 46 = .ok (.putfield 28, 3) := by decide +kernel
theorem dX6_addStep_49 : decode cX6_addStep 49 = .ok (.return_, 1) := by decide +kernel
theorem dX6_trueOf_0 : decode cX6_trueOf 0 = .ok (.iconst 0, 1) := by decide +kernel
theorem dX6_trueOf_1 : decode cX6_trueOf 1 = .ok (.istore_n 3, 1) := by decide +kernel
theorem dX6_trueOf_2 : decode cX6_trueOf 2 = .ok (.iconst 0, 1) := by decide +kernel
theorem dX6_trueOf_3 : decode cX6_trueOf 3 = .ok (.istore 4, 2) := by decide +kernel
theorem dX6_trueOf_5 : decode cX6_trueOf 5 = .ok (.iload 4, 2) := by decide +kernel
theorem dX6_trueOf_7 : decode cX6_trueOf 7 = .ok (.aload_n 0, 1) := by decide +kernel
theorem dX6_trueOf_8 : decode cX6_trueOf 8 = .ok (.getfield 28, 3) := by decide +kernel
theorem dX6_trueOf_11 : decode cX6_trueOf 11 = .ok (.if_icmp .ge 161, 3) := by decide +kernel
theorem dX6_trueOf_14 : decode cX6_trueOf 14 = .ok (.iload 4, 2) := by decide +kernel
theorem dX6_trueOf_16 : decode cX6_trueOf 16 = .ok (.bipush 40, 2) := by decide +kernel
theorem dX6_trueOf_18 : decode cX6_trueOf 18 = .ok (.if_icmp .ge 154, 3) := by decide +kernel
theorem dX6_trueOf_21 : decode cX6_trueOf 21 = .ok (.aload_n 0, 1) := by decide +kernel
theorem dX6_trueOf_22 : decode cX6_trueOf 22 = .ok (.getfield 11, 3) := by decide +kernel
theorem dX6_trueOf_25 : decode cX6_trueOf 25 = .ok (.iload 4, 2) := by decide +kernel
theorem dX6_trueOf_27 : decode cX6_trueOf 27 = .ok (.iaload, 1) := by decide +kernel
theorem dX6_trueOf_28 : decode cX6_trueOf 28 = .ok (.bipush 15, 2) := by decide +kernel
theorem dX6_trueOf_30 : decode cX6_trueOf 30 = .ok (.if_icmp .ne 33, 3) := by decide +kernel
theorem dX6_trueOf_33 : decode cX6_trueOf 33 = .ok (.iload_n 3, 1) := by decide +kernel
theorem dX6_trueOf_34 : decode cX6_trueOf 34 = .ok (.ifCond .le 29, 3) := by decide +kernel
theorem dX6_trueOf_37 : decode cX6_trueOf 37 = .ok (.aload_n 0, 1) := by decide +kernel
theorem dX6_trueOf_38 : decode cX6_trueOf 38 = .ok (.getfield 21, 3) := by decide +kernel
theorem dX6_trueOf_41 : decode cX6_trueOf 41 = .ok (.iload_n 3, 1) := by decide +kernel
theorem dX6_trueOf_42 : decode cX6_trueOf 42 = .ok (.iconst 1, 1) := by decide +kernel
theorem dX6_trueOf_43 : decode cX6_trueOf 43 = .ok (.isub, 1) := by decide +kernel
theorem dX6_trueOf_44 : decode cX6_trueOf 44 = .ok (.aload_n 0, 1) := by decide +kernel
theorem dX6_trueOf_45 : decode cX6_trueOf 45 = .ok (.getfield 21, 3) := by decide +kernel
theorem dX6_trueOf_48 : decode cX6_trueOf 48 = .ok (.iload_n 3, 1) := by decide +kernel
theorem dX6_trueOf_49 : decode cX6_trueOf 49 = .ok (.iconst 1, 1) := by decide +kernel
theorem dX6_trueOf_50 : decode cX6_trueOf 50 = .ok (.isub, 1) := by decide +kernel
theorem dX6_trueOf_51 : decode cX6_trueOf 51 = .ok (.iaload, 1) := by decide +kernel
theorem dX6_trueOf_52 : decode cX6_trueOf 52 = .ok (.iconst (-1), 1) := by decide +kernel
theorem dX6_trueOf_53 : decode cX6_trueOf 53 = .ok (.ixor, 1) := by decide +kernel
theorem dX6_trueOf_54 : decode cX6_trueOf 54 = .ok (.aload_n 1, 1) := by decide +kernel
theorem dX6_trueOf_55 : decode cX6_trueOf 55 = .ok (.invokevirtual 37, 3) := by decide +kernel
theorem dX6_trueOf_58 : decode cX6_trueOf 58 = .ok (.iand, 1) := by decide +kernel
theorem dX6_trueOf_59 : decode cX6_trueOf 59 = .ok (.iastore, 1) := by decide +kernel
theorem dX6_trueOf_60 : decode cX6_trueOf 60 = .ok (.goto 106, 3) := by decide +kernel
theorem dX6_trueOf_63 : decode cX6_trueOf 63 = .ok (.aload_n 0, 1) := by decide +kernel
theorem dX6_trueOf_64 : decode cX6_trueOf 64 = .ok (.getfield 11, 3) := by decide +kernel
theorem dX6_trueOf_67 : decode cX6_trueOf 67 = .ok (.iload 4, 2) := by decide +kernel
theorem dX6_trueOf_69 : decode cX6_trueOf 69 = .ok (.iaload, 1) := by decide +kernel
theorem dX6_trueOf_70 : decode cX6_trueOf 70 = .ok (.bipush 14, 2) := by decide +kernel
theorem dX6_trueOf_72 : decode cX6_trueOf 72 = .ok (.if_icmp .ne 31, 3) := by decide +kernel
theorem dX6_trueOf_75 : decode cX6_trueOf 75 = .ok (.iload_n 3, 1) := by decide +kernel
theorem dX6_trueOf_76 : decode cX6_trueOf 76 = .ok (.iconst 1, 1) := by decide +kernel
theorem dX6_trueOf_77 : decode cX6_trueOf 77 = .ok (.if_icmp .le 26, 3) := by decide +kernel
theorem dX6_trueOf_80 : decode cX6_trueOf 80 = .ok (.iinc 3 (-1), 3) := by decide +kernel
theorem dX6_trueOf_83 : decode cX6_trueOf 83 = .ok (.aload_n 0, 1) := by decide +kernel
theorem dX6_trueOf_84 : decode cX6_trueOf 84 = .ok (.getfield 21, 3) := by decide +kernel
theorem dX6_trueOf_87 : decode cX6_trueOf 87 = .ok (.iload_n 3, 1) := by decide +kernel
theorem dX6_trueOf_88 : decode cX6_trueOf 88 = .ok (.iconst 1, 1) := by decide +kernel
theorem dX6_trueOf_89 : decode cX6_trueOf 89 = .ok (.isub, 1) := by decide +kernel
theorem dX6_trueOf_90 : decode cX6_trueOf 90 = .ok (.dup2, 1) := by decide +kernel
theorem dX6_trueOf_91 : decode cX6_trueOf 91 = .ok (.iaload, 1) := by decide +kernel
theorem dX6_trueOf_92 : decode cX6_trueOf 92 = .ok (.aload_n 0, 1) := by decide +kernel
theorem dX6_trueOf_93 : decode cX6_trueOf 93 = .ok (.getfield 21, 3) := by decide +kernel
theorem dX6_trueOf_96 : decode cX6_trueOf 96 = .ok (.iload_n 3, 1) := by decide +kernel
theorem dX6_trueOf_97 : decode cX6_trueOf 97 = .ok (.iaload, 1) := by decide +kernel
theorem dX6_trueOf_98 : decode cX6_trueOf 98 = .ok (.iand, 1) := by decide +kernel
theorem dX6_trueOf_99 : decode cX6_trueOf 99 = .ok (.iastore, 1) := by decide +kernel
theorem dX6_trueOf_100 : decode cX6_trueOf 100 = .ok (.goto 66, 3) := by decide +kernel
theorem dX6_trueOf_103 : decode cX6_trueOf 103 = .ok (.aload_n 0, 1) := by decide +kernel
theorem dX6_trueOf_104 : decode cX6_trueOf 104 = .ok (.getfield 11, 3) := by decide +kernel
theorem dX6_trueOf_107 : decode cX6_trueOf 107 = .ok (.iload 4, 2) := by decide +kernel
theorem dX6_trueOf_109 : decode cX6_trueOf 109 = .ok (.iaload, 1) := by decide +kernel
theorem dX6_trueOf_110 : decode cX6_trueOf 110 = .ok (.bipush 13, 2) := by decide +kernel
theorem dX6_trueOf_112 : decode cX6_trueOf 112 = .ok (.if_icmp .ne 31, 3) := by decide +kernel
theorem dX6_trueOf_115 : decode cX6_trueOf 115 = .ok (.iload_n 3, 1) := by decide +kernel
theorem dX6_trueOf_116 : decode cX6_trueOf 116 = .ok (.iconst 1, 1) := by decide +kernel
theorem dX6_trueOf_117 : decode cX6_trueOf 117 = .ok (.if_icmp .le 26, 3) := by decide +kernel
theorem dX6_trueOf_120 : decode cX6_trueOf 120 = .ok (.iinc 3 (-1), 3) := by decide +kernel
theorem dX6_trueOf_123 : decode cX6_trueOf 123 = .ok (.aload_n 0, 1) := by decide +kernel
theorem dX6_trueOf_124 : decode cX6_trueOf 124 = .ok (.getfield 21, 3) := by decide +kernel
theorem dX6_trueOf_127 : decode cX6_trueOf 127 = .ok (.iload_n 3, 1) := by decide +kernel
theorem dX6_trueOf_128 : decode cX6_trueOf 128 = .ok (.iconst 1, 1) := by decide +kernel
theorem dX6_trueOf_129 : decode cX6_trueOf 129 = .ok (.isub, 1) := by decide +kernel
theorem dX6_trueOf_130 : decode cX6_trueOf 130 = .ok (.dup2, 1) := by decide +kernel
theorem dX6_trueOf_131 : decode cX6_trueOf 131 = .ok (.iaload, 1) := by decide +kernel
theorem dX6_trueOf_132 : decode cX6_trueOf 132 = .ok (.aload_n 0, 1) := by decide +kernel
theorem dX6_trueOf_133 : decode cX6_trueOf 133 = .ok (.getfield 21, 3) := by decide +kernel
theorem dX6_trueOf_136 : decode cX6_trueOf 136 = .ok (.iload_n 3, 1) := by decide +kernel
theorem dX6_trueOf_137 : decode cX6_trueOf 137 = .ok (.iaload, 1) := by decide +kernel
theorem dX6_trueOf_138 : decode cX6_trueOf 138 = .ok (.ior, 1) := by decide +kernel
theorem dX6_trueOf_139 : decode cX6_trueOf 139 = .ok (.iastore, 1) := by decide +kernel
theorem dX6_trueOf_140 : decode cX6_trueOf 140 = .ok (.goto 26, 3) := by decide +kernel
theorem dX6_trueOf_143 : decode cX6_trueOf 143 = .ok (.iload_n 3, 1) := by decide +kernel
theorem dX6_trueOf_144 : decode cX6_trueOf 144 = .ok (.bipush 20, 2) := by decide +kernel
theorem dX6_trueOf_146 : decode cX6_trueOf 146 = .ok (.if_icmp .ge 20, 3) := by decide +kernel
theorem dX6_trueOf_149 : decode cX6_trueOf 149 = .ok (.aload_n 0, 1) := by decide +kernel
theorem dX6_trueOf_150 : decode cX6_trueOf 150 = .ok (.getfield 21, 3) := by decide +kernel
theorem dX6_trueOf_153 : decode cX6_trueOf 153 = .ok (.iload_n 3, 1) := by decide +kernel
theorem dX6_trueOf_154 : decode cX6_trueOf 154 = .ok (.aload_n 0, 1) := by decide +kernel
theorem dX6_trueOf_155 : decode cX6_trueOf 155 = .ok (.iload 4, 2) := by decide +kernel
theorem dX6_trueOf_157 : decode cX6_trueOf 157 = .ok (.aload_n 1, 1) := by decide +kernel
theorem dX6_trueOf_158 : decode cX6_trueOf 158 = .ok (.aload_n 2, 1) := by decide +kernel
theorem dX6_trueOf_159 : decode cX6_trueOf 159 = .ok (.invokevirtual 43, 3) := by decide +kernel
theorem dX6_trueOf_162 : decode cX6_trueOf 162 = .ok (.iastore, 1) := by decide +kernel
theorem dX6_trueOf_163 : decode cX6_trueOf 163 = .ok (.iinc 3 1, 3) := by decide +kernel
theorem dX6_trueOf_166 : decode cX6_trueOf 166 = .ok (.iinc 4 1, 3) := by decide +kernel
theorem dX6_trueOf_169 : decode cX6_trueOf 169 = .ok (.goto (-164), 3) := by decide +kernel
theorem dX6_trueOf_172 : decode cX6_trueOf 172 = .ok (.iload_n 3, 1) := by decide +kernel
theorem dX6_trueOf_173 : decode cX6_trueOf 173 = .ok (.ifCond .le 12, 3) := by decide +kernel
theorem dX6_trueOf_176 : decode cX6_trueOf 176 = .ok (.aload_n 0, 1) := by decide +kernel
theorem dX6_trueOf_177 : decode cX6_trueOf 177 = .ok (.getfield 21, 3) := by decide +kernel
theorem dX6_trueOf_180 : decode cX6_trueOf 180 = .ok (.iconst 0, 1) := by decide +kernel
theorem dX6_trueOf_181 : decode cX6_trueOf 181 = .ok (.iaload, 1) := by decide +kernel
theorem dX6_trueOf_182 : decode cX6_trueOf 182 = .ok (.goto 4, 3) := by decide +kernel
theorem dX6_trueOf_185 : decode cX6_trueOf 185 = .ok (.iconst 0, 1) := by decide +kernel
theorem dX6_trueOf_186 : decode cX6_trueOf 186 = .ok (.ireturn, 1) := by decide +kernel
theorem dX6_trueOfStep_0 : decode cX6_trueOfStep 0 = .ok (.iconst 0, 1) := by decide +kernel
theorem dX6_trueOfStep_1 : decode cX6_trueOfStep 1 = .ok (.istore 4, 2) := by decide +kernel
theorem dX6_trueOfStep_3 : decode cX6_trueOfStep 3 = .ok (.iconst 0, 1) := by decide +kernel
theorem dX6_trueOfStep_4 : decode cX6_trueOfStep 4 = .ok (.istore 5, 2) := by decide +kernel
theorem dX6_trueOfStep_6 : decode cX6_trueOfStep 6 = .ok (.iload 5, 2) := by decide +kernel
theorem dX6_trueOfStep_8 : decode cX6_trueOfStep 8 = .ok (.aload_n 2, 1) := by decide +kernel
theorem dX6_trueOfStep_9 : decode cX6_trueOfStep 9 = .ok (.getfield 47, 3) := by decide +kernel
theorem dX6_trueOfStep_12 : decode cX6_trueOfStep 12 = .ok (.if_icmp .ge 29, 3) := by decide +kernel
theorem dX6_trueOfStep_15 : decode cX6_trueOfStep 15 = .ok (.aload_n 0, 1) := by decide +kernel
theorem dX6_trueOfStep_16 : decode cX6_trueOfStep 16 = .ok (.iload_n 1, 1) := by decide +kernel
theorem dX6_trueOfStep_17 : decode cX6_trueOfStep 17 = .ok (.iload 5, 2) := by decide +kernel
theorem dX6_trueOfStep_19 : decode cX6_trueOfStep 19 = .ok (.aload_n 3, 1) := by decide +kernel
theorem dX6_trueOfStep_20 : decode cX6_trueOfStep 20 = .ok (.invokevirtual 50, 3) := by decide +kernel
theorem dX6_trueOfStep_23 : decode cX6_trueOfStep 23 = .ok (.ifCond .eq 12, 3) := by decide +kernel
theorem dX6_trueOfStep_26 : decode cX6_trueOfStep 26 = .ok (.iload 4, 2) := by decide +kernel
theorem dX6_trueOfStep_28 : decode cX6_trueOfStep 28 = .ok (.iconst 1, 1) := by decide +kernel
theorem dX6_trueOfStep_29 : decode cX6_trueOfStep 29 = .ok (.iload 5, 2) := by decide +kernel
theorem dX6_trueOfStep_31 : decode cX6_trueOfStep 31 = .ok (.ishl, 1) := by decide +kernel
theorem dX6_trueOfStep_32 : decode cX6_trueOfStep 32 = .ok (.ior, 1) := by decide +kernel
theorem dX6_trueOfStep_33 : decode cX6_trueOfStep 33 = .ok (.istore 4, 2) := by decide +kernel
theorem dX6_trueOfStep_35 : decode cX6_trueOfStep 35 = .ok (.iinc 5 1, 3) := by decide +kernel
theorem dX6_trueOfStep_38 : decode cX6_trueOfStep 38 = .ok (.goto (-32), 3) := by decide +kernel
theorem dX6_trueOfStep_41 : decode cX6_trueOfStep 41 = .ok (.iload 4, 2) := by decide +kernel
theorem dX6_trueOfStep_43 : decode cX6_trueOfStep 43 = .ok (.ireturn, 1) := by decide +kernel
theorem dX6_isTrue_0 : decode cX6_isTrue 0 = .ok (.aload_n 0, 1) := by decide +kernel
theorem dX6_isTrue_1 : decode cX6_isTrue 1 = .ok (.getfield 11, 3) := by decide +kernel
theorem dX6_isTrue_4 : decode cX6_isTrue 4 = .ok (.iload_n 1, 1) := by decide +kernel
theorem dX6_isTrue_5 : decode cX6_isTrue 5 = .ok (.iaload, 1) := by decide +kernel
theorem dX6_isTrue_6 : decode cX6_isTrue 6 = .ok (.tableswitch 209 3 22 #[147, 132, 209, 209, 209, 209, 209, 209, 209, 209, 209, 209, 209, 94, 103, 112, 126, 171, 183, 197], 94) := by decide +kernel
theorem dX6_isTrue_100 : decode cX6_isTrue 100 = .ok (.aload_n 3, 1) := by decide +kernel
theorem dX6_isTrue_101 : decode cX6_isTrue 101 = .ok (.getfield 54, 3) := by decide +kernel
theorem dX6_isTrue_104 : decode cX6_isTrue 104 = .ok (.iload_n 2, 1) := by decide +kernel
theorem dX6_isTrue_105 : decode cX6_isTrue 105 = .ok (.invokestatic 59, 3) := by decide +kernel
theorem dX6_isTrue_108 : decode cX6_isTrue 108 = .ok (.ireturn, 1) := by decide +kernel
theorem dX6_isTrue_109 : decode cX6_isTrue 109 = .ok (.aload_n 3, 1) := by decide +kernel
theorem dX6_isTrue_110 : decode cX6_isTrue 110 = .ok (.getfield 63, 3) := by decide +kernel
theorem dX6_isTrue_113 : decode cX6_isTrue 113 = .ok (.iload_n 2, 1) := by decide +kernel
theorem dX6_isTrue_114 : decode cX6_isTrue 114 = .ok (.invokestatic 59, 3) := by decide +kernel
theorem dX6_isTrue_117 : decode cX6_isTrue 117 = .ok (.ireturn, 1) := by decide +kernel
theorem dX6_isTrue_118 : decode cX6_isTrue 118 = .ok (.aload_n 3, 1) := by decide +kernel
theorem dX6_isTrue_119 : decode cX6_isTrue 119 = .ok (.iload_n 2, 1) := by decide +kernel
theorem dX6_isTrue_120 : decode cX6_isTrue 120 = .ok (.invokevirtual 66, 3) := by decide +kernel
theorem dX6_isTrue_123 : decode cX6_isTrue 123 = .ok (.ifCond .ne 7, 3) := by decide +kernel
theorem dX6_isTrue_126 : decode cX6_isTrue 126 = .ok (.iconst 1, 1) := by decide +kernel
theorem dX6_isTrue_127 : decode cX6_isTrue 127 = .ok (.goto 4, 3) := by decide +kernel
theorem dX6_isTrue_130 : decode cX6_isTrue 130 = .ok (.iconst 0, 1) := by decide +kernel
theorem dX6_isTrue_131 : decode cX6_isTrue 131 = .ok (.ireturn, 1) := by decide +kernel
theorem dX6_isTrue_132 : decode cX6_isTrue 132 = .ok (.aload_n 3, 1) := by decide +kernel
theorem dX6_isTrue_133 : decode cX6_isTrue 133 = .ok (.iload_n 2, 1) := by decide +kernel
theorem dX6_isTrue_134 : decode cX6_isTrue 134 = .ok (.invokevirtual 70, 3) := by decide +kernel
theorem dX6_isTrue_137 : decode cX6_isTrue 137 = .ok (.ireturn, 1) := by decide +kernel
theorem dX6_isTrue_138 : decode cX6_isTrue 138 = .ok (.aload_n 3, 1) := by decide +kernel
theorem dX6_isTrue_139 : decode cX6_isTrue 139 = .ok (.iload_n 2, 1) := by decide +kernel
theorem dX6_isTrue_140 : decode cX6_isTrue 140 = .ok (.invokevirtual 74, 3) := by decide +kernel
theorem dX6_isTrue_143 : decode cX6_isTrue 143 = .ok (.aload_n 0, 1) := by decide +kernel
theorem dX6_isTrue_144 : decode cX6_isTrue 144 = .ok (.getfield 18, 3) := by decide +kernel
theorem dX6_isTrue_147 : decode cX6_isTrue 147 = .ok (.iload_n 1, 1) := by decide +kernel
theorem dX6_isTrue_148 : decode cX6_isTrue 148 = .ok (.iaload, 1) := by decide +kernel
theorem dX6_isTrue_149 : decode cX6_isTrue 149 = .ok (.invokestatic 59, 3) := by decide +kernel
theorem dX6_isTrue_152 : decode cX6_isTrue 152 = .ok (.ireturn, 1) := by decide +kernel
theorem dX6_isTrue_153 : decode cX6_isTrue 153 = .ok (.aload_n 3, 1) := by decide +kernel
theorem dX6_isTrue_154 : decode cX6_isTrue 154 = .ok (.getfield 77, 3) := by decide +kernel
theorem dX6_isTrue_157 : decode cX6_isTrue 157 = .ok (.iload_n 2, 1) := by decide +kernel
theorem dX6_isTrue_158 : decode cX6_isTrue 158 = .ok (.aload_n 0, 1) := by decide +kernel
theorem dX6_isTrue_159 : decode cX6_isTrue 159 = .ok (.getfield 18, 3) := by decide +kernel
theorem dX6_isTrue_162 : decode cX6_isTrue 162 = .ok (.iload_n 1, 1) := by decide +kernel
theorem dX6_isTrue_163 : decode cX6_isTrue 163 = .ok (.iaload, 1) := by decide +kernel
theorem dX6_isTrue_164 : decode cX6_isTrue 164 = .ok (.invokestatic 80, 3) := by decide +kernel
theorem dX6_isTrue_167 : decode cX6_isTrue 167 = .ok (.iaload, 1) := by decide +kernel
theorem dX6_isTrue_168 : decode cX6_isTrue 168 = .ok (.ifCond .le 7, 3) := by decide +kernel
theorem dX6_isTrue_171 : decode cX6_isTrue 171 = .ok (.iconst 1, 1) := by decide +kernel
theorem dX6_isTrue_172 : decode cX6_isTrue 172 = .ok (.goto 4, 3) := by decide +kernel
theorem dX6_isTrue_175 : decode cX6_isTrue 175 = .ok (.iconst 0, 1) := by decide +kernel
theorem dX6_isTrue_176 : decode cX6_isTrue 176 = .ok (.ireturn, 1) := by decide +kernel
theorem dX6_isTrue_177 : decode cX6_isTrue 177 = .ok (.aload_n 0, 1) := by decide +kernel
theorem dX6_isTrue_178 : decode cX6_isTrue 178 = .ok (.aload_n 3, 1) := by decide +kernel
theorem dX6_isTrue_179 : decode cX6_isTrue 179 = .ok (.getfield 84, 3) := by decide +kernel
theorem dX6_isTrue_182 : decode cX6_isTrue 182 = .ok (.iload_n 2, 1) := by decide +kernel
theorem dX6_isTrue_183 : decode cX6_isTrue 183 = .ok (.iaload, 1) := by decide +kernel
theorem dX6_isTrue_184 : decode cX6_isTrue 184 = .ok (.iload_n 1, 1) := by decide +kernel
theorem dX6_isTrue_185 : decode cX6_isTrue 185 = .ok (.invokevirtual 87, 3) := by decide +kernel
theorem dX6_isTrue_188 : decode cX6_isTrue 188 = .ok (.ireturn, 1) := by decide +kernel
theorem dX6_isTrue_189 : decode cX6_isTrue 189 = .ok (.aload_n 0, 1) := by decide +kernel
theorem dX6_isTrue_190 : decode cX6_isTrue 190 = .ok (.aload_n 3, 1) := by decide +kernel
theorem dX6_isTrue_191 : decode cX6_isTrue 191 = .ok (.iload_n 2, 1) := by decide +kernel
theorem dX6_isTrue_192 : decode cX6_isTrue 192 = .ok (.invokevirtual 74, 3) := by decide +kernel
theorem dX6_isTrue_195 : decode cX6_isTrue 195 = .ok (.invokestatic 90, 3) := by decide +kernel
theorem dX6_isTrue_198 : decode cX6_isTrue 198 = .ok (.iload_n 1, 1) := by decide +kernel
theorem dX6_isTrue_199 : decode cX6_isTrue 199 = .ok (.invokevirtual 87, 3) := by decide +kernel
theorem dX6_isTrue_202 : decode cX6_isTrue 202 = .ok (.ireturn, 1) := by decide +kernel
theorem dX6_isTrue_203 : decode cX6_isTrue 203 = .ok (.aload_n 0, 1) := by decide +kernel
theorem dX6_isTrue_204 : decode cX6_isTrue 204 = .ok (.aload_n 3, 1) := by decide +kernel
theorem dX6_isTrue_205 : decode cX6_isTrue 205 = .ok (.getfield 95, 3) := by decide +kernel
theorem dX6_isTrue_208 : decode cX6_isTrue 208 = .ok (.iload_n 2, 1) := by decide +kernel
theorem dX6_isTrue_209 : decode cX6_isTrue 209 = .ok (.iaload, 1) := by decide +kernel
theorem dX6_isTrue_210 : decode cX6_isTrue 210 = .ok (.iload_n 1, 1) := by decide +kernel
theorem dX6_isTrue_211 : decode cX6_isTrue 211 = .ok (.invokevirtual 87, 3) := by decide +kernel
theorem dX6_isTrue_214 : decode cX6_isTrue 214 = .ok (.ireturn, 1) := by decide +kernel
theorem dX6_isTrue_215 : decode cX6_isTrue 215 = .ok (.aload_n 0, 1) := by decide +kernel
theorem dX6_isTrue_216 : decode cX6_isTrue 216 = .ok (.iload_n 2, 1) := by decide +kernel
theorem dX6_isTrue_217 : decode cX6_isTrue 217 = .ok (.iload_n 1, 1) := by decide +kernel
theorem dX6_isTrue_218 : decode cX6_isTrue 218 = .ok (.invokevirtual 87, 3) := by decide +kernel
theorem dX6_isTrue_221 : decode cX6_isTrue 221 = .ok (.ireturn, 1) := by decide +kernel
theorem dX6_compares_0 : decode cX6_compares 0 = .ok (.aload_n 0, 1) := by decide +kernel
theorem dX6_compares_1 : decode cX6_compares 1 = .ok (.getfield 15, 3) := by decide +kernel
theorem dX6_compares_4 : decode cX6_compares 4 = .ok (.iload_n 2, 1) := by decide +kernel
theorem dX6_compares_5 : decode cX6_compares 5 = .ok (.iaload, 1) := by decide +kernel
theorem dX6_compares_6 : decode cX6_compares 6 = .ok (.bipush 60, 2) := by decide +kernel
theorem dX6_compares_8 : decode cX6_compares 8 = .ok (.if_icmp .ne 19, 3) := by decide +kernel
theorem dX6_compares_11 : decode cX6_compares 11 = .ok (.iload_n 1, 1) := by decide +kernel
theorem dX6_compares_12 : decode cX6_compares 12 = .ok (.aload_n 0, 1) := by decide +kernel
theorem dX6_compares_13 : decode cX6_compares 13 = .ok (.getfield 18, 3) := by decide +kernel
theorem dX6_compares_16 : decode cX6_compares 16 = .ok (.iload_n 2, 1) := by decide +kernel
theorem dX6_compares_17 : decode cX6_compares 17 = .ok (.iaload, 1) := by decide +kernel
theorem dX6_compares_18 : decode cX6_compares 18 = .ok (.if_icmp .ge 7, 3) := by decide +kernel
theorem dX6_compares_21 : decode cX6_compares 21 = .ok (.iconst 1, 1) := by decide +kernel
theorem dX6_compares_22 : decode cX6_compares 22 = .ok (.goto 4, 3) := by decide +kernel
theorem dX6_compares_25 : decode cX6_compares 25 = .ok (.iconst 0, 1) := by decide +kernel
theorem dX6_compares_26 : decode cX6_compares 26 = .ok (.ireturn, 1) := by decide +kernel
theorem dX6_compares_27 : decode cX6_compares 27 = .ok (.aload_n 0, 1) := by decide +kernel
theorem dX6_compares_28 : decode cX6_compares 28 = .ok (.getfield 15, 3) := by decide +kernel
theorem dX6_compares_31 : decode cX6_compares 31 = .ok (.iload_n 2, 1) := by decide +kernel
theorem dX6_compares_32 : decode cX6_compares 32 = .ok (.iaload, 1) := by decide +kernel
theorem dX6_compares_33 : decode cX6_compares 33 = .ok (.bipush 61, 2) := by decide +kernel
theorem dX6_compares_35 : decode cX6_compares 35 = .ok (.if_icmp .ne 21, 3) := by decide +kernel
theorem dX6_compares_38 : decode cX6_compares 38 = .ok (.iload_n 1, 1) := by decide +kernel
theorem dX6_compares_39 : decode cX6_compares 39 = .ok (.aload_n 0, 1) := by decide +kernel
theorem dX6_compares_40 : decode cX6_compares 40 = .ok (.getfield 18, 3) := by decide +kernel
theorem dX6_compares_43 : decode cX6_compares 43 = .ok (.iload_n 2, 1) := by decide +kernel
theorem dX6_compares_44 : decode cX6_compares 44 = .ok (.iaload, 1) := by decide +kernel
theorem dX6_compares_45 : decode cX6_compares 45 = .ok (.if_icmp .ne 7, 3) := by decide +kernel
theorem dX6_compares_48 : decode cX6_compares 48 = .ok (.iconst 1, 1) := by decide +kernel
theorem dX6_compares_49 : decode cX6_compares 49 = .ok (.goto 22, 3) := by decide +kernel
theorem dX6_compares_52 : decode cX6_compares 52 = .ok (.iconst 0, 1) := by decide +kernel
theorem dX6_compares_53 : decode cX6_compares 53 = .ok (.goto 18, 3) := by decide +kernel
theorem dX6_compares_56 : decode cX6_compares 56 = .ok (.iload_n 1, 1) := by decide +kernel
theorem dX6_compares_57 : decode cX6_compares 57 = .ok (.aload_n 0, 1) := by decide +kernel
theorem dX6_compares_58 : decode cX6_compares 58 = .ok (.getfield 18, 3) := by decide +kernel
theorem dX6_compares_61 : decode cX6_compares 61 = .ok (.iload_n 2, 1) := by decide +kernel
theorem dX6_compares_62 : decode cX6_compares 62 = .ok (.iaload, 1) := by decide +kernel
theorem dX6_compares_63 : decode cX6_compares 63 = .ok (.if_icmp .le 7, 3) := by decide +kernel
theorem dX6_compares_66 : decode cX6_compares 66 = .ok (.iconst 1, 1) := by decide +kernel
theorem dX6_compares_67 : decode cX6_compares 67 = .ok (.goto 4, 3) := by decide +kernel
theorem dX6_compares_70 : decode cX6_compares 70 = .ok (.iconst 0, 1) := by decide +kernel
theorem dX6_compares_71 : decode cX6_compares 71 = .ok (.ireturn, 1) := by decide +kernel
