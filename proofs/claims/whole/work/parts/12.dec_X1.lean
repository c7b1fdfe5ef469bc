theorem dX1_init_0 : decode cX1_init 0 = .ok (.aload_n 0, 1) := by decide +kernel
theorem dX1_init_1 : decode cX1_init 1 = .ok (.invokespecial 3, 3) := by decide +kernel
theorem dX1_init_4 : decode cX1_init 4 = .ok (.aload_n 0, 1) := by decide +kernel
theorem dX1_init_5 : decode cX1_init 5 = .ok (.bipush 12, 2) := by decide +kernel
theorem dX1_init_7 : decode cX1_init 7 = .ok (.newarray .long, 2) := by decide +kernel
theorem dX1_init_9 : decode cX1_init 9 = .ok (.putfield 11, 3) := by decide +kernel
theorem dX1_init_12 : decode cX1_init 12 = .ok (.aload_n 0, 1) := by decide +kernel
theorem dX1_init_13 : decode cX1_init 13 = .ok (.bipush 7, 2) := by decide +kernel
theorem dX1_init_15 : decode cX1_init 15 = .ok (.newarray .int, 2) := by decide +kernel
theorem dX1_init_17 : decode cX1_init 17 = .ok (.putfield 15, 3) := by decide +kernel
theorem dX1_init_20 : decode cX1_init 20 = .ok (.aload_n 0, 1) := by decide +kernel
theorem dX1_init_21 : decode cX1_init 21 = .ok (.bipush 7, 2) := by decide +kernel
theorem dX1_init_23 : decode cX1_init 23 = .ok (.newarray .int, 2) := by decide +kernel
theorem dX1_init_25 : decode cX1_init 25 = .ok (.putfield 19, 3) := by decide +kernel
theorem dX1_init_28 : decode cX1_init 28 = .ok (.aload_n 0, 1) := by decide +kernel
theorem dX1_init_29 : decode cX1_init 29 = .ok (.bipush 7, 2) := by decide +kernel
theorem dX1_init_31 : decode cX1_init 31 = .ok (.newarray .int, 2) := by decide +kernel
theorem dX1_init_33 : decode cX1_init 33 = .ok (.putfield 22, 3) := by decide +kernel
theorem dX1_init_36 : decode cX1_init 36 = .ok (.aload_n 0, 1) := by decide +kernel
theorem dX1_init_37 : decode cX1_init 37 = .ok (.bipush 35, 2) := by decide +kernel
theorem dX1_init_39 : decode cX1_init 39 = .ok (.newarray .int, 2) := by decide +kernel
theorem dX1_init_41 : decode cX1_init 41 = .ok (.putfield 25, 3) := by decide +kernel
theorem dX1_init_44 : decode cX1_init 44 = .ok (.aload_n 0, 1) := by decide +kernel
theorem dX1_init_45 : decode cX1_init 45 = .ok (.bipush 35, 2) := by decide +kernel
theorem dX1_init_47 : decode cX1_init 47 = .ok (.newarray .int, 2) := by decide +kernel
theorem dX1_init_49 : decode cX1_init 49 = .ok (.putfield 28, 3) := by decide +kernel
theorem dX1_init_52 : decode cX1_init 52 = .ok (.aload_n 0, 1) := by decide +kernel
theorem dX1_init_53 : decode cX1_init 53 = .ok (.bipush 35, 2) := by decide +kernel
theorem dX1_init_55 : decode cX1_init 55 = .ok (.newarray .int, 2) := by decide +kernel
theorem dX1_init_57 : decode cX1_init 57 = .ok (.putfield 31, 3) := by decide +kernel
theorem dX1_init_60 : decode cX1_init 60 = .ok (.aload_n 0, 1) := by decide +kernel
theorem dX1_init_61 : decode cX1_init 61 = .ok (.invokevirtual 34, 3) := by decide +kernel
theorem dX1_init_64 : decode cX1_init 64 = .ok (.return_, 1) := by decide +kernel
theorem dX1_clear_0 : decode cX1_clear 0 = .ok (.aload_n 0, 1) := by decide +kernel
theorem dX1_clear_1 : decode cX1_clear 1 = .ok (.iconst 0, 1) := by decide +kernel
theorem dX1_clear_2 : decode cX1_clear 2 = .ok (.putfield 37, 3) := by decide +kernel
theorem dX1_clear_5 : decode cX1_clear 5 = .ok (.aload_n 0, 1) := by decide +kernel
theorem dX1_clear_6 : decode cX1_clear 6 = .ok (.iconst 0, 1) := by decide +kernel
theorem dX1_clear_7 : decode cX1_clear 7 = .ok (.putfield 41, 3) := by decide +kernel
theorem dX1_clear_10 : decode cX1_clear 10 = .ok (.aload_n 0, 1) := by decide +kernel
theorem dX1_clear_11 : decode cX1_clear 11 = .ok (.iconst 2, 1) := by decide +kernel
theorem dX1_clear_12 : decode cX1_clear 12 = .ok (.putfield 44, 3) := by decide +kernel
theorem dX1_clear_15 : decode cX1_clear 15 = .ok (.aload_n 0, 1) := by decide +kernel
theorem dX1_clear_16 : decode cX1_clear 16 = .ok (.iconst 1, 1) := by decide +kernel
theorem dX1_clear_17 : decode cX1_clear 17 = .ok (.putfield 47, 3) := by decide +kernel
theorem dX1_clear_20 : decode cX1_clear 20 = .ok (.aload_n 0, 1) := by decide +kernel
theorem dX1_clear_21 : decode cX1_clear 21 = .ok (.iconst 0, 1) := by decide +kernel
theorem dX1_clear_22 : decode cX1_clear 22 = .ok (.putfield 50, 3) := by decide +kernel
theorem dX1_clear_25 : decode cX1_clear 25 = .ok (.aload_n 0, 1) := by decide +kernel
theorem dX1_clear_26 : decode cX1_clear 26 = .ok (.getfield 11, 3) := by decide +kernel
theorem dX1_clear_29 : decode cX1_clear 29 = .ok (.lconst 0, 1) := by decide +kernel
theorem dX1_clear_30 : decode cX1_clear 30 = .ok (.invokestatic 53, 3) := by decide +kernel
theorem dX1_clear_33 : decode cX1_clear 33 = .ok (.aload_n 0, 1) := by decide +kernel
theorem dX1_clear_34 : decode cX1_clear 34 = .ok (.getfield 15, 3) := by decide +kernel
theorem dX1_clear_37 : decode cX1_clear 37 = .ok (.iconst 0, 1) := by decide +kernel
theorem dX1_clear_38 : decode cX1_clear 38 = .ok (.invokestatic 59, 3) := by decide +kernel
theorem dX1_clear_41 : decode cX1_clear 41 = .ok (.aload_n 0, 1) := by decide +kernel
theorem dX1_clear_42 : decode cX1_clear 42 = .ok (.getfield 19, 3) := by decide +kernel
theorem dX1_clear_45 : decode cX1_clear 45 = .ok (.iconst 0, 1) := by decide +kernel
theorem dX1_clear_46 : decode cX1_clear 46 = .ok (.invokestatic 59, 3) := by decide +kernel
theorem dX1_clear_49 : decode cX1_clear 49 = .ok (.aload_n 0, 1) := by decide +kernel
theorem dX1_clear_50 : decode cX1_clear 50 = .ok (.getfield 22, 3) := by decide +kernel
theorem dX1_clear_53 : decode cX1_clear 53 = .ok (.iconst 0, 1) := by decide +kernel
theorem dX1_clear_54 : decode cX1_clear 54 = .ok (.invokestatic 59, 3) := by decide +kernel
theorem dX1_clear_57 : decode cX1_clear 57 = .ok (.aload_n 0, 1) := by decide +kernel
theorem dX1_clear_58 : decode cX1_clear 58 = .ok (.getfield 25, 3) := by decide +kernel
theorem dX1_clear_61 : decode cX1_clear 61 = .ok (.iconst 0, 1) := by decide +kernel
theorem dX1_clear_62 : decode cX1_clear 62 = .ok (.invokestatic 59, 3) := by decide +kernel
theorem dX1_clear_65 : decode cX1_clear 65 = .ok (.aload_n 0, 1) := by decide +kernel
theorem dX1_clear_66 : decode cX1_clear 66 = .ok (.getfield 28, 3) := by decide +kernel
theorem dX1_clear_69 : decode cX1_clear 69 = .ok (.iconst 0, 1) := by decide +kernel
theorem dX1_clear_70 : decode cX1_clear 70 = .ok (.invokestatic 59, 3) := by decide +kernel
theorem dX1_clear_73 : decode cX1_clear 73 = .ok (.aload_n 0, 1) := by decide +kernel
theorem dX1_clear_74 : decode cX1_clear 74 = .ok (.getfield 31, 3) := by decide +kernel
theorem dX1_clear_77 : decode cX1_clear 77 = .ok (.iconst (-1), 1) := by decide +kernel
theorem dX1_clear_78 : decode cX1_clear 78 = .ok (.invokestatic 59, 3) := by decide +kernel
theorem dX1_clear_81 : decode cX1_clear 81 = .ok (.return_, 1) := by decide +kernel
theorem dX1_copyFrom_0 : decode cX1_copyFrom 0 = .ok (.aload_n 0, 1) := by decide +kernel
theorem dX1_copyFrom_1 : decode cX1_copyFrom 1 = .ok (.aload_n 1, 1) := by decide +kernel
theorem dX1_copyFrom_2 : decode cX1_copyFrom 2 = .ok (.getfield 37, 3) := by decide +kernel
theorem dX1_copyFrom_5 : decode cX1_copyFrom 5 = .ok (.putfield 37, 3) := by decide +kernel
theorem dX1_copyFrom_8 : decode cX1_copyFrom 8 = .ok (.aload_n 0, 1) := by decide +kernel
theorem dX1_copyFrom_9 : decode cX1_copyFrom 9 = .ok (.aload_n 1, 1) := by decide +kernel
theorem dX1_copyFrom_10 : decode cX1_copyFrom 10 = .ok (.getfield 41, 3) := by decide +kernel
theorem dX1_copyFrom_13 : decode cX1_copyFrom 13 = .ok (.putfield 41, 3) := by decide +kernel
theorem dX1_copyFrom_16 : decode cX1_copyFrom 16 = .ok (.aload_n 0, 1) := by decide +kernel
theorem dX1_copyFrom_17 : decode cX1_copyFrom 17 = .ok (.aload_n 1, 1) := by decide +kernel
theorem dX1_copyFrom_18 : decode cX1_copyFrom 18 = .ok (.getfield 44, 3) := by decide +kernel
theorem dX1_copyFrom_21 : decode cX1_copyFrom 21 = .ok (.putfield 44, 3) := by decide +kernel
theorem dX1_copyFrom_24 : decode cX1_copyFrom 24 = .ok (.aload_n 0, 1) := by decide +kernel
theorem dX1_copyFrom_25 : decode cX1_copyFrom 25 = .ok (.aload_n 1, 1) := by decide +kernel
theorem dX1_copyFrom_26 : decode cX1_copyFrom 26 = .ok (.getfield 47, 3) := by decide +kernel
theorem dX1_copyFrom_29 : decode cX1_copyFrom 29 = .ok (.putfield 47, 3) := by decide +kernel
theorem dX1_copyFrom_32 : decode cX1_copyFrom 32 = .ok (.aload_n 0, 1) := by decide +kernel
theorem dX1_copyFrom_33 : decode cX1_copyFrom 33 = .ok (.aload_n 1, 1) := by decide +kernel
theorem dX1_copyFrom_34 : decode cX1_copyFrom 34 = .ok (.getfield 50, 3) := by decide +kernel
theorem dX1_copyFrom_37 : decode cX1_copyFrom 37 = .ok (.putfield 50, 3) := by decide +kernel
theorem dX1_copyFrom_40 : decode cX1_copyFrom 40 = .ok (.aload_n 1, 1) := by decide +kernel
theorem dX1_copyFrom_41 : decode cX1_copyFrom 41 = .ok (.getfield 11, 3) := by decide +kernel
theorem dX1_copyFrom_44 : decode cX1_copyFrom 44 = .ok (.iconst 0, 1) := by decide +kernel
theorem dX1_copyFrom_45 : decode cX1_copyFrom 45 = .ok (.aload_n 0, 1) := by decide +kernel
theorem dX1_copyFrom_46 : decode cX1_copyFrom 46 = .ok (.getfield 11, 3) := by decide +kernel
theorem dX1_copyFrom_49 : decode cX1_copyFrom 49 = .ok (.iconst 0, 1) := by decide +kernel
theorem dX1_copyFrom_50 : decode cX1_copyFrom 50 = .ok (.bipush 12, 2) := by decide +kernel
theorem dX1_copyFrom_52 : decode cX1_copyFrom 52 = .ok (.invokestatic 62, 3) := by decide +kernel
theorem dX1_copyFrom_55 : decode cX1_copyFrom 55 = .ok (.aload_n 1, 1) := by decide +kernel
theorem dX1_copyFrom_56 : decode cX1_copyFrom 56 = .ok (.getfield 15, 3) := by decide +kernel
theorem dX1_copyFrom_59 : decode cX1_copyFrom 59 = .ok (.iconst 0, 1) := by decide +kernel
theorem dX1_copyFrom_60 : decode cX1_copyFrom 60 = .ok (.aload_n 0, 1) := by decide +kernel
theorem dX1_copyFrom_61 : decode cX1_copyFrom 61 = .ok (.getfield 15, 3) := by decide +kernel
theorem dX1_copyFrom_64 : decode cX1_copyFrom 64 = .ok (.iconst 0, 1) := by decide +kernel
theorem dX1_copyFrom_65 : decode cX1_copyFrom 65 = .ok (.bipush 7, 2) := by decide +kernel
theorem dX1_copyFrom_67 : decode cX1_copyFrom 67 = .ok (.invokestatic 62, 3) := by decide +kernel
theorem dX1_copyFrom_70 : decode cX1_copyFrom 70 = .ok (.aload_n 1, 1) := by decide +kernel
theorem dX1_copyFrom_71 : decode cX1_copyFrom 71 = .ok (.getfield 19, 3) := by decide +kernel
theorem dX1_copyFrom_74 : decode cX1_copyFrom 74 = .ok (.iconst 0, 1) := by decide +kernel
theorem dX1_copyFrom_75 : decode cX1_copyFrom 75 = .ok (.aload_n 0, 1) := by decide +kernel
theorem dX1_copyFrom_76 : decode cX1_copyFrom 76 = .ok (.getfield 19, 3) := by decide +kernel
theorem dX1_copyFrom_79 : decode cX1_copyFrom 79 = .ok (.iconst 0, 1) := by decide +kernel
theorem dX1_copyFrom_80 : decode cX1_copyFrom 80 = .ok (.bipush 7, 2) := by decide +kernel
theorem dX1_copyFrom_82 : decode cX1_copyFrom 82 = .ok (.invokestatic 62, 3) := by decide +kernel
theorem dX1_copyFrom_85 : decode cX1_copyFrom 85 = .ok (.aload_n 1, 1) := by decide +kernel
theorem dX1_copyFrom_86 : decode cX1_copyFrom 86 = .ok (.getfield 22, 3) := by decide +kernel
theorem dX1_copyFrom_89 : decode cX1_copyFrom 89 = .ok (.iconst 0, 1) := by decide +kernel
theorem dX1_copyFrom_90 : decode cX1_copyFrom 90 = .ok (.aload_n 0, 1) := by decide +kernel
theorem dX1_copyFrom_91 : decode cX1_copyFrom 91 = .ok (.getfield 22, 3) := by decide +kernel
theorem dX1_copyFrom_94 : decode cX1_copyFrom 94 = .ok (.iconst 0, 1) := by decide +kernel
theorem dX1_copyFrom_95 : decode cX1_copyFrom 95 = .ok (.bipush 7, 2) := by decide +kernel
theorem dX1_copyFrom_97 : decode cX1_copyFrom 97 = .ok (.invokestatic 62, 3) := by decide +kernel
theorem dX1_copyFrom_100 : decode cX1_copyFrom 100 = .ok (.aload_n 1, 1) := by decide +kernel
theorem dX1_copyFrom_101 : decode cX1_copyFrom 101 = .ok (.getfield 25, 3) := by decide +kernel
theorem dX1_copyFrom_104 : decode cX1_copyFrom 104 = .ok (.iconst 0, 1) := by decide +kernel
theorem dX1_copyFrom_105 : decode cX1_copyFrom 105 = .ok (.aload_n 0, 1) := by decide +kernel
theorem dX1_copyFrom_106 : decode cX1_copyFrom 106 = .ok (.getfield 25, 3) := by decide +kernel
theorem dX1_copyFrom_109 : decode cX1_copyFrom 109 = .ok (.iconst 0, 1) := by decide +kernel
theorem dX1_copyFrom_110 : decode cX1_copyFrom 110 = .ok (.bipush 35, 2) := by decide +kernel
theorem dX1_copyFrom_112 : decode cX1_copyFrom 112 = .ok (.invokestatic 62, 3) := by decide +kernel
theorem dX1_copyFrom_115 : decode cX1_copyFrom 115 = .ok (.aload_n 1, 1) := by decide +kernel
theorem dX1_copyFrom_116 : decode cX1_copyFrom 116 = .ok (.getfield 28, 3) := by decide +kernel
theorem dX1_copyFrom_119 : decode cX1_copyFrom 119 = .ok (.iconst 0, 1) := by decide +kernel
theorem dX1_copyFrom_120 : decode cX1_copyFrom 120 = .ok (.aload_n 0, 1) := by decide +kernel
theorem dX1_copyFrom_121 : decode cX1_copyFrom 121 = .ok (.getfield 28, 3) := by decide +kernel
theorem dX1_copyFrom_124 : decode cX1_copyFrom 124 = .ok (.iconst 0, 1) := by decide +kernel
theorem dX1_copyFrom_125 : decode cX1_copyFrom 125 = .ok (.bipush 35, 2) := by decide +kernel
theorem dX1_copyFrom_127 : decode cX1_copyFrom 127 = .ok (.invokestatic 62, 3) := by decide +kernel
theorem dX1_copyFrom_130 : decode cX1_copyFrom 130 = .ok (.aload_n 1, 1) := by decide +kernel
theorem dX1_copyFrom_131 : decode cX1_copyFrom 131 = .ok (.getfield 31, 3) := by decide +kernel
theorem dX1_copyFrom_134 : decode cX1_copyFrom 134 = .ok (.iconst 0, 1) := by decide +kernel
theorem dX1_copyFrom_135 : decode cX1_copyFrom 135 = .ok (.aload_n 0, 1) := by decide +kernel
theorem dX1_copyFrom_136 : decode cX1_copyFrom 136 = .ok (.getfield 31, 3) := by decide +kernel
theorem dX1_copyFrom_139 : decode cX1_copyFrom 139 = .ok (.iconst 0, 1) := by decide +kernel
theorem dX1_copyFrom_140 : decode cX1_copyFrom 140 = .ok (.bipush 35, 2) := by decide +kernel
theorem dX1_copyFrom_142 : decode cX1_copyFrom 142 = .ok (.invokestatic 62, 3) := by decide +kernel
theorem dX1_copyFrom_145 : decode cX1_copyFrom 145 = .ok (.return_, 1) := by decide +kernel
theorem dX1_isPerson_0 : decode cX1_isPerson 0 = .ok (.iload_n 1, 1) := by decide +kernel
theorem dX1_isPerson_1 : decode cX1_isPerson 1 = .ok (.ifCond .lt 15, 3) := by decide +kernel
theorem dX1_isPerson_4 : decode cX1_isPerson 4 = .ok (.iload_n 1, 1) := by decide +kernel
theorem dX1_isPerson_5 : decode cX1_isPerson 5 = .ok (.aload_n 0, 1) := by decide +kernel
theorem dX1_isPerson_6 : decode cX1_isPerson 6 = .ok (.getfield 37, 3) := by decide +kernel
theorem dX1_isPerson_9 : decode cX1_isPerson 9 = .ok (.if_icmp .ge 7, 3) := by decide +kernel
theorem dX1_isPerson_12 : decode cX1_isPerson 12 = .ok (.iconst 1, 1) := by decide +kernel
theorem dX1_isPerson_13 : decode cX1_isPerson 13 = .ok (.goto 4, 3) := by decide +kernel
theorem dX1_isPerson_16 : decode cX1_isPerson 16 = .ok (.iconst 0, 1) := by decide +kernel
theorem dX1_isPerson_17 : decode cX1_isPerson 17 = .ok (.ireturn, 1) := by decide +kernel
theorem dX1_isGood_0 : decode cX1_isGood 0 = .ok (.iload_n 1, 1) := by decide +kernel
theorem dX1_isGood_1 : decode cX1_isGood 1 = .ok (.ifCond .lt 15, 3) := by decide +kernel
theorem dX1_isGood_4 : decode cX1_isGood 4 = .ok (.iload_n 1, 1) := by decide +kernel
theorem dX1_isGood_5 : decode cX1_isGood 5 = .ok (.aload_n 0, 1) := by decide +kernel
theorem dX1_isGood_6 : decode cX1_isGood 6 = .ok (.getfield 41, 3) := by decide +kernel
theorem dX1_isGood_9 : decode cX1_isGood 9 = .ok (.if_icmp .ge 7, 3) := by decide +kernel
theorem dX1_isGood_12 : decode cX1_isGood 12 = .ok (.iconst 1, 1) := by decide +kernel
theorem dX1_isGood_13 : decode cX1_isGood 13 = .ok (.goto 4, 3) := by decide +kernel
theorem dX1_isGood_16 : decode cX1_isGood 16 = .ok (.iconst 0, 1) := by decide +kernel
theorem dX1_isGood_17 : decode cX1_isGood 17 = .ok (.ireturn, 1) := by decide +kernel
theorem dX1_slotOf_0 : decode cX1_slotOf 0 = .ok (.iconst 0, 1) := by decide +kernel
theorem dX1_slotOf_1 : decode cX1_slotOf 1 = .ok (.istore_n 3, 1) := by decide +kernel
theorem dX1_slotOf_2 : decode cX1_slotOf 2 = .ok (.iload_n 3, 1) := by decide +kernel
theorem dX1_slotOf_3 : decode cX1_slotOf 3 = .ok (.bipush 12, 2) := by decide +kernel
theorem dX1_slotOf_5 : decode cX1_slotOf 5 = .ok (.if_icmp .ge 22, 3) := by decide +kernel
theorem dX1_slotOf_8 : decode cX1_slotOf 8 = .ok (.aload_n 0, 1) := by decide +kernel
theorem dX1_slotOf_9 : decode cX1_slotOf 9 = .ok (.getfield 11, 3) := by decide +kernel
theorem dX1_slotOf_12 : decode cX1_slotOf 12 = .ok (.iload_n 3, 1) := by decide +kernel
theorem dX1_slotOf_13 : decode cX1_slotOf 13 = .ok (.laload, 1) := by decide +kernel
theorem dX1_slotOf_14 : decode cX1_slotOf 14 = .ok (.lload_n 1, 1) := by decide +kernel
theorem dX1_slotOf_15 : decode cX1_slotOf 15 = .ok (.lcmp, 1) := by decide +kernel
theorem dX1_slotOf_16 : decode cX1_slotOf 16 = .ok (.ifCond .ne 5, 3) := by decide +kernel
theorem dX1_slotOf_19 : decode cX1_slotOf 19 = .ok (.iload_n 3, 1) := by decide +kernel
theorem dX1_slotOf_20 : decode cX1_slotOf 20 = .ok (.ireturn, 1) := by decide +kernel
theorem dX1_slotOf_21 : decode cX1_slotOf 21 = .ok (.iinc 3 1, 3) := by decide +kernel
theorem dX1_slotOf_24 : decode cX1_slotOf 24 = .ok (.goto (-22), 3) := by decide +kernel
theorem dX1_slotOf_27 : decode cX1_slotOf 27 = .ok (.iconst (-1), 1) := by decide +kernel
theorem dX1_slotOf_28 : decode cX1_slotOf 28 = .ok (.ireturn, 1) := by decide +kernel
theorem dX1_sellsOrWants_0 : decode cX1_sellsOrWants 0 = .ok (.iload_n 1, 1) := by decide +kernel
theorem dX1_sellsOrWants_1 : decode cX1_sellsOrWants 1 = .ok (.iload_n 2, 1) := by decide +kernel
theorem dX1_sellsOrWants_2 : decode cX1_sellsOrWants 2 = .ok (.invokestatic 68, 3) := by decide +kernel
theorem dX1_sellsOrWants_5 : decode cX1_sellsOrWants 5 = .ok (.istore_n 3, 1) := by decide +kernel
theorem dX1_sellsOrWants_6 : decode cX1_sellsOrWants 6 = .ok (.aload_n 0, 1) := by decide +kernel
theorem dX1_sellsOrWants_7 : decode cX1_sellsOrWants 7 = .ok (.getfield 31, 3) := by decide +kernel
theorem dX1_sellsOrWants_10 : decode cX1_sellsOrWants 10 = .ok (.iload_n 3, 1) := by decide +kernel
theorem dX1_sellsOrWants_11 : decode cX1_sellsOrWants 11 = .ok (.iaload, 1) := by decide +kernel
theorem dX1_sellsOrWants_12 : decode cX1_sellsOrWants 12 = .ok (.iconst (-1), 1) := by decide +kernel
theorem dX1_sellsOrWants_13 : decode cX1_sellsOrWants 13 = .ok (.if_icmp .ne 12, 3) := by decide +kernel
theorem dX1_sellsOrWants_16 : decode cX1_sellsOrWants 16 = .ok (.aload_n 0, 1) := by decide +kernel
theorem dX1_sellsOrWants_17 : decode cX1_sellsOrWants 17 = .ok (.getfield 28, 3) := by decide +kernel
theorem dX1_sellsOrWants_20 : decode cX1_sellsOrWants 20 = .ok (.iload_n 3, 1) := by decide +kernel
theorem dX1_sellsOrWants_21 : decode cX1_sellsOrWants 21 = .ok (.iaload, 1) := by decide +kernel
theorem dX1_sellsOrWants_22 : decode cX1_sellsOrWants 22 = .ok (.ifCond .le 7, 3) := by decide +kernel
theorem dX1_sellsOrWants_25 : decode cX1_sellsOrWants 25 = .ok (.iconst 1, 1) := by decide +kernel
theorem dX1_sellsOrWants_26 : decode cX1_sellsOrWants 26 = .ok (.goto 4, 3) := by decide +kernel
theorem dX1_sellsOrWants_29 : decode cX1_sellsOrWants 29 = .ok (.iconst 0, 1) := by decide +kernel
theorem dX1_sellsOrWants_30 : decode cX1_sellsOrWants 30 = .ok (.ireturn, 1) := by decide +kernel
theorem dX1_everyone_0 : decode cX1_everyone 0 = .ok (.iconst 1, 1) := by decide +kernel
theorem dX1_everyone_1 : decode cX1_everyone 1 = .ok (.aload_n 0, 1) := by decide +kernel
theorem dX1_everyone_2 : decode cX1_everyone 2 = .ok (.getfield 37, 3) := by decide +kernel
theorem dX1_everyone_5 : decode cX1_everyone 5 = .ok (.ishl, 1) := by decide +kernel
theorem dX1_everyone_6 : decode cX1_everyone 6 = .ok (.iconst 1, 1) := by decide +kernel
theorem dX1_everyone_7 : decode cX1_everyone 7 = .ok (.isub, 1) := by decide +kernel
theorem dX1_everyone_8 : decode cX1_everyone 8 = .ok (.ireturn, 1) := by decide +kernel
