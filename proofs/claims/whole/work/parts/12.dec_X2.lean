theorem dX2_init_0 : decode cX2_init 0 = .ok (.aload_n 0, 1) := by decide +kernel
theorem dX2_init_1 : decode cX2_init 1 = .ok (.invokespecial 3, 3) := by decide +kernel
theorem dX2_init_4 : decode cX2_init 4 = .ok (.aload_n 0, 1) := by decide +kernel
theorem dX2_init_5 : decode cX2_init 5 = .ok (.new 9, 3) := by decide +kernel
theorem dX2_init_8 : decode cX2_init 8 = .ok (.dup, 1) := by decide +kernel
theorem dX2_init_9 : decode cX2_init 9 = .ok (.invokespecial 11, 3) := by decide +kernel
theorem dX2_init_12 : decode cX2_init 12 = .ok (.putfield 12, 3) := by decide +kernel
theorem dX2_init_15 : decode cX2_init 15 = .ok (.aload_n 0, 1) := by decide +kernel
theorem dX2_init_16 : decode cX2_init 16 = .ok (.aload_n 1, 1) := by decide +kernel
theorem dX2_init_17 : decode cX2_init 17 = .ok (.putfield 18, 3) := by decide +kernel
theorem dX2_init_20 : decode cX2_init 20 = .ok (.return_, 1) := by decide +kernel
theorem dX2_readText_0 : decode cX2_readText 0 = .ok (.aload_n 0, 1) := by decide +kernel
theorem dX2_readText_1 : decode cX2_readText 1 = .ok (.getfield 12, 3) := by decide +kernel
theorem dX2_readText_4 : decode cX2_readText 4 = .ok (.invokevirtual 22, 3) := by decide +kernel
theorem dX2_readText_7 : decode cX2_readText 7 = .ok (.aload_n 0, 1) := by decide +kernel
theorem dX2_readText_8 : decode cX2_readText 8 = .ok (.iconst 0, 1) := by decide +kernel
theorem dX2_readText_9 : decode cX2_readText 9 = .ok (.putfield 25, 3) := by decide +kernel
theorem dX2_readText_12 : decode cX2_readText 12 = .ok (.aload_n 0, 1) := by decide +kernel
theorem dX2_readText_13 : decode cX2_readText 13 = .ok (.iconst 0, 1) := by decide +kernel
theorem dX2_readText_14 : decode cX2_readText 14 = .ok (.putfield 29, 3) := by decide +kernel
theorem dX2_readText_17 : decode cX2_readText 17 = .ok (.aload_n 0, 1) := by decide +kernel
theorem dX2_readText_18 : decode cX2_readText 18 = .ok (.iconst 0, 1) := by decide +kernel
theorem dX2_readText_19 : decode cX2_readText 19 = .ok (.putfield 32, 3) := by decide +kernel
theorem dX2_readText_22 : decode cX2_readText 22 = .ok (.aload_n 0, 1) := by decide +kernel
theorem dX2_readText_23 : decode cX2_readText 23 = .ok (.getfield 18, 3) := by decide +kernel
theorem dX2_readText_26 : decode cX2_readText 26 = .ok (.sipush 900, 3) := by decide +kernel
theorem dX2_readText_29 : decode cX2_readText 29 = .ok (.invokevirtual 35, 3) := by decide +kernel
theorem dX2_readText_32 : decode cX2_readText 32 = .ok (.iconst 0, 1) := by decide +kernel
theorem dX2_readText_33 : decode cX2_readText 33 = .ok (.istore_n 1, 1) := by decide +kernel
theorem dX2_readText_34 : decode cX2_readText 34 = .ok (.iload_n 1, 1) := by decide +kernel
theorem dX2_readText_35 : decode cX2_readText 35 = .ok (.sipush 900, 3) := by decide +kernel
theorem dX2_readText_38 : decode cX2_readText 38 = .ok (.if_icmp .ge 40, 3) := by decide +kernel
theorem dX2_readText_41 : decode cX2_readText 41 = .ok (.aload_n 0, 1) := by decide +kernel
theorem dX2_readText_42 : decode cX2_readText 42 = .ok (.getfield 18, 3) := by decide +kernel
theorem dX2_readText_45 : decode cX2_readText 45 = .ok (.invokevirtual 41, 3) := by decide +kernel
theorem dX2_readText_48 : decode cX2_readText 48 = .ok (.ifCond .ne 30, 3) := by decide +kernel
theorem dX2_readText_51 : decode cX2_readText 51 = .ok (.aload_n 0, 1) := by decide +kernel
theorem dX2_readText_52 : decode cX2_readText 52 = .ok (.invokevirtual 45, 3) := by decide +kernel
theorem dX2_readText_55 : decode cX2_readText 55 = .ok (.ifCond .eq 15, 3) := by decide +kernel
theorem dX2_readText_58 : decode cX2_readText 58 = .ok (.aload_n 0, 1) := by decide +kernel
theorem dX2_readText_59 : decode cX2_readText 59 = .ok (.getfield 18, 3) := by decide +kernel
theorem dX2_readText_62 : decode cX2_readText 62 = .ok (.bipush 59, 2) := by decide +kernel
theorem dX2_readText_64 : decode cX2_readText 64 = .ok (.invokevirtual 48, 3) := by decide +kernel
theorem dX2_readText_67 : decode cX2_readText 67 = .ok (.ifCond .ne 5, 3) := by decide +kernel
theorem dX2_readText_70 : decode cX2_readText 70 = .ok (.iconst (-1), 1) := by decide +kernel
theorem dX2_readText_71 : decode cX2_readText 71 = .ok (.ireturn, 1) := by decide +kernel
theorem dX2_readText_72 : decode cX2_readText 72 = .ok (.iinc 1 1, 3) := by decide +kernel
theorem dX2_readText_75 : decode cX2_readText 75 = .ok (.goto (-41), 3) := by decide +kernel
theorem dX2_readText_78 : decode cX2_readText 78 = .ok (.aload_n 0, 1) := by decide +kernel
theorem dX2_readText_79 : decode cX2_readText 79 = .ok (.getfield 18, 3) := by decide +kernel
theorem dX2_readText_82 : decode cX2_readText 82 = .ok (.invokevirtual 52, 3) := by decide +kernel
theorem dX2_readText_85 : decode cX2_readText 85 = .ok (.ifCond .eq 7, 3) := by decide +kernel
theorem dX2_readText_88 : decode cX2_readText 88 = .ok (.iload_n 1, 1) := by decide +kernel
theorem dX2_readText_89 : decode cX2_readText 89 = .ok (.goto 4, 3) := by decide +kernel
theorem dX2_readText_92 : decode cX2_readText 92 = .ok (.iconst (-1), 1) := by decide +kernel
theorem dX2_readText_93 : decode cX2_readText 93 = .ok (.ireturn, 1) := by decide +kernel
theorem dX2_readLine_0 : decode cX2_readLine 0 = .ok (.aload_n 0, 1) := by decide +kernel
theorem dX2_readLine_1 : decode cX2_readLine 1 = .ok (.getfield 18, 3) := by decide +kernel
theorem dX2_readLine_4 : decode cX2_readLine 4 = .ok (.getfield 55, 3) := by decide +kernel
theorem dX2_readLine_7 : decode cX2_readLine 7 = .ok (.tableswitch 108 0 8 #[49, 54, 59, 64, 69, 81, 93, 98, 103], 49) := by decide +kernel
theorem dX2_readLine_56 : decode cX2_readLine 56 = .ok (.aload_n 0, 1) := by decide +kernel
theorem dX2_readLine_57 : decode cX2_readLine 57 = .ok (.invokevirtual 59, 3) := by decide +kernel
theorem dX2_readLine_60 : decode cX2_readLine 60 = .ok (.ireturn, 1) := by decide +kernel
theorem dX2_readLine_61 : decode cX2_readLine 61 = .ok (.aload_n 0, 1) := by decide +kernel
theorem dX2_readLine_62 : decode cX2_readLine 62 = .ok (.invokevirtual 62, 3) := by decide +kernel
theorem dX2_readLine_65 : decode cX2_readLine 65 = .ok (.ireturn, 1) := by decide +kernel
theorem dX2_readLine_66 : decode cX2_readLine 66 = .ok (.aload_n 0, 1) := by decide +kernel
theorem dX2_readLine_67 : decode cX2_readLine 67 = .ok (.invokevirtual 65, 3) := by decide +kernel
theorem dX2_readLine_70 : decode cX2_readLine 70 = .ok (.ireturn, 1) := by decide +kernel
theorem dX2_readLine_71 : decode cX2_readLine 71 = .ok (.aload_n 0, 1) := by decide +kernel
theorem dX2_readLine_72 : decode cX2_readLine 72 = .ok (.invokevirtual 68, 3) := by decide +kernel
theorem dX2_readLine_75 : decode cX2_readLine 75 = .ok (.ireturn, 1) := by decide +kernel
theorem dX2_readLine_76 : decode cX2_readLine 76 = .ok (.aload_n 0, 1) := by decide +kernel
theorem dX2_readLine_77 : decode cX2_readLine 77 = .ok (.aload_n 0, 1) := by decide +kernel
theorem dX2_readLine_78 : decode cX2_readLine 78 = .ok (.getfield 12, 3) := by decide +kernel
theorem dX2_readLine_81 : decode cX2_readLine 81 = .ok (.getfield 71, 3) := by decide +kernel
theorem dX2_readLine_84 : decode cX2_readLine 84 = .ok (.invokevirtual 75, 3) := by decide +kernel
theorem dX2_readLine_87 : decode cX2_readLine 87 = .ok (.ireturn, 1) := by decide +kernel
theorem dX2_readLine_88 : decode cX2_readLine 88 = .ok (.aload_n 0, 1) := by decide +kernel
theorem dX2_readLine_89 : decode cX2_readLine 89 = .ok (.aload_n 0, 1) := by decide +kernel
theorem dX2_readLine_90 : decode cX2_readLine 90 = .ok (.getfield 12, 3) := by decide +kernel
theorem dX2_readLine_93 : decode cX2_readLine 93 = .ok (.getfield 79, 3) := by decide +kernel
theorem dX2_readLine_96 : decode cX2_readLine 96 = .ok (.invokevirtual 75, 3) := by decide +kernel
theorem dX2_readLine_99 : decode cX2_readLine 99 = .ok (.ireturn, 1) := by decide +kernel
theorem dX2_readLine_100 : decode cX2_readLine 100 = .ok (.aload_n 0, 1) := by decide +kernel
theorem dX2_readLine_101 : decode cX2_readLine 101 = .ok (.invokevirtual 82, 3) := by decide +kernel
theorem dX2_readLine_104 : decode cX2_readLine 104 = .ok (.ireturn, 1) := by decide +kernel
theorem dX2_readLine_105 : decode cX2_readLine 105 = .ok (.aload_n 0, 1) := by decide +kernel
theorem dX2_readLine_106 : decode cX2_readLine 106 = .ok (.invokevirtual 85, 3) := by decide +kernel
theorem dX2_readLine_109 : decode cX2_readLine 109 = .ok (.ireturn, 1) := by decide +kernel
theorem dX2_readLine_110 : decode cX2_readLine 110 = .ok (.aload_n 0, 1) := by decide +kernel
theorem dX2_readLine_111 : decode cX2_readLine 111 = .ok (.invokevirtual 88, 3) := by decide +kernel
theorem dX2_readLine_114 : decode cX2_readLine 114 = .ok (.ireturn, 1) := by decide +kernel
theorem dX2_readLine_115 : decode cX2_readLine 115 = .ok (.aload_n 0, 1) := by decide +kernel
theorem dX2_readLine_116 : decode cX2_readLine 116 = .ok (.getfield 18, 3) := by decide +kernel
theorem dX2_readLine_119 : decode cX2_readLine 119 = .ok (.iconst 1, 1) := by decide +kernel
theorem dX2_readLine_120 : decode cX2_readLine 120 = .ok (.invokevirtual 91, 3) := by decide +kernel
theorem dX2_readLine_123 : decode cX2_readLine 123 = .ok (.ireturn, 1) := by decide +kernel
theorem dX2_readPerson_0 : decode cX2_readPerson 0 = .ok (.aload_n 0, 1) := by decide +kernel
theorem dX2_readPerson_1 : decode cX2_readPerson 1 = .ok (.getfield 12, 3) := by decide +kernel
theorem dX2_readPerson_4 : decode cX2_readPerson 4 = .ok (.getfield 94, 3) := by decide +kernel
theorem dX2_readPerson_7 : decode cX2_readPerson 7 = .ok (.bipush 7, 2) := by decide +kernel
theorem dX2_readPerson_9 : decode cX2_readPerson 9 = .ok (.if_icmp .lt 12, 3) := by decide +kernel
theorem dX2_readPerson_12 : decode cX2_readPerson 12 = .ok (.aload_n 0, 1) := by decide +kernel
theorem dX2_readPerson_13 : decode cX2_readPerson 13 = .ok (.getfield 18, 3) := by decide +kernel
theorem dX2_readPerson_16 : decode cX2_readPerson 16 = .ok (.iconst 4, 1) := by decide +kernel
theorem dX2_readPerson_17 : decode cX2_readPerson 17 = .ok (.invokevirtual 91, 3) := by decide +kernel
theorem dX2_readPerson_20 : decode cX2_readPerson 20 = .ok (.ireturn, 1) := by decide +kernel
theorem dX2_readPerson_21 : decode cX2_readPerson 21 = .ok (.aload_n 0, 1) := by decide +kernel
theorem dX2_readPerson_22 : decode cX2_readPerson 22 = .ok (.getfield 18, 3) := by decide +kernel
theorem dX2_readPerson_25 : decode cX2_readPerson 25 = .ok (.invokevirtual 97, 3) := by decide +kernel
theorem dX2_readPerson_28 : decode cX2_readPerson 28 = .ok (.aload_n 0, 1) := by decide +kernel
theorem dX2_readPerson_29 : decode cX2_readPerson 29 = .ok (.aload_n 0, 1) := by decide +kernel
theorem dX2_readPerson_30 : decode cX2_readPerson 30 = .ok (.getfield 12, 3) := by decide +kernel
theorem dX2_readPerson_33 : decode cX2_readPerson 33 = .ok (.getfield 94, 3) := by decide +kernel
theorem dX2_readPerson_36 : decode cX2_readPerson 36 = .ok (.invokevirtual 100, 3) := by decide +kernel
theorem dX2_readPerson_39 : decode cX2_readPerson 39 = .ok (.ifCond .ne 5, 3) := by decide +kernel
theorem dX2_readPerson_42 : decode cX2_readPerson 42 = .ok (.iconst 0, 1) := by decide +kernel
theorem dX2_readPerson_43 : decode cX2_readPerson 43 = .ok (.ireturn, 1) := by decide +kernel
theorem dX2_readPerson_44 : decode cX2_readPerson 44 = .ok (.aload_n 0, 1) := by decide +kernel
theorem dX2_readPerson_45 : decode cX2_readPerson 45 = .ok (.getfield 18, 3) := by decide +kernel
theorem dX2_readPerson_48 : decode cX2_readPerson 48 = .ok (.iconst 0, 1) := by decide +kernel
theorem dX2_readPerson_49 : decode cX2_readPerson 49 = .ok (.bipush 99, 2) := by decide +kernel
theorem dX2_readPerson_51 : decode cX2_readPerson 51 = .ok (.invokevirtual 103, 3) := by decide +kernel
theorem dX2_readPerson_54 : decode cX2_readPerson 54 = .ok (.istore_n 1, 1) := by decide +kernel
theorem dX2_readPerson_55 : decode cX2_readPerson 55 = .ok (.iload_n 1, 1) := by decide +kernel
theorem dX2_readPerson_56 : decode cX2_readPerson 56 = .ok (.iconst (-1), 1) := by decide +kernel
theorem dX2_readPerson_57 : decode cX2_readPerson 57 = .ok (.if_icmp .ne 5, 3) := by decide +kernel
theorem dX2_readPerson_60 : decode cX2_readPerson 60 = .ok (.iconst 0, 1) := by decide +kernel
theorem dX2_readPerson_61 : decode cX2_readPerson 61 = .ok (.ireturn, 1) := by decide +kernel
theorem dX2_readPerson_62 : decode cX2_readPerson 62 = .ok (.aload_n 0, 1) := by decide +kernel
theorem dX2_readPerson_63 : decode cX2_readPerson 63 = .ok (.getfield 12, 3) := by decide +kernel
theorem dX2_readPerson_66 : decode cX2_readPerson 66 = .ok (.getfield 107, 3) := by decide +kernel
theorem dX2_readPerson_69 : decode cX2_readPerson 69 = .ok (.aload_n 0, 1) := by decide +kernel
theorem dX2_readPerson_70 : decode cX2_readPerson 70 = .ok (.getfield 12, 3) := by decide +kernel
theorem dX2_readPerson_73 : decode cX2_readPerson 73 = .ok (.getfield 94, 3) := by decide +kernel
theorem dX2_readPerson_76 : decode cX2_readPerson 76 = .ok (.iload_n 1, 1) := by decide +kernel
theorem dX2_readPerson_77 : decode cX2_readPerson 77 = .ok (.iastore, 1) := by decide +kernel
theorem dX2_readPerson_78 : decode cX2_readPerson 78 = .ok (.aload_n 0, 1) := by decide +kernel
theorem dX2_readPerson_79 : decode cX2_readPerson 79 = .ok (.getfield 12, 3) := by decide +kernel
theorem dX2_readPerson_82 : decode cX2_readPerson 82 = .ok (.dup, 1) := by decide +kernel
theorem dX2_readPerson_83 : decode cX2_readPerson 83 = .ok (.getfield 94, 3) := by decide +kernel
theorem dX2_readPerson_86 : decode cX2_readPerson 86 = .ok (.iconst 1, 1) := by decide +kernel
theorem dX2_readPerson_87 : decode cX2_readPerson 87 = .ok (.iadd, 1) := by decide +kernel
theorem dX2_readPerson_88 : decode cX2_readPerson 88 = .ok (.putfield 94, 3) := by decide +kernel
theorem dX2_readPerson_91 : decode cX2_readPerson 91 = .ok (.iconst 1, 1) := by decide +kernel
theorem dX2_readPerson_92 : decode cX2_readPerson 92 = .ok (.ireturn, 1) := by decide +kernel
theorem dX2_readGood_0 : decode cX2_readGood 0 = .ok (.aload_n 0, 1) := by decide +kernel
theorem dX2_readGood_1 : decode cX2_readGood 1 = .ok (.getfield 12, 3) := by decide +kernel
theorem dX2_readGood_4 : decode cX2_readGood 4 = .ok (.getfield 110, 3) := by decide +kernel
theorem dX2_readGood_7 : decode cX2_readGood 7 = .ok (.iconst 5, 1) := by decide +kernel
theorem dX2_readGood_8 : decode cX2_readGood 8 = .ok (.if_icmp .lt 12, 3) := by decide +kernel
theorem dX2_readGood_11 : decode cX2_readGood 11 = .ok (.aload_n 0, 1) := by decide +kernel
theorem dX2_readGood_12 : decode cX2_readGood 12 = .ok (.getfield 18, 3) := by decide +kernel
theorem dX2_readGood_15 : decode cX2_readGood 15 = .ok (.iconst 4, 1) := by decide +kernel
theorem dX2_readGood_16 : decode cX2_readGood 16 = .ok (.invokevirtual 91, 3) := by decide +kernel
theorem dX2_readGood_19 : decode cX2_readGood 19 = .ok (.ireturn, 1) := by decide +kernel
theorem dX2_readGood_20 : decode cX2_readGood 20 = .ok (.aload_n 0, 1) := by decide +kernel
theorem dX2_readGood_21 : decode cX2_readGood 21 = .ok (.getfield 18, 3) := by decide +kernel
theorem dX2_readGood_24 : decode cX2_readGood 24 = .ok (.invokevirtual 97, 3) := by decide +kernel
theorem dX2_readGood_27 : decode cX2_readGood 27 = .ok (.aload_n 0, 1) := by decide +kernel
theorem dX2_readGood_28 : decode cX2_readGood 28 = .ok (.bipush 7, 2) := by decide +kernel
theorem dX2_readGood_30 : decode cX2_readGood 30 = .ok (.aload_n 0, 1) := by decide +kernel
theorem dX2_readGood_31 : decode cX2_readGood 31 = .ok (.getfield 12, 3) := by decide +kernel
theorem dX2_readGood_34 : decode cX2_readGood 34 = .ok (.getfield 110, 3) := by decide +kernel
theorem dX2_readGood_37 : decode cX2_readGood 37 = .ok (.iadd, 1) := by decide +kernel
theorem dX2_readGood_38 : decode cX2_readGood 38 = .ok (.invokevirtual 100, 3) := by decide +kernel
theorem dX2_readGood_41 : decode cX2_readGood 41 = .ok (.ifCond .ne 5, 3) := by decide +kernel
theorem dX2_readGood_44 : decode cX2_readGood 44 = .ok (.iconst 0, 1) := by decide +kernel
theorem dX2_readGood_45 : decode cX2_readGood 45 = .ok (.ireturn, 1) := by decide +kernel
theorem dX2_readGood_46 : decode cX2_readGood 46 = .ok (.aload_n 0, 1) := by decide +kernel
theorem dX2_readGood_47 : decode cX2_readGood 47 = .ok (.getfield 12, 3) := by decide +kernel
theorem dX2_readGood_50 : decode cX2_readGood 50 = .ok (.dup, 1) := by decide +kernel
theorem dX2_readGood_51 : decode cX2_readGood 51 = .ok (.getfield 110, 3) := by decide +kernel
theorem dX2_readGood_54 : decode cX2_readGood 54 = .ok (.iconst 1, 1) := by decide +kernel
theorem dX2_readGood_55 : decode cX2_readGood 55 = .ok (.iadd, 1) := by decide +kernel
theorem dX2_readGood_56 : decode cX2_readGood 56 = .ok (.putfield 110, 3) := by decide +kernel
theorem dX2_readGood_59 : decode cX2_readGood 59 = .ok (.iconst 1, 1) := by decide +kernel
theorem dX2_readGood_60 : decode cX2_readGood 60 = .ok (.ireturn, 1) := by decide +kernel
theorem dX2_passNewName_0 : decode cX2_passNewName 0 = .ok (.aload_n 0, 1) := by decide +kernel
theorem dX2_passNewName_1 : decode cX2_passNewName 1 = .ok (.getfield 18, 3) := by decide +kernel
theorem dX2_passNewName_4 : decode cX2_passNewName 4 = .ok (.invokevirtual 113, 3) := by decide +kernel
theorem dX2_passNewName_7 : decode cX2_passNewName 7 = .ok (.ifCond .ne 12, 3) := by decide +kernel
theorem dX2_passNewName_10 : decode cX2_passNewName 10 = .ok (.aload_n 0, 1) := by decide +kernel
theorem dX2_passNewName_11 : decode cX2_passNewName 11 = .ok (.getfield 18, 3) := by decide +kernel
theorem dX2_passNewName_14 : decode cX2_passNewName 14 = .ok (.iconst 1, 1) := by decide +kernel
theorem dX2_passNewName_15 : decode cX2_passNewName 15 = .ok (.invokevirtual 91, 3) := by decide +kernel
theorem dX2_passNewName_18 : decode cX2_passNewName 18 = .ok (.ireturn, 1) := by decide +kernel
theorem dX2_passNewName_19 : decode cX2_passNewName 19 = .ok (.aload_n 0, 1) := by decide +kernel
theorem dX2_passNewName_20 : decode cX2_passNewName 20 = .ok (.getfield 12, 3) := by decide +kernel
theorem dX2_passNewName_23 : decode cX2_passNewName 23 = .ok (.aload_n 0, 1) := by decide +kernel
theorem dX2_passNewName_24 : decode cX2_passNewName 24 = .ok (.getfield 18, 3) := by decide +kernel
theorem dX2_passNewName_27 : decode cX2_passNewName 27 = .ok (.getfield 116, 3) := by decide +kernel
theorem dX2_passNewName_30 : decode cX2_passNewName 30 = .ok (.invokevirtual 120, 3) := by decide +kernel
theorem dX2_passNewName_33 : decode cX2_passNewName 33 = .ok (.iconst (-1), 1) := by decide +kernel
theorem dX2_passNewName_34 : decode cX2_passNewName 34 = .ok (.if_icmp .eq 12, 3) := by decide +kernel
theorem dX2_passNewName_37 : decode cX2_passNewName 37 = .ok (.aload_n 0, 1) := by decide +kernel
theorem dX2_passNewName_38 : decode cX2_passNewName 38 = .ok (.getfield 18, 3) := by decide +kernel
theorem dX2_passNewName_41 : decode cX2_passNewName 41 = .ok (.iconst 3, 1) := by decide +kernel
theorem dX2_passNewName_42 : decode cX2_passNewName 42 = .ok (.invokevirtual 91, 3) := by decide +kernel
theorem dX2_passNewName_45 : decode cX2_passNewName 45 = .ok (.ireturn, 1) := by decide +kernel
theorem dX2_passNewName_46 : decode cX2_passNewName 46 = .ok (.aload_n 0, 1) := by decide +kernel
theorem dX2_passNewName_47 : decode cX2_passNewName 47 = .ok (.getfield 12, 3) := by decide +kernel
theorem dX2_passNewName_50 : decode cX2_passNewName 50 = .ok (.getfield 124, 3) := by decide +kernel
theorem dX2_passNewName_53 : decode cX2_passNewName 53 = .ok (.iload_n 1, 1) := by decide +kernel
theorem dX2_passNewName_54 : decode cX2_passNewName 54 = .ok (.aload_n 0, 1) := by decide +kernel
theorem dX2_passNewName_55 : decode cX2_passNewName 55 = .ok (.getfield 18, 3) := by decide +kernel
theorem dX2_passNewName_58 : decode cX2_passNewName 58 = .ok (.getfield 116, 3) := by decide +kernel
theorem dX2_passNewName_61 : decode cX2_passNewName 61 = .ok (.lastore, 1) := by decide +kernel
theorem dX2_passNewName_62 : decode cX2_passNewName 62 = .ok (.aload_n 0, 1) := by decide +kernel
theorem dX2_passNewName_63 : decode cX2_passNewName 63 = .ok (.getfield 18, 3) := by decide +kernel
theorem dX2_passNewName_66 : decode cX2_passNewName 66 = .ok (.invokevirtual 97, 3) := by decide +kernel
theorem dX2_passNewName_69 : decode cX2_passNewName 69 = .ok (.iconst 1, 1) := by decide +kernel
theorem dX2_passNewName_70 : decode cX2_passNewName 70 = .ok (.ireturn, 1) := by decide +kernel
theorem dX2_readSells_0 : decode cX2_readSells 0 = .ok (.aload_n 0, 1) := by decide +kernel
theorem dX2_readSells_1 : decode cX2_readSells 1 = .ok (.invokevirtual 128, 3) := by decide +kernel
theorem dX2_readSells_4 : decode cX2_readSells 4 = .ok (.istore_n 1, 1) := by decide +kernel
theorem dX2_readSells_5 : decode cX2_readSells 5 = .ok (.iload_n 1, 1) := by decide +kernel
theorem dX2_readSells_6 : decode cX2_readSells 6 = .ok (.iconst (-1), 1) := by decide +kernel
theorem dX2_readSells_7 : decode cX2_readSells 7 = .ok (.if_icmp .ne 5, 3) := by decide +kernel
theorem dX2_readSells_10 : decode cX2_readSells 10 = .ok (.iconst 0, 1) := by decide +kernel
theorem dX2_readSells_11 : decode cX2_readSells 11 = .ok (.ireturn, 1) := by decide +kernel
theorem dX2_readSells_12 : decode cX2_readSells 12 = .ok (.aload_n 0, 1) := by decide +kernel
theorem dX2_readSells_13 : decode cX2_readSells 13 = .ok (.getfield 18, 3) := by decide +kernel
theorem dX2_readSells_16 : decode cX2_readSells 16 = .ok (.iconst 1, 1) := by decide +kernel
theorem dX2_readSells_17 : decode cX2_readSells 17 = .ok (.bipush 9, 2) := by decide +kernel
theorem dX2_readSells_19 : decode cX2_readSells 19 = .ok (.invokevirtual 103, 3) := by decide +kernel
theorem dX2_readSells_22 : decode cX2_readSells 22 = .ok (.istore_n 2, 1) := by decide +kernel
theorem dX2_readSells_23 : decode cX2_readSells 23 = .ok (.iload_n 2, 1) := by decide +kernel
theorem dX2_readSells_24 : decode cX2_readSells 24 = .ok (.iconst (-1), 1) := by decide +kernel
theorem dX2_readSells_25 : decode cX2_readSells 25 = .ok (.if_icmp .ne 5, 3) := by decide +kernel
theorem dX2_readSells_28 : decode cX2_readSells 28 = .ok (.iconst 0, 1) := by decide +kernel
theorem dX2_readSells_29 : decode cX2_readSells 29 = .ok (.ireturn, 1) := by decide +kernel
theorem dX2_readSells_30 : decode cX2_readSells 30 = .ok (.aload_n 0, 1) := by decide +kernel
theorem dX2_readSells_31 : decode cX2_readSells 31 = .ok (.getfield 12, 3) := by decide +kernel
theorem dX2_readSells_34 : decode cX2_readSells 34 = .ok (.getfield 132, 3) := by decide +kernel
theorem dX2_readSells_37 : decode cX2_readSells 37 = .ok (.iload_n 1, 1) := by decide +kernel
theorem dX2_readSells_38 : decode cX2_readSells 38 = .ok (.iload_n 2, 1) := by decide +kernel
theorem dX2_readSells_39 : decode cX2_readSells 39 = .ok (.iastore, 1) := by decide +kernel
theorem dX2_readSells_40 : decode cX2_readSells 40 = .ok (.aload_n 0, 1) := by decide +kernel
theorem dX2_readSells_41 : decode cX2_readSells 41 = .ok (.getfield 12, 3) := by decide +kernel
theorem dX2_readSells_44 : decode cX2_readSells 44 = .ok (.getfield 135, 3) := by decide +kernel
theorem dX2_readSells_47 : decode cX2_readSells 47 = .ok (.iload_n 1, 1) := by decide +kernel
theorem dX2_readSells_48 : decode cX2_readSells 48 = .ok (.aload_n 0, 1) := by decide +kernel
theorem dX2_readSells_49 : decode cX2_readSells 49 = .ok (.getfield 18, 3) := by decide +kernel
theorem dX2_readSells_52 : decode cX2_readSells 52 = .ok (.iconst 0, 1) := by decide +kernel
theorem dX2_readSells_53 : decode cX2_readSells 53 = .ok (.bipush 20, 2) := by decide +kernel
theorem dX2_readSells_55 : decode cX2_readSells 55 = .ok (.invokevirtual 103, 3) := by decide +kernel
theorem dX2_readSells_58 : decode cX2_readSells 58 = .ok (.iastore, 1) := by decide +kernel
theorem dX2_readSells_59 : decode cX2_readSells 59 = .ok (.aload_n 0, 1) := by decide +kernel
theorem dX2_readSells_60 : decode cX2_readSells 60 = .ok (.getfield 12, 3) := by decide +kernel
theorem dX2_readSells_63 : decode cX2_readSells 63 = .ok (.getfield 135, 3) := by decide +kernel
theorem dX2_readSells_66 : decode cX2_readSells 66 = .ok (.iload_n 1, 1) := by decide +kernel
theorem dX2_readSells_67 : decode cX2_readSells 67 = .ok (.iaload, 1) := by decide +kernel
theorem dX2_readSells_68 : decode cX2_readSells 68 = .ok (.iconst (-1), 1) := by decide +kernel
theorem dX2_readSells_69 : decode cX2_readSells 69 = .ok (.if_icmp .eq 7, 3) := by decide +kernel
theorem dX2_readSells_72 : decode cX2_readSells 72 = .ok (.iconst 1, 1) := by decide +kernel
theorem dX2_readSells_73 : decode cX2_readSells 73 = .ok (.goto 4, 3) := by decide +kernel
theorem dX2_readSells_76 : decode cX2_readSells 76 = .ok (.iconst 0, 1) := by decide +kernel
theorem dX2_readSells_77 : decode cX2_readSells 77 = .ok (.ireturn, 1) := by decide +kernel
theorem dX2_readWants_0 : decode cX2_readWants 0 = .ok (.aload_n 0, 1) := by decide +kernel
theorem dX2_readWants_1 : decode cX2_readWants 1 = .ok (.invokevirtual 128, 3) := by decide +kernel
theorem dX2_readWants_4 : decode cX2_readWants 4 = .ok (.istore_n 1, 1) := by decide +kernel
theorem dX2_readWants_5 : decode cX2_readWants 5 = .ok (.iload_n 1, 1) := by decide +kernel
theorem dX2_readWants_6 : decode cX2_readWants 6 = .ok (.iconst (-1), 1) := by decide +kernel
theorem dX2_readWants_7 : decode cX2_readWants 7 = .ok (.if_icmp .ne 5, 3) := by decide +kernel
theorem dX2_readWants_10 : decode cX2_readWants 10 = .ok (.iconst 0, 1) := by decide +kernel
theorem dX2_readWants_11 : decode cX2_readWants 11 = .ok (.ireturn, 1) := by decide +kernel
theorem dX2_readWants_12 : decode cX2_readWants 12 = .ok (.aload_n 0, 1) := by decide +kernel
theorem dX2_readWants_13 : decode cX2_readWants 13 = .ok (.getfield 18, 3) := by decide +kernel
theorem dX2_readWants_16 : decode cX2_readWants 16 = .ok (.iconst 1, 1) := by decide +kernel
theorem dX2_readWants_17 : decode cX2_readWants 17 = .ok (.bipush 9, 2) := by decide +kernel
theorem dX2_readWants_19 : decode cX2_readWants 19 = .ok (.invokevirtual 103, 3) := by decide +kernel
theorem dX2_readWants_22 : decode cX2_readWants 22 = .ok (.istore_n 2, 1) := by decide +kernel
theorem dX2_readWants_23 : decode cX2_readWants 23 = .ok (.iload_n 2, 1) := by decide +kernel
theorem dX2_readWants_24 : decode cX2_readWants 24 = .ok (.iconst (-1), 1) := by decide +kernel
theorem dX2_readWants_25 : decode cX2_readWants 25 = .ok (.if_icmp .ne 5, 3) := by decide +kernel
theorem dX2_readWants_28 : decode cX2_readWants 28 = .ok (.iconst 0, 1) := by decide +kernel
theorem dX2_readWants_29 : decode cX2_readWants 29 = .ok (.ireturn, 1) := by decide +kernel
theorem dX2_readWants_30 : decode cX2_readWants 30 = .ok (.aload_n 0, 1) := by decide +kernel
theorem dX2_readWants_31 : decode cX2_readWants 31 = .ok (.getfield 12, 3) := by decide +kernel
theorem dX2_readWants_34 : decode cX2_readWants 34 = .ok (.getfield 138, 3) := by decide +kernel
theorem dX2_readWants_37 : decode cX2_readWants 37 = .ok (.iload_n 1, 1) := by decide +kernel
theorem dX2_readWants_38 : decode cX2_readWants 38 = .ok (.iload_n 2, 1) := by decide +kernel
theorem dX2_readWants_39 : decode cX2_readWants 39 = .ok (.iastore, 1) := by decide +kernel
theorem dX2_readWants_40 : decode cX2_readWants 40 = .ok (.iconst 1, 1) := by decide +kernel
theorem dX2_readWants_41 : decode cX2_readWants 41 = .ok (.ireturn, 1) := by decide +kernel
theorem dX2_passNewCell_0 : decode cX2_passNewCell 0 = .ok (.aload_n 0, 1) := by decide +kernel
theorem dX2_passNewCell_1 : decode cX2_passNewCell 1 = .ok (.getfield 18, 3) := by decide +kernel
theorem dX2_passNewCell_4 : decode cX2_passNewCell 4 = .ok (.invokevirtual 97, 3) := by decide +kernel
theorem dX2_passNewCell_7 : decode cX2_passNewCell 7 = .ok (.aload_n 0, 1) := by decide +kernel
theorem dX2_passNewCell_8 : decode cX2_passNewCell 8 = .ok (.getfield 18, 3) := by decide +kernel
theorem dX2_passNewCell_11 : decode cX2_passNewCell 11 = .ok (.aload_n 0, 1) := by decide +kernel
theorem dX2_passNewCell_12 : decode cX2_passNewCell 12 = .ok (.getfield 12, 3) := by decide +kernel
theorem dX2_passNewCell_15 : decode cX2_passNewCell 15 = .ok (.invokevirtual 141, 3) := by decide +kernel
theorem dX2_passNewCell_18 : decode cX2_passNewCell 18 = .ok (.istore_n 1, 1) := by decide +kernel
theorem dX2_passNewCell_19 : decode cX2_passNewCell 19 = .ok (.iload_n 1, 1) := by decide +kernel
theorem dX2_passNewCell_20 : decode cX2_passNewCell 20 = .ok (.iconst (-1), 1) := by decide +kernel
theorem dX2_passNewCell_21 : decode cX2_passNewCell 21 = .ok (.if_icmp .ne 5, 3) := by decide +kernel
theorem dX2_passNewCell_24 : decode cX2_passNewCell 24 = .ok (.iconst (-1), 1) := by decide +kernel
theorem dX2_passNewCell_25 : decode cX2_passNewCell 25 = .ok (.ireturn, 1) := by decide +kernel
theorem dX2_passNewCell_26 : decode cX2_passNewCell 26 = .ok (.aload_n 0, 1) := by decide +kernel
theorem dX2_passNewCell_27 : decode cX2_passNewCell 27 = .ok (.getfield 18, 3) := by decide +kernel
theorem dX2_passNewCell_30 : decode cX2_passNewCell 30 = .ok (.aload_n 0, 1) := by decide +kernel
theorem dX2_passNewCell_31 : decode cX2_passNewCell 31 = .ok (.getfield 12, 3) := by decide +kernel
theorem dX2_passNewCell_34 : decode cX2_passNewCell 34 = .ok (.invokevirtual 145, 3) := by decide +kernel
theorem dX2_passNewCell_37 : decode cX2_passNewCell 37 = .ok (.istore_n 2, 1) := by decide +kernel
theorem dX2_passNewCell_38 : decode cX2_passNewCell 38 = .ok (.iload_n 2, 1) := by decide +kernel
theorem dX2_passNewCell_39 : decode cX2_passNewCell 39 = .ok (.iconst (-1), 1) := by decide +kernel
theorem dX2_passNewCell_40 : decode cX2_passNewCell 40 = .ok (.if_icmp .ne 5, 3) := by decide +kernel
theorem dX2_passNewCell_43 : decode cX2_passNewCell 43 = .ok (.iconst (-1), 1) := by decide +kernel
theorem dX2_passNewCell_44 : decode cX2_passNewCell 44 = .ok (.ireturn, 1) := by decide +kernel
theorem dX2_passNewCell_45 : decode cX2_passNewCell 45 = .ok (.aload_n 0, 1) := by decide +kernel
theorem dX2_passNewCell_46 : decode cX2_passNewCell 46 = .ok (.getfield 12, 3) := by decide +kernel
theorem dX2_passNewCell_49 : decode cX2_passNewCell 49 = .ok (.iload_n 1, 1) := by decide +kernel
theorem dX2_passNewCell_50 : decode cX2_passNewCell 50 = .ok (.iload_n 2, 1) := by decide +kernel
theorem dX2_passNewCell_51 : decode cX2_passNewCell 51 = .ok (.invokevirtual 148, 3) := by decide +kernel
theorem dX2_passNewCell_54 : decode cX2_passNewCell 54 = .ok (.ifCond .eq 14, 3) := by decide +kernel
theorem dX2_passNewCell_57 : decode cX2_passNewCell 57 = .ok (.aload_n 0, 1) := by decide +kernel
theorem dX2_passNewCell_58 : decode cX2_passNewCell 58 = .ok (.getfield 18, 3) := by decide +kernel
theorem dX2_passNewCell_61 : decode cX2_passNewCell 61 = .ok (.iconst 3, 1) := by decide +kernel
theorem dX2_passNewCell_62 : decode cX2_passNewCell 62 = .ok (.invokevirtual 91, 3) := by decide +kernel
theorem dX2_passNewCell_65 : decode cX2_passNewCell 65 = .ok (.pop, 1) := by decide +kernel
theorem dX2_passNewCell_66 : decode cX2_passNewCell 66 = .ok (.iconst (-1), 1) := by decide +kernel
theorem dX2_passNewCell_67 : decode cX2_passNewCell 67 = .ok (.ireturn, 1) := by decide +kernel
theorem dX2_passNewCell_68 : decode cX2_passNewCell 68 = .ok (.aload_n 0, 1) := by decide +kernel
theorem dX2_passNewCell_69 : decode cX2_passNewCell 69 = .ok (.getfield 18, 3) := by decide +kernel
theorem dX2_passNewCell_72 : decode cX2_passNewCell 72 = .ok (.invokevirtual 97, 3) := by decide +kernel
theorem dX2_passNewCell_75 : decode cX2_passNewCell 75 = .ok (.iload_n 1, 1) := by decide +kernel
theorem dX2_passNewCell_76 : decode cX2_passNewCell 76 = .ok (.iload_n 2, 1) := by decide +kernel
theorem dX2_passNewCell_77 : decode cX2_passNewCell 77 = .ok (.invokestatic 152, 3) := by decide +kernel
theorem dX2_passNewCell_80 : decode cX2_passNewCell 80 = .ok (.ireturn, 1) := by decide +kernel
theorem dX2_readPair_0 : decode cX2_readPair 0 = .ok (.aload_n 0, 1) := by decide +kernel
theorem dX2_readPair_1 : decode cX2_readPair 1 = .ok (.getfield 18, 3) := by decide +kernel
theorem dX2_readPair_4 : decode cX2_readPair 4 = .ok (.invokevirtual 97, 3) := by decide +kernel
theorem dX2_readPair_7 : decode cX2_readPair 7 = .ok (.aload_n 0, 1) := by decide +kernel
theorem dX2_readPair_8 : decode cX2_readPair 8 = .ok (.getfield 18, 3) := by decide +kernel
theorem dX2_readPair_11 : decode cX2_readPair 11 = .ok (.aload_n 0, 1) := by decide +kernel
theorem dX2_readPair_12 : decode cX2_readPair 12 = .ok (.getfield 12, 3) := by decide +kernel
theorem dX2_readPair_15 : decode cX2_readPair 15 = .ok (.invokevirtual 141, 3) := by decide +kernel
theorem dX2_readPair_18 : decode cX2_readPair 18 = .ok (.istore_n 2, 1) := by decide +kernel
theorem dX2_readPair_19 : decode cX2_readPair 19 = .ok (.iload_n 2, 1) := by decide +kernel
theorem dX2_readPair_20 : decode cX2_readPair 20 = .ok (.iconst (-1), 1) := by decide +kernel
theorem dX2_readPair_21 : decode cX2_readPair 21 = .ok (.if_icmp .ne 5, 3) := by decide +kernel
theorem dX2_readPair_24 : decode cX2_readPair 24 = .ok (.iconst 0, 1) := by decide +kernel
theorem dX2_readPair_25 : decode cX2_readPair 25 = .ok (.ireturn, 1) := by decide +kernel
theorem dX2_readPair_26 : decode cX2_readPair 26 = .ok (.aload_n 0, 1) := by decide +kernel
theorem dX2_readPair_27 : decode cX2_readPair 27 = .ok (.getfield 18, 3) := by decide +kernel
theorem dX2_readPair_30 : decode cX2_readPair 30 = .ok (.aload_n 0, 1) := by decide +kernel
theorem dX2_readPair_31 : decode cX2_readPair 31 = .ok (.getfield 12, 3) := by decide +kernel
theorem dX2_readPair_34 : decode cX2_readPair 34 = .ok (.invokevirtual 155, 3) := by decide +kernel
theorem dX2_readPair_37 : decode cX2_readPair 37 = .ok (.istore_n 3, 1) := by decide +kernel
theorem dX2_readPair_38 : decode cX2_readPair 38 = .ok (.iload_n 3, 1) := by decide +kernel
theorem dX2_readPair_39 : decode cX2_readPair 39 = .ok (.iconst (-1), 1) := by decide +kernel
theorem dX2_readPair_40 : decode cX2_readPair 40 = .ok (.if_icmp .ne 5, 3) := by decide +kernel
theorem dX2_readPair_43 : decode cX2_readPair 43 = .ok (.iconst 0, 1) := by decide +kernel
theorem dX2_readPair_44 : decode cX2_readPair 44 = .ok (.ireturn, 1) := by decide +kernel
theorem dX2_readPair_45 : decode cX2_readPair 45 = .ok (.iload_n 2, 1) := by decide +kernel
theorem dX2_readPair_46 : decode cX2_readPair 46 = .ok (.iload_n 3, 1) := by decide +kernel
theorem dX2_readPair_47 : decode cX2_readPair 47 = .ok (.if_icmp .eq 13, 3) := by decide +kernel
theorem dX2_readPair_50 : decode cX2_readPair 50 = .ok (.aload_n 1, 1) := by decide +kernel
theorem dX2_readPair_51 : decode cX2_readPair 51 = .ok (.iload_n 2, 1) := by decide +kernel
theorem dX2_readPair_52 : decode cX2_readPair 52 = .ok (.iaload, 1) := by decide +kernel
theorem dX2_readPair_53 : decode cX2_readPair 53 = .ok (.iload_n 3, 1) := by decide +kernel
theorem dX2_readPair_54 : decode cX2_readPair 54 = .ok (.invokestatic 158, 3) := by decide +kernel
theorem dX2_readPair_57 : decode cX2_readPair 57 = .ok (.ifCond .eq 12, 3) := by decide +kernel
theorem dX2_readPair_60 : decode cX2_readPair 60 = .ok (.aload_n 0, 1) := by decide +kernel
theorem dX2_readPair_61 : decode cX2_readPair 61 = .ok (.getfield 18, 3) := by decide +kernel
theorem dX2_readPair_64 : decode cX2_readPair 64 = .ok (.iconst 3, 1) := by decide +kernel
theorem dX2_readPair_65 : decode cX2_readPair 65 = .ok (.invokevirtual 91, 3) := by decide +kernel
theorem dX2_readPair_68 : decode cX2_readPair 68 = .ok (.ireturn, 1) := by decide +kernel
theorem dX2_readPair_69 : decode cX2_readPair 69 = .ok (.aload_n 1, 1) := by decide +kernel
theorem dX2_readPair_70 : decode cX2_readPair 70 = .ok (.iload_n 2, 1) := by decide +kernel
theorem dX2_readPair_71 : decode cX2_readPair 71 = .ok (.dup2, 1) := by decide +kernel
theorem dX2_readPair_72 : decode cX2_readPair 72 = .ok (.iaload, 1) := by decide +kernel
theorem dX2_readPair_73 : decode cX2_readPair 73 = .ok (.iconst 1, 1) := by decide +kernel
theorem dX2_readPair_74 : decode cX2_readPair 74 = .ok (.iload_n 3, 1) := by decide +kernel
theorem dX2_readPair_75 : decode cX2_readPair 75 = .ok (.ishl, 1) := by decide +kernel
theorem dX2_readPair_76 : decode cX2_readPair 76 = .ok (.ior, 1) := by decide +kernel
theorem dX2_readPair_77 : decode cX2_readPair 77 = .ok (.iastore, 1) := by decide +kernel
theorem dX2_readPair_78 : decode cX2_readPair 78 = .ok (.aload_n 1, 1) := by decide +kernel
theorem dX2_readPair_79 : decode cX2_readPair 79 = .ok (.iload_n 3, 1) := by decide +kernel
theorem dX2_readPair_80 : decode cX2_readPair 80 = .ok (.dup2, 1) := by decide +kernel
theorem dX2_readPair_81 : decode cX2_readPair 81 = .ok (.iaload, 1) := by decide +kernel
theorem dX2_readPair_82 : decode cX2_readPair 82 = .ok (.iconst 1, 1) := by decide +kernel
theorem dX2_readPair_83 : decode cX2_readPair 83 = .ok (.iload_n 2, 1) := by decide +kernel
theorem dX2_readPair_84 : decode cX2_readPair 84 = .ok (.ishl, 1) := by decide +kernel
theorem dX2_readPair_85 : decode cX2_readPair 85 = .ok (.ior, 1) := by decide +kernel
theorem dX2_readPair_86 : decode cX2_readPair 86 = .ok (.iastore, 1) := by decide +kernel
theorem dX2_readPair_87 : decode cX2_readPair 87 = .ok (.aload_n 0, 1) := by decide +kernel
theorem dX2_readPair_88 : decode cX2_readPair 88 = .ok (.getfield 18, 3) := by decide +kernel
theorem dX2_readPair_91 : decode cX2_readPair 91 = .ok (.invokevirtual 97, 3) := by decide +kernel
theorem dX2_readPair_94 : decode cX2_readPair 94 = .ok (.iconst 1, 1) := by decide +kernel
theorem dX2_readPair_95 : decode cX2_readPair 95 = .ok (.ireturn, 1) := by decide +kernel
theorem dX2_readDeals_0 : decode cX2_readDeals 0 = .ok (.aload_n 0, 1) := by decide +kernel
theorem dX2_readDeals_1 : decode cX2_readDeals 1 = .ok (.getfield 25, 3) := by decide +kernel
theorem dX2_readDeals_4 : decode cX2_readDeals 4 = .ok (.ifCond .eq 12, 3) := by decide +kernel
theorem dX2_readDeals_7 : decode cX2_readDeals 7 = .ok (.aload_n 0, 1) := by decide +kernel
theorem dX2_readDeals_8 : decode cX2_readDeals 8 = .ok (.getfield 18, 3) := by decide +kernel
theorem dX2_readDeals_11 : decode cX2_readDeals 11 = .ok (.iconst 3, 1) := by decide +kernel
theorem dX2_readDeals_12 : decode cX2_readDeals 12 = .ok (.invokevirtual 91, 3) := by decide +kernel
theorem dX2_readDeals_15 : decode cX2_readDeals 15 = .ok (.ireturn, 1) := by decide +kernel
theorem dX2_readDeals_16 : decode cX2_readDeals 16 = .ok (.aload_n 0, 1) := by decide +kernel
theorem dX2_readDeals_17 : decode cX2_readDeals 17 = .ok (.iconst 1, 1) := by decide +kernel
theorem dX2_readDeals_18 : decode cX2_readDeals 18 = .ok (.putfield 25, 3) := by decide +kernel
theorem dX2_readDeals_21 : decode cX2_readDeals 21 = .ok (.aload_n 0, 1) := by decide +kernel
theorem dX2_readDeals_22 : decode cX2_readDeals 22 = .ok (.getfield 18, 3) := by decide +kernel
theorem dX2_readDeals_25 : decode cX2_readDeals 25 = .ok (.invokevirtual 97, 3) := by decide +kernel
theorem dX2_readDeals_28 : decode cX2_readDeals 28 = .ok (.aload_n 0, 1) := by decide +kernel
theorem dX2_readDeals_29 : decode cX2_readDeals 29 = .ok (.getfield 12, 3) := by decide +kernel
theorem dX2_readDeals_32 : decode cX2_readDeals 32 = .ok (.aload_n 0, 1) := by decide +kernel
theorem dX2_readDeals_33 : decode cX2_readDeals 33 = .ok (.getfield 18, 3) := by decide +kernel
theorem dX2_readDeals_36 : decode cX2_readDeals 36 = .ok (.iconst 1, 1) := by decide +kernel
theorem dX2_readDeals_37 : decode cX2_readDeals 37 = .ok (.bipush 9, 2) := by decide +kernel
theorem dX2_readDeals_39 : decode cX2_readDeals 39 = .ok (.invokevirtual 103, 3) := by decide +kernel
theorem dX2_readDeals_42 : decode cX2_readDeals 42 = .ok (.putfield 161, 3) := by decide +kernel
theorem dX2_readDeals_45 : decode cX2_readDeals 45 = .ok (.aload_n 0, 1) := by decide +kernel
theorem dX2_readDeals_46 : decode cX2_readDeals 46 = .ok (.getfield 12, 3) := by decide +kernel
theorem dX2_readDeals_49 : decode cX2_readDeals 49 = .ok (.getfield 161, 3) := by decide +kernel
theorem dX2_readDeals_52 : decode cX2_readDeals 52 = .ok (.iconst (-1), 1) := by decide +kernel
theorem dX2_readDeals_53 : decode cX2_readDeals 53 = .ok (.if_icmp .eq 7, 3) := by decide +kernel
theorem dX2_readDeals_56 : decode cX2_readDeals 56 = .ok (.iconst 1, 1) := by decide +kernel
theorem dX2_readDeals_57 : decode cX2_readDeals 57 = .ok (.goto 4, 3) := by decide +kernel
theorem dX2_readDeals_60 : decode cX2_readDeals 60 = .ok (.iconst 0, 1) := by decide +kernel
theorem dX2_readDeals_61 : decode cX2_readDeals 61 = .ok (.ireturn, 1) := by decide +kernel
theorem dX2_readVeils_0 : decode cX2_readVeils 0 = .ok (.aload_n 0, 1) := by decide +kernel
theorem dX2_readVeils_1 : decode cX2_readVeils 1 = .ok (.getfield 29, 3) := by decide +kernel
theorem dX2_readVeils_4 : decode cX2_readVeils 4 = .ok (.ifCond .eq 12, 3) := by decide +kernel
theorem dX2_readVeils_7 : decode cX2_readVeils 7 = .ok (.aload_n 0, 1) := by decide +kernel
theorem dX2_readVeils_8 : decode cX2_readVeils 8 = .ok (.getfield 18, 3) := by decide +kernel
theorem dX2_readVeils_11 : decode cX2_readVeils 11 = .ok (.iconst 3, 1) := by decide +kernel
theorem dX2_readVeils_12 : decode cX2_readVeils 12 = .ok (.invokevirtual 91, 3) := by decide +kernel
theorem dX2_readVeils_15 : decode cX2_readVeils 15 = .ok (.ireturn, 1) := by decide +kernel
theorem dX2_readVeils_16 : decode cX2_readVeils 16 = .ok (.aload_n 0, 1) := by decide +kernel
theorem dX2_readVeils_17 : decode cX2_readVeils 17 = .ok (.iconst 1, 1) := by decide +kernel
theorem dX2_readVeils_18 : decode cX2_readVeils 18 = .ok (.putfield 29, 3) := by decide +kernel
theorem dX2_readVeils_21 : decode cX2_readVeils 21 = .ok (.aload_n 0, 1) := by decide +kernel
theorem dX2_readVeils_22 : decode cX2_readVeils 22 = .ok (.getfield 18, 3) := by decide +kernel
theorem dX2_readVeils_25 : decode cX2_readVeils 25 = .ok (.invokevirtual 97, 3) := by decide +kernel
theorem dX2_readVeils_28 : decode cX2_readVeils 28 = .ok (.aload_n 0, 1) := by decide +kernel
theorem dX2_readVeils_29 : decode cX2_readVeils 29 = .ok (.getfield 12, 3) := by decide +kernel
theorem dX2_readVeils_32 : decode cX2_readVeils 32 = .ok (.aload_n 0, 1) := by decide +kernel
theorem dX2_readVeils_33 : decode cX2_readVeils 33 = .ok (.getfield 18, 3) := by decide +kernel
theorem dX2_readVeils_36 : decode cX2_readVeils 36 = .ok (.iconst 0, 1) := by decide +kernel
theorem dX2_readVeils_37 : decode cX2_readVeils 37 = .ok (.bipush 9, 2) := by decide +kernel
theorem dX2_readVeils_39 : decode cX2_readVeils 39 = .ok (.invokevirtual 103, 3) := by decide +kernel
theorem dX2_readVeils_42 : decode cX2_readVeils 42 = .ok (.putfield 164, 3) := by decide +kernel
theorem dX2_readVeils_45 : decode cX2_readVeils 45 = .ok (.aload_n 0, 1) := by decide +kernel
theorem dX2_readVeils_46 : decode cX2_readVeils 46 = .ok (.getfield 12, 3) := by decide +kernel
theorem dX2_readVeils_49 : decode cX2_readVeils 49 = .ok (.getfield 164, 3) := by decide +kernel
theorem dX2_readVeils_52 : decode cX2_readVeils 52 = .ok (.iconst (-1), 1) := by decide +kernel
theorem dX2_readVeils_53 : decode cX2_readVeils 53 = .ok (.if_icmp .eq 7, 3) := by decide +kernel
theorem dX2_readVeils_56 : decode cX2_readVeils 56 = .ok (.iconst 1, 1) := by decide +kernel
theorem dX2_readVeils_57 : decode cX2_readVeils 57 = .ok (.goto 4, 3) := by decide +kernel
theorem dX2_readVeils_60 : decode cX2_readVeils 60 = .ok (.iconst 0, 1) := by decide +kernel
theorem dX2_readVeils_61 : decode cX2_readVeils 61 = .ok (.ireturn, 1) := by decide +kernel
theorem dX2_readBell_0 : decode cX2_readBell 0 = .ok (.aload_n 0, 1) := by decide +kernel
theorem dX2_readBell_1 : decode cX2_readBell 1 = .ok (.getfield 32, 3) := by decide +kernel
theorem dX2_readBell_4 : decode cX2_readBell 4 = .ok (.ifCond .eq 12, 3) := by decide +kernel
theorem dX2_readBell_7 : decode cX2_readBell 7 = .ok (.aload_n 0, 1) := by decide +kernel
theorem dX2_readBell_8 : decode cX2_readBell 8 = .ok (.getfield 18, 3) := by decide +kernel
theorem dX2_readBell_11 : decode cX2_readBell 11 = .ok (.iconst 3, 1) := by decide +kernel
theorem dX2_readBell_12 : decode cX2_readBell 12 = .ok (.invokevirtual 91, 3) := by decide +kernel
theorem dX2_readBell_15 : decode cX2_readBell 15 = .ok (.ireturn, 1) := by decide +kernel
theorem dX2_readBell_16 : decode cX2_readBell 16 = .ok (.aload_n 0, 1) := by decide +kernel
theorem dX2_readBell_17 : decode cX2_readBell 17 = .ok (.iconst 1, 1) := by decide +kernel
theorem dX2_readBell_18 : decode cX2_readBell 18 = .ok (.putfield 32, 3) := by decide +kernel
theorem dX2_readBell_21 : decode cX2_readBell 21 = .ok (.aload_n 0, 1) := by decide +kernel
theorem dX2_readBell_22 : decode cX2_readBell 22 = .ok (.getfield 18, 3) := by decide +kernel
theorem dX2_readBell_25 : decode cX2_readBell 25 = .ok (.invokevirtual 97, 3) := by decide +kernel
theorem dX2_readBell_28 : decode cX2_readBell 28 = .ok (.aload_n 0, 1) := by decide +kernel
theorem dX2_readBell_29 : decode cX2_readBell 29 = .ok (.getfield 12, 3) := by decide +kernel
theorem dX2_readBell_32 : decode cX2_readBell 32 = .ok (.aload_n 0, 1) := by decide +kernel
theorem dX2_readBell_33 : decode cX2_readBell 33 = .ok (.getfield 18, 3) := by decide +kernel
theorem dX2_readBell_36 : decode cX2_readBell 36 = .ok (.iconst 2, 1) := by decide +kernel
theorem dX2_readBell_37 : decode cX2_readBell 37 = .ok (.bipush 30, 2) := by decide +kernel
theorem dX2_readBell_39 : decode cX2_readBell 39 = .ok (.invokevirtual 103, 3) := by decide +kernel
theorem dX2_readBell_42 : decode cX2_readBell 42 = .ok (.putfield 167, 3) := by decide +kernel
theorem dX2_readBell_45 : decode cX2_readBell 45 = .ok (.aload_n 0, 1) := by decide +kernel
theorem dX2_readBell_46 : decode cX2_readBell 46 = .ok (.getfield 12, 3) := by decide +kernel
theorem dX2_readBell_49 : decode cX2_readBell 49 = .ok (.getfield 167, 3) := by decide +kernel
theorem dX2_readBell_52 : decode cX2_readBell 52 = .ok (.iconst (-1), 1) := by decide +kernel
theorem dX2_readBell_53 : decode cX2_readBell 53 = .ok (.if_icmp .eq 7, 3) := by decide +kernel
theorem dX2_readBell_56 : decode cX2_readBell 56 = .ok (.iconst 1, 1) := by decide +kernel
theorem dX2_readBell_57 : decode cX2_readBell 57 = .ok (.goto 4, 3) := by decide +kernel
theorem dX2_readBell_60 : decode cX2_readBell 60 = .ok (.iconst 0, 1) := by decide +kernel
theorem dX2_readBell_61 : decode cX2_readBell 61 = .ok (.ireturn, 1) := by decide +kernel
