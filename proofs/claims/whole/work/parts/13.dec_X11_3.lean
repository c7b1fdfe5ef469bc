theorem dX11_four_0 : decode cX11_four 0 = .ok (.bipush 24, 2) := by decide +kernel
theorem dX11_four_2 : decode cX11_four 2 = .ok (.istore_n 2, 1) := by decide +kernel
theorem dX11_four_3 : decode cX11_four 3 = .ok (.iload_n 2, 1) := by decide +kernel
theorem dX11_four_4 : decode cX11_four 4 = .ok (.ifCond .lt 32, 3) := by decide +kernel
theorem dX11_four_7 : decode cX11_four 7 = .ok (.aload_n 0, 1) := by decide +kernel
theorem dX11_four_8 : decode cX11_four 8 = .ok (.getfield 14, 3) := by decide +kernel
theorem dX11_four_11 : decode cX11_four 11 = .ok (.aload_n 0, 1) := by decide +kernel
theorem dX11_four_12 : decode cX11_four 12 = .ok (.getfield 7, 3) := by decide +kernel
theorem dX11_four_15 : decode cX11_four 15 = .ok (.iload_n 1, 1) := by decide +kernel
theorem dX11_four_16 : decode cX11_four 16 = .ok (.iload_n 2, 1) := by decide +kernel
theorem dX11_four_17 : decode cX11_four 17 = .ok (.ishr, 1) := by decide +kernel
theorem dX11_four_18 : decode cX11_four 18 = .ok (.i2b, 1) := by decide +kernel
theorem dX11_four_19 : decode cX11_four 19 = .ok (.bastore, 1) := by decide +kernel
theorem dX11_four_20 : decode cX11_four 20 = .ok (.aload_n 0, 1) := by decide +kernel
theorem dX11_four_21 : decode cX11_four 21 = .ok (.dup, 1) := by decide +kernel
theorem dX11_four_22 : decode cX11_four 22 = .ok (.getfield 7, 3) := by decide +kernel
theorem dX11_four_25 : decode cX11_four 25 = .ok (.iconst 1, 1) := by decide +kernel
theorem dX11_four_26 : decode cX11_four 26 = .ok (.iadd, 1) := by decide +kernel
theorem dX11_four_27 : decode cX11_four 27 = .ok (.putfield 7, 3) := by decide +kernel
theorem dX11_four_30 : decode cX11_four 30 = .ok (.iinc 2 (-8), 3) := by decide +kernel
theorem dX11_four_33 : decode cX11_four 33 = .ok (.goto (-30), 3) := by decide +kernel
theorem dX11_four_36 : decode cX11_four 36 = .ok (.return_, 1) := by decide +kernel
theorem dX11_bitOf_0 : decode cX11_bitOf 0 = .ok (.iload_n 0, 1) := by decide +kernel
theorem dX11_bitOf_1 : decode cX11_bitOf 1 = .ok (.iload_n 1, 1) := by decide +kernel
theorem dX11_bitOf_2 : decode cX11_bitOf 2 = .ok (.ishr, 1) := by decide +kernel
theorem dX11_bitOf_3 : decode cX11_bitOf 3 = .ok (.iconst 1, 1) := by decide +kernel
theorem dX11_bitOf_4 : decode cX11_bitOf 4 = .ok (.iand, 1) := by decide +kernel
theorem dX11_bitOf_5 : decode cX11_bitOf 5 = .ok (.iconst 1, 1) := by decide +kernel
theorem dX11_bitOf_6 : decode cX11_bitOf 6 = .ok (.if_icmp .ne 7, 3) := by decide +kernel
theorem dX11_bitOf_9 : decode cX11_bitOf 9 = .ok (.iconst 1, 1) := by decide +kernel
theorem dX11_bitOf_10 : decode cX11_bitOf 10 = .ok (.goto 4, 3) := by decide +kernel
theorem dX11_bitOf_13 : decode cX11_bitOf 13 = .ok (.iconst 0, 1) := by decide +kernel
theorem dX11_bitOf_14 : decode cX11_bitOf 14 = .ok (.ireturn, 1) := by decide +kernel
theorem dX11_octet_0 : decode cX11_octet 0 = .ok (.aload_n 0, 1) := by decide +kernel
theorem dX11_octet_1 : decode cX11_octet 1 = .ok (.getfield 14, 3) := by decide +kernel
theorem dX11_octet_4 : decode cX11_octet 4 = .ok (.iload_n 1, 1) := by decide +kernel
theorem dX11_octet_5 : decode cX11_octet 5 = .ok (.baload, 1) := by decide +kernel
theorem dX11_octet_6 : decode cX11_octet 6 = .ok (.sipush 255, 3) := by decide +kernel
theorem dX11_octet_9 : decode cX11_octet 9 = .ok (.iand, 1) := by decide +kernel
theorem dX11_octet_10 : decode cX11_octet 10 = .ok (.ireturn, 1) := by decide +kernel
theorem dX11_isSmall_0 : decode cX11_isSmall 0 = .ok (.iload_n 0, 1) := by decide +kernel
theorem dX11_isSmall_1 : decode cX11_isSmall 1 = .ok (.bipush 97, 2) := by decide +kernel
theorem dX11_isSmall_3 : decode cX11_isSmall 3 = .ok (.if_icmp .lt 13, 3) := by decide +kernel
theorem dX11_isSmall_6 : decode cX11_isSmall 6 = .ok (.iload_n 0, 1) := by decide +kernel
theorem dX11_isSmall_7 : decode cX11_isSmall 7 = .ok (.bipush 122, 2) := by decide +kernel
theorem dX11_isSmall_9 : decode cX11_isSmall 9 = .ok (.if_icmp .gt 7, 3) := by decide +kernel
theorem dX11_isSmall_12 : decode cX11_isSmall 12 = .ok (.iconst 1, 1) := by decide +kernel
theorem dX11_isSmall_13 : decode cX11_isSmall 13 = .ok (.goto 4, 3) := by decide +kernel
theorem dX11_isSmall_16 : decode cX11_isSmall 16 = .ok (.iconst 0, 1) := by decide +kernel
theorem dX11_isSmall_17 : decode cX11_isSmall 17 = .ok (.ireturn, 1) := by decide +kernel
theorem dX11_isWord_0 : decode cX11_isWord 0 = .ok (.aload_n 0, 1) := by decide +kernel
theorem dX11_isWord_1 : decode cX11_isWord 1 = .ok (.getfield 157, 3) := by decide +kernel
theorem dX11_isWord_4 : decode cX11_isWord 4 = .ok (.iconst 1, 1) := by decide +kernel
theorem dX11_isWord_5 : decode cX11_isWord 5 = .ok (.if_icmp .ne 16, 3) := by decide +kernel
theorem dX11_isWord_8 : decode cX11_isWord 8 = .ok (.aload_n 0, 1) := by decide +kernel
theorem dX11_isWord_9 : decode cX11_isWord 9 = .ok (.getfield 170, 3) := by decide +kernel
theorem dX11_isWord_12 : decode cX11_isWord 12 = .ok (.lload_n 1, 1) := by decide +kernel
theorem dX11_isWord_13 : decode cX11_isWord 13 = .ok (.lcmp, 1) := by decide +kernel
theorem dX11_isWord_14 : decode cX11_isWord 14 = .ok (.ifCond .ne 7, 3) := by decide +kernel
theorem dX11_isWord_17 : decode cX11_isWord 17 = .ok (.iconst 1, 1) := by decide +kernel
theorem dX11_isWord_18 : decode cX11_isWord 18 = .ok (.goto 4, 3) := by decide +kernel
theorem dX11_isWord_21 : decode cX11_isWord 21 = .ok (.iconst 0, 1) := by decide +kernel
theorem dX11_isWord_22 : decode cX11_isWord 22 = .ok (.ireturn, 1) := by decide +kernel
theorem dX11_takes_0 : decode cX11_takes 0 = .ok (.aload_n 0, 1) := by decide +kernel
theorem dX11_takes_1 : decode cX11_takes 1 = .ok (.getfield 157, 3) := by decide +kernel
theorem dX11_takes_4 : decode cX11_takes 4 = .ok (.iconst 2, 1) := by decide +kernel
theorem dX11_takes_5 : decode cX11_takes 5 = .ok (.if_icmp .eq 9, 3) := by decide +kernel
theorem dX11_takes_8 : decode cX11_takes 8 = .ok (.aload_n 0, 1) := by decide +kernel
theorem dX11_takes_9 : decode cX11_takes 9 = .ok (.iconst 1, 1) := by decide +kernel
theorem dX11_takes_10 : decode cX11_takes 10 = .ok (.invokevirtual 183, 3) := by decide +kernel
theorem dX11_takes_13 : decode cX11_takes 13 = .ok (.ireturn, 1) := by decide +kernel
theorem dX11_takes_14 : decode cX11_takes 14 = .ok (.aload_n 0, 1) := by decide +kernel
theorem dX11_takes_15 : decode cX11_takes 15 = .ok (.getfield 167, 3) := by decide +kernel
theorem dX11_takes_18 : decode cX11_takes 18 = .ok (.iload_n 1, 1) := by decide +kernel
theorem dX11_takes_19 : decode cX11_takes 19 = .ok (.iload_n 2, 1) := by decide +kernel
theorem dX11_takes_20 : decode cX11_takes 20 = .ok (.invokestatic 189, 3) := by decide +kernel
theorem dX11_takes_23 : decode cX11_takes 23 = .ok (.ifCond .ne 9, 3) := by decide +kernel
theorem dX11_takes_26 : decode cX11_takes 26 = .ok (.aload_n 0, 1) := by decide +kernel
theorem dX11_takes_27 : decode cX11_takes 27 = .ok (.iconst 2, 1) := by decide +kernel
theorem dX11_takes_28 : decode cX11_takes 28 = .ok (.invokevirtual 183, 3) := by decide +kernel
theorem dX11_takes_31 : decode cX11_takes 31 = .ok (.ireturn, 1) := by decide +kernel
theorem dX11_takes_32 : decode cX11_takes 32 = .ok (.aload_n 0, 1) := by decide +kernel
theorem dX11_takes_33 : decode cX11_takes 33 = .ok (.aload_n 0, 1) := by decide +kernel
theorem dX11_takes_34 : decode cX11_takes 34 = .ok (.getfield 167, 3) := by decide +kernel
theorem dX11_takes_37 : decode cX11_takes 37 = .ok (.putfield 193, 3) := by decide +kernel
theorem dX11_takes_40 : decode cX11_takes 40 = .ok (.aload_n 0, 1) := by decide +kernel
theorem dX11_takes_41 : decode cX11_takes 41 = .ok (.invokevirtual 186, 3) := by decide +kernel
theorem dX11_takes_44 : decode cX11_takes 44 = .ok (.iconst 1, 1) := by decide +kernel
theorem dX11_takes_45 : decode cX11_takes 45 = .ok (.ireturn, 1) := by decide +kernel
theorem dX11_looksAt_0 : decode cX11_looksAt 0 = .ok (.aload_n 0, 1) := by decide +kernel
theorem dX11_looksAt_1 : decode cX11_looksAt 1 = .ok (.invokevirtual 200, 3) := by decide +kernel
theorem dX11_looksAt_4 : decode cX11_looksAt 4 = .ok (.ifCond .ne 9, 3) := by decide +kernel
theorem dX11_looksAt_7 : decode cX11_looksAt 7 = .ok (.aload_n 0, 1) := by decide +kernel
theorem dX11_looksAt_8 : decode cX11_looksAt 8 = .ok (.iconst 1, 1) := by decide +kernel
theorem dX11_looksAt_9 : decode cX11_looksAt 9 = .ok (.invokevirtual 183, 3) := by decide +kernel
theorem dX11_looksAt_12 : decode cX11_looksAt 12 = .ok (.ireturn, 1) := by decide +kernel
theorem dX11_looksAt_13 : decode cX11_looksAt 13 = .ok (.aload_n 0, 1) := by decide +kernel
theorem dX11_looksAt_14 : decode cX11_looksAt 14 = .ok (.aload_n 0, 1) := by decide +kernel
theorem dX11_looksAt_15 : decode cX11_looksAt 15 = .ok (.iload_n 1, 1) := by decide +kernel
theorem dX11_looksAt_16 : decode cX11_looksAt 16 = .ok (.iload_n 2, 1) := by decide +kernel
theorem dX11_looksAt_17 : decode cX11_looksAt 17 = .ok (.invokevirtual 204, 3) := by decide +kernel
theorem dX11_looksAt_20 : decode cX11_looksAt 20 = .ok (.putfield 193, 3) := by decide +kernel
theorem dX11_looksAt_23 : decode cX11_looksAt 23 = .ok (.aload_n 0, 1) := by decide +kernel
theorem dX11_looksAt_24 : decode cX11_looksAt 24 = .ok (.getfield 193, 3) := by decide +kernel
theorem dX11_looksAt_27 : decode cX11_looksAt 27 = .ok (.ifCond .ge 11, 3) := by decide +kernel
theorem dX11_looksAt_30 : decode cX11_looksAt 30 = .ok (.aload_n 0, 1) := by decide +kernel
theorem dX11_looksAt_31 : decode cX11_looksAt 31 = .ok (.iconst 3, 1) := by decide +kernel
theorem dX11_looksAt_32 : decode cX11_looksAt 32 = .ok (.invokevirtual 183, 3) := by decide +kernel
theorem dX11_looksAt_35 : decode cX11_looksAt 35 = .ok (.ifCond .eq 7, 3) := by decide +kernel
theorem dX11_looksAt_38 : decode cX11_looksAt 38 = .ok (.iconst 1, 1) := by decide +kernel
theorem dX11_looksAt_39 : decode cX11_looksAt 39 = .ok (.goto 4, 3) := by decide +kernel
theorem dX11_looksAt_42 : decode cX11_looksAt 42 = .ok (.iconst 0, 1) := by decide +kernel
theorem dX11_looksAt_43 : decode cX11_looksAt 43 = .ok (.ireturn, 1) := by decide +kernel
theorem dX11_readPerson_0 : decode cX11_readPerson 0 = .ok (.aload_n 0, 1) := by decide +kernel
theorem dX11_readPerson_1 : decode cX11_readPerson 1 = .ok (.getfield 37, 3) := by decide +kernel
theorem dX11_readPerson_4 : decode cX11_readPerson 4 = .ok (.iconst 0, 1) := by decide +kernel
theorem dX11_readPerson_5 : decode cX11_readPerson 5 = .ok (.iaload, 1) := by decide +kernel
theorem dX11_readPerson_6 : decode cX11_readPerson 6 = .ok (.istore_n 1, 1) := by decide +kernel
theorem dX11_readPerson_7 : decode cX11_readPerson 7 = .ok (.iload_n 1, 1) := by decide +kernel
theorem dX11_readPerson_8 : decode cX11_readPerson 8 = .ok (.bipush 7, 2) := by decide +kernel
theorem dX11_readPerson_10 : decode cX11_readPerson 10 = .ok (.if_icmp .ne 9, 3) := by decide +kernel
theorem dX11_readPerson_13 : decode cX11_readPerson 13 = .ok (.aload_n 0, 1) := by decide +kernel
theorem dX11_readPerson_14 : decode cX11_readPerson 14 = .ok (.iconst 4, 1) := by decide +kernel
theorem dX11_readPerson_15 : decode cX11_readPerson 15 = .ok (.invokevirtual 183, 3) := by decide +kernel
theorem dX11_readPerson_18 : decode cX11_readPerson 18 = .ok (.ireturn, 1) := by decide +kernel
theorem dX11_readPerson_19 : decode cX11_readPerson 19 = .ok (.aload_n 0, 1) := by decide +kernel
theorem dX11_readPerson_20 : decode cX11_readPerson 20 = .ok (.invokevirtual 186, 3) := by decide +kernel
theorem dX11_readPerson_23 : decode cX11_readPerson 23 = .ok (.aload_n 0, 1) := by decide +kernel
theorem dX11_readPerson_24 : decode cX11_readPerson 24 = .ok (.bipush 12, 2) := by decide +kernel
theorem dX11_readPerson_26 : decode cX11_readPerson 26 = .ok (.iload_n 1, 1) := by decide +kernel
theorem dX11_readPerson_27 : decode cX11_readPerson 27 = .ok (.iadd, 1) := by decide +kernel
theorem dX11_readPerson_28 : decode cX11_readPerson 28 = .ok (.invokevirtual 241, 3) := by decide +kernel
theorem dX11_readPerson_31 : decode cX11_readPerson 31 = .ok (.ifCond .eq 16, 3) := by decide +kernel
theorem dX11_readPerson_34 : decode cX11_readPerson 34 = .ok (.aload_n 0, 1) := by decide +kernel
theorem dX11_readPerson_35 : decode cX11_readPerson 35 = .ok (.iconst 5, 1) := by decide +kernel
theorem dX11_readPerson_36 : decode cX11_readPerson 36 = .ok (.iload_n 1, 1) := by decide +kernel
theorem dX11_readPerson_37 : decode cX11_readPerson 37 = .ok (.iadd, 1) := by decide +kernel
theorem dX11_readPerson_38 : decode cX11_readPerson 38 = .ok (.iconst 0, 1) := by decide +kernel
theorem dX11_readPerson_39 : decode cX11_readPerson 39 = .ok (.bipush 99, 2) := by decide +kernel
theorem dX11_readPerson_41 : decode cX11_readPerson 41 = .ok (.invokevirtual 217, 3) := by decide +kernel
theorem dX11_readPerson_44 : decode cX11_readPerson 44 = .ok (.ifCond .ne 5, 3) := by decide +kernel
theorem dX11_readPerson_47 : decode cX11_readPerson 47 = .ok (.iconst 0, 1) := by decide +kernel
theorem dX11_readPerson_48 : decode cX11_readPerson 48 = .ok (.ireturn, 1) := by decide +kernel
theorem dX11_readPerson_49 : decode cX11_readPerson 49 = .ok (.aload_n 0, 1) := by decide +kernel
theorem dX11_readPerson_50 : decode cX11_readPerson 50 = .ok (.getfield 37, 3) := by decide +kernel
theorem dX11_readPerson_53 : decode cX11_readPerson 53 = .ok (.iconst 0, 1) := by decide +kernel
theorem dX11_readPerson_54 : decode cX11_readPerson 54 = .ok (.dup2, 1) := by decide +kernel
theorem dX11_readPerson_55 : decode cX11_readPerson 55 = .ok (.iaload, 1) := by decide +kernel
theorem dX11_readPerson_56 : decode cX11_readPerson 56 = .ok (.iconst 1, 1) := by decide +kernel
theorem dX11_readPerson_57 : decode cX11_readPerson 57 = .ok (.iadd, 1) := by decide +kernel
theorem dX11_readPerson_58 : decode cX11_readPerson 58 = .ok (.iastore, 1) := by decide +kernel
theorem dX11_readPerson_59 : decode cX11_readPerson 59 = .ok (.iconst 1, 1) := by decide +kernel
theorem dX11_readPerson_60 : decode cX11_readPerson 60 = .ok (.ireturn, 1) := by decide +kernel
theorem dX11_county_0 : decode cX11_county 0 = .ok (.aload_n 0, 1) := by decide +kernel
theorem dX11_county_1 : decode cX11_county 1 = .ok (.iconst 0, 1) := by decide +kernel
theorem dX11_county_2 : decode cX11_county 2 = .ok (.putfield 1, 3) := by decide +kernel
theorem dX11_county_5 : decode cX11_county 5 = .ok (.aload_n 0, 1) := by decide +kernel
theorem dX11_county_6 : decode cX11_county 6 = .ok (.sipush 900, 3) := by decide +kernel
theorem dX11_county_9 : decode cX11_county 9 = .ok (.invokevirtual 247, 3) := by decide +kernel
theorem dX11_county_12 : decode cX11_county 12 = .ok (.aload_n 0, 1) := by decide +kernel
theorem dX11_county_13 : decode cX11_county 13 = .ok (.iconst 0, 1) := by decide +kernel
theorem dX11_county_14 : decode cX11_county 14 = .ok (.putfield 174, 3) := by decide +kernel
theorem dX11_county_17 : decode cX11_county 17 = .ok (.aload_n 0, 1) := by decide +kernel
theorem dX11_county_18 : decode cX11_county 18 = .ok (.iconst 0, 1) := by decide +kernel
theorem dX11_county_19 : decode cX11_county 19 = .ok (.putfield 250, 3) := by decide +kernel
theorem dX11_county_22 : decode cX11_county 22 = .ok (.aload_n 0, 1) := by decide +kernel
theorem dX11_county_23 : decode cX11_county 23 = .ok (.iconst 0, 1) := by decide +kernel
theorem dX11_county_24 : decode cX11_county 24 = .ok (.putfield 211, 3) := by decide +kernel
theorem dX11_county_27 : decode cX11_county 27 = .ok (.aload_n 0, 1) := by decide +kernel
theorem dX11_county_28 : decode cX11_county 28 = .ok (.invokevirtual 144, 3) := by decide +kernel
theorem dX11_county_31 : decode cX11_county 31 = .ok (.aload_n 0, 1) := by decide +kernel
theorem dX11_county_32 : decode cX11_county 32 = .ok (.invokevirtual 186, 3) := by decide +kernel
theorem dX11_county_35 : decode cX11_county 35 = .ok (.aload_n 0, 1) := by decide +kernel
theorem dX11_county_36 : decode cX11_county 36 = .ok (.getfield 157, 3) := by decide +kernel
theorem dX11_county_39 : decode cX11_county 39 = .ok (.ifCond .eq 39, 3) := by decide +kernel
theorem dX11_county_42 : decode cX11_county 42 = .ok (.aload_n 0, 1) := by decide +kernel
theorem dX11_county_43 : decode cX11_county 43 = .ok (.invokevirtual 253, 3) := by decide +kernel
theorem dX11_county_46 : decode cX11_county 46 = .ok (.ifCond .eq 12, 3) := by decide +kernel
theorem dX11_county_49 : decode cX11_county 49 = .ok (.aload_n 0, 1) := by decide +kernel
theorem dX11_county_50 : decode cX11_county 50 = .ok (.bipush 59, 2) := by decide +kernel
theorem dX11_county_52 : decode cX11_county 52 = .ok (.invokevirtual 256, 3) := by decide +kernel
theorem dX11_county_55 : decode cX11_county 55 = .ok (.ifCond .ne 10, 3) := by decide +kernel
theorem dX11_county_58 : decode cX11_county 58 = .ok (.iconst (-1), 1) := by decide +kernel
theorem dX11_county_59 : decode cX11_county 59 = .ok (.aload_n 0, 1) := by decide +kernel
theorem dX11_county_60 : decode cX11_county 60 = .ok (.getfield 177, 3) := by decide +kernel
theorem dX11_county_63 : decode cX11_county 63 = .ok (.isub, 1) := by decide +kernel
theorem dX11_county_64 : decode cX11_county 64 = .ok (.ireturn, 1) := by decide +kernel
theorem dX11_county_65 : decode cX11_county 65 = .ok (.aload_n 0, 1) := by decide +kernel
theorem dX11_county_66 : decode cX11_county 66 = .ok (.dup, 1) := by decide +kernel
theorem dX11_county_67 : decode cX11_county 67 = .ok (.getfield 250, 3) := by decide +kernel
theorem dX11_county_70 : decode cX11_county 70 = .ok (.iconst 1, 1) := by decide +kernel
theorem dX11_county_71 : decode cX11_county 71 = .ok (.iadd, 1) := by decide +kernel
theorem dX11_county_72 : decode cX11_county 72 = .ok (.putfield 250, 3) := by decide +kernel
theorem dX11_county_75 : decode cX11_county 75 = .ok (.goto (-40), 3) := by decide +kernel
theorem dX11_county_78 : decode cX11_county 78 = .ok (.iconst 0, 1) := by decide +kernel
theorem dX11_county_79 : decode cX11_county 79 = .ok (.istore_n 1, 1) := by decide +kernel
theorem dX11_county_80 : decode cX11_county 80 = .ok (.iload_n 1, 1) := by decide +kernel
theorem dX11_county_81 : decode cX11_county 81 = .ok (.sipush 457, 3) := by decide +kernel
theorem dX11_county_84 : decode cX11_county 84 = .ok (.if_icmp .ge 32, 3) := by decide +kernel
theorem dX11_county_87 : decode cX11_county 87 = .ok (.aload_n 0, 1) := by decide +kernel
theorem dX11_county_88 : decode cX11_county 88 = .ok (.getfield 33, 3) := by decide +kernel
theorem dX11_county_91 : decode cX11_county 91 = .ok (.iload_n 1, 1) := by decide +kernel
theorem dX11_county_92 : decode cX11_county 92 = .ok (.iload_n 1, 1) := by decide +kernel
theorem dX11_county_93 : decode cX11_county 93 = .ok (.sipush 131, 3) := by decide +kernel
theorem dX11_county_96 : decode cX11_county 96 = .ok (.if_icmp .ge 12, 3) := by decide +kernel
theorem dX11_county_99 : decode cX11_county 99 = .ok (.aload_n 0, 1) := by decide +kernel
theorem dX11_county_100 : decode cX11_county 100 = .ok (.getfield 37, 3) := by decide +kernel
theorem dX11_county_103 : decode cX11_county 103 = .ok (.iload_n 1, 1) := by decide +kernel
theorem dX11_county_104 : decode cX11_county 104 = .ok (.iaload, 1) := by decide +kernel
theorem dX11_county_105 : decode cX11_county 105 = .ok (.goto 4, 3) := by decide +kernel
theorem dX11_county_108 : decode cX11_county 108 = .ok (.iconst 0, 1) := by decide +kernel
theorem dX11_county_109 : decode cX11_county 109 = .ok (.iastore, 1) := by decide +kernel
theorem dX11_county_110 : decode cX11_county 110 = .ok (.iinc 1 1, 3) := by decide +kernel
theorem dX11_county_113 : decode cX11_county 113 = .ok (.goto (-33), 3) := by decide +kernel
theorem dX11_county_116 : decode cX11_county 116 = .ok (.iconst 0, 1) := by decide +kernel
theorem dX11_county_117 : decode cX11_county 117 = .ok (.istore_n 1, 1) := by decide +kernel
theorem dX11_county_118 : decode cX11_county 118 = .ok (.iload_n 1, 1) := by decide +kernel
theorem dX11_county_119 : decode cX11_county 119 = .ok (.bipush 12, 2) := by decide +kernel
theorem dX11_county_121 : decode cX11_county 121 = .ok (.if_icmp .ge 24, 3) := by decide +kernel
theorem dX11_county_124 : decode cX11_county 124 = .ok (.aload_n 0, 1) := by decide +kernel
theorem dX11_county_125 : decode cX11_county 125 = .ok (.getfield 43, 3) := by decide +kernel
theorem dX11_county_128 : decode cX11_county 128 = .ok (.iload_n 1, 1) := by decide +kernel
theorem dX11_county_129 : decode cX11_county 129 = .ok (.aload_n 0, 1) := by decide +kernel
theorem dX11_county_130 : decode cX11_county 130 = .ok (.getfield 43, 3) := by decide +kernel
theorem dX11_county_133 : decode cX11_county 133 = .ok (.bipush 12, 2) := by decide +kernel
theorem dX11_county_135 : decode cX11_county 135 = .ok (.iload_n 1, 1) := by decide +kernel
theorem dX11_county_136 : decode cX11_county 136 = .ok (.iadd, 1) := by decide +kernel
theorem dX11_county_137 : decode cX11_county 137 = .ok (.laload, 1) := by decide +kernel
theorem dX11_county_138 : decode cX11_county 138 = .ok (.lastore, 1) := by decide +kernel
theorem dX11_county_139 : decode cX11_county 139 = .ok (.iinc 1 1, 3) := by decide +kernel
theorem dX11_county_142 : decode cX11_county 142 = .ok (.goto (-24), 3) := by decide +kernel
theorem dX11_county_145 : decode cX11_county 145 = .ok (.iconst 0, 1) := by decide +kernel
theorem dX11_county_146 : decode cX11_county 146 = .ok (.istore_n 1, 1) := by decide +kernel
theorem dX11_county_147 : decode cX11_county 147 = .ok (.iload_n 1, 1) := by decide +kernel
theorem dX11_county_148 : decode cX11_county 148 = .ok (.bipush 7, 2) := by decide +kernel
theorem dX11_county_150 : decode cX11_county 150 = .ok (.if_icmp .ge 27, 3) := by decide +kernel
theorem dX11_county_153 : decode cX11_county 153 = .ok (.aload_n 0, 1) := by decide +kernel
theorem dX11_county_154 : decode cX11_county 154 = .ok (.getfield 33, 3) := by decide +kernel
theorem dX11_county_157 : decode cX11_county 157 = .ok (.sipush 136, 3) := by decide +kernel
theorem dX11_county_160 : decode cX11_county 160 = .ok (.iload_n 1, 1) := by decide +kernel
theorem dX11_county_161 : decode cX11_county 161 = .ok (.iadd, 1) := by decide +kernel
theorem dX11_county_162 : decode cX11_county 162 = .ok (.aload_n 0, 1) := by decide +kernel
theorem dX11_county_163 : decode cX11_county 163 = .ok (.getfield 33, 3) := by decide +kernel
theorem dX11_county_166 : decode cX11_county 166 = .ok (.iconst 5, 1) := by decide +kernel
theorem dX11_county_167 : decode cX11_county 167 = .ok (.iload_n 1, 1) := by decide +kernel
theorem dX11_county_168 : decode cX11_county 168 = .ok (.iadd, 1) := by decide +kernel
theorem dX11_county_169 : decode cX11_county 169 = .ok (.iaload, 1) := by decide +kernel
theorem dX11_county_170 : decode cX11_county 170 = .ok (.iastore, 1) := by decide +kernel
theorem dX11_county_171 : decode cX11_county 171 = .ok (.iinc 1 1, 3) := by decide +kernel
theorem dX11_county_174 : decode cX11_county 174 = .ok (.goto (-27), 3) := by decide +kernel
theorem dX11_county_177 : decode cX11_county 177 = .ok (.aload_n 0, 1) := by decide +kernel
theorem dX11_county_178 : decode cX11_county 178 = .ok (.invokevirtual 259, 3) := by decide +kernel
theorem dX11_county_181 : decode cX11_county 181 = .ok (.aload_n 0, 1) := by decide +kernel
theorem dX11_county_182 : decode cX11_county 182 = .ok (.iconst 0, 1) := by decide +kernel
theorem dX11_county_183 : decode cX11_county 183 = .ok (.putfield 262, 3) := by decide +kernel
theorem dX11_county_186 : decode cX11_county 186 = .ok (.aload_n 0, 1) := by decide +kernel
theorem dX11_county_187 : decode cX11_county 187 = .ok (.getfield 250, 3) := by decide +kernel
theorem dX11_county_190 : decode cX11_county 190 = .ok (.ireturn, 1) := by decide +kernel
theorem dX11_knownBy_0 : decode cX11_knownBy 0 = .ok (.aload_n 0, 1) := by decide +kernel
theorem dX11_knownBy_1 : decode cX11_knownBy 1 = .ok (.getfield 33, 3) := by decide +kernel
theorem dX11_knownBy_4 : decode cX11_knownBy 4 = .ok (.bipush 117, 2) := by decide +kernel
theorem dX11_knownBy_6 : decode cX11_knownBy 6 = .ok (.iload_n 1, 1) := by decide +kernel
theorem dX11_knownBy_7 : decode cX11_knownBy 7 = .ok (.iadd, 1) := by decide +kernel
theorem dX11_knownBy_8 : decode cX11_knownBy 8 = .ok (.iaload, 1) := by decide +kernel
theorem dX11_knownBy_9 : decode cX11_knownBy 9 = .ok (.aload_n 0, 1) := by decide +kernel
theorem dX11_knownBy_10 : decode cX11_knownBy 10 = .ok (.getfield 33, 3) := by decide +kernel
theorem dX11_knownBy_13 : decode cX11_knownBy 13 = .ok (.sipush 220, 3) := by decide +kernel
theorem dX11_knownBy_16 : decode cX11_knownBy 16 = .ok (.iload_n 1, 1) := by decide +kernel
theorem dX11_knownBy_17 : decode cX11_knownBy 17 = .ok (.iadd, 1) := by decide +kernel
theorem dX11_knownBy_18 : decode cX11_knownBy 18 = .ok (.iaload, 1) := by decide +kernel
theorem dX11_knownBy_19 : decode cX11_knownBy 19 = .ok (.ior, 1) := by decide +kernel
theorem dX11_knownBy_20 : decode cX11_knownBy 20 = .ok (.ireturn, 1) := by decide +kernel
theorem dX11_wantsOf_0 : decode cX11_wantsOf 0 = .ok (.iconst 0, 1) := by decide +kernel
theorem dX11_wantsOf_1 : decode cX11_wantsOf 1 = .ok (.istore_n 2, 1) := by decide +kernel
theorem dX11_wantsOf_2 : decode cX11_wantsOf 2 = .ok (.iconst 0, 1) := by decide +kernel
theorem dX11_wantsOf_3 : decode cX11_wantsOf 3 = .ok (.istore_n 3, 1) := by decide +kernel
theorem dX11_wantsOf_4 : decode cX11_wantsOf 4 = .ok (.iload_n 3, 1) := by decide +kernel
theorem dX11_wantsOf_5 : decode cX11_wantsOf 5 = .ok (.aload_n 0, 1) := by decide +kernel
theorem dX11_wantsOf_6 : decode cX11_wantsOf 6 = .ok (.getfield 33, 3) := by decide +kernel
theorem dX11_wantsOf_9 : decode cX11_wantsOf 9 = .ok (.iconst 1, 1) := by decide +kernel
theorem dX11_wantsOf_10 : decode cX11_wantsOf 10 = .ok (.iaload, 1) := by decide +kernel
theorem dX11_wantsOf_11 : decode cX11_wantsOf 11 = .ok (.if_icmp .ge 26, 3) := by decide +kernel
theorem dX11_wantsOf_14 : decode cX11_wantsOf 14 = .ok (.iload_n 2, 1) := by decide +kernel
theorem dX11_wantsOf_15 : decode cX11_wantsOf 15 = .ok (.aload_n 0, 1) := by decide +kernel
theorem dX11_wantsOf_16 : decode cX11_wantsOf 16 = .ok (.getfield 33, 3) := by decide +kernel
theorem dX11_wantsOf_19 : decode cX11_wantsOf 19 = .ok (.sipush 178, 3) := by decide +kernel
theorem dX11_wantsOf_22 : decode cX11_wantsOf 22 = .ok (.iconst 5, 1) := by decide +kernel
theorem dX11_wantsOf_23 : decode cX11_wantsOf 23 = .ok (.iload_n 1, 1) := by decide +kernel
theorem dX11_wantsOf_24 : decode cX11_wantsOf 24 = .ok (.imul, 1) := by decide +kernel
theorem dX11_wantsOf_25 : decode cX11_wantsOf 25 = .ok (.iadd, 1) := by decide +kernel
theorem dX11_wantsOf_26 : decode cX11_wantsOf 26 = .ok (.iload_n 3, 1) := by decide +kernel
theorem dX11_wantsOf_27 : decode cX11_wantsOf 27 = .ok (.iadd, 1) := by decide +kernel
theorem dX11_wantsOf_28 : decode cX11_wantsOf 28 = .ok (.iaload, 1) := by decide +kernel
theorem dX11_wantsOf_29 : decode cX11_wantsOf 29 = .ok (.iadd, 1) := by decide +kernel
theorem dX11_wantsOf_30 : decode cX11_wantsOf 30 = .ok (.istore_n 2, 1) := by decide +kernel
theorem dX11_wantsOf_31 : decode cX11_wantsOf 31 = .ok (.iinc 3 1, 3) := by decide +kernel
theorem dX11_wantsOf_34 : decode cX11_wantsOf 34 = .ok (.goto (-30), 3) := by decide +kernel
theorem dX11_wantsOf_37 : decode cX11_wantsOf 37 = .ok (.iload_n 2, 1) := by decide +kernel
theorem dX11_wantsOf_38 : decode cX11_wantsOf 38 = .ok (.ireturn, 1) := by decide +kernel
theorem dX11_deals_0 : decode cX11_deals 0 = .ok (.aload_n 0, 1) := by decide +kernel
theorem dX11_deals_1 : decode cX11_deals 1 = .ok (.iconst 0, 1) := by decide +kernel
theorem dX11_deals_2 : decode cX11_deals 2 = .ok (.putfield 1, 3) := by decide +kernel
theorem dX11_deals_5 : decode cX11_deals 5 = .ok (.aload_n 0, 1) := by decide +kernel
theorem dX11_deals_6 : decode cX11_deals 6 = .ok (.iload_n 1, 1) := by decide +kernel
theorem dX11_deals_7 : decode cX11_deals 7 = .ok (.invokevirtual 272, 3) := by decide +kernel
theorem dX11_deals_10 : decode cX11_deals 10 = .ok (.ifCond .eq 34, 3) := by decide +kernel
theorem dX11_deals_13 : decode cX11_deals 13 = .ok (.aload_n 0, 1) := by decide +kernel
theorem dX11_deals_14 : decode cX11_deals 14 = .ok (.iload_n 2, 1) := by decide +kernel
theorem dX11_deals_15 : decode cX11_deals 15 = .ok (.invokevirtual 272, 3) := by decide +kernel
theorem dX11_deals_18 : decode cX11_deals 18 = .ok (.ifCond .eq 26, 3) := by decide +kernel
theorem dX11_deals_21 : decode cX11_deals 21 = .ok (.iload_n 1, 1) := by decide +kernel
theorem dX11_deals_22 : decode cX11_deals 22 = .ok (.iload_n 2, 1) := by decide +kernel
theorem dX11_deals_23 : decode cX11_deals 23 = .ok (.if_icmp .eq 21, 3) := by decide +kernel
theorem dX11_deals_26 : decode cX11_deals 26 = .ok (.aload_n 0, 1) := by decide +kernel
theorem dX11_deals_27 : decode cX11_deals 27 = .ok (.getfield 33, 3) := by decide +kernel
theorem dX11_deals_30 : decode cX11_deals 30 = .ok (.sipush 227, 3) := by decide +kernel
theorem dX11_deals_33 : decode cX11_deals 33 = .ok (.bipush 7, 2) := by decide +kernel
theorem dX11_deals_35 : decode cX11_deals 35 = .ok (.iload_n 1, 1) := by decide +kernel
theorem dX11_deals_36 : decode cX11_deals 36 = .ok (.imul, 1) := by decide +kernel
theorem dX11_deals_37 : decode cX11_deals 37 = .ok (.iadd, 1) := by decide +kernel
theorem dX11_deals_38 : decode cX11_deals 38 = .ok (.iload_n 2, 1) := by decide +kernel
theorem dX11_deals_39 : decode cX11_deals 39 = .ok (.iadd, 1) := by decide +kernel
theorem dX11_deals_40 : decode cX11_deals 40 = .ok (.iaload, 1) := by decide +kernel
theorem dX11_deals_41 : decode cX11_deals 41 = .ok (.goto 4, 3) := by decide +kernel
theorem dX11_deals_44 : decode cX11_deals 44 = .ok (.iconst (-1), 1) := by decide +kernel
theorem dX11_deals_45 : decode cX11_deals 45 = .ok (.ireturn, 1) := by decide +kernel
theorem dX11_buys_0 : decode cX11_buys 0 = .ok (.aload_n 0, 1) := by decide +kernel
theorem dX11_buys_1 : decode cX11_buys 1 = .ok (.getfield 33, 3) := by decide +kernel
theorem dX11_buys_4 : decode cX11_buys 4 = .ok (.bipush 47, 2) := by decide +kernel
theorem dX11_buys_6 : decode cX11_buys 6 = .ok (.iconst 5, 1) := by decide +kernel
theorem dX11_buys_7 : decode cX11_buys 7 = .ok (.iload_n 3, 1) := by decide +kernel
theorem dX11_buys_8 : decode cX11_buys 8 = .ok (.imul, 1) := by decide +kernel
theorem dX11_buys_9 : decode cX11_buys 9 = .ok (.iadd, 1) := by decide +kernel
theorem dX11_buys_10 : decode cX11_buys 10 = .ok (.iload_n 2, 1) := by decide +kernel
theorem dX11_buys_11 : decode cX11_buys 11 = .ok (.iadd, 1) := by decide +kernel
theorem dX11_buys_12 : decode cX11_buys 12 = .ok (.iaload, 1) := by decide +kernel
theorem dX11_buys_13 : decode cX11_buys 13 = .ok (.iconst 1, 1) := by decide +kernel
theorem dX11_buys_14 : decode cX11_buys 14 = .ok (.isub, 1) := by decide +kernel
theorem dX11_buys_15 : decode cX11_buys 15 = .ok (.istore 4, 2) := by decide +kernel
theorem dX11_buys_17 : decode cX11_buys 17 = .ok (.aload_n 0, 1) := by decide +kernel
theorem dX11_buys_18 : decode cX11_buys 18 = .ok (.getfield 33, 3) := by decide +kernel
theorem dX11_buys_21 : decode cX11_buys 21 = .ok (.sipush 143, 3) := by decide +kernel
theorem dX11_buys_24 : decode cX11_buys 24 = .ok (.iconst 5, 1) := by decide +kernel
theorem dX11_buys_25 : decode cX11_buys 25 = .ok (.iload_n 3, 1) := by decide +kernel
theorem dX11_buys_26 : decode cX11_buys 26 = .ok (.imul, 1) := by decide +kernel
theorem dX11_buys_27 : decode cX11_buys 27 = .ok (.iadd, 1) := by decide +kernel
theorem dX11_buys_28 : decode cX11_buys 28 = .ok (.iload_n 2, 1) := by decide +kernel
theorem dX11_buys_29 : decode cX11_buys 29 = .ok (.iadd, 1) := by decide +kernel
theorem dX11_buys_30 : decode cX11_buys 30 = .ok (.dup2, 1) := by decide +kernel
theorem dX11_buys_31 : decode cX11_buys 31 = .ok (.iaload, 1) := by decide +kernel
theorem dX11_buys_32 : decode cX11_buys 32 = .ok (.iconst 1, 1) := by decide +kernel
theorem dX11_buys_33 : decode cX11_buys 33 = .ok (.isub, 1) := by decide +kernel
theorem dX11_buys_34 : decode cX11_buys 34 = .ok (.iastore, 1) := by decide +kernel
theorem dX11_buys_35 : decode cX11_buys 35 = .ok (.aload_n 0, 1) := by decide +kernel
theorem dX11_buys_36 : decode cX11_buys 36 = .ok (.getfield 33, 3) := by decide +kernel
theorem dX11_buys_39 : decode cX11_buys 39 = .ok (.sipush 178, 3) := by decide +kernel
theorem dX11_buys_42 : decode cX11_buys 42 = .ok (.iconst 5, 1) := by decide +kernel
theorem dX11_buys_43 : decode cX11_buys 43 = .ok (.iload_n 1, 1) := by decide +kernel
theorem dX11_buys_44 : decode cX11_buys 44 = .ok (.imul, 1) := by decide +kernel
theorem dX11_buys_45 : decode cX11_buys 45 = .ok (.iadd, 1) := by decide +kernel
theorem dX11_buys_46 : decode cX11_buys 46 = .ok (.iload_n 2, 1) := by decide +kernel
theorem dX11_buys_47 : decode cX11_buys 47 = .ok (.iadd, 1) := by decide +kernel
theorem dX11_buys_48 : decode cX11_buys 48 = .ok (.dup2, 1) := by decide +kernel
theorem dX11_buys_49 : decode cX11_buys 49 = .ok (.iaload, 1) := by decide +kernel
theorem dX11_buys_50 : decode cX11_buys 50 = .ok (.iconst 1, 1) := by decide +kernel
theorem dX11_buys_51 : decode cX11_buys 51 = .ok (.isub, 1) := by decide +kernel
theorem dX11_buys_52 : decode cX11_buys 52 = .ok (.iastore, 1) := by decide +kernel
theorem dX11_buys_53 : decode cX11_buys 53 = .ok (.aload_n 0, 1) := by decide +kernel
theorem dX11_buys_54 : decode cX11_buys 54 = .ok (.getfield 33, 3) := by decide +kernel
theorem dX11_buys_57 : decode cX11_buys 57 = .ok (.sipush 136, 3) := by decide +kernel
theorem dX11_buys_60 : decode cX11_buys 60 = .ok (.iload_n 1, 1) := by decide +kernel
theorem dX11_buys_61 : decode cX11_buys 61 = .ok (.iadd, 1) := by decide +kernel
theorem dX11_buys_62 : decode cX11_buys 62 = .ok (.dup2, 1) := by decide +kernel
theorem dX11_buys_63 : decode cX11_buys 63 = .ok (.iaload, 1) := by decide +kernel
theorem dX11_buys_64 : decode cX11_buys 64 = .ok (.iload 4, 2) := by decide +kernel
theorem dX11_buys_66 : decode cX11_buys 66 = .ok (.isub, 1) := by decide +kernel
theorem dX11_buys_67 : decode cX11_buys 67 = .ok (.iastore, 1) := by decide +kernel
theorem dX11_buys_68 : decode cX11_buys 68 = .ok (.aload_n 0, 1) := by decide +kernel
theorem dX11_buys_69 : decode cX11_buys 69 = .ok (.getfield 33, 3) := by decide +kernel
theorem dX11_buys_72 : decode cX11_buys 72 = .ok (.sipush 136, 3) := by decide +kernel
theorem dX11_buys_75 : decode cX11_buys 75 = .ok (.iload_n 3, 1) := by decide +kernel
theorem dX11_buys_76 : decode cX11_buys 76 = .ok (.iadd, 1) := by decide +kernel
theorem dX11_buys_77 : decode cX11_buys 77 = .ok (.dup2, 1) := by decide +kernel
theorem dX11_buys_78 : decode cX11_buys 78 = .ok (.iaload, 1) := by decide +kernel
theorem dX11_buys_79 : decode cX11_buys 79 = .ok (.iload 4, 2) := by decide +kernel
theorem dX11_buys_81 : decode cX11_buys 81 = .ok (.iadd, 1) := by decide +kernel
theorem dX11_buys_82 : decode cX11_buys 82 = .ok (.iastore, 1) := by decide +kernel
theorem dX11_buys_83 : decode cX11_buys 83 = .ok (.aload_n 0, 1) := by decide +kernel
theorem dX11_buys_84 : decode cX11_buys 84 = .ok (.getfield 33, 3) := by decide +kernel
theorem dX11_buys_87 : decode cX11_buys 87 = .ok (.sipush 132, 3) := by decide +kernel
theorem dX11_buys_90 : decode cX11_buys 90 = .ok (.dup2, 1) := by decide +kernel
theorem dX11_buys_91 : decode cX11_buys 91 = .ok (.iaload, 1) := by decide +kernel
theorem dX11_buys_92 : decode cX11_buys 92 = .ok (.iconst 1, 1) := by decide +kernel
theorem dX11_buys_93 : decode cX11_buys 93 = .ok (.iadd, 1) := by decide +kernel
theorem dX11_buys_94 : decode cX11_buys 94 = .ok (.iastore, 1) := by decide +kernel
theorem dX11_buys_95 : decode cX11_buys 95 = .ok (.aload_n 0, 1) := by decide +kernel
theorem dX11_buys_96 : decode cX11_buys 96 = .ok (.iload_n 1, 1) := by decide +kernel
theorem dX11_buys_97 : decode cX11_buys 97 = .ok (.invokevirtual 293, 3) := by decide +kernel
theorem dX11_buys_100 : decode cX11_buys 100 = .ok (.ifCond .ne 11, 3) := by decide +kernel
theorem dX11_buys_103 : decode cX11_buys 103 = .ok (.aload_n 0, 1) := by decide +kernel
theorem dX11_buys_104 : decode cX11_buys 104 = .ok (.iload_n 3, 1) := by decide +kernel
theorem dX11_buys_105 : decode cX11_buys 105 = .ok (.invokevirtual 293, 3) := by decide +kernel
theorem dX11_buys_108 : decode cX11_buys 108 = .ok (.ifCond .eq 4, 3) := by decide +kernel
theorem dX11_buys_111 : decode cX11_buys 111 = .ok (.return_, 1) := by decide +kernel
theorem dX11_buys_112 : decode cX11_buys 112 = .ok (.aload_n 0, 1) := by decide +kernel
theorem dX11_buys_113 : decode cX11_buys 113 = .ok (.getfield 33, 3) := by decide +kernel
theorem dX11_buys_116 : decode cX11_buys 116 = .ok (.sipush 227, 3) := by decide +kernel
theorem dX11_buys_119 : decode cX11_buys 119 = .ok (.bipush 7, 2) := by decide +kernel
theorem dX11_buys_121 : decode cX11_buys 121 = .ok (.iload_n 1, 1) := by decide +kernel
theorem dX11_buys_122 : decode cX11_buys 122 = .ok (.imul, 1) := by decide +kernel
theorem dX11_buys_123 : decode cX11_buys 123 = .ok (.iadd, 1) := by decide +kernel
theorem dX11_buys_124 : decode cX11_buys 124 = .ok (.iload_n 3, 1) := by decide +kernel
theorem dX11_buys_125 : decode cX11_buys 125 = .ok (.iadd, 1) := by decide +kernel
theorem dX11_buys_126 : decode cX11_buys 126 = .ok (.dup2, 1) := by decide +kernel
theorem dX11_buys_127 : decode cX11_buys 127 = .ok (.iaload, 1) := by decide +kernel
theorem dX11_buys_128 : decode cX11_buys 128 = .ok (.iconst 1, 1) := by decide +kernel
theorem dX11_buys_129 : decode cX11_buys 129 = .ok (.iadd, 1) := by decide +kernel
theorem dX11_buys_130 : decode cX11_buys 130 = .ok (.iastore, 1) := by decide +kernel
theorem dX11_buys_131 : decode cX11_buys 131 = .ok (.aload_n 0, 1) := by decide +kernel
theorem dX11_buys_132 : decode cX11_buys 132 = .ok (.getfield 33, 3) := by decide +kernel
theorem dX11_buys_135 : decode cX11_buys 135 = .ok (.sipush 227, 3) := by decide +kernel
theorem dX11_buys_138 : decode cX11_buys 138 = .ok (.bipush 7, 2) := by decide +kernel
theorem dX11_buys_140 : decode cX11_buys 140 = .ok (.iload_n 3, 1) := by decide +kernel
theorem dX11_buys_141 : decode cX11_buys 141 = .ok (.imul, 1) := by decide +kernel
theorem dX11_buys_142 : decode cX11_buys 142 = .ok (.iadd, 1) := by decide +kernel
theorem dX11_buys_143 : decode cX11_buys 143 = .ok (.iload_n 1, 1) := by decide +kernel
theorem dX11_buys_144 : decode cX11_buys 144 = .ok (.iadd, 1) := by decide +kernel
theorem dX11_buys_145 : decode cX11_buys 145 = .ok (.dup2, 1) := by decide +kernel
theorem dX11_buys_146 : decode cX11_buys 146 = .ok (.iaload, 1) := by decide +kernel
theorem dX11_buys_147 : decode cX11_buys 147 = .ok (.iconst 1, 1) := by decide +kernel
theorem dX11_buys_148 : decode cX11_buys 148 = .ok (.iadd, 1) := by decide +kernel
theorem dX11_buys_149 : decode cX11_buys 149 = .ok (.iastore, 1) := by decide +kernel
theorem dX11_buys_150 : decode cX11_buys 150 = .ok (.aload_n 0, 1) := by decide +kernel
theorem dX11_buys_151 : decode cX11_buys 151 = .ok (.getfield 33, 3) := by decide +kernel
theorem dX11_buys_154 : decode cX11_buys 154 = .ok (.sipush 227, 3) := by decide +kernel
theorem dX11_buys_157 : decode cX11_buys 157 = .ok (.bipush 7, 2) := by decide +kernel
theorem dX11_buys_159 : decode cX11_buys 159 = .ok (.iload_n 1, 1) := by decide +kernel
theorem dX11_buys_160 : decode cX11_buys 160 = .ok (.imul, 1) := by decide +kernel
theorem dX11_buys_161 : decode cX11_buys 161 = .ok (.iadd, 1) := by decide +kernel
theorem dX11_buys_162 : decode cX11_buys 162 = .ok (.iload_n 3, 1) := by decide +kernel
theorem dX11_buys_163 : decode cX11_buys 163 = .ok (.iadd, 1) := by decide +kernel
theorem dX11_buys_164 : decode cX11_buys 164 = .ok (.iaload, 1) := by decide +kernel
theorem dX11_buys_165 : decode cX11_buys 165 = .ok (.aload_n 0, 1) := by decide +kernel
theorem dX11_buys_166 : decode cX11_buys 166 = .ok (.getfield 33, 3) := by decide +kernel
theorem dX11_buys_169 : decode cX11_buys 169 = .ok (.iconst 2, 1) := by decide +kernel
theorem dX11_buys_170 : decode cX11_buys 170 = .ok (.iaload, 1) := by decide +kernel
theorem dX11_buys_171 : decode cX11_buys 171 = .ok (.if_icmp .lt 9, 3) := by decide +kernel
theorem dX11_buys_174 : decode cX11_buys 174 = .ok (.aload_n 0, 1) := by decide +kernel
theorem dX11_buys_175 : decode cX11_buys 175 = .ok (.iload_n 1, 1) := by decide +kernel
theorem dX11_buys_176 : decode cX11_buys 176 = .ok (.iload_n 3, 1) := by decide +kernel
theorem dX11_buys_177 : decode cX11_buys 177 = .ok (.invokevirtual 296, 3) := by decide +kernel
theorem dX11_buys_180 : decode cX11_buys 180 = .ok (.return_, 1) := by decide +kernel
theorem dX11_veils_0 : decode cX11_veils 0 = .ok (.aload_n 0, 1) := by decide +kernel
theorem dX11_veils_1 : decode cX11_veils 1 = .ok (.getfield 33, 3) := by decide +kernel
theorem dX11_veils_4 : decode cX11_veils 4 = .ok (.sipush 134, 3) := by decide +kernel
theorem dX11_veils_7 : decode cX11_veils 7 = .ok (.dup2, 1) := by decide +kernel
theorem dX11_veils_8 : decode cX11_veils 8 = .ok (.iaload, 1) := by decide +kernel
theorem dX11_veils_9 : decode cX11_veils 9 = .ok (.iconst 1, 1) := by decide +kernel
theorem dX11_veils_10 : decode cX11_veils 10 = .ok (.iload_n 1, 1) := by decide +kernel
theorem dX11_veils_11 : decode cX11_veils 11 = .ok (.ishl, 1) := by decide +kernel
theorem dX11_veils_12 : decode cX11_veils 12 = .ok (.ior, 1) := by decide +kernel
theorem dX11_veils_13 : decode cX11_veils 13 = .ok (.iastore, 1) := by decide +kernel
theorem dX11_veils_14 : decode cX11_veils 14 = .ok (.aload_n 0, 1) := by decide +kernel
theorem dX11_veils_15 : decode cX11_veils 15 = .ok (.getfield 33, 3) := by decide +kernel
theorem dX11_veils_18 : decode cX11_veils 18 = .ok (.sipush 135, 3) := by decide +kernel
theorem dX11_veils_21 : decode cX11_veils 21 = .ok (.dup2, 1) := by decide +kernel
theorem dX11_veils_22 : decode cX11_veils 22 = .ok (.iaload, 1) := by decide +kernel
theorem dX11_veils_23 : decode cX11_veils 23 = .ok (.iconst 1, 1) := by decide +kernel
theorem dX11_veils_24 : decode cX11_veils 24 = .ok (.isub, 1) := by decide +kernel
theorem dX11_veils_25 : decode cX11_veils 25 = .ok (.iastore, 1) := by decide +kernel
theorem dX11_veils_26 : decode cX11_veils 26 = .ok (.return_, 1) := by decide +kernel
theorem dX11_goesOn_0 : decode cX11_goesOn 0 = .ok (.iconst 0, 1) := by decide +kernel
theorem dX11_goesOn_1 : decode cX11_goesOn 1 = .ok (.istore_n 2, 1) := by decide +kernel
theorem dX11_goesOn_2 : decode cX11_goesOn 2 = .ok (.iload_n 2, 1) := by decide +kernel
theorem dX11_goesOn_3 : decode cX11_goesOn 3 = .ok (.iload_n 1, 1) := by decide +kernel
theorem dX11_goesOn_4 : decode cX11_goesOn 4 = .ok (.if_icmp .ge 27, 3) := by decide +kernel
theorem dX11_goesOn_7 : decode cX11_goesOn 7 = .ok (.aload_n 0, 1) := by decide +kernel
theorem dX11_goesOn_8 : decode cX11_goesOn 8 = .ok (.getfield 33, 3) := by decide +kernel
theorem dX11_goesOn_11 : decode cX11_goesOn 11 = .ok (.sipush 131, 3) := by decide +kernel
theorem dX11_goesOn_14 : decode cX11_goesOn 14 = .ok (.iaload, 1) := by decide +kernel
theorem dX11_goesOn_15 : decode cX11_goesOn 15 = .ok (.sipush 400, 3) := by decide +kernel
theorem dX11_goesOn_18 : decode cX11_goesOn 18 = .ok (.if_icmp .ge 13, 3) := by decide +kernel
theorem dX11_goesOn_21 : decode cX11_goesOn 21 = .ok (.aload_n 0, 1) := by decide +kernel
theorem dX11_goesOn_22 : decode cX11_goesOn 22 = .ok (.invokevirtual 303, 3) := by decide +kernel
theorem dX11_goesOn_25 : decode cX11_goesOn 25 = .ok (.iinc 2 1, 3) := by decide +kernel
theorem dX11_goesOn_28 : decode cX11_goesOn 28 = .ok (.goto (-26), 3) := by decide +kernel
theorem dX11_goesOn_31 : decode cX11_goesOn 31 = .ok (.iload_n 2, 1) := by decide +kernel
theorem dX11_goesOn_32 : decode cX11_goesOn 32 = .ok (.ireturn, 1) := by decide +kernel
theorem dX11_tell_0 : decode cX11_tell 0 = .ok (.aload_n 0, 1) := by decide +kernel
theorem dX11_tell_1 : decode cX11_tell 1 = .ok (.iconst 0, 1) := by decide +kernel
theorem dX11_tell_2 : decode cX11_tell 2 = .ok (.putfield 1, 3) := by decide +kernel
theorem dX11_tell_5 : decode cX11_tell 5 = .ok (.aload_n 0, 1) := by decide +kernel
theorem dX11_tell_6 : decode cX11_tell 6 = .ok (.iload_n 1, 1) := by decide +kernel
theorem dX11_tell_7 : decode cX11_tell 7 = .ok (.invokevirtual 272, 3) := by decide +kernel
theorem dX11_tell_10 : decode cX11_tell 10 = .ok (.ifCond .eq 19, 3) := by decide +kernel
theorem dX11_tell_13 : decode cX11_tell 13 = .ok (.aload_n 0, 1) := by decide +kernel
theorem dX11_tell_14 : decode cX11_tell 14 = .ok (.iload_n 2, 1) := by decide +kernel
theorem dX11_tell_15 : decode cX11_tell 15 = .ok (.invokevirtual 272, 3) := by decide +kernel
theorem dX11_tell_18 : decode cX11_tell 18 = .ok (.ifCond .eq 11, 3) := by decide +kernel
theorem dX11_tell_21 : decode cX11_tell 21 = .ok (.aload_n 0, 1) := by decide +kernel
theorem dX11_tell_22 : decode cX11_tell 22 = .ok (.iload_n 3, 1) := by decide +kernel
theorem dX11_tell_23 : decode cX11_tell 23 = .ok (.invokevirtual 272, 3) := by decide +kernel
theorem dX11_tell_26 : decode cX11_tell 26 = .ok (.ifCond .ne 5, 3) := by decide +kernel
theorem dX11_tell_29 : decode cX11_tell 29 = .ok (.iconst (-1), 1) := by decide +kernel
theorem dX11_tell_30 : decode cX11_tell 30 = .ok (.ireturn, 1) := by decide +kernel
theorem dX11_tell_31 : decode cX11_tell 31 = .ok (.aload_n 0, 1) := by decide +kernel
theorem dX11_tell_32 : decode cX11_tell 32 = .ok (.iload_n 1, 1) := by decide +kernel
theorem dX11_tell_33 : decode cX11_tell 33 = .ok (.iload_n 2, 1) := by decide +kernel
theorem dX11_tell_34 : decode cX11_tell 34 = .ok (.iload_n 3, 1) := by decide +kernel
theorem dX11_tell_35 : decode cX11_tell 35 = .ok (.invokevirtual 329, 3) := by decide +kernel
theorem dX11_tell_38 : decode cX11_tell 38 = .ok (.istore 4, 2) := by decide +kernel
theorem dX11_tell_40 : decode cX11_tell 40 = .ok (.iload 4, 2) := by decide +kernel
theorem dX11_tell_42 : decode cX11_tell 42 = .ok (.ifCond .le 6, 3) := by decide +kernel
theorem dX11_tell_45 : decode cX11_tell 45 = .ok (.iload 4, 2) := by decide +kernel
theorem dX11_tell_47 : decode cX11_tell 47 = .ok (.ireturn, 1) := by decide +kernel
theorem dX11_tell_48 : decode cX11_tell 48 = .ok (.aload_n 0, 1) := by decide +kernel
theorem dX11_tell_49 : decode cX11_tell 49 = .ok (.invokevirtual 310, 3) := by decide +kernel
theorem dX11_tell_52 : decode cX11_tell 52 = .ok (.aload_n 0, 1) := by decide +kernel
theorem dX11_tell_53 : decode cX11_tell 53 = .ok (.iload_n 2, 1) := by decide +kernel
theorem dX11_tell_54 : decode cX11_tell 54 = .ok (.iload_n 3, 1) := by decide +kernel
theorem dX11_tell_55 : decode cX11_tell 55 = .ok (.invokevirtual 296, 3) := by decide +kernel
theorem dX11_tell_58 : decode cX11_tell 58 = .ok (.iconst 0, 1) := by decide +kernel
theorem dX11_tell_59 : decode cX11_tell 59 = .ok (.ireturn, 1) := by decide +kernel
theorem dX11_tries_0 : decode cX11_tries 0 = .ok (.iconst 0, 1) := by decide +kernel
theorem dX11_tries_1 : decode cX11_tries 1 = .ok (.istore_n 1, 1) := by decide +kernel
theorem dX11_tries_2 : decode cX11_tries 2 = .ok (.iload_n 1, 1) := by decide +kernel
theorem dX11_tries_3 : decode cX11_tries 3 = .ok (.sipush 145, 3) := by decide +kernel
theorem dX11_tries_6 : decode cX11_tries 6 = .ok (.if_icmp .ge 25, 3) := by decide +kernel
theorem dX11_tries_9 : decode cX11_tries 9 = .ok (.aload_n 0, 1) := by decide +kernel
theorem dX11_tries_10 : decode cX11_tries 10 = .ok (.getfield 53, 3) := by decide +kernel
theorem dX11_tries_13 : decode cX11_tries 13 = .ok (.iload_n 1, 1) := by decide +kernel
theorem dX11_tries_14 : decode cX11_tries 14 = .ok (.aload_n 0, 1) := by decide +kernel
theorem dX11_tries_15 : decode cX11_tries 15 = .ok (.getfield 33, 3) := by decide +kernel
theorem dX11_tries_18 : decode cX11_tries 18 = .ok (.sipush 131, 3) := by decide +kernel
theorem dX11_tries_21 : decode cX11_tries 21 = .ok (.iload_n 1, 1) := by decide +kernel
theorem dX11_tries_22 : decode cX11_tries 22 = .ok (.iadd, 1) := by decide +kernel
theorem dX11_tries_23 : decode cX11_tries 23 = .ok (.iaload, 1) := by decide +kernel
theorem dX11_tries_24 : decode cX11_tries 24 = .ok (.iastore, 1) := by decide +kernel
theorem dX11_tries_25 : decode cX11_tries 25 = .ok (.iinc 1 1, 3) := by decide +kernel
theorem dX11_tries_28 : decode cX11_tries 28 = .ok (.goto (-26), 3) := by decide +kernel
theorem dX11_tries_31 : decode cX11_tries 31 = .ok (.return_, 1) := by decide +kernel
theorem dX11_most_0 : decode cX11_most 0 = .ok (.aload_n 0, 1) := by decide +kernel
theorem dX11_most_1 : decode cX11_most 1 = .ok (.iconst 0, 1) := by decide +kernel
theorem dX11_most_2 : decode cX11_most 2 = .ok (.putfield 1, 3) := by decide +kernel
theorem dX11_most_5 : decode cX11_most 5 = .ok (.aload_n 0, 1) := by decide +kernel
theorem dX11_most_6 : decode cX11_most 6 = .ok (.iload_n 1, 1) := by decide +kernel
theorem dX11_most_7 : decode cX11_most 7 = .ok (.invokevirtual 281, 3) := by decide +kernel
theorem dX11_most_10 : decode cX11_most 10 = .ok (.ifCond .ne 5, 3) := by decide +kernel
theorem dX11_most_13 : decode cX11_most 13 = .ok (.iconst (-1), 1) := by decide +kernel
theorem dX11_most_14 : decode cX11_most 14 = .ok (.ireturn, 1) := by decide +kernel
theorem dX11_most_15 : decode cX11_most 15 = .ok (.iconst 0, 1) := by decide +kernel
theorem dX11_most_16 : decode cX11_most 16 = .ok (.istore_n 2, 1) := by decide +kernel
theorem dX11_most_17 : decode cX11_most 17 = .ok (.iload_n 2, 1) := by decide +kernel
theorem dX11_most_18 : decode cX11_most 18 = .ok (.sipush 256, 3) := by decide +kernel
theorem dX11_most_21 : decode cX11_most 21 = .ok (.if_icmp .ge 16, 3) := by decide +kernel
theorem dX11_most_24 : decode cX11_most 24 = .ok (.aload_n 0, 1) := by decide +kernel
theorem dX11_most_25 : decode cX11_most 25 = .ok (.getfield 56, 3) := by decide +kernel
theorem dX11_most_28 : decode cX11_most 28 = .ok (.iload_n 2, 1) := by decide +kernel
theorem dX11_most_29 : decode cX11_most 29 = .ok (.iconst 0, 1) := by decide +kernel
theorem dX11_most_30 : decode cX11_most 30 = .ok (.iastore, 1) := by decide +kernel
theorem dX11_most_31 : decode cX11_most 31 = .ok (.iinc 2 1, 3) := by decide +kernel
theorem dX11_most_34 : decode cX11_most 34 = .ok (.goto (-17), 3) := by decide +kernel
theorem dX11_most_37 : decode cX11_most 37 = .ok (.iconst 0, 1) := by decide +kernel
theorem dX11_most_38 : decode cX11_most 38 = .ok (.istore_n 2, 1) := by decide +kernel
theorem dX11_most_39 : decode cX11_most 39 = .ok (.iload_n 2, 1) := by decide +kernel
theorem dX11_most_40 : decode cX11_most 40 = .ok (.aload_n 0, 1) := by decide +kernel
theorem dX11_most_41 : decode cX11_most 41 = .ok (.getfield 33, 3) := by decide +kernel
theorem dX11_most_44 : decode cX11_most 44 = .ok (.iconst 0, 1) := by decide +kernel
theorem dX11_most_45 : decode cX11_most 45 = .ok (.iaload, 1) := by decide +kernel
theorem dX11_most_46 : decode cX11_most 46 = .ok (.if_icmp .ge 105, 3) := by decide +kernel
theorem dX11_most_49 : decode cX11_most 49 = .ok (.aload_n 0, 1) := by decide +kernel
theorem dX11_most_50 : decode cX11_most 50 = .ok (.getfield 56, 3) := by decide +kernel
theorem dX11_most_53 : decode cX11_most 53 = .ok (.sipush 224, 3) := by decide +kernel
theorem dX11_most_56 : decode cX11_most 56 = .ok (.iload_n 2, 1) := by decide +kernel
theorem dX11_most_57 : decode cX11_most 57 = .ok (.iadd, 1) := by decide +kernel
theorem dX11_most_58 : decode cX11_most 58 = .ok (.aload_n 0, 1) := by decide +kernel
theorem dX11_most_59 : decode cX11_most 59 = .ok (.getfield 33, 3) := by decide +kernel
theorem dX11_most_62 : decode cX11_most 62 = .ok (.sipush 143, 3) := by decide +kernel
theorem dX11_most_65 : decode cX11_most 65 = .ok (.iconst 5, 1) := by decide +kernel
theorem dX11_most_66 : decode cX11_most 66 = .ok (.iload_n 2, 1) := by decide +kernel
theorem dX11_most_67 : decode cX11_most 67 = .ok (.imul, 1) := by decide +kernel
theorem dX11_most_68 : decode cX11_most 68 = .ok (.iadd, 1) := by decide +kernel
theorem dX11_most_69 : decode cX11_most 69 = .ok (.iload_n 1, 1) := by decide +kernel
theorem dX11_most_70 : decode cX11_most 70 = .ok (.iadd, 1) := by decide +kernel
theorem dX11_most_71 : decode cX11_most 71 = .ok (.iaload, 1) := by decide +kernel
theorem dX11_most_72 : decode cX11_most 72 = .ok (.iastore, 1) := by decide +kernel
theorem dX11_most_73 : decode cX11_most 73 = .ok (.aload_n 0, 1) := by decide +kernel
theorem dX11_most_74 : decode cX11_most 74 = .ok (.getfield 56, 3) := by decide +kernel
theorem dX11_most_77 : decode cX11_most 77 = .ok (.bipush 16, 2) := by decide +kernel
theorem dX11_most_79 : decode cX11_most 79 = .ok (.bipush 7, 2) := by decide +kernel
theorem dX11_most_81 : decode cX11_most 81 = .ok (.iload_n 2, 1) := by decide +kernel
theorem dX11_most_82 : decode cX11_most 82 = .ok (.iadd, 1) := by decide +kernel
theorem dX11_most_83 : decode cX11_most 83 = .ok (.imul, 1) := by decide +kernel
theorem dX11_most_84 : decode cX11_most 84 = .ok (.bipush 15, 2) := by decide +kernel
theorem dX11_most_86 : decode cX11_most 86 = .ok (.iadd, 1) := by decide +kernel
theorem dX11_most_87 : decode cX11_most 87 = .ok (.aload_n 0, 1) := by decide +kernel
theorem dX11_most_88 : decode cX11_most 88 = .ok (.getfield 33, 3) := by decide +kernel
theorem dX11_most_91 : decode cX11_most 91 = .ok (.sipush 178, 3) := by decide +kernel
theorem dX11_most_94 : decode cX11_most 94 = .ok (.iconst 5, 1) := by decide +kernel
theorem dX11_most_95 : decode cX11_most 95 = .ok (.iload_n 2, 1) := by decide +kernel
theorem dX11_most_96 : decode cX11_most 96 = .ok (.imul, 1) := by decide +kernel
theorem dX11_most_97 : decode cX11_most 97 = .ok (.iadd, 1) := by decide +kernel
theorem dX11_most_98 : decode cX11_most 98 = .ok (.iload_n 1, 1) := by decide +kernel
theorem dX11_most_99 : decode cX11_most 99 = .ok (.iadd, 1) := by decide +kernel
theorem dX11_most_100 : decode cX11_most 100 = .ok (.iaload, 1) := by decide +kernel
theorem dX11_most_101 : decode cX11_most 101 = .ok (.iastore, 1) := by decide +kernel
theorem dX11_most_102 : decode cX11_most 102 = .ok (.iconst 0, 1) := by decide +kernel
theorem dX11_most_103 : decode cX11_most 103 = .ok (.istore_n 3, 1) := by decide +kernel
theorem dX11_most_104 : decode cX11_most 104 = .ok (.iload_n 3, 1) := by decide +kernel
theorem dX11_most_105 : decode cX11_most 105 = .ok (.aload_n 0, 1) := by decide +kernel
theorem dX11_most_106 : decode cX11_most 106 = .ok (.getfield 33, 3) := by decide +kernel
theorem dX11_most_109 : decode cX11_most 109 = .ok (.iconst 0, 1) := by decide +kernel
theorem dX11_most_110 : decode cX11_most 110 = .ok (.iaload, 1) := by decide +kernel
theorem dX11_most_111 : decode cX11_most 111 = .ok (.if_icmp .ge 34, 3) := by decide +kernel
theorem dX11_most_114 : decode cX11_most 114 = .ok (.iload_n 3, 1) := by decide +kernel
theorem dX11_most_115 : decode cX11_most 115 = .ok (.iload_n 2, 1) := by decide +kernel
theorem dX11_most_116 : decode cX11_most 116 = .ok (.if_icmp .eq 23, 3) := by decide +kernel
theorem dX11_most_119 : decode cX11_most 119 = .ok (.aload_n 0, 1) := by decide +kernel
theorem dX11_most_120 : decode cX11_most 120 = .ok (.getfield 56, 3) := by decide +kernel
theorem dX11_most_123 : decode cX11_most 123 = .ok (.bipush 16, 2) := by decide +kernel
theorem dX11_most_125 : decode cX11_most 125 = .ok (.iload_n 2, 1) := by decide +kernel
theorem dX11_most_126 : decode cX11_most 126 = .ok (.imul, 1) := by decide +kernel
theorem dX11_most_127 : decode cX11_most 127 = .ok (.bipush 7, 2) := by decide +kernel
theorem dX11_most_129 : decode cX11_most 129 = .ok (.iadd, 1) := by decide +kernel
theorem dX11_most_130 : decode cX11_most 130 = .ok (.iload_n 3, 1) := by decide +kernel
theorem dX11_most_131 : decode cX11_most 131 = .ok (.iadd, 1) := by decide +kernel
theorem dX11_most_132 : decode cX11_most 132 = .ok (.aload_n 0, 1) := by decide +kernel
theorem dX11_most_133 : decode cX11_most 133 = .ok (.iload_n 2, 1) := by decide +kernel
theorem dX11_most_134 : decode cX11_most 134 = .ok (.iload_n 3, 1) := by decide +kernel
theorem dX11_most_135 : decode cX11_most 135 = .ok (.invokevirtual 339, 3) := by decide +kernel
theorem dX11_most_138 : decode cX11_most 138 = .ok (.iastore, 1) := by decide +kernel
theorem dX11_most_139 : decode cX11_most 139 = .ok (.iinc 3 1, 3) := by decide +kernel
theorem dX11_most_142 : decode cX11_most 142 = .ok (.goto (-38), 3) := by decide +kernel
theorem dX11_most_145 : decode cX11_most 145 = .ok (.iinc 2 1, 3) := by decide +kernel
theorem dX11_most_148 : decode cX11_most 148 = .ok (.goto (-109), 3) := by decide +kernel
theorem dX11_most_151 : decode cX11_most 151 = .ok (.iconst 0, 1) := by decide +kernel
theorem dX11_most_152 : decode cX11_most 152 = .ok (.istore_n 2, 1) := by decide +kernel
theorem dX11_most_153 : decode cX11_most 153 = .ok (.aload_n 0, 1) := by decide +kernel
theorem dX11_most_154 : decode cX11_most 154 = .ok (.invokevirtual 342, 3) := by decide +kernel
theorem dX11_most_157 : decode cX11_most 157 = .ok (.ifCond .eq 127, 3) := by decide +kernel
theorem dX11_most_160 : decode cX11_most 160 = .ok (.ldc_w 335, 3) := by decide +kernel
theorem dX11_most_163 : decode cX11_most 163 = .ok (.istore_n 3, 1) := by decide +kernel
theorem dX11_most_164 : decode cX11_most 164 = .ok (.bipush 15, 2) := by decide +kernel
theorem dX11_most_166 : decode cX11_most 166 = .ok (.istore 4, 2) := by decide +kernel
theorem dX11_most_168 : decode cX11_most 168 = .ok (.iload 4, 2) := by decide +kernel
theorem dX11_most_170 : decode cX11_most 170 = .ok (.bipush 14, 2) := by decide +kernel
theorem dX11_most_172 : decode cX11_most 172 = .ok (.if_icmp .eq 38, 3) := by decide +kernel
theorem dX11_most_175 : decode cX11_most 175 = .ok (.iload_n 3, 1) := by decide +kernel
theorem dX11_most_176 : decode cX11_most 176 = .ok (.aload_n 0, 1) := by decide +kernel
theorem dX11_most_177 : decode cX11_most 177 = .ok (.getfield 56, 3) := by decide +kernel
theorem dX11_most_180 : decode cX11_most 180 = .ok (.bipush 16, 2) := by decide +kernel
theorem dX11_most_182 : decode cX11_most 182 = .ok (.aload_n 0, 1) := by decide +kernel
theorem dX11_most_183 : decode cX11_most 183 = .ok (.getfield 59, 3) := by decide +kernel
theorem dX11_most_186 : decode cX11_most 186 = .ok (.iload 4, 2) := by decide +kernel
theorem dX11_most_188 : decode cX11_most 188 = .ok (.iaload, 1) := by decide +kernel
theorem dX11_most_189 : decode cX11_most 189 = .ok (.imul, 1) := by decide +kernel
theorem dX11_most_190 : decode cX11_most 190 = .ok (.iload 4, 2) := by decide +kernel
theorem dX11_most_192 : decode cX11_most 192 = .ok (.iadd, 1) := by decide +kernel
theorem dX11_most_193 : decode cX11_most 193 = .ok (.iaload, 1) := by decide +kernel
theorem dX11_most_194 : decode cX11_most 194 = .ok (.invokestatic 300, 3) := by decide +kernel
theorem dX11_most_197 : decode cX11_most 197 = .ok (.istore_n 3, 1) := by decide +kernel
theorem dX11_most_198 : decode cX11_most 198 = .ok (.aload_n 0, 1) := by decide +kernel
theorem dX11_most_199 : decode cX11_most 199 = .ok (.getfield 59, 3) := by decide +kernel
theorem dX11_most_202 : decode cX11_most 202 = .ok (.iload 4, 2) := by decide +kernel
theorem dX11_most_204 : decode cX11_most 204 = .ok (.iaload, 1) := by decide +kernel
theorem dX11_most_205 : decode cX11_most 205 = .ok (.istore 4, 2) := by decide +kernel
theorem dX11_most_207 : decode cX11_most 207 = .ok (.goto (-39), 3) := by decide +kernel
theorem dX11_most_210 : decode cX11_most 210 = .ok (.bipush 15, 2) := by decide +kernel
theorem dX11_most_212 : decode cX11_most 212 = .ok (.istore 4, 2) := by decide +kernel
theorem dX11_most_214 : decode cX11_most 214 = .ok (.iload 4, 2) := by decide +kernel
theorem dX11_most_216 : decode cX11_most 216 = .ok (.bipush 14, 2) := by decide +kernel
theorem dX11_most_218 : decode cX11_most 218 = .ok (.if_icmp .eq 59, 3) := by decide +kernel
theorem dX11_most_221 : decode cX11_most 221 = .ok (.aload_n 0, 1) := by decide +kernel
theorem dX11_most_222 : decode cX11_most 222 = .ok (.getfield 56, 3) := by decide +kernel
theorem dX11_most_225 : decode cX11_most 225 = .ok (.bipush 16, 2) := by decide +kernel
theorem dX11_most_227 : decode cX11_most 227 = .ok (.aload_n 0, 1) := by decide +kernel
theorem dX11_most_228 : decode cX11_most 228 = .ok (.getfield 59, 3) := by decide +kernel
theorem dX11_most_231 : decode cX11_most 231 = .ok (.iload 4, 2) := by decide +kernel
theorem dX11_most_233 : decode cX11_most 233 = .ok (.iaload, 1) := by decide +kernel
theorem dX11_most_234 : decode cX11_most 234 = .ok (.imul, 1) := by decide +kernel
theorem dX11_most_235 : decode cX11_most 235 = .ok (.iload 4, 2) := by decide +kernel
theorem dX11_most_237 : decode cX11_most 237 = .ok (.iadd, 1) := by decide +kernel
theorem dX11_most_238 : decode cX11_most 238 = .ok (.dup2, 1) := by decide +kernel
theorem dX11_most_239 : decode cX11_most 239 = .ok (.iaload, 1) := by decide +kernel
theorem dX11_most_240 : decode cX11_most 240 = .ok (.iload_n 3, 1) := by decide +kernel
theorem dX11_most_241 : decode cX11_most 241 = .ok (.isub, 1) := by decide +kernel
theorem dX11_most_242 : decode cX11_most 242 = .ok (.iastore, 1) := by decide +kernel
theorem dX11_most_243 : decode cX11_most 243 = .ok (.aload_n 0, 1) := by decide +kernel
theorem dX11_most_244 : decode cX11_most 244 = .ok (.getfield 56, 3) := by decide +kernel
theorem dX11_most_247 : decode cX11_most 247 = .ok (.bipush 16, 2) := by decide +kernel
theorem dX11_most_249 : decode cX11_most 249 = .ok (.iload 4, 2) := by decide +kernel
theorem dX11_most_251 : decode cX11_most 251 = .ok (.imul, 1) := by decide +kernel
theorem dX11_most_252 : decode cX11_most 252 = .ok (.aload_n 0, 1) := by decide +kernel
theorem dX11_most_253 : decode cX11_most 253 = .ok (.getfield 59, 3) := by decide +kernel
theorem dX11_most_256 : decode cX11_most 256 = .ok (.iload 4, 2) := by decide +kernel
theorem dX11_most_258 : decode cX11_most 258 = .ok (.iaload, 1) := by decide +kernel
theorem dX11_most_259 : decode cX11_most 259 = .ok (.iadd, 1) := by decide +kernel
theorem dX11_most_260 : decode cX11_most 260 = .ok (.dup2, 1) := by decide +kernel
theorem dX11_most_261 : decode cX11_most 261 = .ok (.iaload, 1) := by decide +kernel
theorem dX11_most_262 : decode cX11_most 262 = .ok (.iload_n 3, 1) := by decide +kernel
theorem dX11_most_263 : decode cX11_most 263 = .ok (.iadd, 1) := by decide +kernel
theorem dX11_most_264 : decode cX11_most 264 = .ok (.iastore, 1) := by decide +kernel
theorem dX11_most_265 : decode cX11_most 265 = .ok (.aload_n 0, 1) := by decide +kernel
theorem dX11_most_266 : decode cX11_most 266 = .ok (.getfield 59, 3) := by decide +kernel
theorem dX11_most_269 : decode cX11_most 269 = .ok (.iload 4, 2) := by decide +kernel
theorem dX11_most_271 : decode cX11_most 271 = .ok (.iaload, 1) := by decide +kernel
theorem dX11_most_272 : decode cX11_most 272 = .ok (.istore 4, 2) := by decide +kernel
theorem dX11_most_274 : decode cX11_most 274 = .ok (.goto (-60), 3) := by decide +kernel
theorem dX11_most_277 : decode cX11_most 277 = .ok (.iload_n 2, 1) := by decide +kernel
theorem dX11_most_278 : decode cX11_most 278 = .ok (.iload_n 3, 1) := by decide +kernel
theorem dX11_most_279 : decode cX11_most 279 = .ok (.iadd, 1) := by decide +kernel
theorem dX11_most_280 : decode cX11_most 280 = .ok (.istore_n 2, 1) := by decide +kernel
theorem dX11_most_281 : decode cX11_most 281 = .ok (.goto (-128), 3) := by decide +kernel
theorem dX11_most_284 : decode cX11_most 284 = .ok (.iload_n 2, 1) := by decide +kernel
theorem dX11_most_285 : decode cX11_most 285 = .ok (.ireturn, 1) := by decide +kernel
theorem dX11_isServed_0 : decode cX11_isServed 0 = .ok (.iconst 1, 1) := by decide +kernel
theorem dX11_isServed_1 : decode cX11_isServed 1 = .ok (.istore_n 3, 1) := by decide +kernel
theorem dX11_isServed_2 : decode cX11_isServed 2 = .ok (.iconst 0, 1) := by decide +kernel
theorem dX11_isServed_3 : decode cX11_isServed 3 = .ok (.istore 4, 2) := by decide +kernel
theorem dX11_isServed_5 : decode cX11_isServed 5 = .ok (.iload 4, 2) := by decide +kernel
theorem dX11_isServed_7 : decode cX11_isServed 7 = .ok (.aload_n 0, 1) := by decide +kernel
theorem dX11_isServed_8 : decode cX11_isServed 8 = .ok (.getfield 33, 3) := by decide +kernel
theorem dX11_isServed_11 : decode cX11_isServed 11 = .ok (.iconst 0, 1) := by decide +kernel
theorem dX11_isServed_12 : decode cX11_isServed 12 = .ok (.iaload, 1) := by decide +kernel
theorem dX11_isServed_13 : decode cX11_isServed 13 = .ok (.if_icmp .ge 47, 3) := by decide +kernel
theorem dX11_isServed_16 : decode cX11_isServed 16 = .ok (.iload_n 3, 1) := by decide +kernel
theorem dX11_isServed_17 : decode cX11_isServed 17 = .ok (.ifCond .eq 35, 3) := by decide +kernel
theorem dX11_isServed_20 : decode cX11_isServed 20 = .ok (.aload_n 0, 1) := by decide +kernel
theorem dX11_isServed_21 : decode cX11_isServed 21 = .ok (.getfield 33, 3) := by decide +kernel
theorem dX11_isServed_24 : decode cX11_isServed 24 = .ok (.bipush 82, 2) := by decide +kernel
theorem dX11_isServed_26 : decode cX11_isServed 26 = .ok (.iconst 5, 1) := by decide +kernel
theorem dX11_isServed_27 : decode cX11_isServed 27 = .ok (.iload 4, 2) := by decide +kernel
theorem dX11_isServed_29 : decode cX11_isServed 29 = .ok (.imul, 1) := by decide +kernel
theorem dX11_isServed_30 : decode cX11_isServed 30 = .ok (.iadd, 1) := by decide +kernel
theorem dX11_isServed_31 : decode cX11_isServed 31 = .ok (.iload_n 1, 1) := by decide +kernel
theorem dX11_isServed_32 : decode cX11_isServed 32 = .ok (.iadd, 1) := by decide +kernel
theorem dX11_isServed_33 : decode cX11_isServed 33 = .ok (.iaload, 1) := by decide +kernel
theorem dX11_isServed_34 : decode cX11_isServed 34 = .ok (.ifCond .eq 14, 3) := by decide +kernel
theorem dX11_isServed_37 : decode cX11_isServed 37 = .ok (.aload_n 0, 1) := by decide +kernel
theorem dX11_isServed_38 : decode cX11_isServed 38 = .ok (.iload 4, 2) := by decide +kernel
theorem dX11_isServed_40 : decode cX11_isServed 40 = .ok (.invokevirtual 278, 3) := by decide +kernel
theorem dX11_isServed_43 : decode cX11_isServed 43 = .ok (.iload_n 2, 1) := by decide +kernel
theorem dX11_isServed_44 : decode cX11_isServed 44 = .ok (.iand, 1) := by decide +kernel
theorem dX11_isServed_45 : decode cX11_isServed 45 = .ok (.ifCond .eq 7, 3) := by decide +kernel
theorem dX11_isServed_48 : decode cX11_isServed 48 = .ok (.iconst 1, 1) := by decide +kernel
theorem dX11_isServed_49 : decode cX11_isServed 49 = .ok (.goto 4, 3) := by decide +kernel
theorem dX11_isServed_52 : decode cX11_isServed 52 = .ok (.iconst 0, 1) := by decide +kernel
theorem dX11_isServed_53 : decode cX11_isServed 53 = .ok (.istore_n 3, 1) := by decide +kernel
theorem dX11_isServed_54 : decode cX11_isServed 54 = .ok (.iinc 4 1, 3) := by decide +kernel
theorem dX11_isServed_57 : decode cX11_isServed 57 = .ok (.goto (-52), 3) := by decide +kernel
theorem dX11_isServed_60 : decode cX11_isServed 60 = .ok (.iload_n 3, 1) := by decide +kernel
theorem dX11_isServed_61 : decode cX11_isServed 61 = .ok (.ireturn, 1) := by decide +kernel
theorem dX11_chain_0 : decode cX11_chain 0 = .ok (.aload_n 0, 1) := by decide +kernel
theorem dX11_chain_1 : decode cX11_chain 1 = .ok (.iconst 0, 1) := by decide +kernel
theorem dX11_chain_2 : decode cX11_chain 2 = .ok (.putfield 1, 3) := by decide +kernel
theorem dX11_chain_5 : decode cX11_chain 5 = .ok (.aload_n 0, 1) := by decide +kernel
theorem dX11_chain_6 : decode cX11_chain 6 = .ok (.iload_n 1, 1) := by decide +kernel
theorem dX11_chain_7 : decode cX11_chain 7 = .ok (.invokevirtual 272, 3) := by decide +kernel
theorem dX11_chain_10 : decode cX11_chain 10 = .ok (.ifCond .eq 16, 3) := by decide +kernel
theorem dX11_chain_13 : decode cX11_chain 13 = .ok (.aload_n 0, 1) := by decide +kernel
theorem dX11_chain_14 : decode cX11_chain 14 = .ok (.iload_n 2, 1) := by decide +kernel
theorem dX11_chain_15 : decode cX11_chain 15 = .ok (.invokevirtual 272, 3) := by decide +kernel
theorem dX11_chain_18 : decode cX11_chain 18 = .ok (.ifCond .eq 8, 3) := by decide +kernel
theorem dX11_chain_21 : decode cX11_chain 21 = .ok (.iload_n 1, 1) := by decide +kernel
theorem dX11_chain_22 : decode cX11_chain 22 = .ok (.iload_n 2, 1) := by decide +kernel
theorem dX11_chain_23 : decode cX11_chain 23 = .ok (.if_icmp .ne 5, 3) := by decide +kernel
theorem dX11_chain_26 : decode cX11_chain 26 = .ok (.iconst (-1), 1) := by decide +kernel
theorem dX11_chain_27 : decode cX11_chain 27 = .ok (.ireturn, 1) := by decide +kernel
theorem dX11_chain_28 : decode cX11_chain 28 = .ok (.aload_n 0, 1) := by decide +kernel
theorem dX11_chain_29 : decode cX11_chain 29 = .ok (.iload_n 2, 1) := by decide +kernel
theorem dX11_chain_30 : decode cX11_chain 30 = .ok (.invokevirtual 367, 3) := by decide +kernel
theorem dX11_chain_33 : decode cX11_chain 33 = .ok (.aload_n 0, 1) := by decide +kernel
theorem dX11_chain_34 : decode cX11_chain 34 = .ok (.getfield 65, 3) := by decide +kernel
theorem dX11_chain_37 : decode cX11_chain 37 = .ok (.iload_n 1, 1) := by decide +kernel
theorem dX11_chain_38 : decode cX11_chain 38 = .ok (.iaload, 1) := by decide +kernel
theorem dX11_chain_39 : decode cX11_chain 39 = .ok (.ldc_w 335, 3) := by decide +kernel
theorem dX11_chain_42 : decode cX11_chain 42 = .ok (.if_icmp .lt 5, 3) := by decide +kernel
theorem dX11_chain_45 : decode cX11_chain 45 = .ok (.iconst (-1), 1) := by decide +kernel
theorem dX11_chain_46 : decode cX11_chain 46 = .ok (.ireturn, 1) := by decide +kernel
theorem dX11_chain_47 : decode cX11_chain 47 = .ok (.aload_n 0, 1) := by decide +kernel
theorem dX11_chain_48 : decode cX11_chain 48 = .ok (.aload_n 0, 1) := by decide +kernel
theorem dX11_chain_49 : decode cX11_chain 49 = .ok (.getfield 65, 3) := by decide +kernel
theorem dX11_chain_52 : decode cX11_chain 52 = .ok (.iload_n 1, 1) := by decide +kernel
theorem dX11_chain_53 : decode cX11_chain 53 = .ok (.iaload, 1) := by decide +kernel
theorem dX11_chain_54 : decode cX11_chain 54 = .ok (.iconst 1, 1) := by decide +kernel
theorem dX11_chain_55 : decode cX11_chain 55 = .ok (.isub, 1) := by decide +kernel
theorem dX11_chain_56 : decode cX11_chain 56 = .ok (.putfield 71, 3) := by decide +kernel
theorem dX11_chain_59 : decode cX11_chain 59 = .ok (.iload_n 1, 1) := by decide +kernel
theorem dX11_chain_60 : decode cX11_chain 60 = .ok (.istore_n 3, 1) := by decide +kernel
theorem dX11_chain_61 : decode cX11_chain 61 = .ok (.iconst 0, 1) := by decide +kernel
theorem dX11_chain_62 : decode cX11_chain 62 = .ok (.istore 4, 2) := by decide +kernel
theorem dX11_chain_64 : decode cX11_chain 64 = .ok (.iload 4, 2) := by decide +kernel
theorem dX11_chain_66 : decode cX11_chain 66 = .ok (.aload_n 0, 1) := by decide +kernel
theorem dX11_chain_67 : decode cX11_chain 67 = .ok (.getfield 71, 3) := by decide +kernel
theorem dX11_chain_70 : decode cX11_chain 70 = .ok (.if_icmp .ge 60, 3) := by decide +kernel
theorem dX11_chain_73 : decode cX11_chain 73 = .ok (.iconst 0, 1) := by decide +kernel
theorem dX11_chain_74 : decode cX11_chain 74 = .ok (.istore 5, 2) := by decide +kernel
theorem dX11_chain_76 : decode cX11_chain 76 = .ok (.aload_n 0, 1) := by decide +kernel
theorem dX11_chain_77 : decode cX11_chain 77 = .ok (.iload_n 3, 1) := by decide +kernel
theorem dX11_chain_78 : decode cX11_chain 78 = .ok (.invokevirtual 278, 3) := by decide +kernel
theorem dX11_chain_81 : decode cX11_chain 81 = .ok (.iload 5, 2) := by decide +kernel
theorem dX11_chain_83 : decode cX11_chain 83 = .ok (.invokestatic 214, 3) := by decide +kernel
theorem dX11_chain_86 : decode cX11_chain 86 = .ok (.ifCond .eq 20, 3) := by decide +kernel
theorem dX11_chain_89 : decode cX11_chain 89 = .ok (.aload_n 0, 1) := by decide +kernel
theorem dX11_chain_90 : decode cX11_chain 90 = .ok (.getfield 65, 3) := by decide +kernel
theorem dX11_chain_93 : decode cX11_chain 93 = .ok (.iload 5, 2) := by decide +kernel
theorem dX11_chain_95 : decode cX11_chain 95 = .ok (.iaload, 1) := by decide +kernel
theorem dX11_chain_96 : decode cX11_chain 96 = .ok (.aload_n 0, 1) := by decide +kernel
theorem dX11_chain_97 : decode cX11_chain 97 = .ok (.getfield 71, 3) := by decide +kernel
theorem dX11_chain_100 : decode cX11_chain 100 = .ok (.iload 4, 2) := by decide +kernel
theorem dX11_chain_102 : decode cX11_chain 102 = .ok (.isub, 1) := by decide +kernel
theorem dX11_chain_103 : decode cX11_chain 103 = .ok (.if_icmp .eq 9, 3) := by decide +kernel
theorem dX11_chain_106 : decode cX11_chain 106 = .ok (.iinc 5 1, 3) := by decide +kernel
theorem dX11_chain_109 : decode cX11_chain 109 = .ok (.goto (-33), 3) := by decide +kernel
theorem dX11_chain_112 : decode cX11_chain 112 = .ok (.aload_n 0, 1) := by decide +kernel
theorem dX11_chain_113 : decode cX11_chain 113 = .ok (.getfield 68, 3) := by decide +kernel
theorem dX11_chain_116 : decode cX11_chain 116 = .ok (.iload 4, 2) := by decide +kernel
theorem dX11_chain_118 : decode cX11_chain 118 = .ok (.iload 5, 2) := by decide +kernel
theorem dX11_chain_120 : decode cX11_chain 120 = .ok (.iastore, 1) := by decide +kernel
theorem dX11_chain_121 : decode cX11_chain 121 = .ok (.iload 5, 2) := by decide +kernel
theorem dX11_chain_123 : decode cX11_chain 123 = .ok (.istore_n 3, 1) := by decide +kernel
theorem dX11_chain_124 : decode cX11_chain 124 = .ok (.iinc 4 1, 3) := by decide +kernel
theorem dX11_chain_127 : decode cX11_chain 127 = .ok (.goto (-63), 3) := by decide +kernel
theorem dX11_chain_130 : decode cX11_chain 130 = .ok (.aload_n 0, 1) := by decide +kernel
theorem dX11_chain_131 : decode cX11_chain 131 = .ok (.getfield 71, 3) := by decide +kernel
theorem dX11_chain_134 : decode cX11_chain 134 = .ok (.ireturn, 1) := by decide +kernel
theorem dX11_areApart_0 : decode cX11_areApart 0 = .ok (.iconst 1, 1) := by decide +kernel
theorem dX11_areApart_1 : decode cX11_areApart 1 = .ok (.iload_n 1, 1) := by decide +kernel
theorem dX11_areApart_2 : decode cX11_areApart 2 = .ok (.ishl, 1) := by decide +kernel
theorem dX11_areApart_3 : decode cX11_areApart 3 = .ok (.istore 4, 2) := by decide +kernel
theorem dX11_areApart_5 : decode cX11_areApart 5 = .ok (.iconst 0, 1) := by decide +kernel
theorem dX11_areApart_6 : decode cX11_areApart 6 = .ok (.istore 5, 2) := by decide +kernel
theorem dX11_areApart_8 : decode cX11_areApart 8 = .ok (.iload 5, 2) := by decide +kernel
theorem dX11_areApart_10 : decode cX11_areApart 10 = .ok (.bipush 7, 2) := by decide +kernel
theorem dX11_areApart_12 : decode cX11_areApart 12 = .ok (.if_icmp .ge 18, 3) := by decide +kernel
theorem dX11_areApart_15 : decode cX11_areApart 15 = .ok (.aload_n 0, 1) := by decide +kernel
theorem dX11_areApart_16 : decode cX11_areApart 16 = .ok (.iload 4, 2) := by decide +kernel
theorem dX11_areApart_18 : decode cX11_areApart 18 = .ok (.iload_n 3, 1) := by decide +kernel
theorem dX11_areApart_19 : decode cX11_areApart 19 = .ok (.invokevirtual 370, 3) := by decide +kernel
theorem dX11_areApart_22 : decode cX11_areApart 22 = .ok (.istore 4, 2) := by decide +kernel
theorem dX11_areApart_24 : decode cX11_areApart 24 = .ok (.iinc 5 1, 3) := by decide +kernel
theorem dX11_areApart_27 : decode cX11_areApart 27 = .ok (.goto (-19), 3) := by decide +kernel
theorem dX11_areApart_30 : decode cX11_areApart 30 = .ok (.iload 4, 2) := by decide +kernel
theorem dX11_areApart_32 : decode cX11_areApart 32 = .ok (.iload_n 2, 1) := by decide +kernel
theorem dX11_areApart_33 : decode cX11_areApart 33 = .ok (.invokestatic 214, 3) := by decide +kernel
theorem dX11_areApart_36 : decode cX11_areApart 36 = .ok (.ifCond .ne 7, 3) := by decide +kernel
theorem dX11_areApart_39 : decode cX11_areApart 39 = .ok (.iconst 1, 1) := by decide +kernel
theorem dX11_areApart_40 : decode cX11_areApart 40 = .ok (.goto 4, 3) := by decide +kernel
theorem dX11_areApart_43 : decode cX11_areApart 43 = .ok (.iconst 0, 1) := by decide +kernel
theorem dX11_areApart_44 : decode cX11_areApart 44 = .ok (.ireturn, 1) := by decide +kernel
theorem dX11_lays_0 : decode cX11_lays 0 = .ok (.aload_n 0, 1) := by decide +kernel
theorem dX11_lays_1 : decode cX11_lays 1 = .ok (.getfield 74, 3) := by decide +kernel
theorem dX11_lays_4 : decode cX11_lays 4 = .ok (.aload_n 0, 1) := by decide +kernel
theorem dX11_lays_5 : decode cX11_lays 5 = .ok (.getfield 382, 3) := by decide +kernel
theorem dX11_lays_8 : decode cX11_lays 8 = .ok (.iload_n 1, 1) := by decide +kernel
theorem dX11_lays_9 : decode cX11_lays 9 = .ok (.i2b, 1) := by decide +kernel
theorem dX11_lays_10 : decode cX11_lays 10 = .ok (.bastore, 1) := by decide +kernel
theorem dX11_lays_11 : decode cX11_lays 11 = .ok (.aload_n 0, 1) := by decide +kernel
theorem dX11_lays_12 : decode cX11_lays 12 = .ok (.dup, 1) := by decide +kernel
theorem dX11_lays_13 : decode cX11_lays 13 = .ok (.getfield 382, 3) := by decide +kernel
theorem dX11_lays_16 : decode cX11_lays 16 = .ok (.iconst 1, 1) := by decide +kernel
theorem dX11_lays_17 : decode cX11_lays 17 = .ok (.iadd, 1) := by decide +kernel
theorem dX11_lays_18 : decode cX11_lays 18 = .ok (.putfield 382, 3) := by decide +kernel
theorem dX11_lays_21 : decode cX11_lays 21 = .ok (.return_, 1) := by decide +kernel
theorem dX11_byteAt_0 : decode cX11_byteAt 0 = .ok (.aload_n 0, 1) := by decide +kernel
theorem dX11_byteAt_1 : decode cX11_byteAt 1 = .ok (.iconst 0, 1) := by decide +kernel
theorem dX11_byteAt_2 : decode cX11_byteAt 2 = .ok (.putfield 1, 3) := by decide +kernel
theorem dX11_byteAt_5 : decode cX11_byteAt 5 = .ok (.iload_n 1, 1) := by decide +kernel
theorem dX11_byteAt_6 : decode cX11_byteAt 6 = .ok (.iconst 0, 1) := by decide +kernel
theorem dX11_byteAt_7 : decode cX11_byteAt 7 = .ok (.aload_n 0, 1) := by decide +kernel
theorem dX11_byteAt_8 : decode cX11_byteAt 8 = .ok (.getfield 382, 3) := by decide +kernel
theorem dX11_byteAt_11 : decode cX11_byteAt 11 = .ok (.iconst 1, 1) := by decide +kernel
theorem dX11_byteAt_12 : decode cX11_byteAt 12 = .ok (.isub, 1) := by decide +kernel
theorem dX11_byteAt_13 : decode cX11_byteAt 13 = .ok (.invokestatic 189, 3) := by decide +kernel
theorem dX11_byteAt_16 : decode cX11_byteAt 16 = .ok (.ifCond .eq 12, 3) := by decide +kernel
theorem dX11_byteAt_19 : decode cX11_byteAt 19 = .ok (.aload_n 0, 1) := by decide +kernel
theorem dX11_byteAt_20 : decode cX11_byteAt 20 = .ok (.getfield 74, 3) := by decide +kernel
theorem dX11_byteAt_23 : decode cX11_byteAt 23 = .ok (.iload_n 1, 1) := by decide +kernel
theorem dX11_byteAt_24 : decode cX11_byteAt 24 = .ok (.baload, 1) := by decide +kernel
theorem dX11_byteAt_25 : decode cX11_byteAt 25 = .ok (.goto 4, 3) := by decide +kernel
theorem dX11_byteAt_28 : decode cX11_byteAt 28 = .ok (.iconst (-1), 1) := by decide +kernel
theorem dX11_byteAt_29 : decode cX11_byteAt 29 = .ok (.ireturn, 1) := by decide +kernel
theorem dX11_drawn_0 : decode cX11_drawn 0 = .ok (.aload_n 0, 1) := by decide +kernel
theorem dX11_drawn_1 : decode cX11_drawn 1 = .ok (.iconst 0, 1) := by decide +kernel
theorem dX11_drawn_2 : decode cX11_drawn 2 = .ok (.putfield 1, 3) := by decide +kernel
theorem dX11_drawn_5 : decode cX11_drawn 5 = .ok (.iload_n 1, 1) := by decide +kernel
theorem dX11_drawn_6 : decode cX11_drawn 6 = .ok (.iconst 1, 1) := by decide +kernel
theorem dX11_drawn_7 : decode cX11_drawn 7 = .ok (.bipush 60, 2) := by decide +kernel
theorem dX11_drawn_9 : decode cX11_drawn 9 = .ok (.invokestatic 189, 3) := by decide +kernel
theorem dX11_drawn_12 : decode cX11_drawn 12 = .ok (.ifCond .ne 5, 3) := by decide +kernel
theorem dX11_drawn_15 : decode cX11_drawn 15 = .ok (.iconst (-1), 1) := by decide +kernel
theorem dX11_drawn_16 : decode cX11_drawn 16 = .ok (.ireturn, 1) := by decide +kernel
theorem dX11_drawn_17 : decode cX11_drawn 17 = .ok (.aload_n 0, 1) := by decide +kernel
theorem dX11_drawn_18 : decode cX11_drawn 18 = .ok (.getfield 33, 3) := by decide +kernel
theorem dX11_drawn_21 : decode cX11_drawn 21 = .ok (.sipush 131, 3) := by decide +kernel
theorem dX11_drawn_24 : decode cX11_drawn 24 = .ok (.iaload, 1) := by decide +kernel
theorem dX11_drawn_25 : decode cX11_drawn 25 = .ok (.sipush 400, 3) := by decide +kernel
theorem dX11_drawn_28 : decode cX11_drawn 28 = .ok (.if_icmp .ge 7, 3) := by decide +kernel
theorem dX11_drawn_31 : decode cX11_drawn 31 = .ok (.aload_n 0, 1) := by decide +kernel
theorem dX11_drawn_32 : decode cX11_drawn 32 = .ok (.invokevirtual 310, 3) := by decide +kernel
theorem dX11_drawn_35 : decode cX11_drawn 35 = .ok (.aload_n 0, 1) := by decide +kernel
theorem dX11_drawn_36 : decode cX11_drawn 36 = .ok (.iload_n 1, 1) := by decide +kernel
theorem dX11_drawn_37 : decode cX11_drawn 37 = .ok (.iload_n 2, 1) := by decide +kernel
theorem dX11_drawn_38 : decode cX11_drawn 38 = .ok (.invokevirtual 409, 3) := by decide +kernel
theorem dX11_drawn_41 : decode cX11_drawn 41 = .ok (.ireturn, 1) := by decide +kernel
theorem dX11_book_0 : decode cX11_book 0 = .ok (.aload_n 0, 1) := by decide +kernel
theorem dX11_book_1 : decode cX11_book 1 = .ok (.iconst 0, 1) := by decide +kernel
theorem dX11_book_2 : decode cX11_book 2 = .ok (.putfield 1, 3) := by decide +kernel
theorem dX11_book_5 : decode cX11_book 5 = .ok (.iload_n 1, 1) := by decide +kernel
theorem dX11_book_6 : decode cX11_book 6 = .ok (.iconst 0, 1) := by decide +kernel
theorem dX11_book_7 : decode cX11_book 7 = .ok (.iconst 1, 1) := by decide +kernel
theorem dX11_book_8 : decode cX11_book 8 = .ok (.invokestatic 189, 3) := by decide +kernel
theorem dX11_book_11 : decode cX11_book 11 = .ok (.ifCond .ne 7, 3) := by decide +kernel
theorem dX11_book_14 : decode cX11_book 14 = .ok (.sipush (-1000), 3) := by decide +kernel
theorem dX11_book_17 : decode cX11_book 17 = .ok (.ireturn, 1) := by decide +kernel
theorem dX11_book_18 : decode cX11_book 18 = .ok (.aload_n 0, 1) := by decide +kernel
theorem dX11_book_19 : decode cX11_book 19 = .ok (.sipush 400, 3) := by decide +kernel
theorem dX11_book_22 : decode cX11_book 22 = .ok (.invokevirtual 247, 3) := by decide +kernel
theorem dX11_book_25 : decode cX11_book 25 = .ok (.aload_n 0, 1) := by decide +kernel
theorem dX11_book_26 : decode cX11_book 26 = .ok (.iconst 0, 1) := by decide +kernel
theorem dX11_book_27 : decode cX11_book 27 = .ok (.putfield 174, 3) := by decide +kernel
theorem dX11_book_30 : decode cX11_book 30 = .ok (.aload_n 0, 1) := by decide +kernel
theorem dX11_book_31 : decode cX11_book 31 = .ok (.iconst 0, 1) := by decide +kernel
theorem dX11_book_32 : decode cX11_book 32 = .ok (.putfield 418, 3) := by decide +kernel
theorem dX11_book_35 : decode cX11_book 35 = .ok (.aload_n 0, 1) := by decide +kernel
theorem dX11_book_36 : decode cX11_book 36 = .ok (.invokevirtual 186, 3) := by decide +kernel
theorem dX11_book_39 : decode cX11_book 39 = .ok (.aload_n 0, 1) := by decide +kernel
theorem dX11_book_40 : decode cX11_book 40 = .ok (.getfield 157, 3) := by decide +kernel
theorem dX11_book_43 : decode cX11_book 43 = .ok (.ifCond .eq 40, 3) := by decide +kernel
theorem dX11_book_46 : decode cX11_book 46 = .ok (.aload_n 0, 1) := by decide +kernel
theorem dX11_book_47 : decode cX11_book 47 = .ok (.invokevirtual 421, 3) := by decide +kernel
theorem dX11_book_50 : decode cX11_book 50 = .ok (.ifCond .eq 12, 3) := by decide +kernel
theorem dX11_book_53 : decode cX11_book 53 = .ok (.aload_n 0, 1) := by decide +kernel
theorem dX11_book_54 : decode cX11_book 54 = .ok (.bipush 59, 2) := by decide +kernel
theorem dX11_book_56 : decode cX11_book 56 = .ok (.invokevirtual 256, 3) := by decide +kernel
theorem dX11_book_59 : decode cX11_book 59 = .ok (.ifCond .ne 11, 3) := by decide +kernel
theorem dX11_book_62 : decode cX11_book 62 = .ok (.bipush (-2), 2) := by decide +kernel
theorem dX11_book_64 : decode cX11_book 64 = .ok (.aload_n 0, 1) := by decide +kernel
theorem dX11_book_65 : decode cX11_book 65 = .ok (.getfield 177, 3) := by decide +kernel
theorem dX11_book_68 : decode cX11_book 68 = .ok (.isub, 1) := by decide +kernel
theorem dX11_book_69 : decode cX11_book 69 = .ok (.ireturn, 1) := by decide +kernel
theorem dX11_book_70 : decode cX11_book 70 = .ok (.aload_n 0, 1) := by decide +kernel
theorem dX11_book_71 : decode cX11_book 71 = .ok (.dup, 1) := by decide +kernel
theorem dX11_book_72 : decode cX11_book 72 = .ok (.getfield 418, 3) := by decide +kernel
theorem dX11_book_75 : decode cX11_book 75 = .ok (.iconst 1, 1) := by decide +kernel
theorem dX11_book_76 : decode cX11_book 76 = .ok (.iadd, 1) := by decide +kernel
theorem dX11_book_77 : decode cX11_book 77 = .ok (.putfield 418, 3) := by decide +kernel
theorem dX11_book_80 : decode cX11_book 80 = .ok (.goto (-41), 3) := by decide +kernel
theorem dX11_book_83 : decode cX11_book 83 = .ok (.aload_n 0, 1) := by decide +kernel
theorem dX11_book_84 : decode cX11_book 84 = .ok (.invokevirtual 412, 3) := by decide +kernel
theorem dX11_book_87 : decode cX11_book 87 = .ok (.iconst 0, 1) := by decide +kernel
theorem dX11_book_88 : decode cX11_book 88 = .ok (.istore_n 2, 1) := by decide +kernel
theorem dX11_book_89 : decode cX11_book 89 = .ok (.iload_n 2, 1) := by decide +kernel
theorem dX11_book_90 : decode cX11_book 90 = .ok (.iconst 4, 1) := by decide +kernel
theorem dX11_book_91 : decode cX11_book 91 = .ok (.if_icmp .ge 16, 3) := by decide +kernel
theorem dX11_book_94 : decode cX11_book 94 = .ok (.aload_n 0, 1) := by decide +kernel
theorem dX11_book_95 : decode cX11_book 95 = .ok (.getfield 77, 3) := by decide +kernel
theorem dX11_book_98 : decode cX11_book 98 = .ok (.iload_n 2, 1) := by decide +kernel
theorem dX11_book_99 : decode cX11_book 99 = .ok (.iconst 0, 1) := by decide +kernel
theorem dX11_book_100 : decode cX11_book 100 = .ok (.iastore, 1) := by decide +kernel
theorem dX11_book_101 : decode cX11_book 101 = .ok (.iinc 2 1, 3) := by decide +kernel
theorem dX11_book_104 : decode cX11_book 104 = .ok (.goto (-15), 3) := by decide +kernel
theorem dX11_book_107 : decode cX11_book 107 = .ok (.iconst (-1), 1) := by decide +kernel
theorem dX11_book_108 : decode cX11_book 108 = .ok (.istore_n 2, 1) := by decide +kernel
theorem dX11_book_109 : decode cX11_book 109 = .ok (.iconst 0, 1) := by decide +kernel
theorem dX11_book_110 : decode cX11_book 110 = .ok (.istore_n 3, 1) := by decide +kernel
theorem dX11_book_111 : decode cX11_book 111 = .ok (.iload_n 3, 1) := by decide +kernel
theorem dX11_book_112 : decode cX11_book 112 = .ok (.aload_n 0, 1) := by decide +kernel
theorem dX11_book_113 : decode cX11_book 113 = .ok (.getfield 418, 3) := by decide +kernel
theorem dX11_book_116 : decode cX11_book 116 = .ok (.if_icmp .ge 85, 3) := by decide +kernel
theorem dX11_book_119 : decode cX11_book 119 = .ok (.iload_n 2, 1) := by decide +kernel
theorem dX11_book_120 : decode cX11_book 120 = .ok (.ifCond .ge 81, 3) := by decide +kernel
theorem dX11_book_123 : decode cX11_book 123 = .ok (.aload_n 0, 1) := by decide +kernel
theorem dX11_book_124 : decode cX11_book 124 = .ok (.getfield 77, 3) := by decide +kernel
theorem dX11_book_127 : decode cX11_book 127 = .ok (.iconst 0, 1) := by decide +kernel
theorem dX11_book_128 : decode cX11_book 128 = .ok (.aload_n 0, 1) := by decide +kernel
theorem dX11_book_129 : decode cX11_book 129 = .ok (.aload_n 0, 1) := by decide +kernel
theorem dX11_book_130 : decode cX11_book 130 = .ok (.getfield 40, 3) := by decide +kernel
theorem dX11_book_133 : decode cX11_book 133 = .ok (.iconst 4, 1) := by decide +kernel
theorem dX11_book_134 : decode cX11_book 134 = .ok (.iload_n 3, 1) := by decide +kernel
theorem dX11_book_135 : decode cX11_book 135 = .ok (.imul, 1) := by decide +kernel
theorem dX11_book_136 : decode cX11_book 136 = .ok (.iaload, 1) := by decide +kernel
theorem dX11_book_137 : decode cX11_book 137 = .ok (.aload_n 0, 1) := by decide +kernel
theorem dX11_book_138 : decode cX11_book 138 = .ok (.getfield 40, 3) := by decide +kernel
theorem dX11_book_141 : decode cX11_book 141 = .ok (.iconst 4, 1) := by decide +kernel
theorem dX11_book_142 : decode cX11_book 142 = .ok (.iload_n 3, 1) := by decide +kernel
theorem dX11_book_143 : decode cX11_book 143 = .ok (.imul, 1) := by decide +kernel
theorem dX11_book_144 : decode cX11_book 144 = .ok (.iconst 1, 1) := by decide +kernel
theorem dX11_book_145 : decode cX11_book 145 = .ok (.iadd, 1) := by decide +kernel
theorem dX11_book_146 : decode cX11_book 146 = .ok (.iaload, 1) := by decide +kernel
theorem dX11_book_147 : decode cX11_book 147 = .ok (.aload_n 0, 1) := by decide +kernel
theorem dX11_book_148 : decode cX11_book 148 = .ok (.getfield 40, 3) := by decide +kernel
theorem dX11_book_151 : decode cX11_book 151 = .ok (.iconst 4, 1) := by decide +kernel
theorem dX11_book_152 : decode cX11_book 152 = .ok (.iload_n 3, 1) := by decide +kernel
theorem dX11_book_153 : decode cX11_book 153 = .ok (.imul, 1) := by decide +kernel
theorem dX11_book_154 : decode cX11_book 154 = .ok (.iconst 2, 1) := by decide +kernel
theorem dX11_book_155 : decode cX11_book 155 = .ok (.iadd, 1) := by decide +kernel
theorem dX11_book_156 : decode cX11_book 156 = .ok (.iaload, 1) := by decide +kernel
theorem dX11_book_157 : decode cX11_book 157 = .ok (.aload_n 0, 1) := by decide +kernel
theorem dX11_book_158 : decode cX11_book 158 = .ok (.getfield 40, 3) := by decide +kernel
theorem dX11_book_161 : decode cX11_book 161 = .ok (.iconst 4, 1) := by decide +kernel
theorem dX11_book_162 : decode cX11_book 162 = .ok (.iload_n 3, 1) := by decide +kernel
theorem dX11_book_163 : decode cX11_book 163 = .ok (.imul, 1) := by decide +kernel
theorem dX11_book_164 : decode cX11_book 164 = .ok (.iconst 3, 1) := by decide +kernel
theorem dX11_book_165 : decode cX11_book 165 = .ok (.iadd, 1) := by decide +kernel
theorem dX11_book_166 : decode cX11_book 166 = .ok (.iaload, 1) := by decide +kernel
theorem dX11_book_167 : decode cX11_book 167 = .ok (.invokevirtual 424, 3) := by decide +kernel
theorem dX11_book_170 : decode cX11_book 170 = .ok (.iastore, 1) := by decide +kernel
theorem dX11_book_171 : decode cX11_book 171 = .ok (.aload_n 0, 1) := by decide +kernel
theorem dX11_book_172 : decode cX11_book 172 = .ok (.getfield 77, 3) := by decide +kernel
theorem dX11_book_175 : decode cX11_book 175 = .ok (.iconst 0, 1) := by decide +kernel
theorem dX11_book_176 : decode cX11_book 176 = .ok (.iaload, 1) := by decide +kernel
theorem dX11_book_177 : decode cX11_book 177 = .ok (.ifCond .le 8, 3) := by decide +kernel
theorem dX11_book_180 : decode cX11_book 180 = .ok (.iload_n 3, 1) := by decide +kernel
theorem dX11_book_181 : decode cX11_book 181 = .ok (.istore_n 2, 1) := by decide +kernel
theorem dX11_book_182 : decode cX11_book 182 = .ok (.goto 13, 3) := by decide +kernel
theorem dX11_book_185 : decode cX11_book 185 = .ok (.aload_n 0, 1) := by decide +kernel
theorem dX11_book_186 : decode cX11_book 186 = .ok (.getfield 77, 3) := by decide +kernel
theorem dX11_book_189 : decode cX11_book 189 = .ok (.iconst 1, 1) := by decide +kernel
theorem dX11_book_190 : decode cX11_book 190 = .ok (.dup2, 1) := by decide +kernel
theorem dX11_book_191 : decode cX11_book 191 = .ok (.iaload, 1) := by decide +kernel
theorem dX11_book_192 : decode cX11_book 192 = .ok (.iconst 1, 1) := by decide +kernel
theorem dX11_book_193 : decode cX11_book 193 = .ok (.iadd, 1) := by decide +kernel
theorem dX11_book_194 : decode cX11_book 194 = .ok (.iastore, 1) := by decide +kernel
theorem dX11_book_195 : decode cX11_book 195 = .ok (.iinc 3 1, 3) := by decide +kernel
theorem dX11_book_198 : decode cX11_book 198 = .ok (.goto (-87), 3) := by decide +kernel
theorem dX11_book_201 : decode cX11_book 201 = .ok (.aload_n 0, 1) := by decide +kernel
theorem dX11_book_202 : decode cX11_book 202 = .ok (.getfield 77, 3) := by decide +kernel
theorem dX11_book_205 : decode cX11_book 205 = .ok (.iconst 2, 1) := by decide +kernel
theorem dX11_book_206 : decode cX11_book 206 = .ok (.aload_n 0, 1) := by decide +kernel
theorem dX11_book_207 : decode cX11_book 207 = .ok (.getfield 33, 3) := by decide +kernel
theorem dX11_book_210 : decode cX11_book 210 = .ok (.sipush 131, 3) := by decide +kernel
theorem dX11_book_213 : decode cX11_book 213 = .ok (.iaload, 1) := by decide +kernel
theorem dX11_book_214 : decode cX11_book 214 = .ok (.iastore, 1) := by decide +kernel
theorem dX11_book_215 : decode cX11_book 215 = .ok (.aload_n 0, 1) := by decide +kernel
theorem dX11_book_216 : decode cX11_book 216 = .ok (.getfield 77, 3) := by decide +kernel
theorem dX11_book_219 : decode cX11_book 219 = .ok (.iconst 3, 1) := by decide +kernel
theorem dX11_book_220 : decode cX11_book 220 = .ok (.aload_n 0, 1) := by decide +kernel
theorem dX11_book_221 : decode cX11_book 221 = .ok (.invokevirtual 287, 3) := by decide +kernel
theorem dX11_book_224 : decode cX11_book 224 = .ok (.iastore, 1) := by decide +kernel
theorem dX11_book_225 : decode cX11_book 225 = .ok (.aload_n 0, 1) := by decide +kernel
theorem dX11_book_226 : decode cX11_book 226 = .ok (.iconst 1, 1) := by decide +kernel
theorem dX11_book_227 : decode cX11_book 227 = .ok (.putfield 428, 3) := by decide +kernel
theorem dX11_book_230 : decode cX11_book 230 = .ok (.iload_n 1, 1) := by decide +kernel
theorem dX11_book_231 : decode cX11_book 231 = .ok (.iconst 1, 1) := by decide +kernel
theorem dX11_book_232 : decode cX11_book 232 = .ok (.if_icmp .ne 54, 3) := by decide +kernel
theorem dX11_book_235 : decode cX11_book 235 = .ok (.aload_n 0, 1) := by decide +kernel
theorem dX11_book_236 : decode cX11_book 236 = .ok (.getfield 77, 3) := by decide +kernel
theorem dX11_book_239 : decode cX11_book 239 = .ok (.iconst 1, 1) := by decide +kernel
theorem dX11_book_240 : decode cX11_book 240 = .ok (.iaload, 1) := by decide +kernel
theorem dX11_book_241 : decode cX11_book 241 = .ok (.ifCond .le 45, 3) := by decide +kernel
theorem dX11_book_244 : decode cX11_book 244 = .ok (.aload_n 0, 1) := by decide +kernel
theorem dX11_book_245 : decode cX11_book 245 = .ok (.invokevirtual 310, 3) := by decide +kernel
theorem dX11_book_248 : decode cX11_book 248 = .ok (.iconst 0, 1) := by decide +kernel
theorem dX11_book_249 : decode cX11_book 249 = .ok (.istore_n 3, 1) := by decide +kernel
theorem dX11_book_250 : decode cX11_book 250 = .ok (.iload_n 3, 1) := by decide +kernel
theorem dX11_book_251 : decode cX11_book 251 = .ok (.sipush 145, 3) := by decide +kernel
theorem dX11_book_254 : decode cX11_book 254 = .ok (.if_icmp .ge 32, 3) := by decide +kernel
theorem dX11_book_257 : decode cX11_book 257 = .ok (.aload_n 0, 1) := by decide +kernel
theorem dX11_book_258 : decode cX11_book 258 = .ok (.getfield 50, 3) := by decide +kernel
theorem dX11_book_261 : decode cX11_book 261 = .ok (.sipush 145, 3) := by decide +kernel
theorem dX11_book_264 : decode cX11_book 264 = .ok (.aload_n 0, 1) := by decide +kernel
theorem dX11_book_265 : decode cX11_book 265 = .ok (.getfield 262, 3) := by decide +kernel
theorem dX11_book_268 : decode cX11_book 268 = .ok (.iconst 1, 1) := by decide +kernel
theorem dX11_book_269 : decode cX11_book 269 = .ok (.isub, 1) := by decide +kernel
theorem dX11_book_270 : decode cX11_book 270 = .ok (.imul, 1) := by decide +kernel
theorem dX11_book_271 : decode cX11_book 271 = .ok (.iload_n 3, 1) := by decide +kernel
theorem dX11_book_272 : decode cX11_book 272 = .ok (.iadd, 1) := by decide +kernel
theorem dX11_book_273 : decode cX11_book 273 = .ok (.aload_n 0, 1) := by decide +kernel
theorem dX11_book_274 : decode cX11_book 274 = .ok (.getfield 53, 3) := by decide +kernel
theorem dX11_book_277 : decode cX11_book 277 = .ok (.iload_n 3, 1) := by decide +kernel
theorem dX11_book_278 : decode cX11_book 278 = .ok (.iaload, 1) := by decide +kernel
theorem dX11_book_279 : decode cX11_book 279 = .ok (.iastore, 1) := by decide +kernel
theorem dX11_book_280 : decode cX11_book 280 = .ok (.iinc 3 1, 3) := by decide +kernel
theorem dX11_book_283 : decode cX11_book 283 = .ok (.goto (-33), 3) := by decide +kernel
theorem dX11_book_286 : decode cX11_book 286 = .ok (.iload_n 1, 1) := by decide +kernel
theorem dX11_book_287 : decode cX11_book 287 = .ok (.ifCond .ne 7, 3) := by decide +kernel
theorem dX11_book_290 : decode cX11_book 290 = .ok (.aload_n 0, 1) := by decide +kernel
theorem dX11_book_291 : decode cX11_book 291 = .ok (.invokevirtual 415, 3) := by decide +kernel
theorem dX11_book_294 : decode cX11_book 294 = .ok (.iload_n 2, 1) := by decide +kernel
theorem dX11_book_295 : decode cX11_book 295 = .ok (.ireturn, 1) := by decide +kernel
theorem dX11_nots_0 : decode cX11_nots 0 = .ok (.aload_n 0, 1) := by decide +kernel
theorem dX11_nots_1 : decode cX11_nots 1 = .ok (.getfield 434, 3) := by decide +kernel
theorem dX11_nots_4 : decode cX11_nots 4 = .ok (.ifCond .le 50, 3) := by decide +kernel
theorem dX11_nots_7 : decode cX11_nots 7 = .ok (.aload_n 0, 1) := by decide +kernel
theorem dX11_nots_8 : decode cX11_nots 8 = .ok (.getfield 80, 3) := by decide +kernel
theorem dX11_nots_11 : decode cX11_nots 11 = .ok (.aload_n 0, 1) := by decide +kernel
theorem dX11_nots_12 : decode cX11_nots 12 = .ok (.getfield 434, 3) := by decide +kernel
theorem dX11_nots_15 : decode cX11_nots 15 = .ok (.iconst 1, 1) := by decide +kernel
theorem dX11_nots_16 : decode cX11_nots 16 = .ok (.isub, 1) := by decide +kernel
theorem dX11_nots_17 : decode cX11_nots 17 = .ok (.iaload, 1) := by decide +kernel
theorem dX11_nots_18 : decode cX11_nots 18 = .ok (.bipush 20, 2) := by decide +kernel
theorem dX11_nots_20 : decode cX11_nots 20 = .ok (.if_icmp .ne 34, 3) := by decide +kernel
theorem dX11_nots_23 : decode cX11_nots 23 = .ok (.aload_n 0, 1) := by decide +kernel
theorem dX11_nots_24 : decode cX11_nots 24 = .ok (.dup, 1) := by decide +kernel
theorem dX11_nots_25 : decode cX11_nots 25 = .ok (.getfield 434, 3) := by decide +kernel
theorem dX11_nots_28 : decode cX11_nots 28 = .ok (.iconst 1, 1) := by decide +kernel
theorem dX11_nots_29 : decode cX11_nots 29 = .ok (.isub, 1) := by decide +kernel
theorem dX11_nots_30 : decode cX11_nots 30 = .ok (.putfield 434, 3) := by decide +kernel
theorem dX11_nots_33 : decode cX11_nots 33 = .ok (.aload_n 0, 1) := by decide +kernel
theorem dX11_nots_34 : decode cX11_nots 34 = .ok (.dup, 1) := by decide +kernel
theorem dX11_nots_35 : decode cX11_nots 35 = .ok (.getfield 440, 3) := by decide +kernel
theorem dX11_nots_38 : decode cX11_nots 38 = .ok (.iconst 1, 1) := by decide +kernel
theorem dX11_nots_39 : decode cX11_nots 39 = .ok (.isub, 1) := by decide +kernel
theorem dX11_nots_40 : decode cX11_nots 40 = .ok (.putfield 440, 3) := by decide +kernel
theorem dX11_nots_43 : decode cX11_nots 43 = .ok (.aload_n 0, 1) := by decide +kernel
theorem dX11_nots_44 : decode cX11_nots 44 = .ok (.bipush 20, 2) := by decide +kernel
theorem dX11_nots_46 : decode cX11_nots 46 = .ok (.iconst 0, 1) := by decide +kernel
theorem dX11_nots_47 : decode cX11_nots 47 = .ok (.iconst 0, 1) := by decide +kernel
theorem dX11_nots_48 : decode cX11_nots 48 = .ok (.invokevirtual 437, 3) := by decide +kernel
theorem dX11_nots_51 : decode cX11_nots 51 = .ok (.goto (-51), 3) := by decide +kernel
theorem dX11_nots_54 : decode cX11_nots 54 = .ok (.return_, 1) := by decide +kernel
theorem dX11_sentence_0 : decode cX11_sentence 0 = .ok (.aload_n 0, 1) := by decide +kernel
theorem dX11_sentence_1 : decode cX11_sentence 1 = .ok (.iconst 0, 1) := by decide +kernel
theorem dX11_sentence_2 : decode cX11_sentence 2 = .ok (.putfield 1, 3) := by decide +kernel
theorem dX11_sentence_5 : decode cX11_sentence 5 = .ok (.aload_n 0, 1) := by decide +kernel
theorem dX11_sentence_6 : decode cX11_sentence 6 = .ok (.sipush 200, 3) := by decide +kernel
theorem dX11_sentence_9 : decode cX11_sentence 9 = .ok (.invokevirtual 247, 3) := by decide +kernel
theorem dX11_sentence_12 : decode cX11_sentence 12 = .ok (.aload_n 0, 1) := by decide +kernel
theorem dX11_sentence_13 : decode cX11_sentence 13 = .ok (.iconst 0, 1) := by decide +kernel
theorem dX11_sentence_14 : decode cX11_sentence 14 = .ok (.putfield 174, 3) := by decide +kernel
theorem dX11_sentence_17 : decode cX11_sentence 17 = .ok (.aload_n 0, 1) := by decide +kernel
theorem dX11_sentence_18 : decode cX11_sentence 18 = .ok (.iconst 0, 1) := by decide +kernel
theorem dX11_sentence_19 : decode cX11_sentence 19 = .ok (.putfield 431, 3) := by decide +kernel
theorem dX11_sentence_22 : decode cX11_sentence 22 = .ok (.aload_n 0, 1) := by decide +kernel
theorem dX11_sentence_23 : decode cX11_sentence 23 = .ok (.iconst 0, 1) := by decide +kernel
theorem dX11_sentence_24 : decode cX11_sentence 24 = .ok (.putfield 446, 3) := by decide +kernel
theorem dX11_sentence_27 : decode cX11_sentence 27 = .ok (.aload_n 0, 1) := by decide +kernel
theorem dX11_sentence_28 : decode cX11_sentence 28 = .ok (.iconst 0, 1) := by decide +kernel
theorem dX11_sentence_29 : decode cX11_sentence 29 = .ok (.putfield 434, 3) := by decide +kernel
theorem dX11_sentence_32 : decode cX11_sentence 32 = .ok (.aload_n 0, 1) := by decide +kernel
theorem dX11_sentence_33 : decode cX11_sentence 33 = .ok (.iconst 1, 1) := by decide +kernel
theorem dX11_sentence_34 : decode cX11_sentence 34 = .ok (.putfield 440, 3) := by decide +kernel
theorem dX11_sentence_37 : decode cX11_sentence 37 = .ok (.aload_n 0, 1) := by decide +kernel
theorem dX11_sentence_38 : decode cX11_sentence 38 = .ok (.iconst 0, 1) := by decide +kernel
theorem dX11_sentence_39 : decode cX11_sentence 39 = .ok (.putfield 449, 3) := by decide +kernel
theorem dX11_sentence_42 : decode cX11_sentence 42 = .ok (.aload_n 0, 1) := by decide +kernel
theorem dX11_sentence_43 : decode cX11_sentence 43 = .ok (.invokevirtual 186, 3) := by decide +kernel
theorem dX11_sentence_46 : decode cX11_sentence 46 = .ok (.iconst 1, 1) := by decide +kernel
theorem dX11_sentence_47 : decode cX11_sentence 47 = .ok (.istore_n 1, 1) := by decide +kernel
theorem dX11_sentence_48 : decode cX11_sentence 48 = .ok (.iload_n 1, 1) := by decide +kernel
theorem dX11_sentence_49 : decode cX11_sentence 49 = .ok (.ifCond .eq 83, 3) := by decide +kernel
theorem dX11_sentence_52 : decode cX11_sentence 52 = .ok (.aload_n 0, 1) := by decide +kernel
theorem dX11_sentence_53 : decode cX11_sentence 53 = .ok (.getfield 449, 3) := by decide +kernel
theorem dX11_sentence_56 : decode cX11_sentence 56 = .ok (.ifCond .eq 45, 3) := by decide +kernel
theorem dX11_sentence_59 : decode cX11_sentence 59 = .ok (.aload_n 0, 1) := by decide +kernel
theorem dX11_sentence_60 : decode cX11_sentence 60 = .ok (.getfield 157, 3) := by decide +kernel
theorem dX11_sentence_63 : decode cX11_sentence 63 = .ok (.ifCond .ne 38, 3) := by decide +kernel
theorem dX11_sentence_66 : decode cX11_sentence 66 = .ok (.aload_n 0, 1) := by decide +kernel
theorem dX11_sentence_67 : decode cX11_sentence 67 = .ok (.invokevirtual 452, 3) := by decide +kernel
theorem dX11_sentence_70 : decode cX11_sentence 70 = .ok (.aload_n 0, 1) := by decide +kernel
theorem dX11_sentence_71 : decode cX11_sentence 71 = .ok (.bipush 22, 2) := by decide +kernel
theorem dX11_sentence_73 : decode cX11_sentence 73 = .ok (.invokevirtual 455, 3) := by decide +kernel
theorem dX11_sentence_76 : decode cX11_sentence 76 = .ok (.aload_n 0, 1) := by decide +kernel
theorem dX11_sentence_77 : decode cX11_sentence 77 = .ok (.getfield 434, 3) := by decide +kernel
theorem dX11_sentence_80 : decode cX11_sentence 80 = .ok (.ifCond .le 16, 3) := by decide +kernel
theorem dX11_sentence_83 : decode cX11_sentence 83 = .ok (.aload_n 0, 1) := by decide +kernel
theorem dX11_sentence_84 : decode cX11_sentence 84 = .ok (.iconst 1, 1) := by decide +kernel
theorem dX11_sentence_85 : decode cX11_sentence 85 = .ok (.invokevirtual 183, 3) := by decide +kernel
theorem dX11_sentence_88 : decode cX11_sentence 88 = .ok (.pop, 1) := by decide +kernel
theorem dX11_sentence_89 : decode cX11_sentence 89 = .ok (.iconst (-1), 1) := by decide +kernel
theorem dX11_sentence_90 : decode cX11_sentence 90 = .ok (.aload_n 0, 1) := by decide +kernel
theorem dX11_sentence_91 : decode cX11_sentence 91 = .ok (.getfield 177, 3) := by decide +kernel
theorem dX11_sentence_94 : decode cX11_sentence 94 = .ok (.isub, 1) := by decide +kernel
theorem dX11_sentence_95 : decode cX11_sentence 95 = .ok (.ireturn, 1) := by decide +kernel
theorem dX11_sentence_96 : decode cX11_sentence 96 = .ok (.iconst 0, 1) := by decide +kernel
theorem dX11_sentence_97 : decode cX11_sentence 97 = .ok (.istore_n 1, 1) := by decide +kernel
theorem dX11_sentence_98 : decode cX11_sentence 98 = .ok (.goto (-50), 3) := by decide +kernel
theorem dX11_sentence_101 : decode cX11_sentence 101 = .ok (.aload_n 0, 1) := by decide +kernel
theorem dX11_sentence_102 : decode cX11_sentence 102 = .ok (.getfield 449, 3) := by decide +kernel
theorem dX11_sentence_105 : decode cX11_sentence 105 = .ok (.ifCond .eq 13, 3) := by decide +kernel
theorem dX11_sentence_108 : decode cX11_sentence 108 = .ok (.aload_n 0, 1) := by decide +kernel
theorem dX11_sentence_109 : decode cX11_sentence 109 = .ok (.invokevirtual 458, 3) := by decide +kernel
theorem dX11_sentence_112 : decode cX11_sentence 112 = .ok (.ifCond .ne (-64), 3) := by decide +kernel
theorem dX11_sentence_115 : decode cX11_sentence 115 = .ok (.goto 10, 3) := by decide +kernel
theorem dX11_sentence_118 : decode cX11_sentence 118 = .ok (.aload_n 0, 1) := by decide +kernel
theorem dX11_sentence_119 : decode cX11_sentence 119 = .ok (.invokevirtual 461, 3) := by decide +kernel
theorem dX11_sentence_122 : decode cX11_sentence 122 = .ok (.ifCond .ne (-74), 3) := by decide +kernel
theorem dX11_sentence_125 : decode cX11_sentence 125 = .ok (.iconst (-1), 1) := by decide +kernel
theorem dX11_sentence_126 : decode cX11_sentence 126 = .ok (.aload_n 0, 1) := by decide +kernel
theorem dX11_sentence_127 : decode cX11_sentence 127 = .ok (.getfield 177, 3) := by decide +kernel
theorem dX11_sentence_130 : decode cX11_sentence 130 = .ok (.isub, 1) := by decide +kernel
theorem dX11_sentence_131 : decode cX11_sentence 131 = .ok (.ireturn, 1) := by decide +kernel
theorem dX11_sentence_132 : decode cX11_sentence 132 = .ok (.aload_n 0, 1) := by decide +kernel
theorem dX11_sentence_133 : decode cX11_sentence 133 = .ok (.getfield 33, 3) := by decide +kernel
theorem dX11_sentence_136 : decode cX11_sentence 136 = .ok (.sipush 276, 3) := by decide +kernel
theorem dX11_sentence_139 : decode cX11_sentence 139 = .ok (.aload_n 0, 1) := by decide +kernel
theorem dX11_sentence_140 : decode cX11_sentence 140 = .ok (.getfield 431, 3) := by decide +kernel
theorem dX11_sentence_143 : decode cX11_sentence 143 = .ok (.iastore, 1) := by decide +kernel
theorem dX11_sentence_144 : decode cX11_sentence 144 = .ok (.iconst 0, 1) := by decide +kernel
theorem dX11_sentence_145 : decode cX11_sentence 145 = .ok (.istore_n 2, 1) := by decide +kernel
theorem dX11_sentence_146 : decode cX11_sentence 146 = .ok (.iload_n 2, 1) := by decide +kernel
theorem dX11_sentence_147 : decode cX11_sentence 147 = .ok (.iconst 3, 1) := by decide +kernel
theorem dX11_sentence_148 : decode cX11_sentence 148 = .ok (.aload_n 0, 1) := by decide +kernel
theorem dX11_sentence_149 : decode cX11_sentence 149 = .ok (.getfield 431, 3) := by decide +kernel
theorem dX11_sentence_152 : decode cX11_sentence 152 = .ok (.imul, 1) := by decide +kernel
theorem dX11_sentence_153 : decode cX11_sentence 153 = .ok (.if_icmp .ge 25, 3) := by decide +kernel
theorem dX11_sentence_156 : decode cX11_sentence 156 = .ok (.aload_n 0, 1) := by decide +kernel
theorem dX11_sentence_157 : decode cX11_sentence 157 = .ok (.getfield 33, 3) := by decide +kernel
theorem dX11_sentence_160 : decode cX11_sentence 160 = .ok (.sipush 277, 3) := by decide +kernel
theorem dX11_sentence_163 : decode cX11_sentence 163 = .ok (.iload_n 2, 1) := by decide +kernel
theorem dX11_sentence_164 : decode cX11_sentence 164 = .ok (.iadd, 1) := by decide +kernel
theorem dX11_sentence_165 : decode cX11_sentence 165 = .ok (.aload_n 0, 1) := by decide +kernel
theorem dX11_sentence_166 : decode cX11_sentence 166 = .ok (.getfield 40, 3) := by decide +kernel
theorem dX11_sentence_169 : decode cX11_sentence 169 = .ok (.iload_n 2, 1) := by decide +kernel
theorem dX11_sentence_170 : decode cX11_sentence 170 = .ok (.iaload, 1) := by decide +kernel
theorem dX11_sentence_171 : decode cX11_sentence 171 = .ok (.iastore, 1) := by decide +kernel
theorem dX11_sentence_172 : decode cX11_sentence 172 = .ok (.iinc 2 1, 3) := by decide +kernel
theorem dX11_sentence_175 : decode cX11_sentence 175 = .ok (.goto (-29), 3) := by decide +kernel
theorem dX11_sentence_178 : decode cX11_sentence 178 = .ok (.aload_n 0, 1) := by decide +kernel
theorem dX11_sentence_179 : decode cX11_sentence 179 = .ok (.getfield 446, 3) := by decide +kernel
theorem dX11_sentence_182 : decode cX11_sentence 182 = .ok (.ireturn, 1) := by decide +kernel
theorem dX11_said_0 : decode cX11_said 0 = .ok (.aload_n 0, 1) := by decide +kernel
theorem dX11_said_1 : decode cX11_said 1 = .ok (.iconst 0, 1) := by decide +kernel
theorem dX11_said_2 : decode cX11_said 2 = .ok (.putfield 1, 3) := by decide +kernel
theorem dX11_said_5 : decode cX11_said 5 = .ok (.aload_n 0, 1) := by decide +kernel
theorem dX11_said_6 : decode cX11_said 6 = .ok (.getfield 33, 3) := by decide +kernel
theorem dX11_said_9 : decode cX11_said 9 = .ok (.sipush 276, 3) := by decide +kernel
theorem dX11_said_12 : decode cX11_said 12 = .ok (.iaload, 1) := by decide +kernel
theorem dX11_said_13 : decode cX11_said 13 = .ok (.ifCond .eq 8, 3) := by decide +kernel
theorem dX11_said_16 : decode cX11_said 16 = .ok (.iload_n 1, 1) := by decide +kernel
theorem dX11_said_17 : decode cX11_said 17 = .ok (.iconst (-1), 1) := by decide +kernel
theorem dX11_said_18 : decode cX11_said 18 = .ok (.if_icmp .ge 5, 3) := by decide +kernel
theorem dX11_said_21 : decode cX11_said 21 = .ok (.iconst (-1), 1) := by decide +kernel
theorem dX11_said_22 : decode cX11_said 22 = .ok (.ireturn, 1) := by decide +kernel
theorem dX11_said_23 : decode cX11_said 23 = .ok (.iconst 0, 1) := by decide +kernel
theorem dX11_said_24 : decode cX11_said 24 = .ok (.istore_n 2, 1) := by decide +kernel
theorem dX11_said_25 : decode cX11_said 25 = .ok (.iconst 0, 1) := by decide +kernel
theorem dX11_said_26 : decode cX11_said 26 = .ok (.istore_n 3, 1) := by decide +kernel
theorem dX11_said_27 : decode cX11_said 27 = .ok (.iload_n 3, 1) := by decide +kernel
theorem dX11_said_28 : decode cX11_said 28 = .ok (.aload_n 0, 1) := by decide +kernel
theorem dX11_said_29 : decode cX11_said 29 = .ok (.getfield 33, 3) := by decide +kernel
theorem dX11_said_32 : decode cX11_said 32 = .ok (.iconst 0, 1) := by decide +kernel
theorem dX11_said_33 : decode cX11_said 33 = .ok (.iaload, 1) := by decide +kernel
theorem dX11_said_34 : decode cX11_said 34 = .ok (.if_icmp .ge 30, 3) := by decide +kernel
theorem dX11_said_37 : decode cX11_said 37 = .ok (.aload_n 0, 1) := by decide +kernel
theorem dX11_said_38 : decode cX11_said 38 = .ok (.iload_n 3, 1) := by decide +kernel
theorem dX11_said_39 : decode cX11_said 39 = .ok (.invokevirtual 470, 3) := by decide +kernel
theorem dX11_said_42 : decode cX11_said 42 = .ok (.ifCond .ne 6, 3) := by decide +kernel
theorem dX11_said_45 : decode cX11_said 45 = .ok (.goto 13, 3) := by decide +kernel
theorem dX11_said_48 : decode cX11_said 48 = .ok (.iload_n 2, 1) := by decide +kernel
theorem dX11_said_49 : decode cX11_said 49 = .ok (.iload_n 1, 1) := by decide +kernel
theorem dX11_said_50 : decode cX11_said 50 = .ok (.if_icmp .ne 5, 3) := by decide +kernel
theorem dX11_said_53 : decode cX11_said 53 = .ok (.iload_n 3, 1) := by decide +kernel
theorem dX11_said_54 : decode cX11_said 54 = .ok (.ireturn, 1) := by decide +kernel
theorem dX11_said_55 : decode cX11_said 55 = .ok (.iinc 2 1, 3) := by decide +kernel
theorem dX11_said_58 : decode cX11_said 58 = .ok (.iinc 3 1, 3) := by decide +kernel
theorem dX11_said_61 : decode cX11_said 61 = .ok (.goto (-34), 3) := by decide +kernel
theorem dX11_said_64 : decode cX11_said 64 = .ok (.iload_n 1, 1) := by decide +kernel
theorem dX11_said_65 : decode cX11_said 65 = .ok (.iconst (-1), 1) := by decide +kernel
theorem dX11_said_66 : decode cX11_said 66 = .ok (.if_icmp .ne 7, 3) := by decide +kernel
theorem dX11_said_69 : decode cX11_said 69 = .ok (.iload_n 2, 1) := by decide +kernel
theorem dX11_said_70 : decode cX11_said 70 = .ok (.goto 4, 3) := by decide +kernel
theorem dX11_said_73 : decode cX11_said 73 = .ok (.iconst (-1), 1) := by decide +kernel
theorem dX11_said_74 : decode cX11_said 74 = .ok (.ireturn, 1) := by decide +kernel
