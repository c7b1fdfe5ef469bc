theorem dX4_init_0 : decode cX4_init 0 = .ok (.aload_n 0, 1) := by decide +kernel
theorem dX4_init_1 : decode cX4_init 1 = .ok (.invokespecial 3, 3) := by decide +kernel
theorem dX4_init_4 : decode cX4_init 4 = .ok (.aload_n 0, 1) := by decide +kernel
theorem dX4_init_5 : decode cX4_init 5 = .ok (.bipush 7, 2) := by decide +kernel
theorem dX4_init_7 : decode cX4_init 7 = .ok (.newarray .int, 2) := by decide +kernel
theorem dX4_init_9 : decode cX4_init 9 = .ok (.putfield 9, 3) := by decide +kernel
theorem dX4_init_12 : decode cX4_init 12 = .ok (.aload_n 0, 1) := by decide +kernel
theorem dX4_init_13 : decode cX4_init 13 = .ok (.bipush 7, 2) := by decide +kernel
theorem dX4_init_15 : decode cX4_init 15 = .ok (.newarray .int, 2) := by decide +kernel
theorem dX4_init_17 : decode cX4_init 17 = .ok (.putfield 15, 3) := by decide +kernel
theorem dX4_init_20 : decode cX4_init 20 = .ok (.aload_n 0, 1) := by decide +kernel
theorem dX4_init_21 : decode cX4_init 21 = .ok (.bipush 7, 2) := by decide +kernel
theorem dX4_init_23 : decode cX4_init 23 = .ok (.newarray .int, 2) := by decide +kernel
theorem dX4_init_25 : decode cX4_init 25 = .ok (.putfield 18, 3) := by decide +kernel
theorem dX4_init_28 : decode cX4_init 28 = .ok (.aload_n 0, 1) := by decide +kernel
theorem dX4_init_29 : decode cX4_init 29 = .ok (.bipush 35, 2) := by decide +kernel
theorem dX4_init_31 : decode cX4_init 31 = .ok (.newarray .int, 2) := by decide +kernel
theorem dX4_init_33 : decode cX4_init 33 = .ok (.putfield 21, 3) := by decide +kernel
theorem dX4_init_36 : decode cX4_init 36 = .ok (.aload_n 0, 1) := by decide +kernel
theorem dX4_init_37 : decode cX4_init 37 = .ok (.bipush 35, 2) := by decide +kernel
theorem dX4_init_39 : decode cX4_init 39 = .ok (.newarray .int, 2) := by decide +kernel
theorem dX4_init_41 : decode cX4_init 41 = .ok (.putfield 24, 3) := by decide +kernel
theorem dX4_init_44 : decode cX4_init 44 = .ok (.aload_n 0, 1) := by decide +kernel
theorem dX4_init_45 : decode cX4_init 45 = .ok (.bipush 49, 2) := by decide +kernel
theorem dX4_init_47 : decode cX4_init 47 = .ok (.newarray .int, 2) := by decide +kernel
theorem dX4_init_49 : decode cX4_init 49 = .ok (.putfield 27, 3) := by decide +kernel
theorem dX4_init_52 : decode cX4_init 52 = .ok (.aload_n 0, 1) := by decide +kernel
theorem dX4_init_53 : decode cX4_init 53 = .ok (.aload_n 1, 1) := by decide +kernel
theorem dX4_init_54 : decode cX4_init 54 = .ok (.putfield 30, 3) := by decide +kernel
theorem dX4_init_57 : decode cX4_init 57 = .ok (.return_, 1) := by decide +kernel
theorem dX4_begin_0 : decode cX4_begin 0 = .ok (.aload_n 0, 1) := by decide +kernel
theorem dX4_begin_1 : decode cX4_begin 1 = .ok (.iconst 0, 1) := by decide +kernel
theorem dX4_begin_2 : decode cX4_begin 2 = .ok (.putfield 34, 3) := by decide +kernel
theorem dX4_begin_5 : decode cX4_begin 5 = .ok (.aload_n 0, 1) := by decide +kernel
theorem dX4_begin_6 : decode cX4_begin 6 = .ok (.iconst 0, 1) := by decide +kernel
theorem dX4_begin_7 : decode cX4_begin 7 = .ok (.putfield 38, 3) := by decide +kernel
theorem dX4_begin_10 : decode cX4_begin 10 = .ok (.aload_n 0, 1) := by decide +kernel
theorem dX4_begin_11 : decode cX4_begin 11 = .ok (.getfield 30, 3) := by decide +kernel
theorem dX4_begin_14 : decode cX4_begin 14 = .ok (.getfield 41, 3) := by decide +kernel
theorem dX4_begin_17 : decode cX4_begin 17 = .ok (.iconst 0, 1) := by decide +kernel
theorem dX4_begin_18 : decode cX4_begin 18 = .ok (.aload_n 0, 1) := by decide +kernel
theorem dX4_begin_19 : decode cX4_begin 19 = .ok (.getfield 9, 3) := by decide +kernel
theorem dX4_begin_22 : decode cX4_begin 22 = .ok (.iconst 0, 1) := by decide +kernel
theorem dX4_begin_23 : decode cX4_begin 23 = .ok (.bipush 7, 2) := by decide +kernel
theorem dX4_begin_25 : decode cX4_begin 25 = .ok (.invokestatic 44, 3) := by decide +kernel
theorem dX4_begin_28 : decode cX4_begin 28 = .ok (.aload_n 0, 1) := by decide +kernel
theorem dX4_begin_29 : decode cX4_begin 29 = .ok (.getfield 15, 3) := by decide +kernel
theorem dX4_begin_32 : decode cX4_begin 32 = .ok (.iconst 0, 1) := by decide +kernel
theorem dX4_begin_33 : decode cX4_begin 33 = .ok (.invokestatic 50, 3) := by decide +kernel
theorem dX4_begin_36 : decode cX4_begin 36 = .ok (.aload_n 0, 1) := by decide +kernel
theorem dX4_begin_37 : decode cX4_begin 37 = .ok (.invokevirtual 56, 3) := by decide +kernel
theorem dX4_begin_40 : decode cX4_begin 40 = .ok (.aload_n 0, 1) := by decide +kernel
theorem dX4_begin_41 : decode cX4_begin 41 = .ok (.invokevirtual 59, 3) := by decide +kernel
theorem dX4_begin_44 : decode cX4_begin 44 = .ok (.return_, 1) := by decide +kernel
theorem dX4_copyFrom_0 : decode cX4_copyFrom 0 = .ok (.aload_n 0, 1) := by decide +kernel
theorem dX4_copyFrom_1 : decode cX4_copyFrom 1 = .ok (.aload_n 1, 1) := by decide +kernel
theorem dX4_copyFrom_2 : decode cX4_copyFrom 2 = .ok (.getfield 34, 3) := by decide +kernel
theorem dX4_copyFrom_5 : decode cX4_copyFrom 5 = .ok (.putfield 34, 3) := by decide +kernel
theorem dX4_copyFrom_8 : decode cX4_copyFrom 8 = .ok (.aload_n 0, 1) := by decide +kernel
theorem dX4_copyFrom_9 : decode cX4_copyFrom 9 = .ok (.aload_n 1, 1) := by decide +kernel
theorem dX4_copyFrom_10 : decode cX4_copyFrom 10 = .ok (.getfield 62, 3) := by decide +kernel
theorem dX4_copyFrom_13 : decode cX4_copyFrom 13 = .ok (.putfield 62, 3) := by decide +kernel
theorem dX4_copyFrom_16 : decode cX4_copyFrom 16 = .ok (.aload_n 0, 1) := by decide +kernel
theorem dX4_copyFrom_17 : decode cX4_copyFrom 17 = .ok (.aload_n 1, 1) := by decide +kernel
theorem dX4_copyFrom_18 : decode cX4_copyFrom 18 = .ok (.getfield 65, 3) := by decide +kernel
theorem dX4_copyFrom_21 : decode cX4_copyFrom 21 = .ok (.putfield 65, 3) := by decide +kernel
theorem dX4_copyFrom_24 : decode cX4_copyFrom 24 = .ok (.aload_n 0, 1) := by decide +kernel
theorem dX4_copyFrom_25 : decode cX4_copyFrom 25 = .ok (.aload_n 1, 1) := by decide +kernel
theorem dX4_copyFrom_26 : decode cX4_copyFrom 26 = .ok (.getfield 68, 3) := by decide +kernel
theorem dX4_copyFrom_29 : decode cX4_copyFrom 29 = .ok (.putfield 68, 3) := by decide +kernel
theorem dX4_copyFrom_32 : decode cX4_copyFrom 32 = .ok (.aload_n 0, 1) := by decide +kernel
theorem dX4_copyFrom_33 : decode cX4_copyFrom 33 = .ok (.aload_n 1, 1) := by decide +kernel
theorem dX4_copyFrom_34 : decode cX4_copyFrom 34 = .ok (.getfield 38, 3) := by decide +kernel
theorem dX4_copyFrom_37 : decode cX4_copyFrom 37 = .ok (.putfield 38, 3) := by decide +kernel
theorem dX4_copyFrom_40 : decode cX4_copyFrom 40 = .ok (.aload_n 1, 1) := by decide +kernel
theorem dX4_copyFrom_41 : decode cX4_copyFrom 41 = .ok (.getfield 9, 3) := by decide +kernel
theorem dX4_copyFrom_44 : decode cX4_copyFrom 44 = .ok (.iconst 0, 1) := by decide +kernel
theorem dX4_copyFrom_45 : decode cX4_copyFrom 45 = .ok (.aload_n 0, 1) := by decide +kernel
theorem dX4_copyFrom_46 : decode cX4_copyFrom 46 = .ok (.getfield 9, 3) := by decide +kernel
theorem dX4_copyFrom_49 : decode cX4_copyFrom 49 = .ok (.iconst 0, 1) := by decide +kernel
theorem dX4_copyFrom_50 : decode cX4_copyFrom 50 = .ok (.bipush 7, 2) := by decide +kernel
theorem dX4_copyFrom_52 : decode cX4_copyFrom 52 = .ok (.invokestatic 44, 3) := by decide +kernel
theorem dX4_copyFrom_55 : decode cX4_copyFrom 55 = .ok (.aload_n 1, 1) := by decide +kernel
theorem dX4_copyFrom_56 : decode cX4_copyFrom 56 = .ok (.getfield 15, 3) := by decide +kernel
theorem dX4_copyFrom_59 : decode cX4_copyFrom 59 = .ok (.iconst 0, 1) := by decide +kernel
theorem dX4_copyFrom_60 : decode cX4_copyFrom 60 = .ok (.aload_n 0, 1) := by decide +kernel
theorem dX4_copyFrom_61 : decode cX4_copyFrom 61 = .ok (.getfield 15, 3) := by decide +kernel
theorem dX4_copyFrom_64 : decode cX4_copyFrom 64 = .ok (.iconst 0, 1) := by decide +kernel
theorem dX4_copyFrom_65 : decode cX4_copyFrom 65 = .ok (.bipush 7, 2) := by decide +kernel
theorem dX4_copyFrom_67 : decode cX4_copyFrom 67 = .ok (.invokestatic 44, 3) := by decide +kernel
theorem dX4_copyFrom_70 : decode cX4_copyFrom 70 = .ok (.aload_n 1, 1) := by decide +kernel
theorem dX4_copyFrom_71 : decode cX4_copyFrom 71 = .ok (.getfield 18, 3) := by decide +kernel
theorem dX4_copyFrom_74 : decode cX4_copyFrom 74 = .ok (.iconst 0, 1) := by decide +kernel
theorem dX4_copyFrom_75 : decode cX4_copyFrom 75 = .ok (.aload_n 0, 1) := by decide +kernel
theorem dX4_copyFrom_76 : decode cX4_copyFrom 76 = .ok (.getfield 18, 3) := by decide +kernel
theorem dX4_copyFrom_79 : decode cX4_copyFrom 79 = .ok (.iconst 0, 1) := by decide +kernel
theorem dX4_copyFrom_80 : decode cX4_copyFrom 80 = .ok (.bipush 7, 2) := by decide +kernel
theorem dX4_copyFrom_82 : decode cX4_copyFrom 82 = .ok (.invokestatic 44, 3) := by decide +kernel
theorem dX4_copyFrom_85 : decode cX4_copyFrom 85 = .ok (.aload_n 1, 1) := by decide +kernel
theorem dX4_copyFrom_86 : decode cX4_copyFrom 86 = .ok (.getfield 21, 3) := by decide +kernel
theorem dX4_copyFrom_89 : decode cX4_copyFrom 89 = .ok (.iconst 0, 1) := by decide +kernel
theorem dX4_copyFrom_90 : decode cX4_copyFrom 90 = .ok (.aload_n 0, 1) := by decide +kernel
theorem dX4_copyFrom_91 : decode cX4_copyFrom 91 = .ok (.getfield 21, 3) := by decide +kernel
theorem dX4_copyFrom_94 : decode cX4_copyFrom 94 = .ok (.iconst 0, 1) := by decide +kernel
theorem dX4_copyFrom_95 : decode cX4_copyFrom 95 = .ok (.bipush 35, 2) := by decide +kernel
theorem dX4_copyFrom_97 : decode cX4_copyFrom 97 = .ok (.invokestatic 44, 3) := by decide +kernel
theorem dX4_copyFrom_100 : decode cX4_copyFrom 100 = .ok (.aload_n 1, 1) := by decide +kernel
theorem dX4_copyFrom_101 : decode cX4_copyFrom 101 = .ok (.getfield 24, 3) := by decide +kernel
theorem dX4_copyFrom_104 : decode cX4_copyFrom 104 = .ok (.iconst 0, 1) := by decide +kernel
theorem dX4_copyFrom_105 : decode cX4_copyFrom 105 = .ok (.aload_n 0, 1) := by decide +kernel
theorem dX4_copyFrom_106 : decode cX4_copyFrom 106 = .ok (.getfield 24, 3) := by decide +kernel
theorem dX4_copyFrom_109 : decode cX4_copyFrom 109 = .ok (.iconst 0, 1) := by decide +kernel
theorem dX4_copyFrom_110 : decode cX4_copyFrom 110 = .ok (.bipush 35, 2) := by decide +kernel
theorem dX4_copyFrom_112 : decode cX4_copyFrom 112 = .ok (.invokestatic 44, 3) := by decide +kernel
theorem dX4_copyFrom_115 : decode cX4_copyFrom 115 = .ok (.aload_n 1, 1) := by decide +kernel
theorem dX4_copyFrom_116 : decode cX4_copyFrom 116 = .ok (.getfield 27, 3) := by decide +kernel
theorem dX4_copyFrom_119 : decode cX4_copyFrom 119 = .ok (.iconst 0, 1) := by decide +kernel
theorem dX4_copyFrom_120 : decode cX4_copyFrom 120 = .ok (.aload_n 0, 1) := by decide +kernel
theorem dX4_copyFrom_121 : decode cX4_copyFrom 121 = .ok (.getfield 27, 3) := by decide +kernel
theorem dX4_copyFrom_124 : decode cX4_copyFrom 124 = .ok (.iconst 0, 1) := by decide +kernel
theorem dX4_copyFrom_125 : decode cX4_copyFrom 125 = .ok (.bipush 49, 2) := by decide +kernel
theorem dX4_copyFrom_127 : decode cX4_copyFrom 127 = .ok (.invokestatic 44, 3) := by decide +kernel
theorem dX4_copyFrom_130 : decode cX4_copyFrom 130 = .ok (.return_, 1) := by decide +kernel
theorem dX4_forget_0 : decode cX4_forget 0 = .ok (.aload_n 0, 1) := by decide +kernel
theorem dX4_forget_1 : decode cX4_forget 1 = .ok (.getfield 18, 3) := by decide +kernel
theorem dX4_forget_4 : decode cX4_forget 4 = .ok (.iconst 0, 1) := by decide +kernel
theorem dX4_forget_5 : decode cX4_forget 5 = .ok (.invokestatic 50, 3) := by decide +kernel
theorem dX4_forget_8 : decode cX4_forget 8 = .ok (.aload_n 0, 1) := by decide +kernel
theorem dX4_forget_9 : decode cX4_forget 9 = .ok (.getfield 27, 3) := by decide +kernel
theorem dX4_forget_12 : decode cX4_forget 12 = .ok (.iconst 0, 1) := by decide +kernel
theorem dX4_forget_13 : decode cX4_forget 13 = .ok (.invokestatic 50, 3) := by decide +kernel
theorem dX4_forget_16 : decode cX4_forget 16 = .ok (.return_, 1) := by decide +kernel
theorem dX4_dawn_0 : decode cX4_dawn 0 = .ok (.aload_n 0, 1) := by decide +kernel
theorem dX4_dawn_1 : decode cX4_dawn 1 = .ok (.getfield 30, 3) := by decide +kernel
theorem dX4_dawn_4 : decode cX4_dawn 4 = .ok (.getfield 71, 3) := by decide +kernel
theorem dX4_dawn_7 : decode cX4_dawn 7 = .ok (.iconst 0, 1) := by decide +kernel
theorem dX4_dawn_8 : decode cX4_dawn 8 = .ok (.aload_n 0, 1) := by decide +kernel
theorem dX4_dawn_9 : decode cX4_dawn 9 = .ok (.getfield 21, 3) := by decide +kernel
theorem dX4_dawn_12 : decode cX4_dawn 12 = .ok (.iconst 0, 1) := by decide +kernel
theorem dX4_dawn_13 : decode cX4_dawn 13 = .ok (.bipush 35, 2) := by decide +kernel
theorem dX4_dawn_15 : decode cX4_dawn 15 = .ok (.invokestatic 44, 3) := by decide +kernel
theorem dX4_dawn_18 : decode cX4_dawn 18 = .ok (.aload_n 0, 1) := by decide +kernel
theorem dX4_dawn_19 : decode cX4_dawn 19 = .ok (.getfield 30, 3) := by decide +kernel
theorem dX4_dawn_22 : decode cX4_dawn 22 = .ok (.getfield 72, 3) := by decide +kernel
theorem dX4_dawn_25 : decode cX4_dawn 25 = .ok (.iconst 0, 1) := by decide +kernel
theorem dX4_dawn_26 : decode cX4_dawn 26 = .ok (.aload_n 0, 1) := by decide +kernel
theorem dX4_dawn_27 : decode cX4_dawn 27 = .ok (.getfield 24, 3) := by decide +kernel
theorem dX4_dawn_30 : decode cX4_dawn 30 = .ok (.iconst 0, 1) := by decide +kernel
theorem dX4_dawn_31 : decode cX4_dawn 31 = .ok (.bipush 35, 2) := by decide +kernel
theorem dX4_dawn_33 : decode cX4_dawn 33 = .ok (.invokestatic 44, 3) := by decide +kernel
theorem dX4_dawn_36 : decode cX4_dawn 36 = .ok (.aload_n 0, 1) := by decide +kernel
theorem dX4_dawn_37 : decode cX4_dawn 37 = .ok (.iconst 0, 1) := by decide +kernel
theorem dX4_dawn_38 : decode cX4_dawn 38 = .ok (.putfield 62, 3) := by decide +kernel
theorem dX4_dawn_41 : decode cX4_dawn 41 = .ok (.aload_n 0, 1) := by decide +kernel
theorem dX4_dawn_42 : decode cX4_dawn 42 = .ok (.iconst 0, 1) := by decide +kernel
theorem dX4_dawn_43 : decode cX4_dawn 43 = .ok (.putfield 65, 3) := by decide +kernel
theorem dX4_dawn_46 : decode cX4_dawn 46 = .ok (.aload_n 0, 1) := by decide +kernel
theorem dX4_dawn_47 : decode cX4_dawn 47 = .ok (.aload_n 0, 1) := by decide +kernel
theorem dX4_dawn_48 : decode cX4_dawn 48 = .ok (.getfield 30, 3) := by decide +kernel
theorem dX4_dawn_51 : decode cX4_dawn 51 = .ok (.getfield 73, 3) := by decide +kernel
theorem dX4_dawn_54 : decode cX4_dawn 54 = .ok (.putfield 68, 3) := by decide +kernel
theorem dX4_dawn_57 : decode cX4_dawn 57 = .ok (.return_, 1) := by decide +kernel
theorem dX4_known_0 : decode cX4_known 0 = .ok (.aload_n 0, 1) := by decide +kernel
theorem dX4_known_1 : decode cX4_known 1 = .ok (.getfield 30, 3) := by decide +kernel
theorem dX4_known_4 : decode cX4_known 4 = .ok (.getfield 76, 3) := by decide +kernel
theorem dX4_known_7 : decode cX4_known 7 = .ok (.iload_n 1, 1) := by decide +kernel
theorem dX4_known_8 : decode cX4_known 8 = .ok (.iaload, 1) := by decide +kernel
theorem dX4_known_9 : decode cX4_known 9 = .ok (.aload_n 0, 1) := by decide +kernel
theorem dX4_known_10 : decode cX4_known 10 = .ok (.getfield 18, 3) := by decide +kernel
theorem dX4_known_13 : decode cX4_known 13 = .ok (.iload_n 1, 1) := by decide +kernel
theorem dX4_known_14 : decode cX4_known 14 = .ok (.iaload, 1) := by decide +kernel
theorem dX4_known_15 : decode cX4_known 15 = .ok (.ior, 1) := by decide +kernel
theorem dX4_known_16 : decode cX4_known 16 = .ok (.ireturn, 1) := by decide +kernel
theorem dX4_dealable_0 : decode cX4_dealable 0 = .ok (.aload_n 0, 1) := by decide +kernel
theorem dX4_dealable_1 : decode cX4_dealable 1 = .ok (.iload_n 1, 1) := by decide +kernel
theorem dX4_dealable_2 : decode cX4_dealable 2 = .ok (.invokevirtual 79, 3) := by decide +kernel
theorem dX4_dealable_5 : decode cX4_dealable 5 = .ok (.iconst (-1), 1) := by decide +kernel
theorem dX4_dealable_6 : decode cX4_dealable 6 = .ok (.ixor, 1) := by decide +kernel
theorem dX4_dealable_7 : decode cX4_dealable 7 = .ok (.aload_n 0, 1) := by decide +kernel
theorem dX4_dealable_8 : decode cX4_dealable 8 = .ok (.getfield 30, 3) := by decide +kernel
theorem dX4_dealable_11 : decode cX4_dealable 11 = .ok (.getfield 83, 3) := by decide +kernel
theorem dX4_dealable_14 : decode cX4_dealable 14 = .ok (.iload_n 1, 1) := by decide +kernel
theorem dX4_dealable_15 : decode cX4_dealable 15 = .ok (.iaload, 1) := by decide +kernel
theorem dX4_dealable_16 : decode cX4_dealable 16 = .ok (.ior, 1) := by decide +kernel
theorem dX4_dealable_17 : decode cX4_dealable 17 = .ok (.aload_n 0, 1) := by decide +kernel
theorem dX4_dealable_18 : decode cX4_dealable 18 = .ok (.getfield 30, 3) := by decide +kernel
theorem dX4_dealable_21 : decode cX4_dealable 21 = .ok (.invokevirtual 86, 3) := by decide +kernel
theorem dX4_dealable_24 : decode cX4_dealable 24 = .ok (.iand, 1) := by decide +kernel
theorem dX4_dealable_25 : decode cX4_dealable 25 = .ok (.iconst 1, 1) := by decide +kernel
theorem dX4_dealable_26 : decode cX4_dealable 26 = .ok (.iload_n 1, 1) := by decide +kernel
theorem dX4_dealable_27 : decode cX4_dealable 27 = .ok (.ishl, 1) := by decide +kernel
theorem dX4_dealable_28 : decode cX4_dealable 28 = .ok (.iconst (-1), 1) := by decide +kernel
theorem dX4_dealable_29 : decode cX4_dealable 29 = .ok (.ixor, 1) := by decide +kernel
theorem dX4_dealable_30 : decode cX4_dealable 30 = .ok (.iand, 1) := by decide +kernel
theorem dX4_dealable_31 : decode cX4_dealable 31 = .ok (.ireturn, 1) := by decide +kernel
theorem dX4_wanting_0 : decode cX4_wanting 0 = .ok (.iconst 0, 1) := by decide +kernel
theorem dX4_wanting_1 : decode cX4_wanting 1 = .ok (.istore_n 2, 1) := by decide +kernel
theorem dX4_wanting_2 : decode cX4_wanting 2 = .ok (.iconst 0, 1) := by decide +kernel
theorem dX4_wanting_3 : decode cX4_wanting 3 = .ok (.istore_n 3, 1) := by decide +kernel
theorem dX4_wanting_4 : decode cX4_wanting 4 = .ok (.iload_n 3, 1) := by decide +kernel
theorem dX4_wanting_5 : decode cX4_wanting 5 = .ok (.iconst 5, 1) := by decide +kernel
theorem dX4_wanting_6 : decode cX4_wanting 6 = .ok (.if_icmp .ge 22, 3) := by decide +kernel
theorem dX4_wanting_9 : decode cX4_wanting 9 = .ok (.iload_n 2, 1) := by decide +kernel
theorem dX4_wanting_10 : decode cX4_wanting 10 = .ok (.aload_n 0, 1) := by decide +kernel
theorem dX4_wanting_11 : decode cX4_wanting 11 = .ok (.getfield 24, 3) := by decide +kernel
theorem dX4_wanting_14 : decode cX4_wanting 14 = .ok (.iload_n 1, 1) := by decide +kernel
theorem dX4_wanting_15 : decode cX4_wanting 15 = .ok (.iload_n 3, 1) := by decide +kernel
theorem dX4_wanting_16 : decode cX4_wanting 16 = .ok (.invokestatic 90, 3) := by decide +kernel
theorem dX4_wanting_19 : decode cX4_wanting 19 = .ok (.iaload, 1) := by decide +kernel
theorem dX4_wanting_20 : decode cX4_wanting 20 = .ok (.iadd, 1) := by decide +kernel
theorem dX4_wanting_21 : decode cX4_wanting 21 = .ok (.istore_n 2, 1) := by decide +kernel
theorem dX4_wanting_22 : decode cX4_wanting 22 = .ok (.iinc 3 1, 3) := by decide +kernel
theorem dX4_wanting_25 : decode cX4_wanting 25 = .ok (.goto (-21), 3) := by decide +kernel
theorem dX4_wanting_28 : decode cX4_wanting 28 = .ok (.iload_n 2, 1) := by decide +kernel
theorem dX4_wanting_29 : decode cX4_wanting 29 = .ok (.ireturn, 1) := by decide +kernel
theorem dX4_isSoldOut_0 : decode cX4_isSoldOut 0 = .ok (.iconst 0, 1) := by decide +kernel
theorem dX4_isSoldOut_1 : decode cX4_isSoldOut 1 = .ok (.istore_n 2, 1) := by decide +kernel
theorem dX4_isSoldOut_2 : decode cX4_isSoldOut 2 = .ok (.iconst 0, 1) := by decide +kernel
theorem dX4_isSoldOut_3 : decode cX4_isSoldOut 3 = .ok (.istore_n 3, 1) := by decide +kernel
theorem dX4_isSoldOut_4 : decode cX4_isSoldOut 4 = .ok (.iconst 0, 1) := by decide +kernel
theorem dX4_isSoldOut_5 : decode cX4_isSoldOut 5 = .ok (.istore 4, 2) := by decide +kernel
theorem dX4_isSoldOut_7 : decode cX4_isSoldOut 7 = .ok (.iload 4, 2) := by decide +kernel
theorem dX4_isSoldOut_9 : decode cX4_isSoldOut 9 = .ok (.iconst 5, 1) := by decide +kernel
theorem dX4_isSoldOut_10 : decode cX4_isSoldOut 10 = .ok (.if_icmp .ge 51, 3) := by decide +kernel
theorem dX4_isSoldOut_13 : decode cX4_isSoldOut 13 = .ok (.iload_n 2, 1) := by decide +kernel
theorem dX4_isSoldOut_14 : decode cX4_isSoldOut 14 = .ok (.ifCond .ne 21, 3) := by decide +kernel
theorem dX4_isSoldOut_17 : decode cX4_isSoldOut 17 = .ok (.aload_n 0, 1) := by decide +kernel
theorem dX4_isSoldOut_18 : decode cX4_isSoldOut 18 = .ok (.getfield 30, 3) := by decide +kernel
theorem dX4_isSoldOut_21 : decode cX4_isSoldOut 21 = .ok (.getfield 94, 3) := by decide +kernel
theorem dX4_isSoldOut_24 : decode cX4_isSoldOut 24 = .ok (.iload_n 1, 1) := by decide +kernel
theorem dX4_isSoldOut_25 : decode cX4_isSoldOut 25 = .ok (.iload 4, 2) := by decide +kernel
theorem dX4_isSoldOut_27 : decode cX4_isSoldOut 27 = .ok (.invokestatic 90, 3) := by decide +kernel
theorem dX4_isSoldOut_30 : decode cX4_isSoldOut 30 = .ok (.iaload, 1) := by decide +kernel
theorem dX4_isSoldOut_31 : decode cX4_isSoldOut 31 = .ok (.iconst (-1), 1) := by decide +kernel
theorem dX4_isSoldOut_32 : decode cX4_isSoldOut 32 = .ok (.if_icmp .eq 7, 3) := by decide +kernel
theorem dX4_isSoldOut_35 : decode cX4_isSoldOut 35 = .ok (.iconst 1, 1) := by decide +kernel
theorem dX4_isSoldOut_36 : decode cX4_isSoldOut 36 = .ok (.goto 4, 3) := by decide +kernel
theorem dX4_isSoldOut_39 : decode cX4_isSoldOut 39 = .ok (.iconst 0, 1) := by decide +kernel
theorem dX4_isSoldOut_40 : decode cX4_isSoldOut 40 = .ok (.istore_n 2, 1) := by decide +kernel
theorem dX4_isSoldOut_41 : decode cX4_isSoldOut 41 = .ok (.iload_n 3, 1) := by decide +kernel
theorem dX4_isSoldOut_42 : decode cX4_isSoldOut 42 = .ok (.aload_n 0, 1) := by decide +kernel
theorem dX4_isSoldOut_43 : decode cX4_isSoldOut 43 = .ok (.getfield 21, 3) := by decide +kernel
theorem dX4_isSoldOut_46 : decode cX4_isSoldOut 46 = .ok (.iload_n 1, 1) := by decide +kernel
theorem dX4_isSoldOut_47 : decode cX4_isSoldOut 47 = .ok (.iload 4, 2) := by decide +kernel
theorem dX4_isSoldOut_49 : decode cX4_isSoldOut 49 = .ok (.invokestatic 90, 3) := by decide +kernel
theorem dX4_isSoldOut_52 : decode cX4_isSoldOut 52 = .ok (.iaload, 1) := by decide +kernel
theorem dX4_isSoldOut_53 : decode cX4_isSoldOut 53 = .ok (.iadd, 1) := by decide +kernel
theorem dX4_isSoldOut_54 : decode cX4_isSoldOut 54 = .ok (.istore_n 3, 1) := by decide +kernel
theorem dX4_isSoldOut_55 : decode cX4_isSoldOut 55 = .ok (.iinc 4 1, 3) := by decide +kernel
theorem dX4_isSoldOut_58 : decode cX4_isSoldOut 58 = .ok (.goto (-51), 3) := by decide +kernel
theorem dX4_isSoldOut_61 : decode cX4_isSoldOut 61 = .ok (.iload_n 2, 1) := by decide +kernel
theorem dX4_isSoldOut_62 : decode cX4_isSoldOut 62 = .ok (.ifCond .eq 11, 3) := by decide +kernel
theorem dX4_isSoldOut_65 : decode cX4_isSoldOut 65 = .ok (.iload_n 3, 1) := by decide +kernel
theorem dX4_isSoldOut_66 : decode cX4_isSoldOut 66 = .ok (.ifCond .ne 7, 3) := by decide +kernel
theorem dX4_isSoldOut_69 : decode cX4_isSoldOut 69 = .ok (.iconst 1, 1) := by decide +kernel
theorem dX4_isSoldOut_70 : decode cX4_isSoldOut 70 = .ok (.goto 4, 3) := by decide +kernel
theorem dX4_isSoldOut_73 : decode cX4_isSoldOut 73 = .ok (.iconst 0, 1) := by decide +kernel
theorem dX4_isSoldOut_74 : decode cX4_isSoldOut 74 = .ok (.ireturn, 1) := by decide +kernel
theorem dX4_fed_0 : decode cX4_fed 0 = .ok (.iconst 0, 1) := by decide +kernel
theorem dX4_fed_1 : decode cX4_fed 1 = .ok (.istore_n 1, 1) := by decide +kernel
theorem dX4_fed_2 : decode cX4_fed 2 = .ok (.iconst 0, 1) := by decide +kernel
theorem dX4_fed_3 : decode cX4_fed 3 = .ok (.istore_n 2, 1) := by decide +kernel
theorem dX4_fed_4 : decode cX4_fed 4 = .ok (.iload_n 2, 1) := by decide +kernel
theorem dX4_fed_5 : decode cX4_fed 5 = .ok (.aload_n 0, 1) := by decide +kernel
theorem dX4_fed_6 : decode cX4_fed 6 = .ok (.getfield 30, 3) := by decide +kernel
theorem dX4_fed_9 : decode cX4_fed 9 = .ok (.getfield 97, 3) := by decide +kernel
theorem dX4_fed_12 : decode cX4_fed 12 = .ok (.if_icmp .ge 23, 3) := by decide +kernel
theorem dX4_fed_15 : decode cX4_fed 15 = .ok (.aload_n 0, 1) := by decide +kernel
theorem dX4_fed_16 : decode cX4_fed 16 = .ok (.iload_n 2, 1) := by decide +kernel
theorem dX4_fed_17 : decode cX4_fed 17 = .ok (.invokevirtual 100, 3) := by decide +kernel
theorem dX4_fed_20 : decode cX4_fed 20 = .ok (.ifCond .ne 9, 3) := by decide +kernel
theorem dX4_fed_23 : decode cX4_fed 23 = .ok (.iload_n 1, 1) := by decide +kernel
theorem dX4_fed_24 : decode cX4_fed 24 = .ok (.iconst 1, 1) := by decide +kernel
theorem dX4_fed_25 : decode cX4_fed 25 = .ok (.iload_n 2, 1) := by decide +kernel
theorem dX4_fed_26 : decode cX4_fed 26 = .ok (.ishl, 1) := by decide +kernel
theorem dX4_fed_27 : decode cX4_fed 27 = .ok (.ior, 1) := by decide +kernel
theorem dX4_fed_28 : decode cX4_fed 28 = .ok (.istore_n 1, 1) := by decide +kernel
theorem dX4_fed_29 : decode cX4_fed 29 = .ok (.iinc 2 1, 3) := by decide +kernel
theorem dX4_fed_32 : decode cX4_fed 32 = .ok (.goto (-28), 3) := by decide +kernel
theorem dX4_fed_35 : decode cX4_fed 35 = .ok (.iload_n 1, 1) := by decide +kernel
theorem dX4_fed_36 : decode cX4_fed 36 = .ok (.ireturn, 1) := by decide +kernel
theorem dX4_pairsMet_0 : decode cX4_pairsMet 0 = .ok (.iconst 0, 1) := by decide +kernel
theorem dX4_pairsMet_1 : decode cX4_pairsMet 1 = .ok (.istore_n 1, 1) := by decide +kernel
theorem dX4_pairsMet_2 : decode cX4_pairsMet 2 = .ok (.iconst 0, 1) := by decide +kernel
theorem dX4_pairsMet_3 : decode cX4_pairsMet 3 = .ok (.istore_n 2, 1) := by decide +kernel
theorem dX4_pairsMet_4 : decode cX4_pairsMet 4 = .ok (.iload_n 2, 1) := by decide +kernel
theorem dX4_pairsMet_5 : decode cX4_pairsMet 5 = .ok (.bipush 7, 2) := by decide +kernel
theorem dX4_pairsMet_7 : decode cX4_pairsMet 7 = .ok (.if_icmp .ge 21, 3) := by decide +kernel
theorem dX4_pairsMet_10 : decode cX4_pairsMet 10 = .ok (.iload_n 1, 1) := by decide +kernel
theorem dX4_pairsMet_11 : decode cX4_pairsMet 11 = .ok (.aload_n 0, 1) := by decide +kernel
theorem dX4_pairsMet_12 : decode cX4_pairsMet 12 = .ok (.getfield 18, 3) := by decide +kernel
theorem dX4_pairsMet_15 : decode cX4_pairsMet 15 = .ok (.iload_n 2, 1) := by decide +kernel
theorem dX4_pairsMet_16 : decode cX4_pairsMet 16 = .ok (.iaload, 1) := by decide +kernel
theorem dX4_pairsMet_17 : decode cX4_pairsMet 17 = .ok (.invokestatic 103, 3) := by decide +kernel
theorem dX4_pairsMet_20 : decode cX4_pairsMet 20 = .ok (.iadd, 1) := by decide +kernel
theorem dX4_pairsMet_21 : decode cX4_pairsMet 21 = .ok (.istore_n 1, 1) := by decide +kernel
theorem dX4_pairsMet_22 : decode cX4_pairsMet 22 = .ok (.iinc 2 1, 3) := by decide +kernel
theorem dX4_pairsMet_25 : decode cX4_pairsMet 25 = .ok (.goto (-21), 3) := by decide +kernel
theorem dX4_pairsMet_28 : decode cX4_pairsMet 28 = .ok (.iload_n 1, 1) := by decide +kernel
theorem dX4_pairsMet_29 : decode cX4_pairsMet 29 = .ok (.iconst 2, 1) := by decide +kernel
theorem dX4_pairsMet_30 : decode cX4_pairsMet 30 = .ok (.idiv, 1) := by decide +kernel
theorem dX4_pairsMet_31 : decode cX4_pairsMet 31 = .ok (.ireturn, 1) := by decide +kernel
theorem dX4_allHunger_0 : decode cX4_allHunger 0 = .ok (.iconst 0, 1) := by decide +kernel
theorem dX4_allHunger_1 : decode cX4_allHunger 1 = .ok (.istore_n 1, 1) := by decide +kernel
theorem dX4_allHunger_2 : decode cX4_allHunger 2 = .ok (.iconst 0, 1) := by decide +kernel
theorem dX4_allHunger_3 : decode cX4_allHunger 3 = .ok (.istore_n 2, 1) := by decide +kernel
theorem dX4_allHunger_4 : decode cX4_allHunger 4 = .ok (.iload_n 2, 1) := by decide +kernel
theorem dX4_allHunger_5 : decode cX4_allHunger 5 = .ok (.bipush 7, 2) := by decide +kernel
theorem dX4_allHunger_7 : decode cX4_allHunger 7 = .ok (.if_icmp .ge 18, 3) := by decide +kernel
theorem dX4_allHunger_10 : decode cX4_allHunger 10 = .ok (.iload_n 1, 1) := by decide +kernel
theorem dX4_allHunger_11 : decode cX4_allHunger 11 = .ok (.aload_n 0, 1) := by decide +kernel
theorem dX4_allHunger_12 : decode cX4_allHunger 12 = .ok (.getfield 15, 3) := by decide +kernel
theorem dX4_allHunger_15 : decode cX4_allHunger 15 = .ok (.iload_n 2, 1) := by decide +kernel
theorem dX4_allHunger_16 : decode cX4_allHunger 16 = .ok (.iaload, 1) := by decide +kernel
theorem dX4_allHunger_17 : decode cX4_allHunger 17 = .ok (.iadd, 1) := by decide +kernel
theorem dX4_allHunger_18 : decode cX4_allHunger 18 = .ok (.istore_n 1, 1) := by decide +kernel
theorem dX4_allHunger_19 : decode cX4_allHunger 19 = .ok (.iinc 2 1, 3) := by decide +kernel
theorem dX4_allHunger_22 : decode cX4_allHunger 22 = .ok (.goto (-18), 3) := by decide +kernel
theorem dX4_allHunger_25 : decode cX4_allHunger 25 = .ok (.iload_n 1, 1) := by decide +kernel
theorem dX4_allHunger_26 : decode cX4_allHunger 26 = .ok (.ireturn, 1) := by decide +kernel
theorem dX4_whyNotBuy_0 : decode cX4_whyNotBuy 0 = .ok (.iload_n 1, 1) := by decide +kernel
theorem dX4_whyNotBuy_1 : decode cX4_whyNotBuy 1 = .ok (.iload_n 3, 1) := by decide +kernel
theorem dX4_whyNotBuy_2 : decode cX4_whyNotBuy 2 = .ok (.if_icmp .ne 5, 3) := by decide +kernel
theorem dX4_whyNotBuy_5 : decode cX4_whyNotBuy 5 = .ok (.iconst 1, 1) := by decide +kernel
theorem dX4_whyNotBuy_6 : decode cX4_whyNotBuy 6 = .ok (.ireturn, 1) := by decide +kernel
theorem dX4_whyNotBuy_7 : decode cX4_whyNotBuy 7 = .ok (.aload_n 0, 1) := by decide +kernel
theorem dX4_whyNotBuy_8 : decode cX4_whyNotBuy 8 = .ok (.getfield 62, 3) := by decide +kernel
theorem dX4_whyNotBuy_11 : decode cX4_whyNotBuy 11 = .ok (.iload_n 1, 1) := by decide +kernel
theorem dX4_whyNotBuy_12 : decode cX4_whyNotBuy 12 = .ok (.invokestatic 108, 3) := by decide +kernel
theorem dX4_whyNotBuy_15 : decode cX4_whyNotBuy 15 = .ok (.ifCond .ne 14, 3) := by decide +kernel
theorem dX4_whyNotBuy_18 : decode cX4_whyNotBuy 18 = .ok (.aload_n 0, 1) := by decide +kernel
theorem dX4_whyNotBuy_19 : decode cX4_whyNotBuy 19 = .ok (.getfield 62, 3) := by decide +kernel
theorem dX4_whyNotBuy_22 : decode cX4_whyNotBuy 22 = .ok (.iload_n 3, 1) := by decide +kernel
theorem dX4_whyNotBuy_23 : decode cX4_whyNotBuy 23 = .ok (.invokestatic 108, 3) := by decide +kernel
theorem dX4_whyNotBuy_26 : decode cX4_whyNotBuy 26 = .ok (.ifCond .eq 5, 3) := by decide +kernel
theorem dX4_whyNotBuy_29 : decode cX4_whyNotBuy 29 = .ok (.iconst 2, 1) := by decide +kernel
theorem dX4_whyNotBuy_30 : decode cX4_whyNotBuy 30 = .ok (.ireturn, 1) := by decide +kernel
theorem dX4_whyNotBuy_31 : decode cX4_whyNotBuy 31 = .ok (.aload_n 0, 1) := by decide +kernel
theorem dX4_whyNotBuy_32 : decode cX4_whyNotBuy 32 = .ok (.iload_n 1, 1) := by decide +kernel
theorem dX4_whyNotBuy_33 : decode cX4_whyNotBuy 33 = .ok (.invokevirtual 112, 3) := by decide +kernel
theorem dX4_whyNotBuy_36 : decode cX4_whyNotBuy 36 = .ok (.iload_n 3, 1) := by decide +kernel
theorem dX4_whyNotBuy_37 : decode cX4_whyNotBuy 37 = .ok (.invokestatic 108, 3) := by decide +kernel
theorem dX4_whyNotBuy_40 : decode cX4_whyNotBuy 40 = .ok (.ifCond .ne 27, 3) := by decide +kernel
theorem dX4_whyNotBuy_43 : decode cX4_whyNotBuy 43 = .ok (.aload_n 0, 1) := by decide +kernel
theorem dX4_whyNotBuy_44 : decode cX4_whyNotBuy 44 = .ok (.getfield 65, 3) := by decide +kernel
theorem dX4_whyNotBuy_47 : decode cX4_whyNotBuy 47 = .ok (.iload_n 1, 1) := by decide +kernel
theorem dX4_whyNotBuy_48 : decode cX4_whyNotBuy 48 = .ok (.invokestatic 108, 3) := by decide +kernel
theorem dX4_whyNotBuy_51 : decode cX4_whyNotBuy 51 = .ok (.ifCond .ne 16, 3) := by decide +kernel
theorem dX4_whyNotBuy_54 : decode cX4_whyNotBuy 54 = .ok (.aload_n 0, 1) := by decide +kernel
theorem dX4_whyNotBuy_55 : decode cX4_whyNotBuy 55 = .ok (.getfield 65, 3) := by decide +kernel
theorem dX4_whyNotBuy_58 : decode cX4_whyNotBuy 58 = .ok (.iload_n 3, 1) := by decide +kernel
theorem dX4_whyNotBuy_59 : decode cX4_whyNotBuy 59 = .ok (.invokestatic 108, 3) := by decide +kernel
theorem dX4_whyNotBuy_62 : decode cX4_whyNotBuy 62 = .ok (.ifCond .ne 5, 3) := by decide +kernel
theorem dX4_whyNotBuy_65 : decode cX4_whyNotBuy 65 = .ok (.iconst 3, 1) := by decide +kernel
theorem dX4_whyNotBuy_66 : decode cX4_whyNotBuy 66 = .ok (.ireturn, 1) := by decide +kernel
theorem dX4_whyNotBuy_67 : decode cX4_whyNotBuy 67 = .ok (.aload_n 0, 1) := by decide +kernel
theorem dX4_whyNotBuy_68 : decode cX4_whyNotBuy 68 = .ok (.getfield 21, 3) := by decide +kernel
theorem dX4_whyNotBuy_71 : decode cX4_whyNotBuy 71 = .ok (.iload_n 3, 1) := by decide +kernel
theorem dX4_whyNotBuy_72 : decode cX4_whyNotBuy 72 = .ok (.iload_n 2, 1) := by decide +kernel
theorem dX4_whyNotBuy_73 : decode cX4_whyNotBuy 73 = .ok (.invokestatic 90, 3) := by decide +kernel
theorem dX4_whyNotBuy_76 : decode cX4_whyNotBuy 76 = .ok (.iaload, 1) := by decide +kernel
theorem dX4_whyNotBuy_77 : decode cX4_whyNotBuy 77 = .ok (.iconst 1, 1) := by decide +kernel
theorem dX4_whyNotBuy_78 : decode cX4_whyNotBuy 78 = .ok (.if_icmp .ge 5, 3) := by decide +kernel
theorem dX4_whyNotBuy_81 : decode cX4_whyNotBuy 81 = .ok (.iconst 4, 1) := by decide +kernel
theorem dX4_whyNotBuy_82 : decode cX4_whyNotBuy 82 = .ok (.ireturn, 1) := by decide +kernel
theorem dX4_whyNotBuy_83 : decode cX4_whyNotBuy 83 = .ok (.aload_n 0, 1) := by decide +kernel
theorem dX4_whyNotBuy_84 : decode cX4_whyNotBuy 84 = .ok (.getfield 30, 3) := by decide +kernel
theorem dX4_whyNotBuy_87 : decode cX4_whyNotBuy 87 = .ok (.getfield 94, 3) := by decide +kernel
theorem dX4_whyNotBuy_90 : decode cX4_whyNotBuy 90 = .ok (.iload_n 3, 1) := by decide +kernel
theorem dX4_whyNotBuy_91 : decode cX4_whyNotBuy 91 = .ok (.iload_n 2, 1) := by decide +kernel
theorem dX4_whyNotBuy_92 : decode cX4_whyNotBuy 92 = .ok (.invokestatic 90, 3) := by decide +kernel
theorem dX4_whyNotBuy_95 : decode cX4_whyNotBuy 95 = .ok (.iaload, 1) := by decide +kernel
theorem dX4_whyNotBuy_96 : decode cX4_whyNotBuy 96 = .ok (.aload_n 0, 1) := by decide +kernel
theorem dX4_whyNotBuy_97 : decode cX4_whyNotBuy 97 = .ok (.getfield 9, 3) := by decide +kernel
theorem dX4_whyNotBuy_100 : decode cX4_whyNotBuy 100 = .ok (.iload_n 1, 1) := by decide +kernel
theorem dX4_whyNotBuy_101 : decode cX4_whyNotBuy 101 = .ok (.iaload, 1) := by decide +kernel
theorem dX4_whyNotBuy_102 : decode cX4_whyNotBuy 102 = .ok (.if_icmp .le 5, 3) := by decide +kernel
theorem dX4_whyNotBuy_105 : decode cX4_whyNotBuy 105 = .ok (.iconst 5, 1) := by decide +kernel
theorem dX4_whyNotBuy_106 : decode cX4_whyNotBuy 106 = .ok (.ireturn, 1) := by decide +kernel
theorem dX4_whyNotBuy_107 : decode cX4_whyNotBuy 107 = .ok (.aload_n 0, 1) := by decide +kernel
theorem dX4_whyNotBuy_108 : decode cX4_whyNotBuy 108 = .ok (.getfield 24, 3) := by decide +kernel
theorem dX4_whyNotBuy_111 : decode cX4_whyNotBuy 111 = .ok (.iload_n 1, 1) := by decide +kernel
theorem dX4_whyNotBuy_112 : decode cX4_whyNotBuy 112 = .ok (.iload_n 2, 1) := by decide +kernel
theorem dX4_whyNotBuy_113 : decode cX4_whyNotBuy 113 = .ok (.invokestatic 90, 3) := by decide +kernel
theorem dX4_whyNotBuy_116 : decode cX4_whyNotBuy 116 = .ok (.iaload, 1) := by decide +kernel
theorem dX4_whyNotBuy_117 : decode cX4_whyNotBuy 117 = .ok (.iconst 1, 1) := by decide +kernel
theorem dX4_whyNotBuy_118 : decode cX4_whyNotBuy 118 = .ok (.if_icmp .ge 8, 3) := by decide +kernel
theorem dX4_whyNotBuy_121 : decode cX4_whyNotBuy 121 = .ok (.bipush 6, 2) := by decide +kernel
theorem dX4_whyNotBuy_123 : decode cX4_whyNotBuy 123 = .ok (.goto 4, 3) := by decide +kernel
theorem dX4_whyNotBuy_126 : decode cX4_whyNotBuy 126 = .ok (.iconst 0, 1) := by decide +kernel
theorem dX4_whyNotBuy_127 : decode cX4_whyNotBuy 127 = .ok (.ireturn, 1) := by decide +kernel
theorem dX4_doBuy_0 : decode cX4_doBuy 0 = .ok (.aload_n 0, 1) := by decide +kernel
theorem dX4_doBuy_1 : decode cX4_doBuy 1 = .ok (.getfield 30, 3) := by decide +kernel
theorem dX4_doBuy_4 : decode cX4_doBuy 4 = .ok (.getfield 94, 3) := by decide +kernel
theorem dX4_doBuy_7 : decode cX4_doBuy 7 = .ok (.iload_n 3, 1) := by decide +kernel
theorem dX4_doBuy_8 : decode cX4_doBuy 8 = .ok (.iload_n 2, 1) := by decide +kernel
theorem dX4_doBuy_9 : decode cX4_doBuy 9 = .ok (.invokestatic 90, 3) := by decide +kernel
theorem dX4_doBuy_12 : decode cX4_doBuy 12 = .ok (.iaload, 1) := by decide +kernel
theorem dX4_doBuy_13 : decode cX4_doBuy 13 = .ok (.istore 4, 2) := by decide +kernel
theorem dX4_doBuy_15 : decode cX4_doBuy 15 = .ok (.aload_n 0, 1) := by decide +kernel
theorem dX4_doBuy_16 : decode cX4_doBuy 16 = .ok (.getfield 21, 3) := by decide +kernel
theorem dX4_doBuy_19 : decode cX4_doBuy 19 = .ok (.iload_n 3, 1) := by decide +kernel
theorem dX4_doBuy_20 : decode cX4_doBuy 20 = .ok (.iload_n 2, 1) := by decide +kernel
theorem dX4_doBuy_21 : decode cX4_doBuy 21 = .ok (.invokestatic 90, 3) := by decide +kernel
theorem dX4_doBuy_24 : decode cX4_doBuy 24 = .ok (.dup2, 1) := by decide +kernel
theorem dX4_doBuy_25 : decode cX4_doBuy 25 = .ok (.iaload, 1) := by decide +kernel
theorem dX4_doBuy_26 : decode cX4_doBuy 26 = .ok (.iconst 1, 1) := by decide +kernel
theorem dX4_doBuy_27 : decode cX4_doBuy 27 = .ok (.isub, 1) := by decide +kernel
theorem dX4_doBuy_28 : decode cX4_doBuy 28 = .ok (.iastore, 1) := by decide +kernel
theorem dX4_doBuy_29 : decode cX4_doBuy 29 = .ok (.aload_n 0, 1) := by decide +kernel
theorem dX4_doBuy_30 : decode cX4_doBuy 30 = .ok (.getfield 24, 3) := by decide +kernel
theorem dX4_doBuy_33 : decode cX4_doBuy 33 = .ok (.iload_n 1, 1) := by decide +kernel
theorem dX4_doBuy_34 : decode cX4_doBuy 34 = .ok (.iload_n 2, 1) := by decide +kernel
theorem dX4_doBuy_35 : decode cX4_doBuy 35 = .ok (.invokestatic 90, 3) := by decide +kernel
theorem dX4_doBuy_38 : decode cX4_doBuy 38 = .ok (.dup2, 1) := by decide +kernel
theorem dX4_doBuy_39 : decode cX4_doBuy 39 = .ok (.iaload, 1) := by decide +kernel
theorem dX4_doBuy_40 : decode cX4_doBuy 40 = .ok (.iconst 1, 1) := by decide +kernel
theorem dX4_doBuy_41 : decode cX4_doBuy 41 = .ok (.isub, 1) := by decide +kernel
theorem dX4_doBuy_42 : decode cX4_doBuy 42 = .ok (.iastore, 1) := by decide +kernel
theorem dX4_doBuy_43 : decode cX4_doBuy 43 = .ok (.aload_n 0, 1) := by decide +kernel
theorem dX4_doBuy_44 : decode cX4_doBuy 44 = .ok (.getfield 9, 3) := by decide +kernel
theorem dX4_doBuy_47 : decode cX4_doBuy 47 = .ok (.iload_n 1, 1) := by decide +kernel
theorem dX4_doBuy_48 : decode cX4_doBuy 48 = .ok (.dup2, 1) := by decide +kernel
theorem dX4_doBuy_49 : decode cX4_doBuy 49 = .ok (.iaload, 1) := by decide +kernel
theorem dX4_doBuy_50 : decode cX4_doBuy 50 = .ok (.iload 4, 2) := by decide +kernel
theorem dX4_doBuy_52 : decode cX4_doBuy 52 = .ok (.isub, 1) := by decide +kernel
theorem dX4_doBuy_53 : decode cX4_doBuy 53 = .ok (.iastore, 1) := by decide +kernel
theorem dX4_doBuy_54 : decode cX4_doBuy 54 = .ok (.aload_n 0, 1) := by decide +kernel
theorem dX4_doBuy_55 : decode cX4_doBuy 55 = .ok (.getfield 9, 3) := by decide +kernel
theorem dX4_doBuy_58 : decode cX4_doBuy 58 = .ok (.iload_n 3, 1) := by decide +kernel
theorem dX4_doBuy_59 : decode cX4_doBuy 59 = .ok (.dup2, 1) := by decide +kernel
theorem dX4_doBuy_60 : decode cX4_doBuy 60 = .ok (.iaload, 1) := by decide +kernel
theorem dX4_doBuy_61 : decode cX4_doBuy 61 = .ok (.iload 4, 2) := by decide +kernel
theorem dX4_doBuy_63 : decode cX4_doBuy 63 = .ok (.iadd, 1) := by decide +kernel
theorem dX4_doBuy_64 : decode cX4_doBuy 64 = .ok (.iastore, 1) := by decide +kernel
theorem dX4_doBuy_65 : decode cX4_doBuy 65 = .ok (.aload_n 0, 1) := by decide +kernel
theorem dX4_doBuy_66 : decode cX4_doBuy 66 = .ok (.dup, 1) := by decide +kernel
theorem dX4_doBuy_67 : decode cX4_doBuy 67 = .ok (.getfield 38, 3) := by decide +kernel
theorem dX4_doBuy_70 : decode cX4_doBuy 70 = .ok (.iconst 1, 1) := by decide +kernel
theorem dX4_doBuy_71 : decode cX4_doBuy 71 = .ok (.iadd, 1) := by decide +kernel
theorem dX4_doBuy_72 : decode cX4_doBuy 72 = .ok (.putfield 38, 3) := by decide +kernel
theorem dX4_doBuy_75 : decode cX4_doBuy 75 = .ok (.aload_n 0, 1) := by decide +kernel
theorem dX4_doBuy_76 : decode cX4_doBuy 76 = .ok (.getfield 65, 3) := by decide +kernel
theorem dX4_doBuy_79 : decode cX4_doBuy 79 = .ok (.iload_n 1, 1) := by decide +kernel
theorem dX4_doBuy_80 : decode cX4_doBuy 80 = .ok (.invokestatic 108, 3) := by decide +kernel
theorem dX4_doBuy_83 : decode cX4_doBuy 83 = .ok (.ifCond .ne 14, 3) := by decide +kernel
theorem dX4_doBuy_86 : decode cX4_doBuy 86 = .ok (.aload_n 0, 1) := by decide +kernel
theorem dX4_doBuy_87 : decode cX4_doBuy 87 = .ok (.getfield 65, 3) := by decide +kernel
theorem dX4_doBuy_90 : decode cX4_doBuy 90 = .ok (.iload_n 3, 1) := by decide +kernel
theorem dX4_doBuy_91 : decode cX4_doBuy 91 = .ok (.invokestatic 108, 3) := by decide +kernel
theorem dX4_doBuy_94 : decode cX4_doBuy 94 = .ok (.ifCond .eq 4, 3) := by decide +kernel
theorem dX4_doBuy_97 : decode cX4_doBuy 97 = .ok (.return_, 1) := by decide +kernel
theorem dX4_doBuy_98 : decode cX4_doBuy 98 = .ok (.aload_n 0, 1) := by decide +kernel
theorem dX4_doBuy_99 : decode cX4_doBuy 99 = .ok (.getfield 27, 3) := by decide +kernel
theorem dX4_doBuy_102 : decode cX4_doBuy 102 = .ok (.iload_n 1, 1) := by decide +kernel
theorem dX4_doBuy_103 : decode cX4_doBuy 103 = .ok (.iload_n 3, 1) := by decide +kernel
theorem dX4_doBuy_104 : decode cX4_doBuy 104 = .ok (.invokestatic 115, 3) := by decide +kernel
theorem dX4_doBuy_107 : decode cX4_doBuy 107 = .ok (.dup2, 1) := by decide +kernel
theorem dX4_doBuy_108 : decode cX4_doBuy 108 = .ok (.iaload, 1) := by decide +kernel
theorem dX4_doBuy_109 : decode cX4_doBuy 109 = .ok (.iconst 1, 1) := by decide +kernel
theorem dX4_doBuy_110 : decode cX4_doBuy 110 = .ok (.iadd, 1) := by decide +kernel
theorem dX4_doBuy_111 : decode cX4_doBuy 111 = .ok (.iastore, 1) := by decide +kernel
theorem dX4_doBuy_112 : decode cX4_doBuy 112 = .ok (.aload_n 0, 1) := by decide +kernel
theorem dX4_doBuy_113 : decode cX4_doBuy 113 = .ok (.getfield 27, 3) := by decide +kernel
theorem dX4_doBuy_116 : decode cX4_doBuy 116 = .ok (.iload_n 3, 1) := by decide +kernel
theorem dX4_doBuy_117 : decode cX4_doBuy 117 = .ok (.iload_n 1, 1) := by decide +kernel
theorem dX4_doBuy_118 : decode cX4_doBuy 118 = .ok (.invokestatic 115, 3) := by decide +kernel
theorem dX4_doBuy_121 : decode cX4_doBuy 121 = .ok (.dup2, 1) := by decide +kernel
theorem dX4_doBuy_122 : decode cX4_doBuy 122 = .ok (.iaload, 1) := by decide +kernel
theorem dX4_doBuy_123 : decode cX4_doBuy 123 = .ok (.iconst 1, 1) := by decide +kernel
theorem dX4_doBuy_124 : decode cX4_doBuy 124 = .ok (.iadd, 1) := by decide +kernel
theorem dX4_doBuy_125 : decode cX4_doBuy 125 = .ok (.iastore, 1) := by decide +kernel
theorem dX4_doBuy_126 : decode cX4_doBuy 126 = .ok (.aload_n 0, 1) := by decide +kernel
theorem dX4_doBuy_127 : decode cX4_doBuy 127 = .ok (.getfield 27, 3) := by decide +kernel
theorem dX4_doBuy_130 : decode cX4_doBuy 130 = .ok (.iload_n 1, 1) := by decide +kernel
theorem dX4_doBuy_131 : decode cX4_doBuy 131 = .ok (.iload_n 3, 1) := by decide +kernel
theorem dX4_doBuy_132 : decode cX4_doBuy 132 = .ok (.invokestatic 115, 3) := by decide +kernel
theorem dX4_doBuy_135 : decode cX4_doBuy 135 = .ok (.iaload, 1) := by decide +kernel
theorem dX4_doBuy_136 : decode cX4_doBuy 136 = .ok (.aload_n 0, 1) := by decide +kernel
theorem dX4_doBuy_137 : decode cX4_doBuy 137 = .ok (.getfield 30, 3) := by decide +kernel
theorem dX4_doBuy_140 : decode cX4_doBuy 140 = .ok (.getfield 118, 3) := by decide +kernel
theorem dX4_doBuy_143 : decode cX4_doBuy 143 = .ok (.if_icmp .lt 9, 3) := by decide +kernel
theorem dX4_doBuy_146 : decode cX4_doBuy 146 = .ok (.aload_n 0, 1) := by decide +kernel
theorem dX4_doBuy_147 : decode cX4_doBuy 147 = .ok (.iload_n 1, 1) := by decide +kernel
theorem dX4_doBuy_148 : decode cX4_doBuy 148 = .ok (.iload_n 3, 1) := by decide +kernel
theorem dX4_doBuy_149 : decode cX4_doBuy 149 = .ok (.invokevirtual 120, 3) := by decide +kernel
theorem dX4_doBuy_152 : decode cX4_doBuy 152 = .ok (.return_, 1) := by decide +kernel
theorem dX4_meet_0 : decode cX4_meet 0 = .ok (.aload_n 0, 1) := by decide +kernel
theorem dX4_meet_1 : decode cX4_meet 1 = .ok (.getfield 18, 3) := by decide +kernel
theorem dX4_meet_4 : decode cX4_meet 4 = .ok (.iload_n 1, 1) := by decide +kernel
theorem dX4_meet_5 : decode cX4_meet 5 = .ok (.dup2, 1) := by decide +kernel
theorem dX4_meet_6 : decode cX4_meet 6 = .ok (.iaload, 1) := by decide +kernel
theorem dX4_meet_7 : decode cX4_meet 7 = .ok (.iconst 1, 1) := by decide +kernel
theorem dX4_meet_8 : decode cX4_meet 8 = .ok (.iload_n 2, 1) := by decide +kernel
theorem dX4_meet_9 : decode cX4_meet 9 = .ok (.ishl, 1) := by decide +kernel
theorem dX4_meet_10 : decode cX4_meet 10 = .ok (.ior, 1) := by decide +kernel
theorem dX4_meet_11 : decode cX4_meet 11 = .ok (.iastore, 1) := by decide +kernel
theorem dX4_meet_12 : decode cX4_meet 12 = .ok (.aload_n 0, 1) := by decide +kernel
theorem dX4_meet_13 : decode cX4_meet 13 = .ok (.getfield 18, 3) := by decide +kernel
theorem dX4_meet_16 : decode cX4_meet 16 = .ok (.iload_n 2, 1) := by decide +kernel
theorem dX4_meet_17 : decode cX4_meet 17 = .ok (.dup2, 1) := by decide +kernel
theorem dX4_meet_18 : decode cX4_meet 18 = .ok (.iaload, 1) := by decide +kernel
theorem dX4_meet_19 : decode cX4_meet 19 = .ok (.iconst 1, 1) := by decide +kernel
theorem dX4_meet_20 : decode cX4_meet 20 = .ok (.iload_n 1, 1) := by decide +kernel
theorem dX4_meet_21 : decode cX4_meet 21 = .ok (.ishl, 1) := by decide +kernel
theorem dX4_meet_22 : decode cX4_meet 22 = .ok (.ior, 1) := by decide +kernel
theorem dX4_meet_23 : decode cX4_meet 23 = .ok (.iastore, 1) := by decide +kernel
theorem dX4_meet_24 : decode cX4_meet 24 = .ok (.return_, 1) := by decide +kernel
theorem dX4_whyNotNod_0 : decode cX4_whyNotNod 0 = .ok (.iload_n 1, 1) := by decide +kernel
theorem dX4_whyNotNod_1 : decode cX4_whyNotNod 1 = .ok (.iload_n 2, 1) := by decide +kernel
theorem dX4_whyNotNod_2 : decode cX4_whyNotNod 2 = .ok (.if_icmp .ne 5, 3) := by decide +kernel
theorem dX4_whyNotNod_5 : decode cX4_whyNotNod 5 = .ok (.iconst 1, 1) := by decide +kernel
theorem dX4_whyNotNod_6 : decode cX4_whyNotNod 6 = .ok (.ireturn, 1) := by decide +kernel
theorem dX4_whyNotNod_7 : decode cX4_whyNotNod 7 = .ok (.aload_n 0, 1) := by decide +kernel
theorem dX4_whyNotNod_8 : decode cX4_whyNotNod 8 = .ok (.getfield 62, 3) := by decide +kernel
theorem dX4_whyNotNod_11 : decode cX4_whyNotNod 11 = .ok (.iload_n 1, 1) := by decide +kernel
theorem dX4_whyNotNod_12 : decode cX4_whyNotNod 12 = .ok (.invokestatic 108, 3) := by decide +kernel
theorem dX4_whyNotNod_15 : decode cX4_whyNotNod 15 = .ok (.ifCond .ne 14, 3) := by decide +kernel
theorem dX4_whyNotNod_18 : decode cX4_whyNotNod 18 = .ok (.aload_n 0, 1) := by decide +kernel
theorem dX4_whyNotNod_19 : decode cX4_whyNotNod 19 = .ok (.getfield 62, 3) := by decide +kernel
theorem dX4_whyNotNod_22 : decode cX4_whyNotNod 22 = .ok (.iload_n 2, 1) := by decide +kernel
theorem dX4_whyNotNod_23 : decode cX4_whyNotNod 23 = .ok (.invokestatic 108, 3) := by decide +kernel
theorem dX4_whyNotNod_26 : decode cX4_whyNotNod 26 = .ok (.ifCond .eq 5, 3) := by decide +kernel
theorem dX4_whyNotNod_29 : decode cX4_whyNotNod 29 = .ok (.iconst 2, 1) := by decide +kernel
theorem dX4_whyNotNod_30 : decode cX4_whyNotNod 30 = .ok (.ireturn, 1) := by decide +kernel
theorem dX4_whyNotNod_31 : decode cX4_whyNotNod 31 = .ok (.aload_n 0, 1) := by decide +kernel
theorem dX4_whyNotNod_32 : decode cX4_whyNotNod 32 = .ok (.iload_n 1, 1) := by decide +kernel
theorem dX4_whyNotNod_33 : decode cX4_whyNotNod 33 = .ok (.invokevirtual 79, 3) := by decide +kernel
theorem dX4_whyNotNod_36 : decode cX4_whyNotNod 36 = .ok (.iload_n 2, 1) := by decide +kernel
theorem dX4_whyNotNod_37 : decode cX4_whyNotNod 37 = .ok (.invokestatic 108, 3) := by decide +kernel
theorem dX4_whyNotNod_40 : decode cX4_whyNotNod 40 = .ok (.ifCond .eq 7, 3) := by decide +kernel
theorem dX4_whyNotNod_43 : decode cX4_whyNotNod 43 = .ok (.iconst 3, 1) := by decide +kernel
theorem dX4_whyNotNod_44 : decode cX4_whyNotNod 44 = .ok (.goto 4, 3) := by decide +kernel
theorem dX4_whyNotNod_47 : decode cX4_whyNotNod 47 = .ok (.iconst 0, 1) := by decide +kernel
theorem dX4_whyNotNod_48 : decode cX4_whyNotNod 48 = .ok (.ireturn, 1) := by decide +kernel
theorem dX4_doNod_0 : decode cX4_doNod 0 = .ok (.aload_n 0, 1) := by decide +kernel
theorem dX4_doNod_1 : decode cX4_doNod 1 = .ok (.iload_n 1, 1) := by decide +kernel
theorem dX4_doNod_2 : decode cX4_doNod 2 = .ok (.iload_n 2, 1) := by decide +kernel
theorem dX4_doNod_3 : decode cX4_doNod 3 = .ok (.invokevirtual 120, 3) := by decide +kernel
theorem dX4_doNod_6 : decode cX4_doNod 6 = .ok (.aload_n 0, 1) := by decide +kernel
theorem dX4_doNod_7 : decode cX4_doNod 7 = .ok (.dup, 1) := by decide +kernel
theorem dX4_doNod_8 : decode cX4_doNod 8 = .ok (.getfield 62, 3) := by decide +kernel
theorem dX4_doNod_11 : decode cX4_doNod 11 = .ok (.iconst 1, 1) := by decide +kernel
theorem dX4_doNod_12 : decode cX4_doNod 12 = .ok (.iload_n 1, 1) := by decide +kernel
theorem dX4_doNod_13 : decode cX4_doNod 13 = .ok (.ishl, 1) := by decide +kernel
theorem dX4_doNod_14 : decode cX4_doNod 14 = .ok (.ior, 1) := by decide +kernel
theorem dX4_doNod_15 : decode cX4_doNod 15 = .ok (.putfield 62, 3) := by decide +kernel
theorem dX4_doNod_18 : decode cX4_doNod 18 = .ok (.return_, 1) := by decide +kernel
theorem dX4_whyNotVeil_0 : decode cX4_whyNotVeil 0 = .ok (.aload_n 0, 1) := by decide +kernel
theorem dX4_whyNotVeil_1 : decode cX4_whyNotVeil 1 = .ok (.getfield 65, 3) := by decide +kernel
theorem dX4_whyNotVeil_4 : decode cX4_whyNotVeil 4 = .ok (.iload_n 1, 1) := by decide +kernel
theorem dX4_whyNotVeil_5 : decode cX4_whyNotVeil 5 = .ok (.invokestatic 108, 3) := by decide +kernel
theorem dX4_whyNotVeil_8 : decode cX4_whyNotVeil 8 = .ok (.ifCond .eq 5, 3) := by decide +kernel
theorem dX4_whyNotVeil_11 : decode cX4_whyNotVeil 11 = .ok (.iconst 1, 1) := by decide +kernel
theorem dX4_whyNotVeil_12 : decode cX4_whyNotVeil 12 = .ok (.ireturn, 1) := by decide +kernel
theorem dX4_whyNotVeil_13 : decode cX4_whyNotVeil 13 = .ok (.aload_n 0, 1) := by decide +kernel
theorem dX4_whyNotVeil_14 : decode cX4_whyNotVeil 14 = .ok (.getfield 68, 3) := by decide +kernel
theorem dX4_whyNotVeil_17 : decode cX4_whyNotVeil 17 = .ok (.iconst 1, 1) := by decide +kernel
theorem dX4_whyNotVeil_18 : decode cX4_whyNotVeil 18 = .ok (.if_icmp .ge 7, 3) := by decide +kernel
theorem dX4_whyNotVeil_21 : decode cX4_whyNotVeil 21 = .ok (.iconst 2, 1) := by decide +kernel
theorem dX4_whyNotVeil_22 : decode cX4_whyNotVeil 22 = .ok (.goto 4, 3) := by decide +kernel
theorem dX4_whyNotVeil_25 : decode cX4_whyNotVeil 25 = .ok (.iconst 0, 1) := by decide +kernel
theorem dX4_whyNotVeil_26 : decode cX4_whyNotVeil 26 = .ok (.ireturn, 1) := by decide +kernel
theorem dX4_doVeil_0 : decode cX4_doVeil 0 = .ok (.aload_n 0, 1) := by decide +kernel
theorem dX4_doVeil_1 : decode cX4_doVeil 1 = .ok (.dup, 1) := by decide +kernel
theorem dX4_doVeil_2 : decode cX4_doVeil 2 = .ok (.getfield 65, 3) := by decide +kernel
theorem dX4_doVeil_5 : decode cX4_doVeil 5 = .ok (.iconst 1, 1) := by decide +kernel
theorem dX4_doVeil_6 : decode cX4_doVeil 6 = .ok (.iload_n 1, 1) := by decide +kernel
theorem dX4_doVeil_7 : decode cX4_doVeil 7 = .ok (.ishl, 1) := by decide +kernel
theorem dX4_doVeil_8 : decode cX4_doVeil 8 = .ok (.ior, 1) := by decide +kernel
theorem dX4_doVeil_9 : decode cX4_doVeil 9 = .ok (.putfield 65, 3) := by decide +kernel
theorem dX4_doVeil_12 : decode cX4_doVeil 12 = .ok (.aload_n 0, 1) := by decide +kernel
theorem dX4_doVeil_13 : decode cX4_doVeil 13 = .ok (.dup, 1) := by decide +kernel
theorem dX4_doVeil_14 : decode cX4_doVeil 14 = .ok (.getfield 68, 3) := by decide +kernel
theorem dX4_doVeil_17 : decode cX4_doVeil 17 = .ok (.iconst 1, 1) := by decide +kernel
theorem dX4_doVeil_18 : decode cX4_doVeil 18 = .ok (.isub, 1) := by decide +kernel
theorem dX4_doVeil_19 : decode cX4_doVeil 19 = .ok (.putfield 68, 3) := by decide +kernel
theorem dX4_doVeil_22 : decode cX4_doVeil 22 = .ok (.return_, 1) := by decide +kernel
theorem dX4_whyNotTell_0 : decode cX4_whyNotTell 0 = .ok (.iload_n 1, 1) := by decide +kernel
theorem dX4_whyNotTell_1 : decode cX4_whyNotTell 1 = .ok (.iload_n 2, 1) := by decide +kernel
theorem dX4_whyNotTell_2 : decode cX4_whyNotTell 2 = .ok (.if_icmp .eq 13, 3) := by decide +kernel
theorem dX4_whyNotTell_5 : decode cX4_whyNotTell 5 = .ok (.iload_n 1, 1) := by decide +kernel
theorem dX4_whyNotTell_6 : decode cX4_whyNotTell 6 = .ok (.iload_n 3, 1) := by decide +kernel
theorem dX4_whyNotTell_7 : decode cX4_whyNotTell 7 = .ok (.if_icmp .eq 8, 3) := by decide +kernel
theorem dX4_whyNotTell_10 : decode cX4_whyNotTell 10 = .ok (.iload_n 2, 1) := by decide +kernel
theorem dX4_whyNotTell_11 : decode cX4_whyNotTell 11 = .ok (.iload_n 3, 1) := by decide +kernel
theorem dX4_whyNotTell_12 : decode cX4_whyNotTell 12 = .ok (.if_icmp .ne 5, 3) := by decide +kernel
theorem dX4_whyNotTell_15 : decode cX4_whyNotTell 15 = .ok (.iconst 1, 1) := by decide +kernel
theorem dX4_whyNotTell_16 : decode cX4_whyNotTell 16 = .ok (.ireturn, 1) := by decide +kernel
theorem dX4_whyNotTell_17 : decode cX4_whyNotTell 17 = .ok (.aload_n 0, 1) := by decide +kernel
theorem dX4_whyNotTell_18 : decode cX4_whyNotTell 18 = .ok (.iload_n 1, 1) := by decide +kernel
theorem dX4_whyNotTell_19 : decode cX4_whyNotTell 19 = .ok (.invokevirtual 79, 3) := by decide +kernel
theorem dX4_whyNotTell_22 : decode cX4_whyNotTell 22 = .ok (.iload_n 2, 1) := by decide +kernel
theorem dX4_whyNotTell_23 : decode cX4_whyNotTell 23 = .ok (.invokestatic 108, 3) := by decide +kernel
theorem dX4_whyNotTell_26 : decode cX4_whyNotTell 26 = .ok (.ifCond .eq 15, 3) := by decide +kernel
theorem dX4_whyNotTell_29 : decode cX4_whyNotTell 29 = .ok (.aload_n 0, 1) := by decide +kernel
theorem dX4_whyNotTell_30 : decode cX4_whyNotTell 30 = .ok (.iload_n 1, 1) := by decide +kernel
theorem dX4_whyNotTell_31 : decode cX4_whyNotTell 31 = .ok (.invokevirtual 79, 3) := by decide +kernel
theorem dX4_whyNotTell_34 : decode cX4_whyNotTell 34 = .ok (.iload_n 3, 1) := by decide +kernel
theorem dX4_whyNotTell_35 : decode cX4_whyNotTell 35 = .ok (.invokestatic 108, 3) := by decide +kernel
theorem dX4_whyNotTell_38 : decode cX4_whyNotTell 38 = .ok (.ifCond .ne 5, 3) := by decide +kernel
theorem dX4_whyNotTell_41 : decode cX4_whyNotTell 41 = .ok (.iconst 2, 1) := by decide +kernel
theorem dX4_whyNotTell_42 : decode cX4_whyNotTell 42 = .ok (.ireturn, 1) := by decide +kernel
theorem dX4_whyNotTell_43 : decode cX4_whyNotTell 43 = .ok (.aload_n 0, 1) := by decide +kernel
theorem dX4_whyNotTell_44 : decode cX4_whyNotTell 44 = .ok (.iload_n 2, 1) := by decide +kernel
theorem dX4_whyNotTell_45 : decode cX4_whyNotTell 45 = .ok (.invokevirtual 79, 3) := by decide +kernel
theorem dX4_whyNotTell_48 : decode cX4_whyNotTell 48 = .ok (.iload_n 3, 1) := by decide +kernel
theorem dX4_whyNotTell_49 : decode cX4_whyNotTell 49 = .ok (.invokestatic 108, 3) := by decide +kernel
theorem dX4_whyNotTell_52 : decode cX4_whyNotTell 52 = .ok (.ifCond .eq 7, 3) := by decide +kernel
theorem dX4_whyNotTell_55 : decode cX4_whyNotTell 55 = .ok (.iconst 3, 1) := by decide +kernel
theorem dX4_whyNotTell_56 : decode cX4_whyNotTell 56 = .ok (.goto 4, 3) := by decide +kernel
theorem dX4_whyNotTell_59 : decode cX4_whyNotTell 59 = .ok (.iconst 0, 1) := by decide +kernel
theorem dX4_whyNotTell_60 : decode cX4_whyNotTell 60 = .ok (.ireturn, 1) := by decide +kernel
theorem dX4_passDay_0 : decode cX4_passDay 0 = .ok (.iconst 0, 1) := by decide +kernel
theorem dX4_passDay_1 : decode cX4_passDay 1 = .ok (.istore_n 1, 1) := by decide +kernel
theorem dX4_passDay_2 : decode cX4_passDay 2 = .ok (.iload_n 1, 1) := by decide +kernel
theorem dX4_passDay_3 : decode cX4_passDay 3 = .ok (.aload_n 0, 1) := by decide +kernel
theorem dX4_passDay_4 : decode cX4_passDay 4 = .ok (.getfield 30, 3) := by decide +kernel
theorem dX4_passDay_7 : decode cX4_passDay 7 = .ok (.getfield 97, 3) := by decide +kernel
theorem dX4_passDay_10 : decode cX4_passDay 10 = .ok (.if_icmp .ge 33, 3) := by decide +kernel
theorem dX4_passDay_13 : decode cX4_passDay 13 = .ok (.aload_n 0, 1) := by decide +kernel
theorem dX4_passDay_14 : decode cX4_passDay 14 = .ok (.getfield 15, 3) := by decide +kernel
theorem dX4_passDay_17 : decode cX4_passDay 17 = .ok (.iload_n 1, 1) := by decide +kernel
theorem dX4_passDay_18 : decode cX4_passDay 18 = .ok (.sipush 9999, 3) := by decide +kernel
theorem dX4_passDay_21 : decode cX4_passDay 21 = .ok (.aload_n 0, 1) := by decide +kernel
theorem dX4_passDay_22 : decode cX4_passDay 22 = .ok (.getfield 15, 3) := by decide +kernel
theorem dX4_passDay_25 : decode cX4_passDay 25 = .ok (.iload_n 1, 1) := by decide +kernel
theorem dX4_passDay_26 : decode cX4_passDay 26 = .ok (.iaload, 1) := by decide +kernel
theorem dX4_passDay_27 : decode cX4_passDay 27 = .ok (.aload_n 0, 1) := by decide +kernel
theorem dX4_passDay_28 : decode cX4_passDay 28 = .ok (.iload_n 1, 1) := by decide +kernel
theorem dX4_passDay_29 : decode cX4_passDay 29 = .ok (.invokevirtual 100, 3) := by decide +kernel
theorem dX4_passDay_32 : decode cX4_passDay 32 = .ok (.iadd, 1) := by decide +kernel
theorem dX4_passDay_33 : decode cX4_passDay 33 = .ok (.invokestatic 124, 3) := by decide +kernel
theorem dX4_passDay_36 : decode cX4_passDay 36 = .ok (.iastore, 1) := by decide +kernel
theorem dX4_passDay_37 : decode cX4_passDay 37 = .ok (.iinc 1 1, 3) := by decide +kernel
theorem dX4_passDay_40 : decode cX4_passDay 40 = .ok (.goto (-38), 3) := by decide +kernel
theorem dX4_passDay_43 : decode cX4_passDay 43 = .ok (.aload_n 0, 1) := by decide +kernel
theorem dX4_passDay_44 : decode cX4_passDay 44 = .ok (.invokevirtual 59, 3) := by decide +kernel
theorem dX4_passDay_47 : decode cX4_passDay 47 = .ok (.aload_n 0, 1) := by decide +kernel
theorem dX4_passDay_48 : decode cX4_passDay 48 = .ok (.dup, 1) := by decide +kernel
theorem dX4_passDay_49 : decode cX4_passDay 49 = .ok (.getfield 34, 3) := by decide +kernel
theorem dX4_passDay_52 : decode cX4_passDay 52 = .ok (.iconst 1, 1) := by decide +kernel
theorem dX4_passDay_53 : decode cX4_passDay 53 = .ok (.iadd, 1) := by decide +kernel
theorem dX4_passDay_54 : decode cX4_passDay 54 = .ok (.putfield 34, 3) := by decide +kernel
theorem dX4_passDay_57 : decode cX4_passDay 57 = .ok (.aload_n 0, 1) := by decide +kernel
theorem dX4_passDay_58 : decode cX4_passDay 58 = .ok (.getfield 30, 3) := by decide +kernel
theorem dX4_passDay_61 : decode cX4_passDay 61 = .ok (.getfield 129, 3) := by decide +kernel
theorem dX4_passDay_64 : decode cX4_passDay 64 = .ok (.ifCond .le 22, 3) := by decide +kernel
theorem dX4_passDay_67 : decode cX4_passDay 67 = .ok (.aload_n 0, 1) := by decide +kernel
theorem dX4_passDay_68 : decode cX4_passDay 68 = .ok (.getfield 34, 3) := by decide +kernel
theorem dX4_passDay_71 : decode cX4_passDay 71 = .ok (.aload_n 0, 1) := by decide +kernel
theorem dX4_passDay_72 : decode cX4_passDay 72 = .ok (.getfield 30, 3) := by decide +kernel
theorem dX4_passDay_75 : decode cX4_passDay 75 = .ok (.getfield 129, 3) := by decide +kernel
theorem dX4_passDay_78 : decode cX4_passDay 78 = .ok (.irem, 1) := by decide +kernel
theorem dX4_passDay_79 : decode cX4_passDay 79 = .ok (.ifCond .ne 7, 3) := by decide +kernel
theorem dX4_passDay_82 : decode cX4_passDay 82 = .ok (.aload_n 0, 1) := by decide +kernel
theorem dX4_passDay_83 : decode cX4_passDay 83 = .ok (.invokevirtual 56, 3) := by decide +kernel
theorem dX4_passDay_86 : decode cX4_passDay 86 = .ok (.return_, 1) := by decide +kernel
theorem dX4_passDays_0 : decode cX4_passDays 0 = .ok (.iconst 0, 1) := by decide +kernel
theorem dX4_passDays_1 : decode cX4_passDays 1 = .ok (.istore_n 2, 1) := by decide +kernel
theorem dX4_passDays_2 : decode cX4_passDays 2 = .ok (.iload_n 2, 1) := by decide +kernel
theorem dX4_passDays_3 : decode cX4_passDays 3 = .ok (.iload_n 1, 1) := by decide +kernel
theorem dX4_passDays_4 : decode cX4_passDays 4 = .ok (.if_icmp .ge 23, 3) := by decide +kernel
theorem dX4_passDays_7 : decode cX4_passDays 7 = .ok (.aload_n 0, 1) := by decide +kernel
theorem dX4_passDays_8 : decode cX4_passDays 8 = .ok (.getfield 34, 3) := by decide +kernel
theorem dX4_passDays_11 : decode cX4_passDays 11 = .ok (.sipush 400, 3) := by decide +kernel
theorem dX4_passDays_14 : decode cX4_passDays 14 = .ok (.if_icmp .ge 13, 3) := by decide +kernel
theorem dX4_passDays_17 : decode cX4_passDays 17 = .ok (.aload_n 0, 1) := by decide +kernel
theorem dX4_passDays_18 : decode cX4_passDays 18 = .ok (.invokevirtual 132, 3) := by decide +kernel
theorem dX4_passDays_21 : decode cX4_passDays 21 = .ok (.iinc 2 1, 3) := by decide +kernel
theorem dX4_passDays_24 : decode cX4_passDays 24 = .ok (.goto (-22), 3) := by decide +kernel
theorem dX4_passDays_27 : decode cX4_passDays 27 = .ok (.iload_n 2, 1) := by decide +kernel
theorem dX4_passDays_28 : decode cX4_passDays 28 = .ok (.ireturn, 1) := by decide +kernel
theorem dX4_passDrawnDays_0 : decode cX4_passDrawnDays 0 = .ok (.aload_n 0, 1) := by decide +kernel
theorem dX4_passDrawnDays_1 : decode cX4_passDrawnDays 1 = .ok (.iload_n 2, 1) := by decide +kernel
theorem dX4_passDrawnDays_2 : decode cX4_passDrawnDays 2 = .ok (.putfield 135, 3) := by decide +kernel
theorem dX4_passDrawnDays_5 : decode cX4_passDrawnDays 5 = .ok (.iconst 0, 1) := by decide +kernel
theorem dX4_passDrawnDays_6 : decode cX4_passDrawnDays 6 = .ok (.istore_n 3, 1) := by decide +kernel
theorem dX4_passDrawnDays_7 : decode cX4_passDrawnDays 7 = .ok (.iload_n 3, 1) := by decide +kernel
theorem dX4_passDrawnDays_8 : decode cX4_passDrawnDays 8 = .ok (.iload_n 1, 1) := by decide +kernel
theorem dX4_passDrawnDays_9 : decode cX4_passDrawnDays 9 = .ok (.if_icmp .ge 50, 3) := by decide +kernel
theorem dX4_passDrawnDays_12 : decode cX4_passDrawnDays 12 = .ok (.aload_n 0, 1) := by decide +kernel
theorem dX4_passDrawnDays_13 : decode cX4_passDrawnDays 13 = .ok (.getfield 34, 3) := by decide +kernel
theorem dX4_passDrawnDays_16 : decode cX4_passDrawnDays 16 = .ok (.sipush 400, 3) := by decide +kernel
theorem dX4_passDrawnDays_19 : decode cX4_passDrawnDays 19 = .ok (.if_icmp .ge 40, 3) := by decide +kernel
theorem dX4_passDrawnDays_22 : decode cX4_passDrawnDays 22 = .ok (.iconst 0, 1) := by decide +kernel
theorem dX4_passDrawnDays_23 : decode cX4_passDrawnDays 23 = .ok (.istore 4, 2) := by decide +kernel
theorem dX4_passDrawnDays_25 : decode cX4_passDrawnDays 25 = .ok (.iload 4, 2) := by decide +kernel
theorem dX4_passDrawnDays_27 : decode cX4_passDrawnDays 27 = .ok (.aload_n 0, 1) := by decide +kernel
theorem dX4_passDrawnDays_28 : decode cX4_passDrawnDays 28 = .ok (.getfield 30, 3) := by decide +kernel
theorem dX4_passDrawnDays_31 : decode cX4_passDrawnDays 31 = .ok (.getfield 97, 3) := by decide +kernel
theorem dX4_passDrawnDays_34 : decode cX4_passDrawnDays 34 = .ok (.if_icmp .ge 15, 3) := by decide +kernel
theorem dX4_passDrawnDays_37 : decode cX4_passDrawnDays 37 = .ok (.aload_n 0, 1) := by decide +kernel
theorem dX4_passDrawnDays_38 : decode cX4_passDrawnDays 38 = .ok (.iload 4, 2) := by decide +kernel
theorem dX4_passDrawnDays_40 : decode cX4_passDrawnDays 40 = .ok (.invokevirtual 138, 3) := by decide +kernel
theorem dX4_passDrawnDays_43 : decode cX4_passDrawnDays 43 = .ok (.iinc 4 1, 3) := by decide +kernel
theorem dX4_passDrawnDays_46 : decode cX4_passDrawnDays 46 = .ok (.goto (-21), 3) := by decide +kernel
theorem dX4_passDrawnDays_49 : decode cX4_passDrawnDays 49 = .ok (.aload_n 0, 1) := by decide +kernel
theorem dX4_passDrawnDays_50 : decode cX4_passDrawnDays 50 = .ok (.invokevirtual 132, 3) := by decide +kernel
theorem dX4_passDrawnDays_53 : decode cX4_passDrawnDays 53 = .ok (.iinc 3 1, 3) := by decide +kernel
theorem dX4_passDrawnDays_56 : decode cX4_passDrawnDays 56 = .ok (.goto (-49), 3) := by decide +kernel
theorem dX4_passDrawnDays_59 : decode cX4_passDrawnDays 59 = .ok (.iload_n 3, 1) := by decide +kernel
theorem dX4_passDrawnDays_60 : decode cX4_passDrawnDays 60 = .ok (.ireturn, 1) := by decide +kernel
theorem dX4_drawAct_0 : decode cX4_drawAct 0 = .ok (.aload_n 0, 1) := by decide +kernel
theorem dX4_drawAct_1 : decode cX4_drawAct 1 = .ok (.bipush 6, 2) := by decide +kernel
theorem dX4_drawAct_3 : decode cX4_drawAct 3 = .ok (.invokevirtual 142, 3) := by decide +kernel
theorem dX4_drawAct_6 : decode cX4_drawAct 6 = .ok (.istore_n 2, 1) := by decide +kernel
theorem dX4_drawAct_7 : decode cX4_drawAct 7 = .ok (.iload_n 2, 1) := by decide +kernel
theorem dX4_drawAct_8 : decode cX4_drawAct 8 = .ok (.iconst 2, 1) := by decide +kernel
theorem dX4_drawAct_9 : decode cX4_drawAct 9 = .ok (.if_icmp .gt 11, 3) := by decide +kernel
theorem dX4_drawAct_12 : decode cX4_drawAct 12 = .ok (.aload_n 0, 1) := by decide +kernel
theorem dX4_drawAct_13 : decode cX4_drawAct 13 = .ok (.iload_n 1, 1) := by decide +kernel
theorem dX4_drawAct_14 : decode cX4_drawAct 14 = .ok (.invokevirtual 145, 3) := by decide +kernel
theorem dX4_drawAct_17 : decode cX4_drawAct 17 = .ok (.goto 56, 3) := by decide +kernel
theorem dX4_drawAct_20 : decode cX4_drawAct 20 = .ok (.iload_n 2, 1) := by decide +kernel
theorem dX4_drawAct_21 : decode cX4_drawAct 21 = .ok (.iconst 3, 1) := by decide +kernel
theorem dX4_drawAct_22 : decode cX4_drawAct 22 = .ok (.if_icmp .ne 33, 3) := by decide +kernel
theorem dX4_drawAct_25 : decode cX4_drawAct 25 = .ok (.aload_n 0, 1) := by decide +kernel
theorem dX4_drawAct_26 : decode cX4_drawAct 26 = .ok (.aload_n 0, 1) := by decide +kernel
theorem dX4_drawAct_27 : decode cX4_drawAct 27 = .ok (.getfield 30, 3) := by decide +kernel
theorem dX4_drawAct_30 : decode cX4_drawAct 30 = .ok (.getfield 97, 3) := by decide +kernel
theorem dX4_drawAct_33 : decode cX4_drawAct 33 = .ok (.invokevirtual 142, 3) := by decide +kernel
theorem dX4_drawAct_36 : decode cX4_drawAct 36 = .ok (.istore_n 3, 1) := by decide +kernel
theorem dX4_drawAct_37 : decode cX4_drawAct 37 = .ok (.aload_n 0, 1) := by decide +kernel
theorem dX4_drawAct_38 : decode cX4_drawAct 38 = .ok (.iload_n 1, 1) := by decide +kernel
theorem dX4_drawAct_39 : decode cX4_drawAct 39 = .ok (.iload_n 3, 1) := by decide +kernel
theorem dX4_drawAct_40 : decode cX4_drawAct 40 = .ok (.invokevirtual 148, 3) := by decide +kernel
theorem dX4_drawAct_43 : decode cX4_drawAct 43 = .ok (.ifCond .ne 9, 3) := by decide +kernel
theorem dX4_drawAct_46 : decode cX4_drawAct 46 = .ok (.aload_n 0, 1) := by decide +kernel
theorem dX4_drawAct_47 : decode cX4_drawAct 47 = .ok (.iload_n 1, 1) := by decide +kernel
theorem dX4_drawAct_48 : decode cX4_drawAct 48 = .ok (.iload_n 3, 1) := by decide +kernel
theorem dX4_drawAct_49 : decode cX4_drawAct 49 = .ok (.invokevirtual 151, 3) := by decide +kernel
theorem dX4_drawAct_52 : decode cX4_drawAct 52 = .ok (.goto 21, 3) := by decide +kernel
theorem dX4_drawAct_55 : decode cX4_drawAct 55 = .ok (.iload_n 2, 1) := by decide +kernel
theorem dX4_drawAct_56 : decode cX4_drawAct 56 = .ok (.iconst 4, 1) := by decide +kernel
theorem dX4_drawAct_57 : decode cX4_drawAct 57 = .ok (.if_icmp .ne 16, 3) := by decide +kernel
theorem dX4_drawAct_60 : decode cX4_drawAct 60 = .ok (.aload_n 0, 1) := by decide +kernel
theorem dX4_drawAct_61 : decode cX4_drawAct 61 = .ok (.iload_n 1, 1) := by decide +kernel
theorem dX4_drawAct_62 : decode cX4_drawAct 62 = .ok (.invokevirtual 154, 3) := by decide +kernel
theorem dX4_drawAct_65 : decode cX4_drawAct 65 = .ok (.ifCond .ne 8, 3) := by decide +kernel
theorem dX4_drawAct_68 : decode cX4_drawAct 68 = .ok (.aload_n 0, 1) := by decide +kernel
theorem dX4_drawAct_69 : decode cX4_drawAct 69 = .ok (.iload_n 1, 1) := by decide +kernel
theorem dX4_drawAct_70 : decode cX4_drawAct 70 = .ok (.invokevirtual 157, 3) := by decide +kernel
theorem dX4_drawAct_73 : decode cX4_drawAct 73 = .ok (.return_, 1) := by decide +kernel
theorem dX4_drawBuy_0 : decode cX4_drawBuy 0 = .ok (.aload_n 0, 1) := by decide +kernel
theorem dX4_drawBuy_1 : decode cX4_drawBuy 1 = .ok (.getfield 30, 3) := by decide +kernel
theorem dX4_drawBuy_4 : decode cX4_drawBuy 4 = .ok (.getfield 160, 3) := by decide +kernel
theorem dX4_drawBuy_7 : decode cX4_drawBuy 7 = .ok (.iconst 1, 1) := by decide +kernel
theorem dX4_drawBuy_8 : decode cX4_drawBuy 8 = .ok (.if_icmp .ge 4, 3) := by decide +kernel
theorem dX4_drawBuy_11 : decode cX4_drawBuy 11 = .ok (.return_, 1) := by decide +kernel
theorem dX4_drawBuy_12 : decode cX4_drawBuy 12 = .ok (.aload_n 0, 1) := by decide +kernel
theorem dX4_drawBuy_13 : decode cX4_drawBuy 13 = .ok (.aload_n 0, 1) := by decide +kernel
theorem dX4_drawBuy_14 : decode cX4_drawBuy 14 = .ok (.getfield 30, 3) := by decide +kernel
theorem dX4_drawBuy_17 : decode cX4_drawBuy 17 = .ok (.getfield 160, 3) := by decide +kernel
theorem dX4_drawBuy_20 : decode cX4_drawBuy 20 = .ok (.invokevirtual 142, 3) := by decide +kernel
theorem dX4_drawBuy_23 : decode cX4_drawBuy 23 = .ok (.istore_n 2, 1) := by decide +kernel
theorem dX4_drawBuy_24 : decode cX4_drawBuy 24 = .ok (.aload_n 0, 1) := by decide +kernel
theorem dX4_drawBuy_25 : decode cX4_drawBuy 25 = .ok (.aload_n 0, 1) := by decide +kernel
theorem dX4_drawBuy_26 : decode cX4_drawBuy 26 = .ok (.getfield 30, 3) := by decide +kernel
theorem dX4_drawBuy_29 : decode cX4_drawBuy 29 = .ok (.getfield 97, 3) := by decide +kernel
theorem dX4_drawBuy_32 : decode cX4_drawBuy 32 = .ok (.invokevirtual 142, 3) := by decide +kernel
theorem dX4_drawBuy_35 : decode cX4_drawBuy 35 = .ok (.istore_n 3, 1) := by decide +kernel
theorem dX4_drawBuy_36 : decode cX4_drawBuy 36 = .ok (.aload_n 0, 1) := by decide +kernel
theorem dX4_drawBuy_37 : decode cX4_drawBuy 37 = .ok (.iload_n 1, 1) := by decide +kernel
theorem dX4_drawBuy_38 : decode cX4_drawBuy 38 = .ok (.iload_n 2, 1) := by decide +kernel
theorem dX4_drawBuy_39 : decode cX4_drawBuy 39 = .ok (.iload_n 3, 1) := by decide +kernel
theorem dX4_drawBuy_40 : decode cX4_drawBuy 40 = .ok (.invokevirtual 163, 3) := by decide +kernel
theorem dX4_drawBuy_43 : decode cX4_drawBuy 43 = .ok (.ifCond .ne 10, 3) := by decide +kernel
theorem dX4_drawBuy_46 : decode cX4_drawBuy 46 = .ok (.aload_n 0, 1) := by decide +kernel
theorem dX4_drawBuy_47 : decode cX4_drawBuy 47 = .ok (.iload_n 1, 1) := by decide +kernel
theorem dX4_drawBuy_48 : decode cX4_drawBuy 48 = .ok (.iload_n 2, 1) := by decide +kernel
theorem dX4_drawBuy_49 : decode cX4_drawBuy 49 = .ok (.iload_n 3, 1) := by decide +kernel
theorem dX4_drawBuy_50 : decode cX4_drawBuy 50 = .ok (.invokevirtual 167, 3) := by decide +kernel
theorem dX4_drawBuy_53 : decode cX4_drawBuy 53 = .ok (.return_, 1) := by decide +kernel
theorem dX4_draw_0 : decode cX4_draw 0 = .ok (.aload_n 0, 1) := by decide +kernel
theorem dX4_draw_1 : decode cX4_draw 1 = .ok (.aload_n 0, 1) := by decide +kernel
theorem dX4_draw_2 : decode cX4_draw 2 = .ok (.getfield 135, 3) := by decide +kernel
theorem dX4_draw_5 : decode cX4_draw 5 = .ok (.ldc 171, 2) := by decide +kernel
theorem dX4_draw_7 : decode cX4_draw 7 = .ok (.imul, 1) := by decide +kernel
theorem dX4_draw_8 : decode cX4_draw 8 = .ok (.sipush 12345, 3) := by decide +kernel
theorem dX4_draw_11 : decode cX4_draw 11 = .ok (.iadd, 1) := by decide +kernel
theorem dX4_draw_12 : decode cX4_draw 12 = .ok (.putfield 135, 3) := by decide +kernel
theorem dX4_draw_15 : decode cX4_draw 15 = .ok (.iload_n 1, 1) := by decide +kernel
theorem dX4_draw_16 : decode cX4_draw 16 = .ok (.ifCond .le 15, 3) := by decide +kernel
theorem dX4_draw_19 : decode cX4_draw 19 = .ok (.aload_n 0, 1) := by decide +kernel
theorem dX4_draw_20 : decode cX4_draw 20 = .ok (.getfield 135, 3) := by decide +kernel
theorem dX4_draw_23 : decode cX4_draw 23 = .ok (.bipush 8, 2) := by decide +kernel
theorem dX4_draw_25 : decode cX4_draw 25 = .ok (.iushr, 1) := by decide +kernel
theorem dX4_draw_26 : decode cX4_draw 26 = .ok (.iload_n 1, 1) := by decide +kernel
theorem dX4_draw_27 : decode cX4_draw 27 = .ok (.irem, 1) := by decide +kernel
theorem dX4_draw_28 : decode cX4_draw 28 = .ok (.goto 4, 3) := by decide +kernel
theorem dX4_draw_31 : decode cX4_draw 31 = .ok (.iconst 0, 1) := by decide +kernel
theorem dX4_draw_32 : decode cX4_draw 32 = .ok (.ireturn, 1) := by decide +kernel
