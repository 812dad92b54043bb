theorem dX0_init_0 : decode cX0_init 0 = .ok (.aload_n 0, 1) := by decide +kernel
theorem dX0_init_1 : decode cX0_init 1 = .ok (.invokespecial 3, 3) := by decide +kernel
theorem dX0_init_4 : decode cX0_init 4 = .ok (.aload_n 0, 1) := by decide +kernel
theorem dX0_init_5 : decode cX0_init 5 = .ok (.bipush 24, 2) := by decide +kernel
theorem dX0_init_7 : decode cX0_init 7 = .ok (.newarray .int, 2) := by decide +kernel
theorem dX0_init_9 : decode cX0_init 9 = .ok (.putfield 9, 3) := by decide +kernel
theorem dX0_init_12 : decode cX0_init 12 = .ok (.aload_n 0, 1) := by decide +kernel
theorem dX0_init_13 : decode cX0_init 13 = .ok (.bipush 24, 2) := by decide +kernel
theorem dX0_init_15 : decode cX0_init 15 = .ok (.newarray .int, 2) := by decide +kernel
theorem dX0_init_17 : decode cX0_init 17 = .ok (.putfield 15, 3) := by decide +kernel
theorem dX0_init_20 : decode cX0_init 20 = .ok (.aload_n 0, 1) := by decide +kernel
theorem dX0_init_21 : decode cX0_init 21 = .ok (.bipush 24, 2) := by decide +kernel
theorem dX0_init_23 : decode cX0_init 23 = .ok (.newarray .int, 2) := by decide +kernel
theorem dX0_init_25 : decode cX0_init 25 = .ok (.putfield 18, 3) := by decide +kernel
theorem dX0_init_28 : decode cX0_init 28 = .ok (.aload_n 0, 1) := by decide +kernel
theorem dX0_init_29 : decode cX0_init 29 = .ok (.bipush 24, 2) := by decide +kernel
theorem dX0_init_31 : decode cX0_init 31 = .ok (.newarray .int, 2) := by decide +kernel
theorem dX0_init_33 : decode cX0_init 33 = .ok (.putfield 21, 3) := by decide +kernel
theorem dX0_init_36 : decode cX0_init 36 = .ok (.return_, 1) := by decide +kernel
theorem dX0_forget_0 : decode cX0_forget 0 = .ok (.aload_n 0, 1) := by decide +kernel
theorem dX0_forget_1 : decode cX0_forget 1 = .ok (.iconst 0, 1) := by decide +kernel
theorem dX0_forget_2 : decode cX0_forget 2 = .ok (.putfield 24, 3) := by decide +kernel
theorem dX0_forget_5 : decode cX0_forget 5 = .ok (.return_, 1) := by decide +kernel
theorem dX0_keep_0 : decode cX0_keep 0 = .ok (.aload_n 0, 1) := by decide +kernel
theorem dX0_keep_1 : decode cX0_keep 1 = .ok (.getfield 24, 3) := by decide +kernel
theorem dX0_keep_4 : decode cX0_keep 4 = .ok (.bipush 24, 2) := by decide +kernel
theorem dX0_keep_6 : decode cX0_keep 6 = .ok (.if_icmp .ne 26, 3) := by decide +kernel
theorem dX0_keep_9 : decode cX0_keep 9 = .ok (.aload_n 0, 1) := by decide +kernel
theorem dX0_keep_10 : decode cX0_keep 10 = .ok (.aload_n 0, 1) := by decide +kernel
theorem dX0_keep_11 : decode cX0_keep 11 = .ok (.getfield 28, 3) := by decide +kernel
theorem dX0_keep_14 : decode cX0_keep 14 = .ok (.iconst 1, 1) := by decide +kernel
theorem dX0_keep_15 : decode cX0_keep 15 = .ok (.iadd, 1) := by decide +kernel
theorem dX0_keep_16 : decode cX0_keep 16 = .ok (.bipush 24, 2) := by decide +kernel
theorem dX0_keep_18 : decode cX0_keep 18 = .ok (.irem, 1) := by decide +kernel
theorem dX0_keep_19 : decode cX0_keep 19 = .ok (.putfield 28, 3) := by decide +kernel
theorem dX0_keep_22 : decode cX0_keep 22 = .ok (.aload_n 0, 1) := by decide +kernel
theorem dX0_keep_23 : decode cX0_keep 23 = .ok (.dup, 1) := by decide +kernel
theorem dX0_keep_24 : decode cX0_keep 24 = .ok (.getfield 24, 3) := by decide +kernel
theorem dX0_keep_27 : decode cX0_keep 27 = .ok (.iconst 1, 1) := by decide +kernel
theorem dX0_keep_28 : decode cX0_keep 28 = .ok (.isub, 1) := by decide +kernel
theorem dX0_keep_29 : decode cX0_keep 29 = .ok (.putfield 24, 3) := by decide +kernel
theorem dX0_keep_32 : decode cX0_keep 32 = .ok (.aload_n 0, 1) := by decide +kernel
theorem dX0_keep_33 : decode cX0_keep 33 = .ok (.getfield 28, 3) := by decide +kernel
theorem dX0_keep_36 : decode cX0_keep 36 = .ok (.aload_n 0, 1) := by decide +kernel
theorem dX0_keep_37 : decode cX0_keep 37 = .ok (.getfield 24, 3) := by decide +kernel
theorem dX0_keep_40 : decode cX0_keep 40 = .ok (.iadd, 1) := by decide +kernel
theorem dX0_keep_41 : decode cX0_keep 41 = .ok (.bipush 24, 2) := by decide +kernel
theorem dX0_keep_43 : decode cX0_keep 43 = .ok (.irem, 1) := by decide +kernel
theorem dX0_keep_44 : decode cX0_keep 44 = .ok (.istore 5, 2) := by decide +kernel
theorem dX0_keep_46 : decode cX0_keep 46 = .ok (.aload_n 0, 1) := by decide +kernel
theorem dX0_keep_47 : decode cX0_keep 47 = .ok (.getfield 9, 3) := by decide +kernel
theorem dX0_keep_50 : decode cX0_keep 50 = .ok (.iload 5, 2) := by decide +kernel
theorem dX0_keep_52 : decode cX0_keep 52 = .ok (.iload_n 1, 1) := by decide +kernel
theorem dX0_keep_53 : decode cX0_keep 53 = .ok (.iastore, 1) := by decide +kernel
theorem dX0_keep_54 : decode cX0_keep 54 = .ok (.aload_n 0, 1) := by decide +kernel
theorem dX0_keep_55 : decode cX0_keep 55 = .ok (.getfield 15, 3) := by decide +kernel
theorem dX0_keep_58 : decode cX0_keep 58 = .ok (.iload 5, 2) := by decide +kernel
theorem dX0_keep_60 : decode cX0_keep 60 = .ok (.iload_n 2, 1) := by decide +kernel
theorem dX0_keep_61 : decode cX0_keep 61 = .ok (.iastore, 1) := by decide +kernel
theorem dX0_keep_62 : decode cX0_keep 62 = .ok (.aload_n 0, 1) := by decide +kernel
theorem dX0_keep_63 : decode cX0_keep 63 = .ok (.getfield 18, 3) := by decide +kernel
theorem dX0_keep_66 : decode cX0_keep 66 = .ok (.iload 5, 2) := by decide +kernel
theorem dX0_keep_68 : decode cX0_keep 68 = .ok (.iload_n 3, 1) := by decide +kernel
theorem dX0_keep_69 : decode cX0_keep 69 = .ok (.iastore, 1) := by decide +kernel
theorem dX0_keep_70 : decode cX0_keep 70 = .ok (.aload_n 0, 1) := by decide +kernel
theorem dX0_keep_71 : decode cX0_keep 71 = .ok (.getfield 21, 3) := by decide +kernel
theorem dX0_keep_74 : decode cX0_keep 74 = .ok (.iload 5, 2) := by decide +kernel
theorem dX0_keep_76 : decode cX0_keep 76 = .ok (.iload 4, 2) := by decide +kernel
theorem dX0_keep_78 : decode cX0_keep 78 = .ok (.iastore, 1) := by decide +kernel
theorem dX0_keep_79 : decode cX0_keep 79 = .ok (.aload_n 0, 1) := by decide +kernel
theorem dX0_keep_80 : decode cX0_keep 80 = .ok (.dup, 1) := by decide +kernel
theorem dX0_keep_81 : decode cX0_keep 81 = .ok (.getfield 24, 3) := by decide +kernel
theorem dX0_keep_84 : decode cX0_keep 84 = .ok (.iconst 1, 1) := by decide +kernel
theorem dX0_keep_85 : decode cX0_keep 85 = .ok (.iadd, 1) := by decide +kernel
theorem dX0_keep_86 : decode cX0_keep 86 = .ok (.putfield 24, 3) := by decide +kernel
theorem dX0_keep_89 : decode cX0_keep 89 = .ok (.return_, 1) := by decide +kernel
theorem dX0_takeBack_0 : decode cX0_takeBack 0 = .ok (.aload_n 0, 1) := by decide +kernel
theorem dX0_takeBack_1 : decode cX0_takeBack 1 = .ok (.getfield 24, 3) := by decide +kernel
theorem dX0_takeBack_4 : decode cX0_takeBack 4 = .ok (.ifCond .ne 4, 3) := by decide +kernel
theorem dX0_takeBack_7 : decode cX0_takeBack 7 = .ok (.return_, 1) := by decide +kernel
theorem dX0_takeBack_8 : decode cX0_takeBack 8 = .ok (.aload_n 0, 1) := by decide +kernel
theorem dX0_takeBack_9 : decode cX0_takeBack 9 = .ok (.dup, 1) := by decide +kernel
theorem dX0_takeBack_10 : decode cX0_takeBack 10 = .ok (.getfield 24, 3) := by decide +kernel
theorem dX0_takeBack_13 : decode cX0_takeBack 13 = .ok (.iconst 1, 1) := by decide +kernel
theorem dX0_takeBack_14 : decode cX0_takeBack 14 = .ok (.isub, 1) := by decide +kernel
theorem dX0_takeBack_15 : decode cX0_takeBack 15 = .ok (.putfield 24, 3) := by decide +kernel
theorem dX0_takeBack_18 : decode cX0_takeBack 18 = .ok (.aload_n 0, 1) := by decide +kernel
theorem dX0_takeBack_19 : decode cX0_takeBack 19 = .ok (.getfield 28, 3) := by decide +kernel
theorem dX0_takeBack_22 : decode cX0_takeBack 22 = .ok (.aload_n 0, 1) := by decide +kernel
theorem dX0_takeBack_23 : decode cX0_takeBack 23 = .ok (.getfield 24, 3) := by decide +kernel
theorem dX0_takeBack_26 : decode cX0_takeBack 26 = .ok (.iadd, 1) := by decide +kernel
theorem dX0_takeBack_27 : decode cX0_takeBack 27 = .ok (.bipush 24, 2) := by decide +kernel
theorem dX0_takeBack_29 : decode cX0_takeBack 29 = .ok (.irem, 1) := by decide +kernel
theorem dX0_takeBack_30 : decode cX0_takeBack 30 = .ok (.istore_n 2, 1) := by decide +kernel
theorem dX0_takeBack_31 : decode cX0_takeBack 31 = .ok (.aload_n 0, 1) := by decide +kernel
theorem dX0_takeBack_32 : decode cX0_takeBack 32 = .ok (.getfield 15, 3) := by decide +kernel
theorem dX0_takeBack_35 : decode cX0_takeBack 35 = .ok (.iload_n 2, 1) := by decide +kernel
theorem dX0_takeBack_36 : decode cX0_takeBack 36 = .ok (.iaload, 1) := by decide +kernel
theorem dX0_takeBack_37 : decode cX0_takeBack 37 = .ok (.istore_n 3, 1) := by decide +kernel
theorem dX0_takeBack_38 : decode cX0_takeBack 38 = .ok (.aload_n 0, 1) := by decide +kernel
theorem dX0_takeBack_39 : decode cX0_takeBack 39 = .ok (.getfield 9, 3) := by decide +kernel
theorem dX0_takeBack_42 : decode cX0_takeBack 42 = .ok (.iload_n 2, 1) := by decide +kernel
theorem dX0_takeBack_43 : decode cX0_takeBack 43 = .ok (.iaload, 1) := by decide +kernel
theorem dX0_takeBack_44 : decode cX0_takeBack 44 = .ok (.tableswitch 85 1 3 #[28, 55, 70], 28) := by decide +kernel
theorem dX0_takeBack_72 : decode cX0_takeBack 72 = .ok (.aload_n 1, 1) := by decide +kernel
theorem dX0_takeBack_73 : decode cX0_takeBack 73 = .ok (.getfield 31, 3) := by decide +kernel
theorem dX0_takeBack_76 : decode cX0_takeBack 76 = .ok (.iload_n 3, 1) := by decide +kernel
theorem dX0_takeBack_77 : decode cX0_takeBack 77 = .ok (.aload_n 0, 1) := by decide +kernel
theorem dX0_takeBack_78 : decode cX0_takeBack 78 = .ok (.getfield 18, 3) := by decide +kernel
theorem dX0_takeBack_81 : decode cX0_takeBack 81 = .ok (.iload_n 2, 1) := by decide +kernel
theorem dX0_takeBack_82 : decode cX0_takeBack 82 = .ok (.iaload, 1) := by decide +kernel
theorem dX0_takeBack_83 : decode cX0_takeBack 83 = .ok (.iastore, 1) := by decide +kernel
theorem dX0_takeBack_84 : decode cX0_takeBack 84 = .ok (.aload_n 1, 1) := by decide +kernel
theorem dX0_takeBack_85 : decode cX0_takeBack 85 = .ok (.getfield 36, 3) := by decide +kernel
theorem dX0_takeBack_88 : decode cX0_takeBack 88 = .ok (.iload_n 3, 1) := by decide +kernel
theorem dX0_takeBack_89 : decode cX0_takeBack 89 = .ok (.aload_n 0, 1) := by decide +kernel
theorem dX0_takeBack_90 : decode cX0_takeBack 90 = .ok (.getfield 21, 3) := by decide +kernel
theorem dX0_takeBack_93 : decode cX0_takeBack 93 = .ok (.iload_n 2, 1) := by decide +kernel
theorem dX0_takeBack_94 : decode cX0_takeBack 94 = .ok (.iaload, 1) := by decide +kernel
theorem dX0_takeBack_95 : decode cX0_takeBack 95 = .ok (.iastore, 1) := by decide +kernel
theorem dX0_takeBack_96 : decode cX0_takeBack 96 = .ok (.goto 43, 3) := by decide +kernel
theorem dX0_takeBack_99 : decode cX0_takeBack 99 = .ok (.aload_n 1, 1) := by decide +kernel
theorem dX0_takeBack_100 : decode cX0_takeBack 100 = .ok (.getfield 39, 3) := by decide +kernel
theorem dX0_takeBack_103 : decode cX0_takeBack 103 = .ok (.iload_n 3, 1) := by decide +kernel
theorem dX0_takeBack_104 : decode cX0_takeBack 104 = .ok (.aload_n 0, 1) := by decide +kernel
theorem dX0_takeBack_105 : decode cX0_takeBack 105 = .ok (.getfield 18, 3) := by decide +kernel
theorem dX0_takeBack_108 : decode cX0_takeBack 108 = .ok (.iload_n 2, 1) := by decide +kernel
theorem dX0_takeBack_109 : decode cX0_takeBack 109 = .ok (.iaload, 1) := by decide +kernel
theorem dX0_takeBack_110 : decode cX0_takeBack 110 = .ok (.iastore, 1) := by decide +kernel
theorem dX0_takeBack_111 : decode cX0_takeBack 111 = .ok (.goto 28, 3) := by decide +kernel
theorem dX0_takeBack_114 : decode cX0_takeBack 114 = .ok (.aload_n 1, 1) := by decide +kernel
theorem dX0_takeBack_115 : decode cX0_takeBack 115 = .ok (.dup, 1) := by decide +kernel
theorem dX0_takeBack_116 : decode cX0_takeBack 116 = .ok (.getfield 42, 3) := by decide +kernel
theorem dX0_takeBack_119 : decode cX0_takeBack 119 = .ok (.iconst 1, 1) := by decide +kernel
theorem dX0_takeBack_120 : decode cX0_takeBack 120 = .ok (.iload_n 3, 1) := by decide +kernel
theorem dX0_takeBack_121 : decode cX0_takeBack 121 = .ok (.ishl, 1) := by decide +kernel
theorem dX0_takeBack_122 : decode cX0_takeBack 122 = .ok (.ixor, 1) := by decide +kernel
theorem dX0_takeBack_123 : decode cX0_takeBack 123 = .ok (.putfield 42, 3) := by decide +kernel
theorem dX0_takeBack_126 : decode cX0_takeBack 126 = .ok (.goto 13, 3) := by decide +kernel
theorem dX0_takeBack_129 : decode cX0_takeBack 129 = .ok (.aload_n 1, 1) := by decide +kernel
theorem dX0_takeBack_130 : decode cX0_takeBack 130 = .ok (.dup, 1) := by decide +kernel
theorem dX0_takeBack_131 : decode cX0_takeBack 131 = .ok (.getfield 45, 3) := by decide +kernel
theorem dX0_takeBack_134 : decode cX0_takeBack 134 = .ok (.iconst 1, 1) := by decide +kernel
theorem dX0_takeBack_135 : decode cX0_takeBack 135 = .ok (.isub, 1) := by decide +kernel
theorem dX0_takeBack_136 : decode cX0_takeBack 136 = .ok (.putfield 45, 3) := by decide +kernel
theorem dX0_takeBack_139 : decode cX0_takeBack 139 = .ok (.return_, 1) := by decide +kernel
theorem dX1_init_0 : decode cX1_init 0 = .ok (.aload_n 0, 1) := by decide +kernel
theorem dX1_init_1 : decode cX1_init 1 = .ok (.invokespecial 3, 3) := by decide +kernel
theorem dX1_init_4 : decode cX1_init 4 = .ok (.aload_n 0, 1) := by decide +kernel
theorem dX1_init_5 : decode cX1_init 5 = .ok (.bipush 6, 2) := by decide +kernel
theorem dX1_init_7 : decode cX1_init 7 = .ok (.newarray .int, 2) := by decide +kernel
theorem dX1_init_9 : decode cX1_init 9 = .ok (.putfield 9, 3) := by decide +kernel
theorem dX1_init_12 : decode cX1_init 12 = .ok (.aload_n 0, 1) := by decide +kernel
theorem dX1_init_13 : decode cX1_init 13 = .ok (.bipush 6, 2) := by decide +kernel
theorem dX1_init_15 : decode cX1_init 15 = .ok (.newarray .int, 2) := by decide +kernel
theorem dX1_init_17 : decode cX1_init 17 = .ok (.putfield 15, 3) := by decide +kernel
theorem dX1_init_20 : decode cX1_init 20 = .ok (.aload_n 0, 1) := by decide +kernel
theorem dX1_init_21 : decode cX1_init 21 = .ok (.bipush 6, 2) := by decide +kernel
theorem dX1_init_23 : decode cX1_init 23 = .ok (.newarray .int, 2) := by decide +kernel
theorem dX1_init_25 : decode cX1_init 25 = .ok (.putfield 18, 3) := by decide +kernel
theorem dX1_init_28 : decode cX1_init 28 = .ok (.aload_n 0, 1) := by decide +kernel
theorem dX1_init_29 : decode cX1_init 29 = .ok (.bipush 6, 2) := by decide +kernel
theorem dX1_init_31 : decode cX1_init 31 = .ok (.newarray .int, 2) := by decide +kernel
theorem dX1_init_33 : decode cX1_init 33 = .ok (.putfield 21, 3) := by decide +kernel
theorem dX1_init_36 : decode cX1_init 36 = .ok (.aload_n 0, 1) := by decide +kernel
theorem dX1_init_37 : decode cX1_init 37 = .ok (.bipush 6, 2) := by decide +kernel
theorem dX1_init_39 : decode cX1_init 39 = .ok (.newarray .int, 2) := by decide +kernel
theorem dX1_init_41 : decode cX1_init 41 = .ok (.putfield 24, 3) := by decide +kernel
theorem dX1_init_44 : decode cX1_init 44 = .ok (.return_, 1) := by decide +kernel
theorem dX1_begin_0 : decode cX1_begin 0 = .ok (.aload_n 0, 1) := by decide +kernel
theorem dX1_begin_1 : decode cX1_begin 1 = .ok (.iconst 1, 1) := by decide +kernel
theorem dX1_begin_2 : decode cX1_begin 2 = .ok (.putfield 27, 3) := by decide +kernel
theorem dX1_begin_5 : decode cX1_begin 5 = .ok (.aload_n 0, 1) := by decide +kernel
theorem dX1_begin_6 : decode cX1_begin 6 = .ok (.iconst 0, 1) := by decide +kernel
theorem dX1_begin_7 : decode cX1_begin 7 = .ok (.putfield 31, 3) := by decide +kernel
theorem dX1_begin_10 : decode cX1_begin 10 = .ok (.aload_n 0, 1) := by decide +kernel
theorem dX1_begin_11 : decode cX1_begin 11 = .ok (.iconst 0, 1) := by decide +kernel
theorem dX1_begin_12 : decode cX1_begin 12 = .ok (.putfield 35, 3) := by decide +kernel
theorem dX1_begin_15 : decode cX1_begin 15 = .ok (.aload_n 0, 1) := by decide +kernel
theorem dX1_begin_16 : decode cX1_begin 16 = .ok (.iconst 0, 1) := by decide +kernel
theorem dX1_begin_17 : decode cX1_begin 17 = .ok (.putfield 38, 3) := by decide +kernel
theorem dX1_begin_20 : decode cX1_begin 20 = .ok (.return_, 1) := by decide +kernel
theorem dX1_takeFrom_0 : decode cX1_takeFrom 0 = .ok (.aload_n 1, 1) := by decide +kernel
theorem dX1_takeFrom_1 : decode cX1_takeFrom 1 = .ok (.getfield 9, 3) := by decide +kernel
theorem dX1_takeFrom_4 : decode cX1_takeFrom 4 = .ok (.iconst 0, 1) := by decide +kernel
theorem dX1_takeFrom_5 : decode cX1_takeFrom 5 = .ok (.aload_n 0, 1) := by decide +kernel
theorem dX1_takeFrom_6 : decode cX1_takeFrom 6 = .ok (.getfield 9, 3) := by decide +kernel
theorem dX1_takeFrom_9 : decode cX1_takeFrom 9 = .ok (.iconst 0, 1) := by decide +kernel
theorem dX1_takeFrom_10 : decode cX1_takeFrom 10 = .ok (.bipush 6, 2) := by decide +kernel
theorem dX1_takeFrom_12 : decode cX1_takeFrom 12 = .ok (.invokestatic 41, 3) := by decide +kernel
theorem dX1_takeFrom_15 : decode cX1_takeFrom 15 = .ok (.aload_n 1, 1) := by decide +kernel
theorem dX1_takeFrom_16 : decode cX1_takeFrom 16 = .ok (.getfield 15, 3) := by decide +kernel
theorem dX1_takeFrom_19 : decode cX1_takeFrom 19 = .ok (.iconst 0, 1) := by decide +kernel
theorem dX1_takeFrom_20 : decode cX1_takeFrom 20 = .ok (.aload_n 0, 1) := by decide +kernel
theorem dX1_takeFrom_21 : decode cX1_takeFrom 21 = .ok (.getfield 15, 3) := by decide +kernel
theorem dX1_takeFrom_24 : decode cX1_takeFrom 24 = .ok (.iconst 0, 1) := by decide +kernel
theorem dX1_takeFrom_25 : decode cX1_takeFrom 25 = .ok (.bipush 6, 2) := by decide +kernel
theorem dX1_takeFrom_27 : decode cX1_takeFrom 27 = .ok (.invokestatic 41, 3) := by decide +kernel
theorem dX1_takeFrom_30 : decode cX1_takeFrom 30 = .ok (.aload_n 1, 1) := by decide +kernel
theorem dX1_takeFrom_31 : decode cX1_takeFrom 31 = .ok (.getfield 18, 3) := by decide +kernel
theorem dX1_takeFrom_34 : decode cX1_takeFrom 34 = .ok (.iconst 0, 1) := by decide +kernel
theorem dX1_takeFrom_35 : decode cX1_takeFrom 35 = .ok (.aload_n 0, 1) := by decide +kernel
theorem dX1_takeFrom_36 : decode cX1_takeFrom 36 = .ok (.getfield 18, 3) := by decide +kernel
theorem dX1_takeFrom_39 : decode cX1_takeFrom 39 = .ok (.iconst 0, 1) := by decide +kernel
theorem dX1_takeFrom_40 : decode cX1_takeFrom 40 = .ok (.bipush 6, 2) := by decide +kernel
theorem dX1_takeFrom_42 : decode cX1_takeFrom 42 = .ok (.invokestatic 41, 3) := by decide +kernel
theorem dX1_takeFrom_45 : decode cX1_takeFrom 45 = .ok (.aload_n 1, 1) := by decide +kernel
theorem dX1_takeFrom_46 : decode cX1_takeFrom 46 = .ok (.getfield 21, 3) := by decide +kernel
theorem dX1_takeFrom_49 : decode cX1_takeFrom 49 = .ok (.iconst 0, 1) := by decide +kernel
theorem dX1_takeFrom_50 : decode cX1_takeFrom 50 = .ok (.aload_n 0, 1) := by decide +kernel
theorem dX1_takeFrom_51 : decode cX1_takeFrom 51 = .ok (.getfield 21, 3) := by decide +kernel
theorem dX1_takeFrom_54 : decode cX1_takeFrom 54 = .ok (.iconst 0, 1) := by decide +kernel
theorem dX1_takeFrom_55 : decode cX1_takeFrom 55 = .ok (.bipush 6, 2) := by decide +kernel
theorem dX1_takeFrom_57 : decode cX1_takeFrom 57 = .ok (.invokestatic 41, 3) := by decide +kernel
theorem dX1_takeFrom_60 : decode cX1_takeFrom 60 = .ok (.aload_n 1, 1) := by decide +kernel
theorem dX1_takeFrom_61 : decode cX1_takeFrom 61 = .ok (.getfield 24, 3) := by decide +kernel
theorem dX1_takeFrom_64 : decode cX1_takeFrom 64 = .ok (.iconst 0, 1) := by decide +kernel
theorem dX1_takeFrom_65 : decode cX1_takeFrom 65 = .ok (.aload_n 0, 1) := by decide +kernel
theorem dX1_takeFrom_66 : decode cX1_takeFrom 66 = .ok (.getfield 24, 3) := by decide +kernel
theorem dX1_takeFrom_69 : decode cX1_takeFrom 69 = .ok (.iconst 0, 1) := by decide +kernel
theorem dX1_takeFrom_70 : decode cX1_takeFrom 70 = .ok (.bipush 6, 2) := by decide +kernel
theorem dX1_takeFrom_72 : decode cX1_takeFrom 72 = .ok (.invokestatic 41, 3) := by decide +kernel
theorem dX1_takeFrom_75 : decode cX1_takeFrom 75 = .ok (.aload_n 0, 1) := by decide +kernel
theorem dX1_takeFrom_76 : decode cX1_takeFrom 76 = .ok (.aload_n 1, 1) := by decide +kernel
theorem dX1_takeFrom_77 : decode cX1_takeFrom 77 = .ok (.getfield 27, 3) := by decide +kernel
theorem dX1_takeFrom_80 : decode cX1_takeFrom 80 = .ok (.putfield 27, 3) := by decide +kernel
theorem dX1_takeFrom_83 : decode cX1_takeFrom 83 = .ok (.aload_n 0, 1) := by decide +kernel
theorem dX1_takeFrom_84 : decode cX1_takeFrom 84 = .ok (.aload_n 1, 1) := by decide +kernel
theorem dX1_takeFrom_85 : decode cX1_takeFrom 85 = .ok (.getfield 47, 3) := by decide +kernel
theorem dX1_takeFrom_88 : decode cX1_takeFrom 88 = .ok (.putfield 47, 3) := by decide +kernel
theorem dX1_takeFrom_91 : decode cX1_takeFrom 91 = .ok (.aload_n 0, 1) := by decide +kernel
theorem dX1_takeFrom_92 : decode cX1_takeFrom 92 = .ok (.aload_n 1, 1) := by decide +kernel
theorem dX1_takeFrom_93 : decode cX1_takeFrom 93 = .ok (.getfield 50, 3) := by decide +kernel
theorem dX1_takeFrom_96 : decode cX1_takeFrom 96 = .ok (.putfield 50, 3) := by decide +kernel
theorem dX1_takeFrom_99 : decode cX1_takeFrom 99 = .ok (.aload_n 0, 1) := by decide +kernel
theorem dX1_takeFrom_100 : decode cX1_takeFrom 100 = .ok (.aload_n 1, 1) := by decide +kernel
theorem dX1_takeFrom_101 : decode cX1_takeFrom 101 = .ok (.getfield 31, 3) := by decide +kernel
theorem dX1_takeFrom_104 : decode cX1_takeFrom 104 = .ok (.putfield 31, 3) := by decide +kernel
theorem dX1_takeFrom_107 : decode cX1_takeFrom 107 = .ok (.aload_n 0, 1) := by decide +kernel
theorem dX1_takeFrom_108 : decode cX1_takeFrom 108 = .ok (.aload_n 1, 1) := by decide +kernel
theorem dX1_takeFrom_109 : decode cX1_takeFrom 109 = .ok (.getfield 35, 3) := by decide +kernel
theorem dX1_takeFrom_112 : decode cX1_takeFrom 112 = .ok (.putfield 35, 3) := by decide +kernel
theorem dX1_takeFrom_115 : decode cX1_takeFrom 115 = .ok (.aload_n 0, 1) := by decide +kernel
theorem dX1_takeFrom_116 : decode cX1_takeFrom 116 = .ok (.aload_n 1, 1) := by decide +kernel
theorem dX1_takeFrom_117 : decode cX1_takeFrom 117 = .ok (.getfield 38, 3) := by decide +kernel
theorem dX1_takeFrom_120 : decode cX1_takeFrom 120 = .ok (.putfield 38, 3) := by decide +kernel
theorem dX1_takeFrom_123 : decode cX1_takeFrom 123 = .ok (.return_, 1) := by decide +kernel
theorem dX1_isCut_0 : decode cX1_isCut 0 = .ok (.aload_n 0, 1) := by decide +kernel
theorem dX1_isCut_1 : decode cX1_isCut 1 = .ok (.getfield 38, 3) := by decide +kernel
theorem dX1_isCut_4 : decode cX1_isCut 4 = .ok (.iload_n 1, 1) := by decide +kernel
theorem dX1_isCut_5 : decode cX1_isCut 5 = .ok (.ishr, 1) := by decide +kernel
theorem dX1_isCut_6 : decode cX1_isCut 6 = .ok (.iconst 1, 1) := by decide +kernel
theorem dX1_isCut_7 : decode cX1_isCut 7 = .ok (.iand, 1) := by decide +kernel
theorem dX1_isCut_8 : decode cX1_isCut 8 = .ok (.iconst 1, 1) := by decide +kernel
theorem dX1_isCut_9 : decode cX1_isCut 9 = .ok (.if_icmp .ne 7, 3) := by decide +kernel
theorem dX1_isCut_12 : decode cX1_isCut 12 = .ok (.iconst 1, 1) := by decide +kernel
theorem dX1_isCut_13 : decode cX1_isCut 13 = .ok (.goto 4, 3) := by decide +kernel
theorem dX1_isCut_16 : decode cX1_isCut 16 = .ok (.iconst 0, 1) := by decide +kernel
theorem dX1_isCut_17 : decode cX1_isCut 17 = .ok (.ireturn, 1) := by decide +kernel
theorem dX1_dip_0 : decode cX1_dip 0 = .ok (.aload_n 0, 1) := by decide +kernel
theorem dX1_dip_1 : decode cX1_dip 1 = .ok (.getfield 18, 3) := by decide +kernel
theorem dX1_dip_4 : decode cX1_dip 4 = .ok (.iload_n 1, 1) := by decide +kernel
theorem dX1_dip_5 : decode cX1_dip 5 = .ok (.iaload, 1) := by decide +kernel
theorem dX1_dip_6 : decode cX1_dip 6 = .ok (.aload_n 0, 1) := by decide +kernel
theorem dX1_dip_7 : decode cX1_dip 7 = .ok (.getfield 15, 3) := by decide +kernel
theorem dX1_dip_10 : decode cX1_dip 10 = .ok (.iload_n 1, 1) := by decide +kernel
theorem dX1_dip_11 : decode cX1_dip 11 = .ok (.iaload, 1) := by decide +kernel
theorem dX1_dip_12 : decode cX1_dip 12 = .ok (.isub, 1) := by decide +kernel
theorem dX1_dip_13 : decode cX1_dip 13 = .ok (.istore_n 3, 1) := by decide +kernel
theorem dX1_dip_14 : decode cX1_dip 14 = .ok (.aload_n 0, 1) := by decide +kernel
theorem dX1_dip_15 : decode cX1_dip 15 = .ok (.getfield 21, 3) := by decide +kernel
theorem dX1_dip_18 : decode cX1_dip 18 = .ok (.iload_n 1, 1) := by decide +kernel
theorem dX1_dip_19 : decode cX1_dip 19 = .ok (.iaload, 1) := by decide +kernel
theorem dX1_dip_20 : decode cX1_dip 20 = .ok (.iload_n 3, 1) := by decide +kernel
theorem dX1_dip_21 : decode cX1_dip 21 = .ok (.iconst 2, 1) := by decide +kernel
theorem dX1_dip_22 : decode cX1_dip 22 = .ok (.idiv, 1) := by decide +kernel
theorem dX1_dip_23 : decode cX1_dip 23 = .ok (.iadd, 1) := by decide +kernel
theorem dX1_dip_24 : decode cX1_dip 24 = .ok (.istore 4, 2) := by decide +kernel
theorem dX1_dip_26 : decode cX1_dip 26 = .ok (.aload_n 0, 1) := by decide +kernel
theorem dX1_dip_27 : decode cX1_dip 27 = .ok (.getfield 9, 3) := by decide +kernel
theorem dX1_dip_30 : decode cX1_dip 30 = .ok (.iload_n 1, 1) := by decide +kernel
theorem dX1_dip_31 : decode cX1_dip 31 = .ok (.iaload, 1) := by decide +kernel
theorem dX1_dip_32 : decode cX1_dip 32 = .ok (.tableswitch 49 2 5 #[32, 37, 45, 47], 32) := by decide +kernel
theorem dX1_dip_64 : decode cX1_dip 64 = .ok (.iload 4, 2) := by decide +kernel
theorem dX1_dip_66 : decode cX1_dip 66 = .ok (.iconst 2, 1) := by decide +kernel
theorem dX1_dip_67 : decode cX1_dip 67 = .ok (.idiv, 1) := by decide +kernel
theorem dX1_dip_68 : decode cX1_dip 68 = .ok (.ireturn, 1) := by decide +kernel
theorem dX1_dip_69 : decode cX1_dip 69 = .ok (.iload 4, 2) := by decide +kernel
theorem dX1_dip_71 : decode cX1_dip 71 = .ok (.iload_n 2, 1) := by decide +kernel
theorem dX1_dip_72 : decode cX1_dip 72 = .ok (.bipush 10, 2) := by decide +kernel
theorem dX1_dip_74 : decode cX1_dip 74 = .ok (.idiv, 1) := by decide +kernel
theorem dX1_dip_75 : decode cX1_dip 75 = .ok (.iadd, 1) := by decide +kernel
theorem dX1_dip_76 : decode cX1_dip 76 = .ok (.ireturn, 1) := by decide +kernel
theorem dX1_dip_77 : decode cX1_dip 77 = .ok (.iload_n 3, 1) := by decide +kernel
theorem dX1_dip_78 : decode cX1_dip 78 = .ok (.ireturn, 1) := by decide +kernel
theorem dX1_dip_79 : decode cX1_dip 79 = .ok (.iconst 0, 1) := by decide +kernel
theorem dX1_dip_80 : decode cX1_dip 80 = .ok (.ireturn, 1) := by decide +kernel
theorem dX1_dip_81 : decode cX1_dip 81 = .ok (.iload 4, 2) := by decide +kernel
theorem dX1_dip_83 : decode cX1_dip 83 = .ok (.ireturn, 1) := by decide +kernel
theorem dX1_isDown_0 : decode cX1_isDown 0 = .ok (.aload_n 0, 1) := by decide +kernel
theorem dX1_isDown_1 : decode cX1_isDown 1 = .ok (.iload_n 1, 1) := by decide +kernel
theorem dX1_isDown_2 : decode cX1_isDown 2 = .ok (.invokevirtual 53, 3) := by decide +kernel
theorem dX1_isDown_5 : decode cX1_isDown 5 = .ok (.ifCond .ne 16, 3) := by decide +kernel
theorem dX1_isDown_8 : decode cX1_isDown 8 = .ok (.aload_n 0, 1) := by decide +kernel
theorem dX1_isDown_9 : decode cX1_isDown 9 = .ok (.iload_n 1, 1) := by decide +kernel
theorem dX1_isDown_10 : decode cX1_isDown 10 = .ok (.iload_n 2, 1) := by decide +kernel
theorem dX1_isDown_11 : decode cX1_isDown 11 = .ok (.invokevirtual 57, 3) := by decide +kernel
theorem dX1_isDown_14 : decode cX1_isDown 14 = .ok (.aload_n 0, 1) := by decide +kernel
theorem dX1_isDown_15 : decode cX1_isDown 15 = .ok (.getfield 47, 3) := by decide +kernel
theorem dX1_isDown_18 : decode cX1_isDown 18 = .ok (.if_icmp .le 7, 3) := by decide +kernel
theorem dX1_isDown_21 : decode cX1_isDown 21 = .ok (.iconst 1, 1) := by decide +kernel
theorem dX1_isDown_22 : decode cX1_isDown 22 = .ok (.goto 4, 3) := by decide +kernel
theorem dX1_isDown_25 : decode cX1_isDown 25 = .ok (.iconst 0, 1) := by decide +kernel
theorem dX1_isDown_26 : decode cX1_isDown 26 = .ok (.ireturn, 1) := by decide +kernel
theorem dX1_downBits_0 : decode cX1_downBits 0 = .ok (.iconst 0, 1) := by decide +kernel
theorem dX1_downBits_1 : decode cX1_downBits 1 = .ok (.istore_n 2, 1) := by decide +kernel
theorem dX1_downBits_2 : decode cX1_downBits 2 = .ok (.iconst 0, 1) := by decide +kernel
theorem dX1_downBits_3 : decode cX1_downBits 3 = .ok (.istore_n 3, 1) := by decide +kernel
theorem dX1_downBits_4 : decode cX1_downBits 4 = .ok (.iload_n 3, 1) := by decide +kernel
theorem dX1_downBits_5 : decode cX1_downBits 5 = .ok (.aload_n 0, 1) := by decide +kernel
theorem dX1_downBits_6 : decode cX1_downBits 6 = .ok (.getfield 35, 3) := by decide +kernel
theorem dX1_downBits_9 : decode cX1_downBits 9 = .ok (.if_icmp .ge 24, 3) := by decide +kernel
theorem dX1_downBits_12 : decode cX1_downBits 12 = .ok (.aload_n 0, 1) := by decide +kernel
theorem dX1_downBits_13 : decode cX1_downBits 13 = .ok (.iload_n 3, 1) := by decide +kernel
theorem dX1_downBits_14 : decode cX1_downBits 14 = .ok (.iload_n 1, 1) := by decide +kernel
theorem dX1_downBits_15 : decode cX1_downBits 15 = .ok (.invokevirtual 61, 3) := by decide +kernel
theorem dX1_downBits_18 : decode cX1_downBits 18 = .ok (.ifCond .eq 9, 3) := by decide +kernel
theorem dX1_downBits_21 : decode cX1_downBits 21 = .ok (.iload_n 2, 1) := by decide +kernel
theorem dX1_downBits_22 : decode cX1_downBits 22 = .ok (.iconst 1, 1) := by decide +kernel
theorem dX1_downBits_23 : decode cX1_downBits 23 = .ok (.iload_n 3, 1) := by decide +kernel
theorem dX1_downBits_24 : decode cX1_downBits 24 = .ok (.ishl, 1) := by decide +kernel
theorem dX1_downBits_25 : decode cX1_downBits 25 = .ok (.ior, 1) := by decide +kernel
theorem dX1_downBits_26 : decode cX1_downBits 26 = .ok (.istore_n 2, 1) := by decide +kernel
theorem dX1_downBits_27 : decode cX1_downBits 27 = .ok (.iinc 3 1, 3) := by decide +kernel
theorem dX1_downBits_30 : decode cX1_downBits 30 = .ok (.goto (-26), 3) := by decide +kernel
theorem dX1_downBits_33 : decode cX1_downBits 33 = .ok (.iload_n 2, 1) := by decide +kernel
theorem dX1_downBits_34 : decode cX1_downBits 34 = .ok (.ireturn, 1) := by decide +kernel
theorem dX1_place_0 : decode cX1_place 0 = .ok (.aload_n 0, 1) := by decide +kernel
theorem dX1_place_1 : decode cX1_place 1 = .ok (.getfield 15, 3) := by decide +kernel
theorem dX1_place_4 : decode cX1_place 4 = .ok (.iload_n 1, 1) := by decide +kernel
theorem dX1_place_5 : decode cX1_place 5 = .ok (.iaload, 1) := by decide +kernel
theorem dX1_place_6 : decode cX1_place 6 = .ok (.aload_n 0, 1) := by decide +kernel
theorem dX1_place_7 : decode cX1_place 7 = .ok (.getfield 18, 3) := by decide +kernel
theorem dX1_place_10 : decode cX1_place 10 = .ok (.iload_n 1, 1) := by decide +kernel
theorem dX1_place_11 : decode cX1_place 11 = .ok (.iaload, 1) := by decide +kernel
theorem dX1_place_12 : decode cX1_place 12 = .ok (.iadd, 1) := by decide +kernel
theorem dX1_place_13 : decode cX1_place 13 = .ok (.iconst 2, 1) := by decide +kernel
theorem dX1_place_14 : decode cX1_place 14 = .ok (.aload_n 0, 1) := by decide +kernel
theorem dX1_place_15 : decode cX1_place 15 = .ok (.iload_n 1, 1) := by decide +kernel
theorem dX1_place_16 : decode cX1_place 16 = .ok (.iload_n 2, 1) := by decide +kernel
theorem dX1_place_17 : decode cX1_place 17 = .ok (.invokevirtual 65, 3) := by decide +kernel
theorem dX1_place_20 : decode cX1_place 20 = .ok (.imul, 1) := by decide +kernel
theorem dX1_place_21 : decode cX1_place 21 = .ok (.iadd, 1) := by decide +kernel
theorem dX1_place_22 : decode cX1_place 22 = .ok (.ireturn, 1) := by decide +kernel
theorem dX1_offset_0 : decode cX1_offset 0 = .ok (.aload_n 0, 1) := by decide +kernel
theorem dX1_offset_1 : decode cX1_offset 1 = .ok (.getfield 9, 3) := by decide +kernel
theorem dX1_offset_4 : decode cX1_offset 4 = .ok (.iload_n 1, 1) := by decide +kernel
theorem dX1_offset_5 : decode cX1_offset 5 = .ok (.iaload, 1) := by decide +kernel
theorem dX1_offset_6 : decode cX1_offset 6 = .ok (.tableswitch 48 3 5 #[26, 39, 41], 26) := by decide +kernel
theorem dX1_offset_32 : decode cX1_offset 32 = .ok (.aload_n 0, 1) := by decide +kernel
theorem dX1_offset_33 : decode cX1_offset 33 = .ok (.getfield 24, 3) := by decide +kernel
theorem dX1_offset_36 : decode cX1_offset 36 = .ok (.iload_n 1, 1) := by decide +kernel
theorem dX1_offset_37 : decode cX1_offset 37 = .ok (.iaload, 1) := by decide +kernel
theorem dX1_offset_38 : decode cX1_offset 38 = .ok (.iload_n 2, 1) := by decide +kernel
theorem dX1_offset_39 : decode cX1_offset 39 = .ok (.iconst 2, 1) := by decide +kernel
theorem dX1_offset_40 : decode cX1_offset 40 = .ok (.idiv, 1) := by decide +kernel
theorem dX1_offset_41 : decode cX1_offset 41 = .ok (.invokestatic 68, 3) := by decide +kernel
theorem dX1_offset_44 : decode cX1_offset 44 = .ok (.ireturn, 1) := by decide +kernel
theorem dX1_offset_45 : decode cX1_offset 45 = .ok (.iconst 0, 1) := by decide +kernel
theorem dX1_offset_46 : decode cX1_offset 46 = .ok (.ireturn, 1) := by decide +kernel
theorem dX1_offset_47 : decode cX1_offset 47 = .ok (.aload_n 0, 1) := by decide +kernel
theorem dX1_offset_48 : decode cX1_offset 48 = .ok (.getfield 24, 3) := by decide +kernel
theorem dX1_offset_51 : decode cX1_offset 51 = .ok (.iload_n 1, 1) := by decide +kernel
theorem dX1_offset_52 : decode cX1_offset 52 = .ok (.iaload, 1) := by decide +kernel
theorem dX1_offset_53 : decode cX1_offset 53 = .ok (.ireturn, 1) := by decide +kernel
theorem dX1_offset_54 : decode cX1_offset 54 = .ok (.aload_n 0, 1) := by decide +kernel
theorem dX1_offset_55 : decode cX1_offset 55 = .ok (.getfield 24, 3) := by decide +kernel
theorem dX1_offset_58 : decode cX1_offset 58 = .ok (.iload_n 1, 1) := by decide +kernel
theorem dX1_offset_59 : decode cX1_offset 59 = .ok (.iaload, 1) := by decide +kernel
theorem dX1_offset_60 : decode cX1_offset 60 = .ok (.iload_n 2, 1) := by decide +kernel
theorem dX1_offset_61 : decode cX1_offset 61 = .ok (.invokestatic 68, 3) := by decide +kernel
theorem dX1_offset_64 : decode cX1_offset 64 = .ok (.ireturn, 1) := by decide +kernel
theorem dX1_swung_0 : decode cX1_swung 0 = .ok (.iload_n 0, 1) := by decide +kernel
theorem dX1_swung_1 : decode cX1_swung 1 = .ok (.ifCond .gt 5, 3) := by decide +kernel
theorem dX1_swung_4 : decode cX1_swung 4 = .ok (.iconst 0, 1) := by decide +kernel
theorem dX1_swung_5 : decode cX1_swung 5 = .ok (.ireturn, 1) := by decide +kernel
theorem dX1_swung_6 : decode cX1_swung 6 = .ok (.iload_n 1, 1) := by decide +kernel
theorem dX1_swung_7 : decode cX1_swung 7 = .ok (.iconst 4, 1) := by decide +kernel
theorem dX1_swung_8 : decode cX1_swung 8 = .ok (.iload_n 0, 1) := by decide +kernel
theorem dX1_swung_9 : decode cX1_swung 9 = .ok (.imul, 1) := by decide +kernel
theorem dX1_swung_10 : decode cX1_swung 10 = .ok (.irem, 1) := by decide +kernel
theorem dX1_swung_11 : decode cX1_swung 11 = .ok (.istore_n 2, 1) := by decide +kernel
theorem dX1_swung_12 : decode cX1_swung 12 = .ok (.iload_n 2, 1) := by decide +kernel
theorem dX1_swung_13 : decode cX1_swung 13 = .ok (.iload_n 0, 1) := by decide +kernel
theorem dX1_swung_14 : decode cX1_swung 14 = .ok (.if_icmp .gt 5, 3) := by decide +kernel
theorem dX1_swung_17 : decode cX1_swung 17 = .ok (.iload_n 2, 1) := by decide +kernel
theorem dX1_swung_18 : decode cX1_swung 18 = .ok (.ireturn, 1) := by decide +kernel
theorem dX1_swung_19 : decode cX1_swung 19 = .ok (.iload_n 2, 1) := by decide +kernel
theorem dX1_swung_20 : decode cX1_swung 20 = .ok (.iconst 3, 1) := by decide +kernel
theorem dX1_swung_21 : decode cX1_swung 21 = .ok (.iload_n 0, 1) := by decide +kernel
theorem dX1_swung_22 : decode cX1_swung 22 = .ok (.imul, 1) := by decide +kernel
theorem dX1_swung_23 : decode cX1_swung 23 = .ok (.if_icmp .gt 11, 3) := by decide +kernel
theorem dX1_swung_26 : decode cX1_swung 26 = .ok (.iconst 2, 1) := by decide +kernel
theorem dX1_swung_27 : decode cX1_swung 27 = .ok (.iload_n 0, 1) := by decide +kernel
theorem dX1_swung_28 : decode cX1_swung 28 = .ok (.imul, 1) := by decide +kernel
theorem dX1_swung_29 : decode cX1_swung 29 = .ok (.iload_n 2, 1) := by decide +kernel
theorem dX1_swung_30 : decode cX1_swung 30 = .ok (.isub, 1) := by decide +kernel
theorem dX1_swung_31 : decode cX1_swung 31 = .ok (.goto 8, 3) := by decide +kernel
theorem dX1_swung_34 : decode cX1_swung 34 = .ok (.iload_n 2, 1) := by decide +kernel
theorem dX1_swung_35 : decode cX1_swung 35 = .ok (.iconst 4, 1) := by decide +kernel
theorem dX1_swung_36 : decode cX1_swung 36 = .ok (.iload_n 0, 1) := by decide +kernel
theorem dX1_swung_37 : decode cX1_swung 37 = .ok (.imul, 1) := by decide +kernel
theorem dX1_swung_38 : decode cX1_swung 38 = .ok (.isub, 1) := by decide +kernel
theorem dX1_swung_39 : decode cX1_swung 39 = .ok (.ireturn, 1) := by decide +kernel
theorem dX1_spot_0 : decode cX1_spot 0 = .ok (.aload_n 0, 1) := by decide +kernel
theorem dX1_spot_1 : decode cX1_spot 1 = .ok (.iload_n 1, 1) := by decide +kernel
theorem dX1_spot_2 : decode cX1_spot 2 = .ok (.iload_n 2, 1) := by decide +kernel
theorem dX1_spot_3 : decode cX1_spot 3 = .ok (.invokevirtual 61, 3) := by decide +kernel
theorem dX1_spot_6 : decode cX1_spot 6 = .ok (.ifCond .eq 9, 3) := by decide +kernel
theorem dX1_spot_9 : decode cX1_spot 9 = .ok (.sipush (-1000), 3) := by decide +kernel
theorem dX1_spot_12 : decode cX1_spot 12 = .ok (.goto 9, 3) := by decide +kernel
theorem dX1_spot_15 : decode cX1_spot 15 = .ok (.aload_n 0, 1) := by decide +kernel
theorem dX1_spot_16 : decode cX1_spot 16 = .ok (.iload_n 1, 1) := by decide +kernel
theorem dX1_spot_17 : decode cX1_spot 17 = .ok (.iload_n 2, 1) := by decide +kernel
theorem dX1_spot_18 : decode cX1_spot 18 = .ok (.invokevirtual 71, 3) := by decide +kernel
theorem dX1_spot_21 : decode cX1_spot 21 = .ok (.ireturn, 1) := by decide +kernel
theorem dX1_areNear_0 : decode cX1_areNear 0 = .ok (.iload_n 1, 1) := by decide +kernel
theorem dX1_areNear_1 : decode cX1_areNear 1 = .ok (.sipush (-1000), 3) := by decide +kernel
theorem dX1_areNear_4 : decode cX1_areNear 4 = .ok (.if_icmp .eq 29, 3) := by decide +kernel
theorem dX1_areNear_7 : decode cX1_areNear 7 = .ok (.iload_n 2, 1) := by decide +kernel
theorem dX1_areNear_8 : decode cX1_areNear 8 = .ok (.sipush (-1000), 3) := by decide +kernel
theorem dX1_areNear_11 : decode cX1_areNear 11 = .ok (.if_icmp .eq 22, 3) := by decide +kernel
theorem dX1_areNear_14 : decode cX1_areNear 14 = .ok (.iload_n 1, 1) := by decide +kernel
theorem dX1_areNear_15 : decode cX1_areNear 15 = .ok (.iload_n 2, 1) := by decide +kernel
theorem dX1_areNear_16 : decode cX1_areNear 16 = .ok (.isub, 1) := by decide +kernel
theorem dX1_areNear_17 : decode cX1_areNear 17 = .ok (.invokestatic 74, 3) := by decide +kernel
theorem dX1_areNear_20 : decode cX1_areNear 20 = .ok (.iconst 2, 1) := by decide +kernel
theorem dX1_areNear_21 : decode cX1_areNear 21 = .ok (.aload_n 0, 1) := by decide +kernel
theorem dX1_areNear_22 : decode cX1_areNear 22 = .ok (.getfield 50, 3) := by decide +kernel
theorem dX1_areNear_25 : decode cX1_areNear 25 = .ok (.imul, 1) := by decide +kernel
theorem dX1_areNear_26 : decode cX1_areNear 26 = .ok (.if_icmp .gt 7, 3) := by decide +kernel
theorem dX1_areNear_29 : decode cX1_areNear 29 = .ok (.iconst 1, 1) := by decide +kernel
theorem dX1_areNear_30 : decode cX1_areNear 30 = .ok (.goto 4, 3) := by decide +kernel
theorem dX1_areNear_33 : decode cX1_areNear 33 = .ok (.iconst 0, 1) := by decide +kernel
theorem dX1_areNear_34 : decode cX1_areNear 34 = .ok (.ireturn, 1) := by decide +kernel
theorem dX1_nearBits_0 : decode cX1_nearBits 0 = .ok (.iconst 0, 1) := by decide +kernel
theorem dX1_nearBits_1 : decode cX1_nearBits 1 = .ok (.istore_n 3, 1) := by decide +kernel
theorem dX1_nearBits_2 : decode cX1_nearBits 2 = .ok (.aload_n 0, 1) := by decide +kernel
theorem dX1_nearBits_3 : decode cX1_nearBits 3 = .ok (.iload_n 1, 1) := by decide +kernel
theorem dX1_nearBits_4 : decode cX1_nearBits 4 = .ok (.iload_n 2, 1) := by decide +kernel
theorem dX1_nearBits_5 : decode cX1_nearBits 5 = .ok (.invokevirtual 80, 3) := by decide +kernel
theorem dX1_nearBits_8 : decode cX1_nearBits 8 = .ok (.istore 4, 2) := by decide +kernel
theorem dX1_nearBits_10 : decode cX1_nearBits 10 = .ok (.iconst 0, 1) := by decide +kernel
theorem dX1_nearBits_11 : decode cX1_nearBits 11 = .ok (.istore 5, 2) := by decide +kernel
theorem dX1_nearBits_13 : decode cX1_nearBits 13 = .ok (.iload 5, 2) := by decide +kernel
theorem dX1_nearBits_15 : decode cX1_nearBits 15 = .ok (.aload_n 0, 1) := by decide +kernel
theorem dX1_nearBits_16 : decode cX1_nearBits 16 = .ok (.getfield 35, 3) := by decide +kernel
theorem dX1_nearBits_19 : decode cX1_nearBits 19 = .ok (.if_icmp .ge 38, 3) := by decide +kernel
theorem dX1_nearBits_22 : decode cX1_nearBits 22 = .ok (.iload 5, 2) := by decide +kernel
theorem dX1_nearBits_24 : decode cX1_nearBits 24 = .ok (.iload_n 1, 1) := by decide +kernel
theorem dX1_nearBits_25 : decode cX1_nearBits 25 = .ok (.if_icmp .eq 26, 3) := by decide +kernel
theorem dX1_nearBits_28 : decode cX1_nearBits 28 = .ok (.aload_n 0, 1) := by decide +kernel
theorem dX1_nearBits_29 : decode cX1_nearBits 29 = .ok (.iload 4, 2) := by decide +kernel
theorem dX1_nearBits_31 : decode cX1_nearBits 31 = .ok (.aload_n 0, 1) := by decide +kernel
theorem dX1_nearBits_32 : decode cX1_nearBits 32 = .ok (.iload 5, 2) := by decide +kernel
theorem dX1_nearBits_34 : decode cX1_nearBits 34 = .ok (.iload_n 2, 1) := by decide +kernel
theorem dX1_nearBits_35 : decode cX1_nearBits 35 = .ok (.invokevirtual 80, 3) := by decide +kernel
theorem dX1_nearBits_38 : decode cX1_nearBits 38 = .ok (.invokevirtual 83, 3) := by decide +kernel
theorem dX1_nearBits_41 : decode cX1_nearBits 41 = .ok (.ifCond .eq 10, 3) := by decide +kernel
theorem dX1_nearBits_44 : decode cX1_nearBits 44 = .ok (.iload_n 3, 1) := by decide +kernel
theorem dX1_nearBits_45 : decode cX1_nearBits 45 = .ok (.iconst 1, 1) := by decide +kernel
theorem dX1_nearBits_46 : decode cX1_nearBits 46 = .ok (.iload 5, 2) := by decide +kernel
theorem dX1_nearBits_48 : decode cX1_nearBits 48 = .ok (.ishl, 1) := by decide +kernel
theorem dX1_nearBits_49 : decode cX1_nearBits 49 = .ok (.ior, 1) := by decide +kernel
theorem dX1_nearBits_50 : decode cX1_nearBits 50 = .ok (.istore_n 3, 1) := by decide +kernel
theorem dX1_nearBits_51 : decode cX1_nearBits 51 = .ok (.iinc 5 1, 3) := by decide +kernel
theorem dX1_nearBits_54 : decode cX1_nearBits 54 = .ok (.goto (-41), 3) := by decide +kernel
theorem dX1_nearBits_57 : decode cX1_nearBits 57 = .ok (.iload_n 3, 1) := by decide +kernel
theorem dX1_nearBits_58 : decode cX1_nearBits 58 = .ok (.ireturn, 1) := by decide +kernel
theorem dX2_init_0 : decode cX2_init 0 = .ok (.aload_n 0, 1) := by decide +kernel
theorem dX2_init_1 : decode cX2_init 1 = .ok (.invokespecial 3, 3) := by decide +kernel
theorem dX2_init_4 : decode cX2_init 4 = .ok (.aload_n 0, 1) := by decide +kernel
theorem dX2_init_5 : decode cX2_init 5 = .ok (.sipush 360, 3) := by decide +kernel
theorem dX2_init_8 : decode cX2_init 8 = .ok (.newarray .int, 2) := by decide +kernel
theorem dX2_init_10 : decode cX2_init 10 = .ok (.putfield 9, 3) := by decide +kernel
theorem dX2_init_13 : decode cX2_init 13 = .ok (.aload_n 0, 1) := by decide +kernel
theorem dX2_init_14 : decode cX2_init 14 = .ok (.sipush 360, 3) := by decide +kernel
theorem dX2_init_17 : decode cX2_init 17 = .ok (.newarray .int, 2) := by decide +kernel
theorem dX2_init_19 : decode cX2_init 19 = .ok (.putfield 15, 3) := by decide +kernel
theorem dX2_init_22 : decode cX2_init 22 = .ok (.aload_n 0, 1) := by decide +kernel
theorem dX2_init_23 : decode cX2_init 23 = .ok (.bipush 6, 2) := by decide +kernel
theorem dX2_init_25 : decode cX2_init 25 = .ok (.newarray .int, 2) := by decide +kernel
theorem dX2_init_27 : decode cX2_init 27 = .ok (.putfield 18, 3) := by decide +kernel
theorem dX2_init_30 : decode cX2_init 30 = .ok (.return_, 1) := by decide +kernel
theorem dX2_foresee_0 : decode cX2_foresee 0 = .ok (.aload_n 0, 1) := by decide +kernel
theorem dX2_foresee_1 : decode cX2_foresee 1 = .ok (.aload_n 1, 1) := by decide +kernel
theorem dX2_foresee_2 : decode cX2_foresee 2 = .ok (.getfield 21, 3) := by decide +kernel
theorem dX2_foresee_5 : decode cX2_foresee 5 = .ok (.putfield 27, 3) := by decide +kernel
theorem dX2_foresee_8 : decode cX2_foresee 8 = .ok (.iconst 0, 1) := by decide +kernel
theorem dX2_foresee_9 : decode cX2_foresee 9 = .ok (.istore_n 3, 1) := by decide +kernel
theorem dX2_foresee_10 : decode cX2_foresee 10 = .ok (.iload_n 3, 1) := by decide +kernel
theorem dX2_foresee_11 : decode cX2_foresee 11 = .ok (.iload_n 2, 1) := by decide +kernel
theorem dX2_foresee_12 : decode cX2_foresee 12 = .ok (.if_icmp .ge 88, 3) := by decide +kernel
theorem dX2_foresee_15 : decode cX2_foresee 15 = .ok (.iload_n 3, 1) := by decide +kernel
theorem dX2_foresee_16 : decode cX2_foresee 16 = .ok (.bipush 60, 2) := by decide +kernel
theorem dX2_foresee_18 : decode cX2_foresee 18 = .ok (.if_icmp .ge 82, 3) := by decide +kernel
theorem dX2_foresee_21 : decode cX2_foresee 21 = .ok (.iload_n 3, 1) := by decide +kernel
theorem dX2_foresee_22 : decode cX2_foresee 22 = .ok (.bipush 6, 2) := by decide +kernel
theorem dX2_foresee_24 : decode cX2_foresee 24 = .ok (.imul, 1) := by decide +kernel
theorem dX2_foresee_25 : decode cX2_foresee 25 = .ok (.istore 4, 2) := by decide +kernel
theorem dX2_foresee_27 : decode cX2_foresee 27 = .ok (.iconst 0, 1) := by decide +kernel
theorem dX2_foresee_28 : decode cX2_foresee 28 = .ok (.istore 5, 2) := by decide +kernel
theorem dX2_foresee_30 : decode cX2_foresee 30 = .ok (.iload 5, 2) := by decide +kernel
theorem dX2_foresee_32 : decode cX2_foresee 32 = .ok (.aload_n 0, 1) := by decide +kernel
theorem dX2_foresee_33 : decode cX2_foresee 33 = .ok (.getfield 27, 3) := by decide +kernel
theorem dX2_foresee_36 : decode cX2_foresee 36 = .ok (.if_icmp .ge 31, 3) := by decide +kernel
theorem dX2_foresee_39 : decode cX2_foresee 39 = .ok (.aload_n 0, 1) := by decide +kernel
theorem dX2_foresee_40 : decode cX2_foresee 40 = .ok (.getfield 9, 3) := by decide +kernel
theorem dX2_foresee_43 : decode cX2_foresee 43 = .ok (.iload 4, 2) := by decide +kernel
theorem dX2_foresee_45 : decode cX2_foresee 45 = .ok (.iload 5, 2) := by decide +kernel
theorem dX2_foresee_47 : decode cX2_foresee 47 = .ok (.iadd, 1) := by decide +kernel
theorem dX2_foresee_48 : decode cX2_foresee 48 = .ok (.aload_n 1, 1) := by decide +kernel
theorem dX2_foresee_49 : decode cX2_foresee 49 = .ok (.iload 5, 2) := by decide +kernel
theorem dX2_foresee_51 : decode cX2_foresee 51 = .ok (.aload_n 1, 1) := by decide +kernel
theorem dX2_foresee_52 : decode cX2_foresee 52 = .ok (.getfield 28, 3) := by decide +kernel
theorem dX2_foresee_55 : decode cX2_foresee 55 = .ok (.iload_n 3, 1) := by decide +kernel
theorem dX2_foresee_56 : decode cX2_foresee 56 = .ok (.iadd, 1) := by decide +kernel
theorem dX2_foresee_57 : decode cX2_foresee 57 = .ok (.invokevirtual 31, 3) := by decide +kernel
theorem dX2_foresee_60 : decode cX2_foresee 60 = .ok (.iastore, 1) := by decide +kernel
theorem dX2_foresee_61 : decode cX2_foresee 61 = .ok (.iinc 5 1, 3) := by decide +kernel
theorem dX2_foresee_64 : decode cX2_foresee 64 = .ok (.goto (-34), 3) := by decide +kernel
theorem dX2_foresee_67 : decode cX2_foresee 67 = .ok (.iconst 0, 1) := by decide +kernel
theorem dX2_foresee_68 : decode cX2_foresee 68 = .ok (.istore 5, 2) := by decide +kernel
theorem dX2_foresee_70 : decode cX2_foresee 70 = .ok (.iload 5, 2) := by decide +kernel
theorem dX2_foresee_72 : decode cX2_foresee 72 = .ok (.aload_n 0, 1) := by decide +kernel
theorem dX2_foresee_73 : decode cX2_foresee 73 = .ok (.getfield 27, 3) := by decide +kernel
theorem dX2_foresee_76 : decode cX2_foresee 76 = .ok (.if_icmp .ge 18, 3) := by decide +kernel
theorem dX2_foresee_79 : decode cX2_foresee 79 = .ok (.aload_n 0, 1) := by decide +kernel
theorem dX2_foresee_80 : decode cX2_foresee 80 = .ok (.aload_n 1, 1) := by decide +kernel
theorem dX2_foresee_81 : decode cX2_foresee 81 = .ok (.iload 4, 2) := by decide +kernel
theorem dX2_foresee_83 : decode cX2_foresee 83 = .ok (.iload 5, 2) := by decide +kernel
theorem dX2_foresee_85 : decode cX2_foresee 85 = .ok (.invokevirtual 35, 3) := by decide +kernel
theorem dX2_foresee_88 : decode cX2_foresee 88 = .ok (.iinc 5 1, 3) := by decide +kernel
theorem dX2_foresee_91 : decode cX2_foresee 91 = .ok (.goto (-21), 3) := by decide +kernel
theorem dX2_foresee_94 : decode cX2_foresee 94 = .ok (.iinc 3 1, 3) := by decide +kernel
theorem dX2_foresee_97 : decode cX2_foresee 97 = .ok (.goto (-87), 3) := by decide +kernel
theorem dX2_foresee_100 : decode cX2_foresee 100 = .ok (.return_, 1) := by decide +kernel
theorem dX2_foreseeAnew_0 : decode cX2_foreseeAnew 0 = .ok (.iconst 0, 1) := by decide +kernel
theorem dX2_foreseeAnew_1 : decode cX2_foreseeAnew 1 = .ok (.istore 4, 2) := by decide +kernel
theorem dX2_foreseeAnew_3 : decode cX2_foreseeAnew 3 = .ok (.iload 4, 2) := by decide +kernel
theorem dX2_foreseeAnew_5 : decode cX2_foreseeAnew 5 = .ok (.iload_n 3, 1) := by decide +kernel
theorem dX2_foreseeAnew_6 : decode cX2_foreseeAnew 6 = .ok (.if_icmp .ge 52, 3) := by decide +kernel
theorem dX2_foreseeAnew_9 : decode cX2_foreseeAnew 9 = .ok (.iload 4, 2) := by decide +kernel
theorem dX2_foreseeAnew_11 : decode cX2_foreseeAnew 11 = .ok (.bipush 60, 2) := by decide +kernel
theorem dX2_foreseeAnew_13 : decode cX2_foreseeAnew 13 = .ok (.if_icmp .ge 45, 3) := by decide +kernel
theorem dX2_foreseeAnew_16 : decode cX2_foreseeAnew 16 = .ok (.iload 4, 2) := by decide +kernel
theorem dX2_foreseeAnew_18 : decode cX2_foreseeAnew 18 = .ok (.bipush 6, 2) := by decide +kernel
theorem dX2_foreseeAnew_20 : decode cX2_foreseeAnew 20 = .ok (.imul, 1) := by decide +kernel
theorem dX2_foreseeAnew_21 : decode cX2_foreseeAnew 21 = .ok (.istore 5, 2) := by decide +kernel
theorem dX2_foreseeAnew_23 : decode cX2_foreseeAnew 23 = .ok (.aload_n 0, 1) := by decide +kernel
theorem dX2_foreseeAnew_24 : decode cX2_foreseeAnew 24 = .ok (.getfield 9, 3) := by decide +kernel
theorem dX2_foreseeAnew_27 : decode cX2_foreseeAnew 27 = .ok (.iload 5, 2) := by decide +kernel
theorem dX2_foreseeAnew_29 : decode cX2_foreseeAnew 29 = .ok (.iload_n 2, 1) := by decide +kernel
theorem dX2_foreseeAnew_30 : decode cX2_foreseeAnew 30 = .ok (.iadd, 1) := by decide +kernel
theorem dX2_foreseeAnew_31 : decode cX2_foreseeAnew 31 = .ok (.aload_n 1, 1) := by decide +kernel
theorem dX2_foreseeAnew_32 : decode cX2_foreseeAnew 32 = .ok (.iload_n 2, 1) := by decide +kernel
theorem dX2_foreseeAnew_33 : decode cX2_foreseeAnew 33 = .ok (.aload_n 1, 1) := by decide +kernel
theorem dX2_foreseeAnew_34 : decode cX2_foreseeAnew 34 = .ok (.getfield 28, 3) := by decide +kernel
theorem dX2_foreseeAnew_37 : decode cX2_foreseeAnew 37 = .ok (.iload 4, 2) := by decide +kernel
theorem dX2_foreseeAnew_39 : decode cX2_foreseeAnew 39 = .ok (.iadd, 1) := by decide +kernel
theorem dX2_foreseeAnew_40 : decode cX2_foreseeAnew 40 = .ok (.invokevirtual 31, 3) := by decide +kernel
theorem dX2_foreseeAnew_43 : decode cX2_foreseeAnew 43 = .ok (.iastore, 1) := by decide +kernel
theorem dX2_foreseeAnew_44 : decode cX2_foreseeAnew 44 = .ok (.aload_n 0, 1) := by decide +kernel
theorem dX2_foreseeAnew_45 : decode cX2_foreseeAnew 45 = .ok (.aload_n 1, 1) := by decide +kernel
theorem dX2_foreseeAnew_46 : decode cX2_foreseeAnew 46 = .ok (.iload 5, 2) := by decide +kernel
theorem dX2_foreseeAnew_48 : decode cX2_foreseeAnew 48 = .ok (.iload_n 2, 1) := by decide +kernel
theorem dX2_foreseeAnew_49 : decode cX2_foreseeAnew 49 = .ok (.invokevirtual 35, 3) := by decide +kernel
theorem dX2_foreseeAnew_52 : decode cX2_foreseeAnew 52 = .ok (.iinc 4 1, 3) := by decide +kernel
theorem dX2_foreseeAnew_55 : decode cX2_foreseeAnew 55 = .ok (.goto (-52), 3) := by decide +kernel
theorem dX2_foreseeAnew_58 : decode cX2_foreseeAnew 58 = .ok (.return_, 1) := by decide +kernel
theorem dX2_link_0 : decode cX2_link 0 = .ok (.iconst 0, 1) := by decide +kernel
theorem dX2_link_1 : decode cX2_link 1 = .ok (.istore 4, 2) := by decide +kernel
theorem dX2_link_3 : decode cX2_link 3 = .ok (.iconst 0, 1) := by decide +kernel
theorem dX2_link_4 : decode cX2_link 4 = .ok (.istore 5, 2) := by decide +kernel
theorem dX2_link_6 : decode cX2_link 6 = .ok (.iload 5, 2) := by decide +kernel
theorem dX2_link_8 : decode cX2_link 8 = .ok (.aload_n 0, 1) := by decide +kernel
theorem dX2_link_9 : decode cX2_link 9 = .ok (.getfield 27, 3) := by decide +kernel
theorem dX2_link_12 : decode cX2_link 12 = .ok (.if_icmp .ge 83, 3) := by decide +kernel
theorem dX2_link_15 : decode cX2_link 15 = .ok (.iload 5, 2) := by decide +kernel
theorem dX2_link_17 : decode cX2_link 17 = .ok (.iload_n 3, 1) := by decide +kernel
theorem dX2_link_18 : decode cX2_link 18 = .ok (.if_icmp .eq 54, 3) := by decide +kernel
theorem dX2_link_21 : decode cX2_link 21 = .ok (.aload_n 1, 1) := by decide +kernel
theorem dX2_link_22 : decode cX2_link 22 = .ok (.aload_n 0, 1) := by decide +kernel
theorem dX2_link_23 : decode cX2_link 23 = .ok (.getfield 9, 3) := by decide +kernel
theorem dX2_link_26 : decode cX2_link 26 = .ok (.iload_n 2, 1) := by decide +kernel
theorem dX2_link_27 : decode cX2_link 27 = .ok (.iload_n 3, 1) := by decide +kernel
theorem dX2_link_28 : decode cX2_link 28 = .ok (.iadd, 1) := by decide +kernel
theorem dX2_link_29 : decode cX2_link 29 = .ok (.iaload, 1) := by decide +kernel
theorem dX2_link_30 : decode cX2_link 30 = .ok (.aload_n 0, 1) := by decide +kernel
theorem dX2_link_31 : decode cX2_link 31 = .ok (.getfield 9, 3) := by decide +kernel
theorem dX2_link_34 : decode cX2_link 34 = .ok (.iload_n 2, 1) := by decide +kernel
theorem dX2_link_35 : decode cX2_link 35 = .ok (.iload 5, 2) := by decide +kernel
theorem dX2_link_37 : decode cX2_link 37 = .ok (.iadd, 1) := by decide +kernel
theorem dX2_link_38 : decode cX2_link 38 = .ok (.iaload, 1) := by decide +kernel
theorem dX2_link_39 : decode cX2_link 39 = .ok (.invokevirtual 39, 3) := by decide +kernel
theorem dX2_link_42 : decode cX2_link 42 = .ok (.ifCond .eq 30, 3) := by decide +kernel
theorem dX2_link_45 : decode cX2_link 45 = .ok (.iload 4, 2) := by decide +kernel
theorem dX2_link_47 : decode cX2_link 47 = .ok (.iconst 1, 1) := by decide +kernel
theorem dX2_link_48 : decode cX2_link 48 = .ok (.iload 5, 2) := by decide +kernel
theorem dX2_link_50 : decode cX2_link 50 = .ok (.ishl, 1) := by decide +kernel
theorem dX2_link_51 : decode cX2_link 51 = .ok (.ior, 1) := by decide +kernel
theorem dX2_link_52 : decode cX2_link 52 = .ok (.istore 4, 2) := by decide +kernel
theorem dX2_link_54 : decode cX2_link 54 = .ok (.aload_n 0, 1) := by decide +kernel
theorem dX2_link_55 : decode cX2_link 55 = .ok (.getfield 15, 3) := by decide +kernel
theorem dX2_link_58 : decode cX2_link 58 = .ok (.iload_n 2, 1) := by decide +kernel
theorem dX2_link_59 : decode cX2_link 59 = .ok (.iload 5, 2) := by decide +kernel
theorem dX2_link_61 : decode cX2_link 61 = .ok (.iadd, 1) := by decide +kernel
theorem dX2_link_62 : decode cX2_link 62 = .ok (.dup2, 1) := by decide +kernel
theorem dX2_link_63 : decode cX2_link 63 = .ok (.iaload, 1) := by decide +kernel
theorem dX2_link_64 : decode cX2_link 64 = .ok (.iconst 1, 1) := by decide +kernel
theorem dX2_link_65 : decode cX2_link 65 = .ok (.iload_n 3, 1) := by decide +kernel
theorem dX2_link_66 : decode cX2_link 66 = .ok (.ishl, 1) := by decide +kernel
theorem dX2_link_67 : decode cX2_link 67 = .ok (.ior, 1) := by decide +kernel
theorem dX2_link_68 : decode cX2_link 68 = .ok (.iastore, 1) := by decide +kernel
theorem dX2_link_69 : decode cX2_link 69 = .ok (.goto 20, 3) := by decide +kernel
theorem dX2_link_72 : decode cX2_link 72 = .ok (.aload_n 0, 1) := by decide +kernel
theorem dX2_link_73 : decode cX2_link 73 = .ok (.getfield 15, 3) := by decide +kernel
theorem dX2_link_76 : decode cX2_link 76 = .ok (.iload_n 2, 1) := by decide +kernel
theorem dX2_link_77 : decode cX2_link 77 = .ok (.iload 5, 2) := by decide +kernel
theorem dX2_link_79 : decode cX2_link 79 = .ok (.iadd, 1) := by decide +kernel
theorem dX2_link_80 : decode cX2_link 80 = .ok (.dup2, 1) := by decide +kernel
theorem dX2_link_81 : decode cX2_link 81 = .ok (.iaload, 1) := by decide +kernel
theorem dX2_link_82 : decode cX2_link 82 = .ok (.iconst 1, 1) := by decide +kernel
theorem dX2_link_83 : decode cX2_link 83 = .ok (.iload_n 3, 1) := by decide +kernel
theorem dX2_link_84 : decode cX2_link 84 = .ok (.ishl, 1) := by decide +kernel
theorem dX2_link_85 : decode cX2_link 85 = .ok (.iconst (-1), 1) := by decide +kernel
theorem dX2_link_86 : decode cX2_link 86 = .ok (.ixor, 1) := by decide +kernel
theorem dX2_link_87 : decode cX2_link 87 = .ok (.iand, 1) := by decide +kernel
theorem dX2_link_88 : decode cX2_link 88 = .ok (.iastore, 1) := by decide +kernel
theorem dX2_link_89 : decode cX2_link 89 = .ok (.iinc 5 1, 3) := by decide +kernel
theorem dX2_link_92 : decode cX2_link 92 = .ok (.goto (-86), 3) := by decide +kernel
theorem dX2_link_95 : decode cX2_link 95 = .ok (.aload_n 0, 1) := by decide +kernel
theorem dX2_link_96 : decode cX2_link 96 = .ok (.getfield 15, 3) := by decide +kernel
theorem dX2_link_99 : decode cX2_link 99 = .ok (.iload_n 2, 1) := by decide +kernel
theorem dX2_link_100 : decode cX2_link 100 = .ok (.iload_n 3, 1) := by decide +kernel
theorem dX2_link_101 : decode cX2_link 101 = .ok (.iadd, 1) := by decide +kernel
theorem dX2_link_102 : decode cX2_link 102 = .ok (.iload 4, 2) := by decide +kernel
theorem dX2_link_104 : decode cX2_link 104 = .ok (.iastore, 1) := by decide +kernel
theorem dX2_link_105 : decode cX2_link 105 = .ok (.return_, 1) := by decide +kernel
theorem dX2_spread_0 : decode cX2_spread 0 = .ok (.iload_n 1, 1) := by decide +kernel
theorem dX2_spread_1 : decode cX2_spread 1 = .ok (.istore 4, 2) := by decide +kernel
theorem dX2_spread_3 : decode cX2_spread 3 = .ok (.iconst 0, 1) := by decide +kernel
theorem dX2_spread_4 : decode cX2_spread 4 = .ok (.istore 5, 2) := by decide +kernel
theorem dX2_spread_6 : decode cX2_spread 6 = .ok (.iload 5, 2) := by decide +kernel
theorem dX2_spread_8 : decode cX2_spread 8 = .ok (.aload_n 0, 1) := by decide +kernel
theorem dX2_spread_9 : decode cX2_spread 9 = .ok (.getfield 27, 3) := by decide +kernel
theorem dX2_spread_12 : decode cX2_spread 12 = .ok (.if_icmp .ge 44, 3) := by decide +kernel
theorem dX2_spread_15 : decode cX2_spread 15 = .ok (.iload_n 1, 1) := by decide +kernel
theorem dX2_spread_16 : decode cX2_spread 16 = .ok (.iload_n 3, 1) := by decide +kernel
theorem dX2_spread_17 : decode cX2_spread 17 = .ok (.iconst (-1), 1) := by decide +kernel
theorem dX2_spread_18 : decode cX2_spread 18 = .ok (.ixor, 1) := by decide +kernel
theorem dX2_spread_19 : decode cX2_spread 19 = .ok (.iand, 1) := by decide +kernel
theorem dX2_spread_20 : decode cX2_spread 20 = .ok (.iload 5, 2) := by decide +kernel
theorem dX2_spread_22 : decode cX2_spread 22 = .ok (.ishr, 1) := by decide +kernel
theorem dX2_spread_23 : decode cX2_spread 23 = .ok (.iconst 1, 1) := by decide +kernel
theorem dX2_spread_24 : decode cX2_spread 24 = .ok (.iand, 1) := by decide +kernel
theorem dX2_spread_25 : decode cX2_spread 25 = .ok (.iconst 1, 1) := by decide +kernel
theorem dX2_spread_26 : decode cX2_spread 26 = .ok (.if_icmp .ne 24, 3) := by decide +kernel
theorem dX2_spread_29 : decode cX2_spread 29 = .ok (.iload 4, 2) := by decide +kernel
theorem dX2_spread_31 : decode cX2_spread 31 = .ok (.aload_n 0, 1) := by decide +kernel
theorem dX2_spread_32 : decode cX2_spread 32 = .ok (.getfield 15, 3) := by decide +kernel
theorem dX2_spread_35 : decode cX2_spread 35 = .ok (.iload_n 2, 1) := by decide +kernel
theorem dX2_spread_36 : decode cX2_spread 36 = .ok (.bipush 6, 2) := by decide +kernel
theorem dX2_spread_38 : decode cX2_spread 38 = .ok (.imul, 1) := by decide +kernel
theorem dX2_spread_39 : decode cX2_spread 39 = .ok (.iload 5, 2) := by decide +kernel
theorem dX2_spread_41 : decode cX2_spread 41 = .ok (.iadd, 1) := by decide +kernel
theorem dX2_spread_42 : decode cX2_spread 42 = .ok (.iaload, 1) := by decide +kernel
theorem dX2_spread_43 : decode cX2_spread 43 = .ok (.iload_n 3, 1) := by decide +kernel
theorem dX2_spread_44 : decode cX2_spread 44 = .ok (.iconst (-1), 1) := by decide +kernel
theorem dX2_spread_45 : decode cX2_spread 45 = .ok (.ixor, 1) := by decide +kernel
theorem dX2_spread_46 : decode cX2_spread 46 = .ok (.iand, 1) := by decide +kernel
theorem dX2_spread_47 : decode cX2_spread 47 = .ok (.ior, 1) := by decide +kernel
theorem dX2_spread_48 : decode cX2_spread 48 = .ok (.istore 4, 2) := by decide +kernel
theorem dX2_spread_50 : decode cX2_spread 50 = .ok (.iinc 5 1, 3) := by decide +kernel
theorem dX2_spread_53 : decode cX2_spread 53 = .ok (.goto (-47), 3) := by decide +kernel
theorem dX2_spread_56 : decode cX2_spread 56 = .ok (.iload 4, 2) := by decide +kernel
theorem dX2_spread_58 : decode cX2_spread 58 = .ok (.ireturn, 1) := by decide +kernel
theorem dX2_holders_0 : decode cX2_holders 0 = .ok (.iconst 1, 1) := by decide +kernel
theorem dX2_holders_1 : decode cX2_holders 1 = .ok (.iload_n 1, 1) := by decide +kernel
theorem dX2_holders_2 : decode cX2_holders 2 = .ok (.ishl, 1) := by decide +kernel
theorem dX2_holders_3 : decode cX2_holders 3 = .ok (.istore_n 3, 1) := by decide +kernel
theorem dX2_holders_4 : decode cX2_holders 4 = .ok (.iconst 0, 1) := by decide +kernel
theorem dX2_holders_5 : decode cX2_holders 5 = .ok (.istore 4, 2) := by decide +kernel
theorem dX2_holders_7 : decode cX2_holders 7 = .ok (.iload 4, 2) := by decide +kernel
theorem dX2_holders_9 : decode cX2_holders 9 = .ok (.iload_n 2, 1) := by decide +kernel
theorem dX2_holders_10 : decode cX2_holders 10 = .ok (.if_icmp .ge 25, 3) := by decide +kernel
theorem dX2_holders_13 : decode cX2_holders 13 = .ok (.iload 4, 2) := by decide +kernel
theorem dX2_holders_15 : decode cX2_holders 15 = .ok (.bipush 60, 2) := by decide +kernel
theorem dX2_holders_17 : decode cX2_holders 17 = .ok (.if_icmp .ge 18, 3) := by decide +kernel
theorem dX2_holders_20 : decode cX2_holders 20 = .ok (.aload_n 0, 1) := by decide +kernel
theorem dX2_holders_21 : decode cX2_holders 21 = .ok (.iload_n 3, 1) := by decide +kernel
theorem dX2_holders_22 : decode cX2_holders 22 = .ok (.iload 4, 2) := by decide +kernel
theorem dX2_holders_24 : decode cX2_holders 24 = .ok (.iconst 0, 1) := by decide +kernel
theorem dX2_holders_25 : decode cX2_holders 25 = .ok (.invokevirtual 43, 3) := by decide +kernel
theorem dX2_holders_28 : decode cX2_holders 28 = .ok (.istore_n 3, 1) := by decide +kernel
theorem dX2_holders_29 : decode cX2_holders 29 = .ok (.iinc 4 1, 3) := by decide +kernel
theorem dX2_holders_32 : decode cX2_holders 32 = .ok (.goto (-25), 3) := by decide +kernel
theorem dX2_holders_35 : decode cX2_holders 35 = .ok (.iload_n 3, 1) := by decide +kernel
theorem dX2_holders_36 : decode cX2_holders 36 = .ok (.ireturn, 1) := by decide +kernel
theorem dX2_arrival_0 : decode cX2_arrival 0 = .ok (.iconst 1, 1) := by decide +kernel
theorem dX2_arrival_1 : decode cX2_arrival 1 = .ok (.iload_n 1, 1) := by decide +kernel
theorem dX2_arrival_2 : decode cX2_arrival 2 = .ok (.ishl, 1) := by decide +kernel
theorem dX2_arrival_3 : decode cX2_arrival 3 = .ok (.istore 5, 2) := by decide +kernel
theorem dX2_arrival_5 : decode cX2_arrival 5 = .ok (.iconst 0, 1) := by decide +kernel
theorem dX2_arrival_6 : decode cX2_arrival 6 = .ok (.istore 6, 2) := by decide +kernel
theorem dX2_arrival_8 : decode cX2_arrival 8 = .ok (.iload 6, 2) := by decide +kernel
theorem dX2_arrival_10 : decode cX2_arrival 10 = .ok (.iload_n 3, 1) := by decide +kernel
theorem dX2_arrival_11 : decode cX2_arrival 11 = .ok (.if_icmp .ge 37, 3) := by decide +kernel
theorem dX2_arrival_14 : decode cX2_arrival 14 = .ok (.iload 6, 2) := by decide +kernel
theorem dX2_arrival_16 : decode cX2_arrival 16 = .ok (.bipush 60, 2) := by decide +kernel
theorem dX2_arrival_18 : decode cX2_arrival 18 = .ok (.if_icmp .ge 30, 3) := by decide +kernel
theorem dX2_arrival_21 : decode cX2_arrival 21 = .ok (.iload 5, 2) := by decide +kernel
theorem dX2_arrival_23 : decode cX2_arrival 23 = .ok (.iload_n 2, 1) := by decide +kernel
theorem dX2_arrival_24 : decode cX2_arrival 24 = .ok (.ishr, 1) := by decide +kernel
theorem dX2_arrival_25 : decode cX2_arrival 25 = .ok (.iconst 1, 1) := by decide +kernel
theorem dX2_arrival_26 : decode cX2_arrival 26 = .ok (.iand, 1) := by decide +kernel
theorem dX2_arrival_27 : decode cX2_arrival 27 = .ok (.ifCond .ne 21, 3) := by decide +kernel
theorem dX2_arrival_30 : decode cX2_arrival 30 = .ok (.aload_n 0, 1) := by decide +kernel
theorem dX2_arrival_31 : decode cX2_arrival 31 = .ok (.iload 5, 2) := by decide +kernel
theorem dX2_arrival_33 : decode cX2_arrival 33 = .ok (.iload 6, 2) := by decide +kernel
theorem dX2_arrival_35 : decode cX2_arrival 35 = .ok (.iload 4, 2) := by decide +kernel
theorem dX2_arrival_37 : decode cX2_arrival 37 = .ok (.invokevirtual 43, 3) := by decide +kernel
theorem dX2_arrival_40 : decode cX2_arrival 40 = .ok (.istore 5, 2) := by decide +kernel
theorem dX2_arrival_42 : decode cX2_arrival 42 = .ok (.iinc 6 1, 3) := by decide +kernel
theorem dX2_arrival_45 : decode cX2_arrival 45 = .ok (.goto (-37), 3) := by decide +kernel
theorem dX2_arrival_48 : decode cX2_arrival 48 = .ok (.iload 5, 2) := by decide +kernel
theorem dX2_arrival_50 : decode cX2_arrival 50 = .ok (.iload_n 2, 1) := by decide +kernel
theorem dX2_arrival_51 : decode cX2_arrival 51 = .ok (.ishr, 1) := by decide +kernel
theorem dX2_arrival_52 : decode cX2_arrival 52 = .ok (.iconst 1, 1) := by decide +kernel
theorem dX2_arrival_53 : decode cX2_arrival 53 = .ok (.iand, 1) := by decide +kernel
theorem dX2_arrival_54 : decode cX2_arrival 54 = .ok (.iconst 1, 1) := by decide +kernel
theorem dX2_arrival_55 : decode cX2_arrival 55 = .ok (.if_icmp .ne 8, 3) := by decide +kernel
theorem dX2_arrival_58 : decode cX2_arrival 58 = .ok (.iload 6, 2) := by decide +kernel
theorem dX2_arrival_60 : decode cX2_arrival 60 = .ok (.goto 5, 3) := by decide +kernel
theorem dX2_arrival_63 : decode cX2_arrival 63 = .ok (.ldc 47, 2) := by decide +kernel
theorem dX2_arrival_65 : decode cX2_arrival 65 = .ok (.ireturn, 1) := by decide +kernel
theorem dX2_fewestHands_0 : decode cX2_fewestHands 0 = .ok (.iconst 0, 1) := by decide +kernel
theorem dX2_fewestHands_1 : decode cX2_fewestHands 1 = .ok (.istore_n 3, 1) := by decide +kernel
theorem dX2_fewestHands_2 : decode cX2_fewestHands 2 = .ok (.iload_n 3, 1) := by decide +kernel
theorem dX2_fewestHands_3 : decode cX2_fewestHands 3 = .ok (.bipush 6, 2) := by decide +kernel
theorem dX2_fewestHands_5 : decode cX2_fewestHands 5 = .ok (.if_icmp .ge 18, 3) := by decide +kernel
theorem dX2_fewestHands_8 : decode cX2_fewestHands 8 = .ok (.aload_n 0, 1) := by decide +kernel
theorem dX2_fewestHands_9 : decode cX2_fewestHands 9 = .ok (.getfield 18, 3) := by decide +kernel
theorem dX2_fewestHands_12 : decode cX2_fewestHands 12 = .ok (.iload_n 3, 1) := by decide +kernel
theorem dX2_fewestHands_13 : decode cX2_fewestHands 13 = .ok (.iconst 1, 1) := by decide +kernel
theorem dX2_fewestHands_14 : decode cX2_fewestHands 14 = .ok (.iload_n 1, 1) := by decide +kernel
theorem dX2_fewestHands_15 : decode cX2_fewestHands 15 = .ok (.ishl, 1) := by decide +kernel
theorem dX2_fewestHands_16 : decode cX2_fewestHands 16 = .ok (.iastore, 1) := by decide +kernel
theorem dX2_fewestHands_17 : decode cX2_fewestHands 17 = .ok (.iinc 3 1, 3) := by decide +kernel
theorem dX2_fewestHands_20 : decode cX2_fewestHands 20 = .ok (.goto (-18), 3) := by decide +kernel
theorem dX2_fewestHands_23 : decode cX2_fewestHands 23 = .ok (.iconst 0, 1) := by decide +kernel
theorem dX2_fewestHands_24 : decode cX2_fewestHands 24 = .ok (.istore_n 3, 1) := by decide +kernel
theorem dX2_fewestHands_25 : decode cX2_fewestHands 25 = .ok (.iload_n 3, 1) := by decide +kernel
theorem dX2_fewestHands_26 : decode cX2_fewestHands 26 = .ok (.bipush 60, 2) := by decide +kernel
theorem dX2_fewestHands_28 : decode cX2_fewestHands 28 = .ok (.if_icmp .ge 48, 3) := by decide +kernel
theorem dX2_fewestHands_31 : decode cX2_fewestHands 31 = .ok (.iconst 5, 1) := by decide +kernel
theorem dX2_fewestHands_32 : decode cX2_fewestHands 32 = .ok (.istore 4, 2) := by decide +kernel
theorem dX2_fewestHands_34 : decode cX2_fewestHands 34 = .ok (.iload 4, 2) := by decide +kernel
theorem dX2_fewestHands_36 : decode cX2_fewestHands 36 = .ok (.ifCond .le 34, 3) := by decide +kernel
theorem dX2_fewestHands_39 : decode cX2_fewestHands 39 = .ok (.aload_n 0, 1) := by decide +kernel
theorem dX2_fewestHands_40 : decode cX2_fewestHands 40 = .ok (.getfield 18, 3) := by decide +kernel
theorem dX2_fewestHands_43 : decode cX2_fewestHands 43 = .ok (.iload 4, 2) := by decide +kernel
theorem dX2_fewestHands_45 : decode cX2_fewestHands 45 = .ok (.dup2, 1) := by decide +kernel
theorem dX2_fewestHands_46 : decode cX2_fewestHands 46 = .ok (.iaload, 1) := by decide +kernel
theorem dX2_fewestHands_47 : decode cX2_fewestHands 47 = .ok (.aload_n 0, 1) := by decide +kernel
theorem dX2_fewestHands_48 : decode cX2_fewestHands 48 = .ok (.aload_n 0, 1) := by decide +kernel
theorem dX2_fewestHands_49 : decode cX2_fewestHands 49 = .ok (.getfield 18, 3) := by decide +kernel
theorem dX2_fewestHands_52 : decode cX2_fewestHands 52 = .ok (.iload 4, 2) := by decide +kernel
theorem dX2_fewestHands_54 : decode cX2_fewestHands 54 = .ok (.iconst 1, 1) := by decide +kernel
theorem dX2_fewestHands_55 : decode cX2_fewestHands 55 = .ok (.isub, 1) := by decide +kernel
theorem dX2_fewestHands_56 : decode cX2_fewestHands 56 = .ok (.iaload, 1) := by decide +kernel
theorem dX2_fewestHands_57 : decode cX2_fewestHands 57 = .ok (.iload_n 3, 1) := by decide +kernel
theorem dX2_fewestHands_58 : decode cX2_fewestHands 58 = .ok (.iconst 0, 1) := by decide +kernel
theorem dX2_fewestHands_59 : decode cX2_fewestHands 59 = .ok (.invokevirtual 43, 3) := by decide +kernel
theorem dX2_fewestHands_62 : decode cX2_fewestHands 62 = .ok (.ior, 1) := by decide +kernel
theorem dX2_fewestHands_63 : decode cX2_fewestHands 63 = .ok (.iastore, 1) := by decide +kernel
theorem dX2_fewestHands_64 : decode cX2_fewestHands 64 = .ok (.iinc 4 (-1), 3) := by decide +kernel
theorem dX2_fewestHands_67 : decode cX2_fewestHands 67 = .ok (.goto (-33), 3) := by decide +kernel
theorem dX2_fewestHands_70 : decode cX2_fewestHands 70 = .ok (.iinc 3 1, 3) := by decide +kernel
theorem dX2_fewestHands_73 : decode cX2_fewestHands 73 = .ok (.goto (-48), 3) := by decide +kernel
theorem dX2_fewestHands_76 : decode cX2_fewestHands 76 = .ok (.iconst 0, 1) := by decide +kernel
theorem dX2_fewestHands_77 : decode cX2_fewestHands 77 = .ok (.istore_n 3, 1) := by decide +kernel
theorem dX2_fewestHands_78 : decode cX2_fewestHands 78 = .ok (.iload_n 3, 1) := by decide +kernel
theorem dX2_fewestHands_79 : decode cX2_fewestHands 79 = .ok (.bipush 6, 2) := by decide +kernel
theorem dX2_fewestHands_81 : decode cX2_fewestHands 81 = .ok (.if_icmp .ge 25, 3) := by decide +kernel
theorem dX2_fewestHands_84 : decode cX2_fewestHands 84 = .ok (.aload_n 0, 1) := by decide +kernel
theorem dX2_fewestHands_85 : decode cX2_fewestHands 85 = .ok (.getfield 18, 3) := by decide +kernel
theorem dX2_fewestHands_88 : decode cX2_fewestHands 88 = .ok (.iload_n 3, 1) := by decide +kernel
theorem dX2_fewestHands_89 : decode cX2_fewestHands 89 = .ok (.iaload, 1) := by decide +kernel
theorem dX2_fewestHands_90 : decode cX2_fewestHands 90 = .ok (.iload_n 2, 1) := by decide +kernel
theorem dX2_fewestHands_91 : decode cX2_fewestHands 91 = .ok (.ishr, 1) := by decide +kernel
theorem dX2_fewestHands_92 : decode cX2_fewestHands 92 = .ok (.iconst 1, 1) := by decide +kernel
theorem dX2_fewestHands_93 : decode cX2_fewestHands 93 = .ok (.iand, 1) := by decide +kernel
theorem dX2_fewestHands_94 : decode cX2_fewestHands 94 = .ok (.iconst 1, 1) := by decide +kernel
theorem dX2_fewestHands_95 : decode cX2_fewestHands 95 = .ok (.if_icmp .ne 5, 3) := by decide +kernel
theorem dX2_fewestHands_98 : decode cX2_fewestHands 98 = .ok (.iload_n 3, 1) := by decide +kernel
theorem dX2_fewestHands_99 : decode cX2_fewestHands 99 = .ok (.ireturn, 1) := by decide +kernel
theorem dX2_fewestHands_100 : decode cX2_fewestHands 100 = .ok (.iinc 3 1, 3) := by decide +kernel
theorem dX2_fewestHands_103 : decode cX2_fewestHands 103 = .ok (.goto (-25), 3) := by decide +kernel
theorem dX2_fewestHands_106 : decode cX2_fewestHands 106 = .ok (.ldc 47, 2) := by decide +kernel
theorem dX2_fewestHands_108 : decode cX2_fewestHands 108 = .ok (.ireturn, 1) := by decide +kernel
theorem dX3_init_0 : decode cX3_init 0 = .ok (.aload_n 0, 1) := by decide +kernel
theorem dX3_init_1 : decode cX3_init 1 = .ok (.invokespecial 3, 3) := by decide +kernel
theorem dX3_init_4 : decode cX3_init 4 = .ok (.aload_n 0, 1) := by decide +kernel
theorem dX3_init_5 : decode cX3_init 5 = .ok (.bipush 40, 2) := by decide +kernel
theorem dX3_init_7 : decode cX3_init 7 = .ok (.newarray .int, 2) := by decide +kernel
theorem dX3_init_9 : decode cX3_init 9 = .ok (.putfield 9, 3) := by decide +kernel
theorem dX3_init_12 : decode cX3_init 12 = .ok (.aload_n 0, 1) := by decide +kernel
theorem dX3_init_13 : decode cX3_init 13 = .ok (.iconst (-1), 1) := by decide +kernel
theorem dX3_init_14 : decode cX3_init 14 = .ok (.putfield 15, 3) := by decide +kernel
theorem dX3_init_17 : decode cX3_init 17 = .ok (.return_, 1) := by decide +kernel
theorem dX3_begin_0 : decode cX3_begin 0 = .ok (.aload_n 0, 1) := by decide +kernel
theorem dX3_begin_1 : decode cX3_begin 1 = .ok (.iload_n 1, 1) := by decide +kernel
theorem dX3_begin_2 : decode cX3_begin 2 = .ok (.putfield 15, 3) := by decide +kernel
theorem dX3_begin_5 : decode cX3_begin 5 = .ok (.aload_n 0, 1) := by decide +kernel
theorem dX3_begin_6 : decode cX3_begin 6 = .ok (.iload_n 2, 1) := by decide +kernel
theorem dX3_begin_7 : decode cX3_begin 7 = .ok (.putfield 19, 3) := by decide +kernel
theorem dX3_begin_10 : decode cX3_begin 10 = .ok (.iconst 0, 1) := by decide +kernel
theorem dX3_begin_11 : decode cX3_begin 11 = .ok (.istore_n 3, 1) := by decide +kernel
theorem dX3_begin_12 : decode cX3_begin 12 = .ok (.iload_n 3, 1) := by decide +kernel
theorem dX3_begin_13 : decode cX3_begin 13 = .ok (.bipush 40, 2) := by decide +kernel
theorem dX3_begin_15 : decode cX3_begin 15 = .ok (.if_icmp .ge 16, 3) := by decide +kernel
theorem dX3_begin_18 : decode cX3_begin 18 = .ok (.aload_n 0, 1) := by decide +kernel
theorem dX3_begin_19 : decode cX3_begin 19 = .ok (.getfield 9, 3) := by decide +kernel
theorem dX3_begin_22 : decode cX3_begin 22 = .ok (.iload_n 3, 1) := by decide +kernel
theorem dX3_begin_23 : decode cX3_begin 23 = .ok (.iconst 0, 1) := by decide +kernel
theorem dX3_begin_24 : decode cX3_begin 24 = .ok (.iastore, 1) := by decide +kernel
theorem dX3_begin_25 : decode cX3_begin 25 = .ok (.iinc 3 1, 3) := by decide +kernel
theorem dX3_begin_28 : decode cX3_begin 28 = .ok (.goto (-16), 3) := by decide +kernel
theorem dX3_begin_31 : decode cX3_begin 31 = .ok (.return_, 1) := by decide +kernel
theorem dX3_narrowed_0 : decode cX3_narrowed 0 = .ok (.aload_n 0, 1) := by decide +kernel
theorem dX3_narrowed_1 : decode cX3_narrowed 1 = .ok (.getfield 15, 3) := by decide +kernel
theorem dX3_narrowed_4 : decode cX3_narrowed 4 = .ok (.lookupswitch 34 #[(0, 28), (1, 31)], 28) := by decide +kernel
theorem dX3_narrowed_32 : decode cX3_narrowed 32 = .ok (.iload_n 1, 1) := by decide +kernel
theorem dX3_narrowed_33 : decode cX3_narrowed 33 = .ok (.i2b, 1) := by decide +kernel
theorem dX3_narrowed_34 : decode cX3_narrowed 34 = .ok (.ireturn, 1) := by decide +kernel
theorem dX3_narrowed_35 : decode cX3_narrowed 35 = .ok (.iload_n 1, 1) := by decide +kernel
theorem dX3_narrowed_36 : decode cX3_narrowed 36 = .ok (.i2s, 1) := by decide +kernel
theorem dX3_narrowed_37 : decode cX3_narrowed 37 = .ok (.ireturn, 1) := by decide +kernel
theorem dX3_narrowed_38 : decode cX3_narrowed 38 = .ok (.iload_n 1, 1) := by decide +kernel
theorem dX3_narrowed_39 : decode cX3_narrowed 39 = .ok (.ireturn, 1) := by decide +kernel
theorem dX3_hasSpan_0 : decode cX3_hasSpan 0 = .ok (.iload_n 1, 1) := by decide +kernel
theorem dX3_hasSpan_1 : decode cX3_hasSpan 1 = .ok (.ifCond .lt 29, 3) := by decide +kernel
theorem dX3_hasSpan_4 : decode cX3_hasSpan 4 = .ok (.iload_n 2, 1) := by decide +kernel
theorem dX3_hasSpan_5 : decode cX3_hasSpan 5 = .ok (.ifCond .lt 25, 3) := by decide +kernel
theorem dX3_hasSpan_8 : decode cX3_hasSpan 8 = .ok (.iload_n 2, 1) := by decide +kernel
theorem dX3_hasSpan_9 : decode cX3_hasSpan 9 = .ok (.aload_n 0, 1) := by decide +kernel
theorem dX3_hasSpan_10 : decode cX3_hasSpan 10 = .ok (.getfield 19, 3) := by decide +kernel
theorem dX3_hasSpan_13 : decode cX3_hasSpan 13 = .ok (.if_icmp .gt 17, 3) := by decide +kernel
theorem dX3_hasSpan_16 : decode cX3_hasSpan 16 = .ok (.iload_n 1, 1) := by decide +kernel
theorem dX3_hasSpan_17 : decode cX3_hasSpan 17 = .ok (.aload_n 0, 1) := by decide +kernel
theorem dX3_hasSpan_18 : decode cX3_hasSpan 18 = .ok (.getfield 19, 3) := by decide +kernel
theorem dX3_hasSpan_21 : decode cX3_hasSpan 21 = .ok (.iload_n 2, 1) := by decide +kernel
theorem dX3_hasSpan_22 : decode cX3_hasSpan 22 = .ok (.isub, 1) := by decide +kernel
theorem dX3_hasSpan_23 : decode cX3_hasSpan 23 = .ok (.if_icmp .gt 7, 3) := by decide +kernel
theorem dX3_hasSpan_26 : decode cX3_hasSpan 26 = .ok (.iconst 1, 1) := by decide +kernel
theorem dX3_hasSpan_27 : decode cX3_hasSpan 27 = .ok (.goto 4, 3) := by decide +kernel
theorem dX3_hasSpan_30 : decode cX3_hasSpan 30 = .ok (.iconst 0, 1) := by decide +kernel
theorem dX3_hasSpan_31 : decode cX3_hasSpan 31 = .ok (.ireturn, 1) := by decide +kernel
theorem dX4_init_0 : decode cX4_init 0 = .ok (.aload_n 0, 1) := by decide +kernel
theorem dX4_init_1 : decode cX4_init 1 = .ok (.invokespecial 3, 3) := by decide +kernel
theorem dX4_init_4 : decode cX4_init 4 = .ok (.aload_n 0, 1) := by decide +kernel
theorem dX4_init_5 : decode cX4_init 5 = .ok (.bipush 120, 2) := by decide +kernel
theorem dX4_init_7 : decode cX4_init 7 = .ok (.newarray .int, 2) := by decide +kernel
theorem dX4_init_9 : decode cX4_init 9 = .ok (.putfield 9, 3) := by decide +kernel
theorem dX4_init_12 : decode cX4_init 12 = .ok (.return_, 1) := by decide +kernel
theorem dX4_readInto_0 : decode cX4_readInto 0 = .ok (.aload_n 0, 1) := by decide +kernel
theorem dX4_readInto_1 : decode cX4_readInto 1 = .ok (.iconst 0, 1) := by decide +kernel
theorem dX4_readInto_2 : decode cX4_readInto 2 = .ok (.putfield 15, 3) := by decide +kernel
theorem dX4_readInto_5 : decode cX4_readInto 5 = .ok (.aload_n 1, 1) := by decide +kernel
theorem dX4_readInto_6 : decode cX4_readInto 6 = .ok (.invokevirtual 19, 3) := by decide +kernel
theorem dX4_readInto_9 : decode cX4_readInto 9 = .ok (.aload_n 0, 1) := by decide +kernel
theorem dX4_readInto_10 : decode cX4_readInto 10 = .ok (.aload_n 1, 1) := by decide +kernel
theorem dX4_readInto_11 : decode cX4_readInto 11 = .ok (.invokevirtual 24, 3) := by decide +kernel
theorem dX4_readInto_14 : decode cX4_readInto 14 = .ok (.ifCond .ne 5, 3) := by decide +kernel
theorem dX4_readInto_17 : decode cX4_readInto 17 = .ok (.iconst 0, 1) := by decide +kernel
theorem dX4_readInto_18 : decode cX4_readInto 18 = .ok (.ireturn, 1) := by decide +kernel
theorem dX4_readInto_19 : decode cX4_readInto 19 = .ok (.iconst 0, 1) := by decide +kernel
theorem dX4_readInto_20 : decode cX4_readInto 20 = .ok (.istore_n 2, 1) := by decide +kernel
theorem dX4_readInto_21 : decode cX4_readInto 21 = .ok (.iload_n 2, 1) := by decide +kernel
theorem dX4_readInto_22 : decode cX4_readInto 22 = .ok (.bipush 6, 2) := by decide +kernel
theorem dX4_readInto_24 : decode cX4_readInto 24 = .ok (.if_icmp .gt 30, 3) := by decide +kernel
theorem dX4_readInto_27 : decode cX4_readInto 27 = .ok (.aload_n 0, 1) := by decide +kernel
theorem dX4_readInto_28 : decode cX4_readInto 28 = .ok (.getfield 15, 3) := by decide +kernel
theorem dX4_readInto_31 : decode cX4_readInto 31 = .ok (.aload_n 0, 1) := by decide +kernel
theorem dX4_readInto_32 : decode cX4_readInto 32 = .ok (.getfield 28, 3) := by decide +kernel
theorem dX4_readInto_35 : decode cX4_readInto 35 = .ok (.if_icmp .ge 19, 3) := by decide +kernel
theorem dX4_readInto_38 : decode cX4_readInto 38 = .ok (.aload_n 0, 1) := by decide +kernel
theorem dX4_readInto_39 : decode cX4_readInto 39 = .ok (.aload_n 1, 1) := by decide +kernel
theorem dX4_readInto_40 : decode cX4_readInto 40 = .ok (.invokevirtual 31, 3) := by decide +kernel
theorem dX4_readInto_43 : decode cX4_readInto 43 = .ok (.ifCond .ne 5, 3) := by decide +kernel
theorem dX4_readInto_46 : decode cX4_readInto 46 = .ok (.iconst 0, 1) := by decide +kernel
theorem dX4_readInto_47 : decode cX4_readInto 47 = .ok (.ireturn, 1) := by decide +kernel
theorem dX4_readInto_48 : decode cX4_readInto 48 = .ok (.iinc 2 1, 3) := by decide +kernel
theorem dX4_readInto_51 : decode cX4_readInto 51 = .ok (.goto (-30), 3) := by decide +kernel
theorem dX4_readInto_54 : decode cX4_readInto 54 = .ok (.iconst 1, 1) := by decide +kernel
theorem dX4_readInto_55 : decode cX4_readInto 55 = .ok (.ireturn, 1) := by decide +kernel
theorem dX4_readLaw_0 : decode cX4_readLaw 0 = .ok (.aload_n 0, 1) := by decide +kernel
theorem dX4_readLaw_1 : decode cX4_readLaw 1 = .ok (.bipush 116, 2) := by decide +kernel
theorem dX4_readLaw_3 : decode cX4_readLaw 3 = .ok (.invokevirtual 34, 3) := by decide +kernel
theorem dX4_readLaw_6 : decode cX4_readLaw 6 = .ok (.ifCond .ne 5, 3) := by decide +kernel
theorem dX4_readLaw_9 : decode cX4_readLaw 9 = .ok (.iconst 0, 1) := by decide +kernel
theorem dX4_readLaw_10 : decode cX4_readLaw 10 = .ok (.ireturn, 1) := by decide +kernel
theorem dX4_readLaw_11 : decode cX4_readLaw 11 = .ok (.aload_n 1, 1) := by decide +kernel
theorem dX4_readLaw_12 : decode cX4_readLaw 12 = .ok (.aload_n 0, 1) := by decide +kernel
theorem dX4_readLaw_13 : decode cX4_readLaw 13 = .ok (.iconst 0, 1) := by decide +kernel
theorem dX4_readLaw_14 : decode cX4_readLaw 14 = .ok (.bipush 40, 2) := by decide +kernel
theorem dX4_readLaw_16 : decode cX4_readLaw 16 = .ok (.invokevirtual 38, 3) := by decide +kernel
theorem dX4_readLaw_19 : decode cX4_readLaw 19 = .ok (.putfield 42, 3) := by decide +kernel
theorem dX4_readLaw_22 : decode cX4_readLaw 22 = .ok (.aload_n 1, 1) := by decide +kernel
theorem dX4_readLaw_23 : decode cX4_readLaw 23 = .ok (.getfield 42, 3) := by decide +kernel
theorem dX4_readLaw_26 : decode cX4_readLaw 26 = .ok (.ifCond .lt 12, 3) := by decide +kernel
theorem dX4_readLaw_29 : decode cX4_readLaw 29 = .ok (.aload_n 0, 1) := by decide +kernel
theorem dX4_readLaw_30 : decode cX4_readLaw 30 = .ok (.bipush 44, 2) := by decide +kernel
theorem dX4_readLaw_32 : decode cX4_readLaw 32 = .ok (.invokevirtual 34, 3) := by decide +kernel
theorem dX4_readLaw_35 : decode cX4_readLaw 35 = .ok (.ifCond .ne 5, 3) := by decide +kernel
theorem dX4_readLaw_38 : decode cX4_readLaw 38 = .ok (.iconst 0, 1) := by decide +kernel
theorem dX4_readLaw_39 : decode cX4_readLaw 39 = .ok (.ireturn, 1) := by decide +kernel
theorem dX4_readLaw_40 : decode cX4_readLaw 40 = .ok (.aload_n 1, 1) := by decide +kernel
theorem dX4_readLaw_41 : decode cX4_readLaw 41 = .ok (.aload_n 0, 1) := by decide +kernel
theorem dX4_readLaw_42 : decode cX4_readLaw 42 = .ok (.iconst 0, 1) := by decide +kernel
theorem dX4_readLaw_43 : decode cX4_readLaw 43 = .ok (.iconst 5, 1) := by decide +kernel
theorem dX4_readLaw_44 : decode cX4_readLaw 44 = .ok (.invokevirtual 38, 3) := by decide +kernel
theorem dX4_readLaw_47 : decode cX4_readLaw 47 = .ok (.putfield 45, 3) := by decide +kernel
theorem dX4_readLaw_50 : decode cX4_readLaw 50 = .ok (.aload_n 1, 1) := by decide +kernel
theorem dX4_readLaw_51 : decode cX4_readLaw 51 = .ok (.getfield 45, 3) := by decide +kernel
theorem dX4_readLaw_54 : decode cX4_readLaw 54 = .ok (.ifCond .lt 16, 3) := by decide +kernel
theorem dX4_readLaw_57 : decode cX4_readLaw 57 = .ok (.aload_n 0, 1) := by decide +kernel
theorem dX4_readLaw_58 : decode cX4_readLaw 58 = .ok (.bipush 59, 2) := by decide +kernel
theorem dX4_readLaw_60 : decode cX4_readLaw 60 = .ok (.invokevirtual 34, 3) := by decide +kernel
theorem dX4_readLaw_63 : decode cX4_readLaw 63 = .ok (.ifCond .eq 7, 3) := by decide +kernel
theorem dX4_readLaw_66 : decode cX4_readLaw 66 = .ok (.iconst 1, 1) := by decide +kernel
theorem dX4_readLaw_67 : decode cX4_readLaw 67 = .ok (.goto 4, 3) := by decide +kernel
theorem dX4_readLaw_70 : decode cX4_readLaw 70 = .ok (.iconst 0, 1) := by decide +kernel
theorem dX4_readLaw_71 : decode cX4_readLaw 71 = .ok (.ireturn, 1) := by decide +kernel
theorem dX4_readHammock_0 : decode cX4_readHammock 0 = .ok (.aload_n 1, 1) := by decide +kernel
theorem dX4_readHammock_1 : decode cX4_readHammock 1 = .ok (.getfield 48, 3) := by decide +kernel
theorem dX4_readHammock_4 : decode cX4_readHammock 4 = .ok (.istore_n 2, 1) := by decide +kernel
theorem dX4_readHammock_5 : decode cX4_readHammock 5 = .ok (.aload_n 0, 1) := by decide +kernel
theorem dX4_readHammock_6 : decode cX4_readHammock 6 = .ok (.aload_n 0, 1) := by decide +kernel
theorem dX4_readHammock_7 : decode cX4_readHammock 7 = .ok (.getfield 15, 3) := by decide +kernel
theorem dX4_readHammock_10 : decode cX4_readHammock 10 = .ok (.invokevirtual 51, 3) := by decide +kernel
theorem dX4_readHammock_13 : decode cX4_readHammock 13 = .ok (.invokestatic 55, 3) := by decide +kernel
theorem dX4_readHammock_16 : decode cX4_readHammock 16 = .ok (.istore_n 3, 1) := by decide +kernel
theorem dX4_readHammock_17 : decode cX4_readHammock 17 = .ok (.iload_n 3, 1) := by decide +kernel
theorem dX4_readHammock_18 : decode cX4_readHammock 18 = .ok (.ifCond .ne 9, 3) := by decide +kernel
theorem dX4_readHammock_21 : decode cX4_readHammock 21 = .ok (.aload_n 0, 1) := by decide +kernel
theorem dX4_readHammock_22 : decode cX4_readHammock 22 = .ok (.iconst 1, 1) := by decide +kernel
theorem dX4_readHammock_23 : decode cX4_readHammock 23 = .ok (.invokevirtual 58, 3) := by decide +kernel
theorem dX4_readHammock_26 : decode cX4_readHammock 26 = .ok (.ireturn, 1) := by decide +kernel
theorem dX4_readHammock_27 : decode cX4_readHammock 27 = .ok (.iload_n 2, 1) := by decide +kernel
theorem dX4_readHammock_28 : decode cX4_readHammock 28 = .ok (.bipush 6, 2) := by decide +kernel
theorem dX4_readHammock_30 : decode cX4_readHammock 30 = .ok (.if_icmp .lt 9, 3) := by decide +kernel
theorem dX4_readHammock_33 : decode cX4_readHammock 33 = .ok (.aload_n 0, 1) := by decide +kernel
theorem dX4_readHammock_34 : decode cX4_readHammock 34 = .ok (.iconst 3, 1) := by decide +kernel
theorem dX4_readHammock_35 : decode cX4_readHammock 35 = .ok (.invokevirtual 58, 3) := by decide +kernel
theorem dX4_readHammock_38 : decode cX4_readHammock 38 = .ok (.ireturn, 1) := by decide +kernel
theorem dX4_readHammock_39 : decode cX4_readHammock 39 = .ok (.aload_n 0, 1) := by decide +kernel
theorem dX4_readHammock_40 : decode cX4_readHammock 40 = .ok (.dup, 1) := by decide +kernel
theorem dX4_readHammock_41 : decode cX4_readHammock 41 = .ok (.getfield 15, 3) := by decide +kernel
theorem dX4_readHammock_44 : decode cX4_readHammock 44 = .ok (.iconst 1, 1) := by decide +kernel
theorem dX4_readHammock_45 : decode cX4_readHammock 45 = .ok (.iadd, 1) := by decide +kernel
theorem dX4_readHammock_46 : decode cX4_readHammock 46 = .ok (.putfield 15, 3) := by decide +kernel
theorem dX4_readHammock_49 : decode cX4_readHammock 49 = .ok (.aload_n 1, 1) := by decide +kernel
theorem dX4_readHammock_50 : decode cX4_readHammock 50 = .ok (.getfield 61, 3) := by decide +kernel
theorem dX4_readHammock_53 : decode cX4_readHammock 53 = .ok (.iload_n 2, 1) := by decide +kernel
theorem dX4_readHammock_54 : decode cX4_readHammock 54 = .ok (.iload_n 3, 1) := by decide +kernel
theorem dX4_readHammock_55 : decode cX4_readHammock 55 = .ok (.iastore, 1) := by decide +kernel
theorem dX4_readHammock_56 : decode cX4_readHammock 56 = .ok (.aload_n 1, 1) := by decide +kernel
theorem dX4_readHammock_57 : decode cX4_readHammock 57 = .ok (.iload_n 2, 1) := by decide +kernel
theorem dX4_readHammock_58 : decode cX4_readHammock 58 = .ok (.iconst 1, 1) := by decide +kernel
theorem dX4_readHammock_59 : decode cX4_readHammock 59 = .ok (.iadd, 1) := by decide +kernel
theorem dX4_readHammock_60 : decode cX4_readHammock 60 = .ok (.putfield 48, 3) := by decide +kernel
theorem dX4_readHammock_63 : decode cX4_readHammock 63 = .ok (.aload_n 0, 1) := by decide +kernel
theorem dX4_readHammock_64 : decode cX4_readHammock 64 = .ok (.aload_n 1, 1) := by decide +kernel
theorem dX4_readHammock_65 : decode cX4_readHammock 65 = .ok (.iload_n 2, 1) := by decide +kernel
theorem dX4_readHammock_66 : decode cX4_readHammock 66 = .ok (.invokevirtual 64, 3) := by decide +kernel
theorem dX4_readHammock_69 : decode cX4_readHammock 69 = .ok (.ifCond .eq 16, 3) := by decide +kernel
theorem dX4_readHammock_72 : decode cX4_readHammock 72 = .ok (.aload_n 0, 1) := by decide +kernel
theorem dX4_readHammock_73 : decode cX4_readHammock 73 = .ok (.aload_n 1, 1) := by decide +kernel
theorem dX4_readHammock_74 : decode cX4_readHammock 74 = .ok (.iload_n 2, 1) := by decide +kernel
theorem dX4_readHammock_75 : decode cX4_readHammock 75 = .ok (.invokevirtual 68, 3) := by decide +kernel
theorem dX4_readHammock_78 : decode cX4_readHammock 78 = .ok (.ifCond .eq 7, 3) := by decide +kernel
theorem dX4_readHammock_81 : decode cX4_readHammock 81 = .ok (.iconst 1, 1) := by decide +kernel
theorem dX4_readHammock_82 : decode cX4_readHammock 82 = .ok (.goto 4, 3) := by decide +kernel
theorem dX4_readHammock_85 : decode cX4_readHammock 85 = .ok (.iconst 0, 1) := by decide +kernel
theorem dX4_readHammock_86 : decode cX4_readHammock 86 = .ok (.ireturn, 1) := by decide +kernel
theorem dX4_readTrees_0 : decode cX4_readTrees 0 = .ok (.aload_n 1, 1) := by decide +kernel
theorem dX4_readTrees_1 : decode cX4_readTrees 1 = .ok (.getfield 71, 3) := by decide +kernel
theorem dX4_readTrees_4 : decode cX4_readTrees 4 = .ok (.iload_n 2, 1) := by decide +kernel
theorem dX4_readTrees_5 : decode cX4_readTrees 5 = .ok (.aload_n 0, 1) := by decide +kernel
theorem dX4_readTrees_6 : decode cX4_readTrees 6 = .ok (.iconst 0, 1) := by decide +kernel
theorem dX4_readTrees_7 : decode cX4_readTrees 7 = .ok (.bipush 11, 2) := by decide +kernel
theorem dX4_readTrees_9 : decode cX4_readTrees 9 = .ok (.invokevirtual 38, 3) := by decide +kernel
theorem dX4_readTrees_12 : decode cX4_readTrees 12 = .ok (.iastore, 1) := by decide +kernel
theorem dX4_readTrees_13 : decode cX4_readTrees 13 = .ok (.aload_n 1, 1) := by decide +kernel
theorem dX4_readTrees_14 : decode cX4_readTrees 14 = .ok (.getfield 71, 3) := by decide +kernel
theorem dX4_readTrees_17 : decode cX4_readTrees 17 = .ok (.iload_n 2, 1) := by decide +kernel
theorem dX4_readTrees_18 : decode cX4_readTrees 18 = .ok (.iaload, 1) := by decide +kernel
theorem dX4_readTrees_19 : decode cX4_readTrees 19 = .ok (.ifCond .lt 12, 3) := by decide +kernel
theorem dX4_readTrees_22 : decode cX4_readTrees 22 = .ok (.aload_n 0, 1) := by decide +kernel
theorem dX4_readTrees_23 : decode cX4_readTrees 23 = .ok (.bipush 44, 2) := by decide +kernel
theorem dX4_readTrees_25 : decode cX4_readTrees 25 = .ok (.invokevirtual 34, 3) := by decide +kernel
theorem dX4_readTrees_28 : decode cX4_readTrees 28 = .ok (.ifCond .ne 5, 3) := by decide +kernel
theorem dX4_readTrees_31 : decode cX4_readTrees 31 = .ok (.iconst 0, 1) := by decide +kernel
theorem dX4_readTrees_32 : decode cX4_readTrees 32 = .ok (.ireturn, 1) := by decide +kernel
theorem dX4_readTrees_33 : decode cX4_readTrees 33 = .ok (.aload_n 1, 1) := by decide +kernel
theorem dX4_readTrees_34 : decode cX4_readTrees 34 = .ok (.getfield 74, 3) := by decide +kernel
theorem dX4_readTrees_37 : decode cX4_readTrees 37 = .ok (.iload_n 2, 1) := by decide +kernel
theorem dX4_readTrees_38 : decode cX4_readTrees 38 = .ok (.aload_n 0, 1) := by decide +kernel
theorem dX4_readTrees_39 : decode cX4_readTrees 39 = .ok (.aload_n 1, 1) := by decide +kernel
theorem dX4_readTrees_40 : decode cX4_readTrees 40 = .ok (.getfield 71, 3) := by decide +kernel
theorem dX4_readTrees_43 : decode cX4_readTrees 43 = .ok (.iload_n 2, 1) := by decide +kernel
theorem dX4_readTrees_44 : decode cX4_readTrees 44 = .ok (.iaload, 1) := by decide +kernel
theorem dX4_readTrees_45 : decode cX4_readTrees 45 = .ok (.iconst 1, 1) := by decide +kernel
theorem dX4_readTrees_46 : decode cX4_readTrees 46 = .ok (.iadd, 1) := by decide +kernel
theorem dX4_readTrees_47 : decode cX4_readTrees 47 = .ok (.bipush 11, 2) := by decide +kernel
theorem dX4_readTrees_49 : decode cX4_readTrees 49 = .ok (.invokevirtual 38, 3) := by decide +kernel
theorem dX4_readTrees_52 : decode cX4_readTrees 52 = .ok (.iastore, 1) := by decide +kernel
theorem dX4_readTrees_53 : decode cX4_readTrees 53 = .ok (.aload_n 1, 1) := by decide +kernel
theorem dX4_readTrees_54 : decode cX4_readTrees 54 = .ok (.getfield 74, 3) := by decide +kernel
theorem dX4_readTrees_57 : decode cX4_readTrees 57 = .ok (.iload_n 2, 1) := by decide +kernel
theorem dX4_readTrees_58 : decode cX4_readTrees 58 = .ok (.iaload, 1) := by decide +kernel
theorem dX4_readTrees_59 : decode cX4_readTrees 59 = .ok (.ifCond .lt 16, 3) := by decide +kernel
theorem dX4_readTrees_62 : decode cX4_readTrees 62 = .ok (.aload_n 0, 1) := by decide +kernel
theorem dX4_readTrees_63 : decode cX4_readTrees 63 = .ok (.bipush 44, 2) := by decide +kernel
theorem dX4_readTrees_65 : decode cX4_readTrees 65 = .ok (.invokevirtual 34, 3) := by decide +kernel
theorem dX4_readTrees_68 : decode cX4_readTrees 68 = .ok (.ifCond .eq 7, 3) := by decide +kernel
theorem dX4_readTrees_71 : decode cX4_readTrees 71 = .ok (.iconst 1, 1) := by decide +kernel
theorem dX4_readTrees_72 : decode cX4_readTrees 72 = .ok (.goto 4, 3) := by decide +kernel
theorem dX4_readTrees_75 : decode cX4_readTrees 75 = .ok (.iconst 0, 1) := by decide +kernel
theorem dX4_readTrees_76 : decode cX4_readTrees 76 = .ok (.ireturn, 1) := by decide +kernel
theorem dX4_readLoad_0 : decode cX4_readLoad 0 = .ok (.aload_n 1, 1) := by decide +kernel
theorem dX4_readLoad_1 : decode cX4_readLoad 1 = .ok (.getfield 77, 3) := by decide +kernel
theorem dX4_readLoad_4 : decode cX4_readLoad 4 = .ok (.iload_n 2, 1) := by decide +kernel
theorem dX4_readLoad_5 : decode cX4_readLoad 5 = .ok (.aload_n 0, 1) := by decide +kernel
theorem dX4_readLoad_6 : decode cX4_readLoad 6 = .ok (.iconst 1, 1) := by decide +kernel
theorem dX4_readLoad_7 : decode cX4_readLoad 7 = .ok (.bipush 20, 2) := by decide +kernel
theorem dX4_readLoad_9 : decode cX4_readLoad 9 = .ok (.invokevirtual 38, 3) := by decide +kernel
theorem dX4_readLoad_12 : decode cX4_readLoad 12 = .ok (.iastore, 1) := by decide +kernel
theorem dX4_readLoad_13 : decode cX4_readLoad 13 = .ok (.aload_n 1, 1) := by decide +kernel
theorem dX4_readLoad_14 : decode cX4_readLoad 14 = .ok (.getfield 77, 3) := by decide +kernel
theorem dX4_readLoad_17 : decode cX4_readLoad 17 = .ok (.iload_n 2, 1) := by decide +kernel
theorem dX4_readLoad_18 : decode cX4_readLoad 18 = .ok (.iaload, 1) := by decide +kernel
theorem dX4_readLoad_19 : decode cX4_readLoad 19 = .ok (.ifCond .lt 12, 3) := by decide +kernel
theorem dX4_readLoad_22 : decode cX4_readLoad 22 = .ok (.aload_n 0, 1) := by decide +kernel
theorem dX4_readLoad_23 : decode cX4_readLoad 23 = .ok (.bipush 44, 2) := by decide +kernel
theorem dX4_readLoad_25 : decode cX4_readLoad 25 = .ok (.invokevirtual 34, 3) := by decide +kernel
theorem dX4_readLoad_28 : decode cX4_readLoad 28 = .ok (.ifCond .ne 5, 3) := by decide +kernel
theorem dX4_readLoad_31 : decode cX4_readLoad 31 = .ok (.iconst 0, 1) := by decide +kernel
theorem dX4_readLoad_32 : decode cX4_readLoad 32 = .ok (.ireturn, 1) := by decide +kernel
theorem dX4_readLoad_33 : decode cX4_readLoad 33 = .ok (.aload_n 1, 1) := by decide +kernel
theorem dX4_readLoad_34 : decode cX4_readLoad 34 = .ok (.getfield 80, 3) := by decide +kernel
theorem dX4_readLoad_37 : decode cX4_readLoad 37 = .ok (.iload_n 2, 1) := by decide +kernel
theorem dX4_readLoad_38 : decode cX4_readLoad 38 = .ok (.aload_n 0, 1) := by decide +kernel
theorem dX4_readLoad_39 : decode cX4_readLoad 39 = .ok (.iconst 0, 1) := by decide +kernel
theorem dX4_readLoad_40 : decode cX4_readLoad 40 = .ok (.iconst 5, 1) := by decide +kernel
theorem dX4_readLoad_41 : decode cX4_readLoad 41 = .ok (.invokevirtual 38, 3) := by decide +kernel
theorem dX4_readLoad_44 : decode cX4_readLoad 44 = .ok (.iastore, 1) := by decide +kernel
theorem dX4_readLoad_45 : decode cX4_readLoad 45 = .ok (.aload_n 1, 1) := by decide +kernel
theorem dX4_readLoad_46 : decode cX4_readLoad 46 = .ok (.getfield 80, 3) := by decide +kernel
theorem dX4_readLoad_49 : decode cX4_readLoad 49 = .ok (.iload_n 2, 1) := by decide +kernel
theorem dX4_readLoad_50 : decode cX4_readLoad 50 = .ok (.iaload, 1) := by decide +kernel
theorem dX4_readLoad_51 : decode cX4_readLoad 51 = .ok (.ifCond .lt 16, 3) := by decide +kernel
theorem dX4_readLoad_54 : decode cX4_readLoad 54 = .ok (.aload_n 0, 1) := by decide +kernel
theorem dX4_readLoad_55 : decode cX4_readLoad 55 = .ok (.bipush 59, 2) := by decide +kernel
theorem dX4_readLoad_57 : decode cX4_readLoad 57 = .ok (.invokevirtual 34, 3) := by decide +kernel
theorem dX4_readLoad_60 : decode cX4_readLoad 60 = .ok (.ifCond .eq 7, 3) := by decide +kernel
theorem dX4_readLoad_63 : decode cX4_readLoad 63 = .ok (.iconst 1, 1) := by decide +kernel
theorem dX4_readLoad_64 : decode cX4_readLoad 64 = .ok (.goto 4, 3) := by decide +kernel
theorem dX4_readLoad_67 : decode cX4_readLoad 67 = .ok (.iconst 0, 1) := by decide +kernel
theorem dX4_readLoad_68 : decode cX4_readLoad 68 = .ok (.ireturn, 1) := by decide +kernel
theorem dX4_readSign_0 : decode cX4_readSign 0 = .ok (.aload_n 0, 1) := by decide +kernel
theorem dX4_readSign_1 : decode cX4_readSign 1 = .ok (.aload_n 0, 1) := by decide +kernel
theorem dX4_readSign_2 : decode cX4_readSign 2 = .ok (.getfield 15, 3) := by decide +kernel
theorem dX4_readSign_5 : decode cX4_readSign 5 = .ok (.invokevirtual 51, 3) := by decide +kernel
theorem dX4_readSign_8 : decode cX4_readSign 8 = .ok (.iload_n 1, 1) := by decide +kernel
theorem dX4_readSign_9 : decode cX4_readSign 9 = .ok (.if_icmp .eq 9, 3) := by decide +kernel
theorem dX4_readSign_12 : decode cX4_readSign 12 = .ok (.aload_n 0, 1) := by decide +kernel
theorem dX4_readSign_13 : decode cX4_readSign 13 = .ok (.iconst 1, 1) := by decide +kernel
theorem dX4_readSign_14 : decode cX4_readSign 14 = .ok (.invokevirtual 58, 3) := by decide +kernel
theorem dX4_readSign_17 : decode cX4_readSign 17 = .ok (.ireturn, 1) := by decide +kernel
theorem dX4_readSign_18 : decode cX4_readSign 18 = .ok (.aload_n 0, 1) := by decide +kernel
theorem dX4_readSign_19 : decode cX4_readSign 19 = .ok (.dup, 1) := by decide +kernel
theorem dX4_readSign_20 : decode cX4_readSign 20 = .ok (.getfield 15, 3) := by decide +kernel
theorem dX4_readSign_23 : decode cX4_readSign 23 = .ok (.iconst 1, 1) := by decide +kernel
theorem dX4_readSign_24 : decode cX4_readSign 24 = .ok (.iadd, 1) := by decide +kernel
theorem dX4_readSign_25 : decode cX4_readSign 25 = .ok (.putfield 15, 3) := by decide +kernel
theorem dX4_readSign_28 : decode cX4_readSign 28 = .ok (.iconst 1, 1) := by decide +kernel
theorem dX4_readSign_29 : decode cX4_readSign 29 = .ok (.ireturn, 1) := by decide +kernel
theorem dX4_readNumber_0 : decode cX4_readNumber 0 = .ok (.iconst 0, 1) := by decide +kernel
theorem dX4_readNumber_1 : decode cX4_readNumber 1 = .ok (.istore_n 3, 1) := by decide +kernel
theorem dX4_readNumber_2 : decode cX4_readNumber 2 = .ok (.iconst 0, 1) := by decide +kernel
theorem dX4_readNumber_3 : decode cX4_readNumber 3 = .ok (.istore 4, 2) := by decide +kernel
theorem dX4_readNumber_5 : decode cX4_readNumber 5 = .ok (.aload_n 0, 1) := by decide +kernel
theorem dX4_readNumber_6 : decode cX4_readNumber 6 = .ok (.getfield 15, 3) := by decide +kernel
theorem dX4_readNumber_9 : decode cX4_readNumber 9 = .ok (.istore 5, 2) := by decide +kernel
theorem dX4_readNumber_11 : decode cX4_readNumber 11 = .ok (.iload 5, 2) := by decide +kernel
theorem dX4_readNumber_13 : decode cX4_readNumber 13 = .ok (.aload_n 0, 1) := by decide +kernel
theorem dX4_readNumber_14 : decode cX4_readNumber 14 = .ok (.getfield 28, 3) := by decide +kernel
theorem dX4_readNumber_17 : decode cX4_readNumber 17 = .ok (.if_icmp .ge 45, 3) := by decide +kernel
theorem dX4_readNumber_20 : decode cX4_readNumber 20 = .ok (.aload_n 0, 1) := by decide +kernel
theorem dX4_readNumber_21 : decode cX4_readNumber 21 = .ok (.iload 5, 2) := by decide +kernel
theorem dX4_readNumber_23 : decode cX4_readNumber 23 = .ok (.invokevirtual 51, 3) := by decide +kernel
theorem dX4_readNumber_26 : decode cX4_readNumber 26 = .ok (.invokestatic 83, 3) := by decide +kernel
theorem dX4_readNumber_29 : decode cX4_readNumber 29 = .ok (.ifCond .eq 33, 3) := by decide +kernel
theorem dX4_readNumber_32 : decode cX4_readNumber 32 = .ok (.iload 4, 2) := by decide +kernel
theorem dX4_readNumber_34 : decode cX4_readNumber 34 = .ok (.iconst 3, 1) := by decide +kernel
theorem dX4_readNumber_35 : decode cX4_readNumber 35 = .ok (.if_icmp .ge 27, 3) := by decide +kernel
theorem dX4_readNumber_38 : decode cX4_readNumber 38 = .ok (.bipush 10, 2) := by decide +kernel
theorem dX4_readNumber_40 : decode cX4_readNumber 40 = .ok (.iload_n 3, 1) := by decide +kernel
theorem dX4_readNumber_41 : decode cX4_readNumber 41 = .ok (.imul, 1) := by decide +kernel
theorem dX4_readNumber_42 : decode cX4_readNumber 42 = .ok (.aload_n 0, 1) := by decide +kernel
theorem dX4_readNumber_43 : decode cX4_readNumber 43 = .ok (.iload 5, 2) := by decide +kernel
theorem dX4_readNumber_45 : decode cX4_readNumber 45 = .ok (.invokevirtual 51, 3) := by decide +kernel
theorem dX4_readNumber_48 : decode cX4_readNumber 48 = .ok (.iadd, 1) := by decide +kernel
theorem dX4_readNumber_49 : decode cX4_readNumber 49 = .ok (.bipush 48, 2) := by decide +kernel
theorem dX4_readNumber_51 : decode cX4_readNumber 51 = .ok (.isub, 1) := by decide +kernel
theorem dX4_readNumber_52 : decode cX4_readNumber 52 = .ok (.istore_n 3, 1) := by decide +kernel
theorem dX4_readNumber_53 : decode cX4_readNumber 53 = .ok (.iinc 4 1, 3) := by decide +kernel
theorem dX4_readNumber_56 : decode cX4_readNumber 56 = .ok (.iinc 5 1, 3) := by decide +kernel
theorem dX4_readNumber_59 : decode cX4_readNumber 59 = .ok (.goto (-48), 3) := by decide +kernel
theorem dX4_readNumber_62 : decode cX4_readNumber 62 = .ok (.iload 4, 2) := by decide +kernel
theorem dX4_readNumber_64 : decode cX4_readNumber 64 = .ok (.ifCond .eq 9, 3) := by decide +kernel
theorem dX4_readNumber_67 : decode cX4_readNumber 67 = .ok (.iload 4, 2) := by decide +kernel
theorem dX4_readNumber_69 : decode cX4_readNumber 69 = .ok (.iconst 3, 1) := by decide +kernel
theorem dX4_readNumber_70 : decode cX4_readNumber 70 = .ok (.if_icmp .ne 11, 3) := by decide +kernel
theorem dX4_readNumber_73 : decode cX4_readNumber 73 = .ok (.aload_n 0, 1) := by decide +kernel
theorem dX4_readNumber_74 : decode cX4_readNumber 74 = .ok (.iconst 1, 1) := by decide +kernel
theorem dX4_readNumber_75 : decode cX4_readNumber 75 = .ok (.invokevirtual 58, 3) := by decide +kernel
theorem dX4_readNumber_78 : decode cX4_readNumber 78 = .ok (.pop, 1) := by decide +kernel
theorem dX4_readNumber_79 : decode cX4_readNumber 79 = .ok (.iconst (-1), 1) := by decide +kernel
theorem dX4_readNumber_80 : decode cX4_readNumber 80 = .ok (.ireturn, 1) := by decide +kernel
theorem dX4_readNumber_81 : decode cX4_readNumber 81 = .ok (.iload_n 3, 1) := by decide +kernel
theorem dX4_readNumber_82 : decode cX4_readNumber 82 = .ok (.iload_n 1, 1) := by decide +kernel
theorem dX4_readNumber_83 : decode cX4_readNumber 83 = .ok (.if_icmp .lt 8, 3) := by decide +kernel
theorem dX4_readNumber_86 : decode cX4_readNumber 86 = .ok (.iload_n 3, 1) := by decide +kernel
theorem dX4_readNumber_87 : decode cX4_readNumber 87 = .ok (.iload_n 2, 1) := by decide +kernel
theorem dX4_readNumber_88 : decode cX4_readNumber 88 = .ok (.if_icmp .le 11, 3) := by decide +kernel
theorem dX4_readNumber_91 : decode cX4_readNumber 91 = .ok (.aload_n 0, 1) := by decide +kernel
theorem dX4_readNumber_92 : decode cX4_readNumber 92 = .ok (.iconst 2, 1) := by decide +kernel
theorem dX4_readNumber_93 : decode cX4_readNumber 93 = .ok (.invokevirtual 58, 3) := by decide +kernel
theorem dX4_readNumber_96 : decode cX4_readNumber 96 = .ok (.pop, 1) := by decide +kernel
theorem dX4_readNumber_97 : decode cX4_readNumber 97 = .ok (.iconst (-1), 1) := by decide +kernel
theorem dX4_readNumber_98 : decode cX4_readNumber 98 = .ok (.ireturn, 1) := by decide +kernel
theorem dX4_readNumber_99 : decode cX4_readNumber 99 = .ok (.aload_n 0, 1) := by decide +kernel
theorem dX4_readNumber_100 : decode cX4_readNumber 100 = .ok (.dup, 1) := by decide +kernel
theorem dX4_readNumber_101 : decode cX4_readNumber 101 = .ok (.getfield 15, 3) := by decide +kernel
theorem dX4_readNumber_104 : decode cX4_readNumber 104 = .ok (.iload 4, 2) := by decide +kernel
theorem dX4_readNumber_106 : decode cX4_readNumber 106 = .ok (.iadd, 1) := by decide +kernel
theorem dX4_readNumber_107 : decode cX4_readNumber 107 = .ok (.putfield 15, 3) := by decide +kernel
theorem dX4_readNumber_110 : decode cX4_readNumber 110 = .ok (.iload_n 3, 1) := by decide +kernel
theorem dX4_readNumber_111 : decode cX4_readNumber 111 = .ok (.ireturn, 1) := by decide +kernel
theorem dX4_refuse_0 : decode cX4_refuse 0 = .ok (.aload_n 0, 1) := by decide +kernel
theorem dX4_refuse_1 : decode cX4_refuse 1 = .ok (.iload_n 1, 1) := by decide +kernel
theorem dX4_refuse_2 : decode cX4_refuse 2 = .ok (.putfield 86, 3) := by decide +kernel
theorem dX4_refuse_5 : decode cX4_refuse 5 = .ok (.iconst 0, 1) := by decide +kernel
theorem dX4_refuse_6 : decode cX4_refuse 6 = .ok (.ireturn, 1) := by decide +kernel
theorem dX4_byteAt_0 : decode cX4_byteAt 0 = .ok (.iload_n 1, 1) := by decide +kernel
theorem dX4_byteAt_1 : decode cX4_byteAt 1 = .ok (.aload_n 0, 1) := by decide +kernel
theorem dX4_byteAt_2 : decode cX4_byteAt 2 = .ok (.getfield 28, 3) := by decide +kernel
theorem dX4_byteAt_5 : decode cX4_byteAt 5 = .ok (.invokestatic 89, 3) := by decide +kernel
theorem dX4_byteAt_8 : decode cX4_byteAt 8 = .ok (.ifCond .eq 12, 3) := by decide +kernel
theorem dX4_byteAt_11 : decode cX4_byteAt 11 = .ok (.aload_n 0, 1) := by decide +kernel
theorem dX4_byteAt_12 : decode cX4_byteAt 12 = .ok (.getfield 9, 3) := by decide +kernel
theorem dX4_byteAt_15 : decode cX4_byteAt 15 = .ok (.iload_n 1, 1) := by decide +kernel
theorem dX4_byteAt_16 : decode cX4_byteAt 16 = .ok (.iaload, 1) := by decide +kernel
theorem dX4_byteAt_17 : decode cX4_byteAt 17 = .ok (.goto 4, 3) := by decide +kernel
theorem dX4_byteAt_20 : decode cX4_byteAt 20 = .ok (.iconst (-1), 1) := by decide +kernel
theorem dX4_byteAt_21 : decode cX4_byteAt 21 = .ok (.ireturn, 1) := by decide +kernel
theorem dX4_isFigure_0 : decode cX4_isFigure 0 = .ok (.iload_n 0, 1) := by decide +kernel
theorem dX4_isFigure_1 : decode cX4_isFigure 1 = .ok (.bipush 48, 2) := by decide +kernel
theorem dX4_isFigure_3 : decode cX4_isFigure 3 = .ok (.if_icmp .lt 13, 3) := by decide +kernel
theorem dX4_isFigure_6 : decode cX4_isFigure 6 = .ok (.iload_n 0, 1) := by decide +kernel
theorem dX4_isFigure_7 : decode cX4_isFigure 7 = .ok (.bipush 57, 2) := by decide +kernel
theorem dX4_isFigure_9 : decode cX4_isFigure 9 = .ok (.if_icmp .gt 7, 3) := by decide +kernel
theorem dX4_isFigure_12 : decode cX4_isFigure 12 = .ok (.iconst 1, 1) := by decide +kernel
theorem dX4_isFigure_13 : decode cX4_isFigure 13 = .ok (.goto 4, 3) := by decide +kernel
theorem dX4_isFigure_16 : decode cX4_isFigure 16 = .ok (.iconst 0, 1) := by decide +kernel
theorem dX4_isFigure_17 : decode cX4_isFigure 17 = .ok (.ireturn, 1) := by decide +kernel
theorem dX4_sortOf_0 : decode cX4_sortOf 0 = .ok (.iload_n 0, 1) := by decide +kernel
theorem dX4_sortOf_1 : decode cX4_sortOf 1 = .ok (.lookupswitch 61 #[(99, 51), (111, 59), (114, 57), (115, 53), (118, 55)], 51) := by decide +kernel
theorem dX4_sortOf_52 : decode cX4_sortOf 52 = .ok (.iconst 1, 1) := by decide +kernel
theorem dX4_sortOf_53 : decode cX4_sortOf 53 = .ok (.ireturn, 1) := by decide +kernel
theorem dX4_sortOf_54 : decode cX4_sortOf 54 = .ok (.iconst 2, 1) := by decide +kernel
theorem dX4_sortOf_55 : decode cX4_sortOf 55 = .ok (.ireturn, 1) := by decide +kernel
theorem dX4_sortOf_56 : decode cX4_sortOf 56 = .ok (.iconst 3, 1) := by decide +kernel
theorem dX4_sortOf_57 : decode cX4_sortOf 57 = .ok (.ireturn, 1) := by decide +kernel
theorem dX4_sortOf_58 : decode cX4_sortOf 58 = .ok (.iconst 4, 1) := by decide +kernel
theorem dX4_sortOf_59 : decode cX4_sortOf 59 = .ok (.ireturn, 1) := by decide +kernel
theorem dX4_sortOf_60 : decode cX4_sortOf 60 = .ok (.iconst 5, 1) := by decide +kernel
theorem dX4_sortOf_61 : decode cX4_sortOf 61 = .ok (.ireturn, 1) := by decide +kernel
theorem dX4_sortOf_62 : decode cX4_sortOf 62 = .ok (.iconst 0, 1) := by decide +kernel
theorem dX4_sortOf_63 : decode cX4_sortOf 63 = .ok (.ireturn, 1) := by decide +kernel
