theorem dX6_init_0 : decode cX6_init 0 = .ok (.aload_n 0, 1) := by decide +kernel
theorem dX6_init_1 : decode cX6_init 1 = .ok (.invokespecial 1, 3) := by decide +kernel
theorem dX6_init_4 : decode cX6_init 4 = .ok (.aload_n 0, 1) := by decide +kernel
theorem dX6_init_5 : decode cX6_init 5 = .ok (.bipush 8, 2) := by decide +kernel
theorem dX6_init_7 : decode cX6_init 7 = .ok (.newarray .int, 2) := by decide +kernel
theorem dX6_init_9 : decode cX6_init 9 = .ok (.putfield 7, 3) := by decide +kernel
theorem dX6_init_12 : decode cX6_init 12 = .ok (.aload_n 0, 1) := by decide +kernel
theorem dX6_init_13 : decode cX6_init 13 = .ok (.bipush 8, 2) := by decide +kernel
theorem dX6_init_15 : decode cX6_init 15 = .ok (.newarray .int, 2) := by decide +kernel
theorem dX6_init_17 : decode cX6_init 17 = .ok (.putfield 13, 3) := by decide +kernel
theorem dX6_init_20 : decode cX6_init 20 = .ok (.aload_n 0, 1) := by decide +kernel
theorem dX6_init_21 : decode cX6_init 21 = .ok (.sipush 320, 3) := by decide +kernel
theorem dX6_init_24 : decode cX6_init 24 = .ok (.newarray .int, 2) := by decide +kernel
theorem dX6_init_26 : decode cX6_init 26 = .ok (.putfield 16, 3) := by decide +kernel
theorem dX6_init_29 : decode cX6_init 29 = .ok (.aload_n 0, 1) := by decide +kernel
theorem dX6_init_30 : decode cX6_init 30 = .ok (.bipush 36, 2) := by decide +kernel
theorem dX6_init_32 : decode cX6_init 32 = .ok (.newarray .int, 2) := by decide +kernel
theorem dX6_init_34 : decode cX6_init 34 = .ok (.putfield 19, 3) := by decide +kernel
theorem dX6_init_37 : decode cX6_init 37 = .ok (.aload_n 0, 1) := by decide +kernel
theorem dX6_init_38 : decode cX6_init 38 = .ok (.bipush 36, 2) := by decide +kernel
theorem dX6_init_40 : decode cX6_init 40 = .ok (.newarray .int, 2) := by decide +kernel
theorem dX6_init_42 : decode cX6_init 42 = .ok (.putfield 22, 3) := by decide +kernel
theorem dX6_init_45 : decode cX6_init 45 = .ok (.aload_n 0, 1) := by decide +kernel
theorem dX6_init_46 : decode cX6_init 46 = .ok (.bipush 36, 2) := by decide +kernel
theorem dX6_init_48 : decode cX6_init 48 = .ok (.newarray .int, 2) := by decide +kernel
theorem dX6_init_50 : decode cX6_init 50 = .ok (.putfield 25, 3) := by decide +kernel
theorem dX6_init_53 : decode cX6_init 53 = .ok (.aload_n 0, 1) := by decide +kernel
theorem dX6_init_54 : decode cX6_init 54 = .ok (.sipush 864, 3) := by decide +kernel
theorem dX6_init_57 : decode cX6_init 57 = .ok (.newarray .int, 2) := by decide +kernel
theorem dX6_init_59 : decode cX6_init 59 = .ok (.putfield 28, 3) := by decide +kernel
theorem dX6_init_62 : decode cX6_init 62 = .ok (.aload_n 0, 1) := by decide +kernel
theorem dX6_init_63 : decode cX6_init 63 = .ok (.bipush 72, 2) := by decide +kernel
theorem dX6_init_65 : decode cX6_init 65 = .ok (.newarray .int, 2) := by decide +kernel
theorem dX6_init_67 : decode cX6_init 67 = .ok (.putfield 31, 3) := by decide +kernel
theorem dX6_init_70 : decode cX6_init 70 = .ok (.aload_n 0, 1) := by decide +kernel
theorem dX6_init_71 : decode cX6_init 71 = .ok (.iconst 2, 1) := by decide +kernel
theorem dX6_init_72 : decode cX6_init 72 = .ok (.newarray .boolean, 2) := by decide +kernel
theorem dX6_init_74 : decode cX6_init 74 = .ok (.putfield 34, 3) := by decide +kernel
theorem dX6_init_77 : decode cX6_init 77 = .ok (.aload_n 0, 1) := by decide +kernel
theorem dX6_init_78 : decode cX6_init 78 = .ok (.bipush 120, 2) := by decide +kernel
theorem dX6_init_80 : decode cX6_init 80 = .ok (.newarray .int, 2) := by decide +kernel
theorem dX6_init_82 : decode cX6_init 82 = .ok (.putfield 38, 3) := by decide +kernel
theorem dX6_init_85 : decode cX6_init 85 = .ok (.aload_n 0, 1) := by decide +kernel
theorem dX6_init_86 : decode cX6_init 86 = .ok (.bipush 16, 2) := by decide +kernel
theorem dX6_init_88 : decode cX6_init 88 = .ok (.newarray .int, 2) := by decide +kernel
theorem dX6_init_90 : decode cX6_init 90 = .ok (.putfield 41, 3) := by decide +kernel
theorem dX6_init_93 : decode cX6_init 93 = .ok (.aload_n 0, 1) := by decide +kernel
theorem dX6_init_94 : decode cX6_init 94 = .ok (.bipush 6, 2) := by decide +kernel
theorem dX6_init_96 : decode cX6_init 96 = .ok (.newarray .int, 2) := by decide +kernel
theorem dX6_init_98 : decode cX6_init 98 = .ok (.putfield 44, 3) := by decide +kernel
theorem dX6_init_101 : decode cX6_init 101 = .ok (.aload_n 0, 1) := by decide +kernel
theorem dX6_init_102 : decode cX6_init 102 = .ok (.bipush 6, 2) := by decide +kernel
theorem dX6_init_104 : decode cX6_init 104 = .ok (.newarray .int, 2) := by decide +kernel
theorem dX6_init_106 : decode cX6_init 106 = .ok (.putfield 47, 3) := by decide +kernel
theorem dX6_init_109 : decode cX6_init 109 = .ok (.iconst 0, 1) := by decide +kernel
theorem dX6_init_110 : decode cX6_init 110 = .ok (.istore_n 1, 1) := by decide +kernel
theorem dX6_init_111 : decode cX6_init 111 = .ok (.iload_n 1, 1) := by decide +kernel
theorem dX6_init_112 : decode cX6_init 112 = .ok (.bipush 8, 2) := by decide +kernel
theorem dX6_init_114 : decode cX6_init 114 = .ok (.if_icmp .ge 16, 3) := by decide +kernel
theorem dX6_init_117 : decode cX6_init 117 = .ok (.aload_n 0, 1) := by decide +kernel
theorem dX6_init_118 : decode cX6_init 118 = .ok (.getfield 13, 3) := by decide +kernel
theorem dX6_init_121 : decode cX6_init 121 = .ok (.iload_n 1, 1) := by decide +kernel
theorem dX6_init_122 : decode cX6_init 122 = .ok (.iconst (-1), 1) := by decide +kernel
theorem dX6_init_123 : decode cX6_init 123 = .ok (.iastore, 1) := by decide +kernel
theorem dX6_init_124 : decode cX6_init 124 = .ok (.iinc 1 1, 3) := by decide +kernel
theorem dX6_init_127 : decode cX6_init 127 = .ok (.goto (-16), 3) := by decide +kernel
theorem dX6_init_130 : decode cX6_init 130 = .ok (.return_, 1) := by decide +kernel
theorem dX6_in_0 : decode cX6_in 0 = .ok (.lload_n 0, 1) := by decide +kernel
theorem dX6_in_1 : decode cX6_in 1 = .ok (.lload_n 2, 1) := by decide +kernel
theorem dX6_in_2 : decode cX6_in 2 = .ok (.lcmp, 1) := by decide +kernel
theorem dX6_in_3 : decode cX6_in 3 = .ok (.ifCond .lt 14, 3) := by decide +kernel
theorem dX6_in_6 : decode cX6_in 6 = .ok (.lload_n 0, 1) := by decide +kernel
theorem dX6_in_7 : decode cX6_in 7 = .ok (.lload 4, 2) := by decide +kernel
theorem dX6_in_9 : decode cX6_in 9 = .ok (.lcmp, 1) := by decide +kernel
theorem dX6_in_10 : decode cX6_in 10 = .ok (.ifCond .gt 7, 3) := by decide +kernel
theorem dX6_in_13 : decode cX6_in 13 = .ok (.iconst 1, 1) := by decide +kernel
theorem dX6_in_14 : decode cX6_in 14 = .ok (.goto 4, 3) := by decide +kernel
theorem dX6_in_17 : decode cX6_in 17 = .ok (.iconst 0, 1) := by decide +kernel
theorem dX6_in_18 : decode cX6_in 18 = .ok (.ireturn, 1) := by decide +kernel
theorem dX6_found_0 : decode cX6_found 0 = .ok (.aload_n 0, 1) := by decide +kernel
theorem dX6_found_1 : decode cX6_found 1 = .ok (.iload_n 1, 1) := by decide +kernel
theorem dX6_found_2 : decode cX6_found 2 = .ok (.putfield 50, 3) := by decide +kernel
theorem dX6_found_5 : decode cX6_found 5 = .ok (.ldc 54, 2) := by decide +kernel
theorem dX6_found_7 : decode cX6_found 7 = .ok (.iload_n 1, 1) := by decide +kernel
theorem dX6_found_8 : decode cX6_found 8 = .ok (.isub, 1) := by decide +kernel
theorem dX6_found_9 : decode cX6_found 9 = .ok (.ireturn, 1) := by decide +kernel
theorem dX6_well_0 : decode cX6_well 0 = .ok (.aload_n 0, 1) := by decide +kernel
theorem dX6_well_1 : decode cX6_well 1 = .ok (.iconst 0, 1) := by decide +kernel
theorem dX6_well_2 : decode cX6_well 2 = .ok (.putfield 50, 3) := by decide +kernel
theorem dX6_well_5 : decode cX6_well 5 = .ok (.iload_n 1, 1) := by decide +kernel
theorem dX6_well_6 : decode cX6_well 6 = .ok (.ireturn, 1) := by decide +kernel
theorem dX6_isRow_0 : decode cX6_isRow 0 = .ok (.iload_n 0, 1) := by decide +kernel
theorem dX6_isRow_1 : decode cX6_isRow 1 = .ok (.i2l, 1) := by decide +kernel
theorem dX6_isRow_2 : decode cX6_isRow 2 = .ok (.lconst 0, 1) := by decide +kernel
theorem dX6_isRow_3 : decode cX6_isRow 3 = .ok (.ldc2_w 55, 3) := by decide +kernel
theorem dX6_isRow_6 : decode cX6_isRow 6 = .ok (.invokestatic 57, 3) := by decide +kernel
theorem dX6_isRow_9 : decode cX6_isRow 9 = .ok (.ireturn, 1) := by decide +kernel
theorem dX6_row_0 : decode cX6_row 0 = .ok (.iload_n 1, 1) := by decide +kernel
theorem dX6_row_1 : decode cX6_row 1 = .ok (.invokestatic 61, 3) := by decide +kernel
theorem dX6_row_4 : decode cX6_row 4 = .ok (.ifCond .eq 21, 3) := by decide +kernel
theorem dX6_row_7 : decode cX6_row 7 = .ok (.iload_n 2, 1) := by decide +kernel
theorem dX6_row_8 : decode cX6_row 8 = .ok (.i2l, 1) := by decide +kernel
theorem dX6_row_9 : decode cX6_row 9 = .ok (.lconst 0, 1) := by decide +kernel
theorem dX6_row_10 : decode cX6_row 10 = .ok (.ldc2_w 65, 3) := by decide +kernel
theorem dX6_row_13 : decode cX6_row 13 = .ok (.invokestatic 57, 3) := by decide +kernel
theorem dX6_row_16 : decode cX6_row 16 = .ok (.ifCond .eq 9, 3) := by decide +kernel
theorem dX6_row_19 : decode cX6_row 19 = .ok (.iload_n 3, 1) := by decide +kernel
theorem dX6_row_20 : decode cX6_row 20 = .ok (.bipush 40, 2) := by decide +kernel
theorem dX6_row_22 : decode cX6_row 22 = .ok (.if_icmp .le 6, 3) := by decide +kernel
theorem dX6_row_25 : decode cX6_row 25 = .ok (.ldc 67, 2) := by decide +kernel
theorem dX6_row_27 : decode cX6_row 27 = .ok (.ireturn, 1) := by decide +kernel
theorem dX6_row_28 : decode cX6_row 28 = .ok (.iload_n 3, 1) := by decide +kernel
theorem dX6_row_29 : decode cX6_row 29 = .ok (.ifCond .ge 9, 3) := by decide +kernel
theorem dX6_row_32 : decode cX6_row 32 = .ok (.aload_n 0, 1) := by decide +kernel
theorem dX6_row_33 : decode cX6_row 33 = .ok (.iconst 4, 1) := by decide +kernel
theorem dX6_row_34 : decode cX6_row 34 = .ok (.invokevirtual 68, 3) := by decide +kernel
theorem dX6_row_37 : decode cX6_row 37 = .ok (.ireturn, 1) := by decide +kernel
theorem dX6_row_38 : decode cX6_row 38 = .ok (.aload_n 0, 1) := by decide +kernel
theorem dX6_row_39 : decode cX6_row 39 = .ok (.getfield 7, 3) := by decide +kernel
theorem dX6_row_42 : decode cX6_row 42 = .ok (.iload_n 1, 1) := by decide +kernel
theorem dX6_row_43 : decode cX6_row 43 = .ok (.iload_n 2, 1) := by decide +kernel
theorem dX6_row_44 : decode cX6_row 44 = .ok (.iastore, 1) := by decide +kernel
theorem dX6_row_45 : decode cX6_row 45 = .ok (.aload_n 0, 1) := by decide +kernel
theorem dX6_row_46 : decode cX6_row 46 = .ok (.getfield 13, 3) := by decide +kernel
theorem dX6_row_49 : decode cX6_row 49 = .ok (.iload_n 1, 1) := by decide +kernel
theorem dX6_row_50 : decode cX6_row 50 = .ok (.iload_n 3, 1) := by decide +kernel
theorem dX6_row_51 : decode cX6_row 51 = .ok (.iastore, 1) := by decide +kernel
theorem dX6_row_52 : decode cX6_row 52 = .ok (.iconst 0, 1) := by decide +kernel
theorem dX6_row_53 : decode cX6_row 53 = .ok (.istore 4, 2) := by decide +kernel
theorem dX6_row_55 : decode cX6_row 55 = .ok (.iload 4, 2) := by decide +kernel
theorem dX6_row_57 : decode cX6_row 57 = .ok (.bipush 40, 2) := by decide +kernel
theorem dX6_row_59 : decode cX6_row 59 = .ok (.if_icmp .ge 22, 3) := by decide +kernel
theorem dX6_row_62 : decode cX6_row 62 = .ok (.aload_n 0, 1) := by decide +kernel
theorem dX6_row_63 : decode cX6_row 63 = .ok (.getfield 16, 3) := by decide +kernel
theorem dX6_row_66 : decode cX6_row 66 = .ok (.bipush 40, 2) := by decide +kernel
theorem dX6_row_68 : decode cX6_row 68 = .ok (.iload_n 1, 1) := by decide +kernel
theorem dX6_row_69 : decode cX6_row 69 = .ok (.imul, 1) := by decide +kernel
theorem dX6_row_70 : decode cX6_row 70 = .ok (.iload 4, 2) := by decide +kernel
theorem dX6_row_72 : decode cX6_row 72 = .ok (.iadd, 1) := by decide +kernel
theorem dX6_row_73 : decode cX6_row 73 = .ok (.iconst 0, 1) := by decide +kernel
theorem dX6_row_74 : decode cX6_row 74 = .ok (.iastore, 1) := by decide +kernel
theorem dX6_row_75 : decode cX6_row 75 = .ok (.iinc 4 1, 3) := by decide +kernel
theorem dX6_row_78 : decode cX6_row 78 = .ok (.goto (-23), 3) := by decide +kernel
theorem dX6_row_81 : decode cX6_row 81 = .ok (.aload_n 0, 1) := by decide +kernel
theorem dX6_row_82 : decode cX6_row 82 = .ok (.iload_n 3, 1) := by decide +kernel
theorem dX6_row_83 : decode cX6_row 83 = .ok (.invokevirtual 72, 3) := by decide +kernel
theorem dX6_row_86 : decode cX6_row 86 = .ok (.ireturn, 1) := by decide +kernel
theorem dX6_set_0 : decode cX6_set 0 = .ok (.iload_n 1, 1) := by decide +kernel
theorem dX6_set_1 : decode cX6_set 1 = .ok (.invokestatic 61, 3) := by decide +kernel
theorem dX6_set_4 : decode cX6_set 4 = .ok (.ifCond .ne 6, 3) := by decide +kernel
theorem dX6_set_7 : decode cX6_set 7 = .ok (.ldc 67, 2) := by decide +kernel
theorem dX6_set_9 : decode cX6_set 9 = .ok (.ireturn, 1) := by decide +kernel
theorem dX6_set_10 : decode cX6_set 10 = .ok (.aload_n 0, 1) := by decide +kernel
theorem dX6_set_11 : decode cX6_set 11 = .ok (.getfield 13, 3) := by decide +kernel
theorem dX6_set_14 : decode cX6_set 14 = .ok (.iload_n 1, 1) := by decide +kernel
theorem dX6_set_15 : decode cX6_set 15 = .ok (.iaload, 1) := by decide +kernel
theorem dX6_set_16 : decode cX6_set 16 = .ok (.ifCond .ge 9, 3) := by decide +kernel
theorem dX6_set_19 : decode cX6_set 19 = .ok (.aload_n 0, 1) := by decide +kernel
theorem dX6_set_20 : decode cX6_set 20 = .ok (.iconst 1, 1) := by decide +kernel
theorem dX6_set_21 : decode cX6_set 21 = .ok (.invokevirtual 68, 3) := by decide +kernel
theorem dX6_set_24 : decode cX6_set 24 = .ok (.ireturn, 1) := by decide +kernel
theorem dX6_set_25 : decode cX6_set 25 = .ok (.iload_n 2, 1) := by decide +kernel
theorem dX6_set_26 : decode cX6_set 26 = .ok (.i2l, 1) := by decide +kernel
theorem dX6_set_27 : decode cX6_set 27 = .ok (.lconst 0, 1) := by decide +kernel
theorem dX6_set_28 : decode cX6_set 28 = .ok (.aload_n 0, 1) := by decide +kernel
theorem dX6_set_29 : decode cX6_set 29 = .ok (.getfield 13, 3) := by decide +kernel
theorem dX6_set_32 : decode cX6_set 32 = .ok (.iload_n 1, 1) := by decide +kernel
theorem dX6_set_33 : decode cX6_set 33 = .ok (.iaload, 1) := by decide +kernel
theorem dX6_set_34 : decode cX6_set 34 = .ok (.iconst 1, 1) := by decide +kernel
theorem dX6_set_35 : decode cX6_set 35 = .ok (.isub, 1) := by decide +kernel
theorem dX6_set_36 : decode cX6_set 36 = .ok (.i2l, 1) := by decide +kernel
theorem dX6_set_37 : decode cX6_set 37 = .ok (.invokestatic 57, 3) := by decide +kernel
theorem dX6_set_40 : decode cX6_set 40 = .ok (.ifCond .ne 9, 3) := by decide +kernel
theorem dX6_set_43 : decode cX6_set 43 = .ok (.aload_n 0, 1) := by decide +kernel
theorem dX6_set_44 : decode cX6_set 44 = .ok (.iconst 2, 1) := by decide +kernel
theorem dX6_set_45 : decode cX6_set 45 = .ok (.invokevirtual 68, 3) := by decide +kernel
theorem dX6_set_48 : decode cX6_set 48 = .ok (.ireturn, 1) := by decide +kernel
theorem dX6_set_49 : decode cX6_set 49 = .ok (.aload_n 0, 1) := by decide +kernel
theorem dX6_set_50 : decode cX6_set 50 = .ok (.getfield 16, 3) := by decide +kernel
theorem dX6_set_53 : decode cX6_set 53 = .ok (.bipush 40, 2) := by decide +kernel
theorem dX6_set_55 : decode cX6_set 55 = .ok (.iload_n 1, 1) := by decide +kernel
theorem dX6_set_56 : decode cX6_set 56 = .ok (.imul, 1) := by decide +kernel
theorem dX6_set_57 : decode cX6_set 57 = .ok (.iload_n 2, 1) := by decide +kernel
theorem dX6_set_58 : decode cX6_set 58 = .ok (.iadd, 1) := by decide +kernel
theorem dX6_set_59 : decode cX6_set 59 = .ok (.aload_n 0, 1) := by decide +kernel
theorem dX6_set_60 : decode cX6_set 60 = .ok (.getfield 7, 3) := by decide +kernel
theorem dX6_set_63 : decode cX6_set 63 = .ok (.iload_n 1, 1) := by decide +kernel
theorem dX6_set_64 : decode cX6_set 64 = .ok (.iaload, 1) := by decide +kernel
theorem dX6_set_65 : decode cX6_set 65 = .ok (.ifCond .ne 8, 3) := by decide +kernel
theorem dX6_set_68 : decode cX6_set 68 = .ok (.iload_n 3, 1) := by decide +kernel
theorem dX6_set_69 : decode cX6_set 69 = .ok (.i2b, 1) := by decide +kernel
theorem dX6_set_70 : decode cX6_set 70 = .ok (.goto 19, 3) := by decide +kernel
theorem dX6_set_73 : decode cX6_set 73 = .ok (.aload_n 0, 1) := by decide +kernel
theorem dX6_set_74 : decode cX6_set 74 = .ok (.getfield 7, 3) := by decide +kernel
theorem dX6_set_77 : decode cX6_set 77 = .ok (.iload_n 1, 1) := by decide +kernel
theorem dX6_set_78 : decode cX6_set 78 = .ok (.iaload, 1) := by decide +kernel
theorem dX6_set_79 : decode cX6_set 79 = .ok (.iconst 1, 1) := by decide +kernel
theorem dX6_set_80 : decode cX6_set 80 = .ok (.if_icmp .ne 8, 3) := by decide +kernel
theorem dX6_set_83 : decode cX6_set 83 = .ok (.iload_n 3, 1) := by decide +kernel
theorem dX6_set_84 : decode cX6_set 84 = .ok (.i2s, 1) := by decide +kernel
theorem dX6_set_85 : decode cX6_set 85 = .ok (.goto 4, 3) := by decide +kernel
theorem dX6_set_88 : decode cX6_set 88 = .ok (.iload_n 3, 1) := by decide +kernel
theorem dX6_set_89 : decode cX6_set 89 = .ok (.iastore, 1) := by decide +kernel
theorem dX6_set_90 : decode cX6_set 90 = .ok (.aload_n 0, 1) := by decide +kernel
theorem dX6_set_91 : decode cX6_set 91 = .ok (.aload_n 0, 1) := by decide +kernel
theorem dX6_set_92 : decode cX6_set 92 = .ok (.getfield 16, 3) := by decide +kernel
theorem dX6_set_95 : decode cX6_set 95 = .ok (.bipush 40, 2) := by decide +kernel
theorem dX6_set_97 : decode cX6_set 97 = .ok (.iload_n 1, 1) := by decide +kernel
theorem dX6_set_98 : decode cX6_set 98 = .ok (.imul, 1) := by decide +kernel
theorem dX6_set_99 : decode cX6_set 99 = .ok (.iload_n 2, 1) := by decide +kernel
theorem dX6_set_100 : decode cX6_set 100 = .ok (.iadd, 1) := by decide +kernel
theorem dX6_set_101 : decode cX6_set 101 = .ok (.iaload, 1) := by decide +kernel
theorem dX6_set_102 : decode cX6_set 102 = .ok (.invokevirtual 72, 3) := by decide +kernel
theorem dX6_set_105 : decode cX6_set 105 = .ok (.ireturn, 1) := by decide +kernel
theorem dX6_copy_0 : decode cX6_copy 0 = .ok (.iload_n 1, 1) := by decide +kernel
theorem dX6_copy_1 : decode cX6_copy 1 = .ok (.invokestatic 61, 3) := by decide +kernel
theorem dX6_copy_4 : decode cX6_copy 4 = .ok (.ifCond .eq 10, 3) := by decide +kernel
theorem dX6_copy_7 : decode cX6_copy 7 = .ok (.iload_n 3, 1) := by decide +kernel
theorem dX6_copy_8 : decode cX6_copy 8 = .ok (.invokestatic 61, 3) := by decide +kernel
theorem dX6_copy_11 : decode cX6_copy 11 = .ok (.ifCond .ne 6, 3) := by decide +kernel
theorem dX6_copy_14 : decode cX6_copy 14 = .ok (.ldc 67, 2) := by decide +kernel
theorem dX6_copy_16 : decode cX6_copy 16 = .ok (.ireturn, 1) := by decide +kernel
theorem dX6_copy_17 : decode cX6_copy 17 = .ok (.aload_n 0, 1) := by decide +kernel
theorem dX6_copy_18 : decode cX6_copy 18 = .ok (.getfield 13, 3) := by decide +kernel
theorem dX6_copy_21 : decode cX6_copy 21 = .ok (.iload_n 1, 1) := by decide +kernel
theorem dX6_copy_22 : decode cX6_copy 22 = .ok (.iaload, 1) := by decide +kernel
theorem dX6_copy_23 : decode cX6_copy 23 = .ok (.ifCond .lt 12, 3) := by decide +kernel
theorem dX6_copy_26 : decode cX6_copy 26 = .ok (.aload_n 0, 1) := by decide +kernel
theorem dX6_copy_27 : decode cX6_copy 27 = .ok (.getfield 13, 3) := by decide +kernel
theorem dX6_copy_30 : decode cX6_copy 30 = .ok (.iload_n 3, 1) := by decide +kernel
theorem dX6_copy_31 : decode cX6_copy 31 = .ok (.iaload, 1) := by decide +kernel
theorem dX6_copy_32 : decode cX6_copy 32 = .ok (.ifCond .ge 9, 3) := by decide +kernel
theorem dX6_copy_35 : decode cX6_copy 35 = .ok (.aload_n 0, 1) := by decide +kernel
theorem dX6_copy_36 : decode cX6_copy 36 = .ok (.iconst 1, 1) := by decide +kernel
theorem dX6_copy_37 : decode cX6_copy 37 = .ok (.invokevirtual 68, 3) := by decide +kernel
theorem dX6_copy_40 : decode cX6_copy 40 = .ok (.ireturn, 1) := by decide +kernel
theorem dX6_copy_41 : decode cX6_copy 41 = .ok (.aload_n 0, 1) := by decide +kernel
theorem dX6_copy_42 : decode cX6_copy 42 = .ok (.getfield 7, 3) := by decide +kernel
theorem dX6_copy_45 : decode cX6_copy 45 = .ok (.iload_n 1, 1) := by decide +kernel
theorem dX6_copy_46 : decode cX6_copy 46 = .ok (.iaload, 1) := by decide +kernel
theorem dX6_copy_47 : decode cX6_copy 47 = .ok (.aload_n 0, 1) := by decide +kernel
theorem dX6_copy_48 : decode cX6_copy 48 = .ok (.getfield 7, 3) := by decide +kernel
theorem dX6_copy_51 : decode cX6_copy 51 = .ok (.iload_n 3, 1) := by decide +kernel
theorem dX6_copy_52 : decode cX6_copy 52 = .ok (.iaload, 1) := by decide +kernel
theorem dX6_copy_53 : decode cX6_copy 53 = .ok (.if_icmp .eq 9, 3) := by decide +kernel
theorem dX6_copy_56 : decode cX6_copy 56 = .ok (.aload_n 0, 1) := by decide +kernel
theorem dX6_copy_57 : decode cX6_copy 57 = .ok (.iconst 5, 1) := by decide +kernel
theorem dX6_copy_58 : decode cX6_copy 58 = .ok (.invokevirtual 68, 3) := by decide +kernel
theorem dX6_copy_61 : decode cX6_copy 61 = .ok (.ireturn, 1) := by decide +kernel
theorem dX6_copy_62 : decode cX6_copy 62 = .ok (.iload_n 2, 1) := by decide +kernel
theorem dX6_copy_63 : decode cX6_copy 63 = .ok (.ifCond .lt 48, 3) := by decide +kernel
theorem dX6_copy_66 : decode cX6_copy 66 = .ok (.iload 4, 2) := by decide +kernel
theorem dX6_copy_68 : decode cX6_copy 68 = .ok (.ifCond .lt 43, 3) := by decide +kernel
theorem dX6_copy_71 : decode cX6_copy 71 = .ok (.iload 5, 2) := by decide +kernel
theorem dX6_copy_73 : decode cX6_copy 73 = .ok (.ifCond .lt 38, 3) := by decide +kernel
theorem dX6_copy_76 : decode cX6_copy 76 = .ok (.iload_n 2, 1) := by decide +kernel
theorem dX6_copy_77 : decode cX6_copy 77 = .ok (.i2l, 1) := by decide +kernel
theorem dX6_copy_78 : decode cX6_copy 78 = .ok (.iload 5, 2) := by decide +kernel
theorem dX6_copy_80 : decode cX6_copy 80 = .ok (.i2l, 1) := by decide +kernel
theorem dX6_copy_81 : decode cX6_copy 81 = .ok (.ladd, 1) := by decide +kernel
theorem dX6_copy_82 : decode cX6_copy 82 = .ok (.aload_n 0, 1) := by decide +kernel
theorem dX6_copy_83 : decode cX6_copy 83 = .ok (.getfield 13, 3) := by decide +kernel
theorem dX6_copy_86 : decode cX6_copy 86 = .ok (.iload_n 1, 1) := by decide +kernel
theorem dX6_copy_87 : decode cX6_copy 87 = .ok (.iaload, 1) := by decide +kernel
theorem dX6_copy_88 : decode cX6_copy 88 = .ok (.i2l, 1) := by decide +kernel
theorem dX6_copy_89 : decode cX6_copy 89 = .ok (.lcmp, 1) := by decide +kernel
theorem dX6_copy_90 : decode cX6_copy 90 = .ok (.ifCond .gt 21, 3) := by decide +kernel
theorem dX6_copy_93 : decode cX6_copy 93 = .ok (.iload 4, 2) := by decide +kernel
theorem dX6_copy_95 : decode cX6_copy 95 = .ok (.i2l, 1) := by decide +kernel
theorem dX6_copy_96 : decode cX6_copy 96 = .ok (.iload 5, 2) := by decide +kernel
theorem dX6_copy_98 : decode cX6_copy 98 = .ok (.i2l, 1) := by decide +kernel
theorem dX6_copy_99 : decode cX6_copy 99 = .ok (.ladd, 1) := by decide +kernel
theorem dX6_copy_100 : decode cX6_copy 100 = .ok (.aload_n 0, 1) := by decide +kernel
theorem dX6_copy_101 : decode cX6_copy 101 = .ok (.getfield 13, 3) := by decide +kernel
theorem dX6_copy_104 : decode cX6_copy 104 = .ok (.iload_n 3, 1) := by decide +kernel
theorem dX6_copy_105 : decode cX6_copy 105 = .ok (.iaload, 1) := by decide +kernel
theorem dX6_copy_106 : decode cX6_copy 106 = .ok (.i2l, 1) := by decide +kernel
theorem dX6_copy_107 : decode cX6_copy 107 = .ok (.lcmp, 1) := by decide +kernel
theorem dX6_copy_108 : decode cX6_copy 108 = .ok (.ifCond .le 9, 3) := by decide +kernel
theorem dX6_copy_111 : decode cX6_copy 111 = .ok (.aload_n 0, 1) := by decide +kernel
theorem dX6_copy_112 : decode cX6_copy 112 = .ok (.iconst 2, 1) := by decide +kernel
theorem dX6_copy_113 : decode cX6_copy 113 = .ok (.invokevirtual 68, 3) := by decide +kernel
theorem dX6_copy_116 : decode cX6_copy 116 = .ok (.ireturn, 1) := by decide +kernel
theorem dX6_copy_117 : decode cX6_copy 117 = .ok (.iconst 0, 1) := by decide +kernel
theorem dX6_copy_118 : decode cX6_copy 118 = .ok (.istore 6, 2) := by decide +kernel
theorem dX6_copy_120 : decode cX6_copy 120 = .ok (.iload 6, 2) := by decide +kernel
theorem dX6_copy_122 : decode cX6_copy 122 = .ok (.iload 5, 2) := by decide +kernel
theorem dX6_copy_124 : decode cX6_copy 124 = .ok (.if_icmp .ge 58, 3) := by decide +kernel
theorem dX6_copy_127 : decode cX6_copy 127 = .ok (.iload 4, 2) := by decide +kernel
theorem dX6_copy_129 : decode cX6_copy 129 = .ok (.iload_n 2, 1) := by decide +kernel
theorem dX6_copy_130 : decode cX6_copy 130 = .ok (.if_icmp .le 13, 3) := by decide +kernel
theorem dX6_copy_133 : decode cX6_copy 133 = .ok (.iload 5, 2) := by decide +kernel
theorem dX6_copy_135 : decode cX6_copy 135 = .ok (.iconst 1, 1) := by decide +kernel
theorem dX6_copy_136 : decode cX6_copy 136 = .ok (.isub, 1) := by decide +kernel
theorem dX6_copy_137 : decode cX6_copy 137 = .ok (.iload 6, 2) := by decide +kernel
theorem dX6_copy_139 : decode cX6_copy 139 = .ok (.isub, 1) := by decide +kernel
theorem dX6_copy_140 : decode cX6_copy 140 = .ok (.goto 5, 3) := by decide +kernel
theorem dX6_copy_143 : decode cX6_copy 143 = .ok (.iload 6, 2) := by decide +kernel
theorem dX6_copy_145 : decode cX6_copy 145 = .ok (.istore 7, 2) := by decide +kernel
theorem dX6_copy_147 : decode cX6_copy 147 = .ok (.aload_n 0, 1) := by decide +kernel
theorem dX6_copy_148 : decode cX6_copy 148 = .ok (.getfield 16, 3) := by decide +kernel
theorem dX6_copy_151 : decode cX6_copy 151 = .ok (.bipush 40, 2) := by decide +kernel
theorem dX6_copy_153 : decode cX6_copy 153 = .ok (.iload_n 3, 1) := by decide +kernel
theorem dX6_copy_154 : decode cX6_copy 154 = .ok (.imul, 1) := by decide +kernel
theorem dX6_copy_155 : decode cX6_copy 155 = .ok (.iload 4, 2) := by decide +kernel
theorem dX6_copy_157 : decode cX6_copy 157 = .ok (.iadd, 1) := by decide +kernel
theorem dX6_copy_158 : decode cX6_copy 158 = .ok (.iload 7, 2) := by decide +kernel
theorem dX6_copy_160 : decode cX6_copy 160 = .ok (.iadd, 1) := by decide +kernel
theorem dX6_copy_161 : decode cX6_copy 161 = .ok (.aload_n 0, 1) := by decide +kernel
theorem dX6_copy_162 : decode cX6_copy 162 = .ok (.getfield 16, 3) := by decide +kernel
theorem dX6_copy_165 : decode cX6_copy 165 = .ok (.bipush 40, 2) := by decide +kernel
theorem dX6_copy_167 : decode cX6_copy 167 = .ok (.iload_n 1, 1) := by decide +kernel
theorem dX6_copy_168 : decode cX6_copy 168 = .ok (.imul, 1) := by decide +kernel
theorem dX6_copy_169 : decode cX6_copy 169 = .ok (.iload_n 2, 1) := by decide +kernel
theorem dX6_copy_170 : decode cX6_copy 170 = .ok (.iadd, 1) := by decide +kernel
theorem dX6_copy_171 : decode cX6_copy 171 = .ok (.iload 7, 2) := by decide +kernel
theorem dX6_copy_173 : decode cX6_copy 173 = .ok (.iadd, 1) := by decide +kernel
theorem dX6_copy_174 : decode cX6_copy 174 = .ok (.iaload, 1) := by decide +kernel
theorem dX6_copy_175 : decode cX6_copy 175 = .ok (.iastore, 1) := by decide +kernel
theorem dX6_copy_176 : decode cX6_copy 176 = .ok (.iinc 6 1, 3) := by decide +kernel
theorem dX6_copy_179 : decode cX6_copy 179 = .ok (.goto (-59), 3) := by decide +kernel
theorem dX6_copy_182 : decode cX6_copy 182 = .ok (.aload_n 0, 1) := by decide +kernel
theorem dX6_copy_183 : decode cX6_copy 183 = .ok (.iload 5, 2) := by decide +kernel
theorem dX6_copy_185 : decode cX6_copy 185 = .ok (.invokevirtual 72, 3) := by decide +kernel
theorem dX6_copy_188 : decode cX6_copy 188 = .ok (.ireturn, 1) := by decide +kernel
theorem dX6_drop_0 : decode cX6_drop 0 = .ok (.iload_n 1, 1) := by decide +kernel
theorem dX6_drop_1 : decode cX6_drop 1 = .ok (.invokestatic 61, 3) := by decide +kernel
theorem dX6_drop_4 : decode cX6_drop 4 = .ok (.ifCond .ne 6, 3) := by decide +kernel
theorem dX6_drop_7 : decode cX6_drop 7 = .ok (.ldc 67, 2) := by decide +kernel
theorem dX6_drop_9 : decode cX6_drop 9 = .ok (.ireturn, 1) := by decide +kernel
theorem dX6_drop_10 : decode cX6_drop 10 = .ok (.aload_n 0, 1) := by decide +kernel
theorem dX6_drop_11 : decode cX6_drop 11 = .ok (.getfield 13, 3) := by decide +kernel
theorem dX6_drop_14 : decode cX6_drop 14 = .ok (.iload_n 1, 1) := by decide +kernel
theorem dX6_drop_15 : decode cX6_drop 15 = .ok (.iaload, 1) := by decide +kernel
theorem dX6_drop_16 : decode cX6_drop 16 = .ok (.ifCond .ge 9, 3) := by decide +kernel
theorem dX6_drop_19 : decode cX6_drop 19 = .ok (.aload_n 0, 1) := by decide +kernel
theorem dX6_drop_20 : decode cX6_drop 20 = .ok (.iconst 1, 1) := by decide +kernel
theorem dX6_drop_21 : decode cX6_drop 21 = .ok (.invokevirtual 68, 3) := by decide +kernel
theorem dX6_drop_24 : decode cX6_drop 24 = .ok (.ireturn, 1) := by decide +kernel
theorem dX6_drop_25 : decode cX6_drop 25 = .ok (.aload_n 0, 1) := by decide +kernel
theorem dX6_drop_26 : decode cX6_drop 26 = .ok (.getfield 13, 3) := by decide +kernel
theorem dX6_drop_29 : decode cX6_drop 29 = .ok (.iload_n 1, 1) := by decide +kernel
theorem dX6_drop_30 : decode cX6_drop 30 = .ok (.iaload, 1) := by decide +kernel
theorem dX6_drop_31 : decode cX6_drop 31 = .ok (.istore_n 2, 1) := by decide +kernel
theorem dX6_drop_32 : decode cX6_drop 32 = .ok (.aload_n 0, 1) := by decide +kernel
theorem dX6_drop_33 : decode cX6_drop 33 = .ok (.getfield 13, 3) := by decide +kernel
theorem dX6_drop_36 : decode cX6_drop 36 = .ok (.iload_n 1, 1) := by decide +kernel
theorem dX6_drop_37 : decode cX6_drop 37 = .ok (.iconst (-1), 1) := by decide +kernel
theorem dX6_drop_38 : decode cX6_drop 38 = .ok (.iastore, 1) := by decide +kernel
theorem dX6_drop_39 : decode cX6_drop 39 = .ok (.aload_n 0, 1) := by decide +kernel
theorem dX6_drop_40 : decode cX6_drop 40 = .ok (.iload_n 2, 1) := by decide +kernel
theorem dX6_drop_41 : decode cX6_drop 41 = .ok (.invokevirtual 72, 3) := by decide +kernel
theorem dX6_drop_44 : decode cX6_drop 44 = .ok (.ireturn, 1) := by decide +kernel
theorem dX6_feed_0 : decode cX6_feed 0 = .ok (.iload_n 1, 1) := by decide +kernel
theorem dX6_feed_1 : decode cX6_feed 1 = .ok (.i2l, 1) := by decide +kernel
theorem dX6_feed_2 : decode cX6_feed 2 = .ok (.lconst 0, 1) := by decide +kernel
theorem dX6_feed_3 : decode cX6_feed 3 = .ok (.ldc2_w 75, 3) := by decide +kernel
theorem dX6_feed_6 : decode cX6_feed 6 = .ok (.invokestatic 57, 3) := by decide +kernel
theorem dX6_feed_9 : decode cX6_feed 9 = .ok (.ifCond .ne 6, 3) := by decide +kernel
theorem dX6_feed_12 : decode cX6_feed 12 = .ok (.ldc 67, 2) := by decide +kernel
theorem dX6_feed_14 : decode cX6_feed 14 = .ok (.ireturn, 1) := by decide +kernel
theorem dX6_feed_15 : decode cX6_feed 15 = .ok (.aload_n 0, 1) := by decide +kernel
theorem dX6_feed_16 : decode cX6_feed 16 = .ok (.getfield 77, 3) := by decide +kernel
theorem dX6_feed_19 : decode cX6_feed 19 = .ok (.bipush 120, 2) := by decide +kernel
theorem dX6_feed_21 : decode cX6_feed 21 = .ok (.if_icmp .ne 6, 3) := by decide +kernel
theorem dX6_feed_24 : decode cX6_feed 24 = .ok (.ldc 80, 2) := by decide +kernel
theorem dX6_feed_26 : decode cX6_feed 26 = .ok (.ireturn, 1) := by decide +kernel
theorem dX6_feed_27 : decode cX6_feed 27 = .ok (.aload_n 0, 1) := by decide +kernel
theorem dX6_feed_28 : decode cX6_feed 28 = .ok (.getfield 38, 3) := by decide +kernel
theorem dX6_feed_31 : decode cX6_feed 31 = .ok (.aload_n 0, 1) := by decide +kernel
theorem dX6_feed_32 : decode cX6_feed 32 = .ok (.getfield 77, 3) := by decide +kernel
theorem dX6_feed_35 : decode cX6_feed 35 = .ok (.iload_n 1, 1) := by decide +kernel
theorem dX6_feed_36 : decode cX6_feed 36 = .ok (.iastore, 1) := by decide +kernel
theorem dX6_feed_37 : decode cX6_feed 37 = .ok (.aload_n 0, 1) := by decide +kernel
theorem dX6_feed_38 : decode cX6_feed 38 = .ok (.dup, 1) := by decide +kernel
theorem dX6_feed_39 : decode cX6_feed 39 = .ok (.getfield 77, 3) := by decide +kernel
theorem dX6_feed_42 : decode cX6_feed 42 = .ok (.iconst 1, 1) := by decide +kernel
theorem dX6_feed_43 : decode cX6_feed 43 = .ok (.iadd, 1) := by decide +kernel
theorem dX6_feed_44 : decode cX6_feed 44 = .ok (.putfield 77, 3) := by decide +kernel
theorem dX6_feed_47 : decode cX6_feed 47 = .ok (.aload_n 0, 1) := by decide +kernel
theorem dX6_feed_48 : decode cX6_feed 48 = .ok (.getfield 77, 3) := by decide +kernel
theorem dX6_feed_51 : decode cX6_feed 51 = .ok (.ireturn, 1) := by decide +kernel
theorem dX6_here_0 : decode cX6_here 0 = .ok (.aload_n 0, 1) := by decide +kernel
theorem dX6_here_1 : decode cX6_here 1 = .ok (.getfield 81, 3) := by decide +kernel
theorem dX6_here_4 : decode cX6_here 4 = .ok (.aload_n 0, 1) := by decide +kernel
theorem dX6_here_5 : decode cX6_here 5 = .ok (.getfield 77, 3) := by decide +kernel
theorem dX6_here_8 : decode cX6_here 8 = .ok (.if_icmp .ge 15, 3) := by decide +kernel
theorem dX6_here_11 : decode cX6_here 11 = .ok (.aload_n 0, 1) := by decide +kernel
theorem dX6_here_12 : decode cX6_here 12 = .ok (.getfield 38, 3) := by decide +kernel
theorem dX6_here_15 : decode cX6_here 15 = .ok (.aload_n 0, 1) := by decide +kernel
theorem dX6_here_16 : decode cX6_here 16 = .ok (.getfield 81, 3) := by decide +kernel
theorem dX6_here_19 : decode cX6_here 19 = .ok (.iaload, 1) := by decide +kernel
theorem dX6_here_20 : decode cX6_here 20 = .ok (.goto 4, 3) := by decide +kernel
theorem dX6_here_23 : decode cX6_here 23 = .ok (.iconst (-1), 1) := by decide +kernel
theorem dX6_here_24 : decode cX6_here 24 = .ok (.ireturn, 1) := by decide +kernel
theorem dX6_step_0 : decode cX6_step 0 = .ok (.aload_n 0, 1) := by decide +kernel
theorem dX6_step_1 : decode cX6_step 1 = .ok (.aload_n 0, 1) := by decide +kernel
theorem dX6_step_2 : decode cX6_step 2 = .ok (.getfield 81, 3) := by decide +kernel
theorem dX6_step_5 : decode cX6_step 5 = .ok (.putfield 84, 3) := by decide +kernel
theorem dX6_step_8 : decode cX6_step 8 = .ok (.aload_n 0, 1) := by decide +kernel
theorem dX6_step_9 : decode cX6_step 9 = .ok (.aload_n 0, 1) := by decide +kernel
theorem dX6_step_10 : decode cX6_step 10 = .ok (.invokevirtual 87, 3) := by decide +kernel
theorem dX6_step_13 : decode cX6_step 13 = .ok (.putfield 91, 3) := by decide +kernel
theorem dX6_step_16 : decode cX6_step 16 = .ok (.aload_n 0, 1) := by decide +kernel
theorem dX6_step_17 : decode cX6_step 17 = .ok (.aload_n 0, 1) := by decide +kernel
theorem dX6_step_18 : decode cX6_step 18 = .ok (.getfield 91, 3) := by decide +kernel
theorem dX6_step_21 : decode cX6_step 21 = .ok (.ifCond .ge 7, 3) := by decide +kernel
theorem dX6_step_24 : decode cX6_step 24 = .ok (.iconst 0, 1) := by decide +kernel
theorem dX6_step_25 : decode cX6_step 25 = .ok (.goto 68, 3) := by decide +kernel
theorem dX6_step_28 : decode cX6_step 28 = .ok (.aload_n 0, 1) := by decide +kernel
theorem dX6_step_29 : decode cX6_step 29 = .ok (.getfield 91, 3) := by decide +kernel
theorem dX6_step_32 : decode cX6_step 32 = .ok (.i2l, 1) := by decide +kernel
theorem dX6_step_33 : decode cX6_step 33 = .ok (.ldc2_w 94, 3) := by decide +kernel
theorem dX6_step_36 : decode cX6_step 36 = .ok (.ldc2_w 96, 3) := by decide +kernel
theorem dX6_step_39 : decode cX6_step 39 = .ok (.invokestatic 57, 3) := by decide +kernel
theorem dX6_step_42 : decode cX6_step 42 = .ok (.ifCond .eq 7, 3) := by decide +kernel
theorem dX6_step_45 : decode cX6_step 45 = .ok (.iconst 1, 1) := by decide +kernel
theorem dX6_step_46 : decode cX6_step 46 = .ok (.goto 47, 3) := by decide +kernel
theorem dX6_step_49 : decode cX6_step 49 = .ok (.aload_n 0, 1) := by decide +kernel
theorem dX6_step_50 : decode cX6_step 50 = .ok (.getfield 91, 3) := by decide +kernel
theorem dX6_step_53 : decode cX6_step 53 = .ok (.i2l, 1) := by decide +kernel
theorem dX6_step_54 : decode cX6_step 54 = .ok (.ldc2_w 98, 3) := by decide +kernel
theorem dX6_step_57 : decode cX6_step 57 = .ok (.ldc2_w 100, 3) := by decide +kernel
theorem dX6_step_60 : decode cX6_step 60 = .ok (.invokestatic 57, 3) := by decide +kernel
theorem dX6_step_63 : decode cX6_step 63 = .ok (.ifCond .eq 7, 3) := by decide +kernel
theorem dX6_step_66 : decode cX6_step 66 = .ok (.iconst 2, 1) := by decide +kernel
theorem dX6_step_67 : decode cX6_step 67 = .ok (.goto 26, 3) := by decide +kernel
theorem dX6_step_70 : decode cX6_step 70 = .ok (.aload_n 0, 1) := by decide +kernel
theorem dX6_step_71 : decode cX6_step 71 = .ok (.getfield 91, 3) := by decide +kernel
theorem dX6_step_74 : decode cX6_step 74 = .ok (.bipush 44, 2) := by decide +kernel
theorem dX6_step_76 : decode cX6_step 76 = .ok (.if_icmp .eq 12, 3) := by decide +kernel
theorem dX6_step_79 : decode cX6_step 79 = .ok (.aload_n 0, 1) := by decide +kernel
theorem dX6_step_80 : decode cX6_step 80 = .ok (.getfield 91, 3) := by decide +kernel
theorem dX6_step_83 : decode cX6_step 83 = .ok (.bipush 59, 2) := by decide +kernel
theorem dX6_step_85 : decode cX6_step 85 = .ok (.if_icmp .ne 7, 3) := by decide +kernel
theorem dX6_step_88 : decode cX6_step 88 = .ok (.iconst 3, 1) := by decide +kernel
theorem dX6_step_89 : decode cX6_step 89 = .ok (.goto 4, 3) := by decide +kernel
theorem dX6_step_92 : decode cX6_step 92 = .ok (.iconst 4, 1) := by decide +kernel
theorem dX6_step_93 : decode cX6_step 93 = .ok (.putfield 102, 3) := by decide +kernel
theorem dX6_step_96 : decode cX6_step 96 = .ok (.aload_n 0, 1) := by decide +kernel
theorem dX6_step_97 : decode cX6_step 97 = .ok (.getfield 102, 3) := by decide +kernel
theorem dX6_step_100 : decode cX6_step 100 = .ok (.iconst 2, 1) := by decide +kernel
theorem dX6_step_101 : decode cX6_step 101 = .ok (.if_icmp .eq 25, 3) := by decide +kernel
theorem dX6_step_104 : decode cX6_step 104 = .ok (.aload_n 0, 1) := by decide +kernel
theorem dX6_step_105 : decode cX6_step 105 = .ok (.dup, 1) := by decide +kernel
theorem dX6_step_106 : decode cX6_step 106 = .ok (.getfield 81, 3) := by decide +kernel
theorem dX6_step_109 : decode cX6_step 109 = .ok (.aload_n 0, 1) := by decide +kernel
theorem dX6_step_110 : decode cX6_step 110 = .ok (.getfield 102, 3) := by decide +kernel
theorem dX6_step_113 : decode cX6_step 113 = .ok (.ifCond .ne 7, 3) := by decide +kernel
theorem dX6_step_116 : decode cX6_step 116 = .ok (.iconst 0, 1) := by decide +kernel
theorem dX6_step_117 : decode cX6_step 117 = .ok (.goto 4, 3) := by decide +kernel
theorem dX6_step_120 : decode cX6_step 120 = .ok (.iconst 1, 1) := by decide +kernel
theorem dX6_step_121 : decode cX6_step 121 = .ok (.iadd, 1) := by decide +kernel
theorem dX6_step_122 : decode cX6_step 122 = .ok (.putfield 81, 3) := by decide +kernel
theorem dX6_step_125 : decode cX6_step 125 = .ok (.return_, 1) := by decide +kernel
theorem dX6_step_126 : decode cX6_step 126 = .ok (.aload_n 0, 1) := by decide +kernel
theorem dX6_step_127 : decode cX6_step 127 = .ok (.iconst 0, 1) := by decide +kernel
theorem dX6_step_128 : decode cX6_step 128 = .ok (.putfield 91, 3) := by decide +kernel
theorem dX6_step_131 : decode cX6_step 131 = .ok (.aload_n 0, 1) := by decide +kernel
theorem dX6_step_132 : decode cX6_step 132 = .ok (.invokevirtual 87, 3) := by decide +kernel
theorem dX6_step_135 : decode cX6_step 135 = .ok (.i2l, 1) := by decide +kernel
theorem dX6_step_136 : decode cX6_step 136 = .ok (.ldc2_w 98, 3) := by decide +kernel
theorem dX6_step_139 : decode cX6_step 139 = .ok (.ldc2_w 100, 3) := by decide +kernel
theorem dX6_step_142 : decode cX6_step 142 = .ok (.invokestatic 57, 3) := by decide +kernel
theorem dX6_step_145 : decode cX6_step 145 = .ok (.ifCond .eq 55, 3) := by decide +kernel
theorem dX6_step_148 : decode cX6_step 148 = .ok (.aload_n 0, 1) := by decide +kernel
theorem dX6_step_149 : decode cX6_step 149 = .ok (.aload_n 0, 1) := by decide +kernel
theorem dX6_step_150 : decode cX6_step 150 = .ok (.getfield 81, 3) := by decide +kernel
theorem dX6_step_153 : decode cX6_step 153 = .ok (.aload_n 0, 1) := by decide +kernel
theorem dX6_step_154 : decode cX6_step 154 = .ok (.getfield 84, 3) := by decide +kernel
theorem dX6_step_157 : decode cX6_step 157 = .ok (.isub, 1) := by decide +kernel
theorem dX6_step_158 : decode cX6_step 158 = .ok (.iconst 2, 1) := by decide +kernel
theorem dX6_step_159 : decode cX6_step 159 = .ok (.if_icmp .ge 21, 3) := by decide +kernel
theorem dX6_step_162 : decode cX6_step 162 = .ok (.bipush 10, 2) := by decide +kernel
theorem dX6_step_164 : decode cX6_step 164 = .ok (.aload_n 0, 1) := by decide +kernel
theorem dX6_step_165 : decode cX6_step 165 = .ok (.getfield 91, 3) := by decide +kernel
theorem dX6_step_168 : decode cX6_step 168 = .ok (.imul, 1) := by decide +kernel
theorem dX6_step_169 : decode cX6_step 169 = .ok (.aload_n 0, 1) := by decide +kernel
theorem dX6_step_170 : decode cX6_step 170 = .ok (.invokevirtual 87, 3) := by decide +kernel
theorem dX6_step_173 : decode cX6_step 173 = .ok (.iadd, 1) := by decide +kernel
theorem dX6_step_174 : decode cX6_step 174 = .ok (.bipush 48, 2) := by decide +kernel
theorem dX6_step_176 : decode cX6_step 176 = .ok (.isub, 1) := by decide +kernel
theorem dX6_step_177 : decode cX6_step 177 = .ok (.goto 7, 3) := by decide +kernel
theorem dX6_step_180 : decode cX6_step 180 = .ok (.aload_n 0, 1) := by decide +kernel
theorem dX6_step_181 : decode cX6_step 181 = .ok (.getfield 91, 3) := by decide +kernel
theorem dX6_step_184 : decode cX6_step 184 = .ok (.putfield 91, 3) := by decide +kernel
theorem dX6_step_187 : decode cX6_step 187 = .ok (.aload_n 0, 1) := by decide +kernel
theorem dX6_step_188 : decode cX6_step 188 = .ok (.dup, 1) := by decide +kernel
theorem dX6_step_189 : decode cX6_step 189 = .ok (.getfield 81, 3) := by decide +kernel
theorem dX6_step_192 : decode cX6_step 192 = .ok (.iconst 1, 1) := by decide +kernel
theorem dX6_step_193 : decode cX6_step 193 = .ok (.iadd, 1) := by decide +kernel
theorem dX6_step_194 : decode cX6_step 194 = .ok (.putfield 81, 3) := by decide +kernel
theorem dX6_step_197 : decode cX6_step 197 = .ok (.goto (-66), 3) := by decide +kernel
theorem dX6_step_200 : decode cX6_step 200 = .ok (.aload_n 0, 1) := by decide +kernel
theorem dX6_step_201 : decode cX6_step 201 = .ok (.aload_n 0, 1) := by decide +kernel
theorem dX6_step_202 : decode cX6_step 202 = .ok (.getfield 81, 3) := by decide +kernel
theorem dX6_step_205 : decode cX6_step 205 = .ok (.aload_n 0, 1) := by decide +kernel
theorem dX6_step_206 : decode cX6_step 206 = .ok (.getfield 84, 3) := by decide +kernel
theorem dX6_step_209 : decode cX6_step 209 = .ok (.isub, 1) := by decide +kernel
theorem dX6_step_210 : decode cX6_step 210 = .ok (.iconst 2, 1) := by decide +kernel
theorem dX6_step_211 : decode cX6_step 211 = .ok (.if_icmp .le 7, 3) := by decide +kernel
theorem dX6_step_214 : decode cX6_step 214 = .ok (.iconst 4, 1) := by decide +kernel
theorem dX6_step_215 : decode cX6_step 215 = .ok (.goto 4, 3) := by decide +kernel
theorem dX6_step_218 : decode cX6_step 218 = .ok (.iconst 2, 1) := by decide +kernel
theorem dX6_step_219 : decode cX6_step 219 = .ok (.putfield 102, 3) := by decide +kernel
theorem dX6_step_222 : decode cX6_step 222 = .ok (.return_, 1) := by decide +kernel
theorem dX6_fails_0 : decode cX6_fails 0 = .ok (.aload_n 0, 1) := by decide +kernel
theorem dX6_fails_1 : decode cX6_fails 1 = .ok (.iload_n 1, 1) := by decide +kernel
theorem dX6_fails_2 : decode cX6_fails 2 = .ok (.putfield 105, 3) := by decide +kernel
theorem dX6_fails_5 : decode cX6_fails 5 = .ok (.iconst 0, 1) := by decide +kernel
theorem dX6_fails_6 : decode cX6_fails 6 = .ok (.ireturn, 1) := by decide +kernel
theorem dX6_number_0 : decode cX6_number 0 = .ok (.aload_n 0, 1) := by decide +kernel
theorem dX6_number_1 : decode cX6_number 1 = .ok (.invokevirtual 108, 3) := by decide +kernel
theorem dX6_number_4 : decode cX6_number 4 = .ok (.aload_n 0, 1) := by decide +kernel
theorem dX6_number_5 : decode cX6_number 5 = .ok (.getfield 102, 3) := by decide +kernel
theorem dX6_number_8 : decode cX6_number 8 = .ok (.iconst 2, 1) := by decide +kernel
theorem dX6_number_9 : decode cX6_number 9 = .ok (.if_icmp .eq 9, 3) := by decide +kernel
theorem dX6_number_12 : decode cX6_number 12 = .ok (.aload_n 0, 1) := by decide +kernel
theorem dX6_number_13 : decode cX6_number 13 = .ok (.iconst 1, 1) := by decide +kernel
theorem dX6_number_14 : decode cX6_number 14 = .ok (.invokevirtual 111, 3) := by decide +kernel
theorem dX6_number_17 : decode cX6_number 17 = .ok (.ireturn, 1) := by decide +kernel
theorem dX6_number_18 : decode cX6_number 18 = .ok (.aload_n 0, 1) := by decide +kernel
theorem dX6_number_19 : decode cX6_number 19 = .ok (.getfield 91, 3) := by decide +kernel
theorem dX6_number_22 : decode cX6_number 22 = .ok (.i2l, 1) := by decide +kernel
theorem dX6_number_23 : decode cX6_number 23 = .ok (.iload_n 2, 1) := by decide +kernel
theorem dX6_number_24 : decode cX6_number 24 = .ok (.i2l, 1) := by decide +kernel
theorem dX6_number_25 : decode cX6_number 25 = .ok (.iload_n 3, 1) := by decide +kernel
theorem dX6_number_26 : decode cX6_number 26 = .ok (.i2l, 1) := by decide +kernel
theorem dX6_number_27 : decode cX6_number 27 = .ok (.invokestatic 57, 3) := by decide +kernel
theorem dX6_number_30 : decode cX6_number 30 = .ok (.ifCond .ne 9, 3) := by decide +kernel
theorem dX6_number_33 : decode cX6_number 33 = .ok (.aload_n 0, 1) := by decide +kernel
theorem dX6_number_34 : decode cX6_number 34 = .ok (.iconst 2, 1) := by decide +kernel
theorem dX6_number_35 : decode cX6_number 35 = .ok (.invokevirtual 111, 3) := by decide +kernel
theorem dX6_number_38 : decode cX6_number 38 = .ok (.ireturn, 1) := by decide +kernel
theorem dX6_number_39 : decode cX6_number 39 = .ok (.aload_n 0, 1) := by decide +kernel
theorem dX6_number_40 : decode cX6_number 40 = .ok (.getfield 22, 3) := by decide +kernel
theorem dX6_number_43 : decode cX6_number 43 = .ok (.iload_n 1, 1) := by decide +kernel
theorem dX6_number_44 : decode cX6_number 44 = .ok (.aload_n 0, 1) := by decide +kernel
theorem dX6_number_45 : decode cX6_number 45 = .ok (.getfield 91, 3) := by decide +kernel
theorem dX6_number_48 : decode cX6_number 48 = .ok (.iastore, 1) := by decide +kernel
theorem dX6_number_49 : decode cX6_number 49 = .ok (.aload_n 0, 1) := by decide +kernel
theorem dX6_number_50 : decode cX6_number 50 = .ok (.invokevirtual 108, 3) := by decide +kernel
theorem dX6_number_53 : decode cX6_number 53 = .ok (.aload_n 0, 1) := by decide +kernel
theorem dX6_number_54 : decode cX6_number 54 = .ok (.getfield 102, 3) := by decide +kernel
theorem dX6_number_57 : decode cX6_number 57 = .ok (.iconst 3, 1) := by decide +kernel
theorem dX6_number_58 : decode cX6_number 58 = .ok (.if_icmp .ne 12, 3) := by decide +kernel
theorem dX6_number_61 : decode cX6_number 61 = .ok (.aload_n 0, 1) := by decide +kernel
theorem dX6_number_62 : decode cX6_number 62 = .ok (.getfield 91, 3) := by decide +kernel
theorem dX6_number_65 : decode cX6_number 65 = .ok (.iload 4, 2) := by decide +kernel
theorem dX6_number_67 : decode cX6_number 67 = .ok (.if_icmp .eq 11, 3) := by decide +kernel
theorem dX6_number_70 : decode cX6_number 70 = .ok (.aload_n 0, 1) := by decide +kernel
theorem dX6_number_71 : decode cX6_number 71 = .ok (.iconst 1, 1) := by decide +kernel
theorem dX6_number_72 : decode cX6_number 72 = .ok (.invokevirtual 111, 3) := by decide +kernel
theorem dX6_number_75 : decode cX6_number 75 = .ok (.ifCond .eq 7, 3) := by decide +kernel
theorem dX6_number_78 : decode cX6_number 78 = .ok (.iconst 1, 1) := by decide +kernel
theorem dX6_number_79 : decode cX6_number 79 = .ok (.goto 4, 3) := by decide +kernel
theorem dX6_number_82 : decode cX6_number 82 = .ok (.iconst 0, 1) := by decide +kernel
theorem dX6_number_83 : decode cX6_number 83 = .ok (.ireturn, 1) := by decide +kernel
theorem dX6_sortOf_0 : decode cX6_sortOf 0 = .ok (.iload_n 0, 1) := by decide +kernel
theorem dX6_sortOf_1 : decode cX6_sortOf 1 = .ok (.bipush 99, 2) := by decide +kernel
theorem dX6_sortOf_3 : decode cX6_sortOf 3 = .ok (.if_icmp .ne 7, 3) := by decide +kernel
theorem dX6_sortOf_6 : decode cX6_sortOf 6 = .ok (.iconst 1, 1) := by decide +kernel
theorem dX6_sortOf_7 : decode cX6_sortOf 7 = .ok (.goto 44, 3) := by decide +kernel
theorem dX6_sortOf_10 : decode cX6_sortOf 10 = .ok (.iload_n 0, 1) := by decide +kernel
theorem dX6_sortOf_11 : decode cX6_sortOf 11 = .ok (.bipush 115, 2) := by decide +kernel
theorem dX6_sortOf_13 : decode cX6_sortOf 13 = .ok (.if_icmp .ne 7, 3) := by decide +kernel
theorem dX6_sortOf_16 : decode cX6_sortOf 16 = .ok (.iconst 2, 1) := by decide +kernel
theorem dX6_sortOf_17 : decode cX6_sortOf 17 = .ok (.goto 34, 3) := by decide +kernel
theorem dX6_sortOf_20 : decode cX6_sortOf 20 = .ok (.iload_n 0, 1) := by decide +kernel
theorem dX6_sortOf_21 : decode cX6_sortOf 21 = .ok (.bipush 118, 2) := by decide +kernel
theorem dX6_sortOf_23 : decode cX6_sortOf 23 = .ok (.if_icmp .ne 7, 3) := by decide +kernel
theorem dX6_sortOf_26 : decode cX6_sortOf 26 = .ok (.iconst 3, 1) := by decide +kernel
theorem dX6_sortOf_27 : decode cX6_sortOf 27 = .ok (.goto 24, 3) := by decide +kernel
theorem dX6_sortOf_30 : decode cX6_sortOf 30 = .ok (.iload_n 0, 1) := by decide +kernel
theorem dX6_sortOf_31 : decode cX6_sortOf 31 = .ok (.bipush 114, 2) := by decide +kernel
theorem dX6_sortOf_33 : decode cX6_sortOf 33 = .ok (.if_icmp .ne 7, 3) := by decide +kernel
theorem dX6_sortOf_36 : decode cX6_sortOf 36 = .ok (.iconst 4, 1) := by decide +kernel
theorem dX6_sortOf_37 : decode cX6_sortOf 37 = .ok (.goto 14, 3) := by decide +kernel
theorem dX6_sortOf_40 : decode cX6_sortOf 40 = .ok (.iload_n 0, 1) := by decide +kernel
theorem dX6_sortOf_41 : decode cX6_sortOf 41 = .ok (.bipush 111, 2) := by decide +kernel
theorem dX6_sortOf_43 : decode cX6_sortOf 43 = .ok (.if_icmp .ne 7, 3) := by decide +kernel
theorem dX6_sortOf_46 : decode cX6_sortOf 46 = .ok (.iconst 5, 1) := by decide +kernel
theorem dX6_sortOf_47 : decode cX6_sortOf 47 = .ok (.goto 4, 3) := by decide +kernel
theorem dX6_sortOf_50 : decode cX6_sortOf 50 = .ok (.iconst 0, 1) := by decide +kernel
theorem dX6_sortOf_51 : decode cX6_sortOf 51 = .ok (.ireturn, 1) := by decide +kernel
theorem dX6_readsHammock_0 : decode cX6_readsHammock 0 = .ok (.aload_n 0, 1) := by decide +kernel
theorem dX6_readsHammock_1 : decode cX6_readsHammock 1 = .ok (.getfield 22, 3) := by decide +kernel
theorem dX6_readsHammock_4 : decode cX6_readsHammock 4 = .ok (.iconst 0, 1) := by decide +kernel
theorem dX6_readsHammock_5 : decode cX6_readsHammock 5 = .ok (.iaload, 1) := by decide +kernel
theorem dX6_readsHammock_6 : decode cX6_readsHammock 6 = .ok (.istore_n 1, 1) := by decide +kernel
theorem dX6_readsHammock_7 : decode cX6_readsHammock 7 = .ok (.aload_n 0, 1) := by decide +kernel
theorem dX6_readsHammock_8 : decode cX6_readsHammock 8 = .ok (.getfield 102, 3) := by decide +kernel
theorem dX6_readsHammock_11 : decode cX6_readsHammock 11 = .ok (.iconst 1, 1) := by decide +kernel
theorem dX6_readsHammock_12 : decode cX6_readsHammock 12 = .ok (.if_icmp .ne 13, 3) := by decide +kernel
theorem dX6_readsHammock_15 : decode cX6_readsHammock 15 = .ok (.aload_n 0, 1) := by decide +kernel
theorem dX6_readsHammock_16 : decode cX6_readsHammock 16 = .ok (.getfield 91, 3) := by decide +kernel
theorem dX6_readsHammock_19 : decode cX6_readsHammock 19 = .ok (.invokestatic 114, 3) := by decide +kernel
theorem dX6_readsHammock_22 : decode cX6_readsHammock 22 = .ok (.goto 4, 3) := by decide +kernel
theorem dX6_readsHammock_25 : decode cX6_readsHammock 25 = .ok (.iconst 0, 1) := by decide +kernel
theorem dX6_readsHammock_26 : decode cX6_readsHammock 26 = .ok (.istore_n 2, 1) := by decide +kernel
theorem dX6_readsHammock_27 : decode cX6_readsHammock 27 = .ok (.iload_n 2, 1) := by decide +kernel
theorem dX6_readsHammock_28 : decode cX6_readsHammock 28 = .ok (.ifCond .ne 9, 3) := by decide +kernel
theorem dX6_readsHammock_31 : decode cX6_readsHammock 31 = .ok (.aload_n 0, 1) := by decide +kernel
theorem dX6_readsHammock_32 : decode cX6_readsHammock 32 = .ok (.iconst 1, 1) := by decide +kernel
theorem dX6_readsHammock_33 : decode cX6_readsHammock 33 = .ok (.invokevirtual 111, 3) := by decide +kernel
theorem dX6_readsHammock_36 : decode cX6_readsHammock 36 = .ok (.ireturn, 1) := by decide +kernel
theorem dX6_readsHammock_37 : decode cX6_readsHammock 37 = .ok (.iload_n 1, 1) := by decide +kernel
theorem dX6_readsHammock_38 : decode cX6_readsHammock 38 = .ok (.bipush 6, 2) := by decide +kernel
theorem dX6_readsHammock_40 : decode cX6_readsHammock 40 = .ok (.if_icmp .ne 9, 3) := by decide +kernel
theorem dX6_readsHammock_43 : decode cX6_readsHammock 43 = .ok (.aload_n 0, 1) := by decide +kernel
theorem dX6_readsHammock_44 : decode cX6_readsHammock 44 = .ok (.iconst 3, 1) := by decide +kernel
theorem dX6_readsHammock_45 : decode cX6_readsHammock 45 = .ok (.invokevirtual 111, 3) := by decide +kernel
theorem dX6_readsHammock_48 : decode cX6_readsHammock 48 = .ok (.ireturn, 1) := by decide +kernel
theorem dX6_readsHammock_49 : decode cX6_readsHammock 49 = .ok (.aload_n 0, 1) := by decide +kernel
theorem dX6_readsHammock_50 : decode cX6_readsHammock 50 = .ok (.getfield 22, 3) := by decide +kernel
theorem dX6_readsHammock_53 : decode cX6_readsHammock 53 = .ok (.iconst 4, 1) := by decide +kernel
theorem dX6_readsHammock_54 : decode cX6_readsHammock 54 = .ok (.iload_n 1, 1) := by decide +kernel
theorem dX6_readsHammock_55 : decode cX6_readsHammock 55 = .ok (.iadd, 1) := by decide +kernel
theorem dX6_readsHammock_56 : decode cX6_readsHammock 56 = .ok (.iload_n 2, 1) := by decide +kernel
theorem dX6_readsHammock_57 : decode cX6_readsHammock 57 = .ok (.iastore, 1) := by decide +kernel
theorem dX6_readsHammock_58 : decode cX6_readsHammock 58 = .ok (.aload_n 0, 1) := by decide +kernel
theorem dX6_readsHammock_59 : decode cX6_readsHammock 59 = .ok (.getfield 22, 3) := by decide +kernel
theorem dX6_readsHammock_62 : decode cX6_readsHammock 62 = .ok (.iconst 0, 1) := by decide +kernel
theorem dX6_readsHammock_63 : decode cX6_readsHammock 63 = .ok (.dup2, 1) := by decide +kernel
theorem dX6_readsHammock_64 : decode cX6_readsHammock 64 = .ok (.iaload, 1) := by decide +kernel
theorem dX6_readsHammock_65 : decode cX6_readsHammock 65 = .ok (.iconst 1, 1) := by decide +kernel
theorem dX6_readsHammock_66 : decode cX6_readsHammock 66 = .ok (.iadd, 1) := by decide +kernel
theorem dX6_readsHammock_67 : decode cX6_readsHammock 67 = .ok (.iastore, 1) := by decide +kernel
theorem dX6_readsHammock_68 : decode cX6_readsHammock 68 = .ok (.aload_n 0, 1) := by decide +kernel
theorem dX6_readsHammock_69 : decode cX6_readsHammock 69 = .ok (.bipush 10, 2) := by decide +kernel
theorem dX6_readsHammock_71 : decode cX6_readsHammock 71 = .ok (.iload_n 1, 1) := by decide +kernel
theorem dX6_readsHammock_72 : decode cX6_readsHammock 72 = .ok (.iadd, 1) := by decide +kernel
theorem dX6_readsHammock_73 : decode cX6_readsHammock 73 = .ok (.iconst 0, 1) := by decide +kernel
theorem dX6_readsHammock_74 : decode cX6_readsHammock 74 = .ok (.bipush 11, 2) := by decide +kernel
theorem dX6_readsHammock_76 : decode cX6_readsHammock 76 = .ok (.bipush 44, 2) := by decide +kernel
theorem dX6_readsHammock_78 : decode cX6_readsHammock 78 = .ok (.invokevirtual 117, 3) := by decide +kernel
theorem dX6_readsHammock_81 : decode cX6_readsHammock 81 = .ok (.ifCond .eq 64, 3) := by decide +kernel
theorem dX6_readsHammock_84 : decode cX6_readsHammock 84 = .ok (.aload_n 0, 1) := by decide +kernel
theorem dX6_readsHammock_85 : decode cX6_readsHammock 85 = .ok (.bipush 16, 2) := by decide +kernel
theorem dX6_readsHammock_87 : decode cX6_readsHammock 87 = .ok (.iload_n 1, 1) := by decide +kernel
theorem dX6_readsHammock_88 : decode cX6_readsHammock 88 = .ok (.iadd, 1) := by decide +kernel
theorem dX6_readsHammock_89 : decode cX6_readsHammock 89 = .ok (.aload_n 0, 1) := by decide +kernel
theorem dX6_readsHammock_90 : decode cX6_readsHammock 90 = .ok (.getfield 22, 3) := by decide +kernel
theorem dX6_readsHammock_93 : decode cX6_readsHammock 93 = .ok (.bipush 10, 2) := by decide +kernel
theorem dX6_readsHammock_95 : decode cX6_readsHammock 95 = .ok (.iload_n 1, 1) := by decide +kernel
theorem dX6_readsHammock_96 : decode cX6_readsHammock 96 = .ok (.iadd, 1) := by decide +kernel
theorem dX6_readsHammock_97 : decode cX6_readsHammock 97 = .ok (.iaload, 1) := by decide +kernel
theorem dX6_readsHammock_98 : decode cX6_readsHammock 98 = .ok (.iconst 1, 1) := by decide +kernel
theorem dX6_readsHammock_99 : decode cX6_readsHammock 99 = .ok (.iadd, 1) := by decide +kernel
theorem dX6_readsHammock_100 : decode cX6_readsHammock 100 = .ok (.bipush 11, 2) := by decide +kernel
theorem dX6_readsHammock_102 : decode cX6_readsHammock 102 = .ok (.bipush 44, 2) := by decide +kernel
theorem dX6_readsHammock_104 : decode cX6_readsHammock 104 = .ok (.invokevirtual 117, 3) := by decide +kernel
theorem dX6_readsHammock_107 : decode cX6_readsHammock 107 = .ok (.ifCond .eq 38, 3) := by decide +kernel
theorem dX6_readsHammock_110 : decode cX6_readsHammock 110 = .ok (.aload_n 0, 1) := by decide +kernel
theorem dX6_readsHammock_111 : decode cX6_readsHammock 111 = .ok (.bipush 22, 2) := by decide +kernel
theorem dX6_readsHammock_113 : decode cX6_readsHammock 113 = .ok (.iload_n 1, 1) := by decide +kernel
theorem dX6_readsHammock_114 : decode cX6_readsHammock 114 = .ok (.iadd, 1) := by decide +kernel
theorem dX6_readsHammock_115 : decode cX6_readsHammock 115 = .ok (.iconst 1, 1) := by decide +kernel
theorem dX6_readsHammock_116 : decode cX6_readsHammock 116 = .ok (.bipush 20, 2) := by decide +kernel
theorem dX6_readsHammock_118 : decode cX6_readsHammock 118 = .ok (.bipush 44, 2) := by decide +kernel
theorem dX6_readsHammock_120 : decode cX6_readsHammock 120 = .ok (.invokevirtual 117, 3) := by decide +kernel
theorem dX6_readsHammock_123 : decode cX6_readsHammock 123 = .ok (.ifCond .eq 22, 3) := by decide +kernel
theorem dX6_readsHammock_126 : decode cX6_readsHammock 126 = .ok (.aload_n 0, 1) := by decide +kernel
theorem dX6_readsHammock_127 : decode cX6_readsHammock 127 = .ok (.bipush 28, 2) := by decide +kernel
theorem dX6_readsHammock_129 : decode cX6_readsHammock 129 = .ok (.iload_n 1, 1) := by decide +kernel
theorem dX6_readsHammock_130 : decode cX6_readsHammock 130 = .ok (.iadd, 1) := by decide +kernel
theorem dX6_readsHammock_131 : decode cX6_readsHammock 131 = .ok (.iconst 0, 1) := by decide +kernel
theorem dX6_readsHammock_132 : decode cX6_readsHammock 132 = .ok (.iconst 5, 1) := by decide +kernel
theorem dX6_readsHammock_133 : decode cX6_readsHammock 133 = .ok (.bipush 59, 2) := by decide +kernel
theorem dX6_readsHammock_135 : decode cX6_readsHammock 135 = .ok (.invokevirtual 117, 3) := by decide +kernel
theorem dX6_readsHammock_138 : decode cX6_readsHammock 138 = .ok (.ifCond .eq 7, 3) := by decide +kernel
theorem dX6_readsHammock_141 : decode cX6_readsHammock 141 = .ok (.iconst 1, 1) := by decide +kernel
theorem dX6_readsHammock_142 : decode cX6_readsHammock 142 = .ok (.goto 4, 3) := by decide +kernel
theorem dX6_readsHammock_145 : decode cX6_readsHammock 145 = .ok (.iconst 0, 1) := by decide +kernel
theorem dX6_readsHammock_146 : decode cX6_readsHammock 146 = .ok (.ireturn, 1) := by decide +kernel
theorem dX6_reads_0 : decode cX6_reads 0 = .ok (.iconst 0, 1) := by decide +kernel
theorem dX6_reads_1 : decode cX6_reads 1 = .ok (.istore_n 1, 1) := by decide +kernel
theorem dX6_reads_2 : decode cX6_reads 2 = .ok (.iload_n 1, 1) := by decide +kernel
theorem dX6_reads_3 : decode cX6_reads 3 = .ok (.bipush 36, 2) := by decide +kernel
theorem dX6_reads_5 : decode cX6_reads 5 = .ok (.if_icmp .ge 16, 3) := by decide +kernel
theorem dX6_reads_8 : decode cX6_reads 8 = .ok (.aload_n 0, 1) := by decide +kernel
theorem dX6_reads_9 : decode cX6_reads 9 = .ok (.getfield 22, 3) := by decide +kernel
theorem dX6_reads_12 : decode cX6_reads 12 = .ok (.iload_n 1, 1) := by decide +kernel
theorem dX6_reads_13 : decode cX6_reads 13 = .ok (.iconst 0, 1) := by decide +kernel
theorem dX6_reads_14 : decode cX6_reads 14 = .ok (.iastore, 1) := by decide +kernel
theorem dX6_reads_15 : decode cX6_reads 15 = .ok (.iinc 1 1, 3) := by decide +kernel
theorem dX6_reads_18 : decode cX6_reads 18 = .ok (.goto (-16), 3) := by decide +kernel
theorem dX6_reads_21 : decode cX6_reads 21 = .ok (.aload_n 0, 1) := by decide +kernel
theorem dX6_reads_22 : decode cX6_reads 22 = .ok (.iconst 0, 1) := by decide +kernel
theorem dX6_reads_23 : decode cX6_reads 23 = .ok (.putfield 81, 3) := by decide +kernel
theorem dX6_reads_26 : decode cX6_reads 26 = .ok (.aload_n 0, 1) := by decide +kernel
theorem dX6_reads_27 : decode cX6_reads 27 = .ok (.invokevirtual 108, 3) := by decide +kernel
theorem dX6_reads_30 : decode cX6_reads 30 = .ok (.aload_n 0, 1) := by decide +kernel
theorem dX6_reads_31 : decode cX6_reads 31 = .ok (.getfield 102, 3) := by decide +kernel
theorem dX6_reads_34 : decode cX6_reads 34 = .ok (.iconst 1, 1) := by decide +kernel
theorem dX6_reads_35 : decode cX6_reads 35 = .ok (.if_icmp .ne 12, 3) := by decide +kernel
theorem dX6_reads_38 : decode cX6_reads 38 = .ok (.aload_n 0, 1) := by decide +kernel
theorem dX6_reads_39 : decode cX6_reads 39 = .ok (.getfield 91, 3) := by decide +kernel
theorem dX6_reads_42 : decode cX6_reads 42 = .ok (.bipush 116, 2) := by decide +kernel
theorem dX6_reads_44 : decode cX6_reads 44 = .ok (.if_icmp .eq 9, 3) := by decide +kernel
theorem dX6_reads_47 : decode cX6_reads 47 = .ok (.aload_n 0, 1) := by decide +kernel
theorem dX6_reads_48 : decode cX6_reads 48 = .ok (.iconst 1, 1) := by decide +kernel
theorem dX6_reads_49 : decode cX6_reads 49 = .ok (.invokevirtual 111, 3) := by decide +kernel
theorem dX6_reads_52 : decode cX6_reads 52 = .ok (.ireturn, 1) := by decide +kernel
theorem dX6_reads_53 : decode cX6_reads 53 = .ok (.aload_n 0, 1) := by decide +kernel
theorem dX6_reads_54 : decode cX6_reads 54 = .ok (.iconst 1, 1) := by decide +kernel
theorem dX6_reads_55 : decode cX6_reads 55 = .ok (.iconst 0, 1) := by decide +kernel
theorem dX6_reads_56 : decode cX6_reads 56 = .ok (.bipush 40, 2) := by decide +kernel
theorem dX6_reads_58 : decode cX6_reads 58 = .ok (.bipush 44, 2) := by decide +kernel
theorem dX6_reads_60 : decode cX6_reads 60 = .ok (.invokevirtual 117, 3) := by decide +kernel
theorem dX6_reads_63 : decode cX6_reads 63 = .ok (.ifCond .eq 15, 3) := by decide +kernel
theorem dX6_reads_66 : decode cX6_reads 66 = .ok (.aload_n 0, 1) := by decide +kernel
theorem dX6_reads_67 : decode cX6_reads 67 = .ok (.iconst 2, 1) := by decide +kernel
theorem dX6_reads_68 : decode cX6_reads 68 = .ok (.iconst 0, 1) := by decide +kernel
theorem dX6_reads_69 : decode cX6_reads 69 = .ok (.iconst 5, 1) := by decide +kernel
theorem dX6_reads_70 : decode cX6_reads 70 = .ok (.bipush 59, 2) := by decide +kernel
theorem dX6_reads_72 : decode cX6_reads 72 = .ok (.invokevirtual 117, 3) := by decide +kernel
theorem dX6_reads_75 : decode cX6_reads 75 = .ok (.ifCond .ne 5, 3) := by decide +kernel
theorem dX6_reads_78 : decode cX6_reads 78 = .ok (.iconst 0, 1) := by decide +kernel
theorem dX6_reads_79 : decode cX6_reads 79 = .ok (.ireturn, 1) := by decide +kernel
theorem dX6_reads_80 : decode cX6_reads 80 = .ok (.aload_n 0, 1) := by decide +kernel
theorem dX6_reads_81 : decode cX6_reads 81 = .ok (.getfield 22, 3) := by decide +kernel
theorem dX6_reads_84 : decode cX6_reads 84 = .ok (.iconst 3, 1) := by decide +kernel
theorem dX6_reads_85 : decode cX6_reads 85 = .ok (.iconst 1, 1) := by decide +kernel
theorem dX6_reads_86 : decode cX6_reads 86 = .ok (.iastore, 1) := by decide +kernel
theorem dX6_reads_87 : decode cX6_reads 87 = .ok (.aload_n 0, 1) := by decide +kernel
theorem dX6_reads_88 : decode cX6_reads 88 = .ok (.invokevirtual 108, 3) := by decide +kernel
theorem dX6_reads_91 : decode cX6_reads 91 = .ok (.aload_n 0, 1) := by decide +kernel
theorem dX6_reads_92 : decode cX6_reads 92 = .ok (.getfield 102, 3) := by decide +kernel
theorem dX6_reads_95 : decode cX6_reads 95 = .ok (.ifCond .eq 19, 3) := by decide +kernel
theorem dX6_reads_98 : decode cX6_reads 98 = .ok (.aload_n 0, 1) := by decide +kernel
theorem dX6_reads_99 : decode cX6_reads 99 = .ok (.invokevirtual 121, 3) := by decide +kernel
theorem dX6_reads_102 : decode cX6_reads 102 = .ok (.ifCond .ne 5, 3) := by decide +kernel
theorem dX6_reads_105 : decode cX6_reads 105 = .ok (.iconst 0, 1) := by decide +kernel
theorem dX6_reads_106 : decode cX6_reads 106 = .ok (.ireturn, 1) := by decide +kernel
theorem dX6_reads_107 : decode cX6_reads 107 = .ok (.aload_n 0, 1) := by decide +kernel
theorem dX6_reads_108 : decode cX6_reads 108 = .ok (.invokevirtual 108, 3) := by decide +kernel
theorem dX6_reads_111 : decode cX6_reads 111 = .ok (.goto (-20), 3) := by decide +kernel
theorem dX6_reads_114 : decode cX6_reads 114 = .ok (.iconst 1, 1) := by decide +kernel
theorem dX6_reads_115 : decode cX6_reads 115 = .ok (.ireturn, 1) := by decide +kernel
theorem dX6_forest_0 : decode cX6_forest 0 = .ok (.aload_n 0, 1) := by decide +kernel
theorem dX6_forest_1 : decode cX6_forest 1 = .ok (.invokevirtual 125, 3) := by decide +kernel
theorem dX6_forest_4 : decode cX6_forest 4 = .ok (.istore_n 1, 1) := by decide +kernel
theorem dX6_forest_5 : decode cX6_forest 5 = .ok (.aload_n 0, 1) := by decide +kernel
theorem dX6_forest_6 : decode cX6_forest 6 = .ok (.iconst 0, 1) := by decide +kernel
theorem dX6_forest_7 : decode cX6_forest 7 = .ok (.putfield 77, 3) := by decide +kernel
theorem dX6_forest_10 : decode cX6_forest 10 = .ok (.iload_n 1, 1) := by decide +kernel
theorem dX6_forest_11 : decode cX6_forest 11 = .ok (.ifCond .ne 19, 3) := by decide +kernel
theorem dX6_forest_14 : decode cX6_forest 14 = .ok (.aload_n 0, 1) := by decide +kernel
theorem dX6_forest_15 : decode cX6_forest 15 = .ok (.aload_n 0, 1) := by decide +kernel
theorem dX6_forest_16 : decode cX6_forest 16 = .ok (.getfield 105, 3) := by decide +kernel
theorem dX6_forest_19 : decode cX6_forest 19 = .ok (.putfield 128, 3) := by decide +kernel
theorem dX6_forest_22 : decode cX6_forest 22 = .ok (.ldc 131, 2) := by decide +kernel
theorem dX6_forest_24 : decode cX6_forest 24 = .ok (.aload_n 0, 1) := by decide +kernel
theorem dX6_forest_25 : decode cX6_forest 25 = .ok (.getfield 84, 3) := by decide +kernel
theorem dX6_forest_28 : decode cX6_forest 28 = .ok (.isub, 1) := by decide +kernel
theorem dX6_forest_29 : decode cX6_forest 29 = .ok (.ireturn, 1) := by decide +kernel
theorem dX6_forest_30 : decode cX6_forest 30 = .ok (.aload_n 0, 1) := by decide +kernel
theorem dX6_forest_31 : decode cX6_forest 31 = .ok (.getfield 22, 3) := by decide +kernel
theorem dX6_forest_34 : decode cX6_forest 34 = .ok (.iconst 0, 1) := by decide +kernel
theorem dX6_forest_35 : decode cX6_forest 35 = .ok (.aload_n 0, 1) := by decide +kernel
theorem dX6_forest_36 : decode cX6_forest 36 = .ok (.getfield 19, 3) := by decide +kernel
theorem dX6_forest_39 : decode cX6_forest 39 = .ok (.iconst 0, 1) := by decide +kernel
theorem dX6_forest_40 : decode cX6_forest 40 = .ok (.invokestatic 132, 3) := by decide +kernel
theorem dX6_forest_43 : decode cX6_forest 43 = .ok (.aload_n 0, 1) := by decide +kernel
theorem dX6_forest_44 : decode cX6_forest 44 = .ok (.iconst 0, 1) := by decide +kernel
theorem dX6_forest_45 : decode cX6_forest 45 = .ok (.putfield 136, 3) := by decide +kernel
theorem dX6_forest_48 : decode cX6_forest 48 = .ok (.aload_n 0, 1) := by decide +kernel
theorem dX6_forest_49 : decode cX6_forest 49 = .ok (.getfield 19, 3) := by decide +kernel
theorem dX6_forest_52 : decode cX6_forest 52 = .ok (.iconst 0, 1) := by decide +kernel
theorem dX6_forest_53 : decode cX6_forest 53 = .ok (.iaload, 1) := by decide +kernel
theorem dX6_forest_54 : decode cX6_forest 54 = .ok (.ireturn, 1) := by decide +kernel
theorem dX6_fault_0 : decode cX6_fault 0 = .ok (.aload_n 0, 1) := by decide +kernel
theorem dX6_fault_1 : decode cX6_fault 1 = .ok (.getfield 128, 3) := by decide +kernel
theorem dX6_fault_4 : decode cX6_fault 4 = .ok (.ireturn, 1) := by decide +kernel
theorem dX6_copies_0 : decode cX6_copies 0 = .ok (.iconst 0, 1) := by decide +kernel
theorem dX6_copies_1 : decode cX6_copies 1 = .ok (.istore 4, 2) := by decide +kernel
theorem dX6_copies_3 : decode cX6_copies 3 = .ok (.iload 4, 2) := by decide +kernel
theorem dX6_copies_5 : decode cX6_copies 5 = .ok (.bipush 36, 2) := by decide +kernel
theorem dX6_copies_7 : decode cX6_copies 7 = .ok (.if_icmp .ge 21, 3) := by decide +kernel
theorem dX6_copies_10 : decode cX6_copies 10 = .ok (.aload_n 2, 1) := by decide +kernel
theorem dX6_copies_11 : decode cX6_copies 11 = .ok (.iload_n 3, 1) := by decide +kernel
theorem dX6_copies_12 : decode cX6_copies 12 = .ok (.iload 4, 2) := by decide +kernel
theorem dX6_copies_14 : decode cX6_copies 14 = .ok (.iadd, 1) := by decide +kernel
theorem dX6_copies_15 : decode cX6_copies 15 = .ok (.aload_n 0, 1) := by decide +kernel
theorem dX6_copies_16 : decode cX6_copies 16 = .ok (.iload_n 1, 1) := by decide +kernel
theorem dX6_copies_17 : decode cX6_copies 17 = .ok (.iload 4, 2) := by decide +kernel
theorem dX6_copies_19 : decode cX6_copies 19 = .ok (.iadd, 1) := by decide +kernel
theorem dX6_copies_20 : decode cX6_copies 20 = .ok (.iaload, 1) := by decide +kernel
theorem dX6_copies_21 : decode cX6_copies 21 = .ok (.iastore, 1) := by decide +kernel
theorem dX6_copies_22 : decode cX6_copies 22 = .ok (.iinc 4 1, 3) := by decide +kernel
theorem dX6_copies_25 : decode cX6_copies 25 = .ok (.goto (-22), 3) := by decide +kernel
theorem dX6_copies_28 : decode cX6_copies 28 = .ok (.return_, 1) := by decide +kernel
theorem dX6_has_0 : decode cX6_has 0 = .ok (.iload_n 0, 1) := by decide +kernel
theorem dX6_has_1 : decode cX6_has 1 = .ok (.iload_n 1, 1) := by decide +kernel
theorem dX6_has_2 : decode cX6_has 2 = .ok (.ishr, 1) := by decide +kernel
theorem dX6_has_3 : decode cX6_has 3 = .ok (.iconst 1, 1) := by decide +kernel
theorem dX6_has_4 : decode cX6_has 4 = .ok (.iand, 1) := by decide +kernel
theorem dX6_has_5 : decode cX6_has 5 = .ok (.iconst 1, 1) := by decide +kernel
theorem dX6_has_6 : decode cX6_has 6 = .ok (.if_icmp .ne 7, 3) := by decide +kernel
theorem dX6_has_9 : decode cX6_has 9 = .ok (.iconst 1, 1) := by decide +kernel
theorem dX6_has_10 : decode cX6_has 10 = .ok (.goto 4, 3) := by decide +kernel
theorem dX6_has_13 : decode cX6_has 13 = .ok (.iconst 0, 1) := by decide +kernel
theorem dX6_has_14 : decode cX6_has 14 = .ok (.ireturn, 1) := by decide +kernel
theorem dX6_dip_0 : decode cX6_dip 0 = .ok (.aload_n 0, 1) := by decide +kernel
theorem dX6_dip_1 : decode cX6_dip 1 = .ok (.bipush 16, 2) := by decide +kernel
theorem dX6_dip_3 : decode cX6_dip 3 = .ok (.iload_n 1, 1) := by decide +kernel
theorem dX6_dip_4 : decode cX6_dip 4 = .ok (.iadd, 1) := by decide +kernel
theorem dX6_dip_5 : decode cX6_dip 5 = .ok (.iaload, 1) := by decide +kernel
theorem dX6_dip_6 : decode cX6_dip 6 = .ok (.aload_n 0, 1) := by decide +kernel
theorem dX6_dip_7 : decode cX6_dip 7 = .ok (.bipush 10, 2) := by decide +kernel
theorem dX6_dip_9 : decode cX6_dip 9 = .ok (.iload_n 1, 1) := by decide +kernel
theorem dX6_dip_10 : decode cX6_dip 10 = .ok (.iadd, 1) := by decide +kernel
theorem dX6_dip_11 : decode cX6_dip 11 = .ok (.iaload, 1) := by decide +kernel
theorem dX6_dip_12 : decode cX6_dip 12 = .ok (.isub, 1) := by decide +kernel
theorem dX6_dip_13 : decode cX6_dip 13 = .ok (.istore_n 3, 1) := by decide +kernel
theorem dX6_dip_14 : decode cX6_dip 14 = .ok (.aload_n 0, 1) := by decide +kernel
theorem dX6_dip_15 : decode cX6_dip 15 = .ok (.bipush 22, 2) := by decide +kernel
theorem dX6_dip_17 : decode cX6_dip 17 = .ok (.iload_n 1, 1) := by decide +kernel
theorem dX6_dip_18 : decode cX6_dip 18 = .ok (.iadd, 1) := by decide +kernel
theorem dX6_dip_19 : decode cX6_dip 19 = .ok (.iaload, 1) := by decide +kernel
theorem dX6_dip_20 : decode cX6_dip 20 = .ok (.iload_n 3, 1) := by decide +kernel
theorem dX6_dip_21 : decode cX6_dip 21 = .ok (.iconst 2, 1) := by decide +kernel
theorem dX6_dip_22 : decode cX6_dip 22 = .ok (.idiv, 1) := by decide +kernel
theorem dX6_dip_23 : decode cX6_dip 23 = .ok (.iadd, 1) := by decide +kernel
theorem dX6_dip_24 : decode cX6_dip 24 = .ok (.istore 4, 2) := by decide +kernel
theorem dX6_dip_26 : decode cX6_dip 26 = .ok (.aload_n 0, 1) := by decide +kernel
theorem dX6_dip_27 : decode cX6_dip 27 = .ok (.iconst 4, 1) := by decide +kernel
theorem dX6_dip_28 : decode cX6_dip 28 = .ok (.iload_n 1, 1) := by decide +kernel
theorem dX6_dip_29 : decode cX6_dip 29 = .ok (.iadd, 1) := by decide +kernel
theorem dX6_dip_30 : decode cX6_dip 30 = .ok (.iaload, 1) := by decide +kernel
theorem dX6_dip_31 : decode cX6_dip 31 = .ok (.tableswitch 47 1 4 #[29, 32, 37, 45], 29) := by decide +kernel
theorem dX6_dip_60 : decode cX6_dip 60 = .ok (.iload 4, 2) := by decide +kernel
theorem dX6_dip_62 : decode cX6_dip 62 = .ok (.ireturn, 1) := by decide +kernel
theorem dX6_dip_63 : decode cX6_dip 63 = .ok (.iload 4, 2) := by decide +kernel
theorem dX6_dip_65 : decode cX6_dip 65 = .ok (.iconst 2, 1) := by decide +kernel
theorem dX6_dip_66 : decode cX6_dip 66 = .ok (.idiv, 1) := by decide +kernel
theorem dX6_dip_67 : decode cX6_dip 67 = .ok (.ireturn, 1) := by decide +kernel
theorem dX6_dip_68 : decode cX6_dip 68 = .ok (.iload 4, 2) := by decide +kernel
theorem dX6_dip_70 : decode cX6_dip 70 = .ok (.iload_n 2, 1) := by decide +kernel
theorem dX6_dip_71 : decode cX6_dip 71 = .ok (.bipush 10, 2) := by decide +kernel
theorem dX6_dip_73 : decode cX6_dip 73 = .ok (.idiv, 1) := by decide +kernel
theorem dX6_dip_74 : decode cX6_dip 74 = .ok (.iadd, 1) := by decide +kernel
theorem dX6_dip_75 : decode cX6_dip 75 = .ok (.ireturn, 1) := by decide +kernel
theorem dX6_dip_76 : decode cX6_dip 76 = .ok (.iload_n 3, 1) := by decide +kernel
theorem dX6_dip_77 : decode cX6_dip 77 = .ok (.ireturn, 1) := by decide +kernel
theorem dX6_dip_78 : decode cX6_dip 78 = .ok (.iconst 0, 1) := by decide +kernel
theorem dX6_dip_79 : decode cX6_dip 79 = .ok (.ireturn, 1) := by decide +kernel
theorem dX6_swung_0 : decode cX6_swung 0 = .ok (.iload_n 1, 1) := by decide +kernel
theorem dX6_swung_1 : decode cX6_swung 1 = .ok (.ifCond .ne 5, 3) := by decide +kernel
theorem dX6_swung_4 : decode cX6_swung 4 = .ok (.iconst 0, 1) := by decide +kernel
theorem dX6_swung_5 : decode cX6_swung 5 = .ok (.ireturn, 1) := by decide +kernel
theorem dX6_swung_6 : decode cX6_swung 6 = .ok (.iload_n 0, 1) := by decide +kernel
theorem dX6_swung_7 : decode cX6_swung 7 = .ok (.iconst 4, 1) := by decide +kernel
theorem dX6_swung_8 : decode cX6_swung 8 = .ok (.iload_n 1, 1) := by decide +kernel
theorem dX6_swung_9 : decode cX6_swung 9 = .ok (.imul, 1) := by decide +kernel
theorem dX6_swung_10 : decode cX6_swung 10 = .ok (.irem, 1) := by decide +kernel
theorem dX6_swung_11 : decode cX6_swung 11 = .ok (.istore_n 2, 1) := by decide +kernel
theorem dX6_swung_12 : decode cX6_swung 12 = .ok (.iload_n 2, 1) := by decide +kernel
theorem dX6_swung_13 : decode cX6_swung 13 = .ok (.iload_n 1, 1) := by decide +kernel
theorem dX6_swung_14 : decode cX6_swung 14 = .ok (.if_icmp .gt 7, 3) := by decide +kernel
theorem dX6_swung_17 : decode cX6_swung 17 = .ok (.iload_n 2, 1) := by decide +kernel
theorem dX6_swung_18 : decode cX6_swung 18 = .ok (.goto 23, 3) := by decide +kernel
theorem dX6_swung_21 : decode cX6_swung 21 = .ok (.iload_n 2, 1) := by decide +kernel
theorem dX6_swung_22 : decode cX6_swung 22 = .ok (.iconst 3, 1) := by decide +kernel
theorem dX6_swung_23 : decode cX6_swung 23 = .ok (.iload_n 1, 1) := by decide +kernel
theorem dX6_swung_24 : decode cX6_swung 24 = .ok (.imul, 1) := by decide +kernel
theorem dX6_swung_25 : decode cX6_swung 25 = .ok (.if_icmp .gt 11, 3) := by decide +kernel
theorem dX6_swung_28 : decode cX6_swung 28 = .ok (.iconst 2, 1) := by decide +kernel
theorem dX6_swung_29 : decode cX6_swung 29 = .ok (.iload_n 1, 1) := by decide +kernel
theorem dX6_swung_30 : decode cX6_swung 30 = .ok (.imul, 1) := by decide +kernel
theorem dX6_swung_31 : decode cX6_swung 31 = .ok (.iload_n 2, 1) := by decide +kernel
theorem dX6_swung_32 : decode cX6_swung 32 = .ok (.isub, 1) := by decide +kernel
theorem dX6_swung_33 : decode cX6_swung 33 = .ok (.goto 8, 3) := by decide +kernel
theorem dX6_swung_36 : decode cX6_swung 36 = .ok (.iload_n 2, 1) := by decide +kernel
theorem dX6_swung_37 : decode cX6_swung 37 = .ok (.iconst 4, 1) := by decide +kernel
theorem dX6_swung_38 : decode cX6_swung 38 = .ok (.iload_n 1, 1) := by decide +kernel
theorem dX6_swung_39 : decode cX6_swung 39 = .ok (.imul, 1) := by decide +kernel
theorem dX6_swung_40 : decode cX6_swung 40 = .ok (.isub, 1) := by decide +kernel
theorem dX6_swung_41 : decode cX6_swung 41 = .ok (.ireturn, 1) := by decide +kernel
theorem dX6_where_0 : decode cX6_where 0 = .ok (.aload_n 0, 1) := by decide +kernel
theorem dX6_where_1 : decode cX6_where 1 = .ok (.iconst 4, 1) := by decide +kernel
theorem dX6_where_2 : decode cX6_where 2 = .ok (.iload_n 1, 1) := by decide +kernel
theorem dX6_where_3 : decode cX6_where 3 = .ok (.iadd, 1) := by decide +kernel
theorem dX6_where_4 : decode cX6_where 4 = .ok (.iaload, 1) := by decide +kernel
theorem dX6_where_5 : decode cX6_where 5 = .ok (.istore_n 3, 1) := by decide +kernel
theorem dX6_where_6 : decode cX6_where 6 = .ok (.aload_n 0, 1) := by decide +kernel
theorem dX6_where_7 : decode cX6_where 7 = .ok (.bipush 28, 2) := by decide +kernel
theorem dX6_where_9 : decode cX6_where 9 = .ok (.iload_n 1, 1) := by decide +kernel
theorem dX6_where_10 : decode cX6_where 10 = .ok (.iadd, 1) := by decide +kernel
theorem dX6_where_11 : decode cX6_where 11 = .ok (.iaload, 1) := by decide +kernel
theorem dX6_where_12 : decode cX6_where 12 = .ok (.istore 4, 2) := by decide +kernel
theorem dX6_where_14 : decode cX6_where 14 = .ok (.iload_n 3, 1) := by decide +kernel
theorem dX6_where_15 : decode cX6_where 15 = .ok (.iconst 1, 1) := by decide +kernel
theorem dX6_where_16 : decode cX6_where 16 = .ok (.if_icmp .eq 8, 3) := by decide +kernel
theorem dX6_where_19 : decode cX6_where 19 = .ok (.iload_n 3, 1) := by decide +kernel
theorem dX6_where_20 : decode cX6_where 20 = .ok (.iconst 2, 1) := by decide +kernel
theorem dX6_where_21 : decode cX6_where 21 = .ok (.if_icmp .ne 12, 3) := by decide +kernel
theorem dX6_where_24 : decode cX6_where 24 = .ok (.iload_n 2, 1) := by decide +kernel
theorem dX6_where_25 : decode cX6_where 25 = .ok (.iload 4, 2) := by decide +kernel
theorem dX6_where_27 : decode cX6_where 27 = .ok (.invokestatic 139, 3) := by decide +kernel
theorem dX6_where_30 : decode cX6_where 30 = .ok (.goto 30, 3) := by decide +kernel
theorem dX6_where_33 : decode cX6_where 33 = .ok (.iload_n 3, 1) := by decide +kernel
theorem dX6_where_34 : decode cX6_where 34 = .ok (.iconst 3, 1) := by decide +kernel
theorem dX6_where_35 : decode cX6_where 35 = .ok (.if_icmp .ne 14, 3) := by decide +kernel
theorem dX6_where_38 : decode cX6_where 38 = .ok (.iload_n 2, 1) := by decide +kernel
theorem dX6_where_39 : decode cX6_where 39 = .ok (.iconst 2, 1) := by decide +kernel
theorem dX6_where_40 : decode cX6_where 40 = .ok (.idiv, 1) := by decide +kernel
theorem dX6_where_41 : decode cX6_where 41 = .ok (.iload 4, 2) := by decide +kernel
theorem dX6_where_43 : decode cX6_where 43 = .ok (.invokestatic 139, 3) := by decide +kernel
theorem dX6_where_46 : decode cX6_where 46 = .ok (.goto 14, 3) := by decide +kernel
theorem dX6_where_49 : decode cX6_where 49 = .ok (.iload_n 3, 1) := by decide +kernel
theorem dX6_where_50 : decode cX6_where 50 = .ok (.iconst 4, 1) := by decide +kernel
theorem dX6_where_51 : decode cX6_where 51 = .ok (.if_icmp .ne 7, 3) := by decide +kernel
theorem dX6_where_54 : decode cX6_where 54 = .ok (.iconst 0, 1) := by decide +kernel
theorem dX6_where_55 : decode cX6_where 55 = .ok (.goto 5, 3) := by decide +kernel
theorem dX6_where_58 : decode cX6_where 58 = .ok (.iload 4, 2) := by decide +kernel
theorem dX6_where_60 : decode cX6_where 60 = .ok (.istore 5, 2) := by decide +kernel
theorem dX6_where_62 : decode cX6_where 62 = .ok (.aload_n 0, 1) := by decide +kernel
theorem dX6_where_63 : decode cX6_where 63 = .ok (.bipush 10, 2) := by decide +kernel
theorem dX6_where_65 : decode cX6_where 65 = .ok (.iload_n 1, 1) := by decide +kernel
theorem dX6_where_66 : decode cX6_where 66 = .ok (.iadd, 1) := by decide +kernel
theorem dX6_where_67 : decode cX6_where 67 = .ok (.iaload, 1) := by decide +kernel
theorem dX6_where_68 : decode cX6_where 68 = .ok (.aload_n 0, 1) := by decide +kernel
theorem dX6_where_69 : decode cX6_where 69 = .ok (.bipush 16, 2) := by decide +kernel
theorem dX6_where_71 : decode cX6_where 71 = .ok (.iload_n 1, 1) := by decide +kernel
theorem dX6_where_72 : decode cX6_where 72 = .ok (.iadd, 1) := by decide +kernel
theorem dX6_where_73 : decode cX6_where 73 = .ok (.iaload, 1) := by decide +kernel
theorem dX6_where_74 : decode cX6_where 74 = .ok (.iadd, 1) := by decide +kernel
theorem dX6_where_75 : decode cX6_where 75 = .ok (.iconst 2, 1) := by decide +kernel
theorem dX6_where_76 : decode cX6_where 76 = .ok (.iload 5, 2) := by decide +kernel
theorem dX6_where_78 : decode cX6_where 78 = .ok (.imul, 1) := by decide +kernel
theorem dX6_where_79 : decode cX6_where 79 = .ok (.iadd, 1) := by decide +kernel
theorem dX6_where_80 : decode cX6_where 80 = .ok (.ireturn, 1) := by decide +kernel
theorem dX6_isDown_0 : decode cX6_isDown 0 = .ok (.aload_n 0, 1) := by decide +kernel
theorem dX6_isDown_1 : decode cX6_isDown 1 = .ok (.bipush 34, 2) := by decide +kernel
theorem dX6_isDown_3 : decode cX6_isDown 3 = .ok (.iaload, 1) := by decide +kernel
theorem dX6_isDown_4 : decode cX6_isDown 4 = .ok (.iload_n 1, 1) := by decide +kernel
theorem dX6_isDown_5 : decode cX6_isDown 5 = .ok (.invokestatic 143, 3) := by decide +kernel
theorem dX6_isDown_8 : decode cX6_isDown 8 = .ok (.ifCond .ne 15, 3) := by decide +kernel
theorem dX6_isDown_11 : decode cX6_isDown 11 = .ok (.aload_n 0, 1) := by decide +kernel
theorem dX6_isDown_12 : decode cX6_isDown 12 = .ok (.iload_n 1, 1) := by decide +kernel
theorem dX6_isDown_13 : decode cX6_isDown 13 = .ok (.iload_n 2, 1) := by decide +kernel
theorem dX6_isDown_14 : decode cX6_isDown 14 = .ok (.invokestatic 147, 3) := by decide +kernel
theorem dX6_isDown_17 : decode cX6_isDown 17 = .ok (.aload_n 0, 1) := by decide +kernel
theorem dX6_isDown_18 : decode cX6_isDown 18 = .ok (.iconst 1, 1) := by decide +kernel
theorem dX6_isDown_19 : decode cX6_isDown 19 = .ok (.iaload, 1) := by decide +kernel
theorem dX6_isDown_20 : decode cX6_isDown 20 = .ok (.if_icmp .le 7, 3) := by decide +kernel
theorem dX6_isDown_23 : decode cX6_isDown 23 = .ok (.iconst 1, 1) := by decide +kernel
theorem dX6_isDown_24 : decode cX6_isDown 24 = .ok (.goto 4, 3) := by decide +kernel
theorem dX6_isDown_27 : decode cX6_isDown 27 = .ok (.iconst 0, 1) := by decide +kernel
theorem dX6_isDown_28 : decode cX6_isDown 28 = .ok (.ireturn, 1) := by decide +kernel
theorem dX6_downOf_0 : decode cX6_downOf 0 = .ok (.iconst 0, 1) := by decide +kernel
theorem dX6_downOf_1 : decode cX6_downOf 1 = .ok (.istore_n 2, 1) := by decide +kernel
theorem dX6_downOf_2 : decode cX6_downOf 2 = .ok (.iconst 0, 1) := by decide +kernel
theorem dX6_downOf_3 : decode cX6_downOf 3 = .ok (.istore_n 3, 1) := by decide +kernel
theorem dX6_downOf_4 : decode cX6_downOf 4 = .ok (.iload_n 3, 1) := by decide +kernel
theorem dX6_downOf_5 : decode cX6_downOf 5 = .ok (.aload_n 0, 1) := by decide +kernel
theorem dX6_downOf_6 : decode cX6_downOf 6 = .ok (.iconst 0, 1) := by decide +kernel
theorem dX6_downOf_7 : decode cX6_downOf 7 = .ok (.iaload, 1) := by decide +kernel
theorem dX6_downOf_8 : decode cX6_downOf 8 = .ok (.if_icmp .ge 28, 3) := by decide +kernel
theorem dX6_downOf_11 : decode cX6_downOf 11 = .ok (.iload_n 2, 1) := by decide +kernel
theorem dX6_downOf_12 : decode cX6_downOf 12 = .ok (.aload_n 0, 1) := by decide +kernel
theorem dX6_downOf_13 : decode cX6_downOf 13 = .ok (.iload_n 3, 1) := by decide +kernel
theorem dX6_downOf_14 : decode cX6_downOf 14 = .ok (.iload_n 1, 1) := by decide +kernel
theorem dX6_downOf_15 : decode cX6_downOf 15 = .ok (.invokestatic 151, 3) := by decide +kernel
theorem dX6_downOf_18 : decode cX6_downOf 18 = .ok (.ifCond .eq 9, 3) := by decide +kernel
theorem dX6_downOf_21 : decode cX6_downOf 21 = .ok (.iconst 1, 1) := by decide +kernel
theorem dX6_downOf_22 : decode cX6_downOf 22 = .ok (.iload_n 3, 1) := by decide +kernel
theorem dX6_downOf_23 : decode cX6_downOf 23 = .ok (.ishl, 1) := by decide +kernel
theorem dX6_downOf_24 : decode cX6_downOf 24 = .ok (.goto 4, 3) := by decide +kernel
theorem dX6_downOf_27 : decode cX6_downOf 27 = .ok (.iconst 0, 1) := by decide +kernel
theorem dX6_downOf_28 : decode cX6_downOf 28 = .ok (.ior, 1) := by decide +kernel
theorem dX6_downOf_29 : decode cX6_downOf 29 = .ok (.istore_n 2, 1) := by decide +kernel
theorem dX6_downOf_30 : decode cX6_downOf 30 = .ok (.iinc 3 1, 3) := by decide +kernel
theorem dX6_downOf_33 : decode cX6_downOf 33 = .ok (.goto (-29), 3) := by decide +kernel
theorem dX6_downOf_36 : decode cX6_downOf 36 = .ok (.iload_n 2, 1) := by decide +kernel
theorem dX6_downOf_37 : decode cX6_downOf 37 = .ok (.ireturn, 1) := by decide +kernel
theorem dX6_areNear_0 : decode cX6_areNear 0 = .ok (.aload_n 0, 1) := by decide +kernel
theorem dX6_areNear_1 : decode cX6_areNear 1 = .ok (.iload_n 1, 1) := by decide +kernel
theorem dX6_areNear_2 : decode cX6_areNear 2 = .ok (.iload_n 3, 1) := by decide +kernel
theorem dX6_areNear_3 : decode cX6_areNear 3 = .ok (.invokestatic 155, 3) := by decide +kernel
theorem dX6_areNear_6 : decode cX6_areNear 6 = .ok (.aload_n 0, 1) := by decide +kernel
theorem dX6_areNear_7 : decode cX6_areNear 7 = .ok (.iload_n 2, 1) := by decide +kernel
theorem dX6_areNear_8 : decode cX6_areNear 8 = .ok (.iload_n 3, 1) := by decide +kernel
theorem dX6_areNear_9 : decode cX6_areNear 9 = .ok (.invokestatic 155, 3) := by decide +kernel
theorem dX6_areNear_12 : decode cX6_areNear 12 = .ok (.isub, 1) := by decide +kernel
theorem dX6_areNear_13 : decode cX6_areNear 13 = .ok (.istore 4, 2) := by decide +kernel
theorem dX6_areNear_15 : decode cX6_areNear 15 = .ok (.iload_n 1, 1) := by decide +kernel
theorem dX6_areNear_16 : decode cX6_areNear 16 = .ok (.iload_n 2, 1) := by decide +kernel
theorem dX6_areNear_17 : decode cX6_areNear 17 = .ok (.if_icmp .eq 46, 3) := by decide +kernel
theorem dX6_areNear_20 : decode cX6_areNear 20 = .ok (.aload_n 0, 1) := by decide +kernel
theorem dX6_areNear_21 : decode cX6_areNear 21 = .ok (.iload_n 1, 1) := by decide +kernel
theorem dX6_areNear_22 : decode cX6_areNear 22 = .ok (.iload_n 3, 1) := by decide +kernel
theorem dX6_areNear_23 : decode cX6_areNear 23 = .ok (.invokestatic 151, 3) := by decide +kernel
theorem dX6_areNear_26 : decode cX6_areNear 26 = .ok (.ifCond .ne 37, 3) := by decide +kernel
theorem dX6_areNear_29 : decode cX6_areNear 29 = .ok (.aload_n 0, 1) := by decide +kernel
theorem dX6_areNear_30 : decode cX6_areNear 30 = .ok (.iload_n 2, 1) := by decide +kernel
theorem dX6_areNear_31 : decode cX6_areNear 31 = .ok (.iload_n 3, 1) := by decide +kernel
theorem dX6_areNear_32 : decode cX6_areNear 32 = .ok (.invokestatic 151, 3) := by decide +kernel
theorem dX6_areNear_35 : decode cX6_areNear 35 = .ok (.ifCond .ne 28, 3) := by decide +kernel
theorem dX6_areNear_38 : decode cX6_areNear 38 = .ok (.iload 4, 2) := by decide +kernel
theorem dX6_areNear_40 : decode cX6_areNear 40 = .ok (.iconst 2, 1) := by decide +kernel
theorem dX6_areNear_41 : decode cX6_areNear 41 = .ok (.aload_n 0, 1) := by decide +kernel
theorem dX6_areNear_42 : decode cX6_areNear 42 = .ok (.iconst 2, 1) := by decide +kernel
theorem dX6_areNear_43 : decode cX6_areNear 43 = .ok (.iaload, 1) := by decide +kernel
theorem dX6_areNear_44 : decode cX6_areNear 44 = .ok (.imul, 1) := by decide +kernel
theorem dX6_areNear_45 : decode cX6_areNear 45 = .ok (.if_icmp .gt 18, 3) := by decide +kernel
theorem dX6_areNear_48 : decode cX6_areNear 48 = .ok (.iload 4, 2) := by decide +kernel
theorem dX6_areNear_50 : decode cX6_areNear 50 = .ok (.ineg, 1) := by decide +kernel
theorem dX6_areNear_51 : decode cX6_areNear 51 = .ok (.iconst 2, 1) := by decide +kernel
theorem dX6_areNear_52 : decode cX6_areNear 52 = .ok (.aload_n 0, 1) := by decide +kernel
theorem dX6_areNear_53 : decode cX6_areNear 53 = .ok (.iconst 2, 1) := by decide +kernel
theorem dX6_areNear_54 : decode cX6_areNear 54 = .ok (.iaload, 1) := by decide +kernel
theorem dX6_areNear_55 : decode cX6_areNear 55 = .ok (.imul, 1) := by decide +kernel
theorem dX6_areNear_56 : decode cX6_areNear 56 = .ok (.if_icmp .gt 7, 3) := by decide +kernel
theorem dX6_areNear_59 : decode cX6_areNear 59 = .ok (.iconst 1, 1) := by decide +kernel
theorem dX6_areNear_60 : decode cX6_areNear 60 = .ok (.goto 4, 3) := by decide +kernel
theorem dX6_areNear_63 : decode cX6_areNear 63 = .ok (.iconst 0, 1) := by decide +kernel
theorem dX6_areNear_64 : decode cX6_areNear 64 = .ok (.ireturn, 1) := by decide +kernel
theorem dX6_reachOf_0 : decode cX6_reachOf 0 = .ok (.iconst 0, 1) := by decide +kernel
theorem dX6_reachOf_1 : decode cX6_reachOf 1 = .ok (.istore_n 3, 1) := by decide +kernel
theorem dX6_reachOf_2 : decode cX6_reachOf 2 = .ok (.iconst 0, 1) := by decide +kernel
theorem dX6_reachOf_3 : decode cX6_reachOf 3 = .ok (.istore 4, 2) := by decide +kernel
theorem dX6_reachOf_5 : decode cX6_reachOf 5 = .ok (.iload 4, 2) := by decide +kernel
theorem dX6_reachOf_7 : decode cX6_reachOf 7 = .ok (.aload_n 0, 1) := by decide +kernel
theorem dX6_reachOf_8 : decode cX6_reachOf 8 = .ok (.iconst 0, 1) := by decide +kernel
theorem dX6_reachOf_9 : decode cX6_reachOf 9 = .ok (.iaload, 1) := by decide +kernel
theorem dX6_reachOf_10 : decode cX6_reachOf 10 = .ok (.if_icmp .ge 31, 3) := by decide +kernel
theorem dX6_reachOf_13 : decode cX6_reachOf 13 = .ok (.iload_n 3, 1) := by decide +kernel
theorem dX6_reachOf_14 : decode cX6_reachOf 14 = .ok (.aload_n 0, 1) := by decide +kernel
theorem dX6_reachOf_15 : decode cX6_reachOf 15 = .ok (.iload_n 1, 1) := by decide +kernel
theorem dX6_reachOf_16 : decode cX6_reachOf 16 = .ok (.iload 4, 2) := by decide +kernel
theorem dX6_reachOf_18 : decode cX6_reachOf 18 = .ok (.iload_n 2, 1) := by decide +kernel
theorem dX6_reachOf_19 : decode cX6_reachOf 19 = .ok (.invokestatic 158, 3) := by decide +kernel
theorem dX6_reachOf_22 : decode cX6_reachOf 22 = .ok (.ifCond .eq 10, 3) := by decide +kernel
theorem dX6_reachOf_25 : decode cX6_reachOf 25 = .ok (.iconst 1, 1) := by decide +kernel
theorem dX6_reachOf_26 : decode cX6_reachOf 26 = .ok (.iload 4, 2) := by decide +kernel
theorem dX6_reachOf_28 : decode cX6_reachOf 28 = .ok (.ishl, 1) := by decide +kernel
theorem dX6_reachOf_29 : decode cX6_reachOf 29 = .ok (.goto 4, 3) := by decide +kernel
theorem dX6_reachOf_32 : decode cX6_reachOf 32 = .ok (.iconst 0, 1) := by decide +kernel
theorem dX6_reachOf_33 : decode cX6_reachOf 33 = .ok (.ior, 1) := by decide +kernel
theorem dX6_reachOf_34 : decode cX6_reachOf 34 = .ok (.istore_n 3, 1) := by decide +kernel
theorem dX6_reachOf_35 : decode cX6_reachOf 35 = .ok (.iinc 4 1, 3) := by decide +kernel
theorem dX6_reachOf_38 : decode cX6_reachOf 38 = .ok (.goto (-33), 3) := by decide +kernel
theorem dX6_reachOf_41 : decode cX6_reachOf 41 = .ok (.iload_n 3, 1) := by decide +kernel
theorem dX6_reachOf_42 : decode cX6_reachOf 42 = .ok (.ireturn, 1) := by decide +kernel
theorem dX6_spread_0 : decode cX6_spread 0 = .ok (.iconst 1, 1) := by decide +kernel
theorem dX6_spread_1 : decode cX6_spread 1 = .ok (.iload_n 1, 1) := by decide +kernel
theorem dX6_spread_2 : decode cX6_spread 2 = .ok (.ishl, 1) := by decide +kernel
theorem dX6_spread_3 : decode cX6_spread 3 = .ok (.istore_n 3, 1) := by decide +kernel
theorem dX6_spread_4 : decode cX6_spread 4 = .ok (.iconst 0, 1) := by decide +kernel
theorem dX6_spread_5 : decode cX6_spread 5 = .ok (.istore 4, 2) := by decide +kernel
theorem dX6_spread_7 : decode cX6_spread 7 = .ok (.iload 4, 2) := by decide +kernel
theorem dX6_spread_9 : decode cX6_spread 9 = .ok (.iload_n 2, 1) := by decide +kernel
theorem dX6_spread_10 : decode cX6_spread 10 = .ok (.if_icmp .ge 65, 3) := by decide +kernel
theorem dX6_spread_13 : decode cX6_spread 13 = .ok (.iconst 0, 1) := by decide +kernel
theorem dX6_spread_14 : decode cX6_spread 14 = .ok (.istore 5, 2) := by decide +kernel
theorem dX6_spread_16 : decode cX6_spread 16 = .ok (.iconst 0, 1) := by decide +kernel
theorem dX6_spread_17 : decode cX6_spread 17 = .ok (.istore 6, 2) := by decide +kernel
theorem dX6_spread_19 : decode cX6_spread 19 = .ok (.iload 6, 2) := by decide +kernel
theorem dX6_spread_21 : decode cX6_spread 21 = .ok (.aload_n 0, 1) := by decide +kernel
theorem dX6_spread_22 : decode cX6_spread 22 = .ok (.iconst 0, 1) := by decide +kernel
theorem dX6_spread_23 : decode cX6_spread 23 = .ok (.iaload, 1) := by decide +kernel
theorem dX6_spread_24 : decode cX6_spread 24 = .ok (.if_icmp .ge 40, 3) := by decide +kernel
theorem dX6_spread_27 : decode cX6_spread 27 = .ok (.iload 5, 2) := by decide +kernel
theorem dX6_spread_29 : decode cX6_spread 29 = .ok (.iload_n 3, 1) := by decide +kernel
theorem dX6_spread_30 : decode cX6_spread 30 = .ok (.iload 6, 2) := by decide +kernel
theorem dX6_spread_32 : decode cX6_spread 32 = .ok (.invokestatic 143, 3) := by decide +kernel
theorem dX6_spread_35 : decode cX6_spread 35 = .ok (.ifCond .eq 19, 3) := by decide +kernel
theorem dX6_spread_38 : decode cX6_spread 38 = .ok (.aload_n 0, 1) := by decide +kernel
theorem dX6_spread_39 : decode cX6_spread 39 = .ok (.iload 6, 2) := by decide +kernel
theorem dX6_spread_41 : decode cX6_spread 41 = .ok (.aload_n 0, 1) := by decide +kernel
theorem dX6_spread_42 : decode cX6_spread 42 = .ok (.bipush 35, 2) := by decide +kernel
theorem dX6_spread_44 : decode cX6_spread 44 = .ok (.iaload, 1) := by decide +kernel
theorem dX6_spread_45 : decode cX6_spread 45 = .ok (.iload 4, 2) := by decide +kernel
theorem dX6_spread_47 : decode cX6_spread 47 = .ok (.iadd, 1) := by decide +kernel
theorem dX6_spread_48 : decode cX6_spread 48 = .ok (.invokestatic 162, 3) := by decide +kernel
theorem dX6_spread_51 : decode cX6_spread 51 = .ok (.goto 4, 3) := by decide +kernel
theorem dX6_spread_54 : decode cX6_spread 54 = .ok (.iconst 0, 1) := by decide +kernel
theorem dX6_spread_55 : decode cX6_spread 55 = .ok (.ior, 1) := by decide +kernel
theorem dX6_spread_56 : decode cX6_spread 56 = .ok (.istore 5, 2) := by decide +kernel
theorem dX6_spread_58 : decode cX6_spread 58 = .ok (.iinc 6 1, 3) := by decide +kernel
theorem dX6_spread_61 : decode cX6_spread 61 = .ok (.goto (-42), 3) := by decide +kernel
theorem dX6_spread_64 : decode cX6_spread 64 = .ok (.iload_n 3, 1) := by decide +kernel
theorem dX6_spread_65 : decode cX6_spread 65 = .ok (.iload 5, 2) := by decide +kernel
theorem dX6_spread_67 : decode cX6_spread 67 = .ok (.ior, 1) := by decide +kernel
theorem dX6_spread_68 : decode cX6_spread 68 = .ok (.istore_n 3, 1) := by decide +kernel
theorem dX6_spread_69 : decode cX6_spread 69 = .ok (.iinc 4 1, 3) := by decide +kernel
theorem dX6_spread_72 : decode cX6_spread 72 = .ok (.goto (-65), 3) := by decide +kernel
theorem dX6_spread_75 : decode cX6_spread 75 = .ok (.iload_n 3, 1) := by decide +kernel
theorem dX6_spread_76 : decode cX6_spread 76 = .ok (.ireturn, 1) := by decide +kernel
theorem dX6_soonestOf_0 : decode cX6_soonestOf 0 = .ok (.iconst 1, 1) := by decide +kernel
theorem dX6_soonestOf_1 : decode cX6_soonestOf 1 = .ok (.iload_n 1, 1) := by decide +kernel
theorem dX6_soonestOf_2 : decode cX6_soonestOf 2 = .ok (.ishl, 1) := by decide +kernel
theorem dX6_soonestOf_3 : decode cX6_soonestOf 3 = .ok (.istore_n 3, 1) := by decide +kernel
theorem dX6_soonestOf_4 : decode cX6_soonestOf 4 = .ok (.iconst 0, 1) := by decide +kernel
theorem dX6_soonestOf_5 : decode cX6_soonestOf 5 = .ok (.istore 4, 2) := by decide +kernel
theorem dX6_soonestOf_7 : decode cX6_soonestOf 7 = .ok (.iload 4, 2) := by decide +kernel
theorem dX6_soonestOf_9 : decode cX6_soonestOf 9 = .ok (.bipush 61, 2) := by decide +kernel
theorem dX6_soonestOf_11 : decode cX6_soonestOf 11 = .ok (.if_icmp .ge 76, 3) := by decide +kernel
theorem dX6_soonestOf_14 : decode cX6_soonestOf 14 = .ok (.iload_n 3, 1) := by decide +kernel
theorem dX6_soonestOf_15 : decode cX6_soonestOf 15 = .ok (.iload_n 2, 1) := by decide +kernel
theorem dX6_soonestOf_16 : decode cX6_soonestOf 16 = .ok (.invokestatic 143, 3) := by decide +kernel
theorem dX6_soonestOf_19 : decode cX6_soonestOf 19 = .ok (.ifCond .eq 6, 3) := by decide +kernel
theorem dX6_soonestOf_22 : decode cX6_soonestOf 22 = .ok (.iload 4, 2) := by decide +kernel
theorem dX6_soonestOf_24 : decode cX6_soonestOf 24 = .ok (.ireturn, 1) := by decide +kernel
theorem dX6_soonestOf_25 : decode cX6_soonestOf 25 = .ok (.iconst 0, 1) := by decide +kernel
theorem dX6_soonestOf_26 : decode cX6_soonestOf 26 = .ok (.istore 5, 2) := by decide +kernel
theorem dX6_soonestOf_28 : decode cX6_soonestOf 28 = .ok (.iconst 0, 1) := by decide +kernel
theorem dX6_soonestOf_29 : decode cX6_soonestOf 29 = .ok (.istore 6, 2) := by decide +kernel
theorem dX6_soonestOf_31 : decode cX6_soonestOf 31 = .ok (.iload 6, 2) := by decide +kernel
theorem dX6_soonestOf_33 : decode cX6_soonestOf 33 = .ok (.aload_n 0, 1) := by decide +kernel
theorem dX6_soonestOf_34 : decode cX6_soonestOf 34 = .ok (.iconst 0, 1) := by decide +kernel
theorem dX6_soonestOf_35 : decode cX6_soonestOf 35 = .ok (.iaload, 1) := by decide +kernel
theorem dX6_soonestOf_36 : decode cX6_soonestOf 36 = .ok (.if_icmp .ge 40, 3) := by decide +kernel
theorem dX6_soonestOf_39 : decode cX6_soonestOf 39 = .ok (.iload 5, 2) := by decide +kernel
theorem dX6_soonestOf_41 : decode cX6_soonestOf 41 = .ok (.iload_n 3, 1) := by decide +kernel
theorem dX6_soonestOf_42 : decode cX6_soonestOf 42 = .ok (.iload 6, 2) := by decide +kernel
theorem dX6_soonestOf_44 : decode cX6_soonestOf 44 = .ok (.invokestatic 143, 3) := by decide +kernel
theorem dX6_soonestOf_47 : decode cX6_soonestOf 47 = .ok (.ifCond .eq 19, 3) := by decide +kernel
theorem dX6_soonestOf_50 : decode cX6_soonestOf 50 = .ok (.aload_n 0, 1) := by decide +kernel
theorem dX6_soonestOf_51 : decode cX6_soonestOf 51 = .ok (.iload 6, 2) := by decide +kernel
theorem dX6_soonestOf_53 : decode cX6_soonestOf 53 = .ok (.aload_n 0, 1) := by decide +kernel
theorem dX6_soonestOf_54 : decode cX6_soonestOf 54 = .ok (.bipush 35, 2) := by decide +kernel
theorem dX6_soonestOf_56 : decode cX6_soonestOf 56 = .ok (.iaload, 1) := by decide +kernel
theorem dX6_soonestOf_57 : decode cX6_soonestOf 57 = .ok (.iload 4, 2) := by decide +kernel
theorem dX6_soonestOf_59 : decode cX6_soonestOf 59 = .ok (.iadd, 1) := by decide +kernel
theorem dX6_soonestOf_60 : decode cX6_soonestOf 60 = .ok (.invokestatic 162, 3) := by decide +kernel
theorem dX6_soonestOf_63 : decode cX6_soonestOf 63 = .ok (.goto 4, 3) := by decide +kernel
theorem dX6_soonestOf_66 : decode cX6_soonestOf 66 = .ok (.iconst 0, 1) := by decide +kernel
theorem dX6_soonestOf_67 : decode cX6_soonestOf 67 = .ok (.ior, 1) := by decide +kernel
theorem dX6_soonestOf_68 : decode cX6_soonestOf 68 = .ok (.istore 5, 2) := by decide +kernel
theorem dX6_soonestOf_70 : decode cX6_soonestOf 70 = .ok (.iinc 6 1, 3) := by decide +kernel
theorem dX6_soonestOf_73 : decode cX6_soonestOf 73 = .ok (.goto (-42), 3) := by decide +kernel
theorem dX6_soonestOf_76 : decode cX6_soonestOf 76 = .ok (.iload_n 3, 1) := by decide +kernel
theorem dX6_soonestOf_77 : decode cX6_soonestOf 77 = .ok (.iload 5, 2) := by decide +kernel
theorem dX6_soonestOf_79 : decode cX6_soonestOf 79 = .ok (.ior, 1) := by decide +kernel
theorem dX6_soonestOf_80 : decode cX6_soonestOf 80 = .ok (.istore_n 3, 1) := by decide +kernel
theorem dX6_soonestOf_81 : decode cX6_soonestOf 81 = .ok (.iinc 4 1, 3) := by decide +kernel
theorem dX6_soonestOf_84 : decode cX6_soonestOf 84 = .ok (.goto (-77), 3) := by decide +kernel
theorem dX6_soonestOf_87 : decode cX6_soonestOf 87 = .ok (.ldc 165, 2) := by decide +kernel
theorem dX6_soonestOf_89 : decode cX6_soonestOf 89 = .ok (.ireturn, 1) := by decide +kernel
theorem dX6_isForest_0 : decode cX6_isForest 0 = .ok (.aload_n 0, 1) := by decide +kernel
theorem dX6_isForest_1 : decode cX6_isForest 1 = .ok (.getfield 19, 3) := by decide +kernel
theorem dX6_isForest_4 : decode cX6_isForest 4 = .ok (.iconst 3, 1) := by decide +kernel
theorem dX6_isForest_5 : decode cX6_isForest 5 = .ok (.iaload, 1) := by decide +kernel
theorem dX6_isForest_6 : decode cX6_isForest 6 = .ok (.iconst 1, 1) := by decide +kernel
theorem dX6_isForest_7 : decode cX6_isForest 7 = .ok (.if_icmp .ne 7, 3) := by decide +kernel
theorem dX6_isForest_10 : decode cX6_isForest 10 = .ok (.iconst 1, 1) := by decide +kernel
theorem dX6_isForest_11 : decode cX6_isForest 11 = .ok (.goto 4, 3) := by decide +kernel
theorem dX6_isForest_14 : decode cX6_isForest 14 = .ok (.iconst 0, 1) := by decide +kernel
theorem dX6_isForest_15 : decode cX6_isForest 15 = .ok (.ireturn, 1) := by decide +kernel
theorem dX6_isHammock_0 : decode cX6_isHammock 0 = .ok (.iload_n 1, 1) := by decide +kernel
theorem dX6_isHammock_1 : decode cX6_isHammock 1 = .ok (.i2l, 1) := by decide +kernel
theorem dX6_isHammock_2 : decode cX6_isHammock 2 = .ok (.lconst 0, 1) := by decide +kernel
theorem dX6_isHammock_3 : decode cX6_isHammock 3 = .ok (.aload_n 0, 1) := by decide +kernel
theorem dX6_isHammock_4 : decode cX6_isHammock 4 = .ok (.getfield 19, 3) := by decide +kernel
theorem dX6_isHammock_7 : decode cX6_isHammock 7 = .ok (.iconst 0, 1) := by decide +kernel
theorem dX6_isHammock_8 : decode cX6_isHammock 8 = .ok (.iaload, 1) := by decide +kernel
theorem dX6_isHammock_9 : decode cX6_isHammock 9 = .ok (.iconst 1, 1) := by decide +kernel
theorem dX6_isHammock_10 : decode cX6_isHammock 10 = .ok (.isub, 1) := by decide +kernel
theorem dX6_isHammock_11 : decode cX6_isHammock 11 = .ok (.i2l, 1) := by decide +kernel
theorem dX6_isHammock_12 : decode cX6_isHammock 12 = .ok (.invokestatic 57, 3) := by decide +kernel
theorem dX6_isHammock_15 : decode cX6_isHammock 15 = .ok (.ireturn, 1) := by decide +kernel
theorem dX6_isTwo_0 : decode cX6_isTwo 0 = .ok (.iload_n 0, 1) := by decide +kernel
theorem dX6_isTwo_1 : decode cX6_isTwo 1 = .ok (.i2l, 1) := by decide +kernel
theorem dX6_isTwo_2 : decode cX6_isTwo 2 = .ok (.lconst 0, 1) := by decide +kernel
theorem dX6_isTwo_3 : decode cX6_isTwo 3 = .ok (.lconst 1, 1) := by decide +kernel
theorem dX6_isTwo_4 : decode cX6_isTwo 4 = .ok (.invokestatic 57, 3) := by decide +kernel
theorem dX6_isTwo_7 : decode cX6_isTwo 7 = .ok (.ireturn, 1) := by decide +kernel
theorem dX6_isSpan_0 : decode cX6_isSpan 0 = .ok (.iload_n 0, 1) := by decide +kernel
theorem dX6_isSpan_1 : decode cX6_isSpan 1 = .ok (.i2l, 1) := by decide +kernel
theorem dX6_isSpan_2 : decode cX6_isSpan 2 = .ok (.lconst 0, 1) := by decide +kernel
theorem dX6_isSpan_3 : decode cX6_isSpan 3 = .ok (.ldc2_w 166, 3) := by decide +kernel
theorem dX6_isSpan_6 : decode cX6_isSpan 6 = .ok (.invokestatic 57, 3) := by decide +kernel
theorem dX6_isSpan_9 : decode cX6_isSpan 9 = .ok (.ireturn, 1) := by decide +kernel
theorem dX6_remember_0 : decode cX6_remember 0 = .ok (.aload_n 0, 1) := by decide +kernel
theorem dX6_remember_1 : decode cX6_remember 1 = .ok (.getfield 136, 3) := by decide +kernel
theorem dX6_remember_4 : decode cX6_remember 4 = .ok (.bipush 24, 2) := by decide +kernel
theorem dX6_remember_6 : decode cX6_remember 6 = .ok (.if_icmp .ne 43, 3) := by decide +kernel
theorem dX6_remember_9 : decode cX6_remember 9 = .ok (.iconst 0, 1) := by decide +kernel
theorem dX6_remember_10 : decode cX6_remember 10 = .ok (.istore_n 1, 1) := by decide +kernel
theorem dX6_remember_11 : decode cX6_remember 11 = .ok (.iload_n 1, 1) := by decide +kernel
theorem dX6_remember_12 : decode cX6_remember 12 = .ok (.sipush 828, 3) := by decide +kernel
theorem dX6_remember_15 : decode cX6_remember 15 = .ok (.if_icmp .ge 24, 3) := by decide +kernel
theorem dX6_remember_18 : decode cX6_remember 18 = .ok (.aload_n 0, 1) := by decide +kernel
theorem dX6_remember_19 : decode cX6_remember 19 = .ok (.getfield 28, 3) := by decide +kernel
theorem dX6_remember_22 : decode cX6_remember 22 = .ok (.iload_n 1, 1) := by decide +kernel
theorem dX6_remember_23 : decode cX6_remember 23 = .ok (.aload_n 0, 1) := by decide +kernel
theorem dX6_remember_24 : decode cX6_remember 24 = .ok (.getfield 28, 3) := by decide +kernel
theorem dX6_remember_27 : decode cX6_remember 27 = .ok (.iload_n 1, 1) := by decide +kernel
theorem dX6_remember_28 : decode cX6_remember 28 = .ok (.bipush 36, 2) := by decide +kernel
theorem dX6_remember_30 : decode cX6_remember 30 = .ok (.iadd, 1) := by decide +kernel
theorem dX6_remember_31 : decode cX6_remember 31 = .ok (.iaload, 1) := by decide +kernel
theorem dX6_remember_32 : decode cX6_remember 32 = .ok (.iastore, 1) := by decide +kernel
theorem dX6_remember_33 : decode cX6_remember 33 = .ok (.iinc 1 1, 3) := by decide +kernel
theorem dX6_remember_36 : decode cX6_remember 36 = .ok (.goto (-25), 3) := by decide +kernel
theorem dX6_remember_39 : decode cX6_remember 39 = .ok (.aload_n 0, 1) := by decide +kernel
theorem dX6_remember_40 : decode cX6_remember 40 = .ok (.dup, 1) := by decide +kernel
theorem dX6_remember_41 : decode cX6_remember 41 = .ok (.getfield 136, 3) := by decide +kernel
theorem dX6_remember_44 : decode cX6_remember 44 = .ok (.iconst 1, 1) := by decide +kernel
theorem dX6_remember_45 : decode cX6_remember 45 = .ok (.isub, 1) := by decide +kernel
theorem dX6_remember_46 : decode cX6_remember 46 = .ok (.putfield 136, 3) := by decide +kernel
theorem dX6_remember_49 : decode cX6_remember 49 = .ok (.aload_n 0, 1) := by decide +kernel
theorem dX6_remember_50 : decode cX6_remember 50 = .ok (.getfield 19, 3) := by decide +kernel
theorem dX6_remember_53 : decode cX6_remember 53 = .ok (.iconst 0, 1) := by decide +kernel
theorem dX6_remember_54 : decode cX6_remember 54 = .ok (.aload_n 0, 1) := by decide +kernel
theorem dX6_remember_55 : decode cX6_remember 55 = .ok (.getfield 28, 3) := by decide +kernel
theorem dX6_remember_58 : decode cX6_remember 58 = .ok (.bipush 36, 2) := by decide +kernel
theorem dX6_remember_60 : decode cX6_remember 60 = .ok (.aload_n 0, 1) := by decide +kernel
theorem dX6_remember_61 : decode cX6_remember 61 = .ok (.getfield 136, 3) := by decide +kernel
theorem dX6_remember_64 : decode cX6_remember 64 = .ok (.imul, 1) := by decide +kernel
theorem dX6_remember_65 : decode cX6_remember 65 = .ok (.invokestatic 132, 3) := by decide +kernel
theorem dX6_remember_68 : decode cX6_remember 68 = .ok (.aload_n 0, 1) := by decide +kernel
theorem dX6_remember_69 : decode cX6_remember 69 = .ok (.dup, 1) := by decide +kernel
theorem dX6_remember_70 : decode cX6_remember 70 = .ok (.getfield 136, 3) := by decide +kernel
theorem dX6_remember_73 : decode cX6_remember 73 = .ok (.iconst 1, 1) := by decide +kernel
theorem dX6_remember_74 : decode cX6_remember 74 = .ok (.iadd, 1) := by decide +kernel
theorem dX6_remember_75 : decode cX6_remember 75 = .ok (.putfield 136, 3) := by decide +kernel
theorem dX6_remember_78 : decode cX6_remember 78 = .ok (.return_, 1) := by decide +kernel
theorem dX6_minutes_0 : decode cX6_minutes 0 = .ok (.aload_n 0, 1) := by decide +kernel
theorem dX6_minutes_1 : decode cX6_minutes 1 = .ok (.invokevirtual 168, 3) := by decide +kernel
theorem dX6_minutes_4 : decode cX6_minutes 4 = .ok (.ifCond .ne 6, 3) := by decide +kernel
theorem dX6_minutes_7 : decode cX6_minutes 7 = .ok (.ldc 171, 2) := by decide +kernel
theorem dX6_minutes_9 : decode cX6_minutes 9 = .ok (.ireturn, 1) := by decide +kernel
theorem dX6_minutes_10 : decode cX6_minutes 10 = .ok (.iload_n 1, 1) := by decide +kernel
theorem dX6_minutes_11 : decode cX6_minutes 11 = .ok (.i2l, 1) := by decide +kernel
theorem dX6_minutes_12 : decode cX6_minutes 12 = .ok (.lconst 1, 1) := by decide +kernel
theorem dX6_minutes_13 : decode cX6_minutes 13 = .ok (.ldc2_w 172, 3) := by decide +kernel
theorem dX6_minutes_16 : decode cX6_minutes 16 = .ok (.invokestatic 57, 3) := by decide +kernel
theorem dX6_minutes_19 : decode cX6_minutes 19 = .ok (.ifCond .ne 6, 3) := by decide +kernel
theorem dX6_minutes_22 : decode cX6_minutes 22 = .ok (.ldc 67, 2) := by decide +kernel
theorem dX6_minutes_24 : decode cX6_minutes 24 = .ok (.ireturn, 1) := by decide +kernel
theorem dX6_minutes_25 : decode cX6_minutes 25 = .ok (.aload_n 0, 1) := by decide +kernel
theorem dX6_minutes_26 : decode cX6_minutes 26 = .ok (.getfield 19, 3) := by decide +kernel
theorem dX6_minutes_29 : decode cX6_minutes 29 = .ok (.bipush 35, 2) := by decide +kernel
theorem dX6_minutes_31 : decode cX6_minutes 31 = .ok (.iaload, 1) := by decide +kernel
theorem dX6_minutes_32 : decode cX6_minutes 32 = .ok (.iload_n 1, 1) := by decide +kernel
theorem dX6_minutes_33 : decode cX6_minutes 33 = .ok (.iadd, 1) := by decide +kernel
theorem dX6_minutes_34 : decode cX6_minutes 34 = .ok (.sipush 999, 3) := by decide +kernel
theorem dX6_minutes_37 : decode cX6_minutes 37 = .ok (.if_icmp .le 6, 3) := by decide +kernel
theorem dX6_minutes_40 : decode cX6_minutes 40 = .ok (.ldc 80, 2) := by decide +kernel
theorem dX6_minutes_42 : decode cX6_minutes 42 = .ok (.ireturn, 1) := by decide +kernel
theorem dX6_minutes_43 : decode cX6_minutes 43 = .ok (.iconst 0, 1) := by decide +kernel
theorem dX6_minutes_44 : decode cX6_minutes 44 = .ok (.istore_n 2, 1) := by decide +kernel
theorem dX6_minutes_45 : decode cX6_minutes 45 = .ok (.iload_n 2, 1) := by decide +kernel
theorem dX6_minutes_46 : decode cX6_minutes 46 = .ok (.iload_n 1, 1) := by decide +kernel
theorem dX6_minutes_47 : decode cX6_minutes 47 = .ok (.if_icmp .ge 24, 3) := by decide +kernel
theorem dX6_minutes_50 : decode cX6_minutes 50 = .ok (.aload_n 0, 1) := by decide +kernel
theorem dX6_minutes_51 : decode cX6_minutes 51 = .ok (.invokevirtual 174, 3) := by decide +kernel
theorem dX6_minutes_54 : decode cX6_minutes 54 = .ok (.aload_n 0, 1) := by decide +kernel
theorem dX6_minutes_55 : decode cX6_minutes 55 = .ok (.getfield 19, 3) := by decide +kernel
theorem dX6_minutes_58 : decode cX6_minutes 58 = .ok (.bipush 35, 2) := by decide +kernel
theorem dX6_minutes_60 : decode cX6_minutes 60 = .ok (.dup2, 1) := by decide +kernel
theorem dX6_minutes_61 : decode cX6_minutes 61 = .ok (.iaload, 1) := by decide +kernel
theorem dX6_minutes_62 : decode cX6_minutes 62 = .ok (.iconst 1, 1) := by decide +kernel
theorem dX6_minutes_63 : decode cX6_minutes 63 = .ok (.iadd, 1) := by decide +kernel
theorem dX6_minutes_64 : decode cX6_minutes 64 = .ok (.iastore, 1) := by decide +kernel
theorem dX6_minutes_65 : decode cX6_minutes 65 = .ok (.iinc 2 1, 3) := by decide +kernel
theorem dX6_minutes_68 : decode cX6_minutes 68 = .ok (.goto (-23), 3) := by decide +kernel
theorem dX6_minutes_71 : decode cX6_minutes 71 = .ok (.aload_n 0, 1) := by decide +kernel
theorem dX6_minutes_72 : decode cX6_minutes 72 = .ok (.getfield 19, 3) := by decide +kernel
theorem dX6_minutes_75 : decode cX6_minutes 75 = .ok (.aload_n 0, 1) := by decide +kernel
theorem dX6_minutes_76 : decode cX6_minutes 76 = .ok (.getfield 19, 3) := by decide +kernel
theorem dX6_minutes_79 : decode cX6_minutes 79 = .ok (.bipush 35, 2) := by decide +kernel
theorem dX6_minutes_81 : decode cX6_minutes 81 = .ok (.iaload, 1) := by decide +kernel
theorem dX6_minutes_82 : decode cX6_minutes 82 = .ok (.invokestatic 177, 3) := by decide +kernel
theorem dX6_minutes_85 : decode cX6_minutes 85 = .ok (.ireturn, 1) := by decide +kernel
theorem dX6_sling_0 : decode cX6_sling 0 = .ok (.aload_n 0, 1) := by decide +kernel
theorem dX6_sling_1 : decode cX6_sling 1 = .ok (.iload_n 1, 1) := by decide +kernel
theorem dX6_sling_2 : decode cX6_sling 2 = .ok (.invokevirtual 181, 3) := by decide +kernel
theorem dX6_sling_5 : decode cX6_sling 5 = .ok (.ifCond .eq 32, 3) := by decide +kernel
theorem dX6_sling_8 : decode cX6_sling 8 = .ok (.iload_n 2, 1) := by decide +kernel
theorem dX6_sling_9 : decode cX6_sling 9 = .ok (.i2l, 1) := by decide +kernel
theorem dX6_sling_10 : decode cX6_sling 10 = .ok (.lconst 0, 1) := by decide +kernel
theorem dX6_sling_11 : decode cX6_sling 11 = .ok (.ldc2_w 184, 3) := by decide +kernel
theorem dX6_sling_14 : decode cX6_sling 14 = .ok (.invokestatic 57, 3) := by decide +kernel
theorem dX6_sling_17 : decode cX6_sling 17 = .ok (.ifCond .eq 20, 3) := by decide +kernel
theorem dX6_sling_20 : decode cX6_sling 20 = .ok (.iload_n 3, 1) := by decide +kernel
theorem dX6_sling_21 : decode cX6_sling 21 = .ok (.i2l, 1) := by decide +kernel
theorem dX6_sling_22 : decode cX6_sling 22 = .ok (.lconst 0, 1) := by decide +kernel
theorem dX6_sling_23 : decode cX6_sling 23 = .ok (.ldc2_w 184, 3) := by decide +kernel
theorem dX6_sling_26 : decode cX6_sling 26 = .ok (.invokestatic 57, 3) := by decide +kernel
theorem dX6_sling_29 : decode cX6_sling 29 = .ok (.ifCond .eq 8, 3) := by decide +kernel
theorem dX6_sling_32 : decode cX6_sling 32 = .ok (.iload_n 3, 1) := by decide +kernel
theorem dX6_sling_33 : decode cX6_sling 33 = .ok (.iload_n 2, 1) := by decide +kernel
theorem dX6_sling_34 : decode cX6_sling 34 = .ok (.if_icmp .gt 6, 3) := by decide +kernel
theorem dX6_sling_37 : decode cX6_sling 37 = .ok (.ldc 67, 2) := by decide +kernel
theorem dX6_sling_39 : decode cX6_sling 39 = .ok (.ireturn, 1) := by decide +kernel
theorem dX6_sling_40 : decode cX6_sling 40 = .ok (.aload_n 0, 1) := by decide +kernel
theorem dX6_sling_41 : decode cX6_sling 41 = .ok (.getfield 19, 3) := by decide +kernel
theorem dX6_sling_44 : decode cX6_sling 44 = .ok (.bipush 10, 2) := by decide +kernel
theorem dX6_sling_46 : decode cX6_sling 46 = .ok (.iload_n 1, 1) := by decide +kernel
theorem dX6_sling_47 : decode cX6_sling 47 = .ok (.iadd, 1) := by decide +kernel
theorem dX6_sling_48 : decode cX6_sling 48 = .ok (.iaload, 1) := by decide +kernel
theorem dX6_sling_49 : decode cX6_sling 49 = .ok (.iload_n 2, 1) := by decide +kernel
theorem dX6_sling_50 : decode cX6_sling 50 = .ok (.if_icmp .ne 19, 3) := by decide +kernel
theorem dX6_sling_53 : decode cX6_sling 53 = .ok (.aload_n 0, 1) := by decide +kernel
theorem dX6_sling_54 : decode cX6_sling 54 = .ok (.getfield 19, 3) := by decide +kernel
theorem dX6_sling_57 : decode cX6_sling 57 = .ok (.bipush 16, 2) := by decide +kernel
theorem dX6_sling_59 : decode cX6_sling 59 = .ok (.iload_n 1, 1) := by decide +kernel
theorem dX6_sling_60 : decode cX6_sling 60 = .ok (.iadd, 1) := by decide +kernel
theorem dX6_sling_61 : decode cX6_sling 61 = .ok (.iaload, 1) := by decide +kernel
theorem dX6_sling_62 : decode cX6_sling 62 = .ok (.iload_n 3, 1) := by decide +kernel
theorem dX6_sling_63 : decode cX6_sling 63 = .ok (.if_icmp .ne 6, 3) := by decide +kernel
theorem dX6_sling_66 : decode cX6_sling 66 = .ok (.ldc 171, 2) := by decide +kernel
theorem dX6_sling_68 : decode cX6_sling 68 = .ok (.ireturn, 1) := by decide +kernel
theorem dX6_sling_69 : decode cX6_sling 69 = .ok (.aload_n 0, 1) := by decide +kernel
theorem dX6_sling_70 : decode cX6_sling 70 = .ok (.invokevirtual 174, 3) := by decide +kernel
theorem dX6_sling_73 : decode cX6_sling 73 = .ok (.aload_n 0, 1) := by decide +kernel
theorem dX6_sling_74 : decode cX6_sling 74 = .ok (.getfield 19, 3) := by decide +kernel
theorem dX6_sling_77 : decode cX6_sling 77 = .ok (.bipush 10, 2) := by decide +kernel
theorem dX6_sling_79 : decode cX6_sling 79 = .ok (.iload_n 1, 1) := by decide +kernel
theorem dX6_sling_80 : decode cX6_sling 80 = .ok (.iadd, 1) := by decide +kernel
theorem dX6_sling_81 : decode cX6_sling 81 = .ok (.iload_n 2, 1) := by decide +kernel
theorem dX6_sling_82 : decode cX6_sling 82 = .ok (.iastore, 1) := by decide +kernel
theorem dX6_sling_83 : decode cX6_sling 83 = .ok (.aload_n 0, 1) := by decide +kernel
theorem dX6_sling_84 : decode cX6_sling 84 = .ok (.getfield 19, 3) := by decide +kernel
theorem dX6_sling_87 : decode cX6_sling 87 = .ok (.bipush 16, 2) := by decide +kernel
theorem dX6_sling_89 : decode cX6_sling 89 = .ok (.iload_n 1, 1) := by decide +kernel
theorem dX6_sling_90 : decode cX6_sling 90 = .ok (.iadd, 1) := by decide +kernel
theorem dX6_sling_91 : decode cX6_sling 91 = .ok (.iload_n 3, 1) := by decide +kernel
theorem dX6_sling_92 : decode cX6_sling 92 = .ok (.iastore, 1) := by decide +kernel
theorem dX6_sling_93 : decode cX6_sling 93 = .ok (.aload_n 0, 1) := by decide +kernel
theorem dX6_sling_94 : decode cX6_sling 94 = .ok (.getfield 19, 3) := by decide +kernel
theorem dX6_sling_97 : decode cX6_sling 97 = .ok (.iload_n 1, 1) := by decide +kernel
theorem dX6_sling_98 : decode cX6_sling 98 = .ok (.aload_n 0, 1) := by decide +kernel
theorem dX6_sling_99 : decode cX6_sling 99 = .ok (.getfield 19, 3) := by decide +kernel
theorem dX6_sling_102 : decode cX6_sling 102 = .ok (.bipush 35, 2) := by decide +kernel
theorem dX6_sling_104 : decode cX6_sling 104 = .ok (.iaload, 1) := by decide +kernel
theorem dX6_sling_105 : decode cX6_sling 105 = .ok (.invokestatic 155, 3) := by decide +kernel
theorem dX6_sling_108 : decode cX6_sling 108 = .ok (.ireturn, 1) := by decide +kernel
theorem dX6_load_0 : decode cX6_load 0 = .ok (.aload_n 0, 1) := by decide +kernel
theorem dX6_load_1 : decode cX6_load 1 = .ok (.iload_n 1, 1) := by decide +kernel
theorem dX6_load_2 : decode cX6_load 2 = .ok (.invokevirtual 181, 3) := by decide +kernel
theorem dX6_load_5 : decode cX6_load 5 = .ok (.ifCond .eq 15, 3) := by decide +kernel
theorem dX6_load_8 : decode cX6_load 8 = .ok (.iload_n 2, 1) := by decide +kernel
theorem dX6_load_9 : decode cX6_load 9 = .ok (.i2l, 1) := by decide +kernel
theorem dX6_load_10 : decode cX6_load 10 = .ok (.lconst 1, 1) := by decide +kernel
theorem dX6_load_11 : decode cX6_load 11 = .ok (.ldc2_w 186, 3) := by decide +kernel
theorem dX6_load_14 : decode cX6_load 14 = .ok (.invokestatic 57, 3) := by decide +kernel
theorem dX6_load_17 : decode cX6_load 17 = .ok (.ifCond .ne 6, 3) := by decide +kernel
theorem dX6_load_20 : decode cX6_load 20 = .ok (.ldc 67, 2) := by decide +kernel
theorem dX6_load_22 : decode cX6_load 22 = .ok (.ireturn, 1) := by decide +kernel
theorem dX6_load_23 : decode cX6_load 23 = .ok (.aload_n 0, 1) := by decide +kernel
theorem dX6_load_24 : decode cX6_load 24 = .ok (.invokevirtual 174, 3) := by decide +kernel
theorem dX6_load_27 : decode cX6_load 27 = .ok (.aload_n 0, 1) := by decide +kernel
theorem dX6_load_28 : decode cX6_load 28 = .ok (.getfield 19, 3) := by decide +kernel
theorem dX6_load_31 : decode cX6_load 31 = .ok (.bipush 22, 2) := by decide +kernel
theorem dX6_load_33 : decode cX6_load 33 = .ok (.iload_n 1, 1) := by decide +kernel
theorem dX6_load_34 : decode cX6_load 34 = .ok (.iadd, 1) := by decide +kernel
theorem dX6_load_35 : decode cX6_load 35 = .ok (.iload_n 2, 1) := by decide +kernel
theorem dX6_load_36 : decode cX6_load 36 = .ok (.iastore, 1) := by decide +kernel
theorem dX6_load_37 : decode cX6_load 37 = .ok (.aload_n 0, 1) := by decide +kernel
theorem dX6_load_38 : decode cX6_load 38 = .ok (.getfield 19, 3) := by decide +kernel
theorem dX6_load_41 : decode cX6_load 41 = .ok (.iload_n 1, 1) := by decide +kernel
theorem dX6_load_42 : decode cX6_load 42 = .ok (.aload_n 0, 1) := by decide +kernel
theorem dX6_load_43 : decode cX6_load 43 = .ok (.getfield 19, 3) := by decide +kernel
theorem dX6_load_46 : decode cX6_load 46 = .ok (.bipush 35, 2) := by decide +kernel
theorem dX6_load_48 : decode cX6_load 48 = .ok (.iaload, 1) := by decide +kernel
theorem dX6_load_49 : decode cX6_load 49 = .ok (.invokestatic 147, 3) := by decide +kernel
theorem dX6_load_52 : decode cX6_load 52 = .ok (.ireturn, 1) := by decide +kernel
theorem dX6_cord_0 : decode cX6_cord 0 = .ok (.aload_n 0, 1) := by decide +kernel
theorem dX6_cord_1 : decode cX6_cord 1 = .ok (.iload_n 1, 1) := by decide +kernel
theorem dX6_cord_2 : decode cX6_cord 2 = .ok (.invokevirtual 181, 3) := by decide +kernel
theorem dX6_cord_5 : decode cX6_cord 5 = .ok (.ifCond .eq 10, 3) := by decide +kernel
theorem dX6_cord_8 : decode cX6_cord 8 = .ok (.iload_n 2, 1) := by decide +kernel
theorem dX6_cord_9 : decode cX6_cord 9 = .ok (.invokestatic 188, 3) := by decide +kernel
theorem dX6_cord_12 : decode cX6_cord 12 = .ok (.ifCond .ne 6, 3) := by decide +kernel
theorem dX6_cord_15 : decode cX6_cord 15 = .ok (.ldc 67, 2) := by decide +kernel
theorem dX6_cord_17 : decode cX6_cord 17 = .ok (.ireturn, 1) := by decide +kernel
theorem dX6_cord_18 : decode cX6_cord 18 = .ok (.aload_n 0, 1) := by decide +kernel
theorem dX6_cord_19 : decode cX6_cord 19 = .ok (.getfield 19, 3) := by decide +kernel
theorem dX6_cord_22 : decode cX6_cord 22 = .ok (.bipush 34, 2) := by decide +kernel
theorem dX6_cord_24 : decode cX6_cord 24 = .ok (.iaload, 1) := by decide +kernel
theorem dX6_cord_25 : decode cX6_cord 25 = .ok (.iload_n 1, 1) := by decide +kernel
theorem dX6_cord_26 : decode cX6_cord 26 = .ok (.invokestatic 143, 3) := by decide +kernel
theorem dX6_cord_29 : decode cX6_cord 29 = .ok (.iload_n 2, 1) := by decide +kernel
theorem dX6_cord_30 : decode cX6_cord 30 = .ok (.iconst 1, 1) := by decide +kernel
theorem dX6_cord_31 : decode cX6_cord 31 = .ok (.if_icmp .ne 7, 3) := by decide +kernel
theorem dX6_cord_34 : decode cX6_cord 34 = .ok (.iconst 1, 1) := by decide +kernel
theorem dX6_cord_35 : decode cX6_cord 35 = .ok (.goto 4, 3) := by decide +kernel
theorem dX6_cord_38 : decode cX6_cord 38 = .ok (.iconst 0, 1) := by decide +kernel
theorem dX6_cord_39 : decode cX6_cord 39 = .ok (.if_icmp .ne 6, 3) := by decide +kernel
theorem dX6_cord_42 : decode cX6_cord 42 = .ok (.ldc 171, 2) := by decide +kernel
theorem dX6_cord_44 : decode cX6_cord 44 = .ok (.ireturn, 1) := by decide +kernel
theorem dX6_cord_45 : decode cX6_cord 45 = .ok (.aload_n 0, 1) := by decide +kernel
theorem dX6_cord_46 : decode cX6_cord 46 = .ok (.invokevirtual 174, 3) := by decide +kernel
theorem dX6_cord_49 : decode cX6_cord 49 = .ok (.aload_n 0, 1) := by decide +kernel
theorem dX6_cord_50 : decode cX6_cord 50 = .ok (.getfield 19, 3) := by decide +kernel
theorem dX6_cord_53 : decode cX6_cord 53 = .ok (.bipush 34, 2) := by decide +kernel
theorem dX6_cord_55 : decode cX6_cord 55 = .ok (.dup2, 1) := by decide +kernel
theorem dX6_cord_56 : decode cX6_cord 56 = .ok (.iaload, 1) := by decide +kernel
theorem dX6_cord_57 : decode cX6_cord 57 = .ok (.iconst 1, 1) := by decide +kernel
theorem dX6_cord_58 : decode cX6_cord 58 = .ok (.iload_n 1, 1) := by decide +kernel
theorem dX6_cord_59 : decode cX6_cord 59 = .ok (.ishl, 1) := by decide +kernel
theorem dX6_cord_60 : decode cX6_cord 60 = .ok (.ixor, 1) := by decide +kernel
theorem dX6_cord_61 : decode cX6_cord 61 = .ok (.iastore, 1) := by decide +kernel
theorem dX6_cord_62 : decode cX6_cord 62 = .ok (.aload_n 0, 1) := by decide +kernel
theorem dX6_cord_63 : decode cX6_cord 63 = .ok (.getfield 19, 3) := by decide +kernel
theorem dX6_cord_66 : decode cX6_cord 66 = .ok (.bipush 34, 2) := by decide +kernel
theorem dX6_cord_68 : decode cX6_cord 68 = .ok (.iaload, 1) := by decide +kernel
theorem dX6_cord_69 : decode cX6_cord 69 = .ok (.ireturn, 1) := by decide +kernel
theorem dX6_undo_0 : decode cX6_undo 0 = .ok (.aload_n 0, 1) := by decide +kernel
theorem dX6_undo_1 : decode cX6_undo 1 = .ok (.getfield 136, 3) := by decide +kernel
theorem dX6_undo_4 : decode cX6_undo 4 = .ok (.ifCond .ne 6, 3) := by decide +kernel
theorem dX6_undo_7 : decode cX6_undo 7 = .ok (.ldc 171, 2) := by decide +kernel
theorem dX6_undo_9 : decode cX6_undo 9 = .ok (.ireturn, 1) := by decide +kernel
theorem dX6_undo_10 : decode cX6_undo 10 = .ok (.aload_n 0, 1) := by decide +kernel
theorem dX6_undo_11 : decode cX6_undo 11 = .ok (.dup, 1) := by decide +kernel
theorem dX6_undo_12 : decode cX6_undo 12 = .ok (.getfield 136, 3) := by decide +kernel
theorem dX6_undo_15 : decode cX6_undo 15 = .ok (.iconst 1, 1) := by decide +kernel
theorem dX6_undo_16 : decode cX6_undo 16 = .ok (.isub, 1) := by decide +kernel
theorem dX6_undo_17 : decode cX6_undo 17 = .ok (.putfield 136, 3) := by decide +kernel
theorem dX6_undo_20 : decode cX6_undo 20 = .ok (.aload_n 0, 1) := by decide +kernel
theorem dX6_undo_21 : decode cX6_undo 21 = .ok (.getfield 28, 3) := by decide +kernel
theorem dX6_undo_24 : decode cX6_undo 24 = .ok (.bipush 36, 2) := by decide +kernel
theorem dX6_undo_26 : decode cX6_undo 26 = .ok (.aload_n 0, 1) := by decide +kernel
theorem dX6_undo_27 : decode cX6_undo 27 = .ok (.getfield 136, 3) := by decide +kernel
theorem dX6_undo_30 : decode cX6_undo 30 = .ok (.imul, 1) := by decide +kernel
theorem dX6_undo_31 : decode cX6_undo 31 = .ok (.aload_n 0, 1) := by decide +kernel
theorem dX6_undo_32 : decode cX6_undo 32 = .ok (.getfield 19, 3) := by decide +kernel
theorem dX6_undo_35 : decode cX6_undo 35 = .ok (.iconst 0, 1) := by decide +kernel
theorem dX6_undo_36 : decode cX6_undo 36 = .ok (.invokestatic 132, 3) := by decide +kernel
theorem dX6_undo_39 : decode cX6_undo 39 = .ok (.aload_n 0, 1) := by decide +kernel
theorem dX6_undo_40 : decode cX6_undo 40 = .ok (.getfield 136, 3) := by decide +kernel
theorem dX6_undo_43 : decode cX6_undo 43 = .ok (.ireturn, 1) := by decide +kernel
theorem dX6_hammock_0 : decode cX6_hammock 0 = .ok (.aload_n 0, 1) := by decide +kernel
theorem dX6_hammock_1 : decode cX6_hammock 1 = .ok (.iload_n 1, 1) := by decide +kernel
theorem dX6_hammock_2 : decode cX6_hammock 2 = .ok (.invokevirtual 181, 3) := by decide +kernel
theorem dX6_hammock_5 : decode cX6_hammock 5 = .ok (.ifCond .ne 6, 3) := by decide +kernel
theorem dX6_hammock_8 : decode cX6_hammock 8 = .ok (.ldc 67, 2) := by decide +kernel
theorem dX6_hammock_10 : decode cX6_hammock 10 = .ok (.ireturn, 1) := by decide +kernel
theorem dX6_hammock_11 : decode cX6_hammock 11 = .ok (.iload_n 2, 1) := by decide +kernel
theorem dX6_hammock_12 : decode cX6_hammock 12 = .ok (.tableswitch 111 0 6 #[44, 44, 44, 44, 59, 79, 95], 44) := by decide +kernel
theorem dX6_hammock_56 : decode cX6_hammock 56 = .ok (.aload_n 0, 1) := by decide +kernel
theorem dX6_hammock_57 : decode cX6_hammock 57 = .ok (.getfield 19, 3) := by decide +kernel
theorem dX6_hammock_60 : decode cX6_hammock 60 = .ok (.bipush 10, 2) := by decide +kernel
theorem dX6_hammock_62 : decode cX6_hammock 62 = .ok (.bipush 6, 2) := by decide +kernel
theorem dX6_hammock_64 : decode cX6_hammock 64 = .ok (.iload_n 2, 1) := by decide +kernel
theorem dX6_hammock_65 : decode cX6_hammock 65 = .ok (.imul, 1) := by decide +kernel
theorem dX6_hammock_66 : decode cX6_hammock 66 = .ok (.iadd, 1) := by decide +kernel
theorem dX6_hammock_67 : decode cX6_hammock 67 = .ok (.iload_n 1, 1) := by decide +kernel
theorem dX6_hammock_68 : decode cX6_hammock 68 = .ok (.iadd, 1) := by decide +kernel
theorem dX6_hammock_69 : decode cX6_hammock 69 = .ok (.iaload, 1) := by decide +kernel
theorem dX6_hammock_70 : decode cX6_hammock 70 = .ok (.ireturn, 1) := by decide +kernel
theorem dX6_hammock_71 : decode cX6_hammock 71 = .ok (.aload_n 0, 1) := by decide +kernel
theorem dX6_hammock_72 : decode cX6_hammock 72 = .ok (.getfield 19, 3) := by decide +kernel
theorem dX6_hammock_75 : decode cX6_hammock 75 = .ok (.bipush 34, 2) := by decide +kernel
theorem dX6_hammock_77 : decode cX6_hammock 77 = .ok (.iaload, 1) := by decide +kernel
theorem dX6_hammock_78 : decode cX6_hammock 78 = .ok (.iload_n 1, 1) := by decide +kernel
theorem dX6_hammock_79 : decode cX6_hammock 79 = .ok (.invokestatic 143, 3) := by decide +kernel
theorem dX6_hammock_82 : decode cX6_hammock 82 = .ok (.ifCond .eq 7, 3) := by decide +kernel
theorem dX6_hammock_85 : decode cX6_hammock 85 = .ok (.iconst 1, 1) := by decide +kernel
theorem dX6_hammock_86 : decode cX6_hammock 86 = .ok (.goto 4, 3) := by decide +kernel
theorem dX6_hammock_89 : decode cX6_hammock 89 = .ok (.iconst 0, 1) := by decide +kernel
theorem dX6_hammock_90 : decode cX6_hammock 90 = .ok (.ireturn, 1) := by decide +kernel
theorem dX6_hammock_91 : decode cX6_hammock 91 = .ok (.aload_n 0, 1) := by decide +kernel
theorem dX6_hammock_92 : decode cX6_hammock 92 = .ok (.getfield 19, 3) := by decide +kernel
theorem dX6_hammock_95 : decode cX6_hammock 95 = .ok (.iload_n 1, 1) := by decide +kernel
theorem dX6_hammock_96 : decode cX6_hammock 96 = .ok (.aload_n 0, 1) := by decide +kernel
theorem dX6_hammock_97 : decode cX6_hammock 97 = .ok (.getfield 19, 3) := by decide +kernel
theorem dX6_hammock_100 : decode cX6_hammock 100 = .ok (.bipush 35, 2) := by decide +kernel
theorem dX6_hammock_102 : decode cX6_hammock 102 = .ok (.iaload, 1) := by decide +kernel
theorem dX6_hammock_103 : decode cX6_hammock 103 = .ok (.invokestatic 147, 3) := by decide +kernel
theorem dX6_hammock_106 : decode cX6_hammock 106 = .ok (.ireturn, 1) := by decide +kernel
theorem dX6_hammock_107 : decode cX6_hammock 107 = .ok (.aload_n 0, 1) := by decide +kernel
theorem dX6_hammock_108 : decode cX6_hammock 108 = .ok (.getfield 19, 3) := by decide +kernel
theorem dX6_hammock_111 : decode cX6_hammock 111 = .ok (.iload_n 1, 1) := by decide +kernel
theorem dX6_hammock_112 : decode cX6_hammock 112 = .ok (.aload_n 0, 1) := by decide +kernel
theorem dX6_hammock_113 : decode cX6_hammock 113 = .ok (.getfield 19, 3) := by decide +kernel
theorem dX6_hammock_116 : decode cX6_hammock 116 = .ok (.bipush 35, 2) := by decide +kernel
theorem dX6_hammock_118 : decode cX6_hammock 118 = .ok (.iaload, 1) := by decide +kernel
theorem dX6_hammock_119 : decode cX6_hammock 119 = .ok (.invokestatic 155, 3) := by decide +kernel
theorem dX6_hammock_122 : decode cX6_hammock 122 = .ok (.ireturn, 1) := by decide +kernel
theorem dX6_hammock_123 : decode cX6_hammock 123 = .ok (.ldc 67, 2) := by decide +kernel
theorem dX6_hammock_125 : decode cX6_hammock 125 = .ok (.ireturn, 1) := by decide +kernel
theorem dX6_ahead_0 : decode cX6_ahead 0 = .ok (.aload_n 0, 1) := by decide +kernel
theorem dX6_ahead_1 : decode cX6_ahead 1 = .ok (.iload_n 1, 1) := by decide +kernel
theorem dX6_ahead_2 : decode cX6_ahead 2 = .ok (.invokevirtual 181, 3) := by decide +kernel
theorem dX6_ahead_5 : decode cX6_ahead 5 = .ok (.ifCond .eq 17, 3) := by decide +kernel
theorem dX6_ahead_8 : decode cX6_ahead 8 = .ok (.iload_n 2, 1) := by decide +kernel
theorem dX6_ahead_9 : decode cX6_ahead 9 = .ok (.invokestatic 191, 3) := by decide +kernel
theorem dX6_ahead_12 : decode cX6_ahead 12 = .ok (.ifCond .eq 10, 3) := by decide +kernel
theorem dX6_ahead_15 : decode cX6_ahead 15 = .ok (.iload_n 3, 1) := by decide +kernel
theorem dX6_ahead_16 : decode cX6_ahead 16 = .ok (.invokestatic 188, 3) := by decide +kernel
theorem dX6_ahead_19 : decode cX6_ahead 19 = .ok (.ifCond .ne 6, 3) := by decide +kernel
theorem dX6_ahead_22 : decode cX6_ahead 22 = .ok (.ldc 67, 2) := by decide +kernel
theorem dX6_ahead_24 : decode cX6_ahead 24 = .ok (.ireturn, 1) := by decide +kernel
theorem dX6_ahead_25 : decode cX6_ahead 25 = .ok (.iload_n 3, 1) := by decide +kernel
theorem dX6_ahead_26 : decode cX6_ahead 26 = .ok (.ifCond .ne 23, 3) := by decide +kernel
theorem dX6_ahead_29 : decode cX6_ahead 29 = .ok (.aload_n 0, 1) := by decide +kernel
theorem dX6_ahead_30 : decode cX6_ahead 30 = .ok (.getfield 19, 3) := by decide +kernel
theorem dX6_ahead_33 : decode cX6_ahead 33 = .ok (.iload_n 1, 1) := by decide +kernel
theorem dX6_ahead_34 : decode cX6_ahead 34 = .ok (.aload_n 0, 1) := by decide +kernel
theorem dX6_ahead_35 : decode cX6_ahead 35 = .ok (.getfield 19, 3) := by decide +kernel
theorem dX6_ahead_38 : decode cX6_ahead 38 = .ok (.bipush 35, 2) := by decide +kernel
theorem dX6_ahead_40 : decode cX6_ahead 40 = .ok (.iaload, 1) := by decide +kernel
theorem dX6_ahead_41 : decode cX6_ahead 41 = .ok (.iload_n 2, 1) := by decide +kernel
theorem dX6_ahead_42 : decode cX6_ahead 42 = .ok (.iadd, 1) := by decide +kernel
theorem dX6_ahead_43 : decode cX6_ahead 43 = .ok (.invokestatic 155, 3) := by decide +kernel
theorem dX6_ahead_46 : decode cX6_ahead 46 = .ok (.goto 20, 3) := by decide +kernel
theorem dX6_ahead_49 : decode cX6_ahead 49 = .ok (.aload_n 0, 1) := by decide +kernel
theorem dX6_ahead_50 : decode cX6_ahead 50 = .ok (.getfield 19, 3) := by decide +kernel
theorem dX6_ahead_53 : decode cX6_ahead 53 = .ok (.iload_n 1, 1) := by decide +kernel
theorem dX6_ahead_54 : decode cX6_ahead 54 = .ok (.aload_n 0, 1) := by decide +kernel
theorem dX6_ahead_55 : decode cX6_ahead 55 = .ok (.getfield 19, 3) := by decide +kernel
theorem dX6_ahead_58 : decode cX6_ahead 58 = .ok (.bipush 35, 2) := by decide +kernel
theorem dX6_ahead_60 : decode cX6_ahead 60 = .ok (.iaload, 1) := by decide +kernel
theorem dX6_ahead_61 : decode cX6_ahead 61 = .ok (.iload_n 2, 1) := by decide +kernel
theorem dX6_ahead_62 : decode cX6_ahead 62 = .ok (.iadd, 1) := by decide +kernel
theorem dX6_ahead_63 : decode cX6_ahead 63 = .ok (.invokestatic 147, 3) := by decide +kernel
theorem dX6_ahead_66 : decode cX6_ahead 66 = .ok (.ireturn, 1) := by decide +kernel
theorem dX6_down_0 : decode cX6_down 0 = .ok (.aload_n 0, 1) := by decide +kernel
theorem dX6_down_1 : decode cX6_down 1 = .ok (.invokevirtual 168, 3) := by decide +kernel
theorem dX6_down_4 : decode cX6_down 4 = .ok (.ifCond .ne 6, 3) := by decide +kernel
theorem dX6_down_7 : decode cX6_down 7 = .ok (.ldc 171, 2) := by decide +kernel
theorem dX6_down_9 : decode cX6_down 9 = .ok (.ireturn, 1) := by decide +kernel
theorem dX6_down_10 : decode cX6_down 10 = .ok (.iload_n 1, 1) := by decide +kernel
theorem dX6_down_11 : decode cX6_down 11 = .ok (.invokestatic 191, 3) := by decide +kernel
theorem dX6_down_14 : decode cX6_down 14 = .ok (.ifCond .eq 22, 3) := by decide +kernel
theorem dX6_down_17 : decode cX6_down 17 = .ok (.aload_n 0, 1) := by decide +kernel
theorem dX6_down_18 : decode cX6_down 18 = .ok (.getfield 19, 3) := by decide +kernel
theorem dX6_down_21 : decode cX6_down 21 = .ok (.aload_n 0, 1) := by decide +kernel
theorem dX6_down_22 : decode cX6_down 22 = .ok (.getfield 19, 3) := by decide +kernel
theorem dX6_down_25 : decode cX6_down 25 = .ok (.bipush 35, 2) := by decide +kernel
theorem dX6_down_27 : decode cX6_down 27 = .ok (.iaload, 1) := by decide +kernel
theorem dX6_down_28 : decode cX6_down 28 = .ok (.iload_n 1, 1) := by decide +kernel
theorem dX6_down_29 : decode cX6_down 29 = .ok (.iadd, 1) := by decide +kernel
theorem dX6_down_30 : decode cX6_down 30 = .ok (.invokestatic 177, 3) := by decide +kernel
theorem dX6_down_33 : decode cX6_down 33 = .ok (.goto 5, 3) := by decide +kernel
theorem dX6_down_36 : decode cX6_down 36 = .ok (.ldc 67, 2) := by decide +kernel
theorem dX6_down_38 : decode cX6_down 38 = .ok (.ireturn, 1) := by decide +kernel
theorem dX6_reach_0 : decode cX6_reach 0 = .ok (.aload_n 0, 1) := by decide +kernel
theorem dX6_reach_1 : decode cX6_reach 1 = .ok (.iload_n 1, 1) := by decide +kernel
theorem dX6_reach_2 : decode cX6_reach 2 = .ok (.invokevirtual 181, 3) := by decide +kernel
theorem dX6_reach_5 : decode cX6_reach 5 = .ok (.ifCond .eq 30, 3) := by decide +kernel
theorem dX6_reach_8 : decode cX6_reach 8 = .ok (.iload_n 2, 1) := by decide +kernel
theorem dX6_reach_9 : decode cX6_reach 9 = .ok (.invokestatic 191, 3) := by decide +kernel
theorem dX6_reach_12 : decode cX6_reach 12 = .ok (.ifCond .eq 23, 3) := by decide +kernel
theorem dX6_reach_15 : decode cX6_reach 15 = .ok (.aload_n 0, 1) := by decide +kernel
theorem dX6_reach_16 : decode cX6_reach 16 = .ok (.getfield 19, 3) := by decide +kernel
theorem dX6_reach_19 : decode cX6_reach 19 = .ok (.iload_n 1, 1) := by decide +kernel
theorem dX6_reach_20 : decode cX6_reach 20 = .ok (.aload_n 0, 1) := by decide +kernel
theorem dX6_reach_21 : decode cX6_reach 21 = .ok (.getfield 19, 3) := by decide +kernel
theorem dX6_reach_24 : decode cX6_reach 24 = .ok (.bipush 35, 2) := by decide +kernel
theorem dX6_reach_26 : decode cX6_reach 26 = .ok (.iaload, 1) := by decide +kernel
theorem dX6_reach_27 : decode cX6_reach 27 = .ok (.iload_n 2, 1) := by decide +kernel
theorem dX6_reach_28 : decode cX6_reach 28 = .ok (.iadd, 1) := by decide +kernel
theorem dX6_reach_29 : decode cX6_reach 29 = .ok (.invokestatic 162, 3) := by decide +kernel
theorem dX6_reach_32 : decode cX6_reach 32 = .ok (.goto 5, 3) := by decide +kernel
theorem dX6_reach_35 : decode cX6_reach 35 = .ok (.ldc 67, 2) := by decide +kernel
theorem dX6_reach_37 : decode cX6_reach 37 = .ok (.ireturn, 1) := by decide +kernel
theorem dX6_meet_0 : decode cX6_meet 0 = .ok (.aload_n 0, 1) := by decide +kernel
theorem dX6_meet_1 : decode cX6_meet 1 = .ok (.iload_n 1, 1) := by decide +kernel
theorem dX6_meet_2 : decode cX6_meet 2 = .ok (.invokevirtual 181, 3) := by decide +kernel
theorem dX6_meet_5 : decode cX6_meet 5 = .ok (.ifCond .eq 16, 3) := by decide +kernel
theorem dX6_meet_8 : decode cX6_meet 8 = .ok (.aload_n 0, 1) := by decide +kernel
theorem dX6_meet_9 : decode cX6_meet 9 = .ok (.iload_n 2, 1) := by decide +kernel
theorem dX6_meet_10 : decode cX6_meet 10 = .ok (.invokevirtual 181, 3) := by decide +kernel
theorem dX6_meet_13 : decode cX6_meet 13 = .ok (.ifCond .eq 8, 3) := by decide +kernel
theorem dX6_meet_16 : decode cX6_meet 16 = .ok (.iload_n 1, 1) := by decide +kernel
theorem dX6_meet_17 : decode cX6_meet 17 = .ok (.iload_n 2, 1) := by decide +kernel
theorem dX6_meet_18 : decode cX6_meet 18 = .ok (.if_icmp .ne 6, 3) := by decide +kernel
theorem dX6_meet_21 : decode cX6_meet 21 = .ok (.ldc 67, 2) := by decide +kernel
theorem dX6_meet_23 : decode cX6_meet 23 = .ok (.ireturn, 1) := by decide +kernel
theorem dX6_meet_24 : decode cX6_meet 24 = .ok (.iconst 0, 1) := by decide +kernel
theorem dX6_meet_25 : decode cX6_meet 25 = .ok (.istore_n 3, 1) := by decide +kernel
theorem dX6_meet_26 : decode cX6_meet 26 = .ok (.iload_n 3, 1) := by decide +kernel
theorem dX6_meet_27 : decode cX6_meet 27 = .ok (.bipush 61, 2) := by decide +kernel
theorem dX6_meet_29 : decode cX6_meet 29 = .ok (.if_icmp .ge 32, 3) := by decide +kernel
theorem dX6_meet_32 : decode cX6_meet 32 = .ok (.aload_n 0, 1) := by decide +kernel
theorem dX6_meet_33 : decode cX6_meet 33 = .ok (.getfield 19, 3) := by decide +kernel
theorem dX6_meet_36 : decode cX6_meet 36 = .ok (.iload_n 1, 1) := by decide +kernel
theorem dX6_meet_37 : decode cX6_meet 37 = .ok (.iload_n 2, 1) := by decide +kernel
theorem dX6_meet_38 : decode cX6_meet 38 = .ok (.aload_n 0, 1) := by decide +kernel
theorem dX6_meet_39 : decode cX6_meet 39 = .ok (.getfield 19, 3) := by decide +kernel
theorem dX6_meet_42 : decode cX6_meet 42 = .ok (.bipush 35, 2) := by decide +kernel
theorem dX6_meet_44 : decode cX6_meet 44 = .ok (.iaload, 1) := by decide +kernel
theorem dX6_meet_45 : decode cX6_meet 45 = .ok (.iload_n 3, 1) := by decide +kernel
theorem dX6_meet_46 : decode cX6_meet 46 = .ok (.iadd, 1) := by decide +kernel
theorem dX6_meet_47 : decode cX6_meet 47 = .ok (.invokestatic 158, 3) := by decide +kernel
theorem dX6_meet_50 : decode cX6_meet 50 = .ok (.ifCond .eq 5, 3) := by decide +kernel
theorem dX6_meet_53 : decode cX6_meet 53 = .ok (.iload_n 3, 1) := by decide +kernel
theorem dX6_meet_54 : decode cX6_meet 54 = .ok (.ireturn, 1) := by decide +kernel
theorem dX6_meet_55 : decode cX6_meet 55 = .ok (.iinc 3 1, 3) := by decide +kernel
theorem dX6_meet_58 : decode cX6_meet 58 = .ok (.goto (-32), 3) := by decide +kernel
theorem dX6_meet_61 : decode cX6_meet 61 = .ok (.ldc 194, 2) := by decide +kernel
theorem dX6_meet_63 : decode cX6_meet 63 = .ok (.ireturn, 1) := by decide +kernel
theorem dX6_told_0 : decode cX6_told 0 = .ok (.iload_n 0, 1) := by decide +kernel
theorem dX6_told_1 : decode cX6_told 1 = .ok (.ldc 165, 2) := by decide +kernel
theorem dX6_told_3 : decode cX6_told 3 = .ok (.if_icmp .lt 8, 3) := by decide +kernel
theorem dX6_told_6 : decode cX6_told 6 = .ok (.ldc 194, 2) := by decide +kernel
theorem dX6_told_8 : decode cX6_told 8 = .ok (.goto 4, 3) := by decide +kernel
theorem dX6_told_11 : decode cX6_told 11 = .ok (.iload_n 0, 1) := by decide +kernel
theorem dX6_told_12 : decode cX6_told 12 = .ok (.ireturn, 1) := by decide +kernel
theorem dX6_soonest_0 : decode cX6_soonest 0 = .ok (.aload_n 0, 1) := by decide +kernel
theorem dX6_soonest_1 : decode cX6_soonest 1 = .ok (.iload_n 1, 1) := by decide +kernel
theorem dX6_soonest_2 : decode cX6_soonest 2 = .ok (.invokevirtual 181, 3) := by decide +kernel
theorem dX6_soonest_5 : decode cX6_soonest 5 = .ok (.ifCond .eq 26, 3) := by decide +kernel
theorem dX6_soonest_8 : decode cX6_soonest 8 = .ok (.aload_n 0, 1) := by decide +kernel
theorem dX6_soonest_9 : decode cX6_soonest 9 = .ok (.iload_n 2, 1) := by decide +kernel
theorem dX6_soonest_10 : decode cX6_soonest 10 = .ok (.invokevirtual 181, 3) := by decide +kernel
theorem dX6_soonest_13 : decode cX6_soonest 13 = .ok (.ifCond .eq 18, 3) := by decide +kernel
theorem dX6_soonest_16 : decode cX6_soonest 16 = .ok (.aload_n 0, 1) := by decide +kernel
theorem dX6_soonest_17 : decode cX6_soonest 17 = .ok (.getfield 19, 3) := by decide +kernel
theorem dX6_soonest_20 : decode cX6_soonest 20 = .ok (.iload_n 1, 1) := by decide +kernel
theorem dX6_soonest_21 : decode cX6_soonest 21 = .ok (.iload_n 2, 1) := by decide +kernel
theorem dX6_soonest_22 : decode cX6_soonest 22 = .ok (.invokestatic 195, 3) := by decide +kernel
theorem dX6_soonest_25 : decode cX6_soonest 25 = .ok (.invokestatic 198, 3) := by decide +kernel
theorem dX6_soonest_28 : decode cX6_soonest 28 = .ok (.goto 5, 3) := by decide +kernel
theorem dX6_soonest_31 : decode cX6_soonest 31 = .ok (.ldc 67, 2) := by decide +kernel
theorem dX6_soonest_33 : decode cX6_soonest 33 = .ok (.ireturn, 1) := by decide +kernel
theorem dX6_hands_0 : decode cX6_hands 0 = .ok (.aload_n 0, 1) := by decide +kernel
theorem dX6_hands_1 : decode cX6_hands 1 = .ok (.iload_n 1, 1) := by decide +kernel
theorem dX6_hands_2 : decode cX6_hands 2 = .ok (.invokevirtual 181, 3) := by decide +kernel
theorem dX6_hands_5 : decode cX6_hands 5 = .ok (.ifCond .eq 11, 3) := by decide +kernel
theorem dX6_hands_8 : decode cX6_hands 8 = .ok (.aload_n 0, 1) := by decide +kernel
theorem dX6_hands_9 : decode cX6_hands 9 = .ok (.iload_n 2, 1) := by decide +kernel
theorem dX6_hands_10 : decode cX6_hands 10 = .ok (.invokevirtual 181, 3) := by decide +kernel
theorem dX6_hands_13 : decode cX6_hands 13 = .ok (.ifCond .ne 6, 3) := by decide +kernel
theorem dX6_hands_16 : decode cX6_hands 16 = .ok (.ldc 67, 2) := by decide +kernel
theorem dX6_hands_18 : decode cX6_hands 18 = .ok (.ireturn, 1) := by decide +kernel
theorem dX6_hands_19 : decode cX6_hands 19 = .ok (.iconst 0, 1) := by decide +kernel
theorem dX6_hands_20 : decode cX6_hands 20 = .ok (.istore_n 3, 1) := by decide +kernel
theorem dX6_hands_21 : decode cX6_hands 21 = .ok (.iload_n 3, 1) := by decide +kernel
theorem dX6_hands_22 : decode cX6_hands 22 = .ok (.bipush 6, 2) := by decide +kernel
theorem dX6_hands_24 : decode cX6_hands 24 = .ok (.if_icmp .ge 26, 3) := by decide +kernel
theorem dX6_hands_27 : decode cX6_hands 27 = .ok (.aload_n 0, 1) := by decide +kernel
theorem dX6_hands_28 : decode cX6_hands 28 = .ok (.getfield 44, 3) := by decide +kernel
theorem dX6_hands_31 : decode cX6_hands 31 = .ok (.iload_n 3, 1) := by decide +kernel
theorem dX6_hands_32 : decode cX6_hands 32 = .ok (.iload_n 3, 1) := by decide +kernel
theorem dX6_hands_33 : decode cX6_hands 33 = .ok (.iload_n 1, 1) := by decide +kernel
theorem dX6_hands_34 : decode cX6_hands 34 = .ok (.if_icmp .ne 7, 3) := by decide +kernel
theorem dX6_hands_37 : decode cX6_hands 37 = .ok (.iconst 0, 1) := by decide +kernel
theorem dX6_hands_38 : decode cX6_hands 38 = .ok (.goto 5, 3) := by decide +kernel
theorem dX6_hands_41 : decode cX6_hands 41 = .ok (.ldc 165, 2) := by decide +kernel
theorem dX6_hands_43 : decode cX6_hands 43 = .ok (.iastore, 1) := by decide +kernel
theorem dX6_hands_44 : decode cX6_hands 44 = .ok (.iinc 3 1, 3) := by decide +kernel
theorem dX6_hands_47 : decode cX6_hands 47 = .ok (.goto (-26), 3) := by decide +kernel
theorem dX6_hands_50 : decode cX6_hands 50 = .ok (.iconst 0, 1) := by decide +kernel
theorem dX6_hands_51 : decode cX6_hands 51 = .ok (.istore_n 3, 1) := by decide +kernel
theorem dX6_hands_52 : decode cX6_hands 52 = .ok (.iload_n 3, 1) := by decide +kernel
theorem dX6_hands_53 : decode cX6_hands 53 = .ok (.bipush 60, 2) := by decide +kernel
theorem dX6_hands_55 : decode cX6_hands 55 = .ok (.if_icmp .ge 177, 3) := by decide +kernel
theorem dX6_hands_58 : decode cX6_hands 58 = .ok (.iconst 0, 1) := by decide +kernel
theorem dX6_hands_59 : decode cX6_hands 59 = .ok (.istore 4, 2) := by decide +kernel
theorem dX6_hands_61 : decode cX6_hands 61 = .ok (.iload 4, 2) := by decide +kernel
theorem dX6_hands_63 : decode cX6_hands 63 = .ok (.aload_n 0, 1) := by decide +kernel
theorem dX6_hands_64 : decode cX6_hands 64 = .ok (.getfield 19, 3) := by decide +kernel
theorem dX6_hands_67 : decode cX6_hands 67 = .ok (.iconst 0, 1) := by decide +kernel
theorem dX6_hands_68 : decode cX6_hands 68 = .ok (.iaload, 1) := by decide +kernel
theorem dX6_hands_69 : decode cX6_hands 69 = .ok (.if_icmp .ge 123, 3) := by decide +kernel
theorem dX6_hands_72 : decode cX6_hands 72 = .ok (.aload_n 0, 1) := by decide +kernel
theorem dX6_hands_73 : decode cX6_hands 73 = .ok (.getfield 47, 3) := by decide +kernel
theorem dX6_hands_76 : decode cX6_hands 76 = .ok (.iload 4, 2) := by decide +kernel
theorem dX6_hands_78 : decode cX6_hands 78 = .ok (.aload_n 0, 1) := by decide +kernel
theorem dX6_hands_79 : decode cX6_hands 79 = .ok (.getfield 44, 3) := by decide +kernel
theorem dX6_hands_82 : decode cX6_hands 82 = .ok (.iload 4, 2) := by decide +kernel
theorem dX6_hands_84 : decode cX6_hands 84 = .ok (.iaload, 1) := by decide +kernel
theorem dX6_hands_85 : decode cX6_hands 85 = .ok (.iastore, 1) := by decide +kernel
theorem dX6_hands_86 : decode cX6_hands 86 = .ok (.iconst 0, 1) := by decide +kernel
theorem dX6_hands_87 : decode cX6_hands 87 = .ok (.istore 5, 2) := by decide +kernel
theorem dX6_hands_89 : decode cX6_hands 89 = .ok (.iload 5, 2) := by decide +kernel
theorem dX6_hands_91 : decode cX6_hands 91 = .ok (.aload_n 0, 1) := by decide +kernel
theorem dX6_hands_92 : decode cX6_hands 92 = .ok (.getfield 19, 3) := by decide +kernel
theorem dX6_hands_95 : decode cX6_hands 95 = .ok (.iconst 0, 1) := by decide +kernel
theorem dX6_hands_96 : decode cX6_hands 96 = .ok (.iaload, 1) := by decide +kernel
theorem dX6_hands_97 : decode cX6_hands 97 = .ok (.if_icmp .ge 89, 3) := by decide +kernel
theorem dX6_hands_100 : decode cX6_hands 100 = .ok (.aload_n 0, 1) := by decide +kernel
theorem dX6_hands_101 : decode cX6_hands 101 = .ok (.getfield 44, 3) := by decide +kernel
theorem dX6_hands_104 : decode cX6_hands 104 = .ok (.iload 5, 2) := by decide +kernel
theorem dX6_hands_106 : decode cX6_hands 106 = .ok (.iaload, 1) := by decide +kernel
theorem dX6_hands_107 : decode cX6_hands 107 = .ok (.iconst 1, 1) := by decide +kernel
theorem dX6_hands_108 : decode cX6_hands 108 = .ok (.iadd, 1) := by decide +kernel
theorem dX6_hands_109 : decode cX6_hands 109 = .ok (.aload_n 0, 1) := by decide +kernel
theorem dX6_hands_110 : decode cX6_hands 110 = .ok (.getfield 47, 3) := by decide +kernel
theorem dX6_hands_113 : decode cX6_hands 113 = .ok (.iload 4, 2) := by decide +kernel
theorem dX6_hands_115 : decode cX6_hands 115 = .ok (.iaload, 1) := by decide +kernel
theorem dX6_hands_116 : decode cX6_hands 116 = .ok (.if_icmp .ge 30, 3) := by decide +kernel
theorem dX6_hands_119 : decode cX6_hands 119 = .ok (.aload_n 0, 1) := by decide +kernel
theorem dX6_hands_120 : decode cX6_hands 120 = .ok (.getfield 19, 3) := by decide +kernel
theorem dX6_hands_123 : decode cX6_hands 123 = .ok (.iload 5, 2) := by decide +kernel
theorem dX6_hands_125 : decode cX6_hands 125 = .ok (.iload 4, 2) := by decide +kernel
theorem dX6_hands_127 : decode cX6_hands 127 = .ok (.aload_n 0, 1) := by decide +kernel
theorem dX6_hands_128 : decode cX6_hands 128 = .ok (.getfield 19, 3) := by decide +kernel
theorem dX6_hands_131 : decode cX6_hands 131 = .ok (.bipush 35, 2) := by decide +kernel
theorem dX6_hands_133 : decode cX6_hands 133 = .ok (.iaload, 1) := by decide +kernel
theorem dX6_hands_134 : decode cX6_hands 134 = .ok (.iload_n 3, 1) := by decide +kernel
theorem dX6_hands_135 : decode cX6_hands 135 = .ok (.iadd, 1) := by decide +kernel
theorem dX6_hands_136 : decode cX6_hands 136 = .ok (.invokestatic 158, 3) := by decide +kernel
theorem dX6_hands_139 : decode cX6_hands 139 = .ok (.ifCond .eq 7, 3) := by decide +kernel
theorem dX6_hands_142 : decode cX6_hands 142 = .ok (.iconst 1, 1) := by decide +kernel
theorem dX6_hands_143 : decode cX6_hands 143 = .ok (.goto 4, 3) := by decide +kernel
theorem dX6_hands_146 : decode cX6_hands 146 = .ok (.iconst 0, 1) := by decide +kernel
theorem dX6_hands_147 : decode cX6_hands 147 = .ok (.istore 6, 2) := by decide +kernel
theorem dX6_hands_149 : decode cX6_hands 149 = .ok (.aload_n 0, 1) := by decide +kernel
theorem dX6_hands_150 : decode cX6_hands 150 = .ok (.getfield 47, 3) := by decide +kernel
theorem dX6_hands_153 : decode cX6_hands 153 = .ok (.iload 4, 2) := by decide +kernel
theorem dX6_hands_155 : decode cX6_hands 155 = .ok (.iload 6, 2) := by decide +kernel
theorem dX6_hands_157 : decode cX6_hands 157 = .ok (.ifCond .eq 15, 3) := by decide +kernel
theorem dX6_hands_160 : decode cX6_hands 160 = .ok (.aload_n 0, 1) := by decide +kernel
theorem dX6_hands_161 : decode cX6_hands 161 = .ok (.getfield 44, 3) := by decide +kernel
theorem dX6_hands_164 : decode cX6_hands 164 = .ok (.iload 5, 2) := by decide +kernel
theorem dX6_hands_166 : decode cX6_hands 166 = .ok (.iaload, 1) := by decide +kernel
theorem dX6_hands_167 : decode cX6_hands 167 = .ok (.iconst 1, 1) := by decide +kernel
theorem dX6_hands_168 : decode cX6_hands 168 = .ok (.iadd, 1) := by decide +kernel
theorem dX6_hands_169 : decode cX6_hands 169 = .ok (.goto 10, 3) := by decide +kernel
theorem dX6_hands_172 : decode cX6_hands 172 = .ok (.aload_n 0, 1) := by decide +kernel
theorem dX6_hands_173 : decode cX6_hands 173 = .ok (.getfield 47, 3) := by decide +kernel
theorem dX6_hands_176 : decode cX6_hands 176 = .ok (.iload 4, 2) := by decide +kernel
theorem dX6_hands_178 : decode cX6_hands 178 = .ok (.iaload, 1) := by decide +kernel
theorem dX6_hands_179 : decode cX6_hands 179 = .ok (.iastore, 1) := by decide +kernel
theorem dX6_hands_180 : decode cX6_hands 180 = .ok (.iinc 5 1, 3) := by decide +kernel
theorem dX6_hands_183 : decode cX6_hands 183 = .ok (.goto (-94), 3) := by decide +kernel
theorem dX6_hands_186 : decode cX6_hands 186 = .ok (.iinc 4 1, 3) := by decide +kernel
theorem dX6_hands_189 : decode cX6_hands 189 = .ok (.goto (-128), 3) := by decide +kernel
theorem dX6_hands_192 : decode cX6_hands 192 = .ok (.iconst 0, 1) := by decide +kernel
theorem dX6_hands_193 : decode cX6_hands 193 = .ok (.istore 4, 2) := by decide +kernel
theorem dX6_hands_195 : decode cX6_hands 195 = .ok (.iload 4, 2) := by decide +kernel
theorem dX6_hands_197 : decode cX6_hands 197 = .ok (.aload_n 0, 1) := by decide +kernel
theorem dX6_hands_198 : decode cX6_hands 198 = .ok (.getfield 19, 3) := by decide +kernel
theorem dX6_hands_201 : decode cX6_hands 201 = .ok (.iconst 0, 1) := by decide +kernel
theorem dX6_hands_202 : decode cX6_hands 202 = .ok (.iaload, 1) := by decide +kernel
theorem dX6_hands_203 : decode cX6_hands 203 = .ok (.if_icmp .ge 23, 3) := by decide +kernel
theorem dX6_hands_206 : decode cX6_hands 206 = .ok (.aload_n 0, 1) := by decide +kernel
theorem dX6_hands_207 : decode cX6_hands 207 = .ok (.getfield 44, 3) := by decide +kernel
theorem dX6_hands_210 : decode cX6_hands 210 = .ok (.iload 4, 2) := by decide +kernel
theorem dX6_hands_212 : decode cX6_hands 212 = .ok (.aload_n 0, 1) := by decide +kernel
theorem dX6_hands_213 : decode cX6_hands 213 = .ok (.getfield 47, 3) := by decide +kernel
theorem dX6_hands_216 : decode cX6_hands 216 = .ok (.iload 4, 2) := by decide +kernel
theorem dX6_hands_218 : decode cX6_hands 218 = .ok (.iaload, 1) := by decide +kernel
theorem dX6_hands_219 : decode cX6_hands 219 = .ok (.iastore, 1) := by decide +kernel
theorem dX6_hands_220 : decode cX6_hands 220 = .ok (.iinc 4 1, 3) := by decide +kernel
theorem dX6_hands_223 : decode cX6_hands 223 = .ok (.goto (-28), 3) := by decide +kernel
theorem dX6_hands_226 : decode cX6_hands 226 = .ok (.iinc 3 1, 3) := by decide +kernel
theorem dX6_hands_229 : decode cX6_hands 229 = .ok (.goto (-177), 3) := by decide +kernel
theorem dX6_hands_232 : decode cX6_hands 232 = .ok (.aload_n 0, 1) := by decide +kernel
theorem dX6_hands_233 : decode cX6_hands 233 = .ok (.getfield 44, 3) := by decide +kernel
theorem dX6_hands_236 : decode cX6_hands 236 = .ok (.iload_n 2, 1) := by decide +kernel
theorem dX6_hands_237 : decode cX6_hands 237 = .ok (.iaload, 1) := by decide +kernel
theorem dX6_hands_238 : decode cX6_hands 238 = .ok (.invokestatic 198, 3) := by decide +kernel
theorem dX6_hands_241 : decode cX6_hands 241 = .ok (.ireturn, 1) := by decide +kernel
theorem dX6_everywhere_0 : decode cX6_everywhere 0 = .ok (.aload_n 0, 1) := by decide +kernel
theorem dX6_everywhere_1 : decode cX6_everywhere 1 = .ok (.iload_n 1, 1) := by decide +kernel
theorem dX6_everywhere_2 : decode cX6_everywhere 2 = .ok (.invokevirtual 181, 3) := by decide +kernel
theorem dX6_everywhere_5 : decode cX6_everywhere 5 = .ok (.ifCond .eq 22, 3) := by decide +kernel
theorem dX6_everywhere_8 : decode cX6_everywhere 8 = .ok (.iload_n 2, 1) := by decide +kernel
theorem dX6_everywhere_9 : decode cX6_everywhere 9 = .ok (.invokestatic 191, 3) := by decide +kernel
theorem dX6_everywhere_12 : decode cX6_everywhere 12 = .ok (.ifCond .eq 15, 3) := by decide +kernel
theorem dX6_everywhere_15 : decode cX6_everywhere 15 = .ok (.aload_n 0, 1) := by decide +kernel
theorem dX6_everywhere_16 : decode cX6_everywhere 16 = .ok (.getfield 19, 3) := by decide +kernel
theorem dX6_everywhere_19 : decode cX6_everywhere 19 = .ok (.iload_n 1, 1) := by decide +kernel
theorem dX6_everywhere_20 : decode cX6_everywhere 20 = .ok (.iload_n 2, 1) := by decide +kernel
theorem dX6_everywhere_21 : decode cX6_everywhere 21 = .ok (.invokestatic 201, 3) := by decide +kernel
theorem dX6_everywhere_24 : decode cX6_everywhere 24 = .ok (.goto 5, 3) := by decide +kernel
theorem dX6_everywhere_27 : decode cX6_everywhere 27 = .ok (.ldc 67, 2) := by decide +kernel
theorem dX6_everywhere_29 : decode cX6_everywhere 29 = .ok (.ireturn, 1) := by decide +kernel
theorem dX6_layAside_0 : decode cX6_layAside 0 = .ok (.aload_n 0, 1) := by decide +kernel
theorem dX6_layAside_1 : decode cX6_layAside 1 = .ok (.getfield 19, 3) := by decide +kernel
theorem dX6_layAside_4 : decode cX6_layAside 4 = .ok (.iconst 0, 1) := by decide +kernel
theorem dX6_layAside_5 : decode cX6_layAside 5 = .ok (.aload_n 0, 1) := by decide +kernel
theorem dX6_layAside_6 : decode cX6_layAside 6 = .ok (.getfield 25, 3) := by decide +kernel
theorem dX6_layAside_9 : decode cX6_layAside 9 = .ok (.iconst 0, 1) := by decide +kernel
theorem dX6_layAside_10 : decode cX6_layAside 10 = .ok (.invokestatic 132, 3) := by decide +kernel
theorem dX6_layAside_13 : decode cX6_layAside 13 = .ok (.return_, 1) := by decide +kernel
theorem dX6_stops_0 : decode cX6_stops 0 = .ok (.aload_n 0, 1) := by decide +kernel
theorem dX6_stops_1 : decode cX6_stops 1 = .ok (.iload_n 1, 1) := by decide +kernel
theorem dX6_stops_2 : decode cX6_stops 2 = .ok (.invokevirtual 181, 3) := by decide +kernel
theorem dX6_stops_5 : decode cX6_stops 5 = .ok (.ifCond .eq 23, 3) := by decide +kernel
theorem dX6_stops_8 : decode cX6_stops 8 = .ok (.aload_n 0, 1) := by decide +kernel
theorem dX6_stops_9 : decode cX6_stops 9 = .ok (.iload_n 2, 1) := by decide +kernel
theorem dX6_stops_10 : decode cX6_stops 10 = .ok (.invokevirtual 181, 3) := by decide +kernel
theorem dX6_stops_13 : decode cX6_stops 13 = .ok (.ifCond .eq 15, 3) := by decide +kernel
theorem dX6_stops_16 : decode cX6_stops 16 = .ok (.iload_n 1, 1) := by decide +kernel
theorem dX6_stops_17 : decode cX6_stops 17 = .ok (.iload_n 2, 1) := by decide +kernel
theorem dX6_stops_18 : decode cX6_stops 18 = .ok (.if_icmp .eq 10, 3) := by decide +kernel
theorem dX6_stops_21 : decode cX6_stops 21 = .ok (.iload_n 3, 1) := by decide +kernel
theorem dX6_stops_22 : decode cX6_stops 22 = .ok (.invokestatic 191, 3) := by decide +kernel
theorem dX6_stops_25 : decode cX6_stops 25 = .ok (.ifCond .ne 6, 3) := by decide +kernel
theorem dX6_stops_28 : decode cX6_stops 28 = .ok (.ldc 67, 2) := by decide +kernel
theorem dX6_stops_30 : decode cX6_stops 30 = .ok (.ireturn, 1) := by decide +kernel
theorem dX6_stops_31 : decode cX6_stops 31 = .ok (.iconst 0, 1) := by decide +kernel
theorem dX6_stops_32 : decode cX6_stops 32 = .ok (.istore 4, 2) := by decide +kernel
theorem dX6_stops_34 : decode cX6_stops 34 = .ok (.iconst 0, 1) := by decide +kernel
theorem dX6_stops_35 : decode cX6_stops 35 = .ok (.istore 5, 2) := by decide +kernel
theorem dX6_stops_37 : decode cX6_stops 37 = .ok (.iload 5, 2) := by decide +kernel
theorem dX6_stops_39 : decode cX6_stops 39 = .ok (.aload_n 0, 1) := by decide +kernel
theorem dX6_stops_40 : decode cX6_stops 40 = .ok (.getfield 19, 3) := by decide +kernel
theorem dX6_stops_43 : decode cX6_stops 43 = .ok (.iconst 0, 1) := by decide +kernel
theorem dX6_stops_44 : decode cX6_stops 44 = .ok (.iaload, 1) := by decide +kernel
theorem dX6_stops_45 : decode cX6_stops 45 = .ok (.if_icmp .ge 78, 3) := by decide +kernel
theorem dX6_stops_48 : decode cX6_stops 48 = .ok (.aload_n 0, 1) := by decide +kernel
theorem dX6_stops_49 : decode cX6_stops 49 = .ok (.getfield 19, 3) := by decide +kernel
theorem dX6_stops_52 : decode cX6_stops 52 = .ok (.iload_n 1, 1) := by decide +kernel
theorem dX6_stops_53 : decode cX6_stops 53 = .ok (.iload_n 2, 1) := by decide +kernel
theorem dX6_stops_54 : decode cX6_stops 54 = .ok (.invokestatic 195, 3) := by decide +kernel
theorem dX6_stops_57 : decode cX6_stops 57 = .ok (.iload_n 3, 1) := by decide +kernel
theorem dX6_stops_58 : decode cX6_stops 58 = .ok (.if_icmp .gt 65, 3) := by decide +kernel
theorem dX6_stops_61 : decode cX6_stops 61 = .ok (.aload_n 0, 1) := by decide +kernel
theorem dX6_stops_62 : decode cX6_stops 62 = .ok (.invokevirtual 204, 3) := by decide +kernel
theorem dX6_stops_65 : decode cX6_stops 65 = .ok (.aload_n 0, 1) := by decide +kernel
theorem dX6_stops_66 : decode cX6_stops 66 = .ok (.getfield 25, 3) := by decide +kernel
theorem dX6_stops_69 : decode cX6_stops 69 = .ok (.bipush 34, 2) := by decide +kernel
theorem dX6_stops_71 : decode cX6_stops 71 = .ok (.dup2, 1) := by decide +kernel
theorem dX6_stops_72 : decode cX6_stops 72 = .ok (.iaload, 1) := by decide +kernel
theorem dX6_stops_73 : decode cX6_stops 73 = .ok (.iconst 1, 1) := by decide +kernel
theorem dX6_stops_74 : decode cX6_stops 74 = .ok (.iload 5, 2) := by decide +kernel
theorem dX6_stops_76 : decode cX6_stops 76 = .ok (.ishl, 1) := by decide +kernel
theorem dX6_stops_77 : decode cX6_stops 77 = .ok (.ior, 1) := by decide +kernel
theorem dX6_stops_78 : decode cX6_stops 78 = .ok (.iastore, 1) := by decide +kernel
theorem dX6_stops_79 : decode cX6_stops 79 = .ok (.iload 4, 2) := by decide +kernel
theorem dX6_stops_81 : decode cX6_stops 81 = .ok (.iload 5, 2) := by decide +kernel
theorem dX6_stops_83 : decode cX6_stops 83 = .ok (.iload_n 1, 1) := by decide +kernel
theorem dX6_stops_84 : decode cX6_stops 84 = .ok (.if_icmp .eq 29, 3) := by decide +kernel
theorem dX6_stops_87 : decode cX6_stops 87 = .ok (.iload 5, 2) := by decide +kernel
theorem dX6_stops_89 : decode cX6_stops 89 = .ok (.iload_n 2, 1) := by decide +kernel
theorem dX6_stops_90 : decode cX6_stops 90 = .ok (.if_icmp .eq 23, 3) := by decide +kernel
theorem dX6_stops_93 : decode cX6_stops 93 = .ok (.aload_n 0, 1) := by decide +kernel
theorem dX6_stops_94 : decode cX6_stops 94 = .ok (.getfield 25, 3) := by decide +kernel
theorem dX6_stops_97 : decode cX6_stops 97 = .ok (.iload_n 1, 1) := by decide +kernel
theorem dX6_stops_98 : decode cX6_stops 98 = .ok (.iload_n 2, 1) := by decide +kernel
theorem dX6_stops_99 : decode cX6_stops 99 = .ok (.invokestatic 195, 3) := by decide +kernel
theorem dX6_stops_102 : decode cX6_stops 102 = .ok (.iload_n 3, 1) := by decide +kernel
theorem dX6_stops_103 : decode cX6_stops 103 = .ok (.if_icmp .le 10, 3) := by decide +kernel
theorem dX6_stops_106 : decode cX6_stops 106 = .ok (.iconst 1, 1) := by decide +kernel
theorem dX6_stops_107 : decode cX6_stops 107 = .ok (.iload 5, 2) := by decide +kernel
theorem dX6_stops_109 : decode cX6_stops 109 = .ok (.ishl, 1) := by decide +kernel
theorem dX6_stops_110 : decode cX6_stops 110 = .ok (.goto 4, 3) := by decide +kernel
theorem dX6_stops_113 : decode cX6_stops 113 = .ok (.iconst 0, 1) := by decide +kernel
theorem dX6_stops_114 : decode cX6_stops 114 = .ok (.ior, 1) := by decide +kernel
theorem dX6_stops_115 : decode cX6_stops 115 = .ok (.istore 4, 2) := by decide +kernel
theorem dX6_stops_117 : decode cX6_stops 117 = .ok (.iinc 5 1, 3) := by decide +kernel
theorem dX6_stops_120 : decode cX6_stops 120 = .ok (.goto (-83), 3) := by decide +kernel
theorem dX6_stops_123 : decode cX6_stops 123 = .ok (.iload 4, 2) := by decide +kernel
theorem dX6_stops_125 : decode cX6_stops 125 = .ok (.ireturn, 1) := by decide +kernel
theorem dX6_toSling_0 : decode cX6_toSling 0 = .ok (.aload_n 0, 1) := by decide +kernel
theorem dX6_toSling_1 : decode cX6_toSling 1 = .ok (.iload_n 1, 1) := by decide +kernel
theorem dX6_toSling_2 : decode cX6_toSling 2 = .ok (.invokevirtual 181, 3) := by decide +kernel
theorem dX6_toSling_5 : decode cX6_toSling 5 = .ok (.ifCond .eq 23, 3) := by decide +kernel
theorem dX6_toSling_8 : decode cX6_toSling 8 = .ok (.aload_n 0, 1) := by decide +kernel
theorem dX6_toSling_9 : decode cX6_toSling 9 = .ok (.iload_n 2, 1) := by decide +kernel
theorem dX6_toSling_10 : decode cX6_toSling 10 = .ok (.invokevirtual 181, 3) := by decide +kernel
theorem dX6_toSling_13 : decode cX6_toSling 13 = .ok (.ifCond .eq 15, 3) := by decide +kernel
theorem dX6_toSling_16 : decode cX6_toSling 16 = .ok (.aload_n 0, 1) := by decide +kernel
theorem dX6_toSling_17 : decode cX6_toSling 17 = .ok (.iload_n 3, 1) := by decide +kernel
theorem dX6_toSling_18 : decode cX6_toSling 18 = .ok (.invokevirtual 181, 3) := by decide +kernel
theorem dX6_toSling_21 : decode cX6_toSling 21 = .ok (.ifCond .eq 7, 3) := by decide +kernel
theorem dX6_toSling_24 : decode cX6_toSling 24 = .ok (.iconst 1, 1) := by decide +kernel
theorem dX6_toSling_25 : decode cX6_toSling 25 = .ok (.goto 4, 3) := by decide +kernel
theorem dX6_toSling_28 : decode cX6_toSling 28 = .ok (.iconst 0, 1) := by decide +kernel
theorem dX6_toSling_29 : decode cX6_toSling 29 = .ok (.istore 5, 2) := by decide +kernel
theorem dX6_toSling_31 : decode cX6_toSling 31 = .ok (.iload 5, 2) := by decide +kernel
theorem dX6_toSling_33 : decode cX6_toSling 33 = .ok (.ifCond .eq 26, 3) := by decide +kernel
theorem dX6_toSling_36 : decode cX6_toSling 36 = .ok (.iload_n 2, 1) := by decide +kernel
theorem dX6_toSling_37 : decode cX6_toSling 37 = .ok (.iload_n 3, 1) := by decide +kernel
theorem dX6_toSling_38 : decode cX6_toSling 38 = .ok (.if_icmp .eq 21, 3) := by decide +kernel
theorem dX6_toSling_41 : decode cX6_toSling 41 = .ok (.iload_n 2, 1) := by decide +kernel
theorem dX6_toSling_42 : decode cX6_toSling 42 = .ok (.iload_n 1, 1) := by decide +kernel
theorem dX6_toSling_43 : decode cX6_toSling 43 = .ok (.if_icmp .eq 16, 3) := by decide +kernel
theorem dX6_toSling_46 : decode cX6_toSling 46 = .ok (.iload_n 3, 1) := by decide +kernel
theorem dX6_toSling_47 : decode cX6_toSling 47 = .ok (.iload_n 1, 1) := by decide +kernel
theorem dX6_toSling_48 : decode cX6_toSling 48 = .ok (.if_icmp .eq 11, 3) := by decide +kernel
theorem dX6_toSling_51 : decode cX6_toSling 51 = .ok (.iload 4, 2) := by decide +kernel
theorem dX6_toSling_53 : decode cX6_toSling 53 = .ok (.invokestatic 188, 3) := by decide +kernel
theorem dX6_toSling_56 : decode cX6_toSling 56 = .ok (.ifCond .ne 6, 3) := by decide +kernel
theorem dX6_toSling_59 : decode cX6_toSling 59 = .ok (.ldc 67, 2) := by decide +kernel
theorem dX6_toSling_61 : decode cX6_toSling 61 = .ok (.ireturn, 1) := by decide +kernel
theorem dX6_toSling_62 : decode cX6_toSling 62 = .ok (.aload_n 0, 1) := by decide +kernel
theorem dX6_toSling_63 : decode cX6_toSling 63 = .ok (.getfield 19, 3) := by decide +kernel
theorem dX6_toSling_66 : decode cX6_toSling 66 = .ok (.iload_n 2, 1) := by decide +kernel
theorem dX6_toSling_67 : decode cX6_toSling 67 = .ok (.iload_n 3, 1) := by decide +kernel
theorem dX6_toSling_68 : decode cX6_toSling 68 = .ok (.invokestatic 195, 3) := by decide +kernel
theorem dX6_toSling_71 : decode cX6_toSling 71 = .ok (.istore 6, 2) := by decide +kernel
theorem dX6_toSling_73 : decode cX6_toSling 73 = .ok (.bipush 12, 2) := by decide +kernel
theorem dX6_toSling_75 : decode cX6_toSling 75 = .ok (.aload_n 0, 1) := by decide +kernel
theorem dX6_toSling_76 : decode cX6_toSling 76 = .ok (.getfield 19, 3) := by decide +kernel
theorem dX6_toSling_79 : decode cX6_toSling 79 = .ok (.bipush 10, 2) := by decide +kernel
theorem dX6_toSling_81 : decode cX6_toSling 81 = .ok (.iload_n 1, 1) := by decide +kernel
theorem dX6_toSling_82 : decode cX6_toSling 82 = .ok (.iadd, 1) := by decide +kernel
theorem dX6_toSling_83 : decode cX6_toSling 83 = .ok (.iaload, 1) := by decide +kernel
theorem dX6_toSling_84 : decode cX6_toSling 84 = .ok (.imul, 1) := by decide +kernel
theorem dX6_toSling_85 : decode cX6_toSling 85 = .ok (.aload_n 0, 1) := by decide +kernel
theorem dX6_toSling_86 : decode cX6_toSling 86 = .ok (.getfield 19, 3) := by decide +kernel
theorem dX6_toSling_89 : decode cX6_toSling 89 = .ok (.bipush 16, 2) := by decide +kernel
theorem dX6_toSling_91 : decode cX6_toSling 91 = .ok (.iload_n 1, 1) := by decide +kernel
theorem dX6_toSling_92 : decode cX6_toSling 92 = .ok (.iadd, 1) := by decide +kernel
theorem dX6_toSling_93 : decode cX6_toSling 93 = .ok (.iaload, 1) := by decide +kernel
theorem dX6_toSling_94 : decode cX6_toSling 94 = .ok (.iadd, 1) := by decide +kernel
theorem dX6_toSling_95 : decode cX6_toSling 95 = .ok (.istore 7, 2) := by decide +kernel
theorem dX6_toSling_97 : decode cX6_toSling 97 = .ok (.iconst 0, 1) := by decide +kernel
theorem dX6_toSling_98 : decode cX6_toSling 98 = .ok (.istore 8, 2) := by decide +kernel
theorem dX6_toSling_100 : decode cX6_toSling 100 = .ok (.iload 8, 2) := by decide +kernel
theorem dX6_toSling_102 : decode cX6_toSling 102 = .ok (.sipush 144, 3) := by decide +kernel
theorem dX6_toSling_105 : decode cX6_toSling 105 = .ok (.if_icmp .ge 102, 3) := by decide +kernel
theorem dX6_toSling_108 : decode cX6_toSling 108 = .ok (.aload_n 0, 1) := by decide +kernel
theorem dX6_toSling_109 : decode cX6_toSling 109 = .ok (.invokevirtual 204, 3) := by decide +kernel
theorem dX6_toSling_112 : decode cX6_toSling 112 = .ok (.aload_n 0, 1) := by decide +kernel
theorem dX6_toSling_113 : decode cX6_toSling 113 = .ok (.getfield 25, 3) := by decide +kernel
theorem dX6_toSling_116 : decode cX6_toSling 116 = .ok (.bipush 10, 2) := by decide +kernel
theorem dX6_toSling_118 : decode cX6_toSling 118 = .ok (.iload_n 1, 1) := by decide +kernel
theorem dX6_toSling_119 : decode cX6_toSling 119 = .ok (.iadd, 1) := by decide +kernel
theorem dX6_toSling_120 : decode cX6_toSling 120 = .ok (.iload 8, 2) := by decide +kernel
theorem dX6_toSling_122 : decode cX6_toSling 122 = .ok (.bipush 12, 2) := by decide +kernel
theorem dX6_toSling_124 : decode cX6_toSling 124 = .ok (.idiv, 1) := by decide +kernel
theorem dX6_toSling_125 : decode cX6_toSling 125 = .ok (.iastore, 1) := by decide +kernel
theorem dX6_toSling_126 : decode cX6_toSling 126 = .ok (.aload_n 0, 1) := by decide +kernel
theorem dX6_toSling_127 : decode cX6_toSling 127 = .ok (.getfield 25, 3) := by decide +kernel
theorem dX6_toSling_130 : decode cX6_toSling 130 = .ok (.bipush 16, 2) := by decide +kernel
theorem dX6_toSling_132 : decode cX6_toSling 132 = .ok (.iload_n 1, 1) := by decide +kernel
theorem dX6_toSling_133 : decode cX6_toSling 133 = .ok (.iadd, 1) := by decide +kernel
theorem dX6_toSling_134 : decode cX6_toSling 134 = .ok (.iload 8, 2) := by decide +kernel
theorem dX6_toSling_136 : decode cX6_toSling 136 = .ok (.bipush 12, 2) := by decide +kernel
theorem dX6_toSling_138 : decode cX6_toSling 138 = .ok (.irem, 1) := by decide +kernel
theorem dX6_toSling_139 : decode cX6_toSling 139 = .ok (.iastore, 1) := by decide +kernel
theorem dX6_toSling_140 : decode cX6_toSling 140 = .ok (.iload 8, 2) := by decide +kernel
theorem dX6_toSling_142 : decode cX6_toSling 142 = .ok (.bipush 12, 2) := by decide +kernel
theorem dX6_toSling_144 : decode cX6_toSling 144 = .ok (.idiv, 1) := by decide +kernel
theorem dX6_toSling_145 : decode cX6_toSling 145 = .ok (.iload 8, 2) := by decide +kernel
theorem dX6_toSling_147 : decode cX6_toSling 147 = .ok (.bipush 12, 2) := by decide +kernel
theorem dX6_toSling_149 : decode cX6_toSling 149 = .ok (.irem, 1) := by decide +kernel
theorem dX6_toSling_150 : decode cX6_toSling 150 = .ok (.if_icmp .ge 15, 3) := by decide +kernel
theorem dX6_toSling_153 : decode cX6_toSling 153 = .ok (.aload_n 0, 1) := by decide +kernel
theorem dX6_toSling_154 : decode cX6_toSling 154 = .ok (.getfield 25, 3) := by decide +kernel
theorem dX6_toSling_157 : decode cX6_toSling 157 = .ok (.iload_n 2, 1) := by decide +kernel
theorem dX6_toSling_158 : decode cX6_toSling 158 = .ok (.iload_n 3, 1) := by decide +kernel
theorem dX6_toSling_159 : decode cX6_toSling 159 = .ok (.invokestatic 195, 3) := by decide +kernel
theorem dX6_toSling_162 : decode cX6_toSling 162 = .ok (.goto 5, 3) := by decide +kernel
theorem dX6_toSling_165 : decode cX6_toSling 165 = .ok (.ldc 165, 2) := by decide +kernel
theorem dX6_toSling_167 : decode cX6_toSling 167 = .ok (.istore 9, 2) := by decide +kernel
theorem dX6_toSling_169 : decode cX6_toSling 169 = .ok (.iload 9, 2) := by decide +kernel
theorem dX6_toSling_171 : decode cX6_toSling 171 = .ok (.iload 6, 2) := by decide +kernel
theorem dX6_toSling_173 : decode cX6_toSling 173 = .ok (.if_icmp .ge 8, 3) := by decide +kernel
theorem dX6_toSling_176 : decode cX6_toSling 176 = .ok (.iload 8, 2) := by decide +kernel
theorem dX6_toSling_178 : decode cX6_toSling 178 = .ok (.goto 5, 3) := by decide +kernel
theorem dX6_toSling_181 : decode cX6_toSling 181 = .ok (.iload 7, 2) := by decide +kernel
theorem dX6_toSling_183 : decode cX6_toSling 183 = .ok (.istore 7, 2) := by decide +kernel
theorem dX6_toSling_185 : decode cX6_toSling 185 = .ok (.iload 9, 2) := by decide +kernel
theorem dX6_toSling_187 : decode cX6_toSling 187 = .ok (.iload 6, 2) := by decide +kernel
theorem dX6_toSling_189 : decode cX6_toSling 189 = .ok (.if_icmp .ge 8, 3) := by decide +kernel
theorem dX6_toSling_192 : decode cX6_toSling 192 = .ok (.iload 9, 2) := by decide +kernel
theorem dX6_toSling_194 : decode cX6_toSling 194 = .ok (.goto 5, 3) := by decide +kernel
theorem dX6_toSling_197 : decode cX6_toSling 197 = .ok (.iload 6, 2) := by decide +kernel
theorem dX6_toSling_199 : decode cX6_toSling 199 = .ok (.istore 6, 2) := by decide +kernel
theorem dX6_toSling_201 : decode cX6_toSling 201 = .ok (.iinc 8 1, 3) := by decide +kernel
theorem dX6_toSling_204 : decode cX6_toSling 204 = .ok (.goto (-104), 3) := by decide +kernel
theorem dX6_toSling_207 : decode cX6_toSling 207 = .ok (.iload 6, 2) := by decide +kernel
theorem dX6_toSling_209 : decode cX6_toSling 209 = .ok (.ldc 165, 2) := by decide +kernel
theorem dX6_toSling_211 : decode cX6_toSling 211 = .ok (.if_icmp .ne 8, 3) := by decide +kernel
theorem dX6_toSling_214 : decode cX6_toSling 214 = .ok (.ldc 194, 2) := by decide +kernel
theorem dX6_toSling_216 : decode cX6_toSling 216 = .ok (.goto 15, 3) := by decide +kernel
theorem dX6_toSling_219 : decode cX6_toSling 219 = .ok (.iload 4, 2) := by decide +kernel
theorem dX6_toSling_221 : decode cX6_toSling 221 = .ok (.ifCond .ne 8, 3) := by decide +kernel
theorem dX6_toSling_224 : decode cX6_toSling 224 = .ok (.iload 7, 2) := by decide +kernel
theorem dX6_toSling_226 : decode cX6_toSling 226 = .ok (.goto 5, 3) := by decide +kernel
theorem dX6_toSling_229 : decode cX6_toSling 229 = .ok (.iload 6, 2) := by decide +kernel
theorem dX6_toSling_231 : decode cX6_toSling 231 = .ok (.ireturn, 1) := by decide +kernel
theorem dX6_fits_0 : decode cX6_fits 0 = .ok (.aload_n 0, 1) := by decide +kernel
theorem dX6_fits_1 : decode cX6_fits 1 = .ok (.iload_n 1, 1) := by decide +kernel
theorem dX6_fits_2 : decode cX6_fits 2 = .ok (.invokevirtual 181, 3) := by decide +kernel
theorem dX6_fits_5 : decode cX6_fits 5 = .ok (.ifCond .eq 36, 3) := by decide +kernel
theorem dX6_fits_8 : decode cX6_fits 8 = .ok (.iload_n 2, 1) := by decide +kernel
theorem dX6_fits_9 : decode cX6_fits 9 = .ok (.invokestatic 61, 3) := by decide +kernel
theorem dX6_fits_12 : decode cX6_fits 12 = .ok (.ifCond .eq 29, 3) := by decide +kernel
theorem dX6_fits_15 : decode cX6_fits 15 = .ok (.iload 4, 2) := by decide +kernel
theorem dX6_fits_17 : decode cX6_fits 17 = .ok (.i2l, 1) := by decide +kernel
theorem dX6_fits_18 : decode cX6_fits 18 = .ok (.lconst 1, 1) := by decide +kernel
theorem dX6_fits_19 : decode cX6_fits 19 = .ok (.ldc2_w 207, 3) := by decide +kernel
theorem dX6_fits_22 : decode cX6_fits 22 = .ok (.invokestatic 57, 3) := by decide +kernel
theorem dX6_fits_25 : decode cX6_fits 25 = .ok (.ifCond .eq 16, 3) := by decide +kernel
theorem dX6_fits_28 : decode cX6_fits 28 = .ok (.iload 5, 2) := by decide +kernel
theorem dX6_fits_30 : decode cX6_fits 30 = .ok (.i2l, 1) := by decide +kernel
theorem dX6_fits_31 : decode cX6_fits 31 = .ok (.lconst 0, 1) := by decide +kernel
theorem dX6_fits_32 : decode cX6_fits 32 = .ok (.ldc2_w 65, 3) := by decide +kernel
theorem dX6_fits_35 : decode cX6_fits 35 = .ok (.invokestatic 57, 3) := by decide +kernel
theorem dX6_fits_38 : decode cX6_fits 38 = .ok (.ifCond .ne 6, 3) := by decide +kernel
theorem dX6_fits_41 : decode cX6_fits 41 = .ok (.ldc 67, 2) := by decide +kernel
theorem dX6_fits_43 : decode cX6_fits 43 = .ok (.ireturn, 1) := by decide +kernel
theorem dX6_fits_44 : decode cX6_fits 44 = .ok (.aload_n 0, 1) := by decide +kernel
theorem dX6_fits_45 : decode cX6_fits 45 = .ok (.getfield 13, 3) := by decide +kernel
theorem dX6_fits_48 : decode cX6_fits 48 = .ok (.iload_n 2, 1) := by decide +kernel
theorem dX6_fits_49 : decode cX6_fits 49 = .ok (.iaload, 1) := by decide +kernel
theorem dX6_fits_50 : decode cX6_fits 50 = .ok (.ifCond .ge 9, 3) := by decide +kernel
theorem dX6_fits_53 : decode cX6_fits 53 = .ok (.aload_n 0, 1) := by decide +kernel
theorem dX6_fits_54 : decode cX6_fits 54 = .ok (.iconst 1, 1) := by decide +kernel
theorem dX6_fits_55 : decode cX6_fits 55 = .ok (.invokevirtual 68, 3) := by decide +kernel
theorem dX6_fits_58 : decode cX6_fits 58 = .ok (.ireturn, 1) := by decide +kernel
theorem dX6_fits_59 : decode cX6_fits 59 = .ok (.iload_n 3, 1) := by decide +kernel
theorem dX6_fits_60 : decode cX6_fits 60 = .ok (.ifCond .lt 20, 3) := by decide +kernel
theorem dX6_fits_63 : decode cX6_fits 63 = .ok (.iload_n 3, 1) := by decide +kernel
theorem dX6_fits_64 : decode cX6_fits 64 = .ok (.i2l, 1) := by decide +kernel
theorem dX6_fits_65 : decode cX6_fits 65 = .ok (.iload 4, 2) := by decide +kernel
theorem dX6_fits_67 : decode cX6_fits 67 = .ok (.i2l, 1) := by decide +kernel
theorem dX6_fits_68 : decode cX6_fits 68 = .ok (.ladd, 1) := by decide +kernel
theorem dX6_fits_69 : decode cX6_fits 69 = .ok (.aload_n 0, 1) := by decide +kernel
theorem dX6_fits_70 : decode cX6_fits 70 = .ok (.getfield 13, 3) := by decide +kernel
theorem dX6_fits_73 : decode cX6_fits 73 = .ok (.iload_n 2, 1) := by decide +kernel
theorem dX6_fits_74 : decode cX6_fits 74 = .ok (.iaload, 1) := by decide +kernel
theorem dX6_fits_75 : decode cX6_fits 75 = .ok (.i2l, 1) := by decide +kernel
theorem dX6_fits_76 : decode cX6_fits 76 = .ok (.lcmp, 1) := by decide +kernel
theorem dX6_fits_77 : decode cX6_fits 77 = .ok (.ifCond .le 9, 3) := by decide +kernel
theorem dX6_fits_80 : decode cX6_fits 80 = .ok (.aload_n 0, 1) := by decide +kernel
theorem dX6_fits_81 : decode cX6_fits 81 = .ok (.iconst 2, 1) := by decide +kernel
theorem dX6_fits_82 : decode cX6_fits 82 = .ok (.invokevirtual 68, 3) := by decide +kernel
theorem dX6_fits_85 : decode cX6_fits 85 = .ok (.ireturn, 1) := by decide +kernel
theorem dX6_fits_86 : decode cX6_fits 86 = .ok (.iconst 0, 1) := by decide +kernel
theorem dX6_fits_87 : decode cX6_fits 87 = .ok (.istore 6, 2) := by decide +kernel
theorem dX6_fits_89 : decode cX6_fits 89 = .ok (.iload 5, 2) := by decide +kernel
theorem dX6_fits_91 : decode cX6_fits 91 = .ok (.iconst 1, 1) := by decide +kernel
theorem dX6_fits_92 : decode cX6_fits 92 = .ok (.if_icmp .ne 7, 3) := by decide +kernel
theorem dX6_fits_95 : decode cX6_fits 95 = .ok (.iconst 0, 1) := by decide +kernel
theorem dX6_fits_96 : decode cX6_fits 96 = .ok (.goto 4, 3) := by decide +kernel
theorem dX6_fits_99 : decode cX6_fits 99 = .ok (.iconst 1, 1) := by decide +kernel
theorem dX6_fits_100 : decode cX6_fits 100 = .ok (.istore 7, 2) := by decide +kernel
theorem dX6_fits_102 : decode cX6_fits 102 = .ok (.iload 5, 2) := by decide +kernel
theorem dX6_fits_104 : decode cX6_fits 104 = .ok (.ifCond .ne 7, 3) := by decide +kernel
theorem dX6_fits_107 : decode cX6_fits 107 = .ok (.iconst 5, 1) := by decide +kernel
theorem dX6_fits_108 : decode cX6_fits 108 = .ok (.goto 15, 3) := by decide +kernel
theorem dX6_fits_111 : decode cX6_fits 111 = .ok (.iload 5, 2) := by decide +kernel
theorem dX6_fits_113 : decode cX6_fits 113 = .ok (.iconst 1, 1) := by decide +kernel
theorem dX6_fits_114 : decode cX6_fits 114 = .ok (.if_icmp .ne 7, 3) := by decide +kernel
theorem dX6_fits_117 : decode cX6_fits 117 = .ok (.iconst 5, 1) := by decide +kernel
theorem dX6_fits_118 : decode cX6_fits 118 = .ok (.goto 5, 3) := by decide +kernel
theorem dX6_fits_121 : decode cX6_fits 121 = .ok (.bipush 20, 2) := by decide +kernel
theorem dX6_fits_123 : decode cX6_fits 123 = .ok (.istore 8, 2) := by decide +kernel
theorem dX6_fits_125 : decode cX6_fits 125 = .ok (.iload 5, 2) := by decide +kernel
theorem dX6_fits_127 : decode cX6_fits 127 = .ok (.ifCond .ne 7, 3) := by decide +kernel
theorem dX6_fits_130 : decode cX6_fits 130 = .ok (.iconst 4, 1) := by decide +kernel
theorem dX6_fits_131 : decode cX6_fits 131 = .ok (.goto 16, 3) := by decide +kernel
theorem dX6_fits_134 : decode cX6_fits 134 = .ok (.iload 5, 2) := by decide +kernel
theorem dX6_fits_136 : decode cX6_fits 136 = .ok (.iconst 1, 1) := by decide +kernel
theorem dX6_fits_137 : decode cX6_fits 137 = .ok (.if_icmp .ne 8, 3) := by decide +kernel
theorem dX6_fits_140 : decode cX6_fits 140 = .ok (.bipush 28, 2) := by decide +kernel
theorem dX6_fits_142 : decode cX6_fits 142 = .ok (.goto 5, 3) := by decide +kernel
theorem dX6_fits_145 : decode cX6_fits 145 = .ok (.bipush 22, 2) := by decide +kernel
theorem dX6_fits_147 : decode cX6_fits 147 = .ok (.istore 9, 2) := by decide +kernel
theorem dX6_fits_149 : decode cX6_fits 149 = .ok (.iload 7, 2) := by decide +kernel
theorem dX6_fits_151 : decode cX6_fits 151 = .ok (.istore 10, 2) := by decide +kernel
theorem dX6_fits_153 : decode cX6_fits 153 = .ok (.iload 10, 2) := by decide +kernel
theorem dX6_fits_155 : decode cX6_fits 155 = .ok (.iload 8, 2) := by decide +kernel
theorem dX6_fits_157 : decode cX6_fits 157 = .ok (.if_icmp .gt 131, 3) := by decide +kernel
theorem dX6_fits_160 : decode cX6_fits 160 = .ok (.aload_n 0, 1) := by decide +kernel
theorem dX6_fits_161 : decode cX6_fits 161 = .ok (.invokevirtual 204, 3) := by decide +kernel
theorem dX6_fits_164 : decode cX6_fits 164 = .ok (.aload_n 0, 1) := by decide +kernel
theorem dX6_fits_165 : decode cX6_fits 165 = .ok (.getfield 25, 3) := by decide +kernel
theorem dX6_fits_168 : decode cX6_fits 168 = .ok (.iload 9, 2) := by decide +kernel
theorem dX6_fits_170 : decode cX6_fits 170 = .ok (.iload_n 1, 1) := by decide +kernel
theorem dX6_fits_171 : decode cX6_fits 171 = .ok (.iadd, 1) := by decide +kernel
theorem dX6_fits_172 : decode cX6_fits 172 = .ok (.iload 10, 2) := by decide +kernel
theorem dX6_fits_174 : decode cX6_fits 174 = .ok (.iastore, 1) := by decide +kernel
theorem dX6_fits_175 : decode cX6_fits 175 = .ok (.iconst 1, 1) := by decide +kernel
theorem dX6_fits_176 : decode cX6_fits 176 = .ok (.istore 11, 2) := by decide +kernel
theorem dX6_fits_178 : decode cX6_fits 178 = .ok (.iconst 0, 1) := by decide +kernel
theorem dX6_fits_179 : decode cX6_fits 179 = .ok (.istore 12, 2) := by decide +kernel
theorem dX6_fits_181 : decode cX6_fits 181 = .ok (.iload 12, 2) := by decide +kernel
theorem dX6_fits_183 : decode cX6_fits 183 = .ok (.iload 4, 2) := by decide +kernel
theorem dX6_fits_185 : decode cX6_fits 185 = .ok (.if_icmp .ge 79, 3) := by decide +kernel
theorem dX6_fits_188 : decode cX6_fits 188 = .ok (.aload_n 0, 1) := by decide +kernel
theorem dX6_fits_189 : decode cX6_fits 189 = .ok (.getfield 19, 3) := by decide +kernel
theorem dX6_fits_192 : decode cX6_fits 192 = .ok (.bipush 35, 2) := by decide +kernel
theorem dX6_fits_194 : decode cX6_fits 194 = .ok (.iaload, 1) := by decide +kernel
theorem dX6_fits_195 : decode cX6_fits 195 = .ok (.iload 12, 2) := by decide +kernel
theorem dX6_fits_197 : decode cX6_fits 197 = .ok (.iadd, 1) := by decide +kernel
theorem dX6_fits_198 : decode cX6_fits 198 = .ok (.istore 13, 2) := by decide +kernel
theorem dX6_fits_200 : decode cX6_fits 200 = .ok (.iload 11, 2) := by decide +kernel
theorem dX6_fits_202 : decode cX6_fits 202 = .ok (.ifCond .eq 53, 3) := by decide +kernel
theorem dX6_fits_205 : decode cX6_fits 205 = .ok (.aload_n 0, 1) := by decide +kernel
theorem dX6_fits_206 : decode cX6_fits 206 = .ok (.getfield 16, 3) := by decide +kernel
theorem dX6_fits_209 : decode cX6_fits 209 = .ok (.bipush 40, 2) := by decide +kernel
theorem dX6_fits_211 : decode cX6_fits 211 = .ok (.iload_n 2, 1) := by decide +kernel
theorem dX6_fits_212 : decode cX6_fits 212 = .ok (.imul, 1) := by decide +kernel
theorem dX6_fits_213 : decode cX6_fits 213 = .ok (.iload_n 3, 1) := by decide +kernel
theorem dX6_fits_214 : decode cX6_fits 214 = .ok (.iadd, 1) := by decide +kernel
theorem dX6_fits_215 : decode cX6_fits 215 = .ok (.iload 12, 2) := by decide +kernel
theorem dX6_fits_217 : decode cX6_fits 217 = .ok (.iadd, 1) := by decide +kernel
theorem dX6_fits_218 : decode cX6_fits 218 = .ok (.iaload, 1) := by decide +kernel
theorem dX6_fits_219 : decode cX6_fits 219 = .ok (.iload 5, 2) := by decide +kernel
theorem dX6_fits_221 : decode cX6_fits 221 = .ok (.iconst 2, 1) := by decide +kernel
theorem dX6_fits_222 : decode cX6_fits 222 = .ok (.if_icmp .ne 16, 3) := by decide +kernel
theorem dX6_fits_225 : decode cX6_fits 225 = .ok (.aload_n 0, 1) := by decide +kernel
theorem dX6_fits_226 : decode cX6_fits 226 = .ok (.getfield 25, 3) := by decide +kernel
theorem dX6_fits_229 : decode cX6_fits 229 = .ok (.iload_n 1, 1) := by decide +kernel
theorem dX6_fits_230 : decode cX6_fits 230 = .ok (.iload 13, 2) := by decide +kernel
theorem dX6_fits_232 : decode cX6_fits 232 = .ok (.invokestatic 162, 3) := by decide +kernel
theorem dX6_fits_235 : decode cX6_fits 235 = .ok (.goto 13, 3) := by decide +kernel
theorem dX6_fits_238 : decode cX6_fits 238 = .ok (.aload_n 0, 1) := by decide +kernel
theorem dX6_fits_239 : decode cX6_fits 239 = .ok (.getfield 25, 3) := by decide +kernel
theorem dX6_fits_242 : decode cX6_fits 242 = .ok (.iload_n 1, 1) := by decide +kernel
theorem dX6_fits_243 : decode cX6_fits 243 = .ok (.iload 13, 2) := by decide +kernel
theorem dX6_fits_245 : decode cX6_fits 245 = .ok (.invokestatic 155, 3) := by decide +kernel
theorem dX6_fits_248 : decode cX6_fits 248 = .ok (.if_icmp .ne 7, 3) := by decide +kernel
theorem dX6_fits_251 : decode cX6_fits 251 = .ok (.iconst 1, 1) := by decide +kernel
theorem dX6_fits_252 : decode cX6_fits 252 = .ok (.goto 4, 3) := by decide +kernel
theorem dX6_fits_255 : decode cX6_fits 255 = .ok (.iconst 0, 1) := by decide +kernel
theorem dX6_fits_256 : decode cX6_fits 256 = .ok (.istore 11, 2) := by decide +kernel
theorem dX6_fits_258 : decode cX6_fits 258 = .ok (.iinc 12 1, 3) := by decide +kernel
theorem dX6_fits_261 : decode cX6_fits 261 = .ok (.goto (-80), 3) := by decide +kernel
theorem dX6_fits_264 : decode cX6_fits 264 = .ok (.iload 6, 2) := by decide +kernel
theorem dX6_fits_266 : decode cX6_fits 266 = .ok (.iload 11, 2) := by decide +kernel
theorem dX6_fits_268 : decode cX6_fits 268 = .ok (.ifCond .eq 10, 3) := by decide +kernel
theorem dX6_fits_271 : decode cX6_fits 271 = .ok (.iconst 1, 1) := by decide +kernel
theorem dX6_fits_272 : decode cX6_fits 272 = .ok (.iload 10, 2) := by decide +kernel
theorem dX6_fits_274 : decode cX6_fits 274 = .ok (.ishl, 1) := by decide +kernel
theorem dX6_fits_275 : decode cX6_fits 275 = .ok (.goto 4, 3) := by decide +kernel
theorem dX6_fits_278 : decode cX6_fits 278 = .ok (.iconst 0, 1) := by decide +kernel
theorem dX6_fits_279 : decode cX6_fits 279 = .ok (.ior, 1) := by decide +kernel
theorem dX6_fits_280 : decode cX6_fits 280 = .ok (.istore 6, 2) := by decide +kernel
theorem dX6_fits_282 : decode cX6_fits 282 = .ok (.iinc 10 1, 3) := by decide +kernel
theorem dX6_fits_285 : decode cX6_fits 285 = .ok (.goto (-132), 3) := by decide +kernel
theorem dX6_fits_288 : decode cX6_fits 288 = .ok (.aload_n 0, 1) := by decide +kernel
theorem dX6_fits_289 : decode cX6_fits 289 = .ok (.iload 6, 2) := by decide +kernel
theorem dX6_fits_291 : decode cX6_fits 291 = .ok (.invokevirtual 72, 3) := by decide +kernel
theorem dX6_fits_294 : decode cX6_fits 294 = .ok (.ireturn, 1) := by decide +kernel
theorem dX6_breaks_0 : decode cX6_breaks 0 = .ok (.aload_n 0, 1) := by decide +kernel
theorem dX6_breaks_1 : decode cX6_breaks 1 = .ok (.iload_n 1, 1) := by decide +kernel
theorem dX6_breaks_2 : decode cX6_breaks 2 = .ok (.invokevirtual 181, 3) := by decide +kernel
theorem dX6_breaks_5 : decode cX6_breaks 5 = .ok (.ifCond .eq 39, 3) := by decide +kernel
theorem dX6_breaks_8 : decode cX6_breaks 8 = .ok (.aload_n 0, 1) := by decide +kernel
theorem dX6_breaks_9 : decode cX6_breaks 9 = .ok (.iload_n 2, 1) := by decide +kernel
theorem dX6_breaks_10 : decode cX6_breaks 10 = .ok (.invokevirtual 181, 3) := by decide +kernel
theorem dX6_breaks_13 : decode cX6_breaks 13 = .ok (.ifCond .eq 31, 3) := by decide +kernel
theorem dX6_breaks_16 : decode cX6_breaks 16 = .ok (.iload_n 3, 1) := by decide +kernel
theorem dX6_breaks_17 : decode cX6_breaks 17 = .ok (.invokestatic 191, 3) := by decide +kernel
theorem dX6_breaks_20 : decode cX6_breaks 20 = .ok (.ifCond .eq 24, 3) := by decide +kernel
theorem dX6_breaks_23 : decode cX6_breaks 23 = .ok (.iload 4, 2) := by decide +kernel
theorem dX6_breaks_25 : decode cX6_breaks 25 = .ok (.i2l, 1) := by decide +kernel
theorem dX6_breaks_26 : decode cX6_breaks 26 = .ok (.lconst 0, 1) := by decide +kernel
theorem dX6_breaks_27 : decode cX6_breaks 27 = .ok (.ldc2_w 209, 3) := by decide +kernel
theorem dX6_breaks_30 : decode cX6_breaks 30 = .ok (.invokestatic 57, 3) := by decide +kernel
theorem dX6_breaks_33 : decode cX6_breaks 33 = .ok (.ifCond .eq 11, 3) := by decide +kernel
theorem dX6_breaks_36 : decode cX6_breaks 36 = .ok (.iload 5, 2) := by decide +kernel
theorem dX6_breaks_38 : decode cX6_breaks 38 = .ok (.invokestatic 188, 3) := by decide +kernel
theorem dX6_breaks_41 : decode cX6_breaks 41 = .ok (.ifCond .ne 6, 3) := by decide +kernel
theorem dX6_breaks_44 : decode cX6_breaks 44 = .ok (.ldc 67, 2) := by decide +kernel
theorem dX6_breaks_46 : decode cX6_breaks 46 = .ok (.ireturn, 1) := by decide +kernel
theorem dX6_breaks_47 : decode cX6_breaks 47 = .ok (.lconst 0, 1) := by decide +kernel
theorem dX6_breaks_48 : decode cX6_breaks 48 = .ok (.lstore 6, 2) := by decide +kernel
theorem dX6_breaks_50 : decode cX6_breaks 50 = .ok (.lconst 1, 1) := by decide +kernel
theorem dX6_breaks_51 : decode cX6_breaks 51 = .ok (.lstore 8, 2) := by decide +kernel
theorem dX6_breaks_53 : decode cX6_breaks 53 = .ok (.iconst 0, 1) := by decide +kernel
theorem dX6_breaks_54 : decode cX6_breaks 54 = .ok (.istore 10, 2) := by decide +kernel
theorem dX6_breaks_56 : decode cX6_breaks 56 = .ok (.iload 10, 2) := by decide +kernel
theorem dX6_breaks_58 : decode cX6_breaks 58 = .ok (.aload_n 0, 1) := by decide +kernel
theorem dX6_breaks_59 : decode cX6_breaks 59 = .ok (.getfield 19, 3) := by decide +kernel
theorem dX6_breaks_62 : decode cX6_breaks 62 = .ok (.iconst 0, 1) := by decide +kernel
theorem dX6_breaks_63 : decode cX6_breaks 63 = .ok (.iaload, 1) := by decide +kernel
theorem dX6_breaks_64 : decode cX6_breaks 64 = .ok (.if_icmp .ge 36, 3) := by decide +kernel
theorem dX6_breaks_67 : decode cX6_breaks 67 = .ok (.lload 8, 2) := by decide +kernel
theorem dX6_breaks_69 : decode cX6_breaks 69 = .ok (.aload_n 0, 1) := by decide +kernel
theorem dX6_breaks_70 : decode cX6_breaks 70 = .ok (.getfield 19, 3) := by decide +kernel
theorem dX6_breaks_73 : decode cX6_breaks 73 = .ok (.bipush 34, 2) := by decide +kernel
theorem dX6_breaks_75 : decode cX6_breaks 75 = .ok (.iaload, 1) := by decide +kernel
theorem dX6_breaks_76 : decode cX6_breaks 76 = .ok (.iload 10, 2) := by decide +kernel
theorem dX6_breaks_78 : decode cX6_breaks 78 = .ok (.invokestatic 143, 3) := by decide +kernel
theorem dX6_breaks_81 : decode cX6_breaks 81 = .ok (.ifCond .eq 7, 3) := by decide +kernel
theorem dX6_breaks_84 : decode cX6_breaks 84 = .ok (.lconst 1, 1) := by decide +kernel
theorem dX6_breaks_85 : decode cX6_breaks 85 = .ok (.goto 6, 3) := by decide +kernel
theorem dX6_breaks_88 : decode cX6_breaks 88 = .ok (.ldc2_w 209, 3) := by decide +kernel
theorem dX6_breaks_91 : decode cX6_breaks 91 = .ok (.lmul, 1) := by decide +kernel
theorem dX6_breaks_92 : decode cX6_breaks 92 = .ok (.lstore 8, 2) := by decide +kernel
theorem dX6_breaks_94 : decode cX6_breaks 94 = .ok (.iinc 10 1, 3) := by decide +kernel
theorem dX6_breaks_97 : decode cX6_breaks 97 = .ok (.goto (-41), 3) := by decide +kernel
theorem dX6_breaks_100 : decode cX6_breaks 100 = .ok (.iconst 0, 1) := by decide +kernel
theorem dX6_breaks_101 : decode cX6_breaks 101 = .ok (.istore 10, 2) := by decide +kernel
theorem dX6_breaks_103 : decode cX6_breaks 103 = .ok (.iload 10, 2) := by decide +kernel
theorem dX6_breaks_105 : decode cX6_breaks 105 = .ok (.iconst 1, 1) := by decide +kernel
theorem dX6_breaks_106 : decode cX6_breaks 106 = .ok (.aload_n 0, 1) := by decide +kernel
theorem dX6_breaks_107 : decode cX6_breaks 107 = .ok (.getfield 19, 3) := by decide +kernel
theorem dX6_breaks_110 : decode cX6_breaks 110 = .ok (.iconst 0, 1) := by decide +kernel
theorem dX6_breaks_111 : decode cX6_breaks 111 = .ok (.iaload, 1) := by decide +kernel
theorem dX6_breaks_112 : decode cX6_breaks 112 = .ok (.ishl, 1) := by decide +kernel
theorem dX6_breaks_113 : decode cX6_breaks 113 = .ok (.if_icmp .ge 131, 3) := by decide +kernel
theorem dX6_breaks_116 : decode cX6_breaks 116 = .ok (.iload 10, 2) := by decide +kernel
theorem dX6_breaks_118 : decode cX6_breaks 118 = .ok (.aload_n 0, 1) := by decide +kernel
theorem dX6_breaks_119 : decode cX6_breaks 119 = .ok (.getfield 19, 3) := by decide +kernel
theorem dX6_breaks_122 : decode cX6_breaks 122 = .ok (.bipush 34, 2) := by decide +kernel
theorem dX6_breaks_124 : decode cX6_breaks 124 = .ok (.iaload, 1) := by decide +kernel
theorem dX6_breaks_125 : decode cX6_breaks 125 = .ok (.iand, 1) := by decide +kernel
theorem dX6_breaks_126 : decode cX6_breaks 126 = .ok (.ifCond .ne 112, 3) := by decide +kernel
theorem dX6_breaks_129 : decode cX6_breaks 129 = .ok (.aload_n 0, 1) := by decide +kernel
theorem dX6_breaks_130 : decode cX6_breaks 130 = .ok (.invokevirtual 204, 3) := by decide +kernel
theorem dX6_breaks_133 : decode cX6_breaks 133 = .ok (.aload_n 0, 1) := by decide +kernel
theorem dX6_breaks_134 : decode cX6_breaks 134 = .ok (.getfield 25, 3) := by decide +kernel
theorem dX6_breaks_137 : decode cX6_breaks 137 = .ok (.bipush 34, 2) := by decide +kernel
theorem dX6_breaks_139 : decode cX6_breaks 139 = .ok (.dup2, 1) := by decide +kernel
theorem dX6_breaks_140 : decode cX6_breaks 140 = .ok (.iaload, 1) := by decide +kernel
theorem dX6_breaks_141 : decode cX6_breaks 141 = .ok (.iload 10, 2) := by decide +kernel
theorem dX6_breaks_143 : decode cX6_breaks 143 = .ok (.ior, 1) := by decide +kernel
theorem dX6_breaks_144 : decode cX6_breaks 144 = .ok (.iastore, 1) := by decide +kernel
theorem dX6_breaks_145 : decode cX6_breaks 145 = .ok (.lconst 1, 1) := by decide +kernel
theorem dX6_breaks_146 : decode cX6_breaks 146 = .ok (.lstore 11, 2) := by decide +kernel
theorem dX6_breaks_148 : decode cX6_breaks 148 = .ok (.iconst 0, 1) := by decide +kernel
theorem dX6_breaks_149 : decode cX6_breaks 149 = .ok (.istore 13, 2) := by decide +kernel
theorem dX6_breaks_151 : decode cX6_breaks 151 = .ok (.iload 13, 2) := by decide +kernel
theorem dX6_breaks_153 : decode cX6_breaks 153 = .ok (.aload_n 0, 1) := by decide +kernel
theorem dX6_breaks_154 : decode cX6_breaks 154 = .ok (.getfield 19, 3) := by decide +kernel
theorem dX6_breaks_157 : decode cX6_breaks 157 = .ok (.iconst 0, 1) := by decide +kernel
theorem dX6_breaks_158 : decode cX6_breaks 158 = .ok (.iaload, 1) := by decide +kernel
theorem dX6_breaks_159 : decode cX6_breaks 159 = .ok (.if_icmp .ge 55, 3) := by decide +kernel
theorem dX6_breaks_162 : decode cX6_breaks 162 = .ok (.lload 11, 2) := by decide +kernel
theorem dX6_breaks_164 : decode cX6_breaks 164 = .ok (.aload_n 0, 1) := by decide +kernel
theorem dX6_breaks_165 : decode cX6_breaks 165 = .ok (.getfield 19, 3) := by decide +kernel
theorem dX6_breaks_168 : decode cX6_breaks 168 = .ok (.bipush 34, 2) := by decide +kernel
theorem dX6_breaks_170 : decode cX6_breaks 170 = .ok (.iaload, 1) := by decide +kernel
theorem dX6_breaks_171 : decode cX6_breaks 171 = .ok (.iload 13, 2) := by decide +kernel
theorem dX6_breaks_173 : decode cX6_breaks 173 = .ok (.invokestatic 143, 3) := by decide +kernel
theorem dX6_breaks_176 : decode cX6_breaks 176 = .ok (.ifCond .eq 7, 3) := by decide +kernel
theorem dX6_breaks_179 : decode cX6_breaks 179 = .ok (.lconst 1, 1) := by decide +kernel
theorem dX6_breaks_180 : decode cX6_breaks 180 = .ok (.goto 25, 3) := by decide +kernel
theorem dX6_breaks_183 : decode cX6_breaks 183 = .ok (.iload 10, 2) := by decide +kernel
theorem dX6_breaks_185 : decode cX6_breaks 185 = .ok (.iload 13, 2) := by decide +kernel
theorem dX6_breaks_187 : decode cX6_breaks 187 = .ok (.invokestatic 143, 3) := by decide +kernel
theorem dX6_breaks_190 : decode cX6_breaks 190 = .ok (.ifCond .eq 9, 3) := by decide +kernel
theorem dX6_breaks_193 : decode cX6_breaks 193 = .ok (.iload 4, 2) := by decide +kernel
theorem dX6_breaks_195 : decode cX6_breaks 195 = .ok (.i2l, 1) := by decide +kernel
theorem dX6_breaks_196 : decode cX6_breaks 196 = .ok (.goto 9, 3) := by decide +kernel
theorem dX6_breaks_199 : decode cX6_breaks 199 = .ok (.bipush 10, 2) := by decide +kernel
theorem dX6_breaks_201 : decode cX6_breaks 201 = .ok (.iload 4, 2) := by decide +kernel
theorem dX6_breaks_203 : decode cX6_breaks 203 = .ok (.isub, 1) := by decide +kernel
theorem dX6_breaks_204 : decode cX6_breaks 204 = .ok (.i2l, 1) := by decide +kernel
theorem dX6_breaks_205 : decode cX6_breaks 205 = .ok (.lmul, 1) := by decide +kernel
theorem dX6_breaks_206 : decode cX6_breaks 206 = .ok (.lstore 11, 2) := by decide +kernel
theorem dX6_breaks_208 : decode cX6_breaks 208 = .ok (.iinc 13 1, 3) := by decide +kernel
theorem dX6_breaks_211 : decode cX6_breaks 211 = .ok (.goto (-60), 3) := by decide +kernel
theorem dX6_breaks_214 : decode cX6_breaks 214 = .ok (.lload 6, 2) := by decide +kernel
theorem dX6_breaks_216 : decode cX6_breaks 216 = .ok (.aload_n 0, 1) := by decide +kernel
theorem dX6_breaks_217 : decode cX6_breaks 217 = .ok (.getfield 25, 3) := by decide +kernel
theorem dX6_breaks_220 : decode cX6_breaks 220 = .ok (.iload_n 1, 1) := by decide +kernel
theorem dX6_breaks_221 : decode cX6_breaks 221 = .ok (.iload_n 2, 1) := by decide +kernel
theorem dX6_breaks_222 : decode cX6_breaks 222 = .ok (.invokestatic 195, 3) := by decide +kernel
theorem dX6_breaks_225 : decode cX6_breaks 225 = .ok (.iload_n 3, 1) := by decide +kernel
theorem dX6_breaks_226 : decode cX6_breaks 226 = .ok (.if_icmp .gt 8, 3) := by decide +kernel
theorem dX6_breaks_229 : decode cX6_breaks 229 = .ok (.lload 11, 2) := by decide +kernel
theorem dX6_breaks_231 : decode cX6_breaks 231 = .ok (.goto 4, 3) := by decide +kernel
theorem dX6_breaks_234 : decode cX6_breaks 234 = .ok (.lconst 0, 1) := by decide +kernel
theorem dX6_breaks_235 : decode cX6_breaks 235 = .ok (.ladd, 1) := by decide +kernel
theorem dX6_breaks_236 : decode cX6_breaks 236 = .ok (.lstore 6, 2) := by decide +kernel
theorem dX6_breaks_238 : decode cX6_breaks 238 = .ok (.iinc 10 1, 3) := by decide +kernel
theorem dX6_breaks_241 : decode cX6_breaks 241 = .ok (.goto (-138), 3) := by decide +kernel
theorem dX6_breaks_244 : decode cX6_breaks 244 = .ok (.lload 6, 2) := by decide +kernel
theorem dX6_breaks_246 : decode cX6_breaks 246 = .ok (.lstore 10, 2) := by decide +kernel
theorem dX6_breaks_248 : decode cX6_breaks 248 = .ok (.lload 8, 2) := by decide +kernel
theorem dX6_breaks_250 : decode cX6_breaks 250 = .ok (.lstore 12, 2) := by decide +kernel
theorem dX6_breaks_252 : decode cX6_breaks 252 = .ok (.lload 12, 2) := by decide +kernel
theorem dX6_breaks_254 : decode cX6_breaks 254 = .ok (.lconst 0, 1) := by decide +kernel
theorem dX6_breaks_255 : decode cX6_breaks 255 = .ok (.lcmp, 1) := by decide +kernel
theorem dX6_breaks_256 : decode cX6_breaks 256 = .ok (.ifCond .eq 21, 3) := by decide +kernel
theorem dX6_breaks_259 : decode cX6_breaks 259 = .ok (.lload 10, 2) := by decide +kernel
theorem dX6_breaks_261 : decode cX6_breaks 261 = .ok (.lload 12, 2) := by decide +kernel
theorem dX6_breaks_263 : decode cX6_breaks 263 = .ok (.lrem, 1) := by decide +kernel
theorem dX6_breaks_264 : decode cX6_breaks 264 = .ok (.lstore 14, 2) := by decide +kernel
theorem dX6_breaks_266 : decode cX6_breaks 266 = .ok (.lload 12, 2) := by decide +kernel
theorem dX6_breaks_268 : decode cX6_breaks 268 = .ok (.lstore 10, 2) := by decide +kernel
theorem dX6_breaks_270 : decode cX6_breaks 270 = .ok (.lload 14, 2) := by decide +kernel
theorem dX6_breaks_272 : decode cX6_breaks 272 = .ok (.lstore 12, 2) := by decide +kernel
theorem dX6_breaks_274 : decode cX6_breaks 274 = .ok (.goto (-22), 3) := by decide +kernel
theorem dX6_breaks_277 : decode cX6_breaks 277 = .ok (.iload 5, 2) := by decide +kernel
theorem dX6_breaks_279 : decode cX6_breaks 279 = .ok (.ifCond .ne 11, 3) := by decide +kernel
theorem dX6_breaks_282 : decode cX6_breaks 282 = .ok (.lload 6, 2) := by decide +kernel
theorem dX6_breaks_284 : decode cX6_breaks 284 = .ok (.lload 10, 2) := by decide +kernel
theorem dX6_breaks_286 : decode cX6_breaks 286 = .ok (.ldiv, 1) := by decide +kernel
theorem dX6_breaks_287 : decode cX6_breaks 287 = .ok (.goto 8, 3) := by decide +kernel
theorem dX6_breaks_290 : decode cX6_breaks 290 = .ok (.lload 8, 2) := by decide +kernel
theorem dX6_breaks_292 : decode cX6_breaks 292 = .ok (.lload 10, 2) := by decide +kernel
theorem dX6_breaks_294 : decode cX6_breaks 294 = .ok (.ldiv, 1) := by decide +kernel
theorem dX6_breaks_295 : decode cX6_breaks 295 = .ok (.l2i, 1) := by decide +kernel
theorem dX6_breaks_296 : decode cX6_breaks 296 = .ok (.ireturn, 1) := by decide +kernel
theorem dX6_image_0 : decode cX6_image 0 = .ok (.iload_n 1, 1) := by decide +kernel
theorem dX6_image_1 : decode cX6_image 1 = .ok (.invokestatic 188, 3) := by decide +kernel
theorem dX6_image_4 : decode cX6_image 4 = .ok (.ifCond .ne 6, 3) := by decide +kernel
theorem dX6_image_7 : decode cX6_image 7 = .ok (.ldc 67, 2) := by decide +kernel
theorem dX6_image_9 : decode cX6_image 9 = .ok (.ireturn, 1) := by decide +kernel
theorem dX6_image_10 : decode cX6_image 10 = .ok (.aload_n 0, 1) := by decide +kernel
theorem dX6_image_11 : decode cX6_image 11 = .ok (.invokevirtual 168, 3) := by decide +kernel
theorem dX6_image_14 : decode cX6_image 14 = .ok (.ifCond .ne 6, 3) := by decide +kernel
theorem dX6_image_17 : decode cX6_image 17 = .ok (.ldc 171, 2) := by decide +kernel
theorem dX6_image_19 : decode cX6_image 19 = .ok (.ireturn, 1) := by decide +kernel
theorem dX6_image_20 : decode cX6_image 20 = .ok (.aload_n 0, 1) := by decide +kernel
theorem dX6_image_21 : decode cX6_image 21 = .ok (.getfield 19, 3) := by decide +kernel
theorem dX6_image_24 : decode cX6_image 24 = .ok (.iconst 0, 1) := by decide +kernel
theorem dX6_image_25 : decode cX6_image 25 = .ok (.aload_n 0, 1) := by decide +kernel
theorem dX6_image_26 : decode cX6_image 26 = .ok (.getfield 31, 3) := by decide +kernel
theorem dX6_image_29 : decode cX6_image 29 = .ok (.bipush 36, 2) := by decide +kernel
theorem dX6_image_31 : decode cX6_image 31 = .ok (.iload_n 1, 1) := by decide +kernel
theorem dX6_image_32 : decode cX6_image 32 = .ok (.imul, 1) := by decide +kernel
theorem dX6_image_33 : decode cX6_image 33 = .ok (.invokestatic 132, 3) := by decide +kernel
theorem dX6_image_36 : decode cX6_image 36 = .ok (.aload_n 0, 1) := by decide +kernel
theorem dX6_image_37 : decode cX6_image 37 = .ok (.getfield 34, 3) := by decide +kernel
theorem dX6_image_40 : decode cX6_image 40 = .ok (.iload_n 1, 1) := by decide +kernel
theorem dX6_image_41 : decode cX6_image 41 = .ok (.iconst 1, 1) := by decide +kernel
theorem dX6_image_42 : decode cX6_image 42 = .ok (.bastore, 1) := by decide +kernel
theorem dX6_image_43 : decode cX6_image 43 = .ok (.iconst 1, 1) := by decide +kernel
theorem dX6_image_44 : decode cX6_image 44 = .ok (.ireturn, 1) := by decide +kernel
theorem dX6_restore_0 : decode cX6_restore 0 = .ok (.iload_n 1, 1) := by decide +kernel
theorem dX6_restore_1 : decode cX6_restore 1 = .ok (.invokestatic 188, 3) := by decide +kernel
theorem dX6_restore_4 : decode cX6_restore 4 = .ok (.ifCond .ne 6, 3) := by decide +kernel
theorem dX6_restore_7 : decode cX6_restore 7 = .ok (.ldc 67, 2) := by decide +kernel
theorem dX6_restore_9 : decode cX6_restore 9 = .ok (.ireturn, 1) := by decide +kernel
theorem dX6_restore_10 : decode cX6_restore 10 = .ok (.aload_n 0, 1) := by decide +kernel
theorem dX6_restore_11 : decode cX6_restore 11 = .ok (.getfield 34, 3) := by decide +kernel
theorem dX6_restore_14 : decode cX6_restore 14 = .ok (.iload_n 1, 1) := by decide +kernel
theorem dX6_restore_15 : decode cX6_restore 15 = .ok (.baload, 1) := by decide +kernel
theorem dX6_restore_16 : decode cX6_restore 16 = .ok (.ifCond .ne 6, 3) := by decide +kernel
theorem dX6_restore_19 : decode cX6_restore 19 = .ok (.ldc 171, 2) := by decide +kernel
theorem dX6_restore_21 : decode cX6_restore 21 = .ok (.ireturn, 1) := by decide +kernel
theorem dX6_restore_22 : decode cX6_restore 22 = .ok (.aload_n 0, 1) := by decide +kernel
theorem dX6_restore_23 : decode cX6_restore 23 = .ok (.getfield 31, 3) := by decide +kernel
theorem dX6_restore_26 : decode cX6_restore 26 = .ok (.bipush 36, 2) := by decide +kernel
theorem dX6_restore_28 : decode cX6_restore 28 = .ok (.iload_n 1, 1) := by decide +kernel
theorem dX6_restore_29 : decode cX6_restore 29 = .ok (.imul, 1) := by decide +kernel
theorem dX6_restore_30 : decode cX6_restore 30 = .ok (.aload_n 0, 1) := by decide +kernel
theorem dX6_restore_31 : decode cX6_restore 31 = .ok (.getfield 19, 3) := by decide +kernel
theorem dX6_restore_34 : decode cX6_restore 34 = .ok (.iconst 0, 1) := by decide +kernel
theorem dX6_restore_35 : decode cX6_restore 35 = .ok (.invokestatic 132, 3) := by decide +kernel
theorem dX6_restore_38 : decode cX6_restore 38 = .ok (.aload_n 0, 1) := by decide +kernel
theorem dX6_restore_39 : decode cX6_restore 39 = .ok (.iconst 0, 1) := by decide +kernel
theorem dX6_restore_40 : decode cX6_restore 40 = .ok (.putfield 136, 3) := by decide +kernel
theorem dX6_restore_43 : decode cX6_restore 43 = .ok (.iconst 1, 1) := by decide +kernel
theorem dX6_restore_44 : decode cX6_restore 44 = .ok (.ireturn, 1) := by decide +kernel
theorem dX6_kind_0 : decode cX6_kind 0 = .ok (.aload_n 0, 1) := by decide +kernel
theorem dX6_kind_1 : decode cX6_kind 1 = .ok (.iload_n 1, 1) := by decide +kernel
theorem dX6_kind_2 : decode cX6_kind 2 = .ok (.invokevirtual 181, 3) := by decide +kernel
theorem dX6_kind_5 : decode cX6_kind 5 = .ok (.ifCond .eq 14, 3) := by decide +kernel
theorem dX6_kind_8 : decode cX6_kind 8 = .ok (.aload_n 0, 1) := by decide +kernel
theorem dX6_kind_9 : decode cX6_kind 9 = .ok (.getfield 19, 3) := by decide +kernel
theorem dX6_kind_12 : decode cX6_kind 12 = .ok (.iconst 4, 1) := by decide +kernel
theorem dX6_kind_13 : decode cX6_kind 13 = .ok (.iload_n 1, 1) := by decide +kernel
theorem dX6_kind_14 : decode cX6_kind 14 = .ok (.iadd, 1) := by decide +kernel
theorem dX6_kind_15 : decode cX6_kind 15 = .ok (.iaload, 1) := by decide +kernel
theorem dX6_kind_16 : decode cX6_kind 16 = .ok (.goto 5, 3) := by decide +kernel
theorem dX6_kind_19 : decode cX6_kind 19 = .ok (.ldc 67, 2) := by decide +kernel
theorem dX6_kind_21 : decode cX6_kind 21 = .ok (.ireturn, 1) := by decide +kernel
theorem dX6_isOf_0 : decode cX6_isOf 0 = .ok (.iload_n 1, 1) := by decide +kernel
theorem dX6_isOf_1 : decode cX6_isOf 1 = .ok (.ifCond .eq 33, 3) := by decide +kernel
theorem dX6_isOf_4 : decode cX6_isOf 4 = .ok (.iload_n 0, 1) := by decide +kernel
theorem dX6_isOf_5 : decode cX6_isOf 5 = .ok (.iload_n 1, 1) := by decide +kernel
theorem dX6_isOf_6 : decode cX6_isOf 6 = .ok (.if_icmp .eq 28, 3) := by decide +kernel
theorem dX6_isOf_9 : decode cX6_isOf 9 = .ok (.iload_n 1, 1) := by decide +kernel
theorem dX6_isOf_10 : decode cX6_isOf 10 = .ok (.iconst 1, 1) := by decide +kernel
theorem dX6_isOf_11 : decode cX6_isOf 11 = .ok (.if_icmp .ne 13, 3) := by decide +kernel
theorem dX6_isOf_14 : decode cX6_isOf 14 = .ok (.iload_n 0, 1) := by decide +kernel
theorem dX6_isOf_15 : decode cX6_isOf 15 = .ok (.iconst 2, 1) := by decide +kernel
theorem dX6_isOf_16 : decode cX6_isOf 16 = .ok (.if_icmp .eq 18, 3) := by decide +kernel
theorem dX6_isOf_19 : decode cX6_isOf 19 = .ok (.iload_n 0, 1) := by decide +kernel
theorem dX6_isOf_20 : decode cX6_isOf 20 = .ok (.iconst 3, 1) := by decide +kernel
theorem dX6_isOf_21 : decode cX6_isOf 21 = .ok (.if_icmp .eq 13, 3) := by decide +kernel
theorem dX6_isOf_24 : decode cX6_isOf 24 = .ok (.iload_n 1, 1) := by decide +kernel
theorem dX6_isOf_25 : decode cX6_isOf 25 = .ok (.iconst 4, 1) := by decide +kernel
theorem dX6_isOf_26 : decode cX6_isOf 26 = .ok (.if_icmp .ne 12, 3) := by decide +kernel
theorem dX6_isOf_29 : decode cX6_isOf 29 = .ok (.iload_n 0, 1) := by decide +kernel
theorem dX6_isOf_30 : decode cX6_isOf 30 = .ok (.iconst 5, 1) := by decide +kernel
theorem dX6_isOf_31 : decode cX6_isOf 31 = .ok (.if_icmp .ne 7, 3) := by decide +kernel
theorem dX6_isOf_34 : decode cX6_isOf 34 = .ok (.iconst 1, 1) := by decide +kernel
theorem dX6_isOf_35 : decode cX6_isOf 35 = .ok (.goto 4, 3) := by decide +kernel
theorem dX6_isOf_38 : decode cX6_isOf 38 = .ok (.iconst 0, 1) := by decide +kernel
theorem dX6_isOf_39 : decode cX6_isOf 39 = .ok (.ireturn, 1) := by decide +kernel
theorem dX6_as_0 : decode cX6_as 0 = .ok (.aload_n 0, 1) := by decide +kernel
theorem dX6_as_1 : decode cX6_as 1 = .ok (.iload_n 1, 1) := by decide +kernel
theorem dX6_as_2 : decode cX6_as 2 = .ok (.invokevirtual 181, 3) := by decide +kernel
theorem dX6_as_5 : decode cX6_as 5 = .ok (.ifCond .eq 15, 3) := by decide +kernel
theorem dX6_as_8 : decode cX6_as 8 = .ok (.iload_n 2, 1) := by decide +kernel
theorem dX6_as_9 : decode cX6_as 9 = .ok (.i2l, 1) := by decide +kernel
theorem dX6_as_10 : decode cX6_as 10 = .ok (.lconst 0, 1) := by decide +kernel
theorem dX6_as_11 : decode cX6_as 11 = .ok (.ldc2_w 211, 3) := by decide +kernel
theorem dX6_as_14 : decode cX6_as 14 = .ok (.invokestatic 57, 3) := by decide +kernel
theorem dX6_as_17 : decode cX6_as 17 = .ok (.ifCond .ne 6, 3) := by decide +kernel
theorem dX6_as_20 : decode cX6_as 20 = .ok (.ldc 67, 2) := by decide +kernel
theorem dX6_as_22 : decode cX6_as 22 = .ok (.ireturn, 1) := by decide +kernel
theorem dX6_as_23 : decode cX6_as 23 = .ok (.aload_n 0, 1) := by decide +kernel
theorem dX6_as_24 : decode cX6_as 24 = .ok (.getfield 19, 3) := by decide +kernel
theorem dX6_as_27 : decode cX6_as 27 = .ok (.iconst 4, 1) := by decide +kernel
theorem dX6_as_28 : decode cX6_as 28 = .ok (.iload_n 1, 1) := by decide +kernel
theorem dX6_as_29 : decode cX6_as 29 = .ok (.iadd, 1) := by decide +kernel
theorem dX6_as_30 : decode cX6_as 30 = .ok (.iaload, 1) := by decide +kernel
theorem dX6_as_31 : decode cX6_as 31 = .ok (.iload_n 2, 1) := by decide +kernel
theorem dX6_as_32 : decode cX6_as 32 = .ok (.invokestatic 213, 3) := by decide +kernel
theorem dX6_as_35 : decode cX6_as 35 = .ok (.ifCond .eq 11, 3) := by decide +kernel
theorem dX6_as_38 : decode cX6_as 38 = .ok (.aload_n 0, 1) := by decide +kernel
theorem dX6_as_39 : decode cX6_as 39 = .ok (.iload_n 1, 1) := by decide +kernel
theorem dX6_as_40 : decode cX6_as 40 = .ok (.invokevirtual 72, 3) := by decide +kernel
theorem dX6_as_43 : decode cX6_as 43 = .ok (.goto 8, 3) := by decide +kernel
theorem dX6_as_46 : decode cX6_as 46 = .ok (.aload_n 0, 1) := by decide +kernel
theorem dX6_as_47 : decode cX6_as 47 = .ok (.iconst 3, 1) := by decide +kernel
theorem dX6_as_48 : decode cX6_as 48 = .ok (.invokevirtual 68, 3) := by decide +kernel
theorem dX6_as_51 : decode cX6_as 51 = .ok (.ireturn, 1) := by decide +kernel
theorem dX6_leave_0 : decode cX6_leave 0 = .ok (.lconst 1, 1) := by decide +kernel
theorem dX6_leave_1 : decode cX6_leave 1 = .ok (.lstore_n 3, 1) := by decide +kernel
theorem dX6_leave_2 : decode cX6_leave 2 = .ok (.lload_n 3, 1) := by decide +kernel
theorem dX6_leave_3 : decode cX6_leave 3 = .ok (.ldc2_w 216, 3) := by decide +kernel
theorem dX6_leave_6 : decode cX6_leave 6 = .ok (.lmul, 1) := by decide +kernel
theorem dX6_leave_7 : decode cX6_leave 7 = .ok (.lload_n 1, 1) := by decide +kernel
theorem dX6_leave_8 : decode cX6_leave 8 = .ok (.lcmp, 1) := by decide +kernel
theorem dX6_leave_9 : decode cX6_leave 9 = .ok (.ifCond .gt 12, 3) := by decide +kernel
theorem dX6_leave_12 : decode cX6_leave 12 = .ok (.lload_n 3, 1) := by decide +kernel
theorem dX6_leave_13 : decode cX6_leave 13 = .ok (.ldc2_w 216, 3) := by decide +kernel
theorem dX6_leave_16 : decode cX6_leave 16 = .ok (.lmul, 1) := by decide +kernel
theorem dX6_leave_17 : decode cX6_leave 17 = .ok (.lstore_n 3, 1) := by decide +kernel
theorem dX6_leave_18 : decode cX6_leave 18 = .ok (.goto (-16), 3) := by decide +kernel
theorem dX6_leave_21 : decode cX6_leave 21 = .ok (.lload_n 1, 1) := by decide +kernel
theorem dX6_leave_22 : decode cX6_leave 22 = .ok (.lstore 5, 2) := by decide +kernel
theorem dX6_leave_24 : decode cX6_leave 24 = .ok (.lload_n 3, 1) := by decide +kernel
theorem dX6_leave_25 : decode cX6_leave 25 = .ok (.lconst 0, 1) := by decide +kernel
theorem dX6_leave_26 : decode cX6_leave 26 = .ok (.lcmp, 1) := by decide +kernel
theorem dX6_leave_27 : decode cX6_leave 27 = .ok (.ifCond .le 42, 3) := by decide +kernel
theorem dX6_leave_30 : decode cX6_leave 30 = .ok (.aload_n 0, 1) := by decide +kernel
theorem dX6_leave_31 : decode cX6_leave 31 = .ok (.getfield 41, 3) := by decide +kernel
theorem dX6_leave_34 : decode cX6_leave 34 = .ok (.aload_n 0, 1) := by decide +kernel
theorem dX6_leave_35 : decode cX6_leave 35 = .ok (.getfield 218, 3) := by decide +kernel
theorem dX6_leave_38 : decode cX6_leave 38 = .ok (.lload 5, 2) := by decide +kernel
theorem dX6_leave_40 : decode cX6_leave 40 = .ok (.lload_n 3, 1) := by decide +kernel
theorem dX6_leave_41 : decode cX6_leave 41 = .ok (.ldiv, 1) := by decide +kernel
theorem dX6_leave_42 : decode cX6_leave 42 = .ok (.l2i, 1) := by decide +kernel
theorem dX6_leave_43 : decode cX6_leave 43 = .ok (.iastore, 1) := by decide +kernel
theorem dX6_leave_44 : decode cX6_leave 44 = .ok (.lload 5, 2) := by decide +kernel
theorem dX6_leave_46 : decode cX6_leave 46 = .ok (.lload_n 3, 1) := by decide +kernel
theorem dX6_leave_47 : decode cX6_leave 47 = .ok (.lrem, 1) := by decide +kernel
theorem dX6_leave_48 : decode cX6_leave 48 = .ok (.lstore 5, 2) := by decide +kernel
theorem dX6_leave_50 : decode cX6_leave 50 = .ok (.aload_n 0, 1) := by decide +kernel
theorem dX6_leave_51 : decode cX6_leave 51 = .ok (.dup, 1) := by decide +kernel
theorem dX6_leave_52 : decode cX6_leave 52 = .ok (.getfield 218, 3) := by decide +kernel
theorem dX6_leave_55 : decode cX6_leave 55 = .ok (.iconst 1, 1) := by decide +kernel
theorem dX6_leave_56 : decode cX6_leave 56 = .ok (.iadd, 1) := by decide +kernel
theorem dX6_leave_57 : decode cX6_leave 57 = .ok (.putfield 218, 3) := by decide +kernel
theorem dX6_leave_60 : decode cX6_leave 60 = .ok (.lload_n 3, 1) := by decide +kernel
theorem dX6_leave_61 : decode cX6_leave 61 = .ok (.ldc2_w 216, 3) := by decide +kernel
theorem dX6_leave_64 : decode cX6_leave 64 = .ok (.ldiv, 1) := by decide +kernel
theorem dX6_leave_65 : decode cX6_leave 65 = .ok (.lstore_n 3, 1) := by decide +kernel
theorem dX6_leave_66 : decode cX6_leave 66 = .ok (.goto (-42), 3) := by decide +kernel
theorem dX6_leave_69 : decode cX6_leave 69 = .ok (.return_, 1) := by decide +kernel
theorem dX6_mark_0 : decode cX6_mark 0 = .ok (.aload_n 0, 1) := by decide +kernel
theorem dX6_mark_1 : decode cX6_mark 1 = .ok (.getfield 19, 3) := by decide +kernel
theorem dX6_mark_4 : decode cX6_mark 4 = .ok (.iconst 4, 1) := by decide +kernel
theorem dX6_mark_5 : decode cX6_mark 5 = .ok (.iload_n 1, 1) := by decide +kernel
theorem dX6_mark_6 : decode cX6_mark 6 = .ok (.iadd, 1) := by decide +kernel
theorem dX6_mark_7 : decode cX6_mark 7 = .ok (.iaload, 1) := by decide +kernel
theorem dX6_mark_8 : decode cX6_mark 8 = .ok (.istore_n 2, 1) := by decide +kernel
theorem dX6_mark_9 : decode cX6_mark 9 = .ok (.iload_n 1, 1) := by decide +kernel
theorem dX6_mark_10 : decode cX6_mark 10 = .ok (.aload_n 0, 1) := by decide +kernel
theorem dX6_mark_11 : decode cX6_mark 11 = .ok (.getfield 19, 3) := by decide +kernel
theorem dX6_mark_14 : decode cX6_mark 14 = .ok (.iload_n 1, 1) := by decide +kernel
theorem dX6_mark_15 : decode cX6_mark 15 = .ok (.aload_n 0, 1) := by decide +kernel
theorem dX6_mark_16 : decode cX6_mark 16 = .ok (.getfield 19, 3) := by decide +kernel
theorem dX6_mark_19 : decode cX6_mark 19 = .ok (.bipush 35, 2) := by decide +kernel
theorem dX6_mark_21 : decode cX6_mark 21 = .ok (.iaload, 1) := by decide +kernel
theorem dX6_mark_22 : decode cX6_mark 22 = .ok (.invokestatic 147, 3) := by decide +kernel
theorem dX6_mark_25 : decode cX6_mark 25 = .ok (.iadd, 1) := by decide +kernel
theorem dX6_mark_26 : decode cX6_mark 26 = .ok (.istore_n 3, 1) := by decide +kernel
theorem dX6_mark_27 : decode cX6_mark 27 = .ok (.aload_n 0, 1) := by decide +kernel
theorem dX6_mark_28 : decode cX6_mark 28 = .ok (.iload_n 2, 1) := by decide +kernel
theorem dX6_mark_29 : decode cX6_mark 29 = .ok (.iconst 2, 1) := by decide +kernel
theorem dX6_mark_30 : decode cX6_mark 30 = .ok (.if_icmp .ne 9, 3) := by decide +kernel
theorem dX6_mark_33 : decode cX6_mark 33 = .ok (.ldc2_w 221, 3) := by decide +kernel
theorem dX6_mark_36 : decode cX6_mark 36 = .ok (.goto 17, 3) := by decide +kernel
theorem dX6_mark_39 : decode cX6_mark 39 = .ok (.iload_n 2, 1) := by decide +kernel
theorem dX6_mark_40 : decode cX6_mark 40 = .ok (.iconst 3, 1) := by decide +kernel
theorem dX6_mark_41 : decode cX6_mark 41 = .ok (.if_icmp .ne 9, 3) := by decide +kernel
theorem dX6_mark_44 : decode cX6_mark 44 = .ok (.ldc2_w 223, 3) := by decide +kernel
theorem dX6_mark_47 : decode cX6_mark 47 = .ok (.goto 6, 3) := by decide +kernel
theorem dX6_mark_50 : decode cX6_mark 50 = .ok (.ldc2_w 225, 3) := by decide +kernel
theorem dX6_mark_53 : decode cX6_mark 53 = .ok (.invokevirtual 227, 3) := by decide +kernel
theorem dX6_mark_56 : decode cX6_mark 56 = .ok (.iload_n 2, 1) := by decide +kernel
theorem dX6_mark_57 : decode cX6_mark 57 = .ok (.iconst 2, 1) := by decide +kernel
theorem dX6_mark_58 : decode cX6_mark 58 = .ok (.if_icmp .ne 9, 3) := by decide +kernel
theorem dX6_mark_61 : decode cX6_mark 61 = .ok (.iconst 2, 1) := by decide +kernel
theorem dX6_mark_62 : decode cX6_mark 62 = .ok (.iload_n 3, 1) := by decide +kernel
theorem dX6_mark_63 : decode cX6_mark 63 = .ok (.imul, 1) := by decide +kernel
theorem dX6_mark_64 : decode cX6_mark 64 = .ok (.goto 17, 3) := by decide +kernel
theorem dX6_mark_67 : decode cX6_mark 67 = .ok (.iload_n 2, 1) := by decide +kernel
theorem dX6_mark_68 : decode cX6_mark 68 = .ok (.iconst 3, 1) := by decide +kernel
theorem dX6_mark_69 : decode cX6_mark 69 = .ok (.if_icmp .ne 11, 3) := by decide +kernel
theorem dX6_mark_72 : decode cX6_mark 72 = .ok (.iload_n 3, 1) := by decide +kernel
theorem dX6_mark_73 : decode cX6_mark 73 = .ok (.sipush 1000, 3) := by decide +kernel
theorem dX6_mark_76 : decode cX6_mark 76 = .ok (.isub, 1) := by decide +kernel
theorem dX6_mark_77 : decode cX6_mark 77 = .ok (.goto 4, 3) := by decide +kernel
theorem dX6_mark_80 : decode cX6_mark 80 = .ok (.iload_n 3, 1) := by decide +kernel
theorem dX6_mark_81 : decode cX6_mark 81 = .ok (.ireturn, 1) := by decide +kernel
theorem dX6_sizeOf_0 : decode cX6_sizeOf 0 = .ok (.aload_n 0, 1) := by decide +kernel
theorem dX6_sizeOf_1 : decode cX6_sizeOf 1 = .ok (.getfield 19, 3) := by decide +kernel
theorem dX6_sizeOf_4 : decode cX6_sizeOf 4 = .ok (.bipush 22, 2) := by decide +kernel
theorem dX6_sizeOf_6 : decode cX6_sizeOf 6 = .ok (.iload_n 1, 1) := by decide +kernel
theorem dX6_sizeOf_7 : decode cX6_sizeOf 7 = .ok (.iadd, 1) := by decide +kernel
theorem dX6_sizeOf_8 : decode cX6_sizeOf 8 = .ok (.iaload, 1) := by decide +kernel
theorem dX6_sizeOf_9 : decode cX6_sizeOf 9 = .ok (.bipush 100, 2) := by decide +kernel
theorem dX6_sizeOf_11 : decode cX6_sizeOf 11 = .ok (.isub, 1) := by decide +kernel
theorem dX6_sizeOf_12 : decode cX6_sizeOf 12 = .ok (.istore_n 2, 1) := by decide +kernel
theorem dX6_sizeOf_13 : decode cX6_sizeOf 13 = .ok (.aload_n 0, 1) := by decide +kernel
theorem dX6_sizeOf_14 : decode cX6_sizeOf 14 = .ok (.getfield 19, 3) := by decide +kernel
theorem dX6_sizeOf_17 : decode cX6_sizeOf 17 = .ok (.iconst 4, 1) := by decide +kernel
theorem dX6_sizeOf_18 : decode cX6_sizeOf 18 = .ok (.iload_n 1, 1) := by decide +kernel
theorem dX6_sizeOf_19 : decode cX6_sizeOf 19 = .ok (.iadd, 1) := by decide +kernel
theorem dX6_sizeOf_20 : decode cX6_sizeOf 20 = .ok (.iaload, 1) := by decide +kernel
theorem dX6_sizeOf_21 : decode cX6_sizeOf 21 = .ok (.iconst 5, 1) := by decide +kernel
theorem dX6_sizeOf_22 : decode cX6_sizeOf 22 = .ok (.if_icmp .ne 7, 3) := by decide +kernel
theorem dX6_sizeOf_25 : decode cX6_sizeOf 25 = .ok (.iconst 1, 1) := by decide +kernel
theorem dX6_sizeOf_26 : decode cX6_sizeOf 26 = .ok (.goto 4, 3) := by decide +kernel
theorem dX6_sizeOf_29 : decode cX6_sizeOf 29 = .ok (.iconst 0, 1) := by decide +kernel
theorem dX6_sizeOf_30 : decode cX6_sizeOf 30 = .ok (.istore_n 3, 1) := by decide +kernel
theorem dX6_sizeOf_31 : decode cX6_sizeOf 31 = .ok (.aload_n 0, 1) := by decide +kernel
theorem dX6_sizeOf_32 : decode cX6_sizeOf 32 = .ok (.iload_n 3, 1) := by decide +kernel
theorem dX6_sizeOf_33 : decode cX6_sizeOf 33 = .ok (.ifCond .eq 9, 3) := by decide +kernel
theorem dX6_sizeOf_36 : decode cX6_sizeOf 36 = .ok (.ldc2_w 231, 3) := by decide +kernel
theorem dX6_sizeOf_39 : decode cX6_sizeOf 39 = .ok (.goto 6, 3) := by decide +kernel
theorem dX6_sizeOf_42 : decode cX6_sizeOf 42 = .ok (.ldc2_w 233, 3) := by decide +kernel
theorem dX6_sizeOf_45 : decode cX6_sizeOf 45 = .ok (.invokevirtual 227, 3) := by decide +kernel
theorem dX6_sizeOf_48 : decode cX6_sizeOf 48 = .ok (.iload_n 3, 1) := by decide +kernel
theorem dX6_sizeOf_49 : decode cX6_sizeOf 49 = .ok (.ifCond .eq 9, 3) := by decide +kernel
theorem dX6_sizeOf_52 : decode cX6_sizeOf 52 = .ok (.iconst 2, 1) := by decide +kernel
theorem dX6_sizeOf_53 : decode cX6_sizeOf 53 = .ok (.iload_n 2, 1) := by decide +kernel
theorem dX6_sizeOf_54 : decode cX6_sizeOf 54 = .ok (.imul, 1) := by decide +kernel
theorem dX6_sizeOf_55 : decode cX6_sizeOf 55 = .ok (.goto 4, 3) := by decide +kernel
theorem dX6_sizeOf_58 : decode cX6_sizeOf 58 = .ok (.iload_n 2, 1) := by decide +kernel
theorem dX6_sizeOf_59 : decode cX6_sizeOf 59 = .ok (.ireturn, 1) := by decide +kernel
theorem dX6_ask_0 : decode cX6_ask 0 = .ok (.aload_n 0, 1) := by decide +kernel
theorem dX6_ask_1 : decode cX6_ask 1 = .ok (.iload_n 1, 1) := by decide +kernel
theorem dX6_ask_2 : decode cX6_ask 2 = .ok (.invokevirtual 181, 3) := by decide +kernel
theorem dX6_ask_5 : decode cX6_ask 5 = .ok (.ifCond .eq 10, 3) := by decide +kernel
theorem dX6_ask_8 : decode cX6_ask 8 = .ok (.iload_n 2, 1) := by decide +kernel
theorem dX6_ask_9 : decode cX6_ask 9 = .ok (.invokestatic 188, 3) := by decide +kernel
theorem dX6_ask_12 : decode cX6_ask 12 = .ok (.ifCond .ne 6, 3) := by decide +kernel
theorem dX6_ask_15 : decode cX6_ask 15 = .ok (.ldc 67, 2) := by decide +kernel
theorem dX6_ask_17 : decode cX6_ask 17 = .ok (.ireturn, 1) := by decide +kernel
theorem dX6_ask_18 : decode cX6_ask 18 = .ok (.aload_n 0, 1) := by decide +kernel
theorem dX6_ask_19 : decode cX6_ask 19 = .ok (.iconst 0, 1) := by decide +kernel
theorem dX6_ask_20 : decode cX6_ask 20 = .ok (.putfield 218, 3) := by decide +kernel
theorem dX6_ask_23 : decode cX6_ask 23 = .ok (.aload_n 0, 1) := by decide +kernel
theorem dX6_ask_24 : decode cX6_ask 24 = .ok (.getfield 19, 3) := by decide +kernel
theorem dX6_ask_27 : decode cX6_ask 27 = .ok (.iconst 4, 1) := by decide +kernel
theorem dX6_ask_28 : decode cX6_ask 28 = .ok (.iload_n 1, 1) := by decide +kernel
theorem dX6_ask_29 : decode cX6_ask 29 = .ok (.iadd, 1) := by decide +kernel
theorem dX6_ask_30 : decode cX6_ask 30 = .ok (.iaload, 1) := by decide +kernel
theorem dX6_ask_31 : decode cX6_ask 31 = .ok (.istore_n 3, 1) := by decide +kernel
theorem dX6_ask_32 : decode cX6_ask 32 = .ok (.iload_n 3, 1) := by decide +kernel
theorem dX6_ask_33 : decode cX6_ask 33 = .ok (.iconst 4, 1) := by decide +kernel
theorem dX6_ask_34 : decode cX6_ask 34 = .ok (.if_icmp .ge 63, 3) := by decide +kernel
theorem dX6_ask_37 : decode cX6_ask 37 = .ok (.iload_n 2, 1) := by decide +kernel
theorem dX6_ask_38 : decode cX6_ask 38 = .ok (.iconst 1, 1) := by decide +kernel
theorem dX6_ask_39 : decode cX6_ask 39 = .ok (.if_icmp .ne 9, 3) := by decide +kernel
theorem dX6_ask_42 : decode cX6_ask 42 = .ok (.aload_n 0, 1) := by decide +kernel
theorem dX6_ask_43 : decode cX6_ask 43 = .ok (.iload_n 1, 1) := by decide +kernel
theorem dX6_ask_44 : decode cX6_ask 44 = .ok (.invokevirtual 235, 3) := by decide +kernel
theorem dX6_ask_47 : decode cX6_ask 47 = .ok (.ireturn, 1) := by decide +kernel
theorem dX6_ask_48 : decode cX6_ask 48 = .ok (.aload_n 0, 1) := by decide +kernel
theorem dX6_ask_49 : decode cX6_ask 49 = .ok (.iload_n 3, 1) := by decide +kernel
theorem dX6_ask_50 : decode cX6_ask 50 = .ok (.iconst 2, 1) := by decide +kernel
theorem dX6_ask_51 : decode cX6_ask 51 = .ok (.if_icmp .ne 9, 3) := by decide +kernel
theorem dX6_ask_54 : decode cX6_ask 54 = .ok (.ldc2_w 238, 3) := by decide +kernel
theorem dX6_ask_57 : decode cX6_ask 57 = .ok (.goto 6, 3) := by decide +kernel
theorem dX6_ask_60 : decode cX6_ask 60 = .ok (.ldc2_w 240, 3) := by decide +kernel
theorem dX6_ask_63 : decode cX6_ask 63 = .ok (.invokevirtual 227, 3) := by decide +kernel
theorem dX6_ask_66 : decode cX6_ask 66 = .ok (.aload_n 0, 1) := by decide +kernel
theorem dX6_ask_67 : decode cX6_ask 67 = .ok (.getfield 19, 3) := by decide +kernel
theorem dX6_ask_70 : decode cX6_ask 70 = .ok (.bipush 22, 2) := by decide +kernel
theorem dX6_ask_72 : decode cX6_ask 72 = .ok (.iload_n 1, 1) := by decide +kernel
theorem dX6_ask_73 : decode cX6_ask 73 = .ok (.iadd, 1) := by decide +kernel
theorem dX6_ask_74 : decode cX6_ask 74 = .ok (.iaload, 1) := by decide +kernel
theorem dX6_ask_75 : decode cX6_ask 75 = .ok (.aload_n 0, 1) := by decide +kernel
theorem dX6_ask_76 : decode cX6_ask 76 = .ok (.iload_n 1, 1) := by decide +kernel
theorem dX6_ask_77 : decode cX6_ask 77 = .ok (.invokevirtual 235, 3) := by decide +kernel
theorem dX6_ask_80 : decode cX6_ask 80 = .ok (.iadd, 1) := by decide +kernel
theorem dX6_ask_81 : decode cX6_ask 81 = .ok (.istore 4, 2) := by decide +kernel
theorem dX6_ask_83 : decode cX6_ask 83 = .ok (.iload_n 3, 1) := by decide +kernel
theorem dX6_ask_84 : decode cX6_ask 84 = .ok (.iconst 2, 1) := by decide +kernel
theorem dX6_ask_85 : decode cX6_ask 85 = .ok (.if_icmp .ne 9, 3) := by decide +kernel
theorem dX6_ask_88 : decode cX6_ask 88 = .ok (.iload 4, 2) := by decide +kernel
theorem dX6_ask_90 : decode cX6_ask 90 = .ok (.ineg, 1) := by decide +kernel
theorem dX6_ask_91 : decode cX6_ask 91 = .ok (.goto 5, 3) := by decide +kernel
theorem dX6_ask_94 : decode cX6_ask 94 = .ok (.iload 4, 2) := by decide +kernel
theorem dX6_ask_96 : decode cX6_ask 96 = .ok (.ireturn, 1) := by decide +kernel
theorem dX6_ask_97 : decode cX6_ask 97 = .ok (.iload_n 2, 1) := by decide +kernel
theorem dX6_ask_98 : decode cX6_ask 98 = .ok (.ifCond .ne 9, 3) := by decide +kernel
theorem dX6_ask_101 : decode cX6_ask 101 = .ok (.aload_n 0, 1) := by decide +kernel
theorem dX6_ask_102 : decode cX6_ask 102 = .ok (.iload_n 1, 1) := by decide +kernel
theorem dX6_ask_103 : decode cX6_ask 103 = .ok (.invokevirtual 242, 3) := by decide +kernel
theorem dX6_ask_106 : decode cX6_ask 106 = .ok (.ireturn, 1) := by decide +kernel
theorem dX6_ask_107 : decode cX6_ask 107 = .ok (.aload_n 0, 1) := by decide +kernel
theorem dX6_ask_108 : decode cX6_ask 108 = .ok (.ldc2_w 245, 3) := by decide +kernel
theorem dX6_ask_111 : decode cX6_ask 111 = .ok (.invokevirtual 227, 3) := by decide +kernel
theorem dX6_ask_114 : decode cX6_ask 114 = .ok (.iload_n 1, 1) := by decide +kernel
theorem dX6_ask_115 : decode cX6_ask 115 = .ok (.aload_n 0, 1) := by decide +kernel
theorem dX6_ask_116 : decode cX6_ask 116 = .ok (.iload_n 1, 1) := by decide +kernel
theorem dX6_ask_117 : decode cX6_ask 117 = .ok (.invokevirtual 242, 3) := by decide +kernel
theorem dX6_ask_120 : decode cX6_ask 120 = .ok (.isub, 1) := by decide +kernel
theorem dX6_ask_121 : decode cX6_ask 121 = .ok (.ireturn, 1) := by decide +kernel
theorem dX6_trace_0 : decode cX6_trace 0 = .ok (.iload_n 1, 1) := by decide +kernel
theorem dX6_trace_1 : decode cX6_trace 1 = .ok (.i2l, 1) := by decide +kernel
theorem dX6_trace_2 : decode cX6_trace 2 = .ok (.lconst 0, 1) := by decide +kernel
theorem dX6_trace_3 : decode cX6_trace 3 = .ok (.aload_n 0, 1) := by decide +kernel
theorem dX6_trace_4 : decode cX6_trace 4 = .ok (.getfield 218, 3) := by decide +kernel
theorem dX6_trace_7 : decode cX6_trace 7 = .ok (.iconst 1, 1) := by decide +kernel
theorem dX6_trace_8 : decode cX6_trace 8 = .ok (.isub, 1) := by decide +kernel
theorem dX6_trace_9 : decode cX6_trace 9 = .ok (.i2l, 1) := by decide +kernel
theorem dX6_trace_10 : decode cX6_trace 10 = .ok (.invokestatic 57, 3) := by decide +kernel
theorem dX6_trace_13 : decode cX6_trace 13 = .ok (.ifCond .eq 12, 3) := by decide +kernel
theorem dX6_trace_16 : decode cX6_trace 16 = .ok (.aload_n 0, 1) := by decide +kernel
theorem dX6_trace_17 : decode cX6_trace 17 = .ok (.getfield 41, 3) := by decide +kernel
theorem dX6_trace_20 : decode cX6_trace 20 = .ok (.iload_n 1, 1) := by decide +kernel
theorem dX6_trace_21 : decode cX6_trace 21 = .ok (.iaload, 1) := by decide +kernel
theorem dX6_trace_22 : decode cX6_trace 22 = .ok (.goto 5, 3) := by decide +kernel
theorem dX6_trace_25 : decode cX6_trace 25 = .ok (.ldc 194, 2) := by decide +kernel
theorem dX6_trace_27 : decode cX6_trace 27 = .ok (.ireturn, 1) := by decide +kernel
theorem dX6_count_0 : decode cX6_count 0 = .ok (.iconst 0, 1) := by decide +kernel
theorem dX6_count_1 : decode cX6_count 1 = .ok (.istore_n 2, 1) := by decide +kernel
theorem dX6_count_2 : decode cX6_count 2 = .ok (.iconst 0, 1) := by decide +kernel
theorem dX6_count_3 : decode cX6_count 3 = .ok (.istore_n 3, 1) := by decide +kernel
theorem dX6_count_4 : decode cX6_count 4 = .ok (.iconst 0, 1) := by decide +kernel
theorem dX6_count_5 : decode cX6_count 5 = .ok (.istore 4, 2) := by decide +kernel
theorem dX6_count_7 : decode cX6_count 7 = .ok (.iload 4, 2) := by decide +kernel
theorem dX6_count_9 : decode cX6_count 9 = .ok (.bipush 8, 2) := by decide +kernel
theorem dX6_count_11 : decode cX6_count 11 = .ok (.if_icmp .ge 27, 3) := by decide +kernel
theorem dX6_count_14 : decode cX6_count 14 = .ok (.iload_n 2, 1) := by decide +kernel
theorem dX6_count_15 : decode cX6_count 15 = .ok (.aload_n 0, 1) := by decide +kernel
theorem dX6_count_16 : decode cX6_count 16 = .ok (.getfield 13, 3) := by decide +kernel
theorem dX6_count_19 : decode cX6_count 19 = .ok (.iload 4, 2) := by decide +kernel
theorem dX6_count_21 : decode cX6_count 21 = .ok (.iaload, 1) := by decide +kernel
theorem dX6_count_22 : decode cX6_count 22 = .ok (.ifCond .ge 7, 3) := by decide +kernel
theorem dX6_count_25 : decode cX6_count 25 = .ok (.iconst 0, 1) := by decide +kernel
theorem dX6_count_26 : decode cX6_count 26 = .ok (.goto 4, 3) := by decide +kernel
theorem dX6_count_29 : decode cX6_count 29 = .ok (.iconst 1, 1) := by decide +kernel
theorem dX6_count_30 : decode cX6_count 30 = .ok (.iadd, 1) := by decide +kernel
theorem dX6_count_31 : decode cX6_count 31 = .ok (.istore_n 2, 1) := by decide +kernel
theorem dX6_count_32 : decode cX6_count 32 = .ok (.iinc 4 1, 3) := by decide +kernel
theorem dX6_count_35 : decode cX6_count 35 = .ok (.goto (-28), 3) := by decide +kernel
theorem dX6_count_38 : decode cX6_count 38 = .ok (.iconst 0, 1) := by decide +kernel
theorem dX6_count_39 : decode cX6_count 39 = .ok (.istore 4, 2) := by decide +kernel
theorem dX6_count_41 : decode cX6_count 41 = .ok (.iload 4, 2) := by decide +kernel
theorem dX6_count_43 : decode cX6_count 43 = .ok (.bipush 6, 2) := by decide +kernel
theorem dX6_count_45 : decode cX6_count 45 = .ok (.if_icmp .ge 32, 3) := by decide +kernel
theorem dX6_count_48 : decode cX6_count 48 = .ok (.iload_n 3, 1) := by decide +kernel
theorem dX6_count_49 : decode cX6_count 49 = .ok (.aload_n 0, 1) := by decide +kernel
theorem dX6_count_50 : decode cX6_count 50 = .ok (.getfield 19, 3) := by decide +kernel
theorem dX6_count_53 : decode cX6_count 53 = .ok (.bipush 34, 2) := by decide +kernel
theorem dX6_count_55 : decode cX6_count 55 = .ok (.iaload, 1) := by decide +kernel
theorem dX6_count_56 : decode cX6_count 56 = .ok (.iload 4, 2) := by decide +kernel
theorem dX6_count_58 : decode cX6_count 58 = .ok (.invokestatic 143, 3) := by decide +kernel
theorem dX6_count_61 : decode cX6_count 61 = .ok (.ifCond .eq 7, 3) := by decide +kernel
theorem dX6_count_64 : decode cX6_count 64 = .ok (.iconst 1, 1) := by decide +kernel
theorem dX6_count_65 : decode cX6_count 65 = .ok (.goto 4, 3) := by decide +kernel
theorem dX6_count_68 : decode cX6_count 68 = .ok (.iconst 0, 1) := by decide +kernel
theorem dX6_count_69 : decode cX6_count 69 = .ok (.iadd, 1) := by decide +kernel
theorem dX6_count_70 : decode cX6_count 70 = .ok (.istore_n 3, 1) := by decide +kernel
theorem dX6_count_71 : decode cX6_count 71 = .ok (.iinc 4 1, 3) := by decide +kernel
theorem dX6_count_74 : decode cX6_count 74 = .ok (.goto (-33), 3) := by decide +kernel
theorem dX6_count_77 : decode cX6_count 77 = .ok (.iload_n 1, 1) := by decide +kernel
theorem dX6_count_78 : decode cX6_count 78 = .ok (.tableswitch 89 0 7 #[46, 48, 55, 63, 70, 77, 79, 84], 46) := by decide +kernel
theorem dX6_count_124 : decode cX6_count 124 = .ok (.iload_n 2, 1) := by decide +kernel
theorem dX6_count_125 : decode cX6_count 125 = .ok (.ireturn, 1) := by decide +kernel
theorem dX6_count_126 : decode cX6_count 126 = .ok (.aload_n 0, 1) := by decide +kernel
theorem dX6_count_127 : decode cX6_count 127 = .ok (.getfield 19, 3) := by decide +kernel
theorem dX6_count_130 : decode cX6_count 130 = .ok (.iconst 0, 1) := by decide +kernel
theorem dX6_count_131 : decode cX6_count 131 = .ok (.iaload, 1) := by decide +kernel
theorem dX6_count_132 : decode cX6_count 132 = .ok (.ireturn, 1) := by decide +kernel
theorem dX6_count_133 : decode cX6_count 133 = .ok (.aload_n 0, 1) := by decide +kernel
theorem dX6_count_134 : decode cX6_count 134 = .ok (.getfield 19, 3) := by decide +kernel
theorem dX6_count_137 : decode cX6_count 137 = .ok (.bipush 35, 2) := by decide +kernel
theorem dX6_count_139 : decode cX6_count 139 = .ok (.iaload, 1) := by decide +kernel
theorem dX6_count_140 : decode cX6_count 140 = .ok (.ireturn, 1) := by decide +kernel
theorem dX6_count_141 : decode cX6_count 141 = .ok (.aload_n 0, 1) := by decide +kernel
theorem dX6_count_142 : decode cX6_count 142 = .ok (.getfield 19, 3) := by decide +kernel
theorem dX6_count_145 : decode cX6_count 145 = .ok (.iconst 1, 1) := by decide +kernel
theorem dX6_count_146 : decode cX6_count 146 = .ok (.iaload, 1) := by decide +kernel
theorem dX6_count_147 : decode cX6_count 147 = .ok (.ireturn, 1) := by decide +kernel
theorem dX6_count_148 : decode cX6_count 148 = .ok (.aload_n 0, 1) := by decide +kernel
theorem dX6_count_149 : decode cX6_count 149 = .ok (.getfield 19, 3) := by decide +kernel
theorem dX6_count_152 : decode cX6_count 152 = .ok (.iconst 2, 1) := by decide +kernel
theorem dX6_count_153 : decode cX6_count 153 = .ok (.iaload, 1) := by decide +kernel
theorem dX6_count_154 : decode cX6_count 154 = .ok (.ireturn, 1) := by decide +kernel
theorem dX6_count_155 : decode cX6_count 155 = .ok (.iload_n 3, 1) := by decide +kernel
theorem dX6_count_156 : decode cX6_count 156 = .ok (.ireturn, 1) := by decide +kernel
theorem dX6_count_157 : decode cX6_count 157 = .ok (.aload_n 0, 1) := by decide +kernel
theorem dX6_count_158 : decode cX6_count 158 = .ok (.getfield 136, 3) := by decide +kernel
theorem dX6_count_161 : decode cX6_count 161 = .ok (.ireturn, 1) := by decide +kernel
theorem dX6_count_162 : decode cX6_count 162 = .ok (.aload_n 0, 1) := by decide +kernel
theorem dX6_count_163 : decode cX6_count 163 = .ok (.getfield 77, 3) := by decide +kernel
theorem dX6_count_166 : decode cX6_count 166 = .ok (.ireturn, 1) := by decide +kernel
theorem dX6_count_167 : decode cX6_count 167 = .ok (.ldc 67, 2) := by decide +kernel
theorem dX6_count_169 : decode cX6_count 169 = .ok (.ireturn, 1) := by decide +kernel
theorem dX6_status_0 : decode cX6_status 0 = .ok (.aload_n 0, 1) := by decide +kernel
theorem dX6_status_1 : decode cX6_status 1 = .ok (.getfield 50, 3) := by decide +kernel
theorem dX6_status_4 : decode cX6_status 4 = .ok (.ireturn, 1) := by decide +kernel
theorem dJ6_bitCount_0f7a4_0 : decode cJ6_bitCount_0f7a4 0 = .ok (.iload_n 0, 1) := by decide +kernel
theorem dJ6_bitCount_0f7a4_1 : decode cJ6_bitCount_0f7a4 1 = .ok (.iload_n 0, 1) := by decide +kernel
theorem dJ6_bitCount_0f7a4_2 : decode cJ6_bitCount_0f7a4 2 = .ok (.iconst 1, 1) := by decide +kernel
theorem dJ6_bitCount_0f7a4_3 : decode cJ6_bitCount_0f7a4 3 = .ok (.iushr, 1) := by decide +kernel
theorem dJ6_bitCount_0f7a4_4 : decode cJ6_bitCount_0f7a4 4 = .ok (.ldc_w 265, 3) := by decide +kernel
theorem dJ6_bitCount_0f7a4_7 : decode cJ6_bitCount_0f7a4 7 = .ok (.iand, 1) := by decide +kernel
theorem dJ6_bitCount_0f7a4_8 : decode cJ6_bitCount_0f7a4 8 = .ok (.isub, 1) := by decide +kernel
theorem dJ6_bitCount_0f7a4_9 : decode cJ6_bitCount_0f7a4 9 = .ok (.istore_n 0, 1) := by decide +kernel
theorem dJ6_bitCount_0f7a4_10 : decode cJ6_bitCount_0f7a4 10 = .ok (.iload_n 0, 1) := by decide +kernel
theorem dJ6_bitCount_0f7a4_11 : decode cJ6_bitCount_0f7a4 11 = .ok (.ldc_w 266, 3) := by decide +kernel
theorem dJ6_bitCount_0f7a4_14 : decode cJ6_bitCount_0f7a4 14 = .ok (.iand, 1) := by decide +kernel
theorem dJ6_bitCount_0f7a4_15 : decode cJ6_bitCount_0f7a4 15 = .ok (.iload_n 0, 1) := by decide +kernel
theorem dJ6_bitCount_0f7a4_16 : decode cJ6_bitCount_0f7a4 16 = .ok (.iconst 2, 1) := by decide +kernel
theorem dJ6_bitCount_0f7a4_17 : decode cJ6_bitCount_0f7a4 17 = .ok (.iushr, 1) := by decide +kernel
theorem dJ6_bitCount_0f7a4_18 : decode cJ6_bitCount_0f7a4 18 = .ok (.ldc_w 266, 3) := by decide +kernel
theorem dJ6_bitCount_0f7a4_21 : decode cJ6_bitCount_0f7a4 21 = .ok (.iand, 1) := by decide +kernel
theorem dJ6_bitCount_0f7a4_22 : decode cJ6_bitCount_0f7a4 22 = .ok (.iadd, 1) := by decide +kernel
theorem dJ6_bitCount_0f7a4_23 : decode cJ6_bitCount_0f7a4 23 = .ok (.istore_n 0, 1) := by decide +kernel
theorem dJ6_bitCount_0f7a4_24 : decode cJ6_bitCount_0f7a4 24 = .ok (.iload_n 0, 1) := by decide +kernel
theorem dJ6_bitCount_0f7a4_25 : decode cJ6_bitCount_0f7a4 25 = .ok (.iload_n 0, 1) := by decide +kernel
theorem dJ6_bitCount_0f7a4_26 : decode cJ6_bitCount_0f7a4 26 = .ok (.iconst 4, 1) := by decide +kernel
theorem dJ6_bitCount_0f7a4_27 : decode cJ6_bitCount_0f7a4 27 = .ok (.iushr, 1) := by decide +kernel
theorem dJ6_bitCount_0f7a4_28 : decode cJ6_bitCount_0f7a4 28 = .ok (.iadd, 1) := by decide +kernel
theorem dJ6_bitCount_0f7a4_29 : decode cJ6_bitCount_0f7a4 29 = .ok (.ldc_w 267, 3) := by decide +kernel
theorem dJ6_bitCount_0f7a4_32 : decode cJ6_bitCount_0f7a4 32 = .ok (.iand, 1) := by decide +kernel
theorem dJ6_bitCount_0f7a4_33 : decode cJ6_bitCount_0f7a4 33 = .ok (.istore_n 0, 1) := by decide +kernel
theorem dJ6_bitCount_0f7a4_34 : decode cJ6_bitCount_0f7a4 34 = .ok (.iload_n 0, 1) := by decide +kernel
theorem dJ6_bitCount_0f7a4_35 : decode cJ6_bitCount_0f7a4 35 = .ok (.iload_n 0, 1) := by decide +kernel
theorem dJ6_bitCount_0f7a4_36 : decode cJ6_bitCount_0f7a4 36 = .ok (.bipush 8, 2) := by decide +kernel
theorem dJ6_bitCount_0f7a4_38 : decode cJ6_bitCount_0f7a4 38 = .ok (.iushr, 1) := by decide +kernel
theorem dJ6_bitCount_0f7a4_39 : decode cJ6_bitCount_0f7a4 39 = .ok (.iadd, 1) := by decide +kernel
theorem dJ6_bitCount_0f7a4_40 : decode cJ6_bitCount_0f7a4 40 = .ok (.istore_n 0, 1) := by decide +kernel
theorem dJ6_bitCount_0f7a4_41 : decode cJ6_bitCount_0f7a4 41 = .ok (.iload_n 0, 1) := by decide +kernel
theorem dJ6_bitCount_0f7a4_42 : decode cJ6_bitCount_0f7a4 42 = .ok (.iload_n 0, 1) := by decide +kernel
theorem dJ6_bitCount_0f7a4_43 : decode cJ6_bitCount_0f7a4 43 = .ok (.bipush 16, 2) := by decide +kernel
theorem dJ6_bitCount_0f7a4_45 : decode cJ6_bitCount_0f7a4 45 = .ok (.iushr, 1) := by decide +kernel
theorem dJ6_bitCount_0f7a4_46 : decode cJ6_bitCount_0f7a4 46 = .ok (.iadd, 1) := by decide +kernel
theorem dJ6_bitCount_0f7a4_47 : decode cJ6_bitCount_0f7a4 47 = .ok (.istore_n 0, 1) := by decide +kernel
theorem dJ6_bitCount_0f7a4_48 : decode cJ6_bitCount_0f7a4 48 = .ok (.iload_n 0, 1) := by decide +kernel
theorem dJ6_bitCount_0f7a4_49 : decode cJ6_bitCount_0f7a4 49 = .ok (.bipush 63, 2) := by decide +kernel
theorem dJ6_bitCount_0f7a4_51 : decode cJ6_bitCount_0f7a4 51 = .ok (.iand, 1) := by decide +kernel
theorem dJ6_bitCount_0f7a4_52 : decode cJ6_bitCount_0f7a4 52 = .ok (.ireturn, 1) := by decide +kernel
