theorem dX5_init_0 : decode cX5_init 0 = .ok (.aload_n 0, 1) := by decide +kernel
theorem dX5_init_1 : decode cX5_init 1 = .ok (.invokespecial 1, 3) := by decide +kernel
theorem dX5_init_4 : decode cX5_init 4 = .ok (.aload_n 0, 1) := by decide +kernel
theorem dX5_init_5 : decode cX5_init 5 = .ok (.bipush 8, 2) := by decide +kernel
theorem dX5_init_7 : decode cX5_init 7 = .ok (.anewarray 9, 3) := by decide +kernel
theorem dX5_init_10 : decode cX5_init 10 = .ok (.putfield 11, 3) := by decide +kernel
theorem dX5_init_13 : decode cX5_init 13 = .ok (.aload_n 0, 1) := by decide +kernel
theorem dX5_init_14 : decode cX5_init 14 = .ok (.new 15, 3) := by decide +kernel
theorem dX5_init_17 : decode cX5_init 17 = .ok (.dup, 1) := by decide +kernel
theorem dX5_init_18 : decode cX5_init 18 = .ok (.invokespecial 17, 3) := by decide +kernel
theorem dX5_init_21 : decode cX5_init 21 = .ok (.putfield 18, 3) := by decide +kernel
theorem dX5_init_24 : decode cX5_init 24 = .ok (.aload_n 0, 1) := by decide +kernel
theorem dX5_init_25 : decode cX5_init 25 = .ok (.new 22, 3) := by decide +kernel
theorem dX5_init_28 : decode cX5_init 28 = .ok (.dup, 1) := by decide +kernel
theorem dX5_init_29 : decode cX5_init 29 = .ok (.invokespecial 24, 3) := by decide +kernel
theorem dX5_init_32 : decode cX5_init 32 = .ok (.putfield 25, 3) := by decide +kernel
theorem dX5_init_35 : decode cX5_init 35 = .ok (.aload_n 0, 1) := by decide +kernel
theorem dX5_init_36 : decode cX5_init 36 = .ok (.new 22, 3) := by decide +kernel
theorem dX5_init_39 : decode cX5_init 39 = .ok (.dup, 1) := by decide +kernel
theorem dX5_init_40 : decode cX5_init 40 = .ok (.invokespecial 24, 3) := by decide +kernel
theorem dX5_init_43 : decode cX5_init 43 = .ok (.putfield 29, 3) := by decide +kernel
theorem dX5_init_46 : decode cX5_init 46 = .ok (.aload_n 0, 1) := by decide +kernel
theorem dX5_init_47 : decode cX5_init 47 = .ok (.iconst 2, 1) := by decide +kernel
theorem dX5_init_48 : decode cX5_init 48 = .ok (.anewarray 22, 3) := by decide +kernel
theorem dX5_init_51 : decode cX5_init 51 = .ok (.putfield 32, 3) := by decide +kernel
theorem dX5_init_54 : decode cX5_init 54 = .ok (.aload_n 0, 1) := by decide +kernel
theorem dX5_init_55 : decode cX5_init 55 = .ok (.new 36, 3) := by decide +kernel
theorem dX5_init_58 : decode cX5_init 58 = .ok (.dup, 1) := by decide +kernel
theorem dX5_init_59 : decode cX5_init 59 = .ok (.invokespecial 38, 3) := by decide +kernel
theorem dX5_init_62 : decode cX5_init 62 = .ok (.putfield 39, 3) := by decide +kernel
theorem dX5_init_65 : decode cX5_init 65 = .ok (.aload_n 0, 1) := by decide +kernel
theorem dX5_init_66 : decode cX5_init 66 = .ok (.new 43, 3) := by decide +kernel
theorem dX5_init_69 : decode cX5_init 69 = .ok (.dup, 1) := by decide +kernel
theorem dX5_init_70 : decode cX5_init 70 = .ok (.invokespecial 45, 3) := by decide +kernel
theorem dX5_init_73 : decode cX5_init 73 = .ok (.putfield 46, 3) := by decide +kernel
theorem dX5_init_76 : decode cX5_init 76 = .ok (.aload_n 0, 1) := by decide +kernel
theorem dX5_init_77 : decode cX5_init 77 = .ok (.bipush 16, 2) := by decide +kernel
theorem dX5_init_79 : decode cX5_init 79 = .ok (.newarray .int, 2) := by decide +kernel
theorem dX5_init_81 : decode cX5_init 81 = .ok (.putfield 50, 3) := by decide +kernel
theorem dX5_init_84 : decode cX5_init 84 = .ok (.iconst 0, 1) := by decide +kernel
theorem dX5_init_85 : decode cX5_init 85 = .ok (.istore_n 1, 1) := by decide +kernel
theorem dX5_init_86 : decode cX5_init 86 = .ok (.iload_n 1, 1) := by decide +kernel
theorem dX5_init_87 : decode cX5_init 87 = .ok (.bipush 8, 2) := by decide +kernel
theorem dX5_init_89 : decode cX5_init 89 = .ok (.if_icmp .ge 22, 3) := by decide +kernel
theorem dX5_init_92 : decode cX5_init 92 = .ok (.aload_n 0, 1) := by decide +kernel
theorem dX5_init_93 : decode cX5_init 93 = .ok (.getfield 11, 3) := by decide +kernel
theorem dX5_init_96 : decode cX5_init 96 = .ok (.iload_n 1, 1) := by decide +kernel
theorem dX5_init_97 : decode cX5_init 97 = .ok (.new 9, 3) := by decide +kernel
theorem dX5_init_100 : decode cX5_init 100 = .ok (.dup, 1) := by decide +kernel
theorem dX5_init_101 : decode cX5_init 101 = .ok (.invokespecial 54, 3) := by decide +kernel
theorem dX5_init_104 : decode cX5_init 104 = .ok (.aastore, 1) := by decide +kernel
theorem dX5_init_105 : decode cX5_init 105 = .ok (.iinc 1 1, 3) := by decide +kernel
theorem dX5_init_108 : decode cX5_init 108 = .ok (.goto (-22), 3) := by decide +kernel
theorem dX5_init_111 : decode cX5_init 111 = .ok (.iconst 0, 1) := by decide +kernel
theorem dX5_init_112 : decode cX5_init 112 = .ok (.istore_n 1, 1) := by decide +kernel
theorem dX5_init_113 : decode cX5_init 113 = .ok (.iload_n 1, 1) := by decide +kernel
theorem dX5_init_114 : decode cX5_init 114 = .ok (.iconst 2, 1) := by decide +kernel
theorem dX5_init_115 : decode cX5_init 115 = .ok (.if_icmp .ge 22, 3) := by decide +kernel
theorem dX5_init_118 : decode cX5_init 118 = .ok (.aload_n 0, 1) := by decide +kernel
theorem dX5_init_119 : decode cX5_init 119 = .ok (.getfield 32, 3) := by decide +kernel
theorem dX5_init_122 : decode cX5_init 122 = .ok (.iload_n 1, 1) := by decide +kernel
theorem dX5_init_123 : decode cX5_init 123 = .ok (.new 22, 3) := by decide +kernel
theorem dX5_init_126 : decode cX5_init 126 = .ok (.dup, 1) := by decide +kernel
theorem dX5_init_127 : decode cX5_init 127 = .ok (.invokespecial 24, 3) := by decide +kernel
theorem dX5_init_130 : decode cX5_init 130 = .ok (.aastore, 1) := by decide +kernel
theorem dX5_init_131 : decode cX5_init 131 = .ok (.iinc 1 1, 3) := by decide +kernel
theorem dX5_init_134 : decode cX5_init 134 = .ok (.goto (-21), 3) := by decide +kernel
theorem dX5_init_137 : decode cX5_init 137 = .ok (.return_, 1) := by decide +kernel
theorem dX5_row_0 : decode cX5_row 0 = .ok (.iload_n 1, 1) := by decide +kernel
theorem dX5_row_1 : decode cX5_row 1 = .ok (.invokestatic 55, 3) := by decide +kernel
theorem dX5_row_4 : decode cX5_row 4 = .ok (.ifCond .eq 17, 3) := by decide +kernel
theorem dX5_row_7 : decode cX5_row 7 = .ok (.iload_n 2, 1) := by decide +kernel
theorem dX5_row_8 : decode cX5_row 8 = .ok (.iconst 3, 1) := by decide +kernel
theorem dX5_row_9 : decode cX5_row 9 = .ok (.invokestatic 59, 3) := by decide +kernel
theorem dX5_row_12 : decode cX5_row 12 = .ok (.ifCond .eq 9, 3) := by decide +kernel
theorem dX5_row_15 : decode cX5_row 15 = .ok (.iload_n 3, 1) := by decide +kernel
theorem dX5_row_16 : decode cX5_row 16 = .ok (.bipush 40, 2) := by decide +kernel
theorem dX5_row_18 : decode cX5_row 18 = .ok (.if_icmp .le 6, 3) := by decide +kernel
theorem dX5_row_21 : decode cX5_row 21 = .ok (.ldc 63, 2) := by decide +kernel
theorem dX5_row_23 : decode cX5_row 23 = .ok (.ireturn, 1) := by decide +kernel
theorem dX5_row_24 : decode cX5_row 24 = .ok (.iload_n 3, 1) := by decide +kernel
theorem dX5_row_25 : decode cX5_row 25 = .ok (.ifCond .ge 9, 3) := by decide +kernel
theorem dX5_row_28 : decode cX5_row 28 = .ok (.aload_n 0, 1) := by decide +kernel
theorem dX5_row_29 : decode cX5_row 29 = .ok (.iconst 4, 1) := by decide +kernel
theorem dX5_row_30 : decode cX5_row 30 = .ok (.invokevirtual 64, 3) := by decide +kernel
theorem dX5_row_33 : decode cX5_row 33 = .ok (.ireturn, 1) := by decide +kernel
theorem dX5_row_34 : decode cX5_row 34 = .ok (.aload_n 0, 1) := by decide +kernel
theorem dX5_row_35 : decode cX5_row 35 = .ok (.iconst 0, 1) := by decide +kernel
theorem dX5_row_36 : decode cX5_row 36 = .ok (.putfield 68, 3) := by decide +kernel
theorem dX5_row_39 : decode cX5_row 39 = .ok (.aload_n 0, 1) := by decide +kernel
theorem dX5_row_40 : decode cX5_row 40 = .ok (.getfield 11, 3) := by decide +kernel
theorem dX5_row_43 : decode cX5_row 43 = .ok (.iload_n 1, 1) := by decide +kernel
theorem dX5_row_44 : decode cX5_row 44 = .ok (.aaload, 1) := by decide +kernel
theorem dX5_row_45 : decode cX5_row 45 = .ok (.iload_n 2, 1) := by decide +kernel
theorem dX5_row_46 : decode cX5_row 46 = .ok (.iload_n 3, 1) := by decide +kernel
theorem dX5_row_47 : decode cX5_row 47 = .ok (.invokevirtual 72, 3) := by decide +kernel
theorem dX5_row_50 : decode cX5_row 50 = .ok (.iload_n 3, 1) := by decide +kernel
theorem dX5_row_51 : decode cX5_row 51 = .ok (.ireturn, 1) := by decide +kernel
theorem dX5_set_0 : decode cX5_set 0 = .ok (.iload_n 1, 1) := by decide +kernel
theorem dX5_set_1 : decode cX5_set 1 = .ok (.invokestatic 55, 3) := by decide +kernel
theorem dX5_set_4 : decode cX5_set 4 = .ok (.ifCond .ne 6, 3) := by decide +kernel
theorem dX5_set_7 : decode cX5_set 7 = .ok (.ldc 63, 2) := by decide +kernel
theorem dX5_set_9 : decode cX5_set 9 = .ok (.ireturn, 1) := by decide +kernel
theorem dX5_set_10 : decode cX5_set 10 = .ok (.aload_n 0, 1) := by decide +kernel
theorem dX5_set_11 : decode cX5_set 11 = .ok (.getfield 11, 3) := by decide +kernel
theorem dX5_set_14 : decode cX5_set 14 = .ok (.iload_n 1, 1) := by decide +kernel
theorem dX5_set_15 : decode cX5_set 15 = .ok (.aaload, 1) := by decide +kernel
theorem dX5_set_16 : decode cX5_set 16 = .ok (.astore 4, 2) := by decide +kernel
theorem dX5_set_18 : decode cX5_set 18 = .ok (.aload 4, 2) := by decide +kernel
theorem dX5_set_20 : decode cX5_set 20 = .ok (.getfield 76, 3) := by decide +kernel
theorem dX5_set_23 : decode cX5_set 23 = .ok (.iconst (-1), 1) := by decide +kernel
theorem dX5_set_24 : decode cX5_set 24 = .ok (.if_icmp .ne 9, 3) := by decide +kernel
theorem dX5_set_27 : decode cX5_set 27 = .ok (.aload_n 0, 1) := by decide +kernel
theorem dX5_set_28 : decode cX5_set 28 = .ok (.iconst 1, 1) := by decide +kernel
theorem dX5_set_29 : decode cX5_set 29 = .ok (.invokevirtual 64, 3) := by decide +kernel
theorem dX5_set_32 : decode cX5_set 32 = .ok (.ireturn, 1) := by decide +kernel
theorem dX5_set_33 : decode cX5_set 33 = .ok (.iload_n 2, 1) := by decide +kernel
theorem dX5_set_34 : decode cX5_set 34 = .ok (.aload 4, 2) := by decide +kernel
theorem dX5_set_36 : decode cX5_set 36 = .ok (.getfield 79, 3) := by decide +kernel
theorem dX5_set_39 : decode cX5_set 39 = .ok (.invokestatic 59, 3) := by decide +kernel
theorem dX5_set_42 : decode cX5_set 42 = .ok (.ifCond .ne 9, 3) := by decide +kernel
theorem dX5_set_45 : decode cX5_set 45 = .ok (.aload_n 0, 1) := by decide +kernel
theorem dX5_set_46 : decode cX5_set 46 = .ok (.iconst 2, 1) := by decide +kernel
theorem dX5_set_47 : decode cX5_set 47 = .ok (.invokevirtual 64, 3) := by decide +kernel
theorem dX5_set_50 : decode cX5_set 50 = .ok (.ireturn, 1) := by decide +kernel
theorem dX5_set_51 : decode cX5_set 51 = .ok (.aload_n 0, 1) := by decide +kernel
theorem dX5_set_52 : decode cX5_set 52 = .ok (.iconst 0, 1) := by decide +kernel
theorem dX5_set_53 : decode cX5_set 53 = .ok (.putfield 68, 3) := by decide +kernel
theorem dX5_set_56 : decode cX5_set 56 = .ok (.aload 4, 2) := by decide +kernel
theorem dX5_set_58 : decode cX5_set 58 = .ok (.getfield 82, 3) := by decide +kernel
theorem dX5_set_61 : decode cX5_set 61 = .ok (.iload_n 2, 1) := by decide +kernel
theorem dX5_set_62 : decode cX5_set 62 = .ok (.aload 4, 2) := by decide +kernel
theorem dX5_set_64 : decode cX5_set 64 = .ok (.iload_n 3, 1) := by decide +kernel
theorem dX5_set_65 : decode cX5_set 65 = .ok (.invokevirtual 85, 3) := by decide +kernel
theorem dX5_set_68 : decode cX5_set 68 = .ok (.iastore, 1) := by decide +kernel
theorem dX5_set_69 : decode cX5_set 69 = .ok (.aload 4, 2) := by decide +kernel
theorem dX5_set_71 : decode cX5_set 71 = .ok (.getfield 82, 3) := by decide +kernel
theorem dX5_set_74 : decode cX5_set 74 = .ok (.iload_n 2, 1) := by decide +kernel
theorem dX5_set_75 : decode cX5_set 75 = .ok (.iaload, 1) := by decide +kernel
theorem dX5_set_76 : decode cX5_set 76 = .ok (.ireturn, 1) := by decide +kernel
theorem dX5_copy_0 : decode cX5_copy 0 = .ok (.iload_n 1, 1) := by decide +kernel
theorem dX5_copy_1 : decode cX5_copy 1 = .ok (.invokestatic 55, 3) := by decide +kernel
theorem dX5_copy_4 : decode cX5_copy 4 = .ok (.ifCond .eq 10, 3) := by decide +kernel
theorem dX5_copy_7 : decode cX5_copy 7 = .ok (.iload_n 3, 1) := by decide +kernel
theorem dX5_copy_8 : decode cX5_copy 8 = .ok (.invokestatic 55, 3) := by decide +kernel
theorem dX5_copy_11 : decode cX5_copy 11 = .ok (.ifCond .ne 6, 3) := by decide +kernel
theorem dX5_copy_14 : decode cX5_copy 14 = .ok (.ldc 63, 2) := by decide +kernel
theorem dX5_copy_16 : decode cX5_copy 16 = .ok (.ireturn, 1) := by decide +kernel
theorem dX5_copy_17 : decode cX5_copy 17 = .ok (.aload_n 0, 1) := by decide +kernel
theorem dX5_copy_18 : decode cX5_copy 18 = .ok (.getfield 11, 3) := by decide +kernel
theorem dX5_copy_21 : decode cX5_copy 21 = .ok (.iload_n 1, 1) := by decide +kernel
theorem dX5_copy_22 : decode cX5_copy 22 = .ok (.aaload, 1) := by decide +kernel
theorem dX5_copy_23 : decode cX5_copy 23 = .ok (.astore 6, 2) := by decide +kernel
theorem dX5_copy_25 : decode cX5_copy 25 = .ok (.aload_n 0, 1) := by decide +kernel
theorem dX5_copy_26 : decode cX5_copy 26 = .ok (.getfield 11, 3) := by decide +kernel
theorem dX5_copy_29 : decode cX5_copy 29 = .ok (.iload_n 3, 1) := by decide +kernel
theorem dX5_copy_30 : decode cX5_copy 30 = .ok (.aaload, 1) := by decide +kernel
theorem dX5_copy_31 : decode cX5_copy 31 = .ok (.astore 7, 2) := by decide +kernel
theorem dX5_copy_33 : decode cX5_copy 33 = .ok (.aload 6, 2) := by decide +kernel
theorem dX5_copy_35 : decode cX5_copy 35 = .ok (.getfield 76, 3) := by decide +kernel
theorem dX5_copy_38 : decode cX5_copy 38 = .ok (.iconst (-1), 1) := by decide +kernel
theorem dX5_copy_39 : decode cX5_copy 39 = .ok (.if_icmp .eq 12, 3) := by decide +kernel
theorem dX5_copy_42 : decode cX5_copy 42 = .ok (.aload 7, 2) := by decide +kernel
theorem dX5_copy_44 : decode cX5_copy 44 = .ok (.getfield 76, 3) := by decide +kernel
theorem dX5_copy_47 : decode cX5_copy 47 = .ok (.iconst (-1), 1) := by decide +kernel
theorem dX5_copy_48 : decode cX5_copy 48 = .ok (.if_icmp .ne 9, 3) := by decide +kernel
theorem dX5_copy_51 : decode cX5_copy 51 = .ok (.aload_n 0, 1) := by decide +kernel
theorem dX5_copy_52 : decode cX5_copy 52 = .ok (.iconst 1, 1) := by decide +kernel
theorem dX5_copy_53 : decode cX5_copy 53 = .ok (.invokevirtual 64, 3) := by decide +kernel
theorem dX5_copy_56 : decode cX5_copy 56 = .ok (.ireturn, 1) := by decide +kernel
theorem dX5_copy_57 : decode cX5_copy 57 = .ok (.aload 6, 2) := by decide +kernel
theorem dX5_copy_59 : decode cX5_copy 59 = .ok (.getfield 76, 3) := by decide +kernel
theorem dX5_copy_62 : decode cX5_copy 62 = .ok (.aload 7, 2) := by decide +kernel
theorem dX5_copy_64 : decode cX5_copy 64 = .ok (.getfield 76, 3) := by decide +kernel
theorem dX5_copy_67 : decode cX5_copy 67 = .ok (.if_icmp .eq 9, 3) := by decide +kernel
theorem dX5_copy_70 : decode cX5_copy 70 = .ok (.aload_n 0, 1) := by decide +kernel
theorem dX5_copy_71 : decode cX5_copy 71 = .ok (.iconst 5, 1) := by decide +kernel
theorem dX5_copy_72 : decode cX5_copy 72 = .ok (.invokevirtual 64, 3) := by decide +kernel
theorem dX5_copy_75 : decode cX5_copy 75 = .ok (.ireturn, 1) := by decide +kernel
theorem dX5_copy_76 : decode cX5_copy 76 = .ok (.aload 6, 2) := by decide +kernel
theorem dX5_copy_78 : decode cX5_copy 78 = .ok (.iload_n 2, 1) := by decide +kernel
theorem dX5_copy_79 : decode cX5_copy 79 = .ok (.iload 5, 2) := by decide +kernel
theorem dX5_copy_81 : decode cX5_copy 81 = .ok (.invokevirtual 88, 3) := by decide +kernel
theorem dX5_copy_84 : decode cX5_copy 84 = .ok (.ifCond .eq 15, 3) := by decide +kernel
theorem dX5_copy_87 : decode cX5_copy 87 = .ok (.aload 7, 2) := by decide +kernel
theorem dX5_copy_89 : decode cX5_copy 89 = .ok (.iload 4, 2) := by decide +kernel
theorem dX5_copy_91 : decode cX5_copy 91 = .ok (.iload 5, 2) := by decide +kernel
theorem dX5_copy_93 : decode cX5_copy 93 = .ok (.invokevirtual 88, 3) := by decide +kernel
theorem dX5_copy_96 : decode cX5_copy 96 = .ok (.ifCond .ne 9, 3) := by decide +kernel
theorem dX5_copy_99 : decode cX5_copy 99 = .ok (.aload_n 0, 1) := by decide +kernel
theorem dX5_copy_100 : decode cX5_copy 100 = .ok (.iconst 2, 1) := by decide +kernel
theorem dX5_copy_101 : decode cX5_copy 101 = .ok (.invokevirtual 64, 3) := by decide +kernel
theorem dX5_copy_104 : decode cX5_copy 104 = .ok (.ireturn, 1) := by decide +kernel
theorem dX5_copy_105 : decode cX5_copy 105 = .ok (.aload_n 0, 1) := by decide +kernel
theorem dX5_copy_106 : decode cX5_copy 106 = .ok (.iconst 0, 1) := by decide +kernel
theorem dX5_copy_107 : decode cX5_copy 107 = .ok (.putfield 68, 3) := by decide +kernel
theorem dX5_copy_110 : decode cX5_copy 110 = .ok (.aload 6, 2) := by decide +kernel
theorem dX5_copy_112 : decode cX5_copy 112 = .ok (.getfield 82, 3) := by decide +kernel
theorem dX5_copy_115 : decode cX5_copy 115 = .ok (.iload_n 2, 1) := by decide +kernel
theorem dX5_copy_116 : decode cX5_copy 116 = .ok (.aload 7, 2) := by decide +kernel
theorem dX5_copy_118 : decode cX5_copy 118 = .ok (.getfield 82, 3) := by decide +kernel
theorem dX5_copy_121 : decode cX5_copy 121 = .ok (.iload 4, 2) := by decide +kernel
theorem dX5_copy_123 : decode cX5_copy 123 = .ok (.iload 5, 2) := by decide +kernel
theorem dX5_copy_125 : decode cX5_copy 125 = .ok (.invokestatic 91, 3) := by decide +kernel
theorem dX5_copy_128 : decode cX5_copy 128 = .ok (.iload 5, 2) := by decide +kernel
theorem dX5_copy_130 : decode cX5_copy 130 = .ok (.ireturn, 1) := by decide +kernel
theorem dX5_drop_0 : decode cX5_drop 0 = .ok (.iload_n 1, 1) := by decide +kernel
theorem dX5_drop_1 : decode cX5_drop 1 = .ok (.invokestatic 55, 3) := by decide +kernel
theorem dX5_drop_4 : decode cX5_drop 4 = .ok (.ifCond .ne 6, 3) := by decide +kernel
theorem dX5_drop_7 : decode cX5_drop 7 = .ok (.ldc 63, 2) := by decide +kernel
theorem dX5_drop_9 : decode cX5_drop 9 = .ok (.ireturn, 1) := by decide +kernel
theorem dX5_drop_10 : decode cX5_drop 10 = .ok (.aload_n 0, 1) := by decide +kernel
theorem dX5_drop_11 : decode cX5_drop 11 = .ok (.getfield 11, 3) := by decide +kernel
theorem dX5_drop_14 : decode cX5_drop 14 = .ok (.iload_n 1, 1) := by decide +kernel
theorem dX5_drop_15 : decode cX5_drop 15 = .ok (.aaload, 1) := by decide +kernel
theorem dX5_drop_16 : decode cX5_drop 16 = .ok (.astore_n 2, 1) := by decide +kernel
theorem dX5_drop_17 : decode cX5_drop 17 = .ok (.aload_n 2, 1) := by decide +kernel
theorem dX5_drop_18 : decode cX5_drop 18 = .ok (.getfield 76, 3) := by decide +kernel
theorem dX5_drop_21 : decode cX5_drop 21 = .ok (.iconst (-1), 1) := by decide +kernel
theorem dX5_drop_22 : decode cX5_drop 22 = .ok (.if_icmp .ne 9, 3) := by decide +kernel
theorem dX5_drop_25 : decode cX5_drop 25 = .ok (.aload_n 0, 1) := by decide +kernel
theorem dX5_drop_26 : decode cX5_drop 26 = .ok (.iconst 1, 1) := by decide +kernel
theorem dX5_drop_27 : decode cX5_drop 27 = .ok (.invokevirtual 64, 3) := by decide +kernel
theorem dX5_drop_30 : decode cX5_drop 30 = .ok (.ireturn, 1) := by decide +kernel
theorem dX5_drop_31 : decode cX5_drop 31 = .ok (.aload_n 0, 1) := by decide +kernel
theorem dX5_drop_32 : decode cX5_drop 32 = .ok (.iconst 0, 1) := by decide +kernel
theorem dX5_drop_33 : decode cX5_drop 33 = .ok (.putfield 68, 3) := by decide +kernel
theorem dX5_drop_36 : decode cX5_drop 36 = .ok (.aload_n 2, 1) := by decide +kernel
theorem dX5_drop_37 : decode cX5_drop 37 = .ok (.iconst (-1), 1) := by decide +kernel
theorem dX5_drop_38 : decode cX5_drop 38 = .ok (.putfield 76, 3) := by decide +kernel
theorem dX5_drop_41 : decode cX5_drop 41 = .ok (.aload_n 2, 1) := by decide +kernel
theorem dX5_drop_42 : decode cX5_drop 42 = .ok (.getfield 79, 3) := by decide +kernel
theorem dX5_drop_45 : decode cX5_drop 45 = .ok (.ireturn, 1) := by decide +kernel
theorem dX5_feed_0 : decode cX5_feed 0 = .ok (.iload_n 1, 1) := by decide +kernel
theorem dX5_feed_1 : decode cX5_feed 1 = .ok (.sipush 256, 3) := by decide +kernel
theorem dX5_feed_4 : decode cX5_feed 4 = .ok (.invokestatic 59, 3) := by decide +kernel
theorem dX5_feed_7 : decode cX5_feed 7 = .ok (.ifCond .ne 6, 3) := by decide +kernel
theorem dX5_feed_10 : decode cX5_feed 10 = .ok (.ldc 63, 2) := by decide +kernel
theorem dX5_feed_12 : decode cX5_feed 12 = .ok (.ireturn, 1) := by decide +kernel
theorem dX5_feed_13 : decode cX5_feed 13 = .ok (.aload_n 0, 1) := by decide +kernel
theorem dX5_feed_14 : decode cX5_feed 14 = .ok (.getfield 18, 3) := by decide +kernel
theorem dX5_feed_17 : decode cX5_feed 17 = .ok (.getfield 97, 3) := by decide +kernel
theorem dX5_feed_20 : decode cX5_feed 20 = .ok (.bipush 120, 2) := by decide +kernel
theorem dX5_feed_22 : decode cX5_feed 22 = .ok (.if_icmp .lt 6, 3) := by decide +kernel
theorem dX5_feed_25 : decode cX5_feed 25 = .ok (.ldc 100, 2) := by decide +kernel
theorem dX5_feed_27 : decode cX5_feed 27 = .ok (.ireturn, 1) := by decide +kernel
theorem dX5_feed_28 : decode cX5_feed 28 = .ok (.aload_n 0, 1) := by decide +kernel
theorem dX5_feed_29 : decode cX5_feed 29 = .ok (.getfield 18, 3) := by decide +kernel
theorem dX5_feed_32 : decode cX5_feed 32 = .ok (.getfield 101, 3) := by decide +kernel
theorem dX5_feed_35 : decode cX5_feed 35 = .ok (.aload_n 0, 1) := by decide +kernel
theorem dX5_feed_36 : decode cX5_feed 36 = .ok (.getfield 18, 3) := by decide +kernel
theorem dX5_feed_39 : decode cX5_feed 39 = .ok (.getfield 97, 3) := by decide +kernel
theorem dX5_feed_42 : decode cX5_feed 42 = .ok (.iload_n 1, 1) := by decide +kernel
theorem dX5_feed_43 : decode cX5_feed 43 = .ok (.iastore, 1) := by decide +kernel
theorem dX5_feed_44 : decode cX5_feed 44 = .ok (.aload_n 0, 1) := by decide +kernel
theorem dX5_feed_45 : decode cX5_feed 45 = .ok (.getfield 18, 3) := by decide +kernel
theorem dX5_feed_48 : decode cX5_feed 48 = .ok (.dup, 1) := by decide +kernel
theorem dX5_feed_49 : decode cX5_feed 49 = .ok (.getfield 97, 3) := by decide +kernel
theorem dX5_feed_52 : decode cX5_feed 52 = .ok (.iconst 1, 1) := by decide +kernel
theorem dX5_feed_53 : decode cX5_feed 53 = .ok (.iadd, 1) := by decide +kernel
theorem dX5_feed_54 : decode cX5_feed 54 = .ok (.putfield 97, 3) := by decide +kernel
theorem dX5_feed_57 : decode cX5_feed 57 = .ok (.aload_n 0, 1) := by decide +kernel
theorem dX5_feed_58 : decode cX5_feed 58 = .ok (.getfield 18, 3) := by decide +kernel
theorem dX5_feed_61 : decode cX5_feed 61 = .ok (.getfield 97, 3) := by decide +kernel
theorem dX5_feed_64 : decode cX5_feed 64 = .ok (.ireturn, 1) := by decide +kernel
theorem dX5_forest_0 : decode cX5_forest 0 = .ok (.aload_n 0, 1) := by decide +kernel
theorem dX5_forest_1 : decode cX5_forest 1 = .ok (.getfield 18, 3) := by decide +kernel
theorem dX5_forest_4 : decode cX5_forest 4 = .ok (.aload_n 0, 1) := by decide +kernel
theorem dX5_forest_5 : decode cX5_forest 5 = .ok (.getfield 29, 3) := by decide +kernel
theorem dX5_forest_8 : decode cX5_forest 8 = .ok (.invokevirtual 104, 3) := by decide +kernel
theorem dX5_forest_11 : decode cX5_forest 11 = .ok (.istore_n 1, 1) := by decide +kernel
theorem dX5_forest_12 : decode cX5_forest 12 = .ok (.aload_n 0, 1) := by decide +kernel
theorem dX5_forest_13 : decode cX5_forest 13 = .ok (.getfield 18, 3) := by decide +kernel
theorem dX5_forest_16 : decode cX5_forest 16 = .ok (.iconst 0, 1) := by decide +kernel
theorem dX5_forest_17 : decode cX5_forest 17 = .ok (.putfield 97, 3) := by decide +kernel
theorem dX5_forest_20 : decode cX5_forest 20 = .ok (.iload_n 1, 1) := by decide +kernel
theorem dX5_forest_21 : decode cX5_forest 21 = .ok (.ifCond .ne 14, 3) := by decide +kernel
theorem dX5_forest_24 : decode cX5_forest 24 = .ok (.ldc 108, 2) := by decide +kernel
theorem dX5_forest_26 : decode cX5_forest 26 = .ok (.aload_n 0, 1) := by decide +kernel
theorem dX5_forest_27 : decode cX5_forest 27 = .ok (.getfield 18, 3) := by decide +kernel
theorem dX5_forest_30 : decode cX5_forest 30 = .ok (.getfield 109, 3) := by decide +kernel
theorem dX5_forest_33 : decode cX5_forest 33 = .ok (.isub, 1) := by decide +kernel
theorem dX5_forest_34 : decode cX5_forest 34 = .ok (.ireturn, 1) := by decide +kernel
theorem dX5_forest_35 : decode cX5_forest 35 = .ok (.aload_n 0, 1) := by decide +kernel
theorem dX5_forest_36 : decode cX5_forest 36 = .ok (.getfield 25, 3) := by decide +kernel
theorem dX5_forest_39 : decode cX5_forest 39 = .ok (.aload_n 0, 1) := by decide +kernel
theorem dX5_forest_40 : decode cX5_forest 40 = .ok (.getfield 29, 3) := by decide +kernel
theorem dX5_forest_43 : decode cX5_forest 43 = .ok (.invokevirtual 112, 3) := by decide +kernel
theorem dX5_forest_46 : decode cX5_forest 46 = .ok (.aload_n 0, 1) := by decide +kernel
theorem dX5_forest_47 : decode cX5_forest 47 = .ok (.getfield 39, 3) := by decide +kernel
theorem dX5_forest_50 : decode cX5_forest 50 = .ok (.invokevirtual 116, 3) := by decide +kernel
theorem dX5_forest_53 : decode cX5_forest 53 = .ok (.aload_n 0, 1) := by decide +kernel
theorem dX5_forest_54 : decode cX5_forest 54 = .ok (.getfield 25, 3) := by decide +kernel
theorem dX5_forest_57 : decode cX5_forest 57 = .ok (.getfield 119, 3) := by decide +kernel
theorem dX5_forest_60 : decode cX5_forest 60 = .ok (.ireturn, 1) := by decide +kernel
theorem dX5_fault_0 : decode cX5_fault 0 = .ok (.aload_n 0, 1) := by decide +kernel
theorem dX5_fault_1 : decode cX5_fault 1 = .ok (.getfield 18, 3) := by decide +kernel
theorem dX5_fault_4 : decode cX5_fault 4 = .ok (.getfield 120, 3) := by decide +kernel
theorem dX5_fault_7 : decode cX5_fault 7 = .ok (.ireturn, 1) := by decide +kernel
theorem dX5_minutes_0 : decode cX5_minutes 0 = .ok (.aload_n 0, 1) := by decide +kernel
theorem dX5_minutes_1 : decode cX5_minutes 1 = .ok (.getfield 25, 3) := by decide +kernel
theorem dX5_minutes_4 : decode cX5_minutes 4 = .ok (.getfield 123, 3) := by decide +kernel
theorem dX5_minutes_7 : decode cX5_minutes 7 = .ok (.ifCond .ne 6, 3) := by decide +kernel
theorem dX5_minutes_10 : decode cX5_minutes 10 = .ok (.ldc 127, 2) := by decide +kernel
theorem dX5_minutes_12 : decode cX5_minutes 12 = .ok (.ireturn, 1) := by decide +kernel
theorem dX5_minutes_13 : decode cX5_minutes 13 = .ok (.iload_n 1, 1) := by decide +kernel
theorem dX5_minutes_14 : decode cX5_minutes 14 = .ok (.iconst 1, 1) := by decide +kernel
theorem dX5_minutes_15 : decode cX5_minutes 15 = .ok (.if_icmp .lt 9, 3) := by decide +kernel
theorem dX5_minutes_18 : decode cX5_minutes 18 = .ok (.iload_n 1, 1) := by decide +kernel
theorem dX5_minutes_19 : decode cX5_minutes 19 = .ok (.bipush 24, 2) := by decide +kernel
theorem dX5_minutes_21 : decode cX5_minutes 21 = .ok (.if_icmp .le 6, 3) := by decide +kernel
theorem dX5_minutes_24 : decode cX5_minutes 24 = .ok (.ldc 63, 2) := by decide +kernel
theorem dX5_minutes_26 : decode cX5_minutes 26 = .ok (.ireturn, 1) := by decide +kernel
theorem dX5_minutes_27 : decode cX5_minutes 27 = .ok (.aload_n 0, 1) := by decide +kernel
theorem dX5_minutes_28 : decode cX5_minutes 28 = .ok (.getfield 25, 3) := by decide +kernel
theorem dX5_minutes_31 : decode cX5_minutes 31 = .ok (.getfield 128, 3) := by decide +kernel
theorem dX5_minutes_34 : decode cX5_minutes 34 = .ok (.iload_n 1, 1) := by decide +kernel
theorem dX5_minutes_35 : decode cX5_minutes 35 = .ok (.iadd, 1) := by decide +kernel
theorem dX5_minutes_36 : decode cX5_minutes 36 = .ok (.sipush 999, 3) := by decide +kernel
theorem dX5_minutes_39 : decode cX5_minutes 39 = .ok (.if_icmp .le 6, 3) := by decide +kernel
theorem dX5_minutes_42 : decode cX5_minutes 42 = .ok (.ldc 100, 2) := by decide +kernel
theorem dX5_minutes_44 : decode cX5_minutes 44 = .ok (.ireturn, 1) := by decide +kernel
theorem dX5_minutes_45 : decode cX5_minutes 45 = .ok (.iconst 0, 1) := by decide +kernel
theorem dX5_minutes_46 : decode cX5_minutes 46 = .ok (.istore_n 2, 1) := by decide +kernel
theorem dX5_minutes_47 : decode cX5_minutes 47 = .ok (.iload_n 2, 1) := by decide +kernel
theorem dX5_minutes_48 : decode cX5_minutes 48 = .ok (.iload_n 1, 1) := by decide +kernel
theorem dX5_minutes_49 : decode cX5_minutes 49 = .ok (.if_icmp .ge 33, 3) := by decide +kernel
theorem dX5_minutes_52 : decode cX5_minutes 52 = .ok (.aload_n 0, 1) := by decide +kernel
theorem dX5_minutes_53 : decode cX5_minutes 53 = .ok (.getfield 39, 3) := by decide +kernel
theorem dX5_minutes_56 : decode cX5_minutes 56 = .ok (.iconst 0, 1) := by decide +kernel
theorem dX5_minutes_57 : decode cX5_minutes 57 = .ok (.iconst 0, 1) := by decide +kernel
theorem dX5_minutes_58 : decode cX5_minutes 58 = .ok (.iconst 0, 1) := by decide +kernel
theorem dX5_minutes_59 : decode cX5_minutes 59 = .ok (.iconst 0, 1) := by decide +kernel
theorem dX5_minutes_60 : decode cX5_minutes 60 = .ok (.invokevirtual 131, 3) := by decide +kernel
theorem dX5_minutes_63 : decode cX5_minutes 63 = .ok (.aload_n 0, 1) := by decide +kernel
theorem dX5_minutes_64 : decode cX5_minutes 64 = .ok (.getfield 25, 3) := by decide +kernel
theorem dX5_minutes_67 : decode cX5_minutes 67 = .ok (.dup, 1) := by decide +kernel
theorem dX5_minutes_68 : decode cX5_minutes 68 = .ok (.getfield 128, 3) := by decide +kernel
theorem dX5_minutes_71 : decode cX5_minutes 71 = .ok (.iconst 1, 1) := by decide +kernel
theorem dX5_minutes_72 : decode cX5_minutes 72 = .ok (.iadd, 1) := by decide +kernel
theorem dX5_minutes_73 : decode cX5_minutes 73 = .ok (.putfield 128, 3) := by decide +kernel
theorem dX5_minutes_76 : decode cX5_minutes 76 = .ok (.iinc 2 1, 3) := by decide +kernel
theorem dX5_minutes_79 : decode cX5_minutes 79 = .ok (.goto (-32), 3) := by decide +kernel
theorem dX5_minutes_82 : decode cX5_minutes 82 = .ok (.aload_n 0, 1) := by decide +kernel
theorem dX5_minutes_83 : decode cX5_minutes 83 = .ok (.getfield 25, 3) := by decide +kernel
theorem dX5_minutes_86 : decode cX5_minutes 86 = .ok (.aload_n 0, 1) := by decide +kernel
theorem dX5_minutes_87 : decode cX5_minutes 87 = .ok (.getfield 25, 3) := by decide +kernel
theorem dX5_minutes_90 : decode cX5_minutes 90 = .ok (.getfield 128, 3) := by decide +kernel
theorem dX5_minutes_93 : decode cX5_minutes 93 = .ok (.invokevirtual 135, 3) := by decide +kernel
theorem dX5_minutes_96 : decode cX5_minutes 96 = .ok (.ireturn, 1) := by decide +kernel
theorem dX5_sling_0 : decode cX5_sling 0 = .ok (.aload_n 0, 1) := by decide +kernel
theorem dX5_sling_1 : decode cX5_sling 1 = .ok (.iload_n 1, 1) := by decide +kernel
theorem dX5_sling_2 : decode cX5_sling 2 = .ok (.invokevirtual 138, 3) := by decide +kernel
theorem dX5_sling_5 : decode cX5_sling 5 = .ok (.ifCond .eq 18, 3) := by decide +kernel
theorem dX5_sling_8 : decode cX5_sling 8 = .ok (.iload_n 2, 1) := by decide +kernel
theorem dX5_sling_9 : decode cX5_sling 9 = .ok (.ifCond .lt 14, 3) := by decide +kernel
theorem dX5_sling_12 : decode cX5_sling 12 = .ok (.iload_n 3, 1) := by decide +kernel
theorem dX5_sling_13 : decode cX5_sling 13 = .ok (.bipush 12, 2) := by decide +kernel
theorem dX5_sling_15 : decode cX5_sling 15 = .ok (.if_icmp .ge 8, 3) := by decide +kernel
theorem dX5_sling_18 : decode cX5_sling 18 = .ok (.iload_n 3, 1) := by decide +kernel
theorem dX5_sling_19 : decode cX5_sling 19 = .ok (.iload_n 2, 1) := by decide +kernel
theorem dX5_sling_20 : decode cX5_sling 20 = .ok (.if_icmp .gt 6, 3) := by decide +kernel
theorem dX5_sling_23 : decode cX5_sling 23 = .ok (.ldc 63, 2) := by decide +kernel
theorem dX5_sling_25 : decode cX5_sling 25 = .ok (.ireturn, 1) := by decide +kernel
theorem dX5_sling_26 : decode cX5_sling 26 = .ok (.aload_n 0, 1) := by decide +kernel
theorem dX5_sling_27 : decode cX5_sling 27 = .ok (.getfield 25, 3) := by decide +kernel
theorem dX5_sling_30 : decode cX5_sling 30 = .ok (.getfield 141, 3) := by decide +kernel
theorem dX5_sling_33 : decode cX5_sling 33 = .ok (.iload_n 1, 1) := by decide +kernel
theorem dX5_sling_34 : decode cX5_sling 34 = .ok (.iaload, 1) := by decide +kernel
theorem dX5_sling_35 : decode cX5_sling 35 = .ok (.iload_n 2, 1) := by decide +kernel
theorem dX5_sling_36 : decode cX5_sling 36 = .ok (.if_icmp .ne 19, 3) := by decide +kernel
theorem dX5_sling_39 : decode cX5_sling 39 = .ok (.aload_n 0, 1) := by decide +kernel
theorem dX5_sling_40 : decode cX5_sling 40 = .ok (.getfield 25, 3) := by decide +kernel
theorem dX5_sling_43 : decode cX5_sling 43 = .ok (.getfield 144, 3) := by decide +kernel
theorem dX5_sling_46 : decode cX5_sling 46 = .ok (.iload_n 1, 1) := by decide +kernel
theorem dX5_sling_47 : decode cX5_sling 47 = .ok (.iaload, 1) := by decide +kernel
theorem dX5_sling_48 : decode cX5_sling 48 = .ok (.iload_n 3, 1) := by decide +kernel
theorem dX5_sling_49 : decode cX5_sling 49 = .ok (.if_icmp .ne 6, 3) := by decide +kernel
theorem dX5_sling_52 : decode cX5_sling 52 = .ok (.ldc 127, 2) := by decide +kernel
theorem dX5_sling_54 : decode cX5_sling 54 = .ok (.ireturn, 1) := by decide +kernel
theorem dX5_sling_55 : decode cX5_sling 55 = .ok (.aload_n 0, 1) := by decide +kernel
theorem dX5_sling_56 : decode cX5_sling 56 = .ok (.getfield 39, 3) := by decide +kernel
theorem dX5_sling_59 : decode cX5_sling 59 = .ok (.iconst 1, 1) := by decide +kernel
theorem dX5_sling_60 : decode cX5_sling 60 = .ok (.iload_n 1, 1) := by decide +kernel
theorem dX5_sling_61 : decode cX5_sling 61 = .ok (.aload_n 0, 1) := by decide +kernel
theorem dX5_sling_62 : decode cX5_sling 62 = .ok (.getfield 25, 3) := by decide +kernel
theorem dX5_sling_65 : decode cX5_sling 65 = .ok (.getfield 141, 3) := by decide +kernel
theorem dX5_sling_68 : decode cX5_sling 68 = .ok (.iload_n 1, 1) := by decide +kernel
theorem dX5_sling_69 : decode cX5_sling 69 = .ok (.iaload, 1) := by decide +kernel
theorem dX5_sling_70 : decode cX5_sling 70 = .ok (.aload_n 0, 1) := by decide +kernel
theorem dX5_sling_71 : decode cX5_sling 71 = .ok (.getfield 25, 3) := by decide +kernel
theorem dX5_sling_74 : decode cX5_sling 74 = .ok (.getfield 144, 3) := by decide +kernel
theorem dX5_sling_77 : decode cX5_sling 77 = .ok (.iload_n 1, 1) := by decide +kernel
theorem dX5_sling_78 : decode cX5_sling 78 = .ok (.iaload, 1) := by decide +kernel
theorem dX5_sling_79 : decode cX5_sling 79 = .ok (.invokevirtual 131, 3) := by decide +kernel
theorem dX5_sling_82 : decode cX5_sling 82 = .ok (.aload_n 0, 1) := by decide +kernel
theorem dX5_sling_83 : decode cX5_sling 83 = .ok (.getfield 25, 3) := by decide +kernel
theorem dX5_sling_86 : decode cX5_sling 86 = .ok (.getfield 141, 3) := by decide +kernel
theorem dX5_sling_89 : decode cX5_sling 89 = .ok (.iload_n 1, 1) := by decide +kernel
theorem dX5_sling_90 : decode cX5_sling 90 = .ok (.iload_n 2, 1) := by decide +kernel
theorem dX5_sling_91 : decode cX5_sling 91 = .ok (.iastore, 1) := by decide +kernel
theorem dX5_sling_92 : decode cX5_sling 92 = .ok (.aload_n 0, 1) := by decide +kernel
theorem dX5_sling_93 : decode cX5_sling 93 = .ok (.getfield 25, 3) := by decide +kernel
theorem dX5_sling_96 : decode cX5_sling 96 = .ok (.getfield 144, 3) := by decide +kernel
theorem dX5_sling_99 : decode cX5_sling 99 = .ok (.iload_n 1, 1) := by decide +kernel
theorem dX5_sling_100 : decode cX5_sling 100 = .ok (.iload_n 3, 1) := by decide +kernel
theorem dX5_sling_101 : decode cX5_sling 101 = .ok (.iastore, 1) := by decide +kernel
theorem dX5_sling_102 : decode cX5_sling 102 = .ok (.aload_n 0, 1) := by decide +kernel
theorem dX5_sling_103 : decode cX5_sling 103 = .ok (.getfield 25, 3) := by decide +kernel
theorem dX5_sling_106 : decode cX5_sling 106 = .ok (.iload_n 1, 1) := by decide +kernel
theorem dX5_sling_107 : decode cX5_sling 107 = .ok (.aload_n 0, 1) := by decide +kernel
theorem dX5_sling_108 : decode cX5_sling 108 = .ok (.getfield 25, 3) := by decide +kernel
theorem dX5_sling_111 : decode cX5_sling 111 = .ok (.getfield 128, 3) := by decide +kernel
theorem dX5_sling_114 : decode cX5_sling 114 = .ok (.invokevirtual 147, 3) := by decide +kernel
theorem dX5_sling_117 : decode cX5_sling 117 = .ok (.ireturn, 1) := by decide +kernel
theorem dX5_load_0 : decode cX5_load 0 = .ok (.aload_n 0, 1) := by decide +kernel
theorem dX5_load_1 : decode cX5_load 1 = .ok (.iload_n 1, 1) := by decide +kernel
theorem dX5_load_2 : decode cX5_load 2 = .ok (.invokevirtual 138, 3) := by decide +kernel
theorem dX5_load_5 : decode cX5_load 5 = .ok (.ifCond .eq 14, 3) := by decide +kernel
theorem dX5_load_8 : decode cX5_load 8 = .ok (.iload_n 2, 1) := by decide +kernel
theorem dX5_load_9 : decode cX5_load 9 = .ok (.iconst 1, 1) := by decide +kernel
theorem dX5_load_10 : decode cX5_load 10 = .ok (.if_icmp .lt 9, 3) := by decide +kernel
theorem dX5_load_13 : decode cX5_load 13 = .ok (.iload_n 2, 1) := by decide +kernel
theorem dX5_load_14 : decode cX5_load 14 = .ok (.bipush 20, 2) := by decide +kernel
theorem dX5_load_16 : decode cX5_load 16 = .ok (.if_icmp .le 6, 3) := by decide +kernel
theorem dX5_load_19 : decode cX5_load 19 = .ok (.ldc 63, 2) := by decide +kernel
theorem dX5_load_21 : decode cX5_load 21 = .ok (.ireturn, 1) := by decide +kernel
theorem dX5_load_22 : decode cX5_load 22 = .ok (.aload_n 0, 1) := by decide +kernel
theorem dX5_load_23 : decode cX5_load 23 = .ok (.getfield 39, 3) := by decide +kernel
theorem dX5_load_26 : decode cX5_load 26 = .ok (.iconst 2, 1) := by decide +kernel
theorem dX5_load_27 : decode cX5_load 27 = .ok (.iload_n 1, 1) := by decide +kernel
theorem dX5_load_28 : decode cX5_load 28 = .ok (.aload_n 0, 1) := by decide +kernel
theorem dX5_load_29 : decode cX5_load 29 = .ok (.getfield 25, 3) := by decide +kernel
theorem dX5_load_32 : decode cX5_load 32 = .ok (.getfield 151, 3) := by decide +kernel
theorem dX5_load_35 : decode cX5_load 35 = .ok (.iload_n 1, 1) := by decide +kernel
theorem dX5_load_36 : decode cX5_load 36 = .ok (.iaload, 1) := by decide +kernel
theorem dX5_load_37 : decode cX5_load 37 = .ok (.iconst 0, 1) := by decide +kernel
theorem dX5_load_38 : decode cX5_load 38 = .ok (.invokevirtual 131, 3) := by decide +kernel
theorem dX5_load_41 : decode cX5_load 41 = .ok (.aload_n 0, 1) := by decide +kernel
theorem dX5_load_42 : decode cX5_load 42 = .ok (.getfield 25, 3) := by decide +kernel
theorem dX5_load_45 : decode cX5_load 45 = .ok (.getfield 151, 3) := by decide +kernel
theorem dX5_load_48 : decode cX5_load 48 = .ok (.iload_n 1, 1) := by decide +kernel
theorem dX5_load_49 : decode cX5_load 49 = .ok (.iload_n 2, 1) := by decide +kernel
theorem dX5_load_50 : decode cX5_load 50 = .ok (.iastore, 1) := by decide +kernel
theorem dX5_load_51 : decode cX5_load 51 = .ok (.aload_n 0, 1) := by decide +kernel
theorem dX5_load_52 : decode cX5_load 52 = .ok (.getfield 25, 3) := by decide +kernel
theorem dX5_load_55 : decode cX5_load 55 = .ok (.iload_n 1, 1) := by decide +kernel
theorem dX5_load_56 : decode cX5_load 56 = .ok (.aload_n 0, 1) := by decide +kernel
theorem dX5_load_57 : decode cX5_load 57 = .ok (.getfield 25, 3) := by decide +kernel
theorem dX5_load_60 : decode cX5_load 60 = .ok (.getfield 128, 3) := by decide +kernel
theorem dX5_load_63 : decode cX5_load 63 = .ok (.invokevirtual 154, 3) := by decide +kernel
theorem dX5_load_66 : decode cX5_load 66 = .ok (.ireturn, 1) := by decide +kernel
theorem dX5_cord_0 : decode cX5_cord 0 = .ok (.aload_n 0, 1) := by decide +kernel
theorem dX5_cord_1 : decode cX5_cord 1 = .ok (.iload_n 1, 1) := by decide +kernel
theorem dX5_cord_2 : decode cX5_cord 2 = .ok (.invokevirtual 138, 3) := by decide +kernel
theorem dX5_cord_5 : decode cX5_cord 5 = .ok (.ifCond .eq 11, 3) := by decide +kernel
theorem dX5_cord_8 : decode cX5_cord 8 = .ok (.iload_n 2, 1) := by decide +kernel
theorem dX5_cord_9 : decode cX5_cord 9 = .ok (.iconst 2, 1) := by decide +kernel
theorem dX5_cord_10 : decode cX5_cord 10 = .ok (.invokestatic 59, 3) := by decide +kernel
theorem dX5_cord_13 : decode cX5_cord 13 = .ok (.ifCond .ne 6, 3) := by decide +kernel
theorem dX5_cord_16 : decode cX5_cord 16 = .ok (.ldc 63, 2) := by decide +kernel
theorem dX5_cord_18 : decode cX5_cord 18 = .ok (.ireturn, 1) := by decide +kernel
theorem dX5_cord_19 : decode cX5_cord 19 = .ok (.aload_n 0, 1) := by decide +kernel
theorem dX5_cord_20 : decode cX5_cord 20 = .ok (.getfield 25, 3) := by decide +kernel
theorem dX5_cord_23 : decode cX5_cord 23 = .ok (.iload_n 1, 1) := by decide +kernel
theorem dX5_cord_24 : decode cX5_cord 24 = .ok (.invokevirtual 157, 3) := by decide +kernel
theorem dX5_cord_27 : decode cX5_cord 27 = .ok (.iload_n 2, 1) := by decide +kernel
theorem dX5_cord_28 : decode cX5_cord 28 = .ok (.iconst 1, 1) := by decide +kernel
theorem dX5_cord_29 : decode cX5_cord 29 = .ok (.if_icmp .ne 7, 3) := by decide +kernel
theorem dX5_cord_32 : decode cX5_cord 32 = .ok (.iconst 1, 1) := by decide +kernel
theorem dX5_cord_33 : decode cX5_cord 33 = .ok (.goto 4, 3) := by decide +kernel
theorem dX5_cord_36 : decode cX5_cord 36 = .ok (.iconst 0, 1) := by decide +kernel
theorem dX5_cord_37 : decode cX5_cord 37 = .ok (.if_icmp .ne 6, 3) := by decide +kernel
theorem dX5_cord_40 : decode cX5_cord 40 = .ok (.ldc 127, 2) := by decide +kernel
theorem dX5_cord_42 : decode cX5_cord 42 = .ok (.ireturn, 1) := by decide +kernel
theorem dX5_cord_43 : decode cX5_cord 43 = .ok (.aload_n 0, 1) := by decide +kernel
theorem dX5_cord_44 : decode cX5_cord 44 = .ok (.getfield 39, 3) := by decide +kernel
theorem dX5_cord_47 : decode cX5_cord 47 = .ok (.iconst 3, 1) := by decide +kernel
theorem dX5_cord_48 : decode cX5_cord 48 = .ok (.iload_n 1, 1) := by decide +kernel
theorem dX5_cord_49 : decode cX5_cord 49 = .ok (.iconst 0, 1) := by decide +kernel
theorem dX5_cord_50 : decode cX5_cord 50 = .ok (.iconst 0, 1) := by decide +kernel
theorem dX5_cord_51 : decode cX5_cord 51 = .ok (.invokevirtual 131, 3) := by decide +kernel
theorem dX5_cord_54 : decode cX5_cord 54 = .ok (.aload_n 0, 1) := by decide +kernel
theorem dX5_cord_55 : decode cX5_cord 55 = .ok (.getfield 25, 3) := by decide +kernel
theorem dX5_cord_58 : decode cX5_cord 58 = .ok (.dup, 1) := by decide +kernel
theorem dX5_cord_59 : decode cX5_cord 59 = .ok (.getfield 160, 3) := by decide +kernel
theorem dX5_cord_62 : decode cX5_cord 62 = .ok (.iconst 1, 1) := by decide +kernel
theorem dX5_cord_63 : decode cX5_cord 63 = .ok (.iload_n 1, 1) := by decide +kernel
theorem dX5_cord_64 : decode cX5_cord 64 = .ok (.ishl, 1) := by decide +kernel
theorem dX5_cord_65 : decode cX5_cord 65 = .ok (.ixor, 1) := by decide +kernel
theorem dX5_cord_66 : decode cX5_cord 66 = .ok (.putfield 160, 3) := by decide +kernel
theorem dX5_cord_69 : decode cX5_cord 69 = .ok (.aload_n 0, 1) := by decide +kernel
theorem dX5_cord_70 : decode cX5_cord 70 = .ok (.getfield 25, 3) := by decide +kernel
theorem dX5_cord_73 : decode cX5_cord 73 = .ok (.getfield 160, 3) := by decide +kernel
theorem dX5_cord_76 : decode cX5_cord 76 = .ok (.ireturn, 1) := by decide +kernel
theorem dX5_undo_0 : decode cX5_undo 0 = .ok (.aload_n 0, 1) := by decide +kernel
theorem dX5_undo_1 : decode cX5_undo 1 = .ok (.getfield 39, 3) := by decide +kernel
theorem dX5_undo_4 : decode cX5_undo 4 = .ok (.getfield 163, 3) := by decide +kernel
theorem dX5_undo_7 : decode cX5_undo 7 = .ok (.ifCond .ne 6, 3) := by decide +kernel
theorem dX5_undo_10 : decode cX5_undo 10 = .ok (.ldc 127, 2) := by decide +kernel
theorem dX5_undo_12 : decode cX5_undo 12 = .ok (.ireturn, 1) := by decide +kernel
theorem dX5_undo_13 : decode cX5_undo 13 = .ok (.aload_n 0, 1) := by decide +kernel
theorem dX5_undo_14 : decode cX5_undo 14 = .ok (.getfield 39, 3) := by decide +kernel
theorem dX5_undo_17 : decode cX5_undo 17 = .ok (.aload_n 0, 1) := by decide +kernel
theorem dX5_undo_18 : decode cX5_undo 18 = .ok (.getfield 25, 3) := by decide +kernel
theorem dX5_undo_21 : decode cX5_undo 21 = .ok (.invokevirtual 166, 3) := by decide +kernel
theorem dX5_undo_24 : decode cX5_undo 24 = .ok (.aload_n 0, 1) := by decide +kernel
theorem dX5_undo_25 : decode cX5_undo 25 = .ok (.getfield 39, 3) := by decide +kernel
theorem dX5_undo_28 : decode cX5_undo 28 = .ok (.getfield 163, 3) := by decide +kernel
theorem dX5_undo_31 : decode cX5_undo 31 = .ok (.ireturn, 1) := by decide +kernel
theorem dX5_hammock_0 : decode cX5_hammock 0 = .ok (.aload_n 0, 1) := by decide +kernel
theorem dX5_hammock_1 : decode cX5_hammock 1 = .ok (.iload_n 1, 1) := by decide +kernel
theorem dX5_hammock_2 : decode cX5_hammock 2 = .ok (.invokevirtual 138, 3) := by decide +kernel
theorem dX5_hammock_5 : decode cX5_hammock 5 = .ok (.ifCond .ne 6, 3) := by decide +kernel
theorem dX5_hammock_8 : decode cX5_hammock 8 = .ok (.ldc 63, 2) := by decide +kernel
theorem dX5_hammock_10 : decode cX5_hammock 10 = .ok (.ireturn, 1) := by decide +kernel
theorem dX5_hammock_11 : decode cX5_hammock 11 = .ok (.iload_n 2, 1) := by decide +kernel
theorem dX5_hammock_12 : decode cX5_hammock 12 = .ok (.tableswitch 133 0 6 #[44, 54, 64, 74, 84, 101, 117], 44) := by decide +kernel
theorem dX5_hammock_56 : decode cX5_hammock 56 = .ok (.aload_n 0, 1) := by decide +kernel
theorem dX5_hammock_57 : decode cX5_hammock 57 = .ok (.getfield 25, 3) := by decide +kernel
theorem dX5_hammock_60 : decode cX5_hammock 60 = .ok (.getfield 141, 3) := by decide +kernel
theorem dX5_hammock_63 : decode cX5_hammock 63 = .ok (.iload_n 1, 1) := by decide +kernel
theorem dX5_hammock_64 : decode cX5_hammock 64 = .ok (.iaload, 1) := by decide +kernel
theorem dX5_hammock_65 : decode cX5_hammock 65 = .ok (.ireturn, 1) := by decide +kernel
theorem dX5_hammock_66 : decode cX5_hammock 66 = .ok (.aload_n 0, 1) := by decide +kernel
theorem dX5_hammock_67 : decode cX5_hammock 67 = .ok (.getfield 25, 3) := by decide +kernel
theorem dX5_hammock_70 : decode cX5_hammock 70 = .ok (.getfield 144, 3) := by decide +kernel
theorem dX5_hammock_73 : decode cX5_hammock 73 = .ok (.iload_n 1, 1) := by decide +kernel
theorem dX5_hammock_74 : decode cX5_hammock 74 = .ok (.iaload, 1) := by decide +kernel
theorem dX5_hammock_75 : decode cX5_hammock 75 = .ok (.ireturn, 1) := by decide +kernel
theorem dX5_hammock_76 : decode cX5_hammock 76 = .ok (.aload_n 0, 1) := by decide +kernel
theorem dX5_hammock_77 : decode cX5_hammock 77 = .ok (.getfield 25, 3) := by decide +kernel
theorem dX5_hammock_80 : decode cX5_hammock 80 = .ok (.getfield 151, 3) := by decide +kernel
theorem dX5_hammock_83 : decode cX5_hammock 83 = .ok (.iload_n 1, 1) := by decide +kernel
theorem dX5_hammock_84 : decode cX5_hammock 84 = .ok (.iaload, 1) := by decide +kernel
theorem dX5_hammock_85 : decode cX5_hammock 85 = .ok (.ireturn, 1) := by decide +kernel
theorem dX5_hammock_86 : decode cX5_hammock 86 = .ok (.aload_n 0, 1) := by decide +kernel
theorem dX5_hammock_87 : decode cX5_hammock 87 = .ok (.getfield 25, 3) := by decide +kernel
theorem dX5_hammock_90 : decode cX5_hammock 90 = .ok (.getfield 169, 3) := by decide +kernel
theorem dX5_hammock_93 : decode cX5_hammock 93 = .ok (.iload_n 1, 1) := by decide +kernel
theorem dX5_hammock_94 : decode cX5_hammock 94 = .ok (.iaload, 1) := by decide +kernel
theorem dX5_hammock_95 : decode cX5_hammock 95 = .ok (.ireturn, 1) := by decide +kernel
theorem dX5_hammock_96 : decode cX5_hammock 96 = .ok (.aload_n 0, 1) := by decide +kernel
theorem dX5_hammock_97 : decode cX5_hammock 97 = .ok (.getfield 25, 3) := by decide +kernel
theorem dX5_hammock_100 : decode cX5_hammock 100 = .ok (.iload_n 1, 1) := by decide +kernel
theorem dX5_hammock_101 : decode cX5_hammock 101 = .ok (.invokevirtual 157, 3) := by decide +kernel
theorem dX5_hammock_104 : decode cX5_hammock 104 = .ok (.ifCond .eq 7, 3) := by decide +kernel
theorem dX5_hammock_107 : decode cX5_hammock 107 = .ok (.iconst 1, 1) := by decide +kernel
theorem dX5_hammock_108 : decode cX5_hammock 108 = .ok (.goto 4, 3) := by decide +kernel
theorem dX5_hammock_111 : decode cX5_hammock 111 = .ok (.iconst 0, 1) := by decide +kernel
theorem dX5_hammock_112 : decode cX5_hammock 112 = .ok (.ireturn, 1) := by decide +kernel
theorem dX5_hammock_113 : decode cX5_hammock 113 = .ok (.aload_n 0, 1) := by decide +kernel
theorem dX5_hammock_114 : decode cX5_hammock 114 = .ok (.getfield 25, 3) := by decide +kernel
theorem dX5_hammock_117 : decode cX5_hammock 117 = .ok (.iload_n 1, 1) := by decide +kernel
theorem dX5_hammock_118 : decode cX5_hammock 118 = .ok (.aload_n 0, 1) := by decide +kernel
theorem dX5_hammock_119 : decode cX5_hammock 119 = .ok (.getfield 25, 3) := by decide +kernel
theorem dX5_hammock_122 : decode cX5_hammock 122 = .ok (.getfield 128, 3) := by decide +kernel
theorem dX5_hammock_125 : decode cX5_hammock 125 = .ok (.invokevirtual 154, 3) := by decide +kernel
theorem dX5_hammock_128 : decode cX5_hammock 128 = .ok (.ireturn, 1) := by decide +kernel
theorem dX5_hammock_129 : decode cX5_hammock 129 = .ok (.aload_n 0, 1) := by decide +kernel
theorem dX5_hammock_130 : decode cX5_hammock 130 = .ok (.getfield 25, 3) := by decide +kernel
theorem dX5_hammock_133 : decode cX5_hammock 133 = .ok (.iload_n 1, 1) := by decide +kernel
theorem dX5_hammock_134 : decode cX5_hammock 134 = .ok (.aload_n 0, 1) := by decide +kernel
theorem dX5_hammock_135 : decode cX5_hammock 135 = .ok (.getfield 25, 3) := by decide +kernel
theorem dX5_hammock_138 : decode cX5_hammock 138 = .ok (.getfield 128, 3) := by decide +kernel
theorem dX5_hammock_141 : decode cX5_hammock 141 = .ok (.invokevirtual 147, 3) := by decide +kernel
theorem dX5_hammock_144 : decode cX5_hammock 144 = .ok (.ireturn, 1) := by decide +kernel
theorem dX5_hammock_145 : decode cX5_hammock 145 = .ok (.ldc 63, 2) := by decide +kernel
theorem dX5_hammock_147 : decode cX5_hammock 147 = .ok (.ireturn, 1) := by decide +kernel
theorem dX5_ahead_0 : decode cX5_ahead 0 = .ok (.aload_n 0, 1) := by decide +kernel
theorem dX5_ahead_1 : decode cX5_ahead 1 = .ok (.iload_n 1, 1) := by decide +kernel
theorem dX5_ahead_2 : decode cX5_ahead 2 = .ok (.invokevirtual 138, 3) := by decide +kernel
theorem dX5_ahead_5 : decode cX5_ahead 5 = .ok (.ifCond .eq 18, 3) := by decide +kernel
theorem dX5_ahead_8 : decode cX5_ahead 8 = .ok (.iload_n 2, 1) := by decide +kernel
theorem dX5_ahead_9 : decode cX5_ahead 9 = .ok (.invokestatic 172, 3) := by decide +kernel
theorem dX5_ahead_12 : decode cX5_ahead 12 = .ok (.ifCond .eq 11, 3) := by decide +kernel
theorem dX5_ahead_15 : decode cX5_ahead 15 = .ok (.iload_n 3, 1) := by decide +kernel
theorem dX5_ahead_16 : decode cX5_ahead 16 = .ok (.iconst 2, 1) := by decide +kernel
theorem dX5_ahead_17 : decode cX5_ahead 17 = .ok (.invokestatic 59, 3) := by decide +kernel
theorem dX5_ahead_20 : decode cX5_ahead 20 = .ok (.ifCond .ne 6, 3) := by decide +kernel
theorem dX5_ahead_23 : decode cX5_ahead 23 = .ok (.ldc 63, 2) := by decide +kernel
theorem dX5_ahead_25 : decode cX5_ahead 25 = .ok (.ireturn, 1) := by decide +kernel
theorem dX5_ahead_26 : decode cX5_ahead 26 = .ok (.aload_n 0, 1) := by decide +kernel
theorem dX5_ahead_27 : decode cX5_ahead 27 = .ok (.getfield 25, 3) := by decide +kernel
theorem dX5_ahead_30 : decode cX5_ahead 30 = .ok (.getfield 128, 3) := by decide +kernel
theorem dX5_ahead_33 : decode cX5_ahead 33 = .ok (.iload_n 2, 1) := by decide +kernel
theorem dX5_ahead_34 : decode cX5_ahead 34 = .ok (.iadd, 1) := by decide +kernel
theorem dX5_ahead_35 : decode cX5_ahead 35 = .ok (.istore 4, 2) := by decide +kernel
theorem dX5_ahead_37 : decode cX5_ahead 37 = .ok (.iload_n 3, 1) := by decide +kernel
theorem dX5_ahead_38 : decode cX5_ahead 38 = .ok (.ifCond .ne 16, 3) := by decide +kernel
theorem dX5_ahead_41 : decode cX5_ahead 41 = .ok (.aload_n 0, 1) := by decide +kernel
theorem dX5_ahead_42 : decode cX5_ahead 42 = .ok (.getfield 25, 3) := by decide +kernel
theorem dX5_ahead_45 : decode cX5_ahead 45 = .ok (.iload_n 1, 1) := by decide +kernel
theorem dX5_ahead_46 : decode cX5_ahead 46 = .ok (.iload 4, 2) := by decide +kernel
theorem dX5_ahead_48 : decode cX5_ahead 48 = .ok (.invokevirtual 147, 3) := by decide +kernel
theorem dX5_ahead_51 : decode cX5_ahead 51 = .ok (.goto 13, 3) := by decide +kernel
theorem dX5_ahead_54 : decode cX5_ahead 54 = .ok (.aload_n 0, 1) := by decide +kernel
theorem dX5_ahead_55 : decode cX5_ahead 55 = .ok (.getfield 25, 3) := by decide +kernel
theorem dX5_ahead_58 : decode cX5_ahead 58 = .ok (.iload_n 1, 1) := by decide +kernel
theorem dX5_ahead_59 : decode cX5_ahead 59 = .ok (.iload 4, 2) := by decide +kernel
theorem dX5_ahead_61 : decode cX5_ahead 61 = .ok (.invokevirtual 154, 3) := by decide +kernel
theorem dX5_ahead_64 : decode cX5_ahead 64 = .ok (.ireturn, 1) := by decide +kernel
theorem dX5_down_0 : decode cX5_down 0 = .ok (.aload_n 0, 1) := by decide +kernel
theorem dX5_down_1 : decode cX5_down 1 = .ok (.getfield 25, 3) := by decide +kernel
theorem dX5_down_4 : decode cX5_down 4 = .ok (.getfield 123, 3) := by decide +kernel
theorem dX5_down_7 : decode cX5_down 7 = .ok (.ifCond .ne 6, 3) := by decide +kernel
theorem dX5_down_10 : decode cX5_down 10 = .ok (.ldc 127, 2) := by decide +kernel
theorem dX5_down_12 : decode cX5_down 12 = .ok (.ireturn, 1) := by decide +kernel
theorem dX5_down_13 : decode cX5_down 13 = .ok (.iload_n 1, 1) := by decide +kernel
theorem dX5_down_14 : decode cX5_down 14 = .ok (.invokestatic 172, 3) := by decide +kernel
theorem dX5_down_17 : decode cX5_down 17 = .ok (.ifCond .eq 22, 3) := by decide +kernel
theorem dX5_down_20 : decode cX5_down 20 = .ok (.aload_n 0, 1) := by decide +kernel
theorem dX5_down_21 : decode cX5_down 21 = .ok (.getfield 25, 3) := by decide +kernel
theorem dX5_down_24 : decode cX5_down 24 = .ok (.aload_n 0, 1) := by decide +kernel
theorem dX5_down_25 : decode cX5_down 25 = .ok (.getfield 25, 3) := by decide +kernel
theorem dX5_down_28 : decode cX5_down 28 = .ok (.getfield 128, 3) := by decide +kernel
theorem dX5_down_31 : decode cX5_down 31 = .ok (.iload_n 1, 1) := by decide +kernel
theorem dX5_down_32 : decode cX5_down 32 = .ok (.iadd, 1) := by decide +kernel
theorem dX5_down_33 : decode cX5_down 33 = .ok (.invokevirtual 135, 3) := by decide +kernel
theorem dX5_down_36 : decode cX5_down 36 = .ok (.goto 5, 3) := by decide +kernel
theorem dX5_down_39 : decode cX5_down 39 = .ok (.ldc 63, 2) := by decide +kernel
theorem dX5_down_41 : decode cX5_down 41 = .ok (.ireturn, 1) := by decide +kernel
theorem dX5_reach_0 : decode cX5_reach 0 = .ok (.aload_n 0, 1) := by decide +kernel
theorem dX5_reach_1 : decode cX5_reach 1 = .ok (.iload_n 1, 1) := by decide +kernel
theorem dX5_reach_2 : decode cX5_reach 2 = .ok (.invokevirtual 138, 3) := by decide +kernel
theorem dX5_reach_5 : decode cX5_reach 5 = .ok (.ifCond .eq 10, 3) := by decide +kernel
theorem dX5_reach_8 : decode cX5_reach 8 = .ok (.iload_n 2, 1) := by decide +kernel
theorem dX5_reach_9 : decode cX5_reach 9 = .ok (.invokestatic 172, 3) := by decide +kernel
theorem dX5_reach_12 : decode cX5_reach 12 = .ok (.ifCond .ne 6, 3) := by decide +kernel
theorem dX5_reach_15 : decode cX5_reach 15 = .ok (.ldc 63, 2) := by decide +kernel
theorem dX5_reach_17 : decode cX5_reach 17 = .ok (.ireturn, 1) := by decide +kernel
theorem dX5_reach_18 : decode cX5_reach 18 = .ok (.aload_n 0, 1) := by decide +kernel
theorem dX5_reach_19 : decode cX5_reach 19 = .ok (.getfield 25, 3) := by decide +kernel
theorem dX5_reach_22 : decode cX5_reach 22 = .ok (.iload_n 1, 1) := by decide +kernel
theorem dX5_reach_23 : decode cX5_reach 23 = .ok (.aload_n 0, 1) := by decide +kernel
theorem dX5_reach_24 : decode cX5_reach 24 = .ok (.getfield 25, 3) := by decide +kernel
theorem dX5_reach_27 : decode cX5_reach 27 = .ok (.getfield 128, 3) := by decide +kernel
theorem dX5_reach_30 : decode cX5_reach 30 = .ok (.iload_n 2, 1) := by decide +kernel
theorem dX5_reach_31 : decode cX5_reach 31 = .ok (.iadd, 1) := by decide +kernel
theorem dX5_reach_32 : decode cX5_reach 32 = .ok (.invokevirtual 175, 3) := by decide +kernel
theorem dX5_reach_35 : decode cX5_reach 35 = .ok (.ireturn, 1) := by decide +kernel
theorem dX5_meet_0 : decode cX5_meet 0 = .ok (.aload_n 0, 1) := by decide +kernel
theorem dX5_meet_1 : decode cX5_meet 1 = .ok (.iload_n 1, 1) := by decide +kernel
theorem dX5_meet_2 : decode cX5_meet 2 = .ok (.iload_n 2, 1) := by decide +kernel
theorem dX5_meet_3 : decode cX5_meet 3 = .ok (.invokevirtual 178, 3) := by decide +kernel
theorem dX5_meet_6 : decode cX5_meet 6 = .ok (.ifCond .ne 6, 3) := by decide +kernel
theorem dX5_meet_9 : decode cX5_meet 9 = .ok (.ldc 63, 2) := by decide +kernel
theorem dX5_meet_11 : decode cX5_meet 11 = .ok (.ireturn, 1) := by decide +kernel
theorem dX5_meet_12 : decode cX5_meet 12 = .ok (.iconst 0, 1) := by decide +kernel
theorem dX5_meet_13 : decode cX5_meet 13 = .ok (.istore_n 3, 1) := by decide +kernel
theorem dX5_meet_14 : decode cX5_meet 14 = .ok (.iload_n 3, 1) := by decide +kernel
theorem dX5_meet_15 : decode cX5_meet 15 = .ok (.bipush 60, 2) := by decide +kernel
theorem dX5_meet_17 : decode cX5_meet 17 = .ok (.if_icmp .gt 55, 3) := by decide +kernel
theorem dX5_meet_20 : decode cX5_meet 20 = .ok (.aload_n 0, 1) := by decide +kernel
theorem dX5_meet_21 : decode cX5_meet 21 = .ok (.getfield 25, 3) := by decide +kernel
theorem dX5_meet_24 : decode cX5_meet 24 = .ok (.aload_n 0, 1) := by decide +kernel
theorem dX5_meet_25 : decode cX5_meet 25 = .ok (.getfield 25, 3) := by decide +kernel
theorem dX5_meet_28 : decode cX5_meet 28 = .ok (.iload_n 1, 1) := by decide +kernel
theorem dX5_meet_29 : decode cX5_meet 29 = .ok (.aload_n 0, 1) := by decide +kernel
theorem dX5_meet_30 : decode cX5_meet 30 = .ok (.getfield 25, 3) := by decide +kernel
theorem dX5_meet_33 : decode cX5_meet 33 = .ok (.getfield 128, 3) := by decide +kernel
theorem dX5_meet_36 : decode cX5_meet 36 = .ok (.iload_n 3, 1) := by decide +kernel
theorem dX5_meet_37 : decode cX5_meet 37 = .ok (.iadd, 1) := by decide +kernel
theorem dX5_meet_38 : decode cX5_meet 38 = .ok (.invokevirtual 181, 3) := by decide +kernel
theorem dX5_meet_41 : decode cX5_meet 41 = .ok (.aload_n 0, 1) := by decide +kernel
theorem dX5_meet_42 : decode cX5_meet 42 = .ok (.getfield 25, 3) := by decide +kernel
theorem dX5_meet_45 : decode cX5_meet 45 = .ok (.iload_n 2, 1) := by decide +kernel
theorem dX5_meet_46 : decode cX5_meet 46 = .ok (.aload_n 0, 1) := by decide +kernel
theorem dX5_meet_47 : decode cX5_meet 47 = .ok (.getfield 25, 3) := by decide +kernel
theorem dX5_meet_50 : decode cX5_meet 50 = .ok (.getfield 128, 3) := by decide +kernel
theorem dX5_meet_53 : decode cX5_meet 53 = .ok (.iload_n 3, 1) := by decide +kernel
theorem dX5_meet_54 : decode cX5_meet 54 = .ok (.iadd, 1) := by decide +kernel
theorem dX5_meet_55 : decode cX5_meet 55 = .ok (.invokevirtual 181, 3) := by decide +kernel
theorem dX5_meet_58 : decode cX5_meet 58 = .ok (.invokevirtual 184, 3) := by decide +kernel
theorem dX5_meet_61 : decode cX5_meet 61 = .ok (.ifCond .eq 5, 3) := by decide +kernel
theorem dX5_meet_64 : decode cX5_meet 64 = .ok (.iload_n 3, 1) := by decide +kernel
theorem dX5_meet_65 : decode cX5_meet 65 = .ok (.ireturn, 1) := by decide +kernel
theorem dX5_meet_66 : decode cX5_meet 66 = .ok (.iinc 3 1, 3) := by decide +kernel
theorem dX5_meet_69 : decode cX5_meet 69 = .ok (.goto (-55), 3) := by decide +kernel
theorem dX5_meet_72 : decode cX5_meet 72 = .ok (.ldc 187, 2) := by decide +kernel
theorem dX5_meet_74 : decode cX5_meet 74 = .ok (.ireturn, 1) := by decide +kernel
theorem dX5_soonest_0 : decode cX5_soonest 0 = .ok (.aload_n 0, 1) := by decide +kernel
theorem dX5_soonest_1 : decode cX5_soonest 1 = .ok (.iload_n 1, 1) := by decide +kernel
theorem dX5_soonest_2 : decode cX5_soonest 2 = .ok (.invokevirtual 138, 3) := by decide +kernel
theorem dX5_soonest_5 : decode cX5_soonest 5 = .ok (.ifCond .eq 11, 3) := by decide +kernel
theorem dX5_soonest_8 : decode cX5_soonest 8 = .ok (.aload_n 0, 1) := by decide +kernel
theorem dX5_soonest_9 : decode cX5_soonest 9 = .ok (.iload_n 2, 1) := by decide +kernel
theorem dX5_soonest_10 : decode cX5_soonest 10 = .ok (.invokevirtual 138, 3) := by decide +kernel
theorem dX5_soonest_13 : decode cX5_soonest 13 = .ok (.ifCond .ne 6, 3) := by decide +kernel
theorem dX5_soonest_16 : decode cX5_soonest 16 = .ok (.ldc 63, 2) := by decide +kernel
theorem dX5_soonest_18 : decode cX5_soonest 18 = .ok (.ireturn, 1) := by decide +kernel
theorem dX5_soonest_19 : decode cX5_soonest 19 = .ok (.aload_n 0, 1) := by decide +kernel
theorem dX5_soonest_20 : decode cX5_soonest 20 = .ok (.getfield 46, 3) := by decide +kernel
theorem dX5_soonest_23 : decode cX5_soonest 23 = .ok (.aload_n 0, 1) := by decide +kernel
theorem dX5_soonest_24 : decode cX5_soonest 24 = .ok (.getfield 25, 3) := by decide +kernel
theorem dX5_soonest_27 : decode cX5_soonest 27 = .ok (.bipush 60, 2) := by decide +kernel
theorem dX5_soonest_29 : decode cX5_soonest 29 = .ok (.invokevirtual 188, 3) := by decide +kernel
theorem dX5_soonest_32 : decode cX5_soonest 32 = .ok (.aload_n 0, 1) := by decide +kernel
theorem dX5_soonest_33 : decode cX5_soonest 33 = .ok (.getfield 46, 3) := by decide +kernel
theorem dX5_soonest_36 : decode cX5_soonest 36 = .ok (.iload_n 1, 1) := by decide +kernel
theorem dX5_soonest_37 : decode cX5_soonest 37 = .ok (.iload_n 2, 1) := by decide +kernel
theorem dX5_soonest_38 : decode cX5_soonest 38 = .ok (.bipush 60, 2) := by decide +kernel
theorem dX5_soonest_40 : decode cX5_soonest 40 = .ok (.iconst 0, 1) := by decide +kernel
theorem dX5_soonest_41 : decode cX5_soonest 41 = .ok (.invokevirtual 192, 3) := by decide +kernel
theorem dX5_soonest_44 : decode cX5_soonest 44 = .ok (.ireturn, 1) := by decide +kernel
theorem dX5_hands_0 : decode cX5_hands 0 = .ok (.aload_n 0, 1) := by decide +kernel
theorem dX5_hands_1 : decode cX5_hands 1 = .ok (.iload_n 1, 1) := by decide +kernel
theorem dX5_hands_2 : decode cX5_hands 2 = .ok (.invokevirtual 138, 3) := by decide +kernel
theorem dX5_hands_5 : decode cX5_hands 5 = .ok (.ifCond .eq 11, 3) := by decide +kernel
theorem dX5_hands_8 : decode cX5_hands 8 = .ok (.aload_n 0, 1) := by decide +kernel
theorem dX5_hands_9 : decode cX5_hands 9 = .ok (.iload_n 2, 1) := by decide +kernel
theorem dX5_hands_10 : decode cX5_hands 10 = .ok (.invokevirtual 138, 3) := by decide +kernel
theorem dX5_hands_13 : decode cX5_hands 13 = .ok (.ifCond .ne 6, 3) := by decide +kernel
theorem dX5_hands_16 : decode cX5_hands 16 = .ok (.ldc 63, 2) := by decide +kernel
theorem dX5_hands_18 : decode cX5_hands 18 = .ok (.ireturn, 1) := by decide +kernel
theorem dX5_hands_19 : decode cX5_hands 19 = .ok (.aload_n 0, 1) := by decide +kernel
theorem dX5_hands_20 : decode cX5_hands 20 = .ok (.getfield 46, 3) := by decide +kernel
theorem dX5_hands_23 : decode cX5_hands 23 = .ok (.aload_n 0, 1) := by decide +kernel
theorem dX5_hands_24 : decode cX5_hands 24 = .ok (.getfield 25, 3) := by decide +kernel
theorem dX5_hands_27 : decode cX5_hands 27 = .ok (.bipush 60, 2) := by decide +kernel
theorem dX5_hands_29 : decode cX5_hands 29 = .ok (.invokevirtual 188, 3) := by decide +kernel
theorem dX5_hands_32 : decode cX5_hands 32 = .ok (.aload_n 0, 1) := by decide +kernel
theorem dX5_hands_33 : decode cX5_hands 33 = .ok (.getfield 46, 3) := by decide +kernel
theorem dX5_hands_36 : decode cX5_hands 36 = .ok (.iload_n 1, 1) := by decide +kernel
theorem dX5_hands_37 : decode cX5_hands 37 = .ok (.iload_n 2, 1) := by decide +kernel
theorem dX5_hands_38 : decode cX5_hands 38 = .ok (.invokevirtual 196, 3) := by decide +kernel
theorem dX5_hands_41 : decode cX5_hands 41 = .ok (.ireturn, 1) := by decide +kernel
theorem dX5_everywhere_0 : decode cX5_everywhere 0 = .ok (.aload_n 0, 1) := by decide +kernel
theorem dX5_everywhere_1 : decode cX5_everywhere 1 = .ok (.iload_n 1, 1) := by decide +kernel
theorem dX5_everywhere_2 : decode cX5_everywhere 2 = .ok (.invokevirtual 138, 3) := by decide +kernel
theorem dX5_everywhere_5 : decode cX5_everywhere 5 = .ok (.ifCond .eq 10, 3) := by decide +kernel
theorem dX5_everywhere_8 : decode cX5_everywhere 8 = .ok (.iload_n 2, 1) := by decide +kernel
theorem dX5_everywhere_9 : decode cX5_everywhere 9 = .ok (.invokestatic 172, 3) := by decide +kernel
theorem dX5_everywhere_12 : decode cX5_everywhere 12 = .ok (.ifCond .ne 6, 3) := by decide +kernel
theorem dX5_everywhere_15 : decode cX5_everywhere 15 = .ok (.ldc 63, 2) := by decide +kernel
theorem dX5_everywhere_17 : decode cX5_everywhere 17 = .ok (.ireturn, 1) := by decide +kernel
theorem dX5_everywhere_18 : decode cX5_everywhere 18 = .ok (.aload_n 0, 1) := by decide +kernel
theorem dX5_everywhere_19 : decode cX5_everywhere 19 = .ok (.getfield 46, 3) := by decide +kernel
theorem dX5_everywhere_22 : decode cX5_everywhere 22 = .ok (.aload_n 0, 1) := by decide +kernel
theorem dX5_everywhere_23 : decode cX5_everywhere 23 = .ok (.getfield 25, 3) := by decide +kernel
theorem dX5_everywhere_26 : decode cX5_everywhere 26 = .ok (.iload_n 2, 1) := by decide +kernel
theorem dX5_everywhere_27 : decode cX5_everywhere 27 = .ok (.invokevirtual 188, 3) := by decide +kernel
theorem dX5_everywhere_30 : decode cX5_everywhere 30 = .ok (.aload_n 0, 1) := by decide +kernel
theorem dX5_everywhere_31 : decode cX5_everywhere 31 = .ok (.getfield 46, 3) := by decide +kernel
theorem dX5_everywhere_34 : decode cX5_everywhere 34 = .ok (.iload_n 1, 1) := by decide +kernel
theorem dX5_everywhere_35 : decode cX5_everywhere 35 = .ok (.iload_n 2, 1) := by decide +kernel
theorem dX5_everywhere_36 : decode cX5_everywhere 36 = .ok (.invokevirtual 199, 3) := by decide +kernel
theorem dX5_everywhere_39 : decode cX5_everywhere 39 = .ok (.ireturn, 1) := by decide +kernel
theorem dX5_stops_0 : decode cX5_stops 0 = .ok (.aload_n 0, 1) := by decide +kernel
theorem dX5_stops_1 : decode cX5_stops 1 = .ok (.iload_n 1, 1) := by decide +kernel
theorem dX5_stops_2 : decode cX5_stops 2 = .ok (.iload_n 2, 1) := by decide +kernel
theorem dX5_stops_3 : decode cX5_stops 3 = .ok (.invokevirtual 178, 3) := by decide +kernel
theorem dX5_stops_6 : decode cX5_stops 6 = .ok (.ifCond .eq 10, 3) := by decide +kernel
theorem dX5_stops_9 : decode cX5_stops 9 = .ok (.iload_n 3, 1) := by decide +kernel
theorem dX5_stops_10 : decode cX5_stops 10 = .ok (.invokestatic 172, 3) := by decide +kernel
theorem dX5_stops_13 : decode cX5_stops 13 = .ok (.ifCond .ne 6, 3) := by decide +kernel
theorem dX5_stops_16 : decode cX5_stops 16 = .ok (.ldc 63, 2) := by decide +kernel
theorem dX5_stops_18 : decode cX5_stops 18 = .ok (.ireturn, 1) := by decide +kernel
theorem dX5_stops_19 : decode cX5_stops 19 = .ok (.aload_n 0, 1) := by decide +kernel
theorem dX5_stops_20 : decode cX5_stops 20 = .ok (.getfield 46, 3) := by decide +kernel
theorem dX5_stops_23 : decode cX5_stops 23 = .ok (.aload_n 0, 1) := by decide +kernel
theorem dX5_stops_24 : decode cX5_stops 24 = .ok (.getfield 25, 3) := by decide +kernel
theorem dX5_stops_27 : decode cX5_stops 27 = .ok (.iload_n 3, 1) := by decide +kernel
theorem dX5_stops_28 : decode cX5_stops 28 = .ok (.invokevirtual 188, 3) := by decide +kernel
theorem dX5_stops_31 : decode cX5_stops 31 = .ok (.aload_n 0, 1) := by decide +kernel
theorem dX5_stops_32 : decode cX5_stops 32 = .ok (.getfield 46, 3) := by decide +kernel
theorem dX5_stops_35 : decode cX5_stops 35 = .ok (.iload_n 1, 1) := by decide +kernel
theorem dX5_stops_36 : decode cX5_stops 36 = .ok (.iload_n 2, 1) := by decide +kernel
theorem dX5_stops_37 : decode cX5_stops 37 = .ok (.iload_n 3, 1) := by decide +kernel
theorem dX5_stops_38 : decode cX5_stops 38 = .ok (.iconst 0, 1) := by decide +kernel
theorem dX5_stops_39 : decode cX5_stops 39 = .ok (.invokevirtual 192, 3) := by decide +kernel
theorem dX5_stops_42 : decode cX5_stops 42 = .ok (.ldc 187, 2) := by decide +kernel
theorem dX5_stops_44 : decode cX5_stops 44 = .ok (.if_icmp .ne 5, 3) := by decide +kernel
theorem dX5_stops_47 : decode cX5_stops 47 = .ok (.iconst 0, 1) := by decide +kernel
theorem dX5_stops_48 : decode cX5_stops 48 = .ok (.ireturn, 1) := by decide +kernel
theorem dX5_stops_49 : decode cX5_stops 49 = .ok (.iconst 0, 1) := by decide +kernel
theorem dX5_stops_50 : decode cX5_stops 50 = .ok (.istore 4, 2) := by decide +kernel
theorem dX5_stops_52 : decode cX5_stops 52 = .ok (.iconst 0, 1) := by decide +kernel
theorem dX5_stops_53 : decode cX5_stops 53 = .ok (.istore 5, 2) := by decide +kernel
theorem dX5_stops_55 : decode cX5_stops 55 = .ok (.iload 5, 2) := by decide +kernel
theorem dX5_stops_57 : decode cX5_stops 57 = .ok (.aload_n 0, 1) := by decide +kernel
theorem dX5_stops_58 : decode cX5_stops 58 = .ok (.getfield 25, 3) := by decide +kernel
theorem dX5_stops_61 : decode cX5_stops 61 = .ok (.getfield 119, 3) := by decide +kernel
theorem dX5_stops_64 : decode cX5_stops 64 = .ok (.if_icmp .ge 49, 3) := by decide +kernel
theorem dX5_stops_67 : decode cX5_stops 67 = .ok (.iload 5, 2) := by decide +kernel
theorem dX5_stops_69 : decode cX5_stops 69 = .ok (.iload_n 1, 1) := by decide +kernel
theorem dX5_stops_70 : decode cX5_stops 70 = .ok (.if_icmp .eq 37, 3) := by decide +kernel
theorem dX5_stops_73 : decode cX5_stops 73 = .ok (.iload 5, 2) := by decide +kernel
theorem dX5_stops_75 : decode cX5_stops 75 = .ok (.iload_n 2, 1) := by decide +kernel
theorem dX5_stops_76 : decode cX5_stops 76 = .ok (.if_icmp .eq 31, 3) := by decide +kernel
theorem dX5_stops_79 : decode cX5_stops 79 = .ok (.aload_n 0, 1) := by decide +kernel
theorem dX5_stops_80 : decode cX5_stops 80 = .ok (.getfield 46, 3) := by decide +kernel
theorem dX5_stops_83 : decode cX5_stops 83 = .ok (.iload_n 1, 1) := by decide +kernel
theorem dX5_stops_84 : decode cX5_stops 84 = .ok (.iload_n 2, 1) := by decide +kernel
theorem dX5_stops_85 : decode cX5_stops 85 = .ok (.iload_n 3, 1) := by decide +kernel
theorem dX5_stops_86 : decode cX5_stops 86 = .ok (.iconst 1, 1) := by decide +kernel
theorem dX5_stops_87 : decode cX5_stops 87 = .ok (.iload 5, 2) := by decide +kernel
theorem dX5_stops_89 : decode cX5_stops 89 = .ok (.ishl, 1) := by decide +kernel
theorem dX5_stops_90 : decode cX5_stops 90 = .ok (.invokevirtual 192, 3) := by decide +kernel
theorem dX5_stops_93 : decode cX5_stops 93 = .ok (.ldc 187, 2) := by decide +kernel
theorem dX5_stops_95 : decode cX5_stops 95 = .ok (.if_icmp .ne 12, 3) := by decide +kernel
theorem dX5_stops_98 : decode cX5_stops 98 = .ok (.iload 4, 2) := by decide +kernel
theorem dX5_stops_100 : decode cX5_stops 100 = .ok (.iconst 1, 1) := by decide +kernel
theorem dX5_stops_101 : decode cX5_stops 101 = .ok (.iload 5, 2) := by decide +kernel
theorem dX5_stops_103 : decode cX5_stops 103 = .ok (.ishl, 1) := by decide +kernel
theorem dX5_stops_104 : decode cX5_stops 104 = .ok (.ior, 1) := by decide +kernel
theorem dX5_stops_105 : decode cX5_stops 105 = .ok (.istore 4, 2) := by decide +kernel
theorem dX5_stops_107 : decode cX5_stops 107 = .ok (.iinc 5 1, 3) := by decide +kernel
theorem dX5_stops_110 : decode cX5_stops 110 = .ok (.goto (-55), 3) := by decide +kernel
theorem dX5_stops_113 : decode cX5_stops 113 = .ok (.iload 4, 2) := by decide +kernel
theorem dX5_stops_115 : decode cX5_stops 115 = .ok (.ireturn, 1) := by decide +kernel
theorem dX5_toSling_0 : decode cX5_toSling 0 = .ok (.aload_n 0, 1) := by decide +kernel
theorem dX5_toSling_1 : decode cX5_toSling 1 = .ok (.iload_n 2, 1) := by decide +kernel
theorem dX5_toSling_2 : decode cX5_toSling 2 = .ok (.iload_n 3, 1) := by decide +kernel
theorem dX5_toSling_3 : decode cX5_toSling 3 = .ok (.invokevirtual 178, 3) := by decide +kernel
theorem dX5_toSling_6 : decode cX5_toSling 6 = .ok (.ifCond .eq 30, 3) := by decide +kernel
theorem dX5_toSling_9 : decode cX5_toSling 9 = .ok (.aload_n 0, 1) := by decide +kernel
theorem dX5_toSling_10 : decode cX5_toSling 10 = .ok (.iload_n 2, 1) := by decide +kernel
theorem dX5_toSling_11 : decode cX5_toSling 11 = .ok (.iload_n 1, 1) := by decide +kernel
theorem dX5_toSling_12 : decode cX5_toSling 12 = .ok (.invokevirtual 178, 3) := by decide +kernel
theorem dX5_toSling_15 : decode cX5_toSling 15 = .ok (.ifCond .eq 21, 3) := by decide +kernel
theorem dX5_toSling_18 : decode cX5_toSling 18 = .ok (.aload_n 0, 1) := by decide +kernel
theorem dX5_toSling_19 : decode cX5_toSling 19 = .ok (.iload_n 3, 1) := by decide +kernel
theorem dX5_toSling_20 : decode cX5_toSling 20 = .ok (.iload_n 1, 1) := by decide +kernel
theorem dX5_toSling_21 : decode cX5_toSling 21 = .ok (.invokevirtual 178, 3) := by decide +kernel
theorem dX5_toSling_24 : decode cX5_toSling 24 = .ok (.ifCond .eq 12, 3) := by decide +kernel
theorem dX5_toSling_27 : decode cX5_toSling 27 = .ok (.iload 4, 2) := by decide +kernel
theorem dX5_toSling_29 : decode cX5_toSling 29 = .ok (.iconst 2, 1) := by decide +kernel
theorem dX5_toSling_30 : decode cX5_toSling 30 = .ok (.invokestatic 59, 3) := by decide +kernel
theorem dX5_toSling_33 : decode cX5_toSling 33 = .ok (.ifCond .ne 6, 3) := by decide +kernel
theorem dX5_toSling_36 : decode cX5_toSling 36 = .ok (.ldc 63, 2) := by decide +kernel
theorem dX5_toSling_38 : decode cX5_toSling 38 = .ok (.ireturn, 1) := by decide +kernel
theorem dX5_toSling_39 : decode cX5_toSling 39 = .ok (.aload_n 0, 1) := by decide +kernel
theorem dX5_toSling_40 : decode cX5_toSling 40 = .ok (.getfield 29, 3) := by decide +kernel
theorem dX5_toSling_43 : decode cX5_toSling 43 = .ok (.aload_n 0, 1) := by decide +kernel
theorem dX5_toSling_44 : decode cX5_toSling 44 = .ok (.getfield 25, 3) := by decide +kernel
theorem dX5_toSling_47 : decode cX5_toSling 47 = .ok (.invokevirtual 112, 3) := by decide +kernel
theorem dX5_toSling_50 : decode cX5_toSling 50 = .ok (.aload_n 0, 1) := by decide +kernel
theorem dX5_toSling_51 : decode cX5_toSling 51 = .ok (.getfield 46, 3) := by decide +kernel
theorem dX5_toSling_54 : decode cX5_toSling 54 = .ok (.aload_n 0, 1) := by decide +kernel
theorem dX5_toSling_55 : decode cX5_toSling 55 = .ok (.getfield 29, 3) := by decide +kernel
theorem dX5_toSling_58 : decode cX5_toSling 58 = .ok (.bipush 60, 2) := by decide +kernel
theorem dX5_toSling_60 : decode cX5_toSling 60 = .ok (.invokevirtual 188, 3) := by decide +kernel
theorem dX5_toSling_63 : decode cX5_toSling 63 = .ok (.aload_n 0, 1) := by decide +kernel
theorem dX5_toSling_64 : decode cX5_toSling 64 = .ok (.getfield 46, 3) := by decide +kernel
theorem dX5_toSling_67 : decode cX5_toSling 67 = .ok (.iload_n 2, 1) := by decide +kernel
theorem dX5_toSling_68 : decode cX5_toSling 68 = .ok (.iload_n 3, 1) := by decide +kernel
theorem dX5_toSling_69 : decode cX5_toSling 69 = .ok (.bipush 60, 2) := by decide +kernel
theorem dX5_toSling_71 : decode cX5_toSling 71 = .ok (.iconst 0, 1) := by decide +kernel
theorem dX5_toSling_72 : decode cX5_toSling 72 = .ok (.invokevirtual 192, 3) := by decide +kernel
theorem dX5_toSling_75 : decode cX5_toSling 75 = .ok (.istore 5, 2) := by decide +kernel
theorem dX5_toSling_77 : decode cX5_toSling 77 = .ok (.bipush 12, 2) := by decide +kernel
theorem dX5_toSling_79 : decode cX5_toSling 79 = .ok (.aload_n 0, 1) := by decide +kernel
theorem dX5_toSling_80 : decode cX5_toSling 80 = .ok (.getfield 25, 3) := by decide +kernel
theorem dX5_toSling_83 : decode cX5_toSling 83 = .ok (.getfield 141, 3) := by decide +kernel
theorem dX5_toSling_86 : decode cX5_toSling 86 = .ok (.iload_n 1, 1) := by decide +kernel
theorem dX5_toSling_87 : decode cX5_toSling 87 = .ok (.iaload, 1) := by decide +kernel
theorem dX5_toSling_88 : decode cX5_toSling 88 = .ok (.imul, 1) := by decide +kernel
theorem dX5_toSling_89 : decode cX5_toSling 89 = .ok (.aload_n 0, 1) := by decide +kernel
theorem dX5_toSling_90 : decode cX5_toSling 90 = .ok (.getfield 25, 3) := by decide +kernel
theorem dX5_toSling_93 : decode cX5_toSling 93 = .ok (.getfield 144, 3) := by decide +kernel
theorem dX5_toSling_96 : decode cX5_toSling 96 = .ok (.iload_n 1, 1) := by decide +kernel
theorem dX5_toSling_97 : decode cX5_toSling 97 = .ok (.iaload, 1) := by decide +kernel
theorem dX5_toSling_98 : decode cX5_toSling 98 = .ok (.iadd, 1) := by decide +kernel
theorem dX5_toSling_99 : decode cX5_toSling 99 = .ok (.istore 6, 2) := by decide +kernel
theorem dX5_toSling_101 : decode cX5_toSling 101 = .ok (.iconst 1, 1) := by decide +kernel
theorem dX5_toSling_102 : decode cX5_toSling 102 = .ok (.istore 7, 2) := by decide +kernel
theorem dX5_toSling_104 : decode cX5_toSling 104 = .ok (.iload 7, 2) := by decide +kernel
theorem dX5_toSling_106 : decode cX5_toSling 106 = .ok (.sipush 144, 3) := by decide +kernel
theorem dX5_toSling_109 : decode cX5_toSling 109 = .ok (.if_icmp .ge 114, 3) := by decide +kernel
theorem dX5_toSling_112 : decode cX5_toSling 112 = .ok (.iload 7, 2) := by decide +kernel
theorem dX5_toSling_114 : decode cX5_toSling 114 = .ok (.bipush 12, 2) := by decide +kernel
theorem dX5_toSling_116 : decode cX5_toSling 116 = .ok (.idiv, 1) := by decide +kernel
theorem dX5_toSling_117 : decode cX5_toSling 117 = .ok (.iload 7, 2) := by decide +kernel
theorem dX5_toSling_119 : decode cX5_toSling 119 = .ok (.bipush 12, 2) := by decide +kernel
theorem dX5_toSling_121 : decode cX5_toSling 121 = .ok (.irem, 1) := by decide +kernel
theorem dX5_toSling_122 : decode cX5_toSling 122 = .ok (.if_icmp .lt 6, 3) := by decide +kernel
theorem dX5_toSling_125 : decode cX5_toSling 125 = .ok (.goto 92, 3) := by decide +kernel
theorem dX5_toSling_128 : decode cX5_toSling 128 = .ok (.aload_n 0, 1) := by decide +kernel
theorem dX5_toSling_129 : decode cX5_toSling 129 = .ok (.getfield 29, 3) := by decide +kernel
theorem dX5_toSling_132 : decode cX5_toSling 132 = .ok (.getfield 141, 3) := by decide +kernel
theorem dX5_toSling_135 : decode cX5_toSling 135 = .ok (.iload_n 1, 1) := by decide +kernel
theorem dX5_toSling_136 : decode cX5_toSling 136 = .ok (.iload 7, 2) := by decide +kernel
theorem dX5_toSling_138 : decode cX5_toSling 138 = .ok (.bipush 12, 2) := by decide +kernel
theorem dX5_toSling_140 : decode cX5_toSling 140 = .ok (.idiv, 1) := by decide +kernel
theorem dX5_toSling_141 : decode cX5_toSling 141 = .ok (.iastore, 1) := by decide +kernel
theorem dX5_toSling_142 : decode cX5_toSling 142 = .ok (.aload_n 0, 1) := by decide +kernel
theorem dX5_toSling_143 : decode cX5_toSling 143 = .ok (.getfield 29, 3) := by decide +kernel
theorem dX5_toSling_146 : decode cX5_toSling 146 = .ok (.getfield 144, 3) := by decide +kernel
theorem dX5_toSling_149 : decode cX5_toSling 149 = .ok (.iload_n 1, 1) := by decide +kernel
theorem dX5_toSling_150 : decode cX5_toSling 150 = .ok (.iload 7, 2) := by decide +kernel
theorem dX5_toSling_152 : decode cX5_toSling 152 = .ok (.bipush 12, 2) := by decide +kernel
theorem dX5_toSling_154 : decode cX5_toSling 154 = .ok (.irem, 1) := by decide +kernel
theorem dX5_toSling_155 : decode cX5_toSling 155 = .ok (.iastore, 1) := by decide +kernel
theorem dX5_toSling_156 : decode cX5_toSling 156 = .ok (.iload 5, 2) := by decide +kernel
theorem dX5_toSling_158 : decode cX5_toSling 158 = .ok (.ldc 187, 2) := by decide +kernel
theorem dX5_toSling_160 : decode cX5_toSling 160 = .ok (.if_icmp .ne 8, 3) := by decide +kernel
theorem dX5_toSling_163 : decode cX5_toSling 163 = .ok (.bipush 60, 2) := by decide +kernel
theorem dX5_toSling_165 : decode cX5_toSling 165 = .ok (.goto 7, 3) := by decide +kernel
theorem dX5_toSling_168 : decode cX5_toSling 168 = .ok (.iload 5, 2) := by decide +kernel
theorem dX5_toSling_170 : decode cX5_toSling 170 = .ok (.iconst 1, 1) := by decide +kernel
theorem dX5_toSling_171 : decode cX5_toSling 171 = .ok (.isub, 1) := by decide +kernel
theorem dX5_toSling_172 : decode cX5_toSling 172 = .ok (.istore 8, 2) := by decide +kernel
theorem dX5_toSling_174 : decode cX5_toSling 174 = .ok (.aload_n 0, 1) := by decide +kernel
theorem dX5_toSling_175 : decode cX5_toSling 175 = .ok (.getfield 46, 3) := by decide +kernel
theorem dX5_toSling_178 : decode cX5_toSling 178 = .ok (.aload_n 0, 1) := by decide +kernel
theorem dX5_toSling_179 : decode cX5_toSling 179 = .ok (.getfield 29, 3) := by decide +kernel
theorem dX5_toSling_182 : decode cX5_toSling 182 = .ok (.iload_n 1, 1) := by decide +kernel
theorem dX5_toSling_183 : decode cX5_toSling 183 = .ok (.iload 8, 2) := by decide +kernel
theorem dX5_toSling_185 : decode cX5_toSling 185 = .ok (.invokevirtual 202, 3) := by decide +kernel
theorem dX5_toSling_188 : decode cX5_toSling 188 = .ok (.aload_n 0, 1) := by decide +kernel
theorem dX5_toSling_189 : decode cX5_toSling 189 = .ok (.getfield 46, 3) := by decide +kernel
theorem dX5_toSling_192 : decode cX5_toSling 192 = .ok (.iload_n 2, 1) := by decide +kernel
theorem dX5_toSling_193 : decode cX5_toSling 193 = .ok (.iload_n 3, 1) := by decide +kernel
theorem dX5_toSling_194 : decode cX5_toSling 194 = .ok (.iload 8, 2) := by decide +kernel
theorem dX5_toSling_196 : decode cX5_toSling 196 = .ok (.iconst 0, 1) := by decide +kernel
theorem dX5_toSling_197 : decode cX5_toSling 197 = .ok (.invokevirtual 192, 3) := by decide +kernel
theorem dX5_toSling_200 : decode cX5_toSling 200 = .ok (.istore 9, 2) := by decide +kernel
theorem dX5_toSling_202 : decode cX5_toSling 202 = .ok (.iload 9, 2) := by decide +kernel
theorem dX5_toSling_204 : decode cX5_toSling 204 = .ok (.ldc 187, 2) := by decide +kernel
theorem dX5_toSling_206 : decode cX5_toSling 206 = .ok (.if_icmp .eq 11, 3) := by decide +kernel
theorem dX5_toSling_209 : decode cX5_toSling 209 = .ok (.iload 9, 2) := by decide +kernel
theorem dX5_toSling_211 : decode cX5_toSling 211 = .ok (.istore 5, 2) := by decide +kernel
theorem dX5_toSling_213 : decode cX5_toSling 213 = .ok (.iload 7, 2) := by decide +kernel
theorem dX5_toSling_215 : decode cX5_toSling 215 = .ok (.istore 6, 2) := by decide +kernel
theorem dX5_toSling_217 : decode cX5_toSling 217 = .ok (.iinc 7 1, 3) := by decide +kernel
theorem dX5_toSling_220 : decode cX5_toSling 220 = .ok (.goto (-116), 3) := by decide +kernel
theorem dX5_toSling_223 : decode cX5_toSling 223 = .ok (.iload 5, 2) := by decide +kernel
theorem dX5_toSling_225 : decode cX5_toSling 225 = .ok (.ldc 187, 2) := by decide +kernel
theorem dX5_toSling_227 : decode cX5_toSling 227 = .ok (.if_icmp .eq 9, 3) := by decide +kernel
theorem dX5_toSling_230 : decode cX5_toSling 230 = .ok (.iload 4, 2) := by decide +kernel
theorem dX5_toSling_232 : decode cX5_toSling 232 = .ok (.iconst 1, 1) := by decide +kernel
theorem dX5_toSling_233 : decode cX5_toSling 233 = .ok (.if_icmp .ne 8, 3) := by decide +kernel
theorem dX5_toSling_236 : decode cX5_toSling 236 = .ok (.iload 5, 2) := by decide +kernel
theorem dX5_toSling_238 : decode cX5_toSling 238 = .ok (.goto 5, 3) := by decide +kernel
theorem dX5_toSling_241 : decode cX5_toSling 241 = .ok (.iload 6, 2) := by decide +kernel
theorem dX5_toSling_243 : decode cX5_toSling 243 = .ok (.ireturn, 1) := by decide +kernel
theorem dX5_fits_0 : decode cX5_fits 0 = .ok (.aload_n 0, 1) := by decide +kernel
theorem dX5_fits_1 : decode cX5_fits 1 = .ok (.iload_n 1, 1) := by decide +kernel
theorem dX5_fits_2 : decode cX5_fits 2 = .ok (.invokevirtual 138, 3) := by decide +kernel
theorem dX5_fits_5 : decode cX5_fits 5 = .ok (.ifCond .eq 32, 3) := by decide +kernel
theorem dX5_fits_8 : decode cX5_fits 8 = .ok (.iload_n 2, 1) := by decide +kernel
theorem dX5_fits_9 : decode cX5_fits 9 = .ok (.invokestatic 55, 3) := by decide +kernel
theorem dX5_fits_12 : decode cX5_fits 12 = .ok (.ifCond .eq 25, 3) := by decide +kernel
theorem dX5_fits_15 : decode cX5_fits 15 = .ok (.iload 4, 2) := by decide +kernel
theorem dX5_fits_17 : decode cX5_fits 17 = .ok (.iconst 1, 1) := by decide +kernel
theorem dX5_fits_18 : decode cX5_fits 18 = .ok (.if_icmp .lt 19, 3) := by decide +kernel
theorem dX5_fits_21 : decode cX5_fits 21 = .ok (.iload 4, 2) := by decide +kernel
theorem dX5_fits_23 : decode cX5_fits 23 = .ok (.bipush 16, 2) := by decide +kernel
theorem dX5_fits_25 : decode cX5_fits 25 = .ok (.if_icmp .gt 12, 3) := by decide +kernel
theorem dX5_fits_28 : decode cX5_fits 28 = .ok (.iload 5, 2) := by decide +kernel
theorem dX5_fits_30 : decode cX5_fits 30 = .ok (.iconst 3, 1) := by decide +kernel
theorem dX5_fits_31 : decode cX5_fits 31 = .ok (.invokestatic 59, 3) := by decide +kernel
theorem dX5_fits_34 : decode cX5_fits 34 = .ok (.ifCond .ne 6, 3) := by decide +kernel
theorem dX5_fits_37 : decode cX5_fits 37 = .ok (.ldc 63, 2) := by decide +kernel
theorem dX5_fits_39 : decode cX5_fits 39 = .ok (.ireturn, 1) := by decide +kernel
theorem dX5_fits_40 : decode cX5_fits 40 = .ok (.aload_n 0, 1) := by decide +kernel
theorem dX5_fits_41 : decode cX5_fits 41 = .ok (.getfield 11, 3) := by decide +kernel
theorem dX5_fits_44 : decode cX5_fits 44 = .ok (.iload_n 2, 1) := by decide +kernel
theorem dX5_fits_45 : decode cX5_fits 45 = .ok (.aaload, 1) := by decide +kernel
theorem dX5_fits_46 : decode cX5_fits 46 = .ok (.astore 6, 2) := by decide +kernel
theorem dX5_fits_48 : decode cX5_fits 48 = .ok (.aload 6, 2) := by decide +kernel
theorem dX5_fits_50 : decode cX5_fits 50 = .ok (.getfield 76, 3) := by decide +kernel
theorem dX5_fits_53 : decode cX5_fits 53 = .ok (.iconst (-1), 1) := by decide +kernel
theorem dX5_fits_54 : decode cX5_fits 54 = .ok (.if_icmp .ne 9, 3) := by decide +kernel
theorem dX5_fits_57 : decode cX5_fits 57 = .ok (.aload_n 0, 1) := by decide +kernel
theorem dX5_fits_58 : decode cX5_fits 58 = .ok (.iconst 1, 1) := by decide +kernel
theorem dX5_fits_59 : decode cX5_fits 59 = .ok (.invokevirtual 64, 3) := by decide +kernel
theorem dX5_fits_62 : decode cX5_fits 62 = .ok (.ireturn, 1) := by decide +kernel
theorem dX5_fits_63 : decode cX5_fits 63 = .ok (.aload 6, 2) := by decide +kernel
theorem dX5_fits_65 : decode cX5_fits 65 = .ok (.iload_n 3, 1) := by decide +kernel
theorem dX5_fits_66 : decode cX5_fits 66 = .ok (.iload 4, 2) := by decide +kernel
theorem dX5_fits_68 : decode cX5_fits 68 = .ok (.invokevirtual 88, 3) := by decide +kernel
theorem dX5_fits_71 : decode cX5_fits 71 = .ok (.ifCond .ne 9, 3) := by decide +kernel
theorem dX5_fits_74 : decode cX5_fits 74 = .ok (.aload_n 0, 1) := by decide +kernel
theorem dX5_fits_75 : decode cX5_fits 75 = .ok (.iconst 2, 1) := by decide +kernel
theorem dX5_fits_76 : decode cX5_fits 76 = .ok (.invokevirtual 64, 3) := by decide +kernel
theorem dX5_fits_79 : decode cX5_fits 79 = .ok (.ireturn, 1) := by decide +kernel
theorem dX5_fits_80 : decode cX5_fits 80 = .ok (.aload_n 0, 1) := by decide +kernel
theorem dX5_fits_81 : decode cX5_fits 81 = .ok (.iconst 0, 1) := by decide +kernel
theorem dX5_fits_82 : decode cX5_fits 82 = .ok (.putfield 68, 3) := by decide +kernel
theorem dX5_fits_85 : decode cX5_fits 85 = .ok (.aload_n 0, 1) := by decide +kernel
theorem dX5_fits_86 : decode cX5_fits 86 = .ok (.getfield 29, 3) := by decide +kernel
theorem dX5_fits_89 : decode cX5_fits 89 = .ok (.aload_n 0, 1) := by decide +kernel
theorem dX5_fits_90 : decode cX5_fits 90 = .ok (.getfield 25, 3) := by decide +kernel
theorem dX5_fits_93 : decode cX5_fits 93 = .ok (.invokevirtual 112, 3) := by decide +kernel
theorem dX5_fits_96 : decode cX5_fits 96 = .ok (.iload 5, 2) := by decide +kernel
theorem dX5_fits_98 : decode cX5_fits 98 = .ok (.lookupswitch 48 #[(0, 26), (1, 37)], 26) := by decide +kernel
theorem dX5_fits_124 : decode cX5_fits 124 = .ok (.aload_n 0, 1) := by decide +kernel
theorem dX5_fits_125 : decode cX5_fits 125 = .ok (.iload_n 1, 1) := by decide +kernel
theorem dX5_fits_126 : decode cX5_fits 126 = .ok (.aload 6, 2) := by decide +kernel
theorem dX5_fits_128 : decode cX5_fits 128 = .ok (.iload_n 3, 1) := by decide +kernel
theorem dX5_fits_129 : decode cX5_fits 129 = .ok (.iload 4, 2) := by decide +kernel
theorem dX5_fits_131 : decode cX5_fits 131 = .ok (.invokevirtual 206, 3) := by decide +kernel
theorem dX5_fits_134 : decode cX5_fits 134 = .ok (.ireturn, 1) := by decide +kernel
theorem dX5_fits_135 : decode cX5_fits 135 = .ok (.aload_n 0, 1) := by decide +kernel
theorem dX5_fits_136 : decode cX5_fits 136 = .ok (.iload_n 1, 1) := by decide +kernel
theorem dX5_fits_137 : decode cX5_fits 137 = .ok (.aload 6, 2) := by decide +kernel
theorem dX5_fits_139 : decode cX5_fits 139 = .ok (.iload_n 3, 1) := by decide +kernel
theorem dX5_fits_140 : decode cX5_fits 140 = .ok (.iload 4, 2) := by decide +kernel
theorem dX5_fits_142 : decode cX5_fits 142 = .ok (.invokevirtual 210, 3) := by decide +kernel
theorem dX5_fits_145 : decode cX5_fits 145 = .ok (.ireturn, 1) := by decide +kernel
theorem dX5_fits_146 : decode cX5_fits 146 = .ok (.aload_n 0, 1) := by decide +kernel
theorem dX5_fits_147 : decode cX5_fits 147 = .ok (.iload_n 1, 1) := by decide +kernel
theorem dX5_fits_148 : decode cX5_fits 148 = .ok (.aload 6, 2) := by decide +kernel
theorem dX5_fits_150 : decode cX5_fits 150 = .ok (.iload_n 3, 1) := by decide +kernel
theorem dX5_fits_151 : decode cX5_fits 151 = .ok (.iload 4, 2) := by decide +kernel
theorem dX5_fits_153 : decode cX5_fits 153 = .ok (.invokevirtual 213, 3) := by decide +kernel
theorem dX5_fits_156 : decode cX5_fits 156 = .ok (.ireturn, 1) := by decide +kernel
theorem dX5_breaks_0 : decode cX5_breaks 0 = .ok (.aload_n 0, 1) := by decide +kernel
theorem dX5_breaks_1 : decode cX5_breaks 1 = .ok (.iload_n 1, 1) := by decide +kernel
theorem dX5_breaks_2 : decode cX5_breaks 2 = .ok (.invokevirtual 138, 3) := by decide +kernel
theorem dX5_breaks_5 : decode cX5_breaks 5 = .ok (.ifCond .eq 18, 3) := by decide +kernel
theorem dX5_breaks_8 : decode cX5_breaks 8 = .ok (.aload_n 0, 1) := by decide +kernel
theorem dX5_breaks_9 : decode cX5_breaks 9 = .ok (.iload_n 2, 1) := by decide +kernel
theorem dX5_breaks_10 : decode cX5_breaks 10 = .ok (.invokevirtual 138, 3) := by decide +kernel
theorem dX5_breaks_13 : decode cX5_breaks 13 = .ok (.ifCond .eq 10, 3) := by decide +kernel
theorem dX5_breaks_16 : decode cX5_breaks 16 = .ok (.iload_n 3, 1) := by decide +kernel
theorem dX5_breaks_17 : decode cX5_breaks 17 = .ok (.invokestatic 172, 3) := by decide +kernel
theorem dX5_breaks_20 : decode cX5_breaks 20 = .ok (.ifCond .ne 6, 3) := by decide +kernel
theorem dX5_breaks_23 : decode cX5_breaks 23 = .ok (.ldc 63, 2) := by decide +kernel
theorem dX5_breaks_25 : decode cX5_breaks 25 = .ok (.ireturn, 1) := by decide +kernel
theorem dX5_breaks_26 : decode cX5_breaks 26 = .ok (.iload 4, 2) := by decide +kernel
theorem dX5_breaks_28 : decode cX5_breaks 28 = .ok (.ifCond .lt 19, 3) := by decide +kernel
theorem dX5_breaks_31 : decode cX5_breaks 31 = .ok (.iload 4, 2) := by decide +kernel
theorem dX5_breaks_33 : decode cX5_breaks 33 = .ok (.bipush 10, 2) := by decide +kernel
theorem dX5_breaks_35 : decode cX5_breaks 35 = .ok (.if_icmp .gt 12, 3) := by decide +kernel
theorem dX5_breaks_38 : decode cX5_breaks 38 = .ok (.iload 5, 2) := by decide +kernel
theorem dX5_breaks_40 : decode cX5_breaks 40 = .ok (.iconst 2, 1) := by decide +kernel
theorem dX5_breaks_41 : decode cX5_breaks 41 = .ok (.invokestatic 59, 3) := by decide +kernel
theorem dX5_breaks_44 : decode cX5_breaks 44 = .ok (.ifCond .ne 6, 3) := by decide +kernel
theorem dX5_breaks_47 : decode cX5_breaks 47 = .ok (.ldc 63, 2) := by decide +kernel
theorem dX5_breaks_49 : decode cX5_breaks 49 = .ok (.ireturn, 1) := by decide +kernel
theorem dX5_breaks_50 : decode cX5_breaks 50 = .ok (.aload_n 0, 1) := by decide +kernel
theorem dX5_breaks_51 : decode cX5_breaks 51 = .ok (.getfield 46, 3) := by decide +kernel
theorem dX5_breaks_54 : decode cX5_breaks 54 = .ok (.aload_n 0, 1) := by decide +kernel
theorem dX5_breaks_55 : decode cX5_breaks 55 = .ok (.getfield 25, 3) := by decide +kernel
theorem dX5_breaks_58 : decode cX5_breaks 58 = .ok (.iload_n 3, 1) := by decide +kernel
theorem dX5_breaks_59 : decode cX5_breaks 59 = .ok (.invokevirtual 188, 3) := by decide +kernel
theorem dX5_breaks_62 : decode cX5_breaks 62 = .ok (.iconst 0, 1) := by decide +kernel
theorem dX5_breaks_63 : decode cX5_breaks 63 = .ok (.istore 6, 2) := by decide +kernel
theorem dX5_breaks_65 : decode cX5_breaks 65 = .ok (.iconst 0, 1) := by decide +kernel
theorem dX5_breaks_66 : decode cX5_breaks 66 = .ok (.istore 7, 2) := by decide +kernel
theorem dX5_breaks_68 : decode cX5_breaks 68 = .ok (.iload 7, 2) := by decide +kernel
theorem dX5_breaks_70 : decode cX5_breaks 70 = .ok (.iconst 1, 1) := by decide +kernel
theorem dX5_breaks_71 : decode cX5_breaks 71 = .ok (.aload_n 0, 1) := by decide +kernel
theorem dX5_breaks_72 : decode cX5_breaks 72 = .ok (.getfield 25, 3) := by decide +kernel
theorem dX5_breaks_75 : decode cX5_breaks 75 = .ok (.getfield 119, 3) := by decide +kernel
theorem dX5_breaks_78 : decode cX5_breaks 78 = .ok (.ishl, 1) := by decide +kernel
theorem dX5_breaks_79 : decode cX5_breaks 79 = .ok (.if_icmp .ge 52, 3) := by decide +kernel
theorem dX5_breaks_82 : decode cX5_breaks 82 = .ok (.iload 7, 2) := by decide +kernel
theorem dX5_breaks_84 : decode cX5_breaks 84 = .ok (.aload_n 0, 1) := by decide +kernel
theorem dX5_breaks_85 : decode cX5_breaks 85 = .ok (.getfield 25, 3) := by decide +kernel
theorem dX5_breaks_88 : decode cX5_breaks 88 = .ok (.getfield 160, 3) := by decide +kernel
theorem dX5_breaks_91 : decode cX5_breaks 91 = .ok (.iand, 1) := by decide +kernel
theorem dX5_breaks_92 : decode cX5_breaks 92 = .ok (.ifCond .ne 33, 3) := by decide +kernel
theorem dX5_breaks_95 : decode cX5_breaks 95 = .ok (.aload_n 0, 1) := by decide +kernel
theorem dX5_breaks_96 : decode cX5_breaks 96 = .ok (.getfield 46, 3) := by decide +kernel
theorem dX5_breaks_99 : decode cX5_breaks 99 = .ok (.iload_n 1, 1) := by decide +kernel
theorem dX5_breaks_100 : decode cX5_breaks 100 = .ok (.iload_n 2, 1) := by decide +kernel
theorem dX5_breaks_101 : decode cX5_breaks 101 = .ok (.iload_n 3, 1) := by decide +kernel
theorem dX5_breaks_102 : decode cX5_breaks 102 = .ok (.iload 7, 2) := by decide +kernel
theorem dX5_breaks_104 : decode cX5_breaks 104 = .ok (.invokevirtual 192, 3) := by decide +kernel
theorem dX5_breaks_107 : decode cX5_breaks 107 = .ok (.ldc 187, 2) := by decide +kernel
theorem dX5_breaks_109 : decode cX5_breaks 109 = .ok (.if_icmp .eq 16, 3) := by decide +kernel
theorem dX5_breaks_112 : decode cX5_breaks 112 = .ok (.iload 6, 2) := by decide +kernel
theorem dX5_breaks_114 : decode cX5_breaks 114 = .ok (.aload_n 0, 1) := by decide +kernel
theorem dX5_breaks_115 : decode cX5_breaks 115 = .ok (.iload 7, 2) := by decide +kernel
theorem dX5_breaks_117 : decode cX5_breaks 117 = .ok (.iload 4, 2) := by decide +kernel
theorem dX5_breaks_119 : decode cX5_breaks 119 = .ok (.invokevirtual 216, 3) := by decide +kernel
theorem dX5_breaks_122 : decode cX5_breaks 122 = .ok (.iadd, 1) := by decide +kernel
theorem dX5_breaks_123 : decode cX5_breaks 123 = .ok (.istore 6, 2) := by decide +kernel
theorem dX5_breaks_125 : decode cX5_breaks 125 = .ok (.iinc 7 1, 3) := by decide +kernel
theorem dX5_breaks_128 : decode cX5_breaks 128 = .ok (.goto (-60), 3) := by decide +kernel
theorem dX5_breaks_131 : decode cX5_breaks 131 = .ok (.aload_n 0, 1) := by decide +kernel
theorem dX5_breaks_132 : decode cX5_breaks 132 = .ok (.invokevirtual 219, 3) := by decide +kernel
theorem dX5_breaks_135 : decode cX5_breaks 135 = .ok (.istore 7, 2) := by decide +kernel
theorem dX5_breaks_137 : decode cX5_breaks 137 = .ok (.iload 6, 2) := by decide +kernel
theorem dX5_breaks_139 : decode cX5_breaks 139 = .ok (.iload 7, 2) := by decide +kernel
theorem dX5_breaks_141 : decode cX5_breaks 141 = .ok (.invokestatic 223, 3) := by decide +kernel
theorem dX5_breaks_144 : decode cX5_breaks 144 = .ok (.istore 8, 2) := by decide +kernel
theorem dX5_breaks_146 : decode cX5_breaks 146 = .ok (.iload 8, 2) := by decide +kernel
theorem dX5_breaks_148 : decode cX5_breaks 148 = .ok (.ifCond .gt 6, 3) := by decide +kernel
theorem dX5_breaks_151 : decode cX5_breaks 151 = .ok (.ldc 63, 2) := by decide +kernel
theorem dX5_breaks_153 : decode cX5_breaks 153 = .ok (.ireturn, 1) := by decide +kernel
theorem dX5_breaks_154 : decode cX5_breaks 154 = .ok (.iload 5, 2) := by decide +kernel
theorem dX5_breaks_156 : decode cX5_breaks 156 = .ok (.ifCond .ne 11, 3) := by decide +kernel
theorem dX5_breaks_159 : decode cX5_breaks 159 = .ok (.iload 6, 2) := by decide +kernel
theorem dX5_breaks_161 : decode cX5_breaks 161 = .ok (.iload 8, 2) := by decide +kernel
theorem dX5_breaks_163 : decode cX5_breaks 163 = .ok (.idiv, 1) := by decide +kernel
theorem dX5_breaks_164 : decode cX5_breaks 164 = .ok (.goto 8, 3) := by decide +kernel
theorem dX5_breaks_167 : decode cX5_breaks 167 = .ok (.iload 7, 2) := by decide +kernel
theorem dX5_breaks_169 : decode cX5_breaks 169 = .ok (.iload 8, 2) := by decide +kernel
theorem dX5_breaks_171 : decode cX5_breaks 171 = .ok (.idiv, 1) := by decide +kernel
theorem dX5_breaks_172 : decode cX5_breaks 172 = .ok (.ireturn, 1) := by decide +kernel
theorem dX5_image_0 : decode cX5_image 0 = .ok (.iload_n 1, 1) := by decide +kernel
theorem dX5_image_1 : decode cX5_image 1 = .ok (.iconst 2, 1) := by decide +kernel
theorem dX5_image_2 : decode cX5_image 2 = .ok (.invokestatic 59, 3) := by decide +kernel
theorem dX5_image_5 : decode cX5_image 5 = .ok (.ifCond .ne 6, 3) := by decide +kernel
theorem dX5_image_8 : decode cX5_image 8 = .ok (.ldc 63, 2) := by decide +kernel
theorem dX5_image_10 : decode cX5_image 10 = .ok (.ireturn, 1) := by decide +kernel
theorem dX5_image_11 : decode cX5_image 11 = .ok (.aload_n 0, 1) := by decide +kernel
theorem dX5_image_12 : decode cX5_image 12 = .ok (.getfield 25, 3) := by decide +kernel
theorem dX5_image_15 : decode cX5_image 15 = .ok (.getfield 123, 3) := by decide +kernel
theorem dX5_image_18 : decode cX5_image 18 = .ok (.ifCond .ne 6, 3) := by decide +kernel
theorem dX5_image_21 : decode cX5_image 21 = .ok (.ldc 127, 2) := by decide +kernel
theorem dX5_image_23 : decode cX5_image 23 = .ok (.ireturn, 1) := by decide +kernel
theorem dX5_image_24 : decode cX5_image 24 = .ok (.aload_n 0, 1) := by decide +kernel
theorem dX5_image_25 : decode cX5_image 25 = .ok (.getfield 32, 3) := by decide +kernel
theorem dX5_image_28 : decode cX5_image 28 = .ok (.iload_n 1, 1) := by decide +kernel
theorem dX5_image_29 : decode cX5_image 29 = .ok (.aaload, 1) := by decide +kernel
theorem dX5_image_30 : decode cX5_image 30 = .ok (.aload_n 0, 1) := by decide +kernel
theorem dX5_image_31 : decode cX5_image 31 = .ok (.getfield 25, 3) := by decide +kernel
theorem dX5_image_34 : decode cX5_image 34 = .ok (.invokevirtual 112, 3) := by decide +kernel
theorem dX5_image_37 : decode cX5_image 37 = .ok (.iconst 1, 1) := by decide +kernel
theorem dX5_image_38 : decode cX5_image 38 = .ok (.ireturn, 1) := by decide +kernel
theorem dX5_restore_0 : decode cX5_restore 0 = .ok (.iload_n 1, 1) := by decide +kernel
theorem dX5_restore_1 : decode cX5_restore 1 = .ok (.iconst 2, 1) := by decide +kernel
theorem dX5_restore_2 : decode cX5_restore 2 = .ok (.invokestatic 59, 3) := by decide +kernel
theorem dX5_restore_5 : decode cX5_restore 5 = .ok (.ifCond .ne 6, 3) := by decide +kernel
theorem dX5_restore_8 : decode cX5_restore 8 = .ok (.ldc 63, 2) := by decide +kernel
theorem dX5_restore_10 : decode cX5_restore 10 = .ok (.ireturn, 1) := by decide +kernel
theorem dX5_restore_11 : decode cX5_restore 11 = .ok (.aload_n 0, 1) := by decide +kernel
theorem dX5_restore_12 : decode cX5_restore 12 = .ok (.getfield 32, 3) := by decide +kernel
theorem dX5_restore_15 : decode cX5_restore 15 = .ok (.iload_n 1, 1) := by decide +kernel
theorem dX5_restore_16 : decode cX5_restore 16 = .ok (.aaload, 1) := by decide +kernel
theorem dX5_restore_17 : decode cX5_restore 17 = .ok (.getfield 123, 3) := by decide +kernel
theorem dX5_restore_20 : decode cX5_restore 20 = .ok (.ifCond .ne 6, 3) := by decide +kernel
theorem dX5_restore_23 : decode cX5_restore 23 = .ok (.ldc 127, 2) := by decide +kernel
theorem dX5_restore_25 : decode cX5_restore 25 = .ok (.ireturn, 1) := by decide +kernel
theorem dX5_restore_26 : decode cX5_restore 26 = .ok (.aload_n 0, 1) := by decide +kernel
theorem dX5_restore_27 : decode cX5_restore 27 = .ok (.getfield 25, 3) := by decide +kernel
theorem dX5_restore_30 : decode cX5_restore 30 = .ok (.aload_n 0, 1) := by decide +kernel
theorem dX5_restore_31 : decode cX5_restore 31 = .ok (.getfield 32, 3) := by decide +kernel
theorem dX5_restore_34 : decode cX5_restore 34 = .ok (.iload_n 1, 1) := by decide +kernel
theorem dX5_restore_35 : decode cX5_restore 35 = .ok (.aaload, 1) := by decide +kernel
theorem dX5_restore_36 : decode cX5_restore 36 = .ok (.invokevirtual 112, 3) := by decide +kernel
theorem dX5_restore_39 : decode cX5_restore 39 = .ok (.aload_n 0, 1) := by decide +kernel
theorem dX5_restore_40 : decode cX5_restore 40 = .ok (.getfield 39, 3) := by decide +kernel
theorem dX5_restore_43 : decode cX5_restore 43 = .ok (.invokevirtual 116, 3) := by decide +kernel
theorem dX5_restore_46 : decode cX5_restore 46 = .ok (.iconst 1, 1) := by decide +kernel
theorem dX5_restore_47 : decode cX5_restore 47 = .ok (.ireturn, 1) := by decide +kernel
theorem dX5_kind_0 : decode cX5_kind 0 = .ok (.aload_n 0, 1) := by decide +kernel
theorem dX5_kind_1 : decode cX5_kind 1 = .ok (.iload_n 1, 1) := by decide +kernel
theorem dX5_kind_2 : decode cX5_kind 2 = .ok (.invokevirtual 138, 3) := by decide +kernel
theorem dX5_kind_5 : decode cX5_kind 5 = .ok (.ifCond .eq 15, 3) := by decide +kernel
theorem dX5_kind_8 : decode cX5_kind 8 = .ok (.aload_n 0, 1) := by decide +kernel
theorem dX5_kind_9 : decode cX5_kind 9 = .ok (.getfield 25, 3) := by decide +kernel
theorem dX5_kind_12 : decode cX5_kind 12 = .ok (.getfield 226, 3) := by decide +kernel
theorem dX5_kind_15 : decode cX5_kind 15 = .ok (.iload_n 1, 1) := by decide +kernel
theorem dX5_kind_16 : decode cX5_kind 16 = .ok (.iaload, 1) := by decide +kernel
theorem dX5_kind_17 : decode cX5_kind 17 = .ok (.goto 5, 3) := by decide +kernel
theorem dX5_kind_20 : decode cX5_kind 20 = .ok (.ldc 63, 2) := by decide +kernel
theorem dX5_kind_22 : decode cX5_kind 22 = .ok (.ireturn, 1) := by decide +kernel
theorem dX5_as_0 : decode cX5_as 0 = .ok (.aload_n 0, 1) := by decide +kernel
theorem dX5_as_1 : decode cX5_as 1 = .ok (.iload_n 1, 1) := by decide +kernel
theorem dX5_as_2 : decode cX5_as 2 = .ok (.invokevirtual 138, 3) := by decide +kernel
theorem dX5_as_5 : decode cX5_as 5 = .ok (.ifCond .eq 12, 3) := by decide +kernel
theorem dX5_as_8 : decode cX5_as 8 = .ok (.iload_n 2, 1) := by decide +kernel
theorem dX5_as_9 : decode cX5_as 9 = .ok (.bipush 6, 2) := by decide +kernel
theorem dX5_as_11 : decode cX5_as 11 = .ok (.invokestatic 59, 3) := by decide +kernel
theorem dX5_as_14 : decode cX5_as 14 = .ok (.ifCond .ne 6, 3) := by decide +kernel
theorem dX5_as_17 : decode cX5_as 17 = .ok (.ldc 63, 2) := by decide +kernel
theorem dX5_as_19 : decode cX5_as 19 = .ok (.ireturn, 1) := by decide +kernel
theorem dX5_as_20 : decode cX5_as 20 = .ok (.aload_n 0, 1) := by decide +kernel
theorem dX5_as_21 : decode cX5_as 21 = .ok (.getfield 25, 3) := by decide +kernel
theorem dX5_as_24 : decode cX5_as 24 = .ok (.getfield 226, 3) := by decide +kernel
theorem dX5_as_27 : decode cX5_as 27 = .ok (.iload_n 1, 1) := by decide +kernel
theorem dX5_as_28 : decode cX5_as 28 = .ok (.iaload, 1) := by decide +kernel
theorem dX5_as_29 : decode cX5_as 29 = .ok (.iload_n 2, 1) := by decide +kernel
theorem dX5_as_30 : decode cX5_as 30 = .ok (.invokestatic 229, 3) := by decide +kernel
theorem dX5_as_33 : decode cX5_as 33 = .ok (.ifCond .ne 9, 3) := by decide +kernel
theorem dX5_as_36 : decode cX5_as 36 = .ok (.aload_n 0, 1) := by decide +kernel
theorem dX5_as_37 : decode cX5_as 37 = .ok (.iconst 3, 1) := by decide +kernel
theorem dX5_as_38 : decode cX5_as 38 = .ok (.invokevirtual 64, 3) := by decide +kernel
theorem dX5_as_41 : decode cX5_as 41 = .ok (.ireturn, 1) := by decide +kernel
theorem dX5_as_42 : decode cX5_as 42 = .ok (.aload_n 0, 1) := by decide +kernel
theorem dX5_as_43 : decode cX5_as 43 = .ok (.iconst 0, 1) := by decide +kernel
theorem dX5_as_44 : decode cX5_as 44 = .ok (.putfield 68, 3) := by decide +kernel
theorem dX5_as_47 : decode cX5_as 47 = .ok (.iload_n 1, 1) := by decide +kernel
theorem dX5_as_48 : decode cX5_as 48 = .ok (.ireturn, 1) := by decide +kernel
theorem dX5_ask_0 : decode cX5_ask 0 = .ok (.aload_n 0, 1) := by decide +kernel
theorem dX5_ask_1 : decode cX5_ask 1 = .ok (.iload_n 1, 1) := by decide +kernel
theorem dX5_ask_2 : decode cX5_ask 2 = .ok (.invokevirtual 138, 3) := by decide +kernel
theorem dX5_ask_5 : decode cX5_ask 5 = .ok (.ifCond .eq 11, 3) := by decide +kernel
theorem dX5_ask_8 : decode cX5_ask 8 = .ok (.iload_n 2, 1) := by decide +kernel
theorem dX5_ask_9 : decode cX5_ask 9 = .ok (.iconst 2, 1) := by decide +kernel
theorem dX5_ask_10 : decode cX5_ask 10 = .ok (.invokestatic 59, 3) := by decide +kernel
theorem dX5_ask_13 : decode cX5_ask 13 = .ok (.ifCond .ne 6, 3) := by decide +kernel
theorem dX5_ask_16 : decode cX5_ask 16 = .ok (.ldc 63, 2) := by decide +kernel
theorem dX5_ask_18 : decode cX5_ask 18 = .ok (.ireturn, 1) := by decide +kernel
theorem dX5_ask_19 : decode cX5_ask 19 = .ok (.aload_n 0, 1) := by decide +kernel
theorem dX5_ask_20 : decode cX5_ask 20 = .ok (.iconst 0, 1) := by decide +kernel
theorem dX5_ask_21 : decode cX5_ask 21 = .ok (.putfield 232, 3) := by decide +kernel
theorem dX5_ask_24 : decode cX5_ask 24 = .ok (.aload_n 0, 1) := by decide +kernel
theorem dX5_ask_25 : decode cX5_ask 25 = .ok (.iload_n 2, 1) := by decide +kernel
theorem dX5_ask_26 : decode cX5_ask 26 = .ok (.iload_n 1, 1) := by decide +kernel
theorem dX5_ask_27 : decode cX5_ask 27 = .ok (.iconst 0, 1) := by decide +kernel
theorem dX5_ask_28 : decode cX5_ask 28 = .ok (.invokevirtual 235, 3) := by decide +kernel
theorem dX5_ask_31 : decode cX5_ask 31 = .ok (.ireturn, 1) := by decide +kernel
theorem dX5_trace_0 : decode cX5_trace 0 = .ok (.iload_n 1, 1) := by decide +kernel
theorem dX5_trace_1 : decode cX5_trace 1 = .ok (.aload_n 0, 1) := by decide +kernel
theorem dX5_trace_2 : decode cX5_trace 2 = .ok (.getfield 232, 3) := by decide +kernel
theorem dX5_trace_5 : decode cX5_trace 5 = .ok (.invokestatic 59, 3) := by decide +kernel
theorem dX5_trace_8 : decode cX5_trace 8 = .ok (.ifCond .eq 12, 3) := by decide +kernel
theorem dX5_trace_11 : decode cX5_trace 11 = .ok (.aload_n 0, 1) := by decide +kernel
theorem dX5_trace_12 : decode cX5_trace 12 = .ok (.getfield 50, 3) := by decide +kernel
theorem dX5_trace_15 : decode cX5_trace 15 = .ok (.iload_n 1, 1) := by decide +kernel
theorem dX5_trace_16 : decode cX5_trace 16 = .ok (.iaload, 1) := by decide +kernel
theorem dX5_trace_17 : decode cX5_trace 17 = .ok (.goto 5, 3) := by decide +kernel
theorem dX5_trace_20 : decode cX5_trace 20 = .ok (.ldc 187, 2) := by decide +kernel
theorem dX5_trace_22 : decode cX5_trace 22 = .ok (.ireturn, 1) := by decide +kernel
theorem dX5_count_0 : decode cX5_count 0 = .ok (.iload_n 1, 1) := by decide +kernel
theorem dX5_count_1 : decode cX5_count 1 = .ok (.tableswitch 111 0 7 #[47, 52, 60, 68, 76, 84, 95, 103], 47) := by decide +kernel
theorem dX5_count_48 : decode cX5_count 48 = .ok (.aload_n 0, 1) := by decide +kernel
theorem dX5_count_49 : decode cX5_count 49 = .ok (.invokevirtual 239, 3) := by decide +kernel
theorem dX5_count_52 : decode cX5_count 52 = .ok (.ireturn, 1) := by decide +kernel
theorem dX5_count_53 : decode cX5_count 53 = .ok (.aload_n 0, 1) := by decide +kernel
theorem dX5_count_54 : decode cX5_count 54 = .ok (.getfield 25, 3) := by decide +kernel
theorem dX5_count_57 : decode cX5_count 57 = .ok (.getfield 119, 3) := by decide +kernel
theorem dX5_count_60 : decode cX5_count 60 = .ok (.ireturn, 1) := by decide +kernel
theorem dX5_count_61 : decode cX5_count 61 = .ok (.aload_n 0, 1) := by decide +kernel
theorem dX5_count_62 : decode cX5_count 62 = .ok (.getfield 25, 3) := by decide +kernel
theorem dX5_count_65 : decode cX5_count 65 = .ok (.getfield 128, 3) := by decide +kernel
theorem dX5_count_68 : decode cX5_count 68 = .ok (.ireturn, 1) := by decide +kernel
theorem dX5_count_69 : decode cX5_count 69 = .ok (.aload_n 0, 1) := by decide +kernel
theorem dX5_count_70 : decode cX5_count 70 = .ok (.getfield 25, 3) := by decide +kernel
theorem dX5_count_73 : decode cX5_count 73 = .ok (.getfield 242, 3) := by decide +kernel
theorem dX5_count_76 : decode cX5_count 76 = .ok (.ireturn, 1) := by decide +kernel
theorem dX5_count_77 : decode cX5_count 77 = .ok (.aload_n 0, 1) := by decide +kernel
theorem dX5_count_78 : decode cX5_count 78 = .ok (.getfield 25, 3) := by decide +kernel
theorem dX5_count_81 : decode cX5_count 81 = .ok (.getfield 245, 3) := by decide +kernel
theorem dX5_count_84 : decode cX5_count 84 = .ok (.ireturn, 1) := by decide +kernel
theorem dX5_count_85 : decode cX5_count 85 = .ok (.aload_n 0, 1) := by decide +kernel
theorem dX5_count_86 : decode cX5_count 86 = .ok (.getfield 25, 3) := by decide +kernel
theorem dX5_count_89 : decode cX5_count 89 = .ok (.getfield 160, 3) := by decide +kernel
theorem dX5_count_92 : decode cX5_count 92 = .ok (.invokestatic 248, 3) := by decide +kernel
theorem dX5_count_95 : decode cX5_count 95 = .ok (.ireturn, 1) := by decide +kernel
theorem dX5_count_96 : decode cX5_count 96 = .ok (.aload_n 0, 1) := by decide +kernel
theorem dX5_count_97 : decode cX5_count 97 = .ok (.getfield 39, 3) := by decide +kernel
theorem dX5_count_100 : decode cX5_count 100 = .ok (.getfield 163, 3) := by decide +kernel
theorem dX5_count_103 : decode cX5_count 103 = .ok (.ireturn, 1) := by decide +kernel
theorem dX5_count_104 : decode cX5_count 104 = .ok (.aload_n 0, 1) := by decide +kernel
theorem dX5_count_105 : decode cX5_count 105 = .ok (.getfield 18, 3) := by decide +kernel
theorem dX5_count_108 : decode cX5_count 108 = .ok (.getfield 97, 3) := by decide +kernel
theorem dX5_count_111 : decode cX5_count 111 = .ok (.ireturn, 1) := by decide +kernel
theorem dX5_count_112 : decode cX5_count 112 = .ok (.ldc 63, 2) := by decide +kernel
theorem dX5_count_114 : decode cX5_count 114 = .ok (.ireturn, 1) := by decide +kernel
theorem dX5_status_0 : decode cX5_status 0 = .ok (.aload_n 0, 1) := by decide +kernel
theorem dX5_status_1 : decode cX5_status 1 = .ok (.getfield 68, 3) := by decide +kernel
theorem dX5_status_4 : decode cX5_status 4 = .ok (.ireturn, 1) := by decide +kernel
theorem dX5_isBelow_0 : decode cX5_isBelow 0 = .ok (.iload_n 0, 1) := by decide +kernel
theorem dX5_isBelow_1 : decode cX5_isBelow 1 = .ok (.ifCond .lt 12, 3) := by decide +kernel
theorem dX5_isBelow_4 : decode cX5_isBelow 4 = .ok (.iload_n 0, 1) := by decide +kernel
theorem dX5_isBelow_5 : decode cX5_isBelow 5 = .ok (.iload_n 1, 1) := by decide +kernel
theorem dX5_isBelow_6 : decode cX5_isBelow 6 = .ok (.if_icmp .ge 7, 3) := by decide +kernel
theorem dX5_isBelow_9 : decode cX5_isBelow 9 = .ok (.iconst 1, 1) := by decide +kernel
theorem dX5_isBelow_10 : decode cX5_isBelow 10 = .ok (.goto 4, 3) := by decide +kernel
theorem dX5_isBelow_13 : decode cX5_isBelow 13 = .ok (.iconst 0, 1) := by decide +kernel
theorem dX5_isBelow_14 : decode cX5_isBelow 14 = .ok (.ireturn, 1) := by decide +kernel
theorem dX5_isRow_0 : decode cX5_isRow 0 = .ok (.iload_n 0, 1) := by decide +kernel
theorem dX5_isRow_1 : decode cX5_isRow 1 = .ok (.bipush 8, 2) := by decide +kernel
theorem dX5_isRow_3 : decode cX5_isRow 3 = .ok (.invokestatic 59, 3) := by decide +kernel
theorem dX5_isRow_6 : decode cX5_isRow 6 = .ok (.ireturn, 1) := by decide +kernel
theorem dX5_isAhead_0 : decode cX5_isAhead 0 = .ok (.iload_n 0, 1) := by decide +kernel
theorem dX5_isAhead_1 : decode cX5_isAhead 1 = .ok (.ifCond .lt 13, 3) := by decide +kernel
theorem dX5_isAhead_4 : decode cX5_isAhead 4 = .ok (.iload_n 0, 1) := by decide +kernel
theorem dX5_isAhead_5 : decode cX5_isAhead 5 = .ok (.bipush 60, 2) := by decide +kernel
theorem dX5_isAhead_7 : decode cX5_isAhead 7 = .ok (.if_icmp .gt 7, 3) := by decide +kernel
theorem dX5_isAhead_10 : decode cX5_isAhead 10 = .ok (.iconst 1, 1) := by decide +kernel
theorem dX5_isAhead_11 : decode cX5_isAhead 11 = .ok (.goto 4, 3) := by decide +kernel
theorem dX5_isAhead_14 : decode cX5_isAhead 14 = .ok (.iconst 0, 1) := by decide +kernel
theorem dX5_isAhead_15 : decode cX5_isAhead 15 = .ok (.ireturn, 1) := by decide +kernel
theorem dX5_isHammock_0 : decode cX5_isHammock 0 = .ok (.iload_n 1, 1) := by decide +kernel
theorem dX5_isHammock_1 : decode cX5_isHammock 1 = .ok (.aload_n 0, 1) := by decide +kernel
theorem dX5_isHammock_2 : decode cX5_isHammock 2 = .ok (.getfield 25, 3) := by decide +kernel
theorem dX5_isHammock_5 : decode cX5_isHammock 5 = .ok (.getfield 119, 3) := by decide +kernel
theorem dX5_isHammock_8 : decode cX5_isHammock 8 = .ok (.invokestatic 59, 3) := by decide +kernel
theorem dX5_isHammock_11 : decode cX5_isHammock 11 = .ok (.ireturn, 1) := by decide +kernel
theorem dX5_areTwo_0 : decode cX5_areTwo 0 = .ok (.aload_n 0, 1) := by decide +kernel
theorem dX5_areTwo_1 : decode cX5_areTwo 1 = .ok (.iload_n 1, 1) := by decide +kernel
theorem dX5_areTwo_2 : decode cX5_areTwo 2 = .ok (.invokevirtual 138, 3) := by decide +kernel
theorem dX5_areTwo_5 : decode cX5_areTwo 5 = .ok (.ifCond .eq 20, 3) := by decide +kernel
theorem dX5_areTwo_8 : decode cX5_areTwo 8 = .ok (.aload_n 0, 1) := by decide +kernel
theorem dX5_areTwo_9 : decode cX5_areTwo 9 = .ok (.iload_n 2, 1) := by decide +kernel
theorem dX5_areTwo_10 : decode cX5_areTwo 10 = .ok (.invokevirtual 138, 3) := by decide +kernel
theorem dX5_areTwo_13 : decode cX5_areTwo 13 = .ok (.ifCond .eq 12, 3) := by decide +kernel
theorem dX5_areTwo_16 : decode cX5_areTwo 16 = .ok (.iload_n 1, 1) := by decide +kernel
theorem dX5_areTwo_17 : decode cX5_areTwo 17 = .ok (.iload_n 2, 1) := by decide +kernel
theorem dX5_areTwo_18 : decode cX5_areTwo 18 = .ok (.if_icmp .eq 7, 3) := by decide +kernel
theorem dX5_areTwo_21 : decode cX5_areTwo 21 = .ok (.iconst 1, 1) := by decide +kernel
theorem dX5_areTwo_22 : decode cX5_areTwo 22 = .ok (.goto 4, 3) := by decide +kernel
theorem dX5_areTwo_25 : decode cX5_areTwo 25 = .ok (.iconst 0, 1) := by decide +kernel
theorem dX5_areTwo_26 : decode cX5_areTwo 26 = .ok (.ireturn, 1) := by decide +kernel
theorem dX5_finds_0 : decode cX5_finds 0 = .ok (.aload_n 0, 1) := by decide +kernel
theorem dX5_finds_1 : decode cX5_finds 1 = .ok (.iload_n 1, 1) := by decide +kernel
theorem dX5_finds_2 : decode cX5_finds 2 = .ok (.putfield 68, 3) := by decide +kernel
theorem dX5_finds_5 : decode cX5_finds 5 = .ok (.ldc 253, 2) := by decide +kernel
theorem dX5_finds_7 : decode cX5_finds 7 = .ok (.iload_n 1, 1) := by decide +kernel
theorem dX5_finds_8 : decode cX5_finds 8 = .ok (.isub, 1) := by decide +kernel
theorem dX5_finds_9 : decode cX5_finds 9 = .ok (.ireturn, 1) := by decide +kernel
theorem dX5_countRows_0 : decode cX5_countRows 0 = .ok (.iconst 0, 1) := by decide +kernel
theorem dX5_countRows_1 : decode cX5_countRows 1 = .ok (.istore_n 1, 1) := by decide +kernel
theorem dX5_countRows_2 : decode cX5_countRows 2 = .ok (.iconst 0, 1) := by decide +kernel
theorem dX5_countRows_3 : decode cX5_countRows 3 = .ok (.istore_n 2, 1) := by decide +kernel
theorem dX5_countRows_4 : decode cX5_countRows 4 = .ok (.iload_n 2, 1) := by decide +kernel
theorem dX5_countRows_5 : decode cX5_countRows 5 = .ok (.bipush 8, 2) := by decide +kernel
theorem dX5_countRows_7 : decode cX5_countRows 7 = .ok (.if_icmp .ge 25, 3) := by decide +kernel
theorem dX5_countRows_10 : decode cX5_countRows 10 = .ok (.aload_n 0, 1) := by decide +kernel
theorem dX5_countRows_11 : decode cX5_countRows 11 = .ok (.getfield 11, 3) := by decide +kernel
theorem dX5_countRows_14 : decode cX5_countRows 14 = .ok (.iload_n 2, 1) := by decide +kernel
theorem dX5_countRows_15 : decode cX5_countRows 15 = .ok (.aaload, 1) := by decide +kernel
theorem dX5_countRows_16 : decode cX5_countRows 16 = .ok (.getfield 76, 3) := by decide +kernel
theorem dX5_countRows_19 : decode cX5_countRows 19 = .ok (.iconst (-1), 1) := by decide +kernel
theorem dX5_countRows_20 : decode cX5_countRows 20 = .ok (.if_icmp .eq 6, 3) := by decide +kernel
theorem dX5_countRows_23 : decode cX5_countRows 23 = .ok (.iinc 1 1, 3) := by decide +kernel
theorem dX5_countRows_26 : decode cX5_countRows 26 = .ok (.iinc 2 1, 3) := by decide +kernel
theorem dX5_countRows_29 : decode cX5_countRows 29 = .ok (.goto (-25), 3) := by decide +kernel
theorem dX5_countRows_32 : decode cX5_countRows 32 = .ok (.iload_n 1, 1) := by decide +kernel
theorem dX5_countRows_33 : decode cX5_countRows 33 = .ok (.ireturn, 1) := by decide +kernel
theorem dX5_fittingKinds_0 : decode cX5_fittingKinds 0 = .ok (.iconst 0, 1) := by decide +kernel
theorem dX5_fittingKinds_1 : decode cX5_fittingKinds 1 = .ok (.istore 5, 2) := by decide +kernel
theorem dX5_fittingKinds_3 : decode cX5_fittingKinds 3 = .ok (.iconst 1, 1) := by decide +kernel
theorem dX5_fittingKinds_4 : decode cX5_fittingKinds 4 = .ok (.istore 6, 2) := by decide +kernel
theorem dX5_fittingKinds_6 : decode cX5_fittingKinds 6 = .ok (.iload 6, 2) := by decide +kernel
theorem dX5_fittingKinds_8 : decode cX5_fittingKinds 8 = .ok (.bipush 6, 2) := by decide +kernel
theorem dX5_fittingKinds_10 : decode cX5_fittingKinds 10 = .ok (.if_icmp .ge 41, 3) := by decide +kernel
theorem dX5_fittingKinds_13 : decode cX5_fittingKinds 13 = .ok (.aload_n 0, 1) := by decide +kernel
theorem dX5_fittingKinds_14 : decode cX5_fittingKinds 14 = .ok (.getfield 29, 3) := by decide +kernel
theorem dX5_fittingKinds_17 : decode cX5_fittingKinds 17 = .ok (.getfield 226, 3) := by decide +kernel
theorem dX5_fittingKinds_20 : decode cX5_fittingKinds 20 = .ok (.iload_n 1, 1) := by decide +kernel
theorem dX5_fittingKinds_21 : decode cX5_fittingKinds 21 = .ok (.iload 6, 2) := by decide +kernel
theorem dX5_fittingKinds_23 : decode cX5_fittingKinds 23 = .ok (.iastore, 1) := by decide +kernel
theorem dX5_fittingKinds_24 : decode cX5_fittingKinds 24 = .ok (.aload_n 0, 1) := by decide +kernel
theorem dX5_fittingKinds_25 : decode cX5_fittingKinds 25 = .ok (.iload_n 1, 1) := by decide +kernel
theorem dX5_fittingKinds_26 : decode cX5_fittingKinds 26 = .ok (.aload_n 2, 1) := by decide +kernel
theorem dX5_fittingKinds_27 : decode cX5_fittingKinds 27 = .ok (.iload_n 3, 1) := by decide +kernel
theorem dX5_fittingKinds_28 : decode cX5_fittingKinds 28 = .ok (.iload 4, 2) := by decide +kernel
theorem dX5_fittingKinds_30 : decode cX5_fittingKinds 30 = .ok (.invokevirtual 254, 3) := by decide +kernel
theorem dX5_fittingKinds_33 : decode cX5_fittingKinds 33 = .ok (.ifCond .eq 12, 3) := by decide +kernel
theorem dX5_fittingKinds_36 : decode cX5_fittingKinds 36 = .ok (.iload 5, 2) := by decide +kernel
theorem dX5_fittingKinds_38 : decode cX5_fittingKinds 38 = .ok (.iconst 1, 1) := by decide +kernel
theorem dX5_fittingKinds_39 : decode cX5_fittingKinds 39 = .ok (.iload 6, 2) := by decide +kernel
theorem dX5_fittingKinds_41 : decode cX5_fittingKinds 41 = .ok (.ishl, 1) := by decide +kernel
theorem dX5_fittingKinds_42 : decode cX5_fittingKinds 42 = .ok (.ior, 1) := by decide +kernel
theorem dX5_fittingKinds_43 : decode cX5_fittingKinds 43 = .ok (.istore 5, 2) := by decide +kernel
theorem dX5_fittingKinds_45 : decode cX5_fittingKinds 45 = .ok (.iinc 6 1, 3) := by decide +kernel
theorem dX5_fittingKinds_48 : decode cX5_fittingKinds 48 = .ok (.goto (-42), 3) := by decide +kernel
theorem dX5_fittingKinds_51 : decode cX5_fittingKinds 51 = .ok (.iload 5, 2) := by decide +kernel
theorem dX5_fittingKinds_53 : decode cX5_fittingKinds 53 = .ok (.ireturn, 1) := by decide +kernel
theorem dX5_fittingSwings_0 : decode cX5_fittingSwings 0 = .ok (.iconst 0, 1) := by decide +kernel
theorem dX5_fittingSwings_1 : decode cX5_fittingSwings 1 = .ok (.istore 5, 2) := by decide +kernel
theorem dX5_fittingSwings_3 : decode cX5_fittingSwings 3 = .ok (.iconst 0, 1) := by decide +kernel
theorem dX5_fittingSwings_4 : decode cX5_fittingSwings 4 = .ok (.istore 6, 2) := by decide +kernel
theorem dX5_fittingSwings_6 : decode cX5_fittingSwings 6 = .ok (.iload 6, 2) := by decide +kernel
theorem dX5_fittingSwings_8 : decode cX5_fittingSwings 8 = .ok (.iconst 5, 1) := by decide +kernel
theorem dX5_fittingSwings_9 : decode cX5_fittingSwings 9 = .ok (.if_icmp .gt 41, 3) := by decide +kernel
theorem dX5_fittingSwings_12 : decode cX5_fittingSwings 12 = .ok (.aload_n 0, 1) := by decide +kernel
theorem dX5_fittingSwings_13 : decode cX5_fittingSwings 13 = .ok (.getfield 29, 3) := by decide +kernel
theorem dX5_fittingSwings_16 : decode cX5_fittingSwings 16 = .ok (.getfield 169, 3) := by decide +kernel
theorem dX5_fittingSwings_19 : decode cX5_fittingSwings 19 = .ok (.iload_n 1, 1) := by decide +kernel
theorem dX5_fittingSwings_20 : decode cX5_fittingSwings 20 = .ok (.iload 6, 2) := by decide +kernel
theorem dX5_fittingSwings_22 : decode cX5_fittingSwings 22 = .ok (.iastore, 1) := by decide +kernel
theorem dX5_fittingSwings_23 : decode cX5_fittingSwings 23 = .ok (.aload_n 0, 1) := by decide +kernel
theorem dX5_fittingSwings_24 : decode cX5_fittingSwings 24 = .ok (.iload_n 1, 1) := by decide +kernel
theorem dX5_fittingSwings_25 : decode cX5_fittingSwings 25 = .ok (.aload_n 2, 1) := by decide +kernel
theorem dX5_fittingSwings_26 : decode cX5_fittingSwings 26 = .ok (.iload_n 3, 1) := by decide +kernel
theorem dX5_fittingSwings_27 : decode cX5_fittingSwings 27 = .ok (.iload 4, 2) := by decide +kernel
theorem dX5_fittingSwings_29 : decode cX5_fittingSwings 29 = .ok (.invokevirtual 254, 3) := by decide +kernel
theorem dX5_fittingSwings_32 : decode cX5_fittingSwings 32 = .ok (.ifCond .eq 12, 3) := by decide +kernel
theorem dX5_fittingSwings_35 : decode cX5_fittingSwings 35 = .ok (.iload 5, 2) := by decide +kernel
theorem dX5_fittingSwings_37 : decode cX5_fittingSwings 37 = .ok (.iconst 1, 1) := by decide +kernel
theorem dX5_fittingSwings_38 : decode cX5_fittingSwings 38 = .ok (.iload 6, 2) := by decide +kernel
theorem dX5_fittingSwings_40 : decode cX5_fittingSwings 40 = .ok (.ishl, 1) := by decide +kernel
theorem dX5_fittingSwings_41 : decode cX5_fittingSwings 41 = .ok (.ior, 1) := by decide +kernel
theorem dX5_fittingSwings_42 : decode cX5_fittingSwings 42 = .ok (.istore 5, 2) := by decide +kernel
theorem dX5_fittingSwings_44 : decode cX5_fittingSwings 44 = .ok (.iinc 6 1, 3) := by decide +kernel
theorem dX5_fittingSwings_47 : decode cX5_fittingSwings 47 = .ok (.goto (-41), 3) := by decide +kernel
theorem dX5_fittingSwings_50 : decode cX5_fittingSwings 50 = .ok (.iload 5, 2) := by decide +kernel
theorem dX5_fittingSwings_52 : decode cX5_fittingSwings 52 = .ok (.ireturn, 1) := by decide +kernel
theorem dX5_fittingWeights_0 : decode cX5_fittingWeights 0 = .ok (.iconst 0, 1) := by decide +kernel
theorem dX5_fittingWeights_1 : decode cX5_fittingWeights 1 = .ok (.istore 5, 2) := by decide +kernel
theorem dX5_fittingWeights_3 : decode cX5_fittingWeights 3 = .ok (.iconst 1, 1) := by decide +kernel
theorem dX5_fittingWeights_4 : decode cX5_fittingWeights 4 = .ok (.istore 6, 2) := by decide +kernel
theorem dX5_fittingWeights_6 : decode cX5_fittingWeights 6 = .ok (.iload 6, 2) := by decide +kernel
theorem dX5_fittingWeights_8 : decode cX5_fittingWeights 8 = .ok (.bipush 20, 2) := by decide +kernel
theorem dX5_fittingWeights_10 : decode cX5_fittingWeights 10 = .ok (.if_icmp .gt 41, 3) := by decide +kernel
theorem dX5_fittingWeights_13 : decode cX5_fittingWeights 13 = .ok (.aload_n 0, 1) := by decide +kernel
theorem dX5_fittingWeights_14 : decode cX5_fittingWeights 14 = .ok (.getfield 29, 3) := by decide +kernel
theorem dX5_fittingWeights_17 : decode cX5_fittingWeights 17 = .ok (.getfield 151, 3) := by decide +kernel
theorem dX5_fittingWeights_20 : decode cX5_fittingWeights 20 = .ok (.iload_n 1, 1) := by decide +kernel
theorem dX5_fittingWeights_21 : decode cX5_fittingWeights 21 = .ok (.iload 6, 2) := by decide +kernel
theorem dX5_fittingWeights_23 : decode cX5_fittingWeights 23 = .ok (.iastore, 1) := by decide +kernel
theorem dX5_fittingWeights_24 : decode cX5_fittingWeights 24 = .ok (.aload_n 0, 1) := by decide +kernel
theorem dX5_fittingWeights_25 : decode cX5_fittingWeights 25 = .ok (.iload_n 1, 1) := by decide +kernel
theorem dX5_fittingWeights_26 : decode cX5_fittingWeights 26 = .ok (.aload_n 2, 1) := by decide +kernel
theorem dX5_fittingWeights_27 : decode cX5_fittingWeights 27 = .ok (.iload_n 3, 1) := by decide +kernel
theorem dX5_fittingWeights_28 : decode cX5_fittingWeights 28 = .ok (.iload 4, 2) := by decide +kernel
theorem dX5_fittingWeights_30 : decode cX5_fittingWeights 30 = .ok (.invokevirtual 258, 3) := by decide +kernel
theorem dX5_fittingWeights_33 : decode cX5_fittingWeights 33 = .ok (.ifCond .eq 12, 3) := by decide +kernel
theorem dX5_fittingWeights_36 : decode cX5_fittingWeights 36 = .ok (.iload 5, 2) := by decide +kernel
theorem dX5_fittingWeights_38 : decode cX5_fittingWeights 38 = .ok (.iconst 1, 1) := by decide +kernel
theorem dX5_fittingWeights_39 : decode cX5_fittingWeights 39 = .ok (.iload 6, 2) := by decide +kernel
theorem dX5_fittingWeights_41 : decode cX5_fittingWeights 41 = .ok (.ishl, 1) := by decide +kernel
theorem dX5_fittingWeights_42 : decode cX5_fittingWeights 42 = .ok (.ior, 1) := by decide +kernel
theorem dX5_fittingWeights_43 : decode cX5_fittingWeights 43 = .ok (.istore 5, 2) := by decide +kernel
theorem dX5_fittingWeights_45 : decode cX5_fittingWeights 45 = .ok (.iinc 6 1, 3) := by decide +kernel
theorem dX5_fittingWeights_48 : decode cX5_fittingWeights 48 = .ok (.goto (-42), 3) := by decide +kernel
theorem dX5_fittingWeights_51 : decode cX5_fittingWeights 51 = .ok (.iload 5, 2) := by decide +kernel
theorem dX5_fittingWeights_53 : decode cX5_fittingWeights 53 = .ok (.ireturn, 1) := by decide +kernel
theorem dX5_wasThere_0 : decode cX5_wasThere 0 = .ok (.iconst 0, 1) := by decide +kernel
theorem dX5_wasThere_1 : decode cX5_wasThere 1 = .ok (.istore 5, 2) := by decide +kernel
theorem dX5_wasThere_3 : decode cX5_wasThere 3 = .ok (.iload 5, 2) := by decide +kernel
theorem dX5_wasThere_5 : decode cX5_wasThere 5 = .ok (.iload 4, 2) := by decide +kernel
theorem dX5_wasThere_7 : decode cX5_wasThere 7 = .ok (.if_icmp .ge 41, 3) := by decide +kernel
theorem dX5_wasThere_10 : decode cX5_wasThere 10 = .ok (.aload_n 2, 1) := by decide +kernel
theorem dX5_wasThere_11 : decode cX5_wasThere 11 = .ok (.getfield 82, 3) := by decide +kernel
theorem dX5_wasThere_14 : decode cX5_wasThere 14 = .ok (.iload_n 3, 1) := by decide +kernel
theorem dX5_wasThere_15 : decode cX5_wasThere 15 = .ok (.iload 5, 2) := by decide +kernel
theorem dX5_wasThere_17 : decode cX5_wasThere 17 = .ok (.iadd, 1) := by decide +kernel
theorem dX5_wasThere_18 : decode cX5_wasThere 18 = .ok (.iaload, 1) := by decide +kernel
theorem dX5_wasThere_19 : decode cX5_wasThere 19 = .ok (.aload_n 0, 1) := by decide +kernel
theorem dX5_wasThere_20 : decode cX5_wasThere 20 = .ok (.getfield 29, 3) := by decide +kernel
theorem dX5_wasThere_23 : decode cX5_wasThere 23 = .ok (.iload_n 1, 1) := by decide +kernel
theorem dX5_wasThere_24 : decode cX5_wasThere 24 = .ok (.aload_n 0, 1) := by decide +kernel
theorem dX5_wasThere_25 : decode cX5_wasThere 25 = .ok (.getfield 29, 3) := by decide +kernel
theorem dX5_wasThere_28 : decode cX5_wasThere 28 = .ok (.getfield 128, 3) := by decide +kernel
theorem dX5_wasThere_31 : decode cX5_wasThere 31 = .ok (.iload 5, 2) := by decide +kernel
theorem dX5_wasThere_33 : decode cX5_wasThere 33 = .ok (.iadd, 1) := by decide +kernel
theorem dX5_wasThere_34 : decode cX5_wasThere 34 = .ok (.invokevirtual 147, 3) := by decide +kernel
theorem dX5_wasThere_37 : decode cX5_wasThere 37 = .ok (.if_icmp .eq 5, 3) := by decide +kernel
theorem dX5_wasThere_40 : decode cX5_wasThere 40 = .ok (.iconst 0, 1) := by decide +kernel
theorem dX5_wasThere_41 : decode cX5_wasThere 41 = .ok (.ireturn, 1) := by decide +kernel
theorem dX5_wasThere_42 : decode cX5_wasThere 42 = .ok (.iinc 5 1, 3) := by decide +kernel
theorem dX5_wasThere_45 : decode cX5_wasThere 45 = .ok (.goto (-42), 3) := by decide +kernel
theorem dX5_wasThere_48 : decode cX5_wasThere 48 = .ok (.iconst 1, 1) := by decide +kernel
theorem dX5_wasThere_49 : decode cX5_wasThere 49 = .ok (.ireturn, 1) := by decide +kernel
theorem dX5_wasReached_0 : decode cX5_wasReached 0 = .ok (.iconst 0, 1) := by decide +kernel
theorem dX5_wasReached_1 : decode cX5_wasReached 1 = .ok (.istore 5, 2) := by decide +kernel
theorem dX5_wasReached_3 : decode cX5_wasReached 3 = .ok (.iload 5, 2) := by decide +kernel
theorem dX5_wasReached_5 : decode cX5_wasReached 5 = .ok (.iload 4, 2) := by decide +kernel
theorem dX5_wasReached_7 : decode cX5_wasReached 7 = .ok (.if_icmp .ge 41, 3) := by decide +kernel
theorem dX5_wasReached_10 : decode cX5_wasReached 10 = .ok (.aload_n 2, 1) := by decide +kernel
theorem dX5_wasReached_11 : decode cX5_wasReached 11 = .ok (.getfield 82, 3) := by decide +kernel
theorem dX5_wasReached_14 : decode cX5_wasReached 14 = .ok (.iload_n 3, 1) := by decide +kernel
theorem dX5_wasReached_15 : decode cX5_wasReached 15 = .ok (.iload 5, 2) := by decide +kernel
theorem dX5_wasReached_17 : decode cX5_wasReached 17 = .ok (.iadd, 1) := by decide +kernel
theorem dX5_wasReached_18 : decode cX5_wasReached 18 = .ok (.iaload, 1) := by decide +kernel
theorem dX5_wasReached_19 : decode cX5_wasReached 19 = .ok (.aload_n 0, 1) := by decide +kernel
theorem dX5_wasReached_20 : decode cX5_wasReached 20 = .ok (.getfield 29, 3) := by decide +kernel
theorem dX5_wasReached_23 : decode cX5_wasReached 23 = .ok (.iload_n 1, 1) := by decide +kernel
theorem dX5_wasReached_24 : decode cX5_wasReached 24 = .ok (.aload_n 0, 1) := by decide +kernel
theorem dX5_wasReached_25 : decode cX5_wasReached 25 = .ok (.getfield 29, 3) := by decide +kernel
theorem dX5_wasReached_28 : decode cX5_wasReached 28 = .ok (.getfield 128, 3) := by decide +kernel
theorem dX5_wasReached_31 : decode cX5_wasReached 31 = .ok (.iload 5, 2) := by decide +kernel
theorem dX5_wasReached_33 : decode cX5_wasReached 33 = .ok (.iadd, 1) := by decide +kernel
theorem dX5_wasReached_34 : decode cX5_wasReached 34 = .ok (.invokevirtual 175, 3) := by decide +kernel
theorem dX5_wasReached_37 : decode cX5_wasReached 37 = .ok (.if_icmp .eq 5, 3) := by decide +kernel
theorem dX5_wasReached_40 : decode cX5_wasReached 40 = .ok (.iconst 0, 1) := by decide +kernel
theorem dX5_wasReached_41 : decode cX5_wasReached 41 = .ok (.ireturn, 1) := by decide +kernel
theorem dX5_wasReached_42 : decode cX5_wasReached 42 = .ok (.iinc 5 1, 3) := by decide +kernel
theorem dX5_wasReached_45 : decode cX5_wasReached 45 = .ok (.goto (-42), 3) := by decide +kernel
theorem dX5_wasReached_48 : decode cX5_wasReached 48 = .ok (.iconst 1, 1) := by decide +kernel
theorem dX5_wasReached_49 : decode cX5_wasReached 49 = .ok (.ireturn, 1) := by decide +kernel
theorem dX5_partsOf_0 : decode cX5_partsOf 0 = .ok (.iconst 1, 1) := by decide +kernel
theorem dX5_partsOf_1 : decode cX5_partsOf 1 = .ok (.istore_n 3, 1) := by decide +kernel
theorem dX5_partsOf_2 : decode cX5_partsOf 2 = .ok (.iconst 0, 1) := by decide +kernel
theorem dX5_partsOf_3 : decode cX5_partsOf 3 = .ok (.istore 4, 2) := by decide +kernel
theorem dX5_partsOf_5 : decode cX5_partsOf 5 = .ok (.iload 4, 2) := by decide +kernel
theorem dX5_partsOf_7 : decode cX5_partsOf 7 = .ok (.aload_n 0, 1) := by decide +kernel
theorem dX5_partsOf_8 : decode cX5_partsOf 8 = .ok (.getfield 25, 3) := by decide +kernel
theorem dX5_partsOf_11 : decode cX5_partsOf 11 = .ok (.getfield 119, 3) := by decide +kernel
theorem dX5_partsOf_14 : decode cX5_partsOf 14 = .ok (.if_icmp .ge 42, 3) := by decide +kernel
theorem dX5_partsOf_17 : decode cX5_partsOf 17 = .ok (.aload_n 0, 1) := by decide +kernel
theorem dX5_partsOf_18 : decode cX5_partsOf 18 = .ok (.getfield 25, 3) := by decide +kernel
theorem dX5_partsOf_21 : decode cX5_partsOf 21 = .ok (.iload 4, 2) := by decide +kernel
theorem dX5_partsOf_23 : decode cX5_partsOf 23 = .ok (.invokevirtual 157, 3) := by decide +kernel
theorem dX5_partsOf_26 : decode cX5_partsOf 26 = .ok (.ifCond .ne 24, 3) := by decide +kernel
theorem dX5_partsOf_29 : decode cX5_partsOf 29 = .ok (.iload_n 3, 1) := by decide +kernel
theorem dX5_partsOf_30 : decode cX5_partsOf 30 = .ok (.iload_n 1, 1) := by decide +kernel
theorem dX5_partsOf_31 : decode cX5_partsOf 31 = .ok (.iload 4, 2) := by decide +kernel
theorem dX5_partsOf_33 : decode cX5_partsOf 33 = .ok (.ishr, 1) := by decide +kernel
theorem dX5_partsOf_34 : decode cX5_partsOf 34 = .ok (.iconst 1, 1) := by decide +kernel
theorem dX5_partsOf_35 : decode cX5_partsOf 35 = .ok (.iand, 1) := by decide +kernel
theorem dX5_partsOf_36 : decode cX5_partsOf 36 = .ok (.iconst 1, 1) := by decide +kernel
theorem dX5_partsOf_37 : decode cX5_partsOf 37 = .ok (.if_icmp .ne 7, 3) := by decide +kernel
theorem dX5_partsOf_40 : decode cX5_partsOf 40 = .ok (.iload_n 2, 1) := by decide +kernel
theorem dX5_partsOf_41 : decode cX5_partsOf 41 = .ok (.goto 7, 3) := by decide +kernel
theorem dX5_partsOf_44 : decode cX5_partsOf 44 = .ok (.bipush 10, 2) := by decide +kernel
theorem dX5_partsOf_46 : decode cX5_partsOf 46 = .ok (.iload_n 2, 1) := by decide +kernel
theorem dX5_partsOf_47 : decode cX5_partsOf 47 = .ok (.isub, 1) := by decide +kernel
theorem dX5_partsOf_48 : decode cX5_partsOf 48 = .ok (.imul, 1) := by decide +kernel
theorem dX5_partsOf_49 : decode cX5_partsOf 49 = .ok (.istore_n 3, 1) := by decide +kernel
theorem dX5_partsOf_50 : decode cX5_partsOf 50 = .ok (.iinc 4 1, 3) := by decide +kernel
theorem dX5_partsOf_53 : decode cX5_partsOf 53 = .ok (.goto (-48), 3) := by decide +kernel
theorem dX5_partsOf_56 : decode cX5_partsOf 56 = .ok (.iload_n 3, 1) := by decide +kernel
theorem dX5_partsOf_57 : decode cX5_partsOf 57 = .ok (.ireturn, 1) := by decide +kernel
theorem dX5_partsOfAll_0 : decode cX5_partsOfAll 0 = .ok (.iconst 1, 1) := by decide +kernel
theorem dX5_partsOfAll_1 : decode cX5_partsOfAll 1 = .ok (.istore_n 1, 1) := by decide +kernel
theorem dX5_partsOfAll_2 : decode cX5_partsOfAll 2 = .ok (.iconst 0, 1) := by decide +kernel
theorem dX5_partsOfAll_3 : decode cX5_partsOfAll 3 = .ok (.istore_n 2, 1) := by decide +kernel
theorem dX5_partsOfAll_4 : decode cX5_partsOfAll 4 = .ok (.iload_n 2, 1) := by decide +kernel
theorem dX5_partsOfAll_5 : decode cX5_partsOfAll 5 = .ok (.aload_n 0, 1) := by decide +kernel
theorem dX5_partsOfAll_6 : decode cX5_partsOfAll 6 = .ok (.getfield 25, 3) := by decide +kernel
theorem dX5_partsOfAll_9 : decode cX5_partsOfAll 9 = .ok (.getfield 119, 3) := by decide +kernel
theorem dX5_partsOfAll_12 : decode cX5_partsOfAll 12 = .ok (.if_icmp .ge 25, 3) := by decide +kernel
theorem dX5_partsOfAll_15 : decode cX5_partsOfAll 15 = .ok (.aload_n 0, 1) := by decide +kernel
theorem dX5_partsOfAll_16 : decode cX5_partsOfAll 16 = .ok (.getfield 25, 3) := by decide +kernel
theorem dX5_partsOfAll_19 : decode cX5_partsOfAll 19 = .ok (.iload_n 2, 1) := by decide +kernel
theorem dX5_partsOfAll_20 : decode cX5_partsOfAll 20 = .ok (.invokevirtual 157, 3) := by decide +kernel
theorem dX5_partsOfAll_23 : decode cX5_partsOfAll 23 = .ok (.ifCond .ne 8, 3) := by decide +kernel
theorem dX5_partsOfAll_26 : decode cX5_partsOfAll 26 = .ok (.iload_n 1, 1) := by decide +kernel
theorem dX5_partsOfAll_27 : decode cX5_partsOfAll 27 = .ok (.bipush 10, 2) := by decide +kernel
theorem dX5_partsOfAll_29 : decode cX5_partsOfAll 29 = .ok (.imul, 1) := by decide +kernel
theorem dX5_partsOfAll_30 : decode cX5_partsOfAll 30 = .ok (.istore_n 1, 1) := by decide +kernel
theorem dX5_partsOfAll_31 : decode cX5_partsOfAll 31 = .ok (.iinc 2 1, 3) := by decide +kernel
theorem dX5_partsOfAll_34 : decode cX5_partsOfAll 34 = .ok (.goto (-30), 3) := by decide +kernel
theorem dX5_partsOfAll_37 : decode cX5_partsOfAll 37 = .ok (.iload_n 1, 1) := by decide +kernel
theorem dX5_partsOfAll_38 : decode cX5_partsOfAll 38 = .ok (.ireturn, 1) := by decide +kernel
theorem dX5_commonDivisor_0 : decode cX5_commonDivisor 0 = .ok (.iload_n 1, 1) := by decide +kernel
theorem dX5_commonDivisor_1 : decode cX5_commonDivisor 1 = .ok (.istore_n 2, 1) := by decide +kernel
theorem dX5_commonDivisor_2 : decode cX5_commonDivisor 2 = .ok (.iload_n 0, 1) := by decide +kernel
theorem dX5_commonDivisor_3 : decode cX5_commonDivisor 3 = .ok (.istore_n 3, 1) := by decide +kernel
theorem dX5_commonDivisor_4 : decode cX5_commonDivisor 4 = .ok (.iconst 0, 1) := by decide +kernel
theorem dX5_commonDivisor_5 : decode cX5_commonDivisor 5 = .ok (.istore 4, 2) := by decide +kernel
theorem dX5_commonDivisor_7 : decode cX5_commonDivisor 7 = .ok (.iload 4, 2) := by decide +kernel
theorem dX5_commonDivisor_9 : decode cX5_commonDivisor 9 = .ok (.bipush 64, 2) := by decide +kernel
theorem dX5_commonDivisor_11 : decode cX5_commonDivisor 11 = .ok (.if_icmp .ge 23, 3) := by decide +kernel
theorem dX5_commonDivisor_14 : decode cX5_commonDivisor 14 = .ok (.iload_n 3, 1) := by decide +kernel
theorem dX5_commonDivisor_15 : decode cX5_commonDivisor 15 = .ok (.ifCond .eq 19, 3) := by decide +kernel
theorem dX5_commonDivisor_18 : decode cX5_commonDivisor 18 = .ok (.iload_n 2, 1) := by decide +kernel
theorem dX5_commonDivisor_19 : decode cX5_commonDivisor 19 = .ok (.iload_n 3, 1) := by decide +kernel
theorem dX5_commonDivisor_20 : decode cX5_commonDivisor 20 = .ok (.irem, 1) := by decide +kernel
theorem dX5_commonDivisor_21 : decode cX5_commonDivisor 21 = .ok (.istore 5, 2) := by decide +kernel
theorem dX5_commonDivisor_23 : decode cX5_commonDivisor 23 = .ok (.iload_n 3, 1) := by decide +kernel
theorem dX5_commonDivisor_24 : decode cX5_commonDivisor 24 = .ok (.istore_n 2, 1) := by decide +kernel
theorem dX5_commonDivisor_25 : decode cX5_commonDivisor 25 = .ok (.iload 5, 2) := by decide +kernel
theorem dX5_commonDivisor_27 : decode cX5_commonDivisor 27 = .ok (.istore_n 3, 1) := by decide +kernel
theorem dX5_commonDivisor_28 : decode cX5_commonDivisor 28 = .ok (.iinc 4 1, 3) := by decide +kernel
theorem dX5_commonDivisor_31 : decode cX5_commonDivisor 31 = .ok (.goto (-24), 3) := by decide +kernel
theorem dX5_commonDivisor_34 : decode cX5_commonDivisor 34 = .ok (.iload_n 2, 1) := by decide +kernel
theorem dX5_commonDivisor_35 : decode cX5_commonDivisor 35 = .ok (.ireturn, 1) := by decide +kernel
theorem dX5_isOfKind_0 : decode cX5_isOfKind 0 = .ok (.iload_n 0, 1) := by decide +kernel
theorem dX5_isOfKind_1 : decode cX5_isOfKind 1 = .ok (.istore_n 2, 1) := by decide +kernel
theorem dX5_isOfKind_2 : decode cX5_isOfKind 2 = .ok (.iconst 0, 1) := by decide +kernel
theorem dX5_isOfKind_3 : decode cX5_isOfKind 3 = .ok (.istore_n 3, 1) := by decide +kernel
theorem dX5_isOfKind_4 : decode cX5_isOfKind 4 = .ok (.iload_n 3, 1) := by decide +kernel
theorem dX5_isOfKind_5 : decode cX5_isOfKind 5 = .ok (.bipush 6, 2) := by decide +kernel
theorem dX5_isOfKind_7 : decode cX5_isOfKind 7 = .ok (.if_icmp .ge 24, 3) := by decide +kernel
theorem dX5_isOfKind_10 : decode cX5_isOfKind 10 = .ok (.iload_n 2, 1) := by decide +kernel
theorem dX5_isOfKind_11 : decode cX5_isOfKind 11 = .ok (.iload_n 1, 1) := by decide +kernel
theorem dX5_isOfKind_12 : decode cX5_isOfKind 12 = .ok (.if_icmp .eq 19, 3) := by decide +kernel
theorem dX5_isOfKind_15 : decode cX5_isOfKind 15 = .ok (.iload_n 2, 1) := by decide +kernel
theorem dX5_isOfKind_16 : decode cX5_isOfKind 16 = .ok (.ifCond .eq 15, 3) := by decide +kernel
theorem dX5_isOfKind_19 : decode cX5_isOfKind 19 = .ok (.getstatic 261, 3) := by decide +kernel
theorem dX5_isOfKind_22 : decode cX5_isOfKind 22 = .ok (.iload_n 2, 1) := by decide +kernel
theorem dX5_isOfKind_23 : decode cX5_isOfKind 23 = .ok (.iaload, 1) := by decide +kernel
theorem dX5_isOfKind_24 : decode cX5_isOfKind 24 = .ok (.istore_n 2, 1) := by decide +kernel
theorem dX5_isOfKind_25 : decode cX5_isOfKind 25 = .ok (.iinc 3 1, 3) := by decide +kernel
theorem dX5_isOfKind_28 : decode cX5_isOfKind 28 = .ok (.goto (-24), 3) := by decide +kernel
theorem dX5_isOfKind_31 : decode cX5_isOfKind 31 = .ok (.iload_n 2, 1) := by decide +kernel
theorem dX5_isOfKind_32 : decode cX5_isOfKind 32 = .ok (.iload_n 1, 1) := by decide +kernel
theorem dX5_isOfKind_33 : decode cX5_isOfKind 33 = .ok (.if_icmp .ne 7, 3) := by decide +kernel
theorem dX5_isOfKind_36 : decode cX5_isOfKind 36 = .ok (.iconst 1, 1) := by decide +kernel
theorem dX5_isOfKind_37 : decode cX5_isOfKind 37 = .ok (.goto 4, 3) := by decide +kernel
theorem dX5_isOfKind_40 : decode cX5_isOfKind 40 = .ok (.iconst 0, 1) := by decide +kernel
theorem dX5_isOfKind_41 : decode cX5_isOfKind 41 = .ok (.ireturn, 1) := by decide +kernel
theorem dX5_nearestBody_0 : decode cX5_nearestBody 0 = .ok (.iload_n 0, 1) := by decide +kernel
theorem dX5_nearestBody_1 : decode cX5_nearestBody 1 = .ok (.istore_n 2, 1) := by decide +kernel
theorem dX5_nearestBody_2 : decode cX5_nearestBody 2 = .ok (.iconst 0, 1) := by decide +kernel
theorem dX5_nearestBody_3 : decode cX5_nearestBody 3 = .ok (.istore_n 3, 1) := by decide +kernel
theorem dX5_nearestBody_4 : decode cX5_nearestBody 4 = .ok (.iload_n 3, 1) := by decide +kernel
theorem dX5_nearestBody_5 : decode cX5_nearestBody 5 = .ok (.bipush 6, 2) := by decide +kernel
theorem dX5_nearestBody_7 : decode cX5_nearestBody 7 = .ok (.if_icmp .ge 42, 3) := by decide +kernel
theorem dX5_nearestBody_10 : decode cX5_nearestBody 10 = .ok (.iload_n 1, 1) := by decide +kernel
theorem dX5_nearestBody_11 : decode cX5_nearestBody 11 = .ok (.ifCond .ne 11, 3) := by decide +kernel
theorem dX5_nearestBody_14 : decode cX5_nearestBody 14 = .ok (.getstatic 264, 3) := by decide +kernel
theorem dX5_nearestBody_17 : decode cX5_nearestBody 17 = .ok (.iload_n 2, 1) := by decide +kernel
theorem dX5_nearestBody_18 : decode cX5_nearestBody 18 = .ok (.iaload, 1) := by decide +kernel
theorem dX5_nearestBody_19 : decode cX5_nearestBody 19 = .ok (.goto 8, 3) := by decide +kernel
theorem dX5_nearestBody_22 : decode cX5_nearestBody 22 = .ok (.getstatic 267, 3) := by decide +kernel
theorem dX5_nearestBody_25 : decode cX5_nearestBody 25 = .ok (.iload_n 2, 1) := by decide +kernel
theorem dX5_nearestBody_26 : decode cX5_nearestBody 26 = .ok (.iaload, 1) := by decide +kernel
theorem dX5_nearestBody_27 : decode cX5_nearestBody 27 = .ok (.istore 4, 2) := by decide +kernel
theorem dX5_nearestBody_29 : decode cX5_nearestBody 29 = .ok (.iload 4, 2) := by decide +kernel
theorem dX5_nearestBody_31 : decode cX5_nearestBody 31 = .ok (.ifCond .eq 6, 3) := by decide +kernel
theorem dX5_nearestBody_34 : decode cX5_nearestBody 34 = .ok (.iload 4, 2) := by decide +kernel
theorem dX5_nearestBody_36 : decode cX5_nearestBody 36 = .ok (.ireturn, 1) := by decide +kernel
theorem dX5_nearestBody_37 : decode cX5_nearestBody 37 = .ok (.getstatic 261, 3) := by decide +kernel
theorem dX5_nearestBody_40 : decode cX5_nearestBody 40 = .ok (.iload_n 2, 1) := by decide +kernel
theorem dX5_nearestBody_41 : decode cX5_nearestBody 41 = .ok (.iaload, 1) := by decide +kernel
theorem dX5_nearestBody_42 : decode cX5_nearestBody 42 = .ok (.istore_n 2, 1) := by decide +kernel
theorem dX5_nearestBody_43 : decode cX5_nearestBody 43 = .ok (.iinc 3 1, 3) := by decide +kernel
theorem dX5_nearestBody_46 : decode cX5_nearestBody 46 = .ok (.goto (-42), 3) := by decide +kernel
theorem dX5_nearestBody_49 : decode cX5_nearestBody 49 = .ok (.iload_n 1, 1) := by decide +kernel
theorem dX5_nearestBody_50 : decode cX5_nearestBody 50 = .ok (.ifCond .ne 11, 3) := by decide +kernel
theorem dX5_nearestBody_53 : decode cX5_nearestBody 53 = .ok (.getstatic 264, 3) := by decide +kernel
theorem dX5_nearestBody_56 : decode cX5_nearestBody 56 = .ok (.iconst 0, 1) := by decide +kernel
theorem dX5_nearestBody_57 : decode cX5_nearestBody 57 = .ok (.iaload, 1) := by decide +kernel
theorem dX5_nearestBody_58 : decode cX5_nearestBody 58 = .ok (.goto 8, 3) := by decide +kernel
theorem dX5_nearestBody_61 : decode cX5_nearestBody 61 = .ok (.getstatic 267, 3) := by decide +kernel
theorem dX5_nearestBody_64 : decode cX5_nearestBody 64 = .ok (.iconst 0, 1) := by decide +kernel
theorem dX5_nearestBody_65 : decode cX5_nearestBody 65 = .ok (.iaload, 1) := by decide +kernel
theorem dX5_nearestBody_66 : decode cX5_nearestBody 66 = .ok (.ireturn, 1) := by decide +kernel
theorem dX5_answer_0 : decode cX5_answer 0 = .ok (.aload_n 0, 1) := by decide +kernel
theorem dX5_answer_1 : decode cX5_answer 1 = .ok (.aload_n 0, 1) := by decide +kernel
theorem dX5_answer_2 : decode cX5_answer 2 = .ok (.getfield 25, 3) := by decide +kernel
theorem dX5_answer_5 : decode cX5_answer 5 = .ok (.getfield 226, 3) := by decide +kernel
theorem dX5_answer_8 : decode cX5_answer 8 = .ok (.iload_n 2, 1) := by decide +kernel
theorem dX5_answer_9 : decode cX5_answer 9 = .ok (.iaload, 1) := by decide +kernel
theorem dX5_answer_10 : decode cX5_answer 10 = .ok (.iload_n 1, 1) := by decide +kernel
theorem dX5_answer_11 : decode cX5_answer 11 = .ok (.invokestatic 270, 3) := by decide +kernel
theorem dX5_answer_14 : decode cX5_answer 14 = .ok (.iload_n 2, 1) := by decide +kernel
theorem dX5_answer_15 : decode cX5_answer 15 = .ok (.iload_n 3, 1) := by decide +kernel
theorem dX5_answer_16 : decode cX5_answer 16 = .ok (.invokevirtual 273, 3) := by decide +kernel
theorem dX5_answer_19 : decode cX5_answer 19 = .ok (.ireturn, 1) := by decide +kernel
theorem dX5_body_0 : decode cX5_body 0 = .ok (.iload_n 3, 1) := by decide +kernel
theorem dX5_body_1 : decode cX5_body 1 = .ok (.bipush 16, 2) := by decide +kernel
theorem dX5_body_3 : decode cX5_body 3 = .ok (.if_icmp .le 5, 3) := by decide +kernel
theorem dX5_body_6 : decode cX5_body 6 = .ok (.iconst 0, 1) := by decide +kernel
theorem dX5_body_7 : decode cX5_body 7 = .ok (.ireturn, 1) := by decide +kernel
theorem dX5_body_8 : decode cX5_body 8 = .ok (.aload_n 0, 1) := by decide +kernel
theorem dX5_body_9 : decode cX5_body 9 = .ok (.getfield 232, 3) := by decide +kernel
theorem dX5_body_12 : decode cX5_body 12 = .ok (.bipush 16, 2) := by decide +kernel
theorem dX5_body_14 : decode cX5_body 14 = .ok (.if_icmp .ge 23, 3) := by decide +kernel
theorem dX5_body_17 : decode cX5_body 17 = .ok (.aload_n 0, 1) := by decide +kernel
theorem dX5_body_18 : decode cX5_body 18 = .ok (.getfield 50, 3) := by decide +kernel
theorem dX5_body_21 : decode cX5_body 21 = .ok (.aload_n 0, 1) := by decide +kernel
theorem dX5_body_22 : decode cX5_body 22 = .ok (.getfield 232, 3) := by decide +kernel
theorem dX5_body_25 : decode cX5_body 25 = .ok (.iload_n 1, 1) := by decide +kernel
theorem dX5_body_26 : decode cX5_body 26 = .ok (.iastore, 1) := by decide +kernel
theorem dX5_body_27 : decode cX5_body 27 = .ok (.aload_n 0, 1) := by decide +kernel
theorem dX5_body_28 : decode cX5_body 28 = .ok (.dup, 1) := by decide +kernel
theorem dX5_body_29 : decode cX5_body 29 = .ok (.getfield 232, 3) := by decide +kernel
theorem dX5_body_32 : decode cX5_body 32 = .ok (.iconst 1, 1) := by decide +kernel
theorem dX5_body_33 : decode cX5_body 33 = .ok (.iadd, 1) := by decide +kernel
theorem dX5_body_34 : decode cX5_body 34 = .ok (.putfield 232, 3) := by decide +kernel
theorem dX5_body_37 : decode cX5_body 37 = .ok (.iload_n 3, 1) := by decide +kernel
theorem dX5_body_38 : decode cX5_body 38 = .ok (.iconst 1, 1) := by decide +kernel
theorem dX5_body_39 : decode cX5_body 39 = .ok (.iadd, 1) := by decide +kernel
theorem dX5_body_40 : decode cX5_body 40 = .ok (.istore 4, 2) := by decide +kernel
theorem dX5_body_42 : decode cX5_body 42 = .ok (.iload_n 1, 1) := by decide +kernel
theorem dX5_body_43 : decode cX5_body 43 = .ok (.tableswitch 212 10 24 #[73, 83, 102, 114, 127, 212, 212, 212, 212, 212, 139, 141, 167, 181, 200], 73) := by decide +kernel
theorem dX5_body_116 : decode cX5_body 116 = .ok (.aload_n 0, 1) := by decide +kernel
theorem dX5_body_117 : decode cX5_body 117 = .ok (.getfield 25, 3) := by decide +kernel
theorem dX5_body_120 : decode cX5_body 120 = .ok (.getfield 151, 3) := by decide +kernel
theorem dX5_body_123 : decode cX5_body 123 = .ok (.iload_n 2, 1) := by decide +kernel
theorem dX5_body_124 : decode cX5_body 124 = .ok (.iaload, 1) := by decide +kernel
theorem dX5_body_125 : decode cX5_body 125 = .ok (.ireturn, 1) := by decide +kernel
theorem dX5_body_126 : decode cX5_body 126 = .ok (.aload_n 0, 1) := by decide +kernel
theorem dX5_body_127 : decode cX5_body 127 = .ok (.bipush 10, 2) := by decide +kernel
theorem dX5_body_129 : decode cX5_body 129 = .ok (.iload_n 2, 1) := by decide +kernel
theorem dX5_body_130 : decode cX5_body 130 = .ok (.iload 4, 2) := by decide +kernel
theorem dX5_body_132 : decode cX5_body 132 = .ok (.invokevirtual 273, 3) := by decide +kernel
theorem dX5_body_135 : decode cX5_body 135 = .ok (.aload_n 0, 1) := by decide +kernel
theorem dX5_body_136 : decode cX5_body 136 = .ok (.iconst 1, 1) := by decide +kernel
theorem dX5_body_137 : decode cX5_body 137 = .ok (.iload_n 2, 1) := by decide +kernel
theorem dX5_body_138 : decode cX5_body 138 = .ok (.iload 4, 2) := by decide +kernel
theorem dX5_body_140 : decode cX5_body 140 = .ok (.invokevirtual 235, 3) := by decide +kernel
theorem dX5_body_143 : decode cX5_body 143 = .ok (.iadd, 1) := by decide +kernel
theorem dX5_body_144 : decode cX5_body 144 = .ok (.ireturn, 1) := by decide +kernel
theorem dX5_body_145 : decode cX5_body 145 = .ok (.iconst 0, 1) := by decide +kernel
theorem dX5_body_146 : decode cX5_body 146 = .ok (.aload_n 0, 1) := by decide +kernel
theorem dX5_body_147 : decode cX5_body 147 = .ok (.bipush 11, 2) := by decide +kernel
theorem dX5_body_149 : decode cX5_body 149 = .ok (.iload_n 2, 1) := by decide +kernel
theorem dX5_body_150 : decode cX5_body 150 = .ok (.iload 4, 2) := by decide +kernel
theorem dX5_body_152 : decode cX5_body 152 = .ok (.invokevirtual 273, 3) := by decide +kernel
theorem dX5_body_155 : decode cX5_body 155 = .ok (.isub, 1) := by decide +kernel
theorem dX5_body_156 : decode cX5_body 156 = .ok (.ireturn, 1) := by decide +kernel
theorem dX5_body_157 : decode cX5_body 157 = .ok (.aload_n 0, 1) := by decide +kernel
theorem dX5_body_158 : decode cX5_body 158 = .ok (.bipush 10, 2) := by decide +kernel
theorem dX5_body_160 : decode cX5_body 160 = .ok (.iload_n 2, 1) := by decide +kernel
theorem dX5_body_161 : decode cX5_body 161 = .ok (.iload 4, 2) := by decide +kernel
theorem dX5_body_163 : decode cX5_body 163 = .ok (.invokevirtual 273, 3) := by decide +kernel
theorem dX5_body_166 : decode cX5_body 166 = .ok (.bipush 100, 2) := by decide +kernel
theorem dX5_body_168 : decode cX5_body 168 = .ok (.isub, 1) := by decide +kernel
theorem dX5_body_169 : decode cX5_body 169 = .ok (.ireturn, 1) := by decide +kernel
theorem dX5_body_170 : decode cX5_body 170 = .ok (.iconst 2, 1) := by decide +kernel
theorem dX5_body_171 : decode cX5_body 171 = .ok (.aload_n 0, 1) := by decide +kernel
theorem dX5_body_172 : decode cX5_body 172 = .ok (.bipush 13, 2) := by decide +kernel
theorem dX5_body_174 : decode cX5_body 174 = .ok (.iload_n 2, 1) := by decide +kernel
theorem dX5_body_175 : decode cX5_body 175 = .ok (.iload 4, 2) := by decide +kernel
theorem dX5_body_177 : decode cX5_body 177 = .ok (.invokevirtual 273, 3) := by decide +kernel
theorem dX5_body_180 : decode cX5_body 180 = .ok (.imul, 1) := by decide +kernel
theorem dX5_body_181 : decode cX5_body 181 = .ok (.ireturn, 1) := by decide +kernel
theorem dX5_body_182 : decode cX5_body 182 = .ok (.iload_n 2, 1) := by decide +kernel
theorem dX5_body_183 : decode cX5_body 183 = .ok (.ireturn, 1) := by decide +kernel
theorem dX5_body_184 : decode cX5_body 184 = .ok (.aload_n 0, 1) := by decide +kernel
theorem dX5_body_185 : decode cX5_body 185 = .ok (.bipush 20, 2) := by decide +kernel
theorem dX5_body_187 : decode cX5_body 187 = .ok (.iload_n 2, 1) := by decide +kernel
theorem dX5_body_188 : decode cX5_body 188 = .ok (.iload 4, 2) := by decide +kernel
theorem dX5_body_190 : decode cX5_body 190 = .ok (.invokevirtual 273, 3) := by decide +kernel
theorem dX5_body_193 : decode cX5_body 193 = .ok (.aload_n 0, 1) := by decide +kernel
theorem dX5_body_194 : decode cX5_body 194 = .ok (.getfield 25, 3) := by decide +kernel
theorem dX5_body_197 : decode cX5_body 197 = .ok (.iload_n 2, 1) := by decide +kernel
theorem dX5_body_198 : decode cX5_body 198 = .ok (.aload_n 0, 1) := by decide +kernel
theorem dX5_body_199 : decode cX5_body 199 = .ok (.getfield 25, 3) := by decide +kernel
theorem dX5_body_202 : decode cX5_body 202 = .ok (.getfield 128, 3) := by decide +kernel
theorem dX5_body_205 : decode cX5_body 205 = .ok (.invokevirtual 154, 3) := by decide +kernel
theorem dX5_body_208 : decode cX5_body 208 = .ok (.iadd, 1) := by decide +kernel
theorem dX5_body_209 : decode cX5_body 209 = .ok (.ireturn, 1) := by decide +kernel
theorem dX5_body_210 : decode cX5_body 210 = .ok (.aload_n 0, 1) := by decide +kernel
theorem dX5_body_211 : decode cX5_body 211 = .ok (.bipush 21, 2) := by decide +kernel
theorem dX5_body_213 : decode cX5_body 213 = .ok (.iload_n 2, 1) := by decide +kernel
theorem dX5_body_214 : decode cX5_body 214 = .ok (.iload 4, 2) := by decide +kernel
theorem dX5_body_216 : decode cX5_body 216 = .ok (.invokevirtual 273, 3) := by decide +kernel
theorem dX5_body_219 : decode cX5_body 219 = .ok (.sipush 1000, 3) := by decide +kernel
theorem dX5_body_222 : decode cX5_body 222 = .ok (.isub, 1) := by decide +kernel
theorem dX5_body_223 : decode cX5_body 223 = .ok (.ireturn, 1) := by decide +kernel
theorem dX5_body_224 : decode cX5_body 224 = .ok (.aload_n 0, 1) := by decide +kernel
theorem dX5_body_225 : decode cX5_body 225 = .ok (.bipush 20, 2) := by decide +kernel
theorem dX5_body_227 : decode cX5_body 227 = .ok (.iload_n 2, 1) := by decide +kernel
theorem dX5_body_228 : decode cX5_body 228 = .ok (.iload 4, 2) := by decide +kernel
theorem dX5_body_230 : decode cX5_body 230 = .ok (.invokevirtual 273, 3) := by decide +kernel
theorem dX5_body_233 : decode cX5_body 233 = .ok (.aload_n 0, 1) := by decide +kernel
theorem dX5_body_234 : decode cX5_body 234 = .ok (.iconst 0, 1) := by decide +kernel
theorem dX5_body_235 : decode cX5_body 235 = .ok (.iload_n 2, 1) := by decide +kernel
theorem dX5_body_236 : decode cX5_body 236 = .ok (.iload 4, 2) := by decide +kernel
theorem dX5_body_238 : decode cX5_body 238 = .ok (.invokevirtual 235, 3) := by decide +kernel
theorem dX5_body_241 : decode cX5_body 241 = .ok (.isub, 1) := by decide +kernel
theorem dX5_body_242 : decode cX5_body 242 = .ok (.ireturn, 1) := by decide +kernel
theorem dX5_body_243 : decode cX5_body 243 = .ok (.iconst 2, 1) := by decide +kernel
theorem dX5_body_244 : decode cX5_body 244 = .ok (.aload_n 0, 1) := by decide +kernel
theorem dX5_body_245 : decode cX5_body 245 = .ok (.bipush 21, 2) := by decide +kernel
theorem dX5_body_247 : decode cX5_body 247 = .ok (.iload_n 2, 1) := by decide +kernel
theorem dX5_body_248 : decode cX5_body 248 = .ok (.iload 4, 2) := by decide +kernel
theorem dX5_body_250 : decode cX5_body 250 = .ok (.invokevirtual 273, 3) := by decide +kernel
theorem dX5_body_253 : decode cX5_body 253 = .ok (.imul, 1) := by decide +kernel
theorem dX5_body_254 : decode cX5_body 254 = .ok (.ireturn, 1) := by decide +kernel
theorem dX5_body_255 : decode cX5_body 255 = .ok (.iconst 0, 1) := by decide +kernel
theorem dX5_body_256 : decode cX5_body 256 = .ok (.ireturn, 1) := by decide +kernel
