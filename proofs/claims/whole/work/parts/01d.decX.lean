theorem dX11_init_0 : decode cX11_init 0 = .ok (.aload_n 0, 1) := by decide +kernel
theorem dX11_init_1 : decode cX11_init 1 = .ok (.invokespecial 1, 3) := by decide +kernel
theorem dX11_init_4 : decode cX11_init 4 = .ok (.aload_n 0, 1) := by decide +kernel
theorem dX11_init_5 : decode cX11_init 5 = .ok (.bipush 8, 2) := by decide +kernel
theorem dX11_init_7 : decode cX11_init 7 = .ok (.anewarray 9, 3) := by decide +kernel
theorem dX11_init_10 : decode cX11_init 10 = .ok (.putfield 11, 3) := by decide +kernel
theorem dX11_init_13 : decode cX11_init 13 = .ok (.aload_n 0, 1) := by decide +kernel
theorem dX11_init_14 : decode cX11_init 14 = .ok (.new 15, 3) := by decide +kernel
theorem dX11_init_17 : decode cX11_init 17 = .ok (.dup, 1) := by decide +kernel
theorem dX11_init_18 : decode cX11_init 18 = .ok (.invokespecial 17, 3) := by decide +kernel
theorem dX11_init_21 : decode cX11_init 21 = .ok (.putfield 18, 3) := by decide +kernel
theorem dX11_init_24 : decode cX11_init 24 = .ok (.aload_n 0, 1) := by decide +kernel
theorem dX11_init_25 : decode cX11_init 25 = .ok (.new 22, 3) := by decide +kernel
theorem dX11_init_28 : decode cX11_init 28 = .ok (.dup, 1) := by decide +kernel
theorem dX11_init_29 : decode cX11_init 29 = .ok (.invokespecial 24, 3) := by decide +kernel
theorem dX11_init_32 : decode cX11_init 32 = .ok (.putfield 25, 3) := by decide +kernel
theorem dX11_init_35 : decode cX11_init 35 = .ok (.aload_n 0, 1) := by decide +kernel
theorem dX11_init_36 : decode cX11_init 36 = .ok (.new 22, 3) := by decide +kernel
theorem dX11_init_39 : decode cX11_init 39 = .ok (.dup, 1) := by decide +kernel
theorem dX11_init_40 : decode cX11_init 40 = .ok (.invokespecial 24, 3) := by decide +kernel
theorem dX11_init_43 : decode cX11_init 43 = .ok (.putfield 29, 3) := by decide +kernel
theorem dX11_init_46 : decode cX11_init 46 = .ok (.aload_n 0, 1) := by decide +kernel
theorem dX11_init_47 : decode cX11_init 47 = .ok (.iconst 2, 1) := by decide +kernel
theorem dX11_init_48 : decode cX11_init 48 = .ok (.anewarray 22, 3) := by decide +kernel
theorem dX11_init_51 : decode cX11_init 51 = .ok (.putfield 32, 3) := by decide +kernel
theorem dX11_init_54 : decode cX11_init 54 = .ok (.aload_n 0, 1) := by decide +kernel
theorem dX11_init_55 : decode cX11_init 55 = .ok (.new 36, 3) := by decide +kernel
theorem dX11_init_58 : decode cX11_init 58 = .ok (.dup, 1) := by decide +kernel
theorem dX11_init_59 : decode cX11_init 59 = .ok (.invokespecial 38, 3) := by decide +kernel
theorem dX11_init_62 : decode cX11_init 62 = .ok (.putfield 39, 3) := by decide +kernel
theorem dX11_init_65 : decode cX11_init 65 = .ok (.aload_n 0, 1) := by decide +kernel
theorem dX11_init_66 : decode cX11_init 66 = .ok (.new 43, 3) := by decide +kernel
theorem dX11_init_69 : decode cX11_init 69 = .ok (.dup, 1) := by decide +kernel
theorem dX11_init_70 : decode cX11_init 70 = .ok (.invokespecial 45, 3) := by decide +kernel
theorem dX11_init_73 : decode cX11_init 73 = .ok (.putfield 46, 3) := by decide +kernel
theorem dX11_init_76 : decode cX11_init 76 = .ok (.iconst 0, 1) := by decide +kernel
theorem dX11_init_77 : decode cX11_init 77 = .ok (.istore_n 1, 1) := by decide +kernel
theorem dX11_init_78 : decode cX11_init 78 = .ok (.iload_n 1, 1) := by decide +kernel
theorem dX11_init_79 : decode cX11_init 79 = .ok (.bipush 8, 2) := by decide +kernel
theorem dX11_init_81 : decode cX11_init 81 = .ok (.if_icmp .ge 22, 3) := by decide +kernel
theorem dX11_init_84 : decode cX11_init 84 = .ok (.aload_n 0, 1) := by decide +kernel
theorem dX11_init_85 : decode cX11_init 85 = .ok (.getfield 11, 3) := by decide +kernel
theorem dX11_init_88 : decode cX11_init 88 = .ok (.iload_n 1, 1) := by decide +kernel
theorem dX11_init_89 : decode cX11_init 89 = .ok (.new 9, 3) := by decide +kernel
theorem dX11_init_92 : decode cX11_init 92 = .ok (.dup, 1) := by decide +kernel
theorem dX11_init_93 : decode cX11_init 93 = .ok (.invokespecial 50, 3) := by decide +kernel
theorem dX11_init_96 : decode cX11_init 96 = .ok (.aastore, 1) := by decide +kernel
theorem dX11_init_97 : decode cX11_init 97 = .ok (.iinc 1 1, 3) := by decide +kernel
theorem dX11_init_100 : decode cX11_init 100 = .ok (.goto (-22), 3) := by decide +kernel
theorem dX11_init_103 : decode cX11_init 103 = .ok (.iconst 0, 1) := by decide +kernel
theorem dX11_init_104 : decode cX11_init 104 = .ok (.istore_n 1, 1) := by decide +kernel
theorem dX11_init_105 : decode cX11_init 105 = .ok (.iload_n 1, 1) := by decide +kernel
theorem dX11_init_106 : decode cX11_init 106 = .ok (.iconst 2, 1) := by decide +kernel
theorem dX11_init_107 : decode cX11_init 107 = .ok (.if_icmp .ge 22, 3) := by decide +kernel
theorem dX11_init_110 : decode cX11_init 110 = .ok (.aload_n 0, 1) := by decide +kernel
theorem dX11_init_111 : decode cX11_init 111 = .ok (.getfield 32, 3) := by decide +kernel
theorem dX11_init_114 : decode cX11_init 114 = .ok (.iload_n 1, 1) := by decide +kernel
theorem dX11_init_115 : decode cX11_init 115 = .ok (.new 22, 3) := by decide +kernel
theorem dX11_init_118 : decode cX11_init 118 = .ok (.dup, 1) := by decide +kernel
theorem dX11_init_119 : decode cX11_init 119 = .ok (.invokespecial 24, 3) := by decide +kernel
theorem dX11_init_122 : decode cX11_init 122 = .ok (.aastore, 1) := by decide +kernel
theorem dX11_init_123 : decode cX11_init 123 = .ok (.iinc 1 1, 3) := by decide +kernel
theorem dX11_init_126 : decode cX11_init 126 = .ok (.goto (-21), 3) := by decide +kernel
theorem dX11_init_129 : decode cX11_init 129 = .ok (.return_, 1) := by decide +kernel
theorem dX11_row_0 : decode cX11_row 0 = .ok (.iload_n 1, 1) := by decide +kernel
theorem dX11_row_1 : decode cX11_row 1 = .ok (.invokestatic 51, 3) := by decide +kernel
theorem dX11_row_4 : decode cX11_row 4 = .ok (.ifCond .eq 18, 3) := by decide +kernel
theorem dX11_row_7 : decode cX11_row 7 = .ok (.iload_n 2, 1) := by decide +kernel
theorem dX11_row_8 : decode cX11_row 8 = .ok (.ifCond .lt 14, 3) := by decide +kernel
theorem dX11_row_11 : decode cX11_row 11 = .ok (.iload_n 2, 1) := by decide +kernel
theorem dX11_row_12 : decode cX11_row 12 = .ok (.iconst 2, 1) := by decide +kernel
theorem dX11_row_13 : decode cX11_row 13 = .ok (.if_icmp .gt 9, 3) := by decide +kernel
theorem dX11_row_16 : decode cX11_row 16 = .ok (.iload_n 3, 1) := by decide +kernel
theorem dX11_row_17 : decode cX11_row 17 = .ok (.bipush 40, 2) := by decide +kernel
theorem dX11_row_19 : decode cX11_row 19 = .ok (.if_icmp .le 6, 3) := by decide +kernel
theorem dX11_row_22 : decode cX11_row 22 = .ok (.ldc 55, 2) := by decide +kernel
theorem dX11_row_24 : decode cX11_row 24 = .ok (.ireturn, 1) := by decide +kernel
theorem dX11_row_25 : decode cX11_row 25 = .ok (.iload_n 3, 1) := by decide +kernel
theorem dX11_row_26 : decode cX11_row 26 = .ok (.ifCond .ge 9, 3) := by decide +kernel
theorem dX11_row_29 : decode cX11_row 29 = .ok (.aload_n 0, 1) := by decide +kernel
theorem dX11_row_30 : decode cX11_row 30 = .ok (.iconst 4, 1) := by decide +kernel
theorem dX11_row_31 : decode cX11_row 31 = .ok (.invokevirtual 56, 3) := by decide +kernel
theorem dX11_row_34 : decode cX11_row 34 = .ok (.ireturn, 1) := by decide +kernel
theorem dX11_row_35 : decode cX11_row 35 = .ok (.aload_n 0, 1) := by decide +kernel
theorem dX11_row_36 : decode cX11_row 36 = .ok (.getfield 11, 3) := by decide +kernel
theorem dX11_row_39 : decode cX11_row 39 = .ok (.iload_n 1, 1) := by decide +kernel
theorem dX11_row_40 : decode cX11_row 40 = .ok (.aaload, 1) := by decide +kernel
theorem dX11_row_41 : decode cX11_row 41 = .ok (.iload_n 2, 1) := by decide +kernel
theorem dX11_row_42 : decode cX11_row 42 = .ok (.iload_n 3, 1) := by decide +kernel
theorem dX11_row_43 : decode cX11_row 43 = .ok (.invokevirtual 60, 3) := by decide +kernel
theorem dX11_row_46 : decode cX11_row 46 = .ok (.aload_n 0, 1) := by decide +kernel
theorem dX11_row_47 : decode cX11_row 47 = .ok (.iload_n 3, 1) := by decide +kernel
theorem dX11_row_48 : decode cX11_row 48 = .ok (.invokevirtual 64, 3) := by decide +kernel
theorem dX11_row_51 : decode cX11_row 51 = .ok (.ireturn, 1) := by decide +kernel
theorem dX11_set_0 : decode cX11_set 0 = .ok (.iload_n 1, 1) := by decide +kernel
theorem dX11_set_1 : decode cX11_set 1 = .ok (.invokestatic 51, 3) := by decide +kernel
theorem dX11_set_4 : decode cX11_set 4 = .ok (.ifCond .ne 6, 3) := by decide +kernel
theorem dX11_set_7 : decode cX11_set 7 = .ok (.ldc 55, 2) := by decide +kernel
theorem dX11_set_9 : decode cX11_set 9 = .ok (.ireturn, 1) := by decide +kernel
theorem dX11_set_10 : decode cX11_set 10 = .ok (.aload_n 0, 1) := by decide +kernel
theorem dX11_set_11 : decode cX11_set 11 = .ok (.getfield 11, 3) := by decide +kernel
theorem dX11_set_14 : decode cX11_set 14 = .ok (.iload_n 1, 1) := by decide +kernel
theorem dX11_set_15 : decode cX11_set 15 = .ok (.aaload, 1) := by decide +kernel
theorem dX11_set_16 : decode cX11_set 16 = .ok (.astore 4, 2) := by decide +kernel
theorem dX11_set_18 : decode cX11_set 18 = .ok (.aload 4, 2) := by decide +kernel
theorem dX11_set_20 : decode cX11_set 20 = .ok (.getfield 67, 3) := by decide +kernel
theorem dX11_set_23 : decode cX11_set 23 = .ok (.ifCond .ne 9, 3) := by decide +kernel
theorem dX11_set_26 : decode cX11_set 26 = .ok (.aload_n 0, 1) := by decide +kernel
theorem dX11_set_27 : decode cX11_set 27 = .ok (.iconst 1, 1) := by decide +kernel
theorem dX11_set_28 : decode cX11_set 28 = .ok (.invokevirtual 56, 3) := by decide +kernel
theorem dX11_set_31 : decode cX11_set 31 = .ok (.ireturn, 1) := by decide +kernel
theorem dX11_set_32 : decode cX11_set 32 = .ok (.iload_n 2, 1) := by decide +kernel
theorem dX11_set_33 : decode cX11_set 33 = .ok (.ifCond .lt 12, 3) := by decide +kernel
theorem dX11_set_36 : decode cX11_set 36 = .ok (.iload_n 2, 1) := by decide +kernel
theorem dX11_set_37 : decode cX11_set 37 = .ok (.aload 4, 2) := by decide +kernel
theorem dX11_set_39 : decode cX11_set 39 = .ok (.getfield 71, 3) := by decide +kernel
theorem dX11_set_42 : decode cX11_set 42 = .ok (.if_icmp .lt 9, 3) := by decide +kernel
theorem dX11_set_45 : decode cX11_set 45 = .ok (.aload_n 0, 1) := by decide +kernel
theorem dX11_set_46 : decode cX11_set 46 = .ok (.iconst 2, 1) := by decide +kernel
theorem dX11_set_47 : decode cX11_set 47 = .ok (.invokevirtual 56, 3) := by decide +kernel
theorem dX11_set_50 : decode cX11_set 50 = .ok (.ireturn, 1) := by decide +kernel
theorem dX11_set_51 : decode cX11_set 51 = .ok (.aload 4, 2) := by decide +kernel
theorem dX11_set_53 : decode cX11_set 53 = .ok (.getfield 75, 3) := by decide +kernel
theorem dX11_set_56 : decode cX11_set 56 = .ok (.iload_n 2, 1) := by decide +kernel
theorem dX11_set_57 : decode cX11_set 57 = .ok (.aload 4, 2) := by decide +kernel
theorem dX11_set_59 : decode cX11_set 59 = .ok (.iload_n 3, 1) := by decide +kernel
theorem dX11_set_60 : decode cX11_set 60 = .ok (.invokevirtual 79, 3) := by decide +kernel
theorem dX11_set_63 : decode cX11_set 63 = .ok (.iastore, 1) := by decide +kernel
theorem dX11_set_64 : decode cX11_set 64 = .ok (.aload_n 0, 1) := by decide +kernel
theorem dX11_set_65 : decode cX11_set 65 = .ok (.aload 4, 2) := by decide +kernel
theorem dX11_set_67 : decode cX11_set 67 = .ok (.getfield 75, 3) := by decide +kernel
theorem dX11_set_70 : decode cX11_set 70 = .ok (.iload_n 2, 1) := by decide +kernel
theorem dX11_set_71 : decode cX11_set 71 = .ok (.iaload, 1) := by decide +kernel
theorem dX11_set_72 : decode cX11_set 72 = .ok (.invokevirtual 64, 3) := by decide +kernel
theorem dX11_set_75 : decode cX11_set 75 = .ok (.ireturn, 1) := by decide +kernel
theorem dX11_copy_0 : decode cX11_copy 0 = .ok (.iload_n 1, 1) := by decide +kernel
theorem dX11_copy_1 : decode cX11_copy 1 = .ok (.invokestatic 51, 3) := by decide +kernel
theorem dX11_copy_4 : decode cX11_copy 4 = .ok (.ifCond .eq 10, 3) := by decide +kernel
theorem dX11_copy_7 : decode cX11_copy 7 = .ok (.iload_n 3, 1) := by decide +kernel
theorem dX11_copy_8 : decode cX11_copy 8 = .ok (.invokestatic 51, 3) := by decide +kernel
theorem dX11_copy_11 : decode cX11_copy 11 = .ok (.ifCond .ne 6, 3) := by decide +kernel
theorem dX11_copy_14 : decode cX11_copy 14 = .ok (.ldc 55, 2) := by decide +kernel
theorem dX11_copy_16 : decode cX11_copy 16 = .ok (.ireturn, 1) := by decide +kernel
theorem dX11_copy_17 : decode cX11_copy 17 = .ok (.aload_n 0, 1) := by decide +kernel
theorem dX11_copy_18 : decode cX11_copy 18 = .ok (.getfield 11, 3) := by decide +kernel
theorem dX11_copy_21 : decode cX11_copy 21 = .ok (.iload_n 1, 1) := by decide +kernel
theorem dX11_copy_22 : decode cX11_copy 22 = .ok (.aaload, 1) := by decide +kernel
theorem dX11_copy_23 : decode cX11_copy 23 = .ok (.astore 6, 2) := by decide +kernel
theorem dX11_copy_25 : decode cX11_copy 25 = .ok (.aload_n 0, 1) := by decide +kernel
theorem dX11_copy_26 : decode cX11_copy 26 = .ok (.getfield 11, 3) := by decide +kernel
theorem dX11_copy_29 : decode cX11_copy 29 = .ok (.iload_n 3, 1) := by decide +kernel
theorem dX11_copy_30 : decode cX11_copy 30 = .ok (.aaload, 1) := by decide +kernel
theorem dX11_copy_31 : decode cX11_copy 31 = .ok (.astore 7, 2) := by decide +kernel
theorem dX11_copy_33 : decode cX11_copy 33 = .ok (.aload 6, 2) := by decide +kernel
theorem dX11_copy_35 : decode cX11_copy 35 = .ok (.getfield 67, 3) := by decide +kernel
theorem dX11_copy_38 : decode cX11_copy 38 = .ok (.ifCond .eq 11, 3) := by decide +kernel
theorem dX11_copy_41 : decode cX11_copy 41 = .ok (.aload 7, 2) := by decide +kernel
theorem dX11_copy_43 : decode cX11_copy 43 = .ok (.getfield 67, 3) := by decide +kernel
theorem dX11_copy_46 : decode cX11_copy 46 = .ok (.ifCond .ne 9, 3) := by decide +kernel
theorem dX11_copy_49 : decode cX11_copy 49 = .ok (.aload_n 0, 1) := by decide +kernel
theorem dX11_copy_50 : decode cX11_copy 50 = .ok (.iconst 1, 1) := by decide +kernel
theorem dX11_copy_51 : decode cX11_copy 51 = .ok (.invokevirtual 56, 3) := by decide +kernel
theorem dX11_copy_54 : decode cX11_copy 54 = .ok (.ireturn, 1) := by decide +kernel
theorem dX11_copy_55 : decode cX11_copy 55 = .ok (.aload 6, 2) := by decide +kernel
theorem dX11_copy_57 : decode cX11_copy 57 = .ok (.getfield 82, 3) := by decide +kernel
theorem dX11_copy_60 : decode cX11_copy 60 = .ok (.aload 7, 2) := by decide +kernel
theorem dX11_copy_62 : decode cX11_copy 62 = .ok (.getfield 82, 3) := by decide +kernel
theorem dX11_copy_65 : decode cX11_copy 65 = .ok (.if_icmp .eq 9, 3) := by decide +kernel
theorem dX11_copy_68 : decode cX11_copy 68 = .ok (.aload_n 0, 1) := by decide +kernel
theorem dX11_copy_69 : decode cX11_copy 69 = .ok (.iconst 5, 1) := by decide +kernel
theorem dX11_copy_70 : decode cX11_copy 70 = .ok (.invokevirtual 56, 3) := by decide +kernel
theorem dX11_copy_73 : decode cX11_copy 73 = .ok (.ireturn, 1) := by decide +kernel
theorem dX11_copy_74 : decode cX11_copy 74 = .ok (.aload 6, 2) := by decide +kernel
theorem dX11_copy_76 : decode cX11_copy 76 = .ok (.iload_n 2, 1) := by decide +kernel
theorem dX11_copy_77 : decode cX11_copy 77 = .ok (.iload 5, 2) := by decide +kernel
theorem dX11_copy_79 : decode cX11_copy 79 = .ok (.invokevirtual 85, 3) := by decide +kernel
theorem dX11_copy_82 : decode cX11_copy 82 = .ok (.ifCond .eq 15, 3) := by decide +kernel
theorem dX11_copy_85 : decode cX11_copy 85 = .ok (.aload 7, 2) := by decide +kernel
theorem dX11_copy_87 : decode cX11_copy 87 = .ok (.iload 4, 2) := by decide +kernel
theorem dX11_copy_89 : decode cX11_copy 89 = .ok (.iload 5, 2) := by decide +kernel
theorem dX11_copy_91 : decode cX11_copy 91 = .ok (.invokevirtual 85, 3) := by decide +kernel
theorem dX11_copy_94 : decode cX11_copy 94 = .ok (.ifCond .ne 9, 3) := by decide +kernel
theorem dX11_copy_97 : decode cX11_copy 97 = .ok (.aload_n 0, 1) := by decide +kernel
theorem dX11_copy_98 : decode cX11_copy 98 = .ok (.iconst 2, 1) := by decide +kernel
theorem dX11_copy_99 : decode cX11_copy 99 = .ok (.invokevirtual 56, 3) := by decide +kernel
theorem dX11_copy_102 : decode cX11_copy 102 = .ok (.ireturn, 1) := by decide +kernel
theorem dX11_copy_103 : decode cX11_copy 103 = .ok (.aload 6, 2) := by decide +kernel
theorem dX11_copy_105 : decode cX11_copy 105 = .ok (.getfield 75, 3) := by decide +kernel
theorem dX11_copy_108 : decode cX11_copy 108 = .ok (.iload_n 2, 1) := by decide +kernel
theorem dX11_copy_109 : decode cX11_copy 109 = .ok (.aload 7, 2) := by decide +kernel
theorem dX11_copy_111 : decode cX11_copy 111 = .ok (.getfield 75, 3) := by decide +kernel
theorem dX11_copy_114 : decode cX11_copy 114 = .ok (.iload 4, 2) := by decide +kernel
theorem dX11_copy_116 : decode cX11_copy 116 = .ok (.iload 5, 2) := by decide +kernel
theorem dX11_copy_118 : decode cX11_copy 118 = .ok (.invokestatic 89, 3) := by decide +kernel
theorem dX11_copy_121 : decode cX11_copy 121 = .ok (.aload_n 0, 1) := by decide +kernel
theorem dX11_copy_122 : decode cX11_copy 122 = .ok (.iload 5, 2) := by decide +kernel
theorem dX11_copy_124 : decode cX11_copy 124 = .ok (.invokevirtual 64, 3) := by decide +kernel
theorem dX11_copy_127 : decode cX11_copy 127 = .ok (.ireturn, 1) := by decide +kernel
theorem dX11_drop_0 : decode cX11_drop 0 = .ok (.iload_n 1, 1) := by decide +kernel
theorem dX11_drop_1 : decode cX11_drop 1 = .ok (.invokestatic 51, 3) := by decide +kernel
theorem dX11_drop_4 : decode cX11_drop 4 = .ok (.ifCond .ne 6, 3) := by decide +kernel
theorem dX11_drop_7 : decode cX11_drop 7 = .ok (.ldc 55, 2) := by decide +kernel
theorem dX11_drop_9 : decode cX11_drop 9 = .ok (.ireturn, 1) := by decide +kernel
theorem dX11_drop_10 : decode cX11_drop 10 = .ok (.aload_n 0, 1) := by decide +kernel
theorem dX11_drop_11 : decode cX11_drop 11 = .ok (.getfield 11, 3) := by decide +kernel
theorem dX11_drop_14 : decode cX11_drop 14 = .ok (.iload_n 1, 1) := by decide +kernel
theorem dX11_drop_15 : decode cX11_drop 15 = .ok (.aaload, 1) := by decide +kernel
theorem dX11_drop_16 : decode cX11_drop 16 = .ok (.getfield 67, 3) := by decide +kernel
theorem dX11_drop_19 : decode cX11_drop 19 = .ok (.ifCond .ne 9, 3) := by decide +kernel
theorem dX11_drop_22 : decode cX11_drop 22 = .ok (.aload_n 0, 1) := by decide +kernel
theorem dX11_drop_23 : decode cX11_drop 23 = .ok (.iconst 1, 1) := by decide +kernel
theorem dX11_drop_24 : decode cX11_drop 24 = .ok (.invokevirtual 56, 3) := by decide +kernel
theorem dX11_drop_27 : decode cX11_drop 27 = .ok (.ireturn, 1) := by decide +kernel
theorem dX11_drop_28 : decode cX11_drop 28 = .ok (.aload_n 0, 1) := by decide +kernel
theorem dX11_drop_29 : decode cX11_drop 29 = .ok (.getfield 11, 3) := by decide +kernel
theorem dX11_drop_32 : decode cX11_drop 32 = .ok (.iload_n 1, 1) := by decide +kernel
theorem dX11_drop_33 : decode cX11_drop 33 = .ok (.aaload, 1) := by decide +kernel
theorem dX11_drop_34 : decode cX11_drop 34 = .ok (.iconst 0, 1) := by decide +kernel
theorem dX11_drop_35 : decode cX11_drop 35 = .ok (.putfield 67, 3) := by decide +kernel
theorem dX11_drop_38 : decode cX11_drop 38 = .ok (.aload_n 0, 1) := by decide +kernel
theorem dX11_drop_39 : decode cX11_drop 39 = .ok (.aload_n 0, 1) := by decide +kernel
theorem dX11_drop_40 : decode cX11_drop 40 = .ok (.getfield 11, 3) := by decide +kernel
theorem dX11_drop_43 : decode cX11_drop 43 = .ok (.iload_n 1, 1) := by decide +kernel
theorem dX11_drop_44 : decode cX11_drop 44 = .ok (.aaload, 1) := by decide +kernel
theorem dX11_drop_45 : decode cX11_drop 45 = .ok (.getfield 71, 3) := by decide +kernel
theorem dX11_drop_48 : decode cX11_drop 48 = .ok (.invokevirtual 64, 3) := by decide +kernel
theorem dX11_drop_51 : decode cX11_drop 51 = .ok (.ireturn, 1) := by decide +kernel
theorem dX11_feed_0 : decode cX11_feed 0 = .ok (.iload_n 3, 1) := by decide +kernel
theorem dX11_feed_1 : decode cX11_feed 1 = .ok (.iconst 1, 1) := by decide +kernel
theorem dX11_feed_2 : decode cX11_feed 2 = .ok (.if_icmp .lt 9, 3) := by decide +kernel
theorem dX11_feed_5 : decode cX11_feed 5 = .ok (.iload_n 3, 1) := by decide +kernel
theorem dX11_feed_6 : decode cX11_feed 6 = .ok (.bipush 8, 2) := by decide +kernel
theorem dX11_feed_8 : decode cX11_feed 8 = .ok (.if_icmp .le 6, 3) := by decide +kernel
theorem dX11_feed_11 : decode cX11_feed 11 = .ok (.ldc 55, 2) := by decide +kernel
theorem dX11_feed_13 : decode cX11_feed 13 = .ok (.ireturn, 1) := by decide +kernel
theorem dX11_feed_14 : decode cX11_feed 14 = .ok (.aload_n 0, 1) := by decide +kernel
theorem dX11_feed_15 : decode cX11_feed 15 = .ok (.getfield 18, 3) := by decide +kernel
theorem dX11_feed_18 : decode cX11_feed 18 = .ok (.iload_n 3, 1) := by decide +kernel
theorem dX11_feed_19 : decode cX11_feed 19 = .ok (.invokevirtual 95, 3) := by decide +kernel
theorem dX11_feed_22 : decode cX11_feed 22 = .ok (.ifCond .eq 15, 3) := by decide +kernel
theorem dX11_feed_25 : decode cX11_feed 25 = .ok (.aload_n 0, 1) := by decide +kernel
theorem dX11_feed_26 : decode cX11_feed 26 = .ok (.getfield 18, 3) := by decide +kernel
theorem dX11_feed_29 : decode cX11_feed 29 = .ok (.lload_n 1, 1) := by decide +kernel
theorem dX11_feed_30 : decode cX11_feed 30 = .ok (.iload_n 3, 1) := by decide +kernel
theorem dX11_feed_31 : decode cX11_feed 31 = .ok (.invokevirtual 98, 3) := by decide +kernel
theorem dX11_feed_34 : decode cX11_feed 34 = .ok (.goto 5, 3) := by decide +kernel
theorem dX11_feed_37 : decode cX11_feed 37 = .ok (.ldc 102, 2) := by decide +kernel
theorem dX11_feed_39 : decode cX11_feed 39 = .ok (.ireturn, 1) := by decide +kernel
theorem dX11_port_0 : decode cX11_port 0 = .ok (.aload_n 0, 1) := by decide +kernel
theorem dX11_port_1 : decode cX11_port 1 = .ok (.getfield 18, 3) := by decide +kernel
theorem dX11_port_4 : decode cX11_port 4 = .ok (.aload_n 0, 1) := by decide +kernel
theorem dX11_port_5 : decode cX11_port 5 = .ok (.getfield 29, 3) := by decide +kernel
theorem dX11_port_8 : decode cX11_port 8 = .ok (.invokevirtual 103, 3) := by decide +kernel
theorem dX11_port_11 : decode cX11_port 11 = .ok (.ifCond .ne 25, 3) := by decide +kernel
theorem dX11_port_14 : decode cX11_port 14 = .ok (.aload_n 0, 1) := by decide +kernel
theorem dX11_port_15 : decode cX11_port 15 = .ok (.aload_n 0, 1) := by decide +kernel
theorem dX11_port_16 : decode cX11_port 16 = .ok (.getfield 18, 3) := by decide +kernel
theorem dX11_port_19 : decode cX11_port 19 = .ok (.getfield 107, 3) := by decide +kernel
theorem dX11_port_22 : decode cX11_port 22 = .ok (.putfield 110, 3) := by decide +kernel
theorem dX11_port_25 : decode cX11_port 25 = .ok (.ldc 113, 2) := by decide +kernel
theorem dX11_port_27 : decode cX11_port 27 = .ok (.aload_n 0, 1) := by decide +kernel
theorem dX11_port_28 : decode cX11_port 28 = .ok (.getfield 18, 3) := by decide +kernel
theorem dX11_port_31 : decode cX11_port 31 = .ok (.getfield 114, 3) := by decide +kernel
theorem dX11_port_34 : decode cX11_port 34 = .ok (.isub, 1) := by decide +kernel
theorem dX11_port_35 : decode cX11_port 35 = .ok (.ireturn, 1) := by decide +kernel
theorem dX11_port_36 : decode cX11_port 36 = .ok (.aload_n 0, 1) := by decide +kernel
theorem dX11_port_37 : decode cX11_port 37 = .ok (.getfield 29, 3) := by decide +kernel
theorem dX11_port_40 : decode cX11_port 40 = .ok (.invokevirtual 117, 3) := by decide +kernel
theorem dX11_port_43 : decode cX11_port 43 = .ok (.aload_n 0, 1) := by decide +kernel
theorem dX11_port_44 : decode cX11_port 44 = .ok (.getfield 25, 3) := by decide +kernel
theorem dX11_port_47 : decode cX11_port 47 = .ok (.aload_n 0, 1) := by decide +kernel
theorem dX11_port_48 : decode cX11_port 48 = .ok (.getfield 29, 3) := by decide +kernel
theorem dX11_port_51 : decode cX11_port 51 = .ok (.invokevirtual 120, 3) := by decide +kernel
theorem dX11_port_54 : decode cX11_port 54 = .ok (.aload_n 0, 1) := by decide +kernel
theorem dX11_port_55 : decode cX11_port 55 = .ok (.getfield 39, 3) := by decide +kernel
theorem dX11_port_58 : decode cX11_port 58 = .ok (.invokevirtual 124, 3) := by decide +kernel
theorem dX11_port_61 : decode cX11_port 61 = .ok (.aload_n 0, 1) := by decide +kernel
theorem dX11_port_62 : decode cX11_port 62 = .ok (.getfield 25, 3) := by decide +kernel
theorem dX11_port_65 : decode cX11_port 65 = .ok (.getfield 127, 3) := by decide +kernel
theorem dX11_port_68 : decode cX11_port 68 = .ok (.ireturn, 1) := by decide +kernel
theorem dX11_fault_0 : decode cX11_fault 0 = .ok (.aload_n 0, 1) := by decide +kernel
theorem dX11_fault_1 : decode cX11_fault 1 = .ok (.getfield 110, 3) := by decide +kernel
theorem dX11_fault_4 : decode cX11_fault 4 = .ok (.ireturn, 1) := by decide +kernel
theorem dX11_day_0 : decode cX11_day 0 = .ok (.aload_n 0, 1) := by decide +kernel
theorem dX11_day_1 : decode cX11_day 1 = .ok (.getfield 25, 3) := by decide +kernel
theorem dX11_day_4 : decode cX11_day 4 = .ok (.getfield 130, 3) := by decide +kernel
theorem dX11_day_7 : decode cX11_day 7 = .ok (.ifCond .ne 6, 3) := by decide +kernel
theorem dX11_day_10 : decode cX11_day 10 = .ok (.ldc 131, 2) := by decide +kernel
theorem dX11_day_12 : decode cX11_day 12 = .ok (.ireturn, 1) := by decide +kernel
theorem dX11_day_13 : decode cX11_day 13 = .ok (.aload_n 0, 1) := by decide +kernel
theorem dX11_day_14 : decode cX11_day 14 = .ok (.getfield 25, 3) := by decide +kernel
theorem dX11_day_17 : decode cX11_day 17 = .ok (.iload_n 1, 1) := by decide +kernel
theorem dX11_day_18 : decode cX11_day 18 = .ok (.invokevirtual 132, 3) := by decide +kernel
theorem dX11_day_21 : decode cX11_day 21 = .ok (.ifCond .ne 6, 3) := by decide +kernel
theorem dX11_day_24 : decode cX11_day 24 = .ok (.ldc 55, 2) := by decide +kernel
theorem dX11_day_26 : decode cX11_day 26 = .ok (.ireturn, 1) := by decide +kernel
theorem dX11_day_27 : decode cX11_day 27 = .ok (.aload_n 0, 1) := by decide +kernel
theorem dX11_day_28 : decode cX11_day 28 = .ok (.getfield 25, 3) := by decide +kernel
theorem dX11_day_31 : decode cX11_day 31 = .ok (.getfield 127, 3) := by decide +kernel
theorem dX11_day_34 : decode cX11_day 34 = .ok (.bipush 24, 2) := by decide +kernel
theorem dX11_day_36 : decode cX11_day 36 = .ok (.if_icmp .lt 6, 3) := by decide +kernel
theorem dX11_day_39 : decode cX11_day 39 = .ok (.ldc 102, 2) := by decide +kernel
theorem dX11_day_41 : decode cX11_day 41 = .ok (.ireturn, 1) := by decide +kernel
theorem dX11_day_42 : decode cX11_day 42 = .ok (.aload_n 0, 1) := by decide +kernel
theorem dX11_day_43 : decode cX11_day 43 = .ok (.getfield 25, 3) := by decide +kernel
theorem dX11_day_46 : decode cX11_day 46 = .ok (.iload_n 1, 1) := by decide +kernel
theorem dX11_day_47 : decode cX11_day 47 = .ok (.invokevirtual 135, 3) := by decide +kernel
theorem dX11_day_50 : decode cX11_day 50 = .ok (.aload_n 0, 1) := by decide +kernel
theorem dX11_day_51 : decode cX11_day 51 = .ok (.getfield 39, 3) := by decide +kernel
theorem dX11_day_54 : decode cX11_day 54 = .ok (.invokevirtual 124, 3) := by decide +kernel
theorem dX11_day_57 : decode cX11_day 57 = .ok (.aload_n 0, 1) := by decide +kernel
theorem dX11_day_58 : decode cX11_day 58 = .ok (.getfield 25, 3) := by decide +kernel
theorem dX11_day_61 : decode cX11_day 61 = .ok (.aload_n 0, 1) := by decide +kernel
theorem dX11_day_62 : decode cX11_day 62 = .ok (.getfield 25, 3) := by decide +kernel
theorem dX11_day_65 : decode cX11_day 65 = .ok (.getfield 127, 3) := by decide +kernel
theorem dX11_day_68 : decode cX11_day 68 = .ok (.iconst 1, 1) := by decide +kernel
theorem dX11_day_69 : decode cX11_day 69 = .ok (.isub, 1) := by decide +kernel
theorem dX11_day_70 : decode cX11_day 70 = .ok (.invokevirtual 139, 3) := by decide +kernel
theorem dX11_day_73 : decode cX11_day 73 = .ok (.ireturn, 1) := by decide +kernel
theorem dX11_undo_0 : decode cX11_undo 0 = .ok (.aload_n 0, 1) := by decide +kernel
theorem dX11_undo_1 : decode cX11_undo 1 = .ok (.getfield 25, 3) := by decide +kernel
theorem dX11_undo_4 : decode cX11_undo 4 = .ok (.getfield 127, 3) := by decide +kernel
theorem dX11_undo_7 : decode cX11_undo 7 = .ok (.ifCond .gt 6, 3) := by decide +kernel
theorem dX11_undo_10 : decode cX11_undo 10 = .ok (.ldc 131, 2) := by decide +kernel
theorem dX11_undo_12 : decode cX11_undo 12 = .ok (.ireturn, 1) := by decide +kernel
theorem dX11_undo_13 : decode cX11_undo 13 = .ok (.aload_n 0, 1) := by decide +kernel
theorem dX11_undo_14 : decode cX11_undo 14 = .ok (.getfield 25, 3) := by decide +kernel
theorem dX11_undo_17 : decode cX11_undo 17 = .ok (.dup, 1) := by decide +kernel
theorem dX11_undo_18 : decode cX11_undo 18 = .ok (.getfield 127, 3) := by decide +kernel
theorem dX11_undo_21 : decode cX11_undo 21 = .ok (.iconst 1, 1) := by decide +kernel
theorem dX11_undo_22 : decode cX11_undo 22 = .ok (.isub, 1) := by decide +kernel
theorem dX11_undo_23 : decode cX11_undo 23 = .ok (.putfield 127, 3) := by decide +kernel
theorem dX11_undo_26 : decode cX11_undo 26 = .ok (.aload_n 0, 1) := by decide +kernel
theorem dX11_undo_27 : decode cX11_undo 27 = .ok (.getfield 39, 3) := by decide +kernel
theorem dX11_undo_30 : decode cX11_undo 30 = .ok (.invokevirtual 124, 3) := by decide +kernel
theorem dX11_undo_33 : decode cX11_undo 33 = .ok (.aload_n 0, 1) := by decide +kernel
theorem dX11_undo_34 : decode cX11_undo 34 = .ok (.getfield 25, 3) := by decide +kernel
theorem dX11_undo_37 : decode cX11_undo 37 = .ok (.getfield 127, 3) := by decide +kernel
theorem dX11_undo_40 : decode cX11_undo 40 = .ok (.ireturn, 1) := by decide +kernel
theorem dX11_shown_0 : decode cX11_shown 0 = .ok (.aload_n 0, 1) := by decide +kernel
theorem dX11_shown_1 : decode cX11_shown 1 = .ok (.getfield 25, 3) := by decide +kernel
theorem dX11_shown_4 : decode cX11_shown 4 = .ok (.iload_n 1, 1) := by decide +kernel
theorem dX11_shown_5 : decode cX11_shown 5 = .ok (.invokevirtual 142, 3) := by decide +kernel
theorem dX11_shown_8 : decode cX11_shown 8 = .ok (.ifCond .ne 6, 3) := by decide +kernel
theorem dX11_shown_11 : decode cX11_shown 11 = .ok (.ldc 55, 2) := by decide +kernel
theorem dX11_shown_13 : decode cX11_shown 13 = .ok (.ireturn, 1) := by decide +kernel
theorem dX11_shown_14 : decode cX11_shown 14 = .ok (.iload_n 2, 1) := by decide +kernel
theorem dX11_shown_15 : decode cX11_shown 15 = .ok (.tableswitch 74 0 3 #[29, 39, 48, 57], 29) := by decide +kernel
theorem dX11_shown_44 : decode cX11_shown 44 = .ok (.aload_n 0, 1) := by decide +kernel
theorem dX11_shown_45 : decode cX11_shown 45 = .ok (.getfield 25, 3) := by decide +kernel
theorem dX11_shown_48 : decode cX11_shown 48 = .ok (.getfield 145, 3) := by decide +kernel
theorem dX11_shown_51 : decode cX11_shown 51 = .ok (.iload_n 1, 1) := by decide +kernel
theorem dX11_shown_52 : decode cX11_shown 52 = .ok (.iaload, 1) := by decide +kernel
theorem dX11_shown_53 : decode cX11_shown 53 = .ok (.ireturn, 1) := by decide +kernel
theorem dX11_shown_54 : decode cX11_shown 54 = .ok (.aload_n 0, 1) := by decide +kernel
theorem dX11_shown_55 : decode cX11_shown 55 = .ok (.getfield 25, 3) := by decide +kernel
theorem dX11_shown_58 : decode cX11_shown 58 = .ok (.iload_n 1, 1) := by decide +kernel
theorem dX11_shown_59 : decode cX11_shown 59 = .ok (.invokevirtual 148, 3) := by decide +kernel
theorem dX11_shown_62 : decode cX11_shown 62 = .ok (.ireturn, 1) := by decide +kernel
theorem dX11_shown_63 : decode cX11_shown 63 = .ok (.aload_n 0, 1) := by decide +kernel
theorem dX11_shown_64 : decode cX11_shown 64 = .ok (.getfield 25, 3) := by decide +kernel
theorem dX11_shown_67 : decode cX11_shown 67 = .ok (.iload_n 1, 1) := by decide +kernel
theorem dX11_shown_68 : decode cX11_shown 68 = .ok (.invokevirtual 139, 3) := by decide +kernel
theorem dX11_shown_71 : decode cX11_shown 71 = .ok (.ireturn, 1) := by decide +kernel
theorem dX11_shown_72 : decode cX11_shown 72 = .ok (.aload_n 0, 1) := by decide +kernel
theorem dX11_shown_73 : decode cX11_shown 73 = .ok (.getfield 25, 3) := by decide +kernel
theorem dX11_shown_76 : decode cX11_shown 76 = .ok (.iload_n 1, 1) := by decide +kernel
theorem dX11_shown_77 : decode cX11_shown 77 = .ok (.invokevirtual 151, 3) := by decide +kernel
theorem dX11_shown_80 : decode cX11_shown 80 = .ok (.ifCond .eq 7, 3) := by decide +kernel
theorem dX11_shown_83 : decode cX11_shown 83 = .ok (.iconst 1, 1) := by decide +kernel
theorem dX11_shown_84 : decode cX11_shown 84 = .ok (.goto 4, 3) := by decide +kernel
theorem dX11_shown_87 : decode cX11_shown 87 = .ok (.iconst 0, 1) := by decide +kernel
theorem dX11_shown_88 : decode cX11_shown 88 = .ok (.ireturn, 1) := by decide +kernel
theorem dX11_shown_89 : decode cX11_shown 89 = .ok (.ldc 55, 2) := by decide +kernel
theorem dX11_shown_91 : decode cX11_shown 91 = .ok (.ireturn, 1) := by decide +kernel
theorem dX11_heavy_0 : decode cX11_heavy 0 = .ok (.aload_n 0, 1) := by decide +kernel
theorem dX11_heavy_1 : decode cX11_heavy 1 = .ok (.getfield 25, 3) := by decide +kernel
theorem dX11_heavy_4 : decode cX11_heavy 4 = .ok (.iload_n 1, 1) := by decide +kernel
theorem dX11_heavy_5 : decode cX11_heavy 5 = .ok (.invokevirtual 154, 3) := by decide +kernel
theorem dX11_heavy_8 : decode cX11_heavy 8 = .ok (.astore_n 3, 1) := by decide +kernel
theorem dX11_heavy_9 : decode cX11_heavy 9 = .ok (.aload_n 3, 1) := by decide +kernel
theorem dX11_heavy_10 : decode cX11_heavy 10 = .ok (.ifnull 14, 3) := by decide +kernel
theorem dX11_heavy_13 : decode cX11_heavy 13 = .ok (.iload_n 2, 1) := by decide +kernel
theorem dX11_heavy_14 : decode cX11_heavy 14 = .ok (.iconst (-1), 1) := by decide +kernel
theorem dX11_heavy_15 : decode cX11_heavy 15 = .ok (.if_icmp .lt 9, 3) := by decide +kernel
theorem dX11_heavy_18 : decode cX11_heavy 18 = .ok (.iload_n 2, 1) := by decide +kernel
theorem dX11_heavy_19 : decode cX11_heavy 19 = .ok (.bipush 99, 2) := by decide +kernel
theorem dX11_heavy_21 : decode cX11_heavy 21 = .ok (.if_icmp .le 6, 3) := by decide +kernel
theorem dX11_heavy_24 : decode cX11_heavy 24 = .ok (.ldc 55, 2) := by decide +kernel
theorem dX11_heavy_26 : decode cX11_heavy 26 = .ok (.ireturn, 1) := by decide +kernel
theorem dX11_heavy_27 : decode cX11_heavy 27 = .ok (.iload_n 2, 1) := by decide +kernel
theorem dX11_heavy_28 : decode cX11_heavy 28 = .ok (.ifCond .ge 10, 3) := by decide +kernel
theorem dX11_heavy_31 : decode cX11_heavy 31 = .ok (.aload_n 3, 1) := by decide +kernel
theorem dX11_heavy_32 : decode cX11_heavy 32 = .ok (.getfield 158, 3) := by decide +kernel
theorem dX11_heavy_35 : decode cX11_heavy 35 = .ok (.goto 12, 3) := by decide +kernel
theorem dX11_heavy_38 : decode cX11_heavy 38 = .ok (.aload_n 3, 1) := by decide +kernel
theorem dX11_heavy_39 : decode cX11_heavy 39 = .ok (.aload_n 3, 1) := by decide +kernel
theorem dX11_heavy_40 : decode cX11_heavy 40 = .ok (.getfield 158, 3) := by decide +kernel
theorem dX11_heavy_43 : decode cX11_heavy 43 = .ok (.iload_n 2, 1) := by decide +kernel
theorem dX11_heavy_44 : decode cX11_heavy 44 = .ok (.invokevirtual 163, 3) := by decide +kernel
theorem dX11_heavy_47 : decode cX11_heavy 47 = .ok (.ireturn, 1) := by decide +kernel
theorem dX11_next_0 : decode cX11_next 0 = .ok (.aload_n 0, 1) := by decide +kernel
theorem dX11_next_1 : decode cX11_next 1 = .ok (.getfield 25, 3) := by decide +kernel
theorem dX11_next_4 : decode cX11_next 4 = .ok (.getfield 130, 3) := by decide +kernel
theorem dX11_next_7 : decode cX11_next 7 = .ok (.ifCond .ne 6, 3) := by decide +kernel
theorem dX11_next_10 : decode cX11_next 10 = .ok (.ldc 131, 2) := by decide +kernel
theorem dX11_next_12 : decode cX11_next 12 = .ok (.ireturn, 1) := by decide +kernel
theorem dX11_next_13 : decode cX11_next 13 = .ok (.aload_n 0, 1) := by decide +kernel
theorem dX11_next_14 : decode cX11_next 14 = .ok (.getfield 25, 3) := by decide +kernel
theorem dX11_next_17 : decode cX11_next 17 = .ok (.iload_n 1, 1) := by decide +kernel
theorem dX11_next_18 : decode cX11_next 18 = .ok (.invokevirtual 132, 3) := by decide +kernel
theorem dX11_next_21 : decode cX11_next 21 = .ok (.ifCond .ne 6, 3) := by decide +kernel
theorem dX11_next_24 : decode cX11_next 24 = .ok (.ldc 55, 2) := by decide +kernel
theorem dX11_next_26 : decode cX11_next 26 = .ok (.ireturn, 1) := by decide +kernel
theorem dX11_next_27 : decode cX11_next 27 = .ok (.aload_n 0, 1) := by decide +kernel
theorem dX11_next_28 : decode cX11_next 28 = .ok (.getfield 25, 3) := by decide +kernel
theorem dX11_next_31 : decode cX11_next 31 = .ok (.getfield 145, 3) := by decide +kernel
theorem dX11_next_34 : decode cX11_next 34 = .ok (.aload_n 0, 1) := by decide +kernel
theorem dX11_next_35 : decode cX11_next 35 = .ok (.getfield 25, 3) := by decide +kernel
theorem dX11_next_38 : decode cX11_next 38 = .ok (.getfield 127, 3) := by decide +kernel
theorem dX11_next_41 : decode cX11_next 41 = .ok (.iload_n 1, 1) := by decide +kernel
theorem dX11_next_42 : decode cX11_next 42 = .ok (.iastore, 1) := by decide +kernel
theorem dX11_next_43 : decode cX11_next 43 = .ok (.aload_n 0, 1) := by decide +kernel
theorem dX11_next_44 : decode cX11_next 44 = .ok (.getfield 25, 3) := by decide +kernel
theorem dX11_next_47 : decode cX11_next 47 = .ok (.aload_n 0, 1) := by decide +kernel
theorem dX11_next_48 : decode cX11_next 48 = .ok (.getfield 25, 3) := by decide +kernel
theorem dX11_next_51 : decode cX11_next 51 = .ok (.getfield 127, 3) := by decide +kernel
theorem dX11_next_54 : decode cX11_next 54 = .ok (.invokevirtual 139, 3) := by decide +kernel
theorem dX11_next_57 : decode cX11_next 57 = .ok (.ireturn, 1) := by decide +kernel
theorem dX11_fits_0 : decode cX11_fits 0 = .ok (.iload_n 2, 1) := by decide +kernel
theorem dX11_fits_1 : decode cX11_fits 1 = .ok (.iconst (-1), 1) := by decide +kernel
theorem dX11_fits_2 : decode cX11_fits 2 = .ok (.if_icmp .ne 7, 3) := by decide +kernel
theorem dX11_fits_5 : decode cX11_fits 5 = .ok (.iconst 1, 1) := by decide +kernel
theorem dX11_fits_6 : decode cX11_fits 6 = .ok (.goto 4, 3) := by decide +kernel
theorem dX11_fits_9 : decode cX11_fits 9 = .ok (.iconst 0, 1) := by decide +kernel
theorem dX11_fits_10 : decode cX11_fits 10 = .ok (.istore 4, 2) := by decide +kernel
theorem dX11_fits_12 : decode cX11_fits 12 = .ok (.iload 4, 2) := by decide +kernel
theorem dX11_fits_14 : decode cX11_fits 14 = .ok (.ifCond .ne 18, 3) := by decide +kernel
theorem dX11_fits_17 : decode cX11_fits 17 = .ok (.aload_n 0, 1) := by decide +kernel
theorem dX11_fits_18 : decode cX11_fits 18 = .ok (.getfield 25, 3) := by decide +kernel
theorem dX11_fits_21 : decode cX11_fits 21 = .ok (.iload_n 2, 1) := by decide +kernel
theorem dX11_fits_22 : decode cX11_fits 22 = .ok (.invokevirtual 154, 3) := by decide +kernel
theorem dX11_fits_25 : decode cX11_fits 25 = .ok (.ifnonnull 7, 3) := by decide +kernel
theorem dX11_fits_28 : decode cX11_fits 28 = .ok (.iconst 1, 1) := by decide +kernel
theorem dX11_fits_29 : decode cX11_fits 29 = .ok (.goto 4, 3) := by decide +kernel
theorem dX11_fits_32 : decode cX11_fits 32 = .ok (.iconst 0, 1) := by decide +kernel
theorem dX11_fits_33 : decode cX11_fits 33 = .ok (.istore 5, 2) := by decide +kernel
theorem dX11_fits_35 : decode cX11_fits 35 = .ok (.aload_n 0, 1) := by decide +kernel
theorem dX11_fits_36 : decode cX11_fits 36 = .ok (.iload_n 1, 1) := by decide +kernel
theorem dX11_fits_37 : decode cX11_fits 37 = .ok (.iload 5, 2) := by decide +kernel
theorem dX11_fits_39 : decode cX11_fits 39 = .ok (.ifCond .ne 13, 3) := by decide +kernel
theorem dX11_fits_42 : decode cX11_fits 42 = .ok (.iload_n 3, 1) := by decide +kernel
theorem dX11_fits_43 : decode cX11_fits 43 = .ok (.ifCond .lt 9, 3) := by decide +kernel
theorem dX11_fits_46 : decode cX11_fits 46 = .ok (.iload_n 3, 1) := by decide +kernel
theorem dX11_fits_47 : decode cX11_fits 47 = .ok (.bipush 7, 2) := by decide +kernel
theorem dX11_fits_49 : decode cX11_fits 49 = .ok (.if_icmp .le 7, 3) := by decide +kernel
theorem dX11_fits_52 : decode cX11_fits 52 = .ok (.iconst 1, 1) := by decide +kernel
theorem dX11_fits_53 : decode cX11_fits 53 = .ok (.goto 4, 3) := by decide +kernel
theorem dX11_fits_56 : decode cX11_fits 56 = .ok (.iconst 0, 1) := by decide +kernel
theorem dX11_fits_57 : decode cX11_fits 57 = .ok (.invokevirtual 167, 3) := by decide +kernel
theorem dX11_fits_60 : decode cX11_fits 60 = .ok (.istore 6, 2) := by decide +kernel
theorem dX11_fits_62 : decode cX11_fits 62 = .ok (.iload 6, 2) := by decide +kernel
theorem dX11_fits_64 : decode cX11_fits 64 = .ok (.ifCond .eq 6, 3) := by decide +kernel
theorem dX11_fits_67 : decode cX11_fits 67 = .ok (.iload 6, 2) := by decide +kernel
theorem dX11_fits_69 : decode cX11_fits 69 = .ok (.ireturn, 1) := by decide +kernel
theorem dX11_fits_70 : decode cX11_fits 70 = .ok (.aload_n 0, 1) := by decide +kernel
theorem dX11_fits_71 : decode cX11_fits 71 = .ok (.getfield 39, 3) := by decide +kernel
theorem dX11_fits_74 : decode cX11_fits 74 = .ok (.aload_n 0, 1) := by decide +kernel
theorem dX11_fits_75 : decode cX11_fits 75 = .ok (.getfield 25, 3) := by decide +kernel
theorem dX11_fits_78 : decode cX11_fits 78 = .ok (.aload_n 0, 1) := by decide +kernel
theorem dX11_fits_79 : decode cX11_fits 79 = .ok (.getfield 11, 3) := by decide +kernel
theorem dX11_fits_82 : decode cX11_fits 82 = .ok (.iload_n 1, 1) := by decide +kernel
theorem dX11_fits_83 : decode cX11_fits 83 = .ok (.aaload, 1) := by decide +kernel
theorem dX11_fits_84 : decode cX11_fits 84 = .ok (.getfield 75, 3) := by decide +kernel
theorem dX11_fits_87 : decode cX11_fits 87 = .ok (.invokevirtual 171, 3) := by decide +kernel
theorem dX11_fits_90 : decode cX11_fits 90 = .ok (.aload_n 0, 1) := by decide +kernel
theorem dX11_fits_91 : decode cX11_fits 91 = .ok (.iload 4, 2) := by decide +kernel
theorem dX11_fits_93 : decode cX11_fits 93 = .ok (.ifCond .eq 13, 3) := by decide +kernel
theorem dX11_fits_96 : decode cX11_fits 96 = .ok (.aload_n 0, 1) := by decide +kernel
theorem dX11_fits_97 : decode cX11_fits 97 = .ok (.getfield 39, 3) := by decide +kernel
theorem dX11_fits_100 : decode cX11_fits 100 = .ok (.invokevirtual 174, 3) := by decide +kernel
theorem dX11_fits_103 : decode cX11_fits 103 = .ok (.goto 12, 3) := by decide +kernel
theorem dX11_fits_106 : decode cX11_fits 106 = .ok (.aload_n 0, 1) := by decide +kernel
theorem dX11_fits_107 : decode cX11_fits 107 = .ok (.getfield 39, 3) := by decide +kernel
theorem dX11_fits_110 : decode cX11_fits 110 = .ok (.iload_n 2, 1) := by decide +kernel
theorem dX11_fits_111 : decode cX11_fits 111 = .ok (.iload_n 3, 1) := by decide +kernel
theorem dX11_fits_112 : decode cX11_fits 112 = .ok (.invokevirtual 178, 3) := by decide +kernel
theorem dX11_fits_115 : decode cX11_fits 115 = .ok (.invokevirtual 64, 3) := by decide +kernel
theorem dX11_fits_118 : decode cX11_fits 118 = .ok (.ireturn, 1) := by decide +kernel
theorem dX11_sure_0 : decode cX11_sure 0 = .ok (.aload_n 0, 1) := by decide +kernel
theorem dX11_sure_1 : decode cX11_sure 1 = .ok (.iload_n 1, 1) := by decide +kernel
theorem dX11_sure_2 : decode cX11_sure 2 = .ok (.aload_n 0, 1) := by decide +kernel
theorem dX11_sure_3 : decode cX11_sure 3 = .ok (.getfield 25, 3) := by decide +kernel
theorem dX11_sure_6 : decode cX11_sure 6 = .ok (.iload_n 2, 1) := by decide +kernel
theorem dX11_sure_7 : decode cX11_sure 7 = .ok (.invokevirtual 154, 3) := by decide +kernel
theorem dX11_sure_10 : decode cX11_sure 10 = .ok (.ifnonnull 7, 3) := by decide +kernel
theorem dX11_sure_13 : decode cX11_sure 13 = .ok (.iconst 1, 1) := by decide +kernel
theorem dX11_sure_14 : decode cX11_sure 14 = .ok (.goto 4, 3) := by decide +kernel
theorem dX11_sure_17 : decode cX11_sure 17 = .ok (.iconst 0, 1) := by decide +kernel
theorem dX11_sure_18 : decode cX11_sure 18 = .ok (.invokevirtual 167, 3) := by decide +kernel
theorem dX11_sure_21 : decode cX11_sure 21 = .ok (.istore_n 3, 1) := by decide +kernel
theorem dX11_sure_22 : decode cX11_sure 22 = .ok (.iload_n 3, 1) := by decide +kernel
theorem dX11_sure_23 : decode cX11_sure 23 = .ok (.ifCond .eq 5, 3) := by decide +kernel
theorem dX11_sure_26 : decode cX11_sure 26 = .ok (.iload_n 3, 1) := by decide +kernel
theorem dX11_sure_27 : decode cX11_sure 27 = .ok (.ireturn, 1) := by decide +kernel
theorem dX11_sure_28 : decode cX11_sure 28 = .ok (.aload_n 0, 1) := by decide +kernel
theorem dX11_sure_29 : decode cX11_sure 29 = .ok (.getfield 39, 3) := by decide +kernel
theorem dX11_sure_32 : decode cX11_sure 32 = .ok (.aload_n 0, 1) := by decide +kernel
theorem dX11_sure_33 : decode cX11_sure 33 = .ok (.getfield 25, 3) := by decide +kernel
theorem dX11_sure_36 : decode cX11_sure 36 = .ok (.aload_n 0, 1) := by decide +kernel
theorem dX11_sure_37 : decode cX11_sure 37 = .ok (.getfield 11, 3) := by decide +kernel
theorem dX11_sure_40 : decode cX11_sure 40 = .ok (.iload_n 1, 1) := by decide +kernel
theorem dX11_sure_41 : decode cX11_sure 41 = .ok (.aaload, 1) := by decide +kernel
theorem dX11_sure_42 : decode cX11_sure 42 = .ok (.getfield 75, 3) := by decide +kernel
theorem dX11_sure_45 : decode cX11_sure 45 = .ok (.invokevirtual 171, 3) := by decide +kernel
theorem dX11_sure_48 : decode cX11_sure 48 = .ok (.aload_n 0, 1) := by decide +kernel
theorem dX11_sure_49 : decode cX11_sure 49 = .ok (.aload_n 0, 1) := by decide +kernel
theorem dX11_sure_50 : decode cX11_sure 50 = .ok (.getfield 39, 3) := by decide +kernel
theorem dX11_sure_53 : decode cX11_sure 53 = .ok (.iload_n 2, 1) := by decide +kernel
theorem dX11_sure_54 : decode cX11_sure 54 = .ok (.invokevirtual 181, 3) := by decide +kernel
theorem dX11_sure_57 : decode cX11_sure 57 = .ok (.invokevirtual 64, 3) := by decide +kernel
theorem dX11_sure_60 : decode cX11_sure 60 = .ok (.ireturn, 1) := by decide +kernel
theorem dX11_gap_0 : decode cX11_gap 0 = .ok (.aload_n 0, 1) := by decide +kernel
theorem dX11_gap_1 : decode cX11_gap 1 = .ok (.iload_n 1, 1) := by decide +kernel
theorem dX11_gap_2 : decode cX11_gap 2 = .ok (.aload_n 0, 1) := by decide +kernel
theorem dX11_gap_3 : decode cX11_gap 3 = .ok (.getfield 25, 3) := by decide +kernel
theorem dX11_gap_6 : decode cX11_gap 6 = .ok (.iload_n 2, 1) := by decide +kernel
theorem dX11_gap_7 : decode cX11_gap 7 = .ok (.invokevirtual 142, 3) := by decide +kernel
theorem dX11_gap_10 : decode cX11_gap 10 = .ok (.ifCond .ne 7, 3) := by decide +kernel
theorem dX11_gap_13 : decode cX11_gap 13 = .ok (.iconst 1, 1) := by decide +kernel
theorem dX11_gap_14 : decode cX11_gap 14 = .ok (.goto 4, 3) := by decide +kernel
theorem dX11_gap_17 : decode cX11_gap 17 = .ok (.iconst 0, 1) := by decide +kernel
theorem dX11_gap_18 : decode cX11_gap 18 = .ok (.invokevirtual 167, 3) := by decide +kernel
theorem dX11_gap_21 : decode cX11_gap 21 = .ok (.istore_n 3, 1) := by decide +kernel
theorem dX11_gap_22 : decode cX11_gap 22 = .ok (.iload_n 3, 1) := by decide +kernel
theorem dX11_gap_23 : decode cX11_gap 23 = .ok (.ifCond .eq 5, 3) := by decide +kernel
theorem dX11_gap_26 : decode cX11_gap 26 = .ok (.iload_n 3, 1) := by decide +kernel
theorem dX11_gap_27 : decode cX11_gap 27 = .ok (.ireturn, 1) := by decide +kernel
theorem dX11_gap_28 : decode cX11_gap 28 = .ok (.aload_n 0, 1) := by decide +kernel
theorem dX11_gap_29 : decode cX11_gap 29 = .ok (.getfield 39, 3) := by decide +kernel
theorem dX11_gap_32 : decode cX11_gap 32 = .ok (.aload_n 0, 1) := by decide +kernel
theorem dX11_gap_33 : decode cX11_gap 33 = .ok (.getfield 25, 3) := by decide +kernel
theorem dX11_gap_36 : decode cX11_gap 36 = .ok (.aload_n 0, 1) := by decide +kernel
theorem dX11_gap_37 : decode cX11_gap 37 = .ok (.getfield 11, 3) := by decide +kernel
theorem dX11_gap_40 : decode cX11_gap 40 = .ok (.iload_n 1, 1) := by decide +kernel
theorem dX11_gap_41 : decode cX11_gap 41 = .ok (.aaload, 1) := by decide +kernel
theorem dX11_gap_42 : decode cX11_gap 42 = .ok (.getfield 75, 3) := by decide +kernel
theorem dX11_gap_45 : decode cX11_gap 45 = .ok (.invokevirtual 171, 3) := by decide +kernel
theorem dX11_gap_48 : decode cX11_gap 48 = .ok (.aload_n 0, 1) := by decide +kernel
theorem dX11_gap_49 : decode cX11_gap 49 = .ok (.aload_n 0, 1) := by decide +kernel
theorem dX11_gap_50 : decode cX11_gap 50 = .ok (.getfield 39, 3) := by decide +kernel
theorem dX11_gap_53 : decode cX11_gap 53 = .ok (.iload_n 2, 1) := by decide +kernel
theorem dX11_gap_54 : decode cX11_gap 54 = .ok (.invokevirtual 184, 3) := by decide +kernel
theorem dX11_gap_57 : decode cX11_gap 57 = .ok (.invokevirtual 64, 3) := by decide +kernel
theorem dX11_gap_60 : decode cX11_gap 60 = .ok (.ireturn, 1) := by decide +kernel
theorem dX11_wrong_0 : decode cX11_wrong 0 = .ok (.aload_n 0, 1) := by decide +kernel
theorem dX11_wrong_1 : decode cX11_wrong 1 = .ok (.iload_n 1, 1) := by decide +kernel
theorem dX11_wrong_2 : decode cX11_wrong 2 = .ok (.iload_n 2, 1) := by decide +kernel
theorem dX11_wrong_3 : decode cX11_wrong 3 = .ok (.ifCond .lt 8, 3) := by decide +kernel
theorem dX11_wrong_6 : decode cX11_wrong 6 = .ok (.iload_n 2, 1) := by decide +kernel
theorem dX11_wrong_7 : decode cX11_wrong 7 = .ok (.iconst 1, 1) := by decide +kernel
theorem dX11_wrong_8 : decode cX11_wrong 8 = .ok (.if_icmp .le 7, 3) := by decide +kernel
theorem dX11_wrong_11 : decode cX11_wrong 11 = .ok (.iconst 1, 1) := by decide +kernel
theorem dX11_wrong_12 : decode cX11_wrong 12 = .ok (.goto 4, 3) := by decide +kernel
theorem dX11_wrong_15 : decode cX11_wrong 15 = .ok (.iconst 0, 1) := by decide +kernel
theorem dX11_wrong_16 : decode cX11_wrong 16 = .ok (.invokevirtual 167, 3) := by decide +kernel
theorem dX11_wrong_19 : decode cX11_wrong 19 = .ok (.istore_n 3, 1) := by decide +kernel
theorem dX11_wrong_20 : decode cX11_wrong 20 = .ok (.iload_n 3, 1) := by decide +kernel
theorem dX11_wrong_21 : decode cX11_wrong 21 = .ok (.ifCond .eq 5, 3) := by decide +kernel
theorem dX11_wrong_24 : decode cX11_wrong 24 = .ok (.iload_n 3, 1) := by decide +kernel
theorem dX11_wrong_25 : decode cX11_wrong 25 = .ok (.ireturn, 1) := by decide +kernel
theorem dX11_wrong_26 : decode cX11_wrong 26 = .ok (.aload_n 0, 1) := by decide +kernel
theorem dX11_wrong_27 : decode cX11_wrong 27 = .ok (.getfield 39, 3) := by decide +kernel
theorem dX11_wrong_30 : decode cX11_wrong 30 = .ok (.aload_n 0, 1) := by decide +kernel
theorem dX11_wrong_31 : decode cX11_wrong 31 = .ok (.getfield 25, 3) := by decide +kernel
theorem dX11_wrong_34 : decode cX11_wrong 34 = .ok (.aload_n 0, 1) := by decide +kernel
theorem dX11_wrong_35 : decode cX11_wrong 35 = .ok (.getfield 11, 3) := by decide +kernel
theorem dX11_wrong_38 : decode cX11_wrong 38 = .ok (.iload_n 1, 1) := by decide +kernel
theorem dX11_wrong_39 : decode cX11_wrong 39 = .ok (.aaload, 1) := by decide +kernel
theorem dX11_wrong_40 : decode cX11_wrong 40 = .ok (.getfield 75, 3) := by decide +kernel
theorem dX11_wrong_43 : decode cX11_wrong 43 = .ok (.invokevirtual 171, 3) := by decide +kernel
theorem dX11_wrong_46 : decode cX11_wrong 46 = .ok (.aload_n 0, 1) := by decide +kernel
theorem dX11_wrong_47 : decode cX11_wrong 47 = .ok (.getfield 39, 3) := by decide +kernel
theorem dX11_wrong_50 : decode cX11_wrong 50 = .ok (.invokevirtual 187, 3) := by decide +kernel
theorem dX11_wrong_53 : decode cX11_wrong 53 = .ok (.istore 4, 2) := by decide +kernel
theorem dX11_wrong_55 : decode cX11_wrong 55 = .ok (.aload_n 0, 1) := by decide +kernel
theorem dX11_wrong_56 : decode cX11_wrong 56 = .ok (.iload_n 2, 1) := by decide +kernel
theorem dX11_wrong_57 : decode cX11_wrong 57 = .ok (.ifCond .ne 11, 3) := by decide +kernel
theorem dX11_wrong_60 : decode cX11_wrong 60 = .ok (.iload 4, 2) := by decide +kernel
theorem dX11_wrong_62 : decode cX11_wrong 62 = .ok (.invokestatic 190, 3) := by decide +kernel
theorem dX11_wrong_65 : decode cX11_wrong 65 = .ok (.goto 5, 3) := by decide +kernel
theorem dX11_wrong_68 : decode cX11_wrong 68 = .ok (.iload 4, 2) := by decide +kernel
theorem dX11_wrong_70 : decode cX11_wrong 70 = .ok (.invokevirtual 64, 3) := by decide +kernel
theorem dX11_wrong_73 : decode cX11_wrong 73 = .ok (.ireturn, 1) := by decide +kernel
theorem dX11_soon_0 : decode cX11_soon 0 = .ok (.aload_n 0, 1) := by decide +kernel
theorem dX11_soon_1 : decode cX11_soon 1 = .ok (.getfield 25, 3) := by decide +kernel
theorem dX11_soon_4 : decode cX11_soon 4 = .ok (.getfield 130, 3) := by decide +kernel
theorem dX11_soon_7 : decode cX11_soon 7 = .ok (.ifCond .ne 6, 3) := by decide +kernel
theorem dX11_soon_10 : decode cX11_soon 10 = .ok (.ldc 131, 2) := by decide +kernel
theorem dX11_soon_12 : decode cX11_soon 12 = .ok (.ireturn, 1) := by decide +kernel
theorem dX11_soon_13 : decode cX11_soon 13 = .ok (.iload_n 1, 1) := by decide +kernel
theorem dX11_soon_14 : decode cX11_soon 14 = .ok (.iconst (-1), 1) := by decide +kernel
theorem dX11_soon_15 : decode cX11_soon 15 = .ok (.if_icmp .ge 6, 3) := by decide +kernel
theorem dX11_soon_18 : decode cX11_soon 18 = .ok (.ldc 55, 2) := by decide +kernel
theorem dX11_soon_20 : decode cX11_soon 20 = .ok (.ireturn, 1) := by decide +kernel
theorem dX11_soon_21 : decode cX11_soon 21 = .ok (.aload_n 0, 1) := by decide +kernel
theorem dX11_soon_22 : decode cX11_soon 22 = .ok (.getfield 39, 3) := by decide +kernel
theorem dX11_soon_25 : decode cX11_soon 25 = .ok (.aload_n 0, 1) := by decide +kernel
theorem dX11_soon_26 : decode cX11_soon 26 = .ok (.getfield 25, 3) := by decide +kernel
theorem dX11_soon_29 : decode cX11_soon 29 = .ok (.invokevirtual 195, 3) := by decide +kernel
theorem dX11_soon_32 : decode cX11_soon 32 = .ok (.iload_n 1, 1) := by decide +kernel
theorem dX11_soon_33 : decode cX11_soon 33 = .ok (.ifCond .ge 13, 3) := by decide +kernel
theorem dX11_soon_36 : decode cX11_soon 36 = .ok (.aload_n 0, 1) := by decide +kernel
theorem dX11_soon_37 : decode cX11_soon 37 = .ok (.getfield 39, 3) := by decide +kernel
theorem dX11_soon_40 : decode cX11_soon 40 = .ok (.getfield 198, 3) := by decide +kernel
theorem dX11_soon_43 : decode cX11_soon 43 = .ok (.goto 11, 3) := by decide +kernel
theorem dX11_soon_46 : decode cX11_soon 46 = .ok (.aload_n 0, 1) := by decide +kernel
theorem dX11_soon_47 : decode cX11_soon 47 = .ok (.getfield 39, 3) := by decide +kernel
theorem dX11_soon_50 : decode cX11_soon 50 = .ok (.iload_n 1, 1) := by decide +kernel
theorem dX11_soon_51 : decode cX11_soon 51 = .ok (.invokevirtual 201, 3) := by decide +kernel
theorem dX11_soon_54 : decode cX11_soon 54 = .ok (.ireturn, 1) := by decide +kernel
theorem dX11_laws_0 : decode cX11_laws 0 = .ok (.aload_n 0, 1) := by decide +kernel
theorem dX11_laws_1 : decode cX11_laws 1 = .ok (.iload_n 1, 1) := by decide +kernel
theorem dX11_laws_2 : decode cX11_laws 2 = .ok (.iconst 0, 1) := by decide +kernel
theorem dX11_laws_3 : decode cX11_laws 3 = .ok (.invokevirtual 167, 3) := by decide +kernel
theorem dX11_laws_6 : decode cX11_laws 6 = .ok (.istore_n 2, 1) := by decide +kernel
theorem dX11_laws_7 : decode cX11_laws 7 = .ok (.iload_n 2, 1) := by decide +kernel
theorem dX11_laws_8 : decode cX11_laws 8 = .ok (.ifCond .eq 7, 3) := by decide +kernel
theorem dX11_laws_11 : decode cX11_laws 11 = .ok (.iload_n 2, 1) := by decide +kernel
theorem dX11_laws_12 : decode cX11_laws 12 = .ok (.goto 23, 3) := by decide +kernel
theorem dX11_laws_15 : decode cX11_laws 15 = .ok (.aload_n 0, 1) := by decide +kernel
theorem dX11_laws_16 : decode cX11_laws 16 = .ok (.aload_n 0, 1) := by decide +kernel
theorem dX11_laws_17 : decode cX11_laws 17 = .ok (.getfield 25, 3) := by decide +kernel
theorem dX11_laws_20 : decode cX11_laws 20 = .ok (.aload_n 0, 1) := by decide +kernel
theorem dX11_laws_21 : decode cX11_laws 21 = .ok (.getfield 11, 3) := by decide +kernel
theorem dX11_laws_24 : decode cX11_laws 24 = .ok (.iload_n 1, 1) := by decide +kernel
theorem dX11_laws_25 : decode cX11_laws 25 = .ok (.aaload, 1) := by decide +kernel
theorem dX11_laws_26 : decode cX11_laws 26 = .ok (.getfield 75, 3) := by decide +kernel
theorem dX11_laws_29 : decode cX11_laws 29 = .ok (.invokevirtual 204, 3) := by decide +kernel
theorem dX11_laws_32 : decode cX11_laws 32 = .ok (.invokevirtual 64, 3) := by decide +kernel
theorem dX11_laws_35 : decode cX11_laws 35 = .ok (.ireturn, 1) := by decide +kernel
theorem dX11_error_0 : decode cX11_error 0 = .ok (.aload_n 0, 1) := by decide +kernel
theorem dX11_error_1 : decode cX11_error 1 = .ok (.getfield 25, 3) := by decide +kernel
theorem dX11_error_4 : decode cX11_error 4 = .ok (.iload_n 1, 1) := by decide +kernel
theorem dX11_error_5 : decode cX11_error 5 = .ok (.invokevirtual 142, 3) := by decide +kernel
theorem dX11_error_8 : decode cX11_error 8 = .ok (.ifCond .eq 14, 3) := by decide +kernel
theorem dX11_error_11 : decode cX11_error 11 = .ok (.aload_n 0, 1) := by decide +kernel
theorem dX11_error_12 : decode cX11_error 12 = .ok (.getfield 25, 3) := by decide +kernel
theorem dX11_error_15 : decode cX11_error 15 = .ok (.iload_n 1, 1) := by decide +kernel
theorem dX11_error_16 : decode cX11_error 16 = .ok (.invokevirtual 208, 3) := by decide +kernel
theorem dX11_error_19 : decode cX11_error 19 = .ok (.goto 5, 3) := by decide +kernel
theorem dX11_error_22 : decode cX11_error 22 = .ok (.ldc 55, 2) := by decide +kernel
theorem dX11_error_24 : decode cX11_error 24 = .ok (.ireturn, 1) := by decide +kernel
theorem dX11_sold_0 : decode cX11_sold 0 = .ok (.aload_n 0, 1) := by decide +kernel
theorem dX11_sold_1 : decode cX11_sold 1 = .ok (.getfield 25, 3) := by decide +kernel
theorem dX11_sold_4 : decode cX11_sold 4 = .ok (.iload_n 1, 1) := by decide +kernel
theorem dX11_sold_5 : decode cX11_sold 5 = .ok (.invokevirtual 154, 3) := by decide +kernel
theorem dX11_sold_8 : decode cX11_sold 8 = .ok (.astore_n 3, 1) := by decide +kernel
theorem dX11_sold_9 : decode cX11_sold 9 = .ok (.aload_n 3, 1) := by decide +kernel
theorem dX11_sold_10 : decode cX11_sold 10 = .ok (.ifnull 31, 3) := by decide +kernel
theorem dX11_sold_13 : decode cX11_sold 13 = .ok (.iload_n 2, 1) := by decide +kernel
theorem dX11_sold_14 : decode cX11_sold 14 = .ok (.iconst 1, 1) := by decide +kernel
theorem dX11_sold_15 : decode cX11_sold 15 = .ok (.if_icmp .lt 26, 3) := by decide +kernel
theorem dX11_sold_18 : decode cX11_sold 18 = .ok (.aload_n 0, 1) := by decide +kernel
theorem dX11_sold_19 : decode cX11_sold 19 = .ok (.getfield 25, 3) := by decide +kernel
theorem dX11_sold_22 : decode cX11_sold 22 = .ok (.iload_n 2, 1) := by decide +kernel
theorem dX11_sold_23 : decode cX11_sold 23 = .ok (.invokevirtual 142, 3) := by decide +kernel
theorem dX11_sold_26 : decode cX11_sold 26 = .ok (.ifCond .eq 15, 3) := by decide +kernel
theorem dX11_sold_29 : decode cX11_sold 29 = .ok (.aload_n 0, 1) := by decide +kernel
theorem dX11_sold_30 : decode cX11_sold 30 = .ok (.getfield 25, 3) := by decide +kernel
theorem dX11_sold_33 : decode cX11_sold 33 = .ok (.iload_n 1, 1) := by decide +kernel
theorem dX11_sold_34 : decode cX11_sold 34 = .ok (.iload_n 2, 1) := by decide +kernel
theorem dX11_sold_35 : decode cX11_sold 35 = .ok (.invokevirtual 211, 3) := by decide +kernel
theorem dX11_sold_38 : decode cX11_sold 38 = .ok (.ifCond .ne 6, 3) := by decide +kernel
theorem dX11_sold_41 : decode cX11_sold 41 = .ok (.ldc 55, 2) := by decide +kernel
theorem dX11_sold_43 : decode cX11_sold 43 = .ok (.ireturn, 1) := by decide +kernel
theorem dX11_sold_44 : decode cX11_sold 44 = .ok (.aload_n 0, 1) := by decide +kernel
theorem dX11_sold_45 : decode cX11_sold 45 = .ok (.getfield 25, 3) := by decide +kernel
theorem dX11_sold_48 : decode cX11_sold 48 = .ok (.iload_n 2, 1) := by decide +kernel
theorem dX11_sold_49 : decode cX11_sold 49 = .ok (.invokevirtual 139, 3) := by decide +kernel
theorem dX11_sold_52 : decode cX11_sold 52 = .ok (.aload_n 0, 1) := by decide +kernel
theorem dX11_sold_53 : decode cX11_sold 53 = .ok (.getfield 25, 3) := by decide +kernel
theorem dX11_sold_56 : decode cX11_sold 56 = .ok (.iload_n 2, 1) := by decide +kernel
theorem dX11_sold_57 : decode cX11_sold 57 = .ok (.iconst 1, 1) := by decide +kernel
theorem dX11_sold_58 : decode cX11_sold 58 = .ok (.isub, 1) := by decide +kernel
theorem dX11_sold_59 : decode cX11_sold 59 = .ok (.invokevirtual 139, 3) := by decide +kernel
theorem dX11_sold_62 : decode cX11_sold 62 = .ok (.isub, 1) := by decide +kernel
theorem dX11_sold_63 : decode cX11_sold 63 = .ok (.istore 4, 2) := by decide +kernel
theorem dX11_sold_65 : decode cX11_sold 65 = .ok (.iload 4, 2) := by decide +kernel
theorem dX11_sold_67 : decode cX11_sold 67 = .ok (.aload_n 3, 1) := by decide +kernel
theorem dX11_sold_68 : decode cX11_sold 68 = .ok (.aload_n 3, 1) := by decide +kernel
theorem dX11_sold_69 : decode cX11_sold 69 = .ok (.getfield 158, 3) := by decide +kernel
theorem dX11_sold_72 : decode cX11_sold 72 = .ok (.iload_n 2, 1) := by decide +kernel
theorem dX11_sold_73 : decode cX11_sold 73 = .ok (.invokevirtual 163, 3) := by decide +kernel
theorem dX11_sold_76 : decode cX11_sold 76 = .ok (.isub, 1) := by decide +kernel
theorem dX11_sold_77 : decode cX11_sold 77 = .ok (.ireturn, 1) := by decide +kernel
theorem dX11_image_0 : decode cX11_image 0 = .ok (.iload_n 1, 1) := by decide +kernel
theorem dX11_image_1 : decode cX11_image 1 = .ok (.invokestatic 214, 3) := by decide +kernel
theorem dX11_image_4 : decode cX11_image 4 = .ok (.ifCond .ne 6, 3) := by decide +kernel
theorem dX11_image_7 : decode cX11_image 7 = .ok (.ldc 55, 2) := by decide +kernel
theorem dX11_image_9 : decode cX11_image 9 = .ok (.ireturn, 1) := by decide +kernel
theorem dX11_image_10 : decode cX11_image 10 = .ok (.aload_n 0, 1) := by decide +kernel
theorem dX11_image_11 : decode cX11_image 11 = .ok (.getfield 25, 3) := by decide +kernel
theorem dX11_image_14 : decode cX11_image 14 = .ok (.getfield 130, 3) := by decide +kernel
theorem dX11_image_17 : decode cX11_image 17 = .ok (.ifCond .ne 6, 3) := by decide +kernel
theorem dX11_image_20 : decode cX11_image 20 = .ok (.ldc 131, 2) := by decide +kernel
theorem dX11_image_22 : decode cX11_image 22 = .ok (.ireturn, 1) := by decide +kernel
theorem dX11_image_23 : decode cX11_image 23 = .ok (.aload_n 0, 1) := by decide +kernel
theorem dX11_image_24 : decode cX11_image 24 = .ok (.getfield 32, 3) := by decide +kernel
theorem dX11_image_27 : decode cX11_image 27 = .ok (.iload_n 1, 1) := by decide +kernel
theorem dX11_image_28 : decode cX11_image 28 = .ok (.aaload, 1) := by decide +kernel
theorem dX11_image_29 : decode cX11_image 29 = .ok (.aload_n 0, 1) := by decide +kernel
theorem dX11_image_30 : decode cX11_image 30 = .ok (.getfield 25, 3) := by decide +kernel
theorem dX11_image_33 : decode cX11_image 33 = .ok (.invokevirtual 120, 3) := by decide +kernel
theorem dX11_image_36 : decode cX11_image 36 = .ok (.iconst 1, 1) := by decide +kernel
theorem dX11_image_37 : decode cX11_image 37 = .ok (.ireturn, 1) := by decide +kernel
theorem dX11_restore_0 : decode cX11_restore 0 = .ok (.iload_n 1, 1) := by decide +kernel
theorem dX11_restore_1 : decode cX11_restore 1 = .ok (.invokestatic 214, 3) := by decide +kernel
theorem dX11_restore_4 : decode cX11_restore 4 = .ok (.ifCond .ne 6, 3) := by decide +kernel
theorem dX11_restore_7 : decode cX11_restore 7 = .ok (.ldc 55, 2) := by decide +kernel
theorem dX11_restore_9 : decode cX11_restore 9 = .ok (.ireturn, 1) := by decide +kernel
theorem dX11_restore_10 : decode cX11_restore 10 = .ok (.aload_n 0, 1) := by decide +kernel
theorem dX11_restore_11 : decode cX11_restore 11 = .ok (.getfield 32, 3) := by decide +kernel
theorem dX11_restore_14 : decode cX11_restore 14 = .ok (.iload_n 1, 1) := by decide +kernel
theorem dX11_restore_15 : decode cX11_restore 15 = .ok (.aaload, 1) := by decide +kernel
theorem dX11_restore_16 : decode cX11_restore 16 = .ok (.getfield 130, 3) := by decide +kernel
theorem dX11_restore_19 : decode cX11_restore 19 = .ok (.ifCond .ne 6, 3) := by decide +kernel
theorem dX11_restore_22 : decode cX11_restore 22 = .ok (.ldc 131, 2) := by decide +kernel
theorem dX11_restore_24 : decode cX11_restore 24 = .ok (.ireturn, 1) := by decide +kernel
theorem dX11_restore_25 : decode cX11_restore 25 = .ok (.aload_n 0, 1) := by decide +kernel
theorem dX11_restore_26 : decode cX11_restore 26 = .ok (.getfield 25, 3) := by decide +kernel
theorem dX11_restore_29 : decode cX11_restore 29 = .ok (.aload_n 0, 1) := by decide +kernel
theorem dX11_restore_30 : decode cX11_restore 30 = .ok (.getfield 32, 3) := by decide +kernel
theorem dX11_restore_33 : decode cX11_restore 33 = .ok (.iload_n 1, 1) := by decide +kernel
theorem dX11_restore_34 : decode cX11_restore 34 = .ok (.aaload, 1) := by decide +kernel
theorem dX11_restore_35 : decode cX11_restore 35 = .ok (.invokevirtual 120, 3) := by decide +kernel
theorem dX11_restore_38 : decode cX11_restore 38 = .ok (.aload_n 0, 1) := by decide +kernel
theorem dX11_restore_39 : decode cX11_restore 39 = .ok (.getfield 39, 3) := by decide +kernel
theorem dX11_restore_42 : decode cX11_restore 42 = .ok (.invokevirtual 124, 3) := by decide +kernel
theorem dX11_restore_45 : decode cX11_restore 45 = .ok (.iconst 1, 1) := by decide +kernel
theorem dX11_restore_46 : decode cX11_restore 46 = .ok (.ireturn, 1) := by decide +kernel
theorem dX11_kind_0 : decode cX11_kind 0 = .ok (.aload_n 0, 1) := by decide +kernel
theorem dX11_kind_1 : decode cX11_kind 1 = .ok (.getfield 25, 3) := by decide +kernel
theorem dX11_kind_4 : decode cX11_kind 4 = .ok (.iload_n 1, 1) := by decide +kernel
theorem dX11_kind_5 : decode cX11_kind 5 = .ok (.invokevirtual 154, 3) := by decide +kernel
theorem dX11_kind_8 : decode cX11_kind 8 = .ok (.astore_n 2, 1) := by decide +kernel
theorem dX11_kind_9 : decode cX11_kind 9 = .ok (.aload_n 2, 1) := by decide +kernel
theorem dX11_kind_10 : decode cX11_kind 10 = .ok (.ifnonnull 8, 3) := by decide +kernel
theorem dX11_kind_13 : decode cX11_kind 13 = .ok (.ldc 55, 2) := by decide +kernel
theorem dX11_kind_15 : decode cX11_kind 15 = .ok (.goto 7, 3) := by decide +kernel
theorem dX11_kind_18 : decode cX11_kind 18 = .ok (.aload_n 2, 1) := by decide +kernel
theorem dX11_kind_19 : decode cX11_kind 19 = .ok (.invokevirtual 217, 3) := by decide +kernel
theorem dX11_kind_22 : decode cX11_kind 22 = .ok (.ireturn, 1) := by decide +kernel
theorem dX11_as_0 : decode cX11_as 0 = .ok (.aload_n 0, 1) := by decide +kernel
theorem dX11_as_1 : decode cX11_as 1 = .ok (.getfield 25, 3) := by decide +kernel
theorem dX11_as_4 : decode cX11_as 4 = .ok (.iload_n 1, 1) := by decide +kernel
theorem dX11_as_5 : decode cX11_as 5 = .ok (.invokevirtual 154, 3) := by decide +kernel
theorem dX11_as_8 : decode cX11_as 8 = .ok (.astore_n 3, 1) := by decide +kernel
theorem dX11_as_9 : decode cX11_as 9 = .ok (.aload_n 3, 1) := by decide +kernel
theorem dX11_as_10 : decode cX11_as 10 = .ok (.ifnull 12, 3) := by decide +kernel
theorem dX11_as_13 : decode cX11_as 13 = .ok (.iload_n 2, 1) := by decide +kernel
theorem dX11_as_14 : decode cX11_as 14 = .ok (.ifCond .lt 8, 3) := by decide +kernel
theorem dX11_as_17 : decode cX11_as 17 = .ok (.iload_n 2, 1) := by decide +kernel
theorem dX11_as_18 : decode cX11_as 18 = .ok (.iconst 5, 1) := by decide +kernel
theorem dX11_as_19 : decode cX11_as 19 = .ok (.if_icmp .le 6, 3) := by decide +kernel
theorem dX11_as_22 : decode cX11_as 22 = .ok (.ldc 55, 2) := by decide +kernel
theorem dX11_as_24 : decode cX11_as 24 = .ok (.ireturn, 1) := by decide +kernel
theorem dX11_as_25 : decode cX11_as 25 = .ok (.aload_n 3, 1) := by decide +kernel
theorem dX11_as_26 : decode cX11_as 26 = .ok (.iload_n 2, 1) := by decide +kernel
theorem dX11_as_27 : decode cX11_as 27 = .ok (.invokestatic 220, 3) := by decide +kernel
theorem dX11_as_30 : decode cX11_as 30 = .ok (.ifCond .eq 14, 3) := by decide +kernel
theorem dX11_as_33 : decode cX11_as 33 = .ok (.aload_n 0, 1) := by decide +kernel
theorem dX11_as_34 : decode cX11_as 34 = .ok (.aload_n 3, 1) := by decide +kernel
theorem dX11_as_35 : decode cX11_as 35 = .ok (.getfield 224, 3) := by decide +kernel
theorem dX11_as_38 : decode cX11_as 38 = .ok (.invokevirtual 64, 3) := by decide +kernel
theorem dX11_as_41 : decode cX11_as 41 = .ok (.goto 8, 3) := by decide +kernel
theorem dX11_as_44 : decode cX11_as 44 = .ok (.aload_n 0, 1) := by decide +kernel
theorem dX11_as_45 : decode cX11_as 45 = .ok (.iconst 3, 1) := by decide +kernel
theorem dX11_as_46 : decode cX11_as 46 = .ok (.invokevirtual 56, 3) := by decide +kernel
theorem dX11_as_49 : decode cX11_as 49 = .ok (.ireturn, 1) := by decide +kernel
theorem dX11_ask_0 : decode cX11_ask 0 = .ok (.aload_n 0, 1) := by decide +kernel
theorem dX11_ask_1 : decode cX11_ask 1 = .ok (.getfield 25, 3) := by decide +kernel
theorem dX11_ask_4 : decode cX11_ask 4 = .ok (.iload_n 1, 1) := by decide +kernel
theorem dX11_ask_5 : decode cX11_ask 5 = .ok (.invokevirtual 154, 3) := by decide +kernel
theorem dX11_ask_8 : decode cX11_ask 8 = .ok (.astore_n 3, 1) := by decide +kernel
theorem dX11_ask_9 : decode cX11_ask 9 = .ok (.aload_n 3, 1) := by decide +kernel
theorem dX11_ask_10 : decode cX11_ask 10 = .ok (.ifnull 12, 3) := by decide +kernel
theorem dX11_ask_13 : decode cX11_ask 13 = .ok (.iload_n 2, 1) := by decide +kernel
theorem dX11_ask_14 : decode cX11_ask 14 = .ok (.ifCond .lt 8, 3) := by decide +kernel
theorem dX11_ask_17 : decode cX11_ask 17 = .ok (.iload_n 2, 1) := by decide +kernel
theorem dX11_ask_18 : decode cX11_ask 18 = .ok (.iconst 1, 1) := by decide +kernel
theorem dX11_ask_19 : decode cX11_ask 19 = .ok (.if_icmp .le 6, 3) := by decide +kernel
theorem dX11_ask_22 : decode cX11_ask 22 = .ok (.ldc 55, 2) := by decide +kernel
theorem dX11_ask_24 : decode cX11_ask 24 = .ok (.ireturn, 1) := by decide +kernel
theorem dX11_ask_25 : decode cX11_ask 25 = .ok (.aload_n 0, 1) := by decide +kernel
theorem dX11_ask_26 : decode cX11_ask 26 = .ok (.getfield 46, 3) := by decide +kernel
theorem dX11_ask_29 : decode cX11_ask 29 = .ok (.aload_n 0, 1) := by decide +kernel
theorem dX11_ask_30 : decode cX11_ask 30 = .ok (.getfield 25, 3) := by decide +kernel
theorem dX11_ask_33 : decode cX11_ask 33 = .ok (.getfield 127, 3) := by decide +kernel
theorem dX11_ask_36 : decode cX11_ask 36 = .ok (.invokevirtual 227, 3) := by decide +kernel
theorem dX11_ask_39 : decode cX11_ask 39 = .ok (.iload_n 2, 1) := by decide +kernel
theorem dX11_ask_40 : decode cX11_ask 40 = .ok (.ifCond .ne 15, 3) := by decide +kernel
theorem dX11_ask_43 : decode cX11_ask 43 = .ok (.aload_n 3, 1) := by decide +kernel
theorem dX11_ask_44 : decode cX11_ask 44 = .ok (.aload_n 0, 1) := by decide +kernel
theorem dX11_ask_45 : decode cX11_ask 45 = .ok (.getfield 46, 3) := by decide +kernel
theorem dX11_ask_48 : decode cX11_ask 48 = .ok (.iconst 0, 1) := by decide +kernel
theorem dX11_ask_49 : decode cX11_ask 49 = .ok (.invokevirtual 229, 3) := by decide +kernel
theorem dX11_ask_52 : decode cX11_ask 52 = .ok (.goto 12, 3) := by decide +kernel
theorem dX11_ask_55 : decode cX11_ask 55 = .ok (.aload_n 3, 1) := by decide +kernel
theorem dX11_ask_56 : decode cX11_ask 56 = .ok (.aload_n 0, 1) := by decide +kernel
theorem dX11_ask_57 : decode cX11_ask 57 = .ok (.getfield 46, 3) := by decide +kernel
theorem dX11_ask_60 : decode cX11_ask 60 = .ok (.iconst 0, 1) := by decide +kernel
theorem dX11_ask_61 : decode cX11_ask 61 = .ok (.invokevirtual 233, 3) := by decide +kernel
theorem dX11_ask_64 : decode cX11_ask 64 = .ok (.ireturn, 1) := by decide +kernel
theorem dX11_trace_0 : decode cX11_trace 0 = .ok (.iload_n 1, 1) := by decide +kernel
theorem dX11_trace_1 : decode cX11_trace 1 = .ok (.ifCond .lt 26, 3) := by decide +kernel
theorem dX11_trace_4 : decode cX11_trace 4 = .ok (.iload_n 1, 1) := by decide +kernel
theorem dX11_trace_5 : decode cX11_trace 5 = .ok (.aload_n 0, 1) := by decide +kernel
theorem dX11_trace_6 : decode cX11_trace 6 = .ok (.getfield 46, 3) := by decide +kernel
theorem dX11_trace_9 : decode cX11_trace 9 = .ok (.getfield 236, 3) := by decide +kernel
theorem dX11_trace_12 : decode cX11_trace 12 = .ok (.if_icmp .ge 15, 3) := by decide +kernel
theorem dX11_trace_15 : decode cX11_trace 15 = .ok (.aload_n 0, 1) := by decide +kernel
theorem dX11_trace_16 : decode cX11_trace 16 = .ok (.getfield 46, 3) := by decide +kernel
theorem dX11_trace_19 : decode cX11_trace 19 = .ok (.getfield 239, 3) := by decide +kernel
theorem dX11_trace_22 : decode cX11_trace 22 = .ok (.iload_n 1, 1) := by decide +kernel
theorem dX11_trace_23 : decode cX11_trace 23 = .ok (.iaload, 1) := by decide +kernel
theorem dX11_trace_24 : decode cX11_trace 24 = .ok (.goto 5, 3) := by decide +kernel
theorem dX11_trace_27 : decode cX11_trace 27 = .ok (.ldc 242, 2) := by decide +kernel
theorem dX11_trace_29 : decode cX11_trace 29 = .ok (.ireturn, 1) := by decide +kernel
theorem dX11_count_0 : decode cX11_count 0 = .ok (.iload_n 1, 1) := by decide +kernel
theorem dX11_count_1 : decode cX11_count 1 = .ok (.tableswitch 96 0 6 #[43, 48, 56, 64, 72, 80, 88], 43) := by decide +kernel
theorem dX11_count_44 : decode cX11_count 44 = .ok (.aload_n 0, 1) := by decide +kernel
theorem dX11_count_45 : decode cX11_count 45 = .ok (.invokevirtual 243, 3) := by decide +kernel
theorem dX11_count_48 : decode cX11_count 48 = .ok (.ireturn, 1) := by decide +kernel
theorem dX11_count_49 : decode cX11_count 49 = .ok (.aload_n 0, 1) := by decide +kernel
theorem dX11_count_50 : decode cX11_count 50 = .ok (.getfield 25, 3) := by decide +kernel
theorem dX11_count_53 : decode cX11_count 53 = .ok (.getfield 246, 3) := by decide +kernel
theorem dX11_count_56 : decode cX11_count 56 = .ok (.ireturn, 1) := by decide +kernel
theorem dX11_count_57 : decode cX11_count 57 = .ok (.aload_n 0, 1) := by decide +kernel
theorem dX11_count_58 : decode cX11_count 58 = .ok (.getfield 25, 3) := by decide +kernel
theorem dX11_count_61 : decode cX11_count 61 = .ok (.getfield 127, 3) := by decide +kernel
theorem dX11_count_64 : decode cX11_count 64 = .ok (.ireturn, 1) := by decide +kernel
theorem dX11_count_65 : decode cX11_count 65 = .ok (.aload_n 0, 1) := by decide +kernel
theorem dX11_count_66 : decode cX11_count 66 = .ok (.getfield 25, 3) := by decide +kernel
theorem dX11_count_69 : decode cX11_count 69 = .ok (.getfield 249, 3) := by decide +kernel
theorem dX11_count_72 : decode cX11_count 72 = .ok (.ireturn, 1) := by decide +kernel
theorem dX11_count_73 : decode cX11_count 73 = .ok (.aload_n 0, 1) := by decide +kernel
theorem dX11_count_74 : decode cX11_count 74 = .ok (.getfield 25, 3) := by decide +kernel
theorem dX11_count_77 : decode cX11_count 77 = .ok (.getfield 252, 3) := by decide +kernel
theorem dX11_count_80 : decode cX11_count 80 = .ok (.ireturn, 1) := by decide +kernel
theorem dX11_count_81 : decode cX11_count 81 = .ok (.aload_n 0, 1) := by decide +kernel
theorem dX11_count_82 : decode cX11_count 82 = .ok (.getfield 25, 3) := by decide +kernel
theorem dX11_count_85 : decode cX11_count 85 = .ok (.getfield 255, 3) := by decide +kernel
theorem dX11_count_88 : decode cX11_count 88 = .ok (.ireturn, 1) := by decide +kernel
theorem dX11_count_89 : decode cX11_count 89 = .ok (.aload_n 0, 1) := by decide +kernel
theorem dX11_count_90 : decode cX11_count 90 = .ok (.getfield 18, 3) := by decide +kernel
theorem dX11_count_93 : decode cX11_count 93 = .ok (.getfield 258, 3) := by decide +kernel
theorem dX11_count_96 : decode cX11_count 96 = .ok (.ireturn, 1) := by decide +kernel
theorem dX11_count_97 : decode cX11_count 97 = .ok (.ldc 55, 2) := by decide +kernel
theorem dX11_count_99 : decode cX11_count 99 = .ok (.ireturn, 1) := by decide +kernel
theorem dX11_status_0 : decode cX11_status 0 = .ok (.aload_n 0, 1) := by decide +kernel
theorem dX11_status_1 : decode cX11_status 1 = .ok (.getfield 261, 3) := by decide +kernel
theorem dX11_status_4 : decode cX11_status 4 = .ok (.ireturn, 1) := by decide +kernel
theorem dX11_isRow_0 : decode cX11_isRow 0 = .ok (.iload_n 0, 1) := by decide +kernel
theorem dX11_isRow_1 : decode cX11_isRow 1 = .ok (.ifCond .lt 13, 3) := by decide +kernel
theorem dX11_isRow_4 : decode cX11_isRow 4 = .ok (.iload_n 0, 1) := by decide +kernel
theorem dX11_isRow_5 : decode cX11_isRow 5 = .ok (.bipush 8, 2) := by decide +kernel
theorem dX11_isRow_7 : decode cX11_isRow 7 = .ok (.if_icmp .ge 7, 3) := by decide +kernel
theorem dX11_isRow_10 : decode cX11_isRow 10 = .ok (.iconst 1, 1) := by decide +kernel
theorem dX11_isRow_11 : decode cX11_isRow 11 = .ok (.goto 4, 3) := by decide +kernel
theorem dX11_isRow_14 : decode cX11_isRow 14 = .ok (.iconst 0, 1) := by decide +kernel
theorem dX11_isRow_15 : decode cX11_isRow 15 = .ok (.ireturn, 1) := by decide +kernel
theorem dX11_isImage_0 : decode cX11_isImage 0 = .ok (.iload_n 0, 1) := by decide +kernel
theorem dX11_isImage_1 : decode cX11_isImage 1 = .ok (.ifCond .lt 12, 3) := by decide +kernel
theorem dX11_isImage_4 : decode cX11_isImage 4 = .ok (.iload_n 0, 1) := by decide +kernel
theorem dX11_isImage_5 : decode cX11_isImage 5 = .ok (.iconst 2, 1) := by decide +kernel
theorem dX11_isImage_6 : decode cX11_isImage 6 = .ok (.if_icmp .ge 7, 3) := by decide +kernel
theorem dX11_isImage_9 : decode cX11_isImage 9 = .ok (.iconst 1, 1) := by decide +kernel
theorem dX11_isImage_10 : decode cX11_isImage 10 = .ok (.goto 4, 3) := by decide +kernel
theorem dX11_isImage_13 : decode cX11_isImage 13 = .ok (.iconst 0, 1) := by decide +kernel
theorem dX11_isImage_14 : decode cX11_isImage 14 = .ok (.ireturn, 1) := by decide +kernel
theorem dX11_found_0 : decode cX11_found 0 = .ok (.aload_n 0, 1) := by decide +kernel
theorem dX11_found_1 : decode cX11_found 1 = .ok (.iload_n 1, 1) := by decide +kernel
theorem dX11_found_2 : decode cX11_found 2 = .ok (.putfield 261, 3) := by decide +kernel
theorem dX11_found_5 : decode cX11_found 5 = .ok (.ldc_w 264, 3) := by decide +kernel
theorem dX11_found_8 : decode cX11_found 8 = .ok (.iload_n 1, 1) := by decide +kernel
theorem dX11_found_9 : decode cX11_found 9 = .ok (.isub, 1) := by decide +kernel
theorem dX11_found_10 : decode cX11_found 10 = .ok (.ireturn, 1) := by decide +kernel
theorem dX11_passed_0 : decode cX11_passed 0 = .ok (.aload_n 0, 1) := by decide +kernel
theorem dX11_passed_1 : decode cX11_passed 1 = .ok (.iconst 0, 1) := by decide +kernel
theorem dX11_passed_2 : decode cX11_passed 2 = .ok (.putfield 261, 3) := by decide +kernel
theorem dX11_passed_5 : decode cX11_passed 5 = .ok (.iload_n 1, 1) := by decide +kernel
theorem dX11_passed_6 : decode cX11_passed 6 = .ok (.ireturn, 1) := by decide +kernel
theorem dX11_howManyRows_0 : decode cX11_howManyRows 0 = .ok (.iconst 0, 1) := by decide +kernel
theorem dX11_howManyRows_1 : decode cX11_howManyRows 1 = .ok (.istore_n 1, 1) := by decide +kernel
theorem dX11_howManyRows_2 : decode cX11_howManyRows 2 = .ok (.iconst 0, 1) := by decide +kernel
theorem dX11_howManyRows_3 : decode cX11_howManyRows 3 = .ok (.istore_n 2, 1) := by decide +kernel
theorem dX11_howManyRows_4 : decode cX11_howManyRows 4 = .ok (.iload_n 2, 1) := by decide +kernel
theorem dX11_howManyRows_5 : decode cX11_howManyRows 5 = .ok (.bipush 8, 2) := by decide +kernel
theorem dX11_howManyRows_7 : decode cX11_howManyRows 7 = .ok (.if_icmp .ge 24, 3) := by decide +kernel
theorem dX11_howManyRows_10 : decode cX11_howManyRows 10 = .ok (.aload_n 0, 1) := by decide +kernel
theorem dX11_howManyRows_11 : decode cX11_howManyRows 11 = .ok (.getfield 11, 3) := by decide +kernel
theorem dX11_howManyRows_14 : decode cX11_howManyRows 14 = .ok (.iload_n 2, 1) := by decide +kernel
theorem dX11_howManyRows_15 : decode cX11_howManyRows 15 = .ok (.aaload, 1) := by decide +kernel
theorem dX11_howManyRows_16 : decode cX11_howManyRows 16 = .ok (.getfield 67, 3) := by decide +kernel
theorem dX11_howManyRows_19 : decode cX11_howManyRows 19 = .ok (.ifCond .eq 6, 3) := by decide +kernel
theorem dX11_howManyRows_22 : decode cX11_howManyRows 22 = .ok (.iinc 1 1, 3) := by decide +kernel
theorem dX11_howManyRows_25 : decode cX11_howManyRows 25 = .ok (.iinc 2 1, 3) := by decide +kernel
theorem dX11_howManyRows_28 : decode cX11_howManyRows 28 = .ok (.goto (-24), 3) := by decide +kernel
theorem dX11_howManyRows_31 : decode cX11_howManyRows 31 = .ok (.iload_n 1, 1) := by decide +kernel
theorem dX11_howManyRows_32 : decode cX11_howManyRows 32 = .ok (.ireturn, 1) := by decide +kernel
theorem dX11_refusalToTell_0 : decode cX11_refusalToTell 0 = .ok (.aload_n 0, 1) := by decide +kernel
theorem dX11_refusalToTell_1 : decode cX11_refusalToTell 1 = .ok (.getfield 25, 3) := by decide +kernel
theorem dX11_refusalToTell_4 : decode cX11_refusalToTell 4 = .ok (.getfield 130, 3) := by decide +kernel
theorem dX11_refusalToTell_7 : decode cX11_refusalToTell 7 = .ok (.ifCond .ne 6, 3) := by decide +kernel
theorem dX11_refusalToTell_10 : decode cX11_refusalToTell 10 = .ok (.ldc 131, 2) := by decide +kernel
theorem dX11_refusalToTell_12 : decode cX11_refusalToTell 12 = .ok (.ireturn, 1) := by decide +kernel
theorem dX11_refusalToTell_13 : decode cX11_refusalToTell 13 = .ok (.iload_n 2, 1) := by decide +kernel
theorem dX11_refusalToTell_14 : decode cX11_refusalToTell 14 = .ok (.ifCond .ne 10, 3) := by decide +kernel
theorem dX11_refusalToTell_17 : decode cX11_refusalToTell 17 = .ok (.iload_n 1, 1) := by decide +kernel
theorem dX11_refusalToTell_18 : decode cX11_refusalToTell 18 = .ok (.invokestatic 51, 3) := by decide +kernel
theorem dX11_refusalToTell_21 : decode cX11_refusalToTell 21 = .ok (.ifCond .ne 6, 3) := by decide +kernel
theorem dX11_refusalToTell_24 : decode cX11_refusalToTell 24 = .ok (.ldc 55, 2) := by decide +kernel
theorem dX11_refusalToTell_26 : decode cX11_refusalToTell 26 = .ok (.ireturn, 1) := by decide +kernel
theorem dX11_refusalToTell_27 : decode cX11_refusalToTell 27 = .ok (.aload_n 0, 1) := by decide +kernel
theorem dX11_refusalToTell_28 : decode cX11_refusalToTell 28 = .ok (.getfield 11, 3) := by decide +kernel
theorem dX11_refusalToTell_31 : decode cX11_refusalToTell 31 = .ok (.iload_n 1, 1) := by decide +kernel
theorem dX11_refusalToTell_32 : decode cX11_refusalToTell 32 = .ok (.aaload, 1) := by decide +kernel
theorem dX11_refusalToTell_33 : decode cX11_refusalToTell 33 = .ok (.astore_n 3, 1) := by decide +kernel
theorem dX11_refusalToTell_34 : decode cX11_refusalToTell 34 = .ok (.aload_n 3, 1) := by decide +kernel
theorem dX11_refusalToTell_35 : decode cX11_refusalToTell 35 = .ok (.getfield 67, 3) := by decide +kernel
theorem dX11_refusalToTell_38 : decode cX11_refusalToTell 38 = .ok (.ifCond .ne 9, 3) := by decide +kernel
theorem dX11_refusalToTell_41 : decode cX11_refusalToTell 41 = .ok (.aload_n 0, 1) := by decide +kernel
theorem dX11_refusalToTell_42 : decode cX11_refusalToTell 42 = .ok (.iconst 1, 1) := by decide +kernel
theorem dX11_refusalToTell_43 : decode cX11_refusalToTell 43 = .ok (.invokevirtual 56, 3) := by decide +kernel
theorem dX11_refusalToTell_46 : decode cX11_refusalToTell 46 = .ok (.ireturn, 1) := by decide +kernel
theorem dX11_refusalToTell_47 : decode cX11_refusalToTell 47 = .ok (.aload_n 3, 1) := by decide +kernel
theorem dX11_refusalToTell_48 : decode cX11_refusalToTell 48 = .ok (.getfield 71, 3) := by decide +kernel
theorem dX11_refusalToTell_51 : decode cX11_refusalToTell 51 = .ok (.aload_n 0, 1) := by decide +kernel
theorem dX11_refusalToTell_52 : decode cX11_refusalToTell 52 = .ok (.getfield 25, 3) := by decide +kernel
theorem dX11_refusalToTell_55 : decode cX11_refusalToTell 55 = .ok (.getfield 127, 3) := by decide +kernel
theorem dX11_refusalToTell_58 : decode cX11_refusalToTell 58 = .ok (.if_icmp .ge 9, 3) := by decide +kernel
theorem dX11_refusalToTell_61 : decode cX11_refusalToTell 61 = .ok (.aload_n 0, 1) := by decide +kernel
theorem dX11_refusalToTell_62 : decode cX11_refusalToTell 62 = .ok (.iconst 2, 1) := by decide +kernel
theorem dX11_refusalToTell_63 : decode cX11_refusalToTell 63 = .ok (.invokevirtual 56, 3) := by decide +kernel
theorem dX11_refusalToTell_66 : decode cX11_refusalToTell 66 = .ok (.ireturn, 1) := by decide +kernel
theorem dX11_refusalToTell_67 : decode cX11_refusalToTell 67 = .ok (.iconst 0, 1) := by decide +kernel
theorem dX11_refusalToTell_68 : decode cX11_refusalToTell 68 = .ok (.istore 4, 2) := by decide +kernel
theorem dX11_refusalToTell_70 : decode cX11_refusalToTell 70 = .ok (.iload 4, 2) := by decide +kernel
theorem dX11_refusalToTell_72 : decode cX11_refusalToTell 72 = .ok (.aload_n 0, 1) := by decide +kernel
theorem dX11_refusalToTell_73 : decode cX11_refusalToTell 73 = .ok (.getfield 25, 3) := by decide +kernel
theorem dX11_refusalToTell_76 : decode cX11_refusalToTell 76 = .ok (.getfield 127, 3) := by decide +kernel
theorem dX11_refusalToTell_79 : decode cX11_refusalToTell 79 = .ok (.if_icmp .ge 23, 3) := by decide +kernel
theorem dX11_refusalToTell_82 : decode cX11_refusalToTell 82 = .ok (.aload_n 3, 1) := by decide +kernel
theorem dX11_refusalToTell_83 : decode cX11_refusalToTell 83 = .ok (.getfield 75, 3) := by decide +kernel
theorem dX11_refusalToTell_86 : decode cX11_refusalToTell 86 = .ok (.iload 4, 2) := by decide +kernel
theorem dX11_refusalToTell_88 : decode cX11_refusalToTell 88 = .ok (.iaload, 1) := by decide +kernel
theorem dX11_refusalToTell_89 : decode cX11_refusalToTell 89 = .ok (.iconst (-1), 1) := by decide +kernel
theorem dX11_refusalToTell_90 : decode cX11_refusalToTell 90 = .ok (.if_icmp .ge 6, 3) := by decide +kernel
theorem dX11_refusalToTell_93 : decode cX11_refusalToTell 93 = .ok (.ldc 55, 2) := by decide +kernel
theorem dX11_refusalToTell_95 : decode cX11_refusalToTell 95 = .ok (.ireturn, 1) := by decide +kernel
theorem dX11_refusalToTell_96 : decode cX11_refusalToTell 96 = .ok (.iinc 4 1, 3) := by decide +kernel
theorem dX11_refusalToTell_99 : decode cX11_refusalToTell 99 = .ok (.goto (-29), 3) := by decide +kernel
theorem dX11_refusalToTell_102 : decode cX11_refusalToTell 102 = .ok (.iconst 0, 1) := by decide +kernel
theorem dX11_refusalToTell_103 : decode cX11_refusalToTell 103 = .ok (.ireturn, 1) := by decide +kernel
theorem dX11_isOfKind_0 : decode cX11_isOfKind 0 = .ok (.iload_n 1, 1) := by decide +kernel
theorem dX11_isOfKind_1 : decode cX11_isOfKind 1 = .ok (.tableswitch 66 0 5 #[39, 41, 46, 51, 56, 61], 39) := by decide +kernel
theorem dX11_isOfKind_40 : decode cX11_isOfKind 40 = .ok (.iconst 1, 1) := by decide +kernel
theorem dX11_isOfKind_41 : decode cX11_isOfKind 41 = .ok (.ireturn, 1) := by decide +kernel
theorem dX11_isOfKind_42 : decode cX11_isOfKind 42 = .ok (.aload_n 0, 1) := by decide +kernel
theorem dX11_isOfKind_43 : decode cX11_isOfKind 43 = .ok (.instanceof 265, 3) := by decide +kernel
theorem dX11_isOfKind_46 : decode cX11_isOfKind 46 = .ok (.ireturn, 1) := by decide +kernel
theorem dX11_isOfKind_47 : decode cX11_isOfKind 47 = .ok (.aload_n 0, 1) := by decide +kernel
theorem dX11_isOfKind_48 : decode cX11_isOfKind 48 = .ok (.instanceof 267, 3) := by decide +kernel
theorem dX11_isOfKind_51 : decode cX11_isOfKind 51 = .ok (.ireturn, 1) := by decide +kernel
theorem dX11_isOfKind_52 : decode cX11_isOfKind 52 = .ok (.aload_n 0, 1) := by decide +kernel
theorem dX11_isOfKind_53 : decode cX11_isOfKind 53 = .ok (.instanceof 269, 3) := by decide +kernel
theorem dX11_isOfKind_56 : decode cX11_isOfKind 56 = .ok (.ireturn, 1) := by decide +kernel
theorem dX11_isOfKind_57 : decode cX11_isOfKind 57 = .ok (.aload_n 0, 1) := by decide +kernel
theorem dX11_isOfKind_58 : decode cX11_isOfKind 58 = .ok (.instanceof 271, 3) := by decide +kernel
theorem dX11_isOfKind_61 : decode cX11_isOfKind 61 = .ok (.ireturn, 1) := by decide +kernel
theorem dX11_isOfKind_62 : decode cX11_isOfKind 62 = .ok (.aload_n 0, 1) := by decide +kernel
theorem dX11_isOfKind_63 : decode cX11_isOfKind 63 = .ok (.instanceof 273, 3) := by decide +kernel
theorem dX11_isOfKind_66 : decode cX11_isOfKind 66 = .ok (.ireturn, 1) := by decide +kernel
theorem dX11_isOfKind_67 : decode cX11_isOfKind 67 = .ok (.iconst 0, 1) := by decide +kernel
theorem dX11_isOfKind_68 : decode cX11_isOfKind 68 = .ok (.ireturn, 1) := by decide +kernel
