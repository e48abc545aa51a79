theorem dX12_init_0 : decode cX12_init 0 = .ok (.aload_n 0, 1) := by decide +kernel
theorem dX12_init_1 : decode cX12_init 1 = .ok (.invokespecial 1, 3) := by decide +kernel
theorem dX12_init_4 : decode cX12_init 4 = .ok (.aload_n 0, 1) := by decide +kernel
theorem dX12_init_5 : decode cX12_init 5 = .ok (.bipush 8, 2) := by decide +kernel
theorem dX12_init_7 : decode cX12_init 7 = .ok (.newarray .int, 2) := by decide +kernel
theorem dX12_init_9 : decode cX12_init 9 = .ok (.dup, 1) := by decide +kernel
theorem dX12_init_10 : decode cX12_init 10 = .ok (.iconst 0, 1) := by decide +kernel
theorem dX12_init_11 : decode cX12_init 11 = .ok (.iconst (-1), 1) := by decide +kernel
theorem dX12_init_12 : decode cX12_init 12 = .ok (.iastore, 1) := by decide +kernel
theorem dX12_init_13 : decode cX12_init 13 = .ok (.dup, 1) := by decide +kernel
theorem dX12_init_14 : decode cX12_init 14 = .ok (.iconst 1, 1) := by decide +kernel
theorem dX12_init_15 : decode cX12_init 15 = .ok (.iconst (-1), 1) := by decide +kernel
theorem dX12_init_16 : decode cX12_init 16 = .ok (.iastore, 1) := by decide +kernel
theorem dX12_init_17 : decode cX12_init 17 = .ok (.dup, 1) := by decide +kernel
theorem dX12_init_18 : decode cX12_init 18 = .ok (.iconst 2, 1) := by decide +kernel
theorem dX12_init_19 : decode cX12_init 19 = .ok (.iconst (-1), 1) := by decide +kernel
theorem dX12_init_20 : decode cX12_init 20 = .ok (.iastore, 1) := by decide +kernel
theorem dX12_init_21 : decode cX12_init 21 = .ok (.dup, 1) := by decide +kernel
theorem dX12_init_22 : decode cX12_init 22 = .ok (.iconst 3, 1) := by decide +kernel
theorem dX12_init_23 : decode cX12_init 23 = .ok (.iconst (-1), 1) := by decide +kernel
theorem dX12_init_24 : decode cX12_init 24 = .ok (.iastore, 1) := by decide +kernel
theorem dX12_init_25 : decode cX12_init 25 = .ok (.dup, 1) := by decide +kernel
theorem dX12_init_26 : decode cX12_init 26 = .ok (.iconst 4, 1) := by decide +kernel
theorem dX12_init_27 : decode cX12_init 27 = .ok (.iconst (-1), 1) := by decide +kernel
theorem dX12_init_28 : decode cX12_init 28 = .ok (.iastore, 1) := by decide +kernel
theorem dX12_init_29 : decode cX12_init 29 = .ok (.dup, 1) := by decide +kernel
theorem dX12_init_30 : decode cX12_init 30 = .ok (.iconst 5, 1) := by decide +kernel
theorem dX12_init_31 : decode cX12_init 31 = .ok (.iconst (-1), 1) := by decide +kernel
theorem dX12_init_32 : decode cX12_init 32 = .ok (.iastore, 1) := by decide +kernel
theorem dX12_init_33 : decode cX12_init 33 = .ok (.dup, 1) := by decide +kernel
theorem dX12_init_34 : decode cX12_init 34 = .ok (.bipush 6, 2) := by decide +kernel
theorem dX12_init_36 : decode cX12_init 36 = .ok (.iconst (-1), 1) := by decide +kernel
theorem dX12_init_37 : decode cX12_init 37 = .ok (.iastore, 1) := by decide +kernel
theorem dX12_init_38 : decode cX12_init 38 = .ok (.dup, 1) := by decide +kernel
theorem dX12_init_39 : decode cX12_init 39 = .ok (.bipush 7, 2) := by decide +kernel
theorem dX12_init_41 : decode cX12_init 41 = .ok (.iconst (-1), 1) := by decide +kernel
theorem dX12_init_42 : decode cX12_init 42 = .ok (.iastore, 1) := by decide +kernel
theorem dX12_init_43 : decode cX12_init 43 = .ok (.putfield 7, 3) := by decide +kernel
theorem dX12_init_46 : decode cX12_init 46 = .ok (.aload_n 0, 1) := by decide +kernel
theorem dX12_init_47 : decode cX12_init 47 = .ok (.bipush 8, 2) := by decide +kernel
theorem dX12_init_49 : decode cX12_init 49 = .ok (.newarray .int, 2) := by decide +kernel
theorem dX12_init_51 : decode cX12_init 51 = .ok (.putfield 13, 3) := by decide +kernel
theorem dX12_init_54 : decode cX12_init 54 = .ok (.aload_n 0, 1) := by decide +kernel
theorem dX12_init_55 : decode cX12_init 55 = .ok (.sipush 320, 3) := by decide +kernel
theorem dX12_init_58 : decode cX12_init 58 = .ok (.newarray .int, 2) := by decide +kernel
theorem dX12_init_60 : decode cX12_init 60 = .ok (.putfield 16, 3) := by decide +kernel
theorem dX12_init_63 : decode cX12_init 63 = .ok (.aload_n 0, 1) := by decide +kernel
theorem dX12_init_64 : decode cX12_init 64 = .ok (.bipush 39, 2) := by decide +kernel
theorem dX12_init_66 : decode cX12_init 66 = .ok (.newarray .int, 2) := by decide +kernel
theorem dX12_init_68 : decode cX12_init 68 = .ok (.putfield 19, 3) := by decide +kernel
theorem dX12_init_71 : decode cX12_init 71 = .ok (.aload_n 0, 1) := by decide +kernel
theorem dX12_init_72 : decode cX12_init 72 = .ok (.bipush 39, 2) := by decide +kernel
theorem dX12_init_74 : decode cX12_init 74 = .ok (.newarray .int, 2) := by decide +kernel
theorem dX12_init_76 : decode cX12_init 76 = .ok (.putfield 22, 3) := by decide +kernel
theorem dX12_init_79 : decode cX12_init 79 = .ok (.aload_n 0, 1) := by decide +kernel
theorem dX12_init_80 : decode cX12_init 80 = .ok (.sipush 400, 3) := by decide +kernel
theorem dX12_init_83 : decode cX12_init 83 = .ok (.newarray .int, 2) := by decide +kernel
theorem dX12_init_85 : decode cX12_init 85 = .ok (.putfield 25, 3) := by decide +kernel
theorem dX12_init_88 : decode cX12_init 88 = .ok (.aload_n 0, 1) := by decide +kernel
theorem dX12_init_89 : decode cX12_init 89 = .ok (.iconst 4, 1) := by decide +kernel
theorem dX12_init_90 : decode cX12_init 90 = .ok (.newarray .int, 2) := by decide +kernel
theorem dX12_init_92 : decode cX12_init 92 = .ok (.putfield 28, 3) := by decide +kernel
theorem dX12_init_95 : decode cX12_init 95 = .ok (.aload_n 0, 1) := by decide +kernel
theorem dX12_init_96 : decode cX12_init 96 = .ok (.sipush 4096, 3) := by decide +kernel
theorem dX12_init_99 : decode cX12_init 99 = .ok (.newarray .int, 2) := by decide +kernel
theorem dX12_init_101 : decode cX12_init 101 = .ok (.putfield 31, 3) := by decide +kernel
theorem dX12_init_104 : decode cX12_init 104 = .ok (.aload_n 0, 1) := by decide +kernel
theorem dX12_init_105 : decode cX12_init 105 = .ok (.bipush 26, 2) := by decide +kernel
theorem dX12_init_107 : decode cX12_init 107 = .ok (.newarray .int, 2) := by decide +kernel
theorem dX12_init_109 : decode cX12_init 109 = .ok (.putfield 34, 3) := by decide +kernel
theorem dX12_init_112 : decode cX12_init 112 = .ok (.aload_n 0, 1) := by decide +kernel
theorem dX12_init_113 : decode cX12_init 113 = .ok (.iconst 2, 1) := by decide +kernel
theorem dX12_init_114 : decode cX12_init 114 = .ok (.newarray .boolean, 2) := by decide +kernel
theorem dX12_init_116 : decode cX12_init 116 = .ok (.putfield 37, 3) := by decide +kernel
theorem dX12_init_119 : decode cX12_init 119 = .ok (.aload_n 0, 1) := by decide +kernel
theorem dX12_init_120 : decode cX12_init 120 = .ok (.bipush 78, 2) := by decide +kernel
theorem dX12_init_122 : decode cX12_init 122 = .ok (.newarray .int, 2) := by decide +kernel
theorem dX12_init_124 : decode cX12_init 124 = .ok (.putfield 41, 3) := by decide +kernel
theorem dX12_init_127 : decode cX12_init 127 = .ok (.aload_n 0, 1) := by decide +kernel
theorem dX12_init_128 : decode cX12_init 128 = .ok (.bipush 16, 2) := by decide +kernel
theorem dX12_init_130 : decode cX12_init 130 = .ok (.newarray .int, 2) := by decide +kernel
theorem dX12_init_132 : decode cX12_init 132 = .ok (.putfield 44, 3) := by decide +kernel
theorem dX12_init_135 : decode cX12_init 135 = .ok (.return_, 1) := by decide +kernel
theorem dX12_in_0 : decode cX12_in 0 = .ok (.lload_n 0, 1) := by decide +kernel
theorem dX12_in_1 : decode cX12_in 1 = .ok (.lload_n 2, 1) := by decide +kernel
theorem dX12_in_2 : decode cX12_in 2 = .ok (.lcmp, 1) := by decide +kernel
theorem dX12_in_3 : decode cX12_in 3 = .ok (.ifCond .lt 14, 3) := by decide +kernel
theorem dX12_in_6 : decode cX12_in 6 = .ok (.lload_n 0, 1) := by decide +kernel
theorem dX12_in_7 : decode cX12_in 7 = .ok (.lload 4, 2) := by decide +kernel
theorem dX12_in_9 : decode cX12_in 9 = .ok (.lcmp, 1) := by decide +kernel
theorem dX12_in_10 : decode cX12_in 10 = .ok (.ifCond .gt 7, 3) := by decide +kernel
theorem dX12_in_13 : decode cX12_in 13 = .ok (.iconst 1, 1) := by decide +kernel
theorem dX12_in_14 : decode cX12_in 14 = .ok (.goto 4, 3) := by decide +kernel
theorem dX12_in_17 : decode cX12_in 17 = .ok (.iconst 0, 1) := by decide +kernel
theorem dX12_in_18 : decode cX12_in 18 = .ok (.ireturn, 1) := by decide +kernel
theorem dX12_finding_0 : decode cX12_finding 0 = .ok (.aload_n 0, 1) := by decide +kernel
theorem dX12_finding_1 : decode cX12_finding 1 = .ok (.iload_n 1, 1) := by decide +kernel
theorem dX12_finding_2 : decode cX12_finding 2 = .ok (.putfield 51, 3) := by decide +kernel
theorem dX12_finding_5 : decode cX12_finding 5 = .ok (.ldc 54, 2) := by decide +kernel
theorem dX12_finding_7 : decode cX12_finding 7 = .ok (.iload_n 1, 1) := by decide +kernel
theorem dX12_finding_8 : decode cX12_finding 8 = .ok (.isub, 1) := by decide +kernel
theorem dX12_finding_9 : decode cX12_finding 9 = .ok (.ireturn, 1) := by decide +kernel
theorem dX12_isRow_0 : decode cX12_isRow 0 = .ok (.iload_n 0, 1) := by decide +kernel
theorem dX12_isRow_1 : decode cX12_isRow 1 = .ok (.i2l, 1) := by decide +kernel
theorem dX12_isRow_2 : decode cX12_isRow 2 = .ok (.lconst 0, 1) := by decide +kernel
theorem dX12_isRow_3 : decode cX12_isRow 3 = .ok (.ldc2_w 55, 3) := by decide +kernel
theorem dX12_isRow_6 : decode cX12_isRow 6 = .ok (.invokestatic 57, 3) := by decide +kernel
theorem dX12_isRow_9 : decode cX12_isRow 9 = .ok (.ireturn, 1) := by decide +kernel
theorem dX12_row_0 : decode cX12_row 0 = .ok (.aload_n 0, 1) := by decide +kernel
theorem dX12_row_1 : decode cX12_row 1 = .ok (.iconst 0, 1) := by decide +kernel
theorem dX12_row_2 : decode cX12_row 2 = .ok (.putfield 47, 3) := by decide +kernel
theorem dX12_row_5 : decode cX12_row 5 = .ok (.iload_n 1, 1) := by decide +kernel
theorem dX12_row_6 : decode cX12_row 6 = .ok (.invokestatic 61, 3) := by decide +kernel
theorem dX12_row_9 : decode cX12_row 9 = .ok (.ifCond .eq 21, 3) := by decide +kernel
theorem dX12_row_12 : decode cX12_row 12 = .ok (.iload_n 2, 1) := by decide +kernel
theorem dX12_row_13 : decode cX12_row 13 = .ok (.i2l, 1) := by decide +kernel
theorem dX12_row_14 : decode cX12_row 14 = .ok (.lconst 0, 1) := by decide +kernel
theorem dX12_row_15 : decode cX12_row 15 = .ok (.ldc2_w 65, 3) := by decide +kernel
theorem dX12_row_18 : decode cX12_row 18 = .ok (.invokestatic 57, 3) := by decide +kernel
theorem dX12_row_21 : decode cX12_row 21 = .ok (.ifCond .eq 9, 3) := by decide +kernel
theorem dX12_row_24 : decode cX12_row 24 = .ok (.iload_n 3, 1) := by decide +kernel
theorem dX12_row_25 : decode cX12_row 25 = .ok (.bipush 40, 2) := by decide +kernel
theorem dX12_row_27 : decode cX12_row 27 = .ok (.if_icmp .le 6, 3) := by decide +kernel
theorem dX12_row_30 : decode cX12_row 30 = .ok (.ldc 67, 2) := by decide +kernel
theorem dX12_row_32 : decode cX12_row 32 = .ok (.ireturn, 1) := by decide +kernel
theorem dX12_row_33 : decode cX12_row 33 = .ok (.aload_n 0, 1) := by decide +kernel
theorem dX12_row_34 : decode cX12_row 34 = .ok (.iconst 0, 1) := by decide +kernel
theorem dX12_row_35 : decode cX12_row 35 = .ok (.putfield 51, 3) := by decide +kernel
theorem dX12_row_38 : decode cX12_row 38 = .ok (.iload_n 3, 1) := by decide +kernel
theorem dX12_row_39 : decode cX12_row 39 = .ok (.ifCond .ge 9, 3) := by decide +kernel
theorem dX12_row_42 : decode cX12_row 42 = .ok (.aload_n 0, 1) := by decide +kernel
theorem dX12_row_43 : decode cX12_row 43 = .ok (.iconst 4, 1) := by decide +kernel
theorem dX12_row_44 : decode cX12_row 44 = .ok (.invokevirtual 68, 3) := by decide +kernel
theorem dX12_row_47 : decode cX12_row 47 = .ok (.ireturn, 1) := by decide +kernel
theorem dX12_row_48 : decode cX12_row 48 = .ok (.aload_n 0, 1) := by decide +kernel
theorem dX12_row_49 : decode cX12_row 49 = .ok (.getfield 7, 3) := by decide +kernel
theorem dX12_row_52 : decode cX12_row 52 = .ok (.iload_n 1, 1) := by decide +kernel
theorem dX12_row_53 : decode cX12_row 53 = .ok (.iload_n 2, 1) := by decide +kernel
theorem dX12_row_54 : decode cX12_row 54 = .ok (.iastore, 1) := by decide +kernel
theorem dX12_row_55 : decode cX12_row 55 = .ok (.aload_n 0, 1) := by decide +kernel
theorem dX12_row_56 : decode cX12_row 56 = .ok (.getfield 13, 3) := by decide +kernel
theorem dX12_row_59 : decode cX12_row 59 = .ok (.iload_n 1, 1) := by decide +kernel
theorem dX12_row_60 : decode cX12_row 60 = .ok (.iload_n 3, 1) := by decide +kernel
theorem dX12_row_61 : decode cX12_row 61 = .ok (.iastore, 1) := by decide +kernel
theorem dX12_row_62 : decode cX12_row 62 = .ok (.iconst 0, 1) := by decide +kernel
theorem dX12_row_63 : decode cX12_row 63 = .ok (.istore 4, 2) := by decide +kernel
theorem dX12_row_65 : decode cX12_row 65 = .ok (.iload 4, 2) := by decide +kernel
theorem dX12_row_67 : decode cX12_row 67 = .ok (.bipush 40, 2) := by decide +kernel
theorem dX12_row_69 : decode cX12_row 69 = .ok (.if_icmp .ge 22, 3) := by decide +kernel
theorem dX12_row_72 : decode cX12_row 72 = .ok (.aload_n 0, 1) := by decide +kernel
theorem dX12_row_73 : decode cX12_row 73 = .ok (.getfield 16, 3) := by decide +kernel
theorem dX12_row_76 : decode cX12_row 76 = .ok (.bipush 40, 2) := by decide +kernel
theorem dX12_row_78 : decode cX12_row 78 = .ok (.iload_n 1, 1) := by decide +kernel
theorem dX12_row_79 : decode cX12_row 79 = .ok (.imul, 1) := by decide +kernel
theorem dX12_row_80 : decode cX12_row 80 = .ok (.iload 4, 2) := by decide +kernel
theorem dX12_row_82 : decode cX12_row 82 = .ok (.iadd, 1) := by decide +kernel
theorem dX12_row_83 : decode cX12_row 83 = .ok (.iconst 0, 1) := by decide +kernel
theorem dX12_row_84 : decode cX12_row 84 = .ok (.iastore, 1) := by decide +kernel
theorem dX12_row_85 : decode cX12_row 85 = .ok (.iinc 4 1, 3) := by decide +kernel
theorem dX12_row_88 : decode cX12_row 88 = .ok (.goto (-23), 3) := by decide +kernel
theorem dX12_row_91 : decode cX12_row 91 = .ok (.iload_n 3, 1) := by decide +kernel
theorem dX12_row_92 : decode cX12_row 92 = .ok (.ireturn, 1) := by decide +kernel
theorem dX12_set_0 : decode cX12_set 0 = .ok (.aload_n 0, 1) := by decide +kernel
theorem dX12_set_1 : decode cX12_set 1 = .ok (.iconst 0, 1) := by decide +kernel
theorem dX12_set_2 : decode cX12_set 2 = .ok (.putfield 47, 3) := by decide +kernel
theorem dX12_set_5 : decode cX12_set 5 = .ok (.iload_n 1, 1) := by decide +kernel
theorem dX12_set_6 : decode cX12_set 6 = .ok (.invokestatic 61, 3) := by decide +kernel
theorem dX12_set_9 : decode cX12_set 9 = .ok (.ifCond .ne 6, 3) := by decide +kernel
theorem dX12_set_12 : decode cX12_set 12 = .ok (.ldc 67, 2) := by decide +kernel
theorem dX12_set_14 : decode cX12_set 14 = .ok (.ireturn, 1) := by decide +kernel
theorem dX12_set_15 : decode cX12_set 15 = .ok (.aload_n 0, 1) := by decide +kernel
theorem dX12_set_16 : decode cX12_set 16 = .ok (.iconst 0, 1) := by decide +kernel
theorem dX12_set_17 : decode cX12_set 17 = .ok (.putfield 51, 3) := by decide +kernel
theorem dX12_set_20 : decode cX12_set 20 = .ok (.aload_n 0, 1) := by decide +kernel
theorem dX12_set_21 : decode cX12_set 21 = .ok (.getfield 7, 3) := by decide +kernel
theorem dX12_set_24 : decode cX12_set 24 = .ok (.iload_n 1, 1) := by decide +kernel
theorem dX12_set_25 : decode cX12_set 25 = .ok (.iaload, 1) := by decide +kernel
theorem dX12_set_26 : decode cX12_set 26 = .ok (.ifCond .ge 9, 3) := by decide +kernel
theorem dX12_set_29 : decode cX12_set 29 = .ok (.aload_n 0, 1) := by decide +kernel
theorem dX12_set_30 : decode cX12_set 30 = .ok (.iconst 1, 1) := by decide +kernel
theorem dX12_set_31 : decode cX12_set 31 = .ok (.invokevirtual 68, 3) := by decide +kernel
theorem dX12_set_34 : decode cX12_set 34 = .ok (.ireturn, 1) := by decide +kernel
theorem dX12_set_35 : decode cX12_set 35 = .ok (.iload_n 2, 1) := by decide +kernel
theorem dX12_set_36 : decode cX12_set 36 = .ok (.i2l, 1) := by decide +kernel
theorem dX12_set_37 : decode cX12_set 37 = .ok (.lconst 0, 1) := by decide +kernel
theorem dX12_set_38 : decode cX12_set 38 = .ok (.aload_n 0, 1) := by decide +kernel
theorem dX12_set_39 : decode cX12_set 39 = .ok (.getfield 13, 3) := by decide +kernel
theorem dX12_set_42 : decode cX12_set 42 = .ok (.iload_n 1, 1) := by decide +kernel
theorem dX12_set_43 : decode cX12_set 43 = .ok (.iaload, 1) := by decide +kernel
theorem dX12_set_44 : decode cX12_set 44 = .ok (.iconst 1, 1) := by decide +kernel
theorem dX12_set_45 : decode cX12_set 45 = .ok (.isub, 1) := by decide +kernel
theorem dX12_set_46 : decode cX12_set 46 = .ok (.i2l, 1) := by decide +kernel
theorem dX12_set_47 : decode cX12_set 47 = .ok (.invokestatic 57, 3) := by decide +kernel
theorem dX12_set_50 : decode cX12_set 50 = .ok (.ifCond .ne 9, 3) := by decide +kernel
theorem dX12_set_53 : decode cX12_set 53 = .ok (.aload_n 0, 1) := by decide +kernel
theorem dX12_set_54 : decode cX12_set 54 = .ok (.iconst 2, 1) := by decide +kernel
theorem dX12_set_55 : decode cX12_set 55 = .ok (.invokevirtual 68, 3) := by decide +kernel
theorem dX12_set_58 : decode cX12_set 58 = .ok (.ireturn, 1) := by decide +kernel
theorem dX12_set_59 : decode cX12_set 59 = .ok (.aload_n 0, 1) := by decide +kernel
theorem dX12_set_60 : decode cX12_set 60 = .ok (.getfield 16, 3) := by decide +kernel
theorem dX12_set_63 : decode cX12_set 63 = .ok (.bipush 40, 2) := by decide +kernel
theorem dX12_set_65 : decode cX12_set 65 = .ok (.iload_n 1, 1) := by decide +kernel
theorem dX12_set_66 : decode cX12_set 66 = .ok (.imul, 1) := by decide +kernel
theorem dX12_set_67 : decode cX12_set 67 = .ok (.iload_n 2, 1) := by decide +kernel
theorem dX12_set_68 : decode cX12_set 68 = .ok (.iadd, 1) := by decide +kernel
theorem dX12_set_69 : decode cX12_set 69 = .ok (.aload_n 0, 1) := by decide +kernel
theorem dX12_set_70 : decode cX12_set 70 = .ok (.getfield 7, 3) := by decide +kernel
theorem dX12_set_73 : decode cX12_set 73 = .ok (.iload_n 1, 1) := by decide +kernel
theorem dX12_set_74 : decode cX12_set 74 = .ok (.iaload, 1) := by decide +kernel
theorem dX12_set_75 : decode cX12_set 75 = .ok (.ifCond .ne 8, 3) := by decide +kernel
theorem dX12_set_78 : decode cX12_set 78 = .ok (.iload_n 3, 1) := by decide +kernel
theorem dX12_set_79 : decode cX12_set 79 = .ok (.i2b, 1) := by decide +kernel
theorem dX12_set_80 : decode cX12_set 80 = .ok (.goto 19, 3) := by decide +kernel
theorem dX12_set_83 : decode cX12_set 83 = .ok (.aload_n 0, 1) := by decide +kernel
theorem dX12_set_84 : decode cX12_set 84 = .ok (.getfield 7, 3) := by decide +kernel
theorem dX12_set_87 : decode cX12_set 87 = .ok (.iload_n 1, 1) := by decide +kernel
theorem dX12_set_88 : decode cX12_set 88 = .ok (.iaload, 1) := by decide +kernel
theorem dX12_set_89 : decode cX12_set 89 = .ok (.iconst 1, 1) := by decide +kernel
theorem dX12_set_90 : decode cX12_set 90 = .ok (.if_icmp .ne 8, 3) := by decide +kernel
theorem dX12_set_93 : decode cX12_set 93 = .ok (.iload_n 3, 1) := by decide +kernel
theorem dX12_set_94 : decode cX12_set 94 = .ok (.i2s, 1) := by decide +kernel
theorem dX12_set_95 : decode cX12_set 95 = .ok (.goto 4, 3) := by decide +kernel
theorem dX12_set_98 : decode cX12_set 98 = .ok (.iload_n 3, 1) := by decide +kernel
theorem dX12_set_99 : decode cX12_set 99 = .ok (.iastore, 1) := by decide +kernel
theorem dX12_set_100 : decode cX12_set 100 = .ok (.aload_n 0, 1) := by decide +kernel
theorem dX12_set_101 : decode cX12_set 101 = .ok (.getfield 16, 3) := by decide +kernel
theorem dX12_set_104 : decode cX12_set 104 = .ok (.bipush 40, 2) := by decide +kernel
theorem dX12_set_106 : decode cX12_set 106 = .ok (.iload_n 1, 1) := by decide +kernel
theorem dX12_set_107 : decode cX12_set 107 = .ok (.imul, 1) := by decide +kernel
theorem dX12_set_108 : decode cX12_set 108 = .ok (.iload_n 2, 1) := by decide +kernel
theorem dX12_set_109 : decode cX12_set 109 = .ok (.iadd, 1) := by decide +kernel
theorem dX12_set_110 : decode cX12_set 110 = .ok (.iaload, 1) := by decide +kernel
theorem dX12_set_111 : decode cX12_set 111 = .ok (.ireturn, 1) := by decide +kernel
theorem dX12_copy_0 : decode cX12_copy 0 = .ok (.aload_n 0, 1) := by decide +kernel
theorem dX12_copy_1 : decode cX12_copy 1 = .ok (.iconst 0, 1) := by decide +kernel
theorem dX12_copy_2 : decode cX12_copy 2 = .ok (.putfield 47, 3) := by decide +kernel
theorem dX12_copy_5 : decode cX12_copy 5 = .ok (.iload_n 1, 1) := by decide +kernel
theorem dX12_copy_6 : decode cX12_copy 6 = .ok (.invokestatic 61, 3) := by decide +kernel
theorem dX12_copy_9 : decode cX12_copy 9 = .ok (.ifCond .eq 10, 3) := by decide +kernel
theorem dX12_copy_12 : decode cX12_copy 12 = .ok (.iload_n 3, 1) := by decide +kernel
theorem dX12_copy_13 : decode cX12_copy 13 = .ok (.invokestatic 61, 3) := by decide +kernel
theorem dX12_copy_16 : decode cX12_copy 16 = .ok (.ifCond .ne 6, 3) := by decide +kernel
theorem dX12_copy_19 : decode cX12_copy 19 = .ok (.ldc 67, 2) := by decide +kernel
theorem dX12_copy_21 : decode cX12_copy 21 = .ok (.ireturn, 1) := by decide +kernel
theorem dX12_copy_22 : decode cX12_copy 22 = .ok (.aload_n 0, 1) := by decide +kernel
theorem dX12_copy_23 : decode cX12_copy 23 = .ok (.iconst 0, 1) := by decide +kernel
theorem dX12_copy_24 : decode cX12_copy 24 = .ok (.putfield 51, 3) := by decide +kernel
theorem dX12_copy_27 : decode cX12_copy 27 = .ok (.aload_n 0, 1) := by decide +kernel
theorem dX12_copy_28 : decode cX12_copy 28 = .ok (.getfield 7, 3) := by decide +kernel
theorem dX12_copy_31 : decode cX12_copy 31 = .ok (.iload_n 1, 1) := by decide +kernel
theorem dX12_copy_32 : decode cX12_copy 32 = .ok (.iaload, 1) := by decide +kernel
theorem dX12_copy_33 : decode cX12_copy 33 = .ok (.ifCond .lt 12, 3) := by decide +kernel
theorem dX12_copy_36 : decode cX12_copy 36 = .ok (.aload_n 0, 1) := by decide +kernel
theorem dX12_copy_37 : decode cX12_copy 37 = .ok (.getfield 7, 3) := by decide +kernel
theorem dX12_copy_40 : decode cX12_copy 40 = .ok (.iload_n 3, 1) := by decide +kernel
theorem dX12_copy_41 : decode cX12_copy 41 = .ok (.iaload, 1) := by decide +kernel
theorem dX12_copy_42 : decode cX12_copy 42 = .ok (.ifCond .ge 9, 3) := by decide +kernel
theorem dX12_copy_45 : decode cX12_copy 45 = .ok (.aload_n 0, 1) := by decide +kernel
theorem dX12_copy_46 : decode cX12_copy 46 = .ok (.iconst 1, 1) := by decide +kernel
theorem dX12_copy_47 : decode cX12_copy 47 = .ok (.invokevirtual 68, 3) := by decide +kernel
theorem dX12_copy_50 : decode cX12_copy 50 = .ok (.ireturn, 1) := by decide +kernel
theorem dX12_copy_51 : decode cX12_copy 51 = .ok (.aload_n 0, 1) := by decide +kernel
theorem dX12_copy_52 : decode cX12_copy 52 = .ok (.getfield 7, 3) := by decide +kernel
theorem dX12_copy_55 : decode cX12_copy 55 = .ok (.iload_n 1, 1) := by decide +kernel
theorem dX12_copy_56 : decode cX12_copy 56 = .ok (.iaload, 1) := by decide +kernel
theorem dX12_copy_57 : decode cX12_copy 57 = .ok (.aload_n 0, 1) := by decide +kernel
theorem dX12_copy_58 : decode cX12_copy 58 = .ok (.getfield 7, 3) := by decide +kernel
theorem dX12_copy_61 : decode cX12_copy 61 = .ok (.iload_n 3, 1) := by decide +kernel
theorem dX12_copy_62 : decode cX12_copy 62 = .ok (.iaload, 1) := by decide +kernel
theorem dX12_copy_63 : decode cX12_copy 63 = .ok (.if_icmp .eq 9, 3) := by decide +kernel
theorem dX12_copy_66 : decode cX12_copy 66 = .ok (.aload_n 0, 1) := by decide +kernel
theorem dX12_copy_67 : decode cX12_copy 67 = .ok (.iconst 5, 1) := by decide +kernel
theorem dX12_copy_68 : decode cX12_copy 68 = .ok (.invokevirtual 68, 3) := by decide +kernel
theorem dX12_copy_71 : decode cX12_copy 71 = .ok (.ireturn, 1) := by decide +kernel
theorem dX12_copy_72 : decode cX12_copy 72 = .ok (.iload_n 2, 1) := by decide +kernel
theorem dX12_copy_73 : decode cX12_copy 73 = .ok (.ifCond .lt 48, 3) := by decide +kernel
theorem dX12_copy_76 : decode cX12_copy 76 = .ok (.iload 4, 2) := by decide +kernel
theorem dX12_copy_78 : decode cX12_copy 78 = .ok (.ifCond .lt 43, 3) := by decide +kernel
theorem dX12_copy_81 : decode cX12_copy 81 = .ok (.iload 5, 2) := by decide +kernel
theorem dX12_copy_83 : decode cX12_copy 83 = .ok (.ifCond .lt 38, 3) := by decide +kernel
theorem dX12_copy_86 : decode cX12_copy 86 = .ok (.iload_n 2, 1) := by decide +kernel
theorem dX12_copy_87 : decode cX12_copy 87 = .ok (.i2l, 1) := by decide +kernel
theorem dX12_copy_88 : decode cX12_copy 88 = .ok (.iload 5, 2) := by decide +kernel
theorem dX12_copy_90 : decode cX12_copy 90 = .ok (.i2l, 1) := by decide +kernel
theorem dX12_copy_91 : decode cX12_copy 91 = .ok (.ladd, 1) := by decide +kernel
theorem dX12_copy_92 : decode cX12_copy 92 = .ok (.aload_n 0, 1) := by decide +kernel
theorem dX12_copy_93 : decode cX12_copy 93 = .ok (.getfield 13, 3) := by decide +kernel
theorem dX12_copy_96 : decode cX12_copy 96 = .ok (.iload_n 1, 1) := by decide +kernel
theorem dX12_copy_97 : decode cX12_copy 97 = .ok (.iaload, 1) := by decide +kernel
theorem dX12_copy_98 : decode cX12_copy 98 = .ok (.i2l, 1) := by decide +kernel
theorem dX12_copy_99 : decode cX12_copy 99 = .ok (.lcmp, 1) := by decide +kernel
theorem dX12_copy_100 : decode cX12_copy 100 = .ok (.ifCond .gt 21, 3) := by decide +kernel
theorem dX12_copy_103 : decode cX12_copy 103 = .ok (.iload 4, 2) := by decide +kernel
theorem dX12_copy_105 : decode cX12_copy 105 = .ok (.i2l, 1) := by decide +kernel
theorem dX12_copy_106 : decode cX12_copy 106 = .ok (.iload 5, 2) := by decide +kernel
theorem dX12_copy_108 : decode cX12_copy 108 = .ok (.i2l, 1) := by decide +kernel
theorem dX12_copy_109 : decode cX12_copy 109 = .ok (.ladd, 1) := by decide +kernel
theorem dX12_copy_110 : decode cX12_copy 110 = .ok (.aload_n 0, 1) := by decide +kernel
theorem dX12_copy_111 : decode cX12_copy 111 = .ok (.getfield 13, 3) := by decide +kernel
theorem dX12_copy_114 : decode cX12_copy 114 = .ok (.iload_n 3, 1) := by decide +kernel
theorem dX12_copy_115 : decode cX12_copy 115 = .ok (.iaload, 1) := by decide +kernel
theorem dX12_copy_116 : decode cX12_copy 116 = .ok (.i2l, 1) := by decide +kernel
theorem dX12_copy_117 : decode cX12_copy 117 = .ok (.lcmp, 1) := by decide +kernel
theorem dX12_copy_118 : decode cX12_copy 118 = .ok (.ifCond .le 9, 3) := by decide +kernel
theorem dX12_copy_121 : decode cX12_copy 121 = .ok (.aload_n 0, 1) := by decide +kernel
theorem dX12_copy_122 : decode cX12_copy 122 = .ok (.iconst 2, 1) := by decide +kernel
theorem dX12_copy_123 : decode cX12_copy 123 = .ok (.invokevirtual 68, 3) := by decide +kernel
theorem dX12_copy_126 : decode cX12_copy 126 = .ok (.ireturn, 1) := by decide +kernel
theorem dX12_copy_127 : decode cX12_copy 127 = .ok (.iload_n 2, 1) := by decide +kernel
theorem dX12_copy_128 : decode cX12_copy 128 = .ok (.iload 4, 2) := by decide +kernel
theorem dX12_copy_130 : decode cX12_copy 130 = .ok (.if_icmp .lt 7, 3) := by decide +kernel
theorem dX12_copy_133 : decode cX12_copy 133 = .ok (.iconst 1, 1) := by decide +kernel
theorem dX12_copy_134 : decode cX12_copy 134 = .ok (.goto 4, 3) := by decide +kernel
theorem dX12_copy_137 : decode cX12_copy 137 = .ok (.iconst 0, 1) := by decide +kernel
theorem dX12_copy_138 : decode cX12_copy 138 = .ok (.istore 6, 2) := by decide +kernel
theorem dX12_copy_140 : decode cX12_copy 140 = .ok (.iconst 0, 1) := by decide +kernel
theorem dX12_copy_141 : decode cX12_copy 141 = .ok (.istore 7, 2) := by decide +kernel
theorem dX12_copy_143 : decode cX12_copy 143 = .ok (.iload 7, 2) := by decide +kernel
theorem dX12_copy_145 : decode cX12_copy 145 = .ok (.iload 5, 2) := by decide +kernel
theorem dX12_copy_147 : decode cX12_copy 147 = .ok (.if_icmp .ge 57, 3) := by decide +kernel
theorem dX12_copy_150 : decode cX12_copy 150 = .ok (.iload 6, 2) := by decide +kernel
theorem dX12_copy_152 : decode cX12_copy 152 = .ok (.ifCond .eq 8, 3) := by decide +kernel
theorem dX12_copy_155 : decode cX12_copy 155 = .ok (.iload 7, 2) := by decide +kernel
theorem dX12_copy_157 : decode cX12_copy 157 = .ok (.goto 10, 3) := by decide +kernel
theorem dX12_copy_160 : decode cX12_copy 160 = .ok (.iload 5, 2) := by decide +kernel
theorem dX12_copy_162 : decode cX12_copy 162 = .ok (.iconst 1, 1) := by decide +kernel
theorem dX12_copy_163 : decode cX12_copy 163 = .ok (.isub, 1) := by decide +kernel
theorem dX12_copy_164 : decode cX12_copy 164 = .ok (.iload 7, 2) := by decide +kernel
theorem dX12_copy_166 : decode cX12_copy 166 = .ok (.isub, 1) := by decide +kernel
theorem dX12_copy_167 : decode cX12_copy 167 = .ok (.istore 8, 2) := by decide +kernel
theorem dX12_copy_169 : decode cX12_copy 169 = .ok (.aload_n 0, 1) := by decide +kernel
theorem dX12_copy_170 : decode cX12_copy 170 = .ok (.getfield 16, 3) := by decide +kernel
theorem dX12_copy_173 : decode cX12_copy 173 = .ok (.bipush 40, 2) := by decide +kernel
theorem dX12_copy_175 : decode cX12_copy 175 = .ok (.iload_n 3, 1) := by decide +kernel
theorem dX12_copy_176 : decode cX12_copy 176 = .ok (.imul, 1) := by decide +kernel
theorem dX12_copy_177 : decode cX12_copy 177 = .ok (.iload 4, 2) := by decide +kernel
theorem dX12_copy_179 : decode cX12_copy 179 = .ok (.iadd, 1) := by decide +kernel
theorem dX12_copy_180 : decode cX12_copy 180 = .ok (.iload 8, 2) := by decide +kernel
theorem dX12_copy_182 : decode cX12_copy 182 = .ok (.iadd, 1) := by decide +kernel
theorem dX12_copy_183 : decode cX12_copy 183 = .ok (.aload_n 0, 1) := by decide +kernel
theorem dX12_copy_184 : decode cX12_copy 184 = .ok (.getfield 16, 3) := by decide +kernel
theorem dX12_copy_187 : decode cX12_copy 187 = .ok (.bipush 40, 2) := by decide +kernel
theorem dX12_copy_189 : decode cX12_copy 189 = .ok (.iload_n 1, 1) := by decide +kernel
theorem dX12_copy_190 : decode cX12_copy 190 = .ok (.imul, 1) := by decide +kernel
theorem dX12_copy_191 : decode cX12_copy 191 = .ok (.iload_n 2, 1) := by decide +kernel
theorem dX12_copy_192 : decode cX12_copy 192 = .ok (.iadd, 1) := by decide +kernel
theorem dX12_copy_193 : decode cX12_copy 193 = .ok (.iload 8, 2) := by decide +kernel
theorem dX12_copy_195 : decode cX12_copy 195 = .ok (.iadd, 1) := by decide +kernel
theorem dX12_copy_196 : decode cX12_copy 196 = .ok (.iaload, 1) := by decide +kernel
theorem dX12_copy_197 : decode cX12_copy 197 = .ok (.iastore, 1) := by decide +kernel
theorem dX12_copy_198 : decode cX12_copy 198 = .ok (.iinc 7 1, 3) := by decide +kernel
theorem dX12_copy_201 : decode cX12_copy 201 = .ok (.goto (-58), 3) := by decide +kernel
theorem dX12_copy_204 : decode cX12_copy 204 = .ok (.iload 5, 2) := by decide +kernel
theorem dX12_copy_206 : decode cX12_copy 206 = .ok (.ireturn, 1) := by decide +kernel
theorem dX12_drop_0 : decode cX12_drop 0 = .ok (.aload_n 0, 1) := by decide +kernel
theorem dX12_drop_1 : decode cX12_drop 1 = .ok (.iconst 0, 1) := by decide +kernel
theorem dX12_drop_2 : decode cX12_drop 2 = .ok (.putfield 47, 3) := by decide +kernel
theorem dX12_drop_5 : decode cX12_drop 5 = .ok (.iload_n 1, 1) := by decide +kernel
theorem dX12_drop_6 : decode cX12_drop 6 = .ok (.invokestatic 61, 3) := by decide +kernel
theorem dX12_drop_9 : decode cX12_drop 9 = .ok (.ifCond .ne 6, 3) := by decide +kernel
theorem dX12_drop_12 : decode cX12_drop 12 = .ok (.ldc 67, 2) := by decide +kernel
theorem dX12_drop_14 : decode cX12_drop 14 = .ok (.ireturn, 1) := by decide +kernel
theorem dX12_drop_15 : decode cX12_drop 15 = .ok (.aload_n 0, 1) := by decide +kernel
theorem dX12_drop_16 : decode cX12_drop 16 = .ok (.iconst 0, 1) := by decide +kernel
theorem dX12_drop_17 : decode cX12_drop 17 = .ok (.putfield 51, 3) := by decide +kernel
theorem dX12_drop_20 : decode cX12_drop 20 = .ok (.aload_n 0, 1) := by decide +kernel
theorem dX12_drop_21 : decode cX12_drop 21 = .ok (.getfield 7, 3) := by decide +kernel
theorem dX12_drop_24 : decode cX12_drop 24 = .ok (.iload_n 1, 1) := by decide +kernel
theorem dX12_drop_25 : decode cX12_drop 25 = .ok (.iaload, 1) := by decide +kernel
theorem dX12_drop_26 : decode cX12_drop 26 = .ok (.ifCond .ge 9, 3) := by decide +kernel
theorem dX12_drop_29 : decode cX12_drop 29 = .ok (.aload_n 0, 1) := by decide +kernel
theorem dX12_drop_30 : decode cX12_drop 30 = .ok (.iconst 1, 1) := by decide +kernel
theorem dX12_drop_31 : decode cX12_drop 31 = .ok (.invokevirtual 68, 3) := by decide +kernel
theorem dX12_drop_34 : decode cX12_drop 34 = .ok (.ireturn, 1) := by decide +kernel
theorem dX12_drop_35 : decode cX12_drop 35 = .ok (.aload_n 0, 1) := by decide +kernel
theorem dX12_drop_36 : decode cX12_drop 36 = .ok (.getfield 7, 3) := by decide +kernel
theorem dX12_drop_39 : decode cX12_drop 39 = .ok (.iload_n 1, 1) := by decide +kernel
theorem dX12_drop_40 : decode cX12_drop 40 = .ok (.iconst (-1), 1) := by decide +kernel
theorem dX12_drop_41 : decode cX12_drop 41 = .ok (.iastore, 1) := by decide +kernel
theorem dX12_drop_42 : decode cX12_drop 42 = .ok (.aload_n 0, 1) := by decide +kernel
theorem dX12_drop_43 : decode cX12_drop 43 = .ok (.getfield 13, 3) := by decide +kernel
theorem dX12_drop_46 : decode cX12_drop 46 = .ok (.iload_n 1, 1) := by decide +kernel
theorem dX12_drop_47 : decode cX12_drop 47 = .ok (.iaload, 1) := by decide +kernel
theorem dX12_drop_48 : decode cX12_drop 48 = .ok (.ireturn, 1) := by decide +kernel
theorem dX12_feed_0 : decode cX12_feed 0 = .ok (.aload_n 0, 1) := by decide +kernel
theorem dX12_feed_1 : decode cX12_feed 1 = .ok (.iconst 0, 1) := by decide +kernel
theorem dX12_feed_2 : decode cX12_feed 2 = .ok (.putfield 47, 3) := by decide +kernel
theorem dX12_feed_5 : decode cX12_feed 5 = .ok (.iload_n 3, 1) := by decide +kernel
theorem dX12_feed_6 : decode cX12_feed 6 = .ok (.i2l, 1) := by decide +kernel
theorem dX12_feed_7 : decode cX12_feed 7 = .ok (.lconst 1, 1) := by decide +kernel
theorem dX12_feed_8 : decode cX12_feed 8 = .ok (.ldc2_w 72, 3) := by decide +kernel
theorem dX12_feed_11 : decode cX12_feed 11 = .ok (.invokestatic 57, 3) := by decide +kernel
theorem dX12_feed_14 : decode cX12_feed 14 = .ok (.ifCond .ne 6, 3) := by decide +kernel
theorem dX12_feed_17 : decode cX12_feed 17 = .ok (.ldc 67, 2) := by decide +kernel
theorem dX12_feed_19 : decode cX12_feed 19 = .ok (.ireturn, 1) := by decide +kernel
theorem dX12_feed_20 : decode cX12_feed 20 = .ok (.aload_n 0, 1) := by decide +kernel
theorem dX12_feed_21 : decode cX12_feed 21 = .ok (.getfield 74, 3) := by decide +kernel
theorem dX12_feed_24 : decode cX12_feed 24 = .ok (.iload_n 3, 1) := by decide +kernel
theorem dX12_feed_25 : decode cX12_feed 25 = .ok (.iadd, 1) := by decide +kernel
theorem dX12_feed_26 : decode cX12_feed 26 = .ok (.sipush 400, 3) := by decide +kernel
theorem dX12_feed_29 : decode cX12_feed 29 = .ok (.if_icmp .le 6, 3) := by decide +kernel
theorem dX12_feed_32 : decode cX12_feed 32 = .ok (.ldc 77, 2) := by decide +kernel
theorem dX12_feed_34 : decode cX12_feed 34 = .ok (.ireturn, 1) := by decide +kernel
theorem dX12_feed_35 : decode cX12_feed 35 = .ok (.iload_n 3, 1) := by decide +kernel
theorem dX12_feed_36 : decode cX12_feed 36 = .ok (.iconst 1, 1) := by decide +kernel
theorem dX12_feed_37 : decode cX12_feed 37 = .ok (.isub, 1) := by decide +kernel
theorem dX12_feed_38 : decode cX12_feed 38 = .ok (.istore 4, 2) := by decide +kernel
theorem dX12_feed_40 : decode cX12_feed 40 = .ok (.iload 4, 2) := by decide +kernel
theorem dX12_feed_42 : decode cX12_feed 42 = .ok (.ifCond .lt 40, 3) := by decide +kernel
theorem dX12_feed_45 : decode cX12_feed 45 = .ok (.aload_n 0, 1) := by decide +kernel
theorem dX12_feed_46 : decode cX12_feed 46 = .ok (.getfield 25, 3) := by decide +kernel
theorem dX12_feed_49 : decode cX12_feed 49 = .ok (.aload_n 0, 1) := by decide +kernel
theorem dX12_feed_50 : decode cX12_feed 50 = .ok (.getfield 74, 3) := by decide +kernel
theorem dX12_feed_53 : decode cX12_feed 53 = .ok (.lload_n 1, 1) := by decide +kernel
theorem dX12_feed_54 : decode cX12_feed 54 = .ok (.bipush 8, 2) := by decide +kernel
theorem dX12_feed_56 : decode cX12_feed 56 = .ok (.iload 4, 2) := by decide +kernel
theorem dX12_feed_58 : decode cX12_feed 58 = .ok (.imul, 1) := by decide +kernel
theorem dX12_feed_59 : decode cX12_feed 59 = .ok (.lshr, 1) := by decide +kernel
theorem dX12_feed_60 : decode cX12_feed 60 = .ok (.ldc2_w 78, 3) := by decide +kernel
theorem dX12_feed_63 : decode cX12_feed 63 = .ok (.land, 1) := by decide +kernel
theorem dX12_feed_64 : decode cX12_feed 64 = .ok (.l2i, 1) := by decide +kernel
theorem dX12_feed_65 : decode cX12_feed 65 = .ok (.iastore, 1) := by decide +kernel
theorem dX12_feed_66 : decode cX12_feed 66 = .ok (.aload_n 0, 1) := by decide +kernel
theorem dX12_feed_67 : decode cX12_feed 67 = .ok (.dup, 1) := by decide +kernel
theorem dX12_feed_68 : decode cX12_feed 68 = .ok (.getfield 74, 3) := by decide +kernel
theorem dX12_feed_71 : decode cX12_feed 71 = .ok (.iconst 1, 1) := by decide +kernel
theorem dX12_feed_72 : decode cX12_feed 72 = .ok (.iadd, 1) := by decide +kernel
theorem dX12_feed_73 : decode cX12_feed 73 = .ok (.putfield 74, 3) := by decide +kernel
theorem dX12_feed_76 : decode cX12_feed 76 = .ok (.iinc 4 (-1), 3) := by decide +kernel
theorem dX12_feed_79 : decode cX12_feed 79 = .ok (.goto (-39), 3) := by decide +kernel
theorem dX12_feed_82 : decode cX12_feed 82 = .ok (.aload_n 0, 1) := by decide +kernel
theorem dX12_feed_83 : decode cX12_feed 83 = .ok (.getfield 74, 3) := by decide +kernel
theorem dX12_feed_86 : decode cX12_feed 86 = .ok (.ireturn, 1) := by decide +kernel
theorem dX12_byteAt_0 : decode cX12_byteAt 0 = .ok (.iload_n 1, 1) := by decide +kernel
theorem dX12_byteAt_1 : decode cX12_byteAt 1 = .ok (.aload_n 0, 1) := by decide +kernel
theorem dX12_byteAt_2 : decode cX12_byteAt 2 = .ok (.getfield 80, 3) := by decide +kernel
theorem dX12_byteAt_5 : decode cX12_byteAt 5 = .ok (.if_icmp .ge 12, 3) := by decide +kernel
theorem dX12_byteAt_8 : decode cX12_byteAt 8 = .ok (.aload_n 0, 1) := by decide +kernel
theorem dX12_byteAt_9 : decode cX12_byteAt 9 = .ok (.getfield 25, 3) := by decide +kernel
theorem dX12_byteAt_12 : decode cX12_byteAt 12 = .ok (.iload_n 1, 1) := by decide +kernel
theorem dX12_byteAt_13 : decode cX12_byteAt 13 = .ok (.iaload, 1) := by decide +kernel
theorem dX12_byteAt_14 : decode cX12_byteAt 14 = .ok (.goto 5, 3) := by decide +kernel
theorem dX12_byteAt_17 : decode cX12_byteAt 17 = .ok (.ldc 83, 2) := by decide +kernel
theorem dX12_byteAt_19 : decode cX12_byteAt 19 = .ok (.ireturn, 1) := by decide +kernel
theorem dX12_isLetter_0 : decode cX12_isLetter 0 = .ok (.iload_n 0, 1) := by decide +kernel
theorem dX12_isLetter_1 : decode cX12_isLetter 1 = .ok (.bipush 97, 2) := by decide +kernel
theorem dX12_isLetter_3 : decode cX12_isLetter 3 = .ok (.if_icmp .lt 13, 3) := by decide +kernel
theorem dX12_isLetter_6 : decode cX12_isLetter 6 = .ok (.iload_n 0, 1) := by decide +kernel
theorem dX12_isLetter_7 : decode cX12_isLetter 7 = .ok (.bipush 122, 2) := by decide +kernel
theorem dX12_isLetter_9 : decode cX12_isLetter 9 = .ok (.if_icmp .gt 7, 3) := by decide +kernel
theorem dX12_isLetter_12 : decode cX12_isLetter 12 = .ok (.iconst 1, 1) := by decide +kernel
theorem dX12_isLetter_13 : decode cX12_isLetter 13 = .ok (.goto 4, 3) := by decide +kernel
theorem dX12_isLetter_16 : decode cX12_isLetter 16 = .ok (.iconst 0, 1) := by decide +kernel
theorem dX12_isLetter_17 : decode cX12_isLetter 17 = .ok (.ireturn, 1) := by decide +kernel
theorem dX12_isFigure_0 : decode cX12_isFigure 0 = .ok (.iload_n 0, 1) := by decide +kernel
theorem dX12_isFigure_1 : decode cX12_isFigure 1 = .ok (.bipush 48, 2) := by decide +kernel
theorem dX12_isFigure_3 : decode cX12_isFigure 3 = .ok (.if_icmp .lt 13, 3) := by decide +kernel
theorem dX12_isFigure_6 : decode cX12_isFigure 6 = .ok (.iload_n 0, 1) := by decide +kernel
theorem dX12_isFigure_7 : decode cX12_isFigure 7 = .ok (.bipush 57, 2) := by decide +kernel
theorem dX12_isFigure_9 : decode cX12_isFigure 9 = .ok (.if_icmp .gt 7, 3) := by decide +kernel
theorem dX12_isFigure_12 : decode cX12_isFigure 12 = .ok (.iconst 1, 1) := by decide +kernel
theorem dX12_isFigure_13 : decode cX12_isFigure 13 = .ok (.goto 4, 3) := by decide +kernel
theorem dX12_isFigure_16 : decode cX12_isFigure 16 = .ok (.iconst 0, 1) := by decide +kernel
theorem dX12_isFigure_17 : decode cX12_isFigure 17 = .ok (.ireturn, 1) := by decide +kernel
theorem dX12_nextToken_0 : decode cX12_nextToken 0 = .ok (.aload_n 0, 1) := by decide +kernel
theorem dX12_nextToken_1 : decode cX12_nextToken 1 = .ok (.aload_n 0, 1) := by decide +kernel
theorem dX12_nextToken_2 : decode cX12_nextToken 2 = .ok (.getfield 84, 3) := by decide +kernel
theorem dX12_nextToken_5 : decode cX12_nextToken 5 = .ok (.invokevirtual 87, 3) := by decide +kernel
theorem dX12_nextToken_8 : decode cX12_nextToken 8 = .ok (.bipush 32, 2) := by decide +kernel
theorem dX12_nextToken_10 : decode cX12_nextToken 10 = .ok (.if_icmp .eq 16, 3) := by decide +kernel
theorem dX12_nextToken_13 : decode cX12_nextToken 13 = .ok (.aload_n 0, 1) := by decide +kernel
theorem dX12_nextToken_14 : decode cX12_nextToken 14 = .ok (.aload_n 0, 1) := by decide +kernel
theorem dX12_nextToken_15 : decode cX12_nextToken 15 = .ok (.getfield 84, 3) := by decide +kernel
theorem dX12_nextToken_18 : decode cX12_nextToken 18 = .ok (.invokevirtual 87, 3) := by decide +kernel
theorem dX12_nextToken_21 : decode cX12_nextToken 21 = .ok (.bipush 10, 2) := by decide +kernel
theorem dX12_nextToken_23 : decode cX12_nextToken 23 = .ok (.if_icmp .ne 16, 3) := by decide +kernel
theorem dX12_nextToken_26 : decode cX12_nextToken 26 = .ok (.aload_n 0, 1) := by decide +kernel
theorem dX12_nextToken_27 : decode cX12_nextToken 27 = .ok (.dup, 1) := by decide +kernel
theorem dX12_nextToken_28 : decode cX12_nextToken 28 = .ok (.getfield 84, 3) := by decide +kernel
theorem dX12_nextToken_31 : decode cX12_nextToken 31 = .ok (.iconst 1, 1) := by decide +kernel
theorem dX12_nextToken_32 : decode cX12_nextToken 32 = .ok (.iadd, 1) := by decide +kernel
theorem dX12_nextToken_33 : decode cX12_nextToken 33 = .ok (.putfield 84, 3) := by decide +kernel
theorem dX12_nextToken_36 : decode cX12_nextToken 36 = .ok (.goto (-36), 3) := by decide +kernel
theorem dX12_nextToken_39 : decode cX12_nextToken 39 = .ok (.aload_n 0, 1) := by decide +kernel
theorem dX12_nextToken_40 : decode cX12_nextToken 40 = .ok (.aload_n 0, 1) := by decide +kernel
theorem dX12_nextToken_41 : decode cX12_nextToken 41 = .ok (.getfield 84, 3) := by decide +kernel
theorem dX12_nextToken_44 : decode cX12_nextToken 44 = .ok (.putfield 90, 3) := by decide +kernel
theorem dX12_nextToken_47 : decode cX12_nextToken 47 = .ok (.aload_n 0, 1) := by decide +kernel
theorem dX12_nextToken_48 : decode cX12_nextToken 48 = .ok (.aload_n 0, 1) := by decide +kernel
theorem dX12_nextToken_49 : decode cX12_nextToken 49 = .ok (.getfield 84, 3) := by decide +kernel
theorem dX12_nextToken_52 : decode cX12_nextToken 52 = .ok (.invokevirtual 87, 3) := by decide +kernel
theorem dX12_nextToken_55 : decode cX12_nextToken 55 = .ok (.istore_n 1, 1) := by decide +kernel
theorem dX12_nextToken_56 : decode cX12_nextToken 56 = .ok (.iload_n 1, 1) := by decide +kernel
theorem dX12_nextToken_57 : decode cX12_nextToken 57 = .ok (.ldc 83, 2) := by decide +kernel
theorem dX12_nextToken_59 : decode cX12_nextToken 59 = .ok (.if_icmp .ne 11, 3) := by decide +kernel
theorem dX12_nextToken_62 : decode cX12_nextToken 62 = .ok (.aload_n 0, 1) := by decide +kernel
theorem dX12_nextToken_63 : decode cX12_nextToken 63 = .ok (.iconst 1, 1) := by decide +kernel
theorem dX12_nextToken_64 : decode cX12_nextToken 64 = .ok (.putfield 93, 3) := by decide +kernel
theorem dX12_nextToken_67 : decode cX12_nextToken 67 = .ok (.goto 129, 3) := by decide +kernel
theorem dX12_nextToken_70 : decode cX12_nextToken 70 = .ok (.iload_n 1, 1) := by decide +kernel
theorem dX12_nextToken_71 : decode cX12_nextToken 71 = .ok (.invokestatic 96, 3) := by decide +kernel
theorem dX12_nextToken_74 : decode cX12_nextToken 74 = .ok (.ifCond .eq 38, 3) := by decide +kernel
theorem dX12_nextToken_77 : decode cX12_nextToken 77 = .ok (.aload_n 0, 1) := by decide +kernel
theorem dX12_nextToken_78 : decode cX12_nextToken 78 = .ok (.aload_n 0, 1) := by decide +kernel
theorem dX12_nextToken_79 : decode cX12_nextToken 79 = .ok (.getfield 84, 3) := by decide +kernel
theorem dX12_nextToken_82 : decode cX12_nextToken 82 = .ok (.invokevirtual 87, 3) := by decide +kernel
theorem dX12_nextToken_85 : decode cX12_nextToken 85 = .ok (.invokestatic 96, 3) := by decide +kernel
theorem dX12_nextToken_88 : decode cX12_nextToken 88 = .ok (.ifCond .eq 16, 3) := by decide +kernel
theorem dX12_nextToken_91 : decode cX12_nextToken 91 = .ok (.aload_n 0, 1) := by decide +kernel
theorem dX12_nextToken_92 : decode cX12_nextToken 92 = .ok (.dup, 1) := by decide +kernel
theorem dX12_nextToken_93 : decode cX12_nextToken 93 = .ok (.getfield 84, 3) := by decide +kernel
theorem dX12_nextToken_96 : decode cX12_nextToken 96 = .ok (.iconst 1, 1) := by decide +kernel
theorem dX12_nextToken_97 : decode cX12_nextToken 97 = .ok (.iadd, 1) := by decide +kernel
theorem dX12_nextToken_98 : decode cX12_nextToken 98 = .ok (.putfield 84, 3) := by decide +kernel
theorem dX12_nextToken_101 : decode cX12_nextToken 101 = .ok (.goto (-24), 3) := by decide +kernel
theorem dX12_nextToken_104 : decode cX12_nextToken 104 = .ok (.aload_n 0, 1) := by decide +kernel
theorem dX12_nextToken_105 : decode cX12_nextToken 105 = .ok (.iconst 2, 1) := by decide +kernel
theorem dX12_nextToken_106 : decode cX12_nextToken 106 = .ok (.putfield 93, 3) := by decide +kernel
theorem dX12_nextToken_109 : decode cX12_nextToken 109 = .ok (.goto 87, 3) := by decide +kernel
theorem dX12_nextToken_112 : decode cX12_nextToken 112 = .ok (.iload_n 1, 1) := by decide +kernel
theorem dX12_nextToken_113 : decode cX12_nextToken 113 = .ok (.invokestatic 99, 3) := by decide +kernel
theorem dX12_nextToken_116 : decode cX12_nextToken 116 = .ok (.ifCond .eq 55, 3) := by decide +kernel
theorem dX12_nextToken_119 : decode cX12_nextToken 119 = .ok (.aload_n 0, 1) := by decide +kernel
theorem dX12_nextToken_120 : decode cX12_nextToken 120 = .ok (.aload_n 0, 1) := by decide +kernel
theorem dX12_nextToken_121 : decode cX12_nextToken 121 = .ok (.getfield 84, 3) := by decide +kernel
theorem dX12_nextToken_124 : decode cX12_nextToken 124 = .ok (.invokevirtual 87, 3) := by decide +kernel
theorem dX12_nextToken_127 : decode cX12_nextToken 127 = .ok (.invokestatic 99, 3) := by decide +kernel
theorem dX12_nextToken_130 : decode cX12_nextToken 130 = .ok (.ifCond .eq 16, 3) := by decide +kernel
theorem dX12_nextToken_133 : decode cX12_nextToken 133 = .ok (.aload_n 0, 1) := by decide +kernel
theorem dX12_nextToken_134 : decode cX12_nextToken 134 = .ok (.dup, 1) := by decide +kernel
theorem dX12_nextToken_135 : decode cX12_nextToken 135 = .ok (.getfield 84, 3) := by decide +kernel
theorem dX12_nextToken_138 : decode cX12_nextToken 138 = .ok (.iconst 1, 1) := by decide +kernel
theorem dX12_nextToken_139 : decode cX12_nextToken 139 = .ok (.iadd, 1) := by decide +kernel
theorem dX12_nextToken_140 : decode cX12_nextToken 140 = .ok (.putfield 84, 3) := by decide +kernel
theorem dX12_nextToken_143 : decode cX12_nextToken 143 = .ok (.goto (-24), 3) := by decide +kernel
theorem dX12_nextToken_146 : decode cX12_nextToken 146 = .ok (.aload_n 0, 1) := by decide +kernel
theorem dX12_nextToken_147 : decode cX12_nextToken 147 = .ok (.aload_n 0, 1) := by decide +kernel
theorem dX12_nextToken_148 : decode cX12_nextToken 148 = .ok (.getfield 84, 3) := by decide +kernel
theorem dX12_nextToken_151 : decode cX12_nextToken 151 = .ok (.aload_n 0, 1) := by decide +kernel
theorem dX12_nextToken_152 : decode cX12_nextToken 152 = .ok (.getfield 90, 3) := by decide +kernel
theorem dX12_nextToken_155 : decode cX12_nextToken 155 = .ok (.isub, 1) := by decide +kernel
theorem dX12_nextToken_156 : decode cX12_nextToken 156 = .ok (.iconst 3, 1) := by decide +kernel
theorem dX12_nextToken_157 : decode cX12_nextToken 157 = .ok (.if_icmp .le 7, 3) := by decide +kernel
theorem dX12_nextToken_160 : decode cX12_nextToken 160 = .ok (.iconst 0, 1) := by decide +kernel
theorem dX12_nextToken_161 : decode cX12_nextToken 161 = .ok (.goto 4, 3) := by decide +kernel
theorem dX12_nextToken_164 : decode cX12_nextToken 164 = .ok (.iconst 3, 1) := by decide +kernel
theorem dX12_nextToken_165 : decode cX12_nextToken 165 = .ok (.putfield 93, 3) := by decide +kernel
theorem dX12_nextToken_168 : decode cX12_nextToken 168 = .ok (.goto 28, 3) := by decide +kernel
theorem dX12_nextToken_171 : decode cX12_nextToken 171 = .ok (.aload_n 0, 1) := by decide +kernel
theorem dX12_nextToken_172 : decode cX12_nextToken 172 = .ok (.dup, 1) := by decide +kernel
theorem dX12_nextToken_173 : decode cX12_nextToken 173 = .ok (.getfield 84, 3) := by decide +kernel
theorem dX12_nextToken_176 : decode cX12_nextToken 176 = .ok (.iconst 1, 1) := by decide +kernel
theorem dX12_nextToken_177 : decode cX12_nextToken 177 = .ok (.iadd, 1) := by decide +kernel
theorem dX12_nextToken_178 : decode cX12_nextToken 178 = .ok (.putfield 84, 3) := by decide +kernel
theorem dX12_nextToken_181 : decode cX12_nextToken 181 = .ok (.aload_n 0, 1) := by decide +kernel
theorem dX12_nextToken_182 : decode cX12_nextToken 182 = .ok (.iload_n 1, 1) := by decide +kernel
theorem dX12_nextToken_183 : decode cX12_nextToken 183 = .ok (.bipush 59, 2) := by decide +kernel
theorem dX12_nextToken_185 : decode cX12_nextToken 185 = .ok (.if_icmp .ne 7, 3) := by decide +kernel
theorem dX12_nextToken_188 : decode cX12_nextToken 188 = .ok (.iconst 4, 1) := by decide +kernel
theorem dX12_nextToken_189 : decode cX12_nextToken 189 = .ok (.goto 4, 3) := by decide +kernel
theorem dX12_nextToken_192 : decode cX12_nextToken 192 = .ok (.iconst 0, 1) := by decide +kernel
theorem dX12_nextToken_193 : decode cX12_nextToken 193 = .ok (.putfield 93, 3) := by decide +kernel
theorem dX12_nextToken_196 : decode cX12_nextToken 196 = .ok (.aload_n 0, 1) := by decide +kernel
theorem dX12_nextToken_197 : decode cX12_nextToken 197 = .ok (.aload_n 0, 1) := by decide +kernel
theorem dX12_nextToken_198 : decode cX12_nextToken 198 = .ok (.getfield 84, 3) := by decide +kernel
theorem dX12_nextToken_201 : decode cX12_nextToken 201 = .ok (.putfield 102, 3) := by decide +kernel
theorem dX12_nextToken_204 : decode cX12_nextToken 204 = .ok (.return_, 1) := by decide +kernel
theorem dX12_begin_0 : decode cX12_begin 0 = .ok (.aload_n 0, 1) := by decide +kernel
theorem dX12_begin_1 : decode cX12_begin 1 = .ok (.aload_n 0, 1) := by decide +kernel
theorem dX12_begin_2 : decode cX12_begin 2 = .ok (.getfield 74, 3) := by decide +kernel
theorem dX12_begin_5 : decode cX12_begin 5 = .ok (.putfield 80, 3) := by decide +kernel
theorem dX12_begin_8 : decode cX12_begin 8 = .ok (.aload_n 0, 1) := by decide +kernel
theorem dX12_begin_9 : decode cX12_begin 9 = .ok (.iconst 0, 1) := by decide +kernel
theorem dX12_begin_10 : decode cX12_begin 10 = .ok (.putfield 74, 3) := by decide +kernel
theorem dX12_begin_13 : decode cX12_begin 13 = .ok (.aload_n 0, 1) := by decide +kernel
theorem dX12_begin_14 : decode cX12_begin 14 = .ok (.iconst 0, 1) := by decide +kernel
theorem dX12_begin_15 : decode cX12_begin 15 = .ok (.putfield 84, 3) := by decide +kernel
theorem dX12_begin_18 : decode cX12_begin 18 = .ok (.aload_n 0, 1) := by decide +kernel
theorem dX12_begin_19 : decode cX12_begin 19 = .ok (.iconst 0, 1) := by decide +kernel
theorem dX12_begin_20 : decode cX12_begin 20 = .ok (.putfield 105, 3) := by decide +kernel
theorem dX12_begin_23 : decode cX12_begin 23 = .ok (.aload_n 0, 1) := by decide +kernel
theorem dX12_begin_24 : decode cX12_begin 24 = .ok (.invokevirtual 108, 3) := by decide +kernel
theorem dX12_begin_27 : decode cX12_begin 27 = .ok (.return_, 1) := by decide +kernel
theorem dX12_bad_0 : decode cX12_bad 0 = .ok (.aload_n 0, 1) := by decide +kernel
theorem dX12_bad_1 : decode cX12_bad 1 = .ok (.getfield 105, 3) := by decide +kernel
theorem dX12_bad_4 : decode cX12_bad 4 = .ok (.ifCond .ne 16, 3) := by decide +kernel
theorem dX12_bad_7 : decode cX12_bad 7 = .ok (.aload_n 0, 1) := by decide +kernel
theorem dX12_bad_8 : decode cX12_bad 8 = .ok (.iload_n 1, 1) := by decide +kernel
theorem dX12_bad_9 : decode cX12_bad 9 = .ok (.putfield 105, 3) := by decide +kernel
theorem dX12_bad_12 : decode cX12_bad 12 = .ok (.aload_n 0, 1) := by decide +kernel
theorem dX12_bad_13 : decode cX12_bad 13 = .ok (.aload_n 0, 1) := by decide +kernel
theorem dX12_bad_14 : decode cX12_bad 14 = .ok (.getfield 90, 3) := by decide +kernel
theorem dX12_bad_17 : decode cX12_bad 17 = .ok (.putfield 111, 3) := by decide +kernel
theorem dX12_bad_20 : decode cX12_bad 20 = .ok (.return_, 1) := by decide +kernel
theorem dX12_must_0 : decode cX12_must 0 = .ok (.iload_n 1, 1) := by decide +kernel
theorem dX12_must_1 : decode cX12_must 1 = .ok (.ifCond .ne 8, 3) := by decide +kernel
theorem dX12_must_4 : decode cX12_must 4 = .ok (.aload_n 0, 1) := by decide +kernel
theorem dX12_must_5 : decode cX12_must 5 = .ok (.iconst 1, 1) := by decide +kernel
theorem dX12_must_6 : decode cX12_must 6 = .ok (.invokevirtual 114, 3) := by decide +kernel
theorem dX12_must_9 : decode cX12_must 9 = .ok (.aload_n 0, 1) := by decide +kernel
theorem dX12_must_10 : decode cX12_must 10 = .ok (.getfield 105, 3) := by decide +kernel
theorem dX12_must_13 : decode cX12_must 13 = .ok (.ifCond .ne 7, 3) := by decide +kernel
theorem dX12_must_16 : decode cX12_must 16 = .ok (.aload_n 0, 1) := by decide +kernel
theorem dX12_must_17 : decode cX12_must 17 = .ok (.invokevirtual 108, 3) := by decide +kernel
theorem dX12_must_20 : decode cX12_must 20 = .ok (.return_, 1) := by decide +kernel
theorem dX12_name_0 : decode cX12_name 0 = .ok (.lconst 0, 1) := by decide +kernel
theorem dX12_name_1 : decode cX12_name 1 = .ok (.lstore_n 1, 1) := by decide +kernel
theorem dX12_name_2 : decode cX12_name 2 = .ok (.aload_n 0, 1) := by decide +kernel
theorem dX12_name_3 : decode cX12_name 3 = .ok (.getfield 90, 3) := by decide +kernel
theorem dX12_name_6 : decode cX12_name 6 = .ok (.istore_n 3, 1) := by decide +kernel
theorem dX12_name_7 : decode cX12_name 7 = .ok (.iload_n 3, 1) := by decide +kernel
theorem dX12_name_8 : decode cX12_name 8 = .ok (.aload_n 0, 1) := by decide +kernel
theorem dX12_name_9 : decode cX12_name 9 = .ok (.getfield 102, 3) := by decide +kernel
theorem dX12_name_12 : decode cX12_name 12 = .ok (.if_icmp .ge 44, 3) := by decide +kernel
theorem dX12_name_15 : decode cX12_name 15 = .ok (.aload_n 0, 1) := by decide +kernel
theorem dX12_name_16 : decode cX12_name 16 = .ok (.getfield 93, 3) := by decide +kernel
theorem dX12_name_19 : decode cX12_name 19 = .ok (.iconst 2, 1) := by decide +kernel
theorem dX12_name_20 : decode cX12_name 20 = .ok (.if_icmp .ne 36, 3) := by decide +kernel
theorem dX12_name_23 : decode cX12_name 23 = .ok (.aload_n 0, 1) := by decide +kernel
theorem dX12_name_24 : decode cX12_name 24 = .ok (.getfield 102, 3) := by decide +kernel
theorem dX12_name_27 : decode cX12_name 27 = .ok (.aload_n 0, 1) := by decide +kernel
theorem dX12_name_28 : decode cX12_name 28 = .ok (.getfield 90, 3) := by decide +kernel
theorem dX12_name_31 : decode cX12_name 31 = .ok (.isub, 1) := by decide +kernel
theorem dX12_name_32 : decode cX12_name 32 = .ok (.bipush 8, 2) := by decide +kernel
theorem dX12_name_34 : decode cX12_name 34 = .ok (.if_icmp .ge 22, 3) := by decide +kernel
theorem dX12_name_37 : decode cX12_name 37 = .ok (.lload_n 1, 1) := by decide +kernel
theorem dX12_name_38 : decode cX12_name 38 = .ok (.bipush 8, 2) := by decide +kernel
theorem dX12_name_40 : decode cX12_name 40 = .ok (.lshl, 1) := by decide +kernel
theorem dX12_name_41 : decode cX12_name 41 = .ok (.aload_n 0, 1) := by decide +kernel
theorem dX12_name_42 : decode cX12_name 42 = .ok (.getfield 25, 3) := by decide +kernel
theorem dX12_name_45 : decode cX12_name 45 = .ok (.iload_n 3, 1) := by decide +kernel
theorem dX12_name_46 : decode cX12_name 46 = .ok (.iaload, 1) := by decide +kernel
theorem dX12_name_47 : decode cX12_name 47 = .ok (.i2l, 1) := by decide +kernel
theorem dX12_name_48 : decode cX12_name 48 = .ok (.lor, 1) := by decide +kernel
theorem dX12_name_49 : decode cX12_name 49 = .ok (.lstore_n 1, 1) := by decide +kernel
theorem dX12_name_50 : decode cX12_name 50 = .ok (.iinc 3 1, 3) := by decide +kernel
theorem dX12_name_53 : decode cX12_name 53 = .ok (.goto (-46), 3) := by decide +kernel
theorem dX12_name_56 : decode cX12_name 56 = .ok (.aload_n 0, 1) := by decide +kernel
theorem dX12_name_57 : decode cX12_name 57 = .ok (.getfield 105, 3) := by decide +kernel
theorem dX12_name_60 : decode cX12_name 60 = .ok (.ifCond .ne 7, 3) := by decide +kernel
theorem dX12_name_63 : decode cX12_name 63 = .ok (.lload_n 1, 1) := by decide +kernel
theorem dX12_name_64 : decode cX12_name 64 = .ok (.goto 4, 3) := by decide +kernel
theorem dX12_name_67 : decode cX12_name 67 = .ok (.lconst 0, 1) := by decide +kernel
theorem dX12_name_68 : decode cX12_name 68 = .ok (.lreturn, 1) := by decide +kernel
theorem dX12_figures_0 : decode cX12_figures 0 = .ok (.iconst 0, 1) := by decide +kernel
theorem dX12_figures_1 : decode cX12_figures 1 = .ok (.istore_n 1, 1) := by decide +kernel
theorem dX12_figures_2 : decode cX12_figures 2 = .ok (.aload_n 0, 1) := by decide +kernel
theorem dX12_figures_3 : decode cX12_figures 3 = .ok (.getfield 90, 3) := by decide +kernel
theorem dX12_figures_6 : decode cX12_figures 6 = .ok (.istore_n 2, 1) := by decide +kernel
theorem dX12_figures_7 : decode cX12_figures 7 = .ok (.iload_n 2, 1) := by decide +kernel
theorem dX12_figures_8 : decode cX12_figures 8 = .ok (.aload_n 0, 1) := by decide +kernel
theorem dX12_figures_9 : decode cX12_figures 9 = .ok (.getfield 102, 3) := by decide +kernel
theorem dX12_figures_12 : decode cX12_figures 12 = .ok (.if_icmp .ge 32, 3) := by decide +kernel
theorem dX12_figures_15 : decode cX12_figures 15 = .ok (.aload_n 0, 1) := by decide +kernel
theorem dX12_figures_16 : decode cX12_figures 16 = .ok (.getfield 93, 3) := by decide +kernel
theorem dX12_figures_19 : decode cX12_figures 19 = .ok (.iconst 3, 1) := by decide +kernel
theorem dX12_figures_20 : decode cX12_figures 20 = .ok (.if_icmp .ne 24, 3) := by decide +kernel
theorem dX12_figures_23 : decode cX12_figures 23 = .ok (.bipush 10, 2) := by decide +kernel
theorem dX12_figures_25 : decode cX12_figures 25 = .ok (.iload_n 1, 1) := by decide +kernel
theorem dX12_figures_26 : decode cX12_figures 26 = .ok (.imul, 1) := by decide +kernel
theorem dX12_figures_27 : decode cX12_figures 27 = .ok (.aload_n 0, 1) := by decide +kernel
theorem dX12_figures_28 : decode cX12_figures 28 = .ok (.getfield 25, 3) := by decide +kernel
theorem dX12_figures_31 : decode cX12_figures 31 = .ok (.iload_n 2, 1) := by decide +kernel
theorem dX12_figures_32 : decode cX12_figures 32 = .ok (.iaload, 1) := by decide +kernel
theorem dX12_figures_33 : decode cX12_figures 33 = .ok (.iadd, 1) := by decide +kernel
theorem dX12_figures_34 : decode cX12_figures 34 = .ok (.bipush 48, 2) := by decide +kernel
theorem dX12_figures_36 : decode cX12_figures 36 = .ok (.isub, 1) := by decide +kernel
theorem dX12_figures_37 : decode cX12_figures 37 = .ok (.istore_n 1, 1) := by decide +kernel
theorem dX12_figures_38 : decode cX12_figures 38 = .ok (.iinc 2 1, 3) := by decide +kernel
theorem dX12_figures_41 : decode cX12_figures 41 = .ok (.goto (-34), 3) := by decide +kernel
theorem dX12_figures_44 : decode cX12_figures 44 = .ok (.iload_n 1, 1) := by decide +kernel
theorem dX12_figures_45 : decode cX12_figures 45 = .ok (.ireturn, 1) := by decide +kernel
theorem dX12_number_0 : decode cX12_number 0 = .ok (.aload_n 0, 1) := by decide +kernel
theorem dX12_number_1 : decode cX12_number 1 = .ok (.getfield 105, 3) := by decide +kernel
theorem dX12_number_4 : decode cX12_number 4 = .ok (.ifCond .le 5, 3) := by decide +kernel
theorem dX12_number_7 : decode cX12_number 7 = .ok (.iconst 0, 1) := by decide +kernel
theorem dX12_number_8 : decode cX12_number 8 = .ok (.ireturn, 1) := by decide +kernel
theorem dX12_number_9 : decode cX12_number 9 = .ok (.aload_n 0, 1) := by decide +kernel
theorem dX12_number_10 : decode cX12_number 10 = .ok (.invokevirtual 118, 3) := by decide +kernel
theorem dX12_number_13 : decode cX12_number 13 = .ok (.istore_n 3, 1) := by decide +kernel
theorem dX12_number_14 : decode cX12_number 14 = .ok (.aload_n 0, 1) := by decide +kernel
theorem dX12_number_15 : decode cX12_number 15 = .ok (.getfield 93, 3) := by decide +kernel
theorem dX12_number_18 : decode cX12_number 18 = .ok (.iconst 3, 1) := by decide +kernel
theorem dX12_number_19 : decode cX12_number 19 = .ok (.if_icmp .ne 20, 3) := by decide +kernel
theorem dX12_number_22 : decode cX12_number 22 = .ok (.iload_n 3, 1) := by decide +kernel
theorem dX12_number_23 : decode cX12_number 23 = .ok (.i2l, 1) := by decide +kernel
theorem dX12_number_24 : decode cX12_number 24 = .ok (.iload_n 1, 1) := by decide +kernel
theorem dX12_number_25 : decode cX12_number 25 = .ok (.i2l, 1) := by decide +kernel
theorem dX12_number_26 : decode cX12_number 26 = .ok (.iload_n 2, 1) := by decide +kernel
theorem dX12_number_27 : decode cX12_number 27 = .ok (.i2l, 1) := by decide +kernel
theorem dX12_number_28 : decode cX12_number 28 = .ok (.invokestatic 57, 3) := by decide +kernel
theorem dX12_number_31 : decode cX12_number 31 = .ok (.ifCond .ne 8, 3) := by decide +kernel
theorem dX12_number_34 : decode cX12_number 34 = .ok (.aload_n 0, 1) := by decide +kernel
theorem dX12_number_35 : decode cX12_number 35 = .ok (.iconst 2, 1) := by decide +kernel
theorem dX12_number_36 : decode cX12_number 36 = .ok (.invokevirtual 114, 3) := by decide +kernel
theorem dX12_number_39 : decode cX12_number 39 = .ok (.aload_n 0, 1) := by decide +kernel
theorem dX12_number_40 : decode cX12_number 40 = .ok (.aload_n 0, 1) := by decide +kernel
theorem dX12_number_41 : decode cX12_number 41 = .ok (.getfield 93, 3) := by decide +kernel
theorem dX12_number_44 : decode cX12_number 44 = .ok (.iconst 3, 1) := by decide +kernel
theorem dX12_number_45 : decode cX12_number 45 = .ok (.if_icmp .ne 7, 3) := by decide +kernel
theorem dX12_number_48 : decode cX12_number 48 = .ok (.iconst 1, 1) := by decide +kernel
theorem dX12_number_49 : decode cX12_number 49 = .ok (.goto 4, 3) := by decide +kernel
theorem dX12_number_52 : decode cX12_number 52 = .ok (.iconst 0, 1) := by decide +kernel
theorem dX12_number_53 : decode cX12_number 53 = .ok (.invokevirtual 122, 3) := by decide +kernel
theorem dX12_number_56 : decode cX12_number 56 = .ok (.iload_n 3, 1) := by decide +kernel
theorem dX12_number_57 : decode cX12_number 57 = .ok (.ireturn, 1) := by decide +kernel
theorem dX12_kindBy_0 : decode cX12_kindBy 0 = .ok (.lload_n 0, 1) := by decide +kernel
theorem dX12_kindBy_1 : decode cX12_kindBy 1 = .ok (.ldc2_w 126, 3) := by decide +kernel
theorem dX12_kindBy_4 : decode cX12_kindBy 4 = .ok (.lcmp, 1) := by decide +kernel
theorem dX12_kindBy_5 : decode cX12_kindBy 5 = .ok (.ifCond .ne 7, 3) := by decide +kernel
theorem dX12_kindBy_8 : decode cX12_kindBy 8 = .ok (.iconst 1, 1) := by decide +kernel
theorem dX12_kindBy_9 : decode cX12_kindBy 9 = .ok (.goto 53, 3) := by decide +kernel
theorem dX12_kindBy_12 : decode cX12_kindBy 12 = .ok (.lload_n 0, 1) := by decide +kernel
theorem dX12_kindBy_13 : decode cX12_kindBy 13 = .ok (.ldc2_w 128, 3) := by decide +kernel
theorem dX12_kindBy_16 : decode cX12_kindBy 16 = .ok (.lcmp, 1) := by decide +kernel
theorem dX12_kindBy_17 : decode cX12_kindBy 17 = .ok (.ifCond .ne 7, 3) := by decide +kernel
theorem dX12_kindBy_20 : decode cX12_kindBy 20 = .ok (.iconst 2, 1) := by decide +kernel
theorem dX12_kindBy_21 : decode cX12_kindBy 21 = .ok (.goto 41, 3) := by decide +kernel
theorem dX12_kindBy_24 : decode cX12_kindBy 24 = .ok (.lload_n 0, 1) := by decide +kernel
theorem dX12_kindBy_25 : decode cX12_kindBy 25 = .ok (.ldc2_w 130, 3) := by decide +kernel
theorem dX12_kindBy_28 : decode cX12_kindBy 28 = .ok (.lcmp, 1) := by decide +kernel
theorem dX12_kindBy_29 : decode cX12_kindBy 29 = .ok (.ifCond .ne 7, 3) := by decide +kernel
theorem dX12_kindBy_32 : decode cX12_kindBy 32 = .ok (.iconst 4, 1) := by decide +kernel
theorem dX12_kindBy_33 : decode cX12_kindBy 33 = .ok (.goto 29, 3) := by decide +kernel
theorem dX12_kindBy_36 : decode cX12_kindBy 36 = .ok (.lload_n 0, 1) := by decide +kernel
theorem dX12_kindBy_37 : decode cX12_kindBy 37 = .ok (.ldc2_w 132, 3) := by decide +kernel
theorem dX12_kindBy_40 : decode cX12_kindBy 40 = .ok (.lcmp, 1) := by decide +kernel
theorem dX12_kindBy_41 : decode cX12_kindBy 41 = .ok (.ifCond .ne 7, 3) := by decide +kernel
theorem dX12_kindBy_44 : decode cX12_kindBy 44 = .ok (.iconst 3, 1) := by decide +kernel
theorem dX12_kindBy_45 : decode cX12_kindBy 45 = .ok (.goto 17, 3) := by decide +kernel
theorem dX12_kindBy_48 : decode cX12_kindBy 48 = .ok (.lload_n 0, 1) := by decide +kernel
theorem dX12_kindBy_49 : decode cX12_kindBy 49 = .ok (.ldc2_w 134, 3) := by decide +kernel
theorem dX12_kindBy_52 : decode cX12_kindBy 52 = .ok (.lcmp, 1) := by decide +kernel
theorem dX12_kindBy_53 : decode cX12_kindBy 53 = .ok (.ifCond .ne 7, 3) := by decide +kernel
theorem dX12_kindBy_56 : decode cX12_kindBy 56 = .ok (.iconst 5, 1) := by decide +kernel
theorem dX12_kindBy_57 : decode cX12_kindBy 57 = .ok (.goto 5, 3) := by decide +kernel
theorem dX12_kindBy_60 : decode cX12_kindBy 60 = .ok (.ldc 83, 2) := by decide +kernel
theorem dX12_kindBy_62 : decode cX12_kindBy 62 = .ok (.ireturn, 1) := by decide +kernel
theorem dX12_mustEnd_0 : decode cX12_mustEnd 0 = .ok (.aload_n 0, 1) := by decide +kernel
theorem dX12_mustEnd_1 : decode cX12_mustEnd 1 = .ok (.getfield 105, 3) := by decide +kernel
theorem dX12_mustEnd_4 : decode cX12_mustEnd 4 = .ok (.ifCond .ne 20, 3) := by decide +kernel
theorem dX12_mustEnd_7 : decode cX12_mustEnd 7 = .ok (.aload_n 0, 1) := by decide +kernel
theorem dX12_mustEnd_8 : decode cX12_mustEnd 8 = .ok (.aload_n 0, 1) := by decide +kernel
theorem dX12_mustEnd_9 : decode cX12_mustEnd 9 = .ok (.getfield 93, 3) := by decide +kernel
theorem dX12_mustEnd_12 : decode cX12_mustEnd 12 = .ok (.iconst 4, 1) := by decide +kernel
theorem dX12_mustEnd_13 : decode cX12_mustEnd 13 = .ok (.if_icmp .ne 7, 3) := by decide +kernel
theorem dX12_mustEnd_16 : decode cX12_mustEnd 16 = .ok (.iconst 1, 1) := by decide +kernel
theorem dX12_mustEnd_17 : decode cX12_mustEnd 17 = .ok (.goto 4, 3) := by decide +kernel
theorem dX12_mustEnd_20 : decode cX12_mustEnd 20 = .ok (.iconst 0, 1) := by decide +kernel
theorem dX12_mustEnd_21 : decode cX12_mustEnd 21 = .ok (.invokevirtual 122, 3) := by decide +kernel
theorem dX12_mustEnd_24 : decode cX12_mustEnd 24 = .ok (.return_, 1) := by decide +kernel
theorem dX12_begins_0 : decode cX12_begins 0 = .ok (.aload_n 0, 1) := by decide +kernel
theorem dX12_begins_1 : decode cX12_begins 1 = .ok (.getfield 22, 3) := by decide +kernel
theorem dX12_begins_4 : decode cX12_begins 4 = .ok (.iload_n 1, 1) := by decide +kernel
theorem dX12_begins_5 : decode cX12_begins 5 = .ok (.iaload, 1) := by decide +kernel
theorem dX12_begins_6 : decode cX12_begins 6 = .ok (.iload_n 2, 1) := by decide +kernel
theorem dX12_begins_7 : decode cX12_begins 7 = .ok (.if_icmp .ne 8, 3) := by decide +kernel
theorem dX12_begins_10 : decode cX12_begins 10 = .ok (.aload_n 0, 1) := by decide +kernel
theorem dX12_begins_11 : decode cX12_begins 11 = .ok (.iconst 3, 1) := by decide +kernel
theorem dX12_begins_12 : decode cX12_begins 12 = .ok (.invokevirtual 114, 3) := by decide +kernel
theorem dX12_begins_15 : decode cX12_begins 15 = .ok (.aload_n 0, 1) := by decide +kernel
theorem dX12_begins_16 : decode cX12_begins 16 = .ok (.iconst 1, 1) := by decide +kernel
theorem dX12_begins_17 : decode cX12_begins 17 = .ok (.invokevirtual 122, 3) := by decide +kernel
theorem dX12_begins_20 : decode cX12_begins 20 = .ok (.return_, 1) := by decide +kernel
theorem dX12_readThing_0 : decode cX12_readThing 0 = .ok (.aload_n 0, 1) := by decide +kernel
theorem dX12_readThing_1 : decode cX12_readThing 1 = .ok (.iconst 3, 1) := by decide +kernel
theorem dX12_readThing_2 : decode cX12_readThing 2 = .ok (.iconst 4, 1) := by decide +kernel
theorem dX12_readThing_3 : decode cX12_readThing 3 = .ok (.invokevirtual 136, 3) := by decide +kernel
theorem dX12_readThing_6 : decode cX12_readThing 6 = .ok (.aload_n 0, 1) := by decide +kernel
theorem dX12_readThing_7 : decode cX12_readThing 7 = .ok (.invokevirtual 140, 3) := by decide +kernel
theorem dX12_readThing_10 : decode cX12_readThing 10 = .ok (.invokestatic 144, 3) := by decide +kernel
theorem dX12_readThing_13 : decode cX12_readThing 13 = .ok (.istore_n 1, 1) := by decide +kernel
theorem dX12_readThing_14 : decode cX12_readThing 14 = .ok (.aload_n 0, 1) := by decide +kernel
theorem dX12_readThing_15 : decode cX12_readThing 15 = .ok (.getfield 105, 3) := by decide +kernel
theorem dX12_readThing_18 : decode cX12_readThing 18 = .ok (.ifCond .ne 18, 3) := by decide +kernel
theorem dX12_readThing_21 : decode cX12_readThing 21 = .ok (.aload_n 0, 1) := by decide +kernel
theorem dX12_readThing_22 : decode cX12_readThing 22 = .ok (.iload_n 1, 1) := by decide +kernel
theorem dX12_readThing_23 : decode cX12_readThing 23 = .ok (.ldc 83, 2) := by decide +kernel
theorem dX12_readThing_25 : decode cX12_readThing 25 = .ok (.if_icmp .eq 7, 3) := by decide +kernel
theorem dX12_readThing_28 : decode cX12_readThing 28 = .ok (.iconst 1, 1) := by decide +kernel
theorem dX12_readThing_29 : decode cX12_readThing 29 = .ok (.goto 4, 3) := by decide +kernel
theorem dX12_readThing_32 : decode cX12_readThing 32 = .ok (.iconst 0, 1) := by decide +kernel
theorem dX12_readThing_33 : decode cX12_readThing 33 = .ok (.invokevirtual 122, 3) := by decide +kernel
theorem dX12_readThing_36 : decode cX12_readThing 36 = .ok (.aload_n 0, 1) := by decide +kernel
theorem dX12_readThing_37 : decode cX12_readThing 37 = .ok (.iconst 0, 1) := by decide +kernel
theorem dX12_readThing_38 : decode cX12_readThing 38 = .ok (.bipush 7, 2) := by decide +kernel
theorem dX12_readThing_40 : decode cX12_readThing 40 = .ok (.invokevirtual 148, 3) := by decide +kernel
theorem dX12_readThing_43 : decode cX12_readThing 43 = .ok (.istore_n 2, 1) := by decide +kernel
theorem dX12_readThing_44 : decode cX12_readThing 44 = .ok (.aload_n 0, 1) := by decide +kernel
theorem dX12_readThing_45 : decode cX12_readThing 45 = .ok (.invokevirtual 152, 3) := by decide +kernel
theorem dX12_readThing_48 : decode cX12_readThing 48 = .ok (.aload_n 0, 1) := by decide +kernel
theorem dX12_readThing_49 : decode cX12_readThing 49 = .ok (.getfield 105, 3) := by decide +kernel
theorem dX12_readThing_52 : decode cX12_readThing 52 = .ok (.ifCond .ne 47, 3) := by decide +kernel
theorem dX12_readThing_55 : decode cX12_readThing 55 = .ok (.aload_n 0, 1) := by decide +kernel
theorem dX12_readThing_56 : decode cX12_readThing 56 = .ok (.getfield 22, 3) := by decide +kernel
theorem dX12_readThing_59 : decode cX12_readThing 59 = .ok (.iconst 5, 1) := by decide +kernel
theorem dX12_readThing_60 : decode cX12_readThing 60 = .ok (.iconst 2, 1) := by decide +kernel
theorem dX12_readThing_61 : decode cX12_readThing 61 = .ok (.aload_n 0, 1) := by decide +kernel
theorem dX12_readThing_62 : decode cX12_readThing 62 = .ok (.getfield 22, 3) := by decide +kernel
theorem dX12_readThing_65 : decode cX12_readThing 65 = .ok (.iconst 3, 1) := by decide +kernel
theorem dX12_readThing_66 : decode cX12_readThing 66 = .ok (.iaload, 1) := by decide +kernel
theorem dX12_readThing_67 : decode cX12_readThing 67 = .ok (.imul, 1) := by decide +kernel
theorem dX12_readThing_68 : decode cX12_readThing 68 = .ok (.iadd, 1) := by decide +kernel
theorem dX12_readThing_69 : decode cX12_readThing 69 = .ok (.iload_n 1, 1) := by decide +kernel
theorem dX12_readThing_70 : decode cX12_readThing 70 = .ok (.iastore, 1) := by decide +kernel
theorem dX12_readThing_71 : decode cX12_readThing 71 = .ok (.aload_n 0, 1) := by decide +kernel
theorem dX12_readThing_72 : decode cX12_readThing 72 = .ok (.getfield 22, 3) := by decide +kernel
theorem dX12_readThing_75 : decode cX12_readThing 75 = .ok (.iconst 5, 1) := by decide +kernel
theorem dX12_readThing_76 : decode cX12_readThing 76 = .ok (.iconst 2, 1) := by decide +kernel
theorem dX12_readThing_77 : decode cX12_readThing 77 = .ok (.aload_n 0, 1) := by decide +kernel
theorem dX12_readThing_78 : decode cX12_readThing 78 = .ok (.getfield 22, 3) := by decide +kernel
theorem dX12_readThing_81 : decode cX12_readThing 81 = .ok (.iconst 3, 1) := by decide +kernel
theorem dX12_readThing_82 : decode cX12_readThing 82 = .ok (.iaload, 1) := by decide +kernel
theorem dX12_readThing_83 : decode cX12_readThing 83 = .ok (.imul, 1) := by decide +kernel
theorem dX12_readThing_84 : decode cX12_readThing 84 = .ok (.iadd, 1) := by decide +kernel
theorem dX12_readThing_85 : decode cX12_readThing 85 = .ok (.iconst 1, 1) := by decide +kernel
theorem dX12_readThing_86 : decode cX12_readThing 86 = .ok (.iadd, 1) := by decide +kernel
theorem dX12_readThing_87 : decode cX12_readThing 87 = .ok (.iload_n 2, 1) := by decide +kernel
theorem dX12_readThing_88 : decode cX12_readThing 88 = .ok (.iastore, 1) := by decide +kernel
theorem dX12_readThing_89 : decode cX12_readThing 89 = .ok (.aload_n 0, 1) := by decide +kernel
theorem dX12_readThing_90 : decode cX12_readThing 90 = .ok (.getfield 22, 3) := by decide +kernel
theorem dX12_readThing_93 : decode cX12_readThing 93 = .ok (.iconst 3, 1) := by decide +kernel
theorem dX12_readThing_94 : decode cX12_readThing 94 = .ok (.dup2, 1) := by decide +kernel
theorem dX12_readThing_95 : decode cX12_readThing 95 = .ok (.iaload, 1) := by decide +kernel
theorem dX12_readThing_96 : decode cX12_readThing 96 = .ok (.iconst 1, 1) := by decide +kernel
theorem dX12_readThing_97 : decode cX12_readThing 97 = .ok (.iadd, 1) := by decide +kernel
theorem dX12_readThing_98 : decode cX12_readThing 98 = .ok (.iastore, 1) := by decide +kernel
theorem dX12_readThing_99 : decode cX12_readThing 99 = .ok (.return_, 1) := by decide +kernel
theorem dX12_readDay_0 : decode cX12_readDay 0 = .ok (.aload_n 0, 1) := by decide +kernel
theorem dX12_readDay_1 : decode cX12_readDay 1 = .ok (.iconst 4, 1) := by decide +kernel
theorem dX12_readDay_2 : decode cX12_readDay 2 = .ok (.bipush 12, 2) := by decide +kernel
theorem dX12_readDay_4 : decode cX12_readDay 4 = .ok (.invokevirtual 136, 3) := by decide +kernel
theorem dX12_readDay_7 : decode cX12_readDay 7 = .ok (.aload_n 0, 1) := by decide +kernel
theorem dX12_readDay_8 : decode cX12_readDay 8 = .ok (.iconst 0, 1) := by decide +kernel
theorem dX12_readDay_9 : decode cX12_readDay 9 = .ok (.iconst 1, 1) := by decide +kernel
theorem dX12_readDay_10 : decode cX12_readDay 10 = .ok (.aload_n 0, 1) := by decide +kernel
theorem dX12_readDay_11 : decode cX12_readDay 11 = .ok (.getfield 22, 3) := by decide +kernel
theorem dX12_readDay_14 : decode cX12_readDay 14 = .ok (.iconst 3, 1) := by decide +kernel
theorem dX12_readDay_15 : decode cX12_readDay 15 = .ok (.iaload, 1) := by decide +kernel
theorem dX12_readDay_16 : decode cX12_readDay 16 = .ok (.ishl, 1) := by decide +kernel
theorem dX12_readDay_17 : decode cX12_readDay 17 = .ok (.iconst 1, 1) := by decide +kernel
theorem dX12_readDay_18 : decode cX12_readDay 18 = .ok (.isub, 1) := by decide +kernel
theorem dX12_readDay_19 : decode cX12_readDay 19 = .ok (.invokevirtual 148, 3) := by decide +kernel
theorem dX12_readDay_22 : decode cX12_readDay 22 = .ok (.istore_n 1, 1) := by decide +kernel
theorem dX12_readDay_23 : decode cX12_readDay 23 = .ok (.aload_n 0, 1) := by decide +kernel
theorem dX12_readDay_24 : decode cX12_readDay 24 = .ok (.invokevirtual 152, 3) := by decide +kernel
theorem dX12_readDay_27 : decode cX12_readDay 27 = .ok (.aload_n 0, 1) := by decide +kernel
theorem dX12_readDay_28 : decode cX12_readDay 28 = .ok (.getfield 105, 3) := by decide +kernel
theorem dX12_readDay_31 : decode cX12_readDay 31 = .ok (.ifCond .ne 28, 3) := by decide +kernel
theorem dX12_readDay_34 : decode cX12_readDay 34 = .ok (.aload_n 0, 1) := by decide +kernel
theorem dX12_readDay_35 : decode cX12_readDay 35 = .ok (.getfield 22, 3) := by decide +kernel
theorem dX12_readDay_38 : decode cX12_readDay 38 = .ok (.bipush 13, 2) := by decide +kernel
theorem dX12_readDay_40 : decode cX12_readDay 40 = .ok (.aload_n 0, 1) := by decide +kernel
theorem dX12_readDay_41 : decode cX12_readDay 41 = .ok (.getfield 22, 3) := by decide +kernel
theorem dX12_readDay_44 : decode cX12_readDay 44 = .ok (.iconst 4, 1) := by decide +kernel
theorem dX12_readDay_45 : decode cX12_readDay 45 = .ok (.iaload, 1) := by decide +kernel
theorem dX12_readDay_46 : decode cX12_readDay 46 = .ok (.iadd, 1) := by decide +kernel
theorem dX12_readDay_47 : decode cX12_readDay 47 = .ok (.iload_n 1, 1) := by decide +kernel
theorem dX12_readDay_48 : decode cX12_readDay 48 = .ok (.iastore, 1) := by decide +kernel
theorem dX12_readDay_49 : decode cX12_readDay 49 = .ok (.aload_n 0, 1) := by decide +kernel
theorem dX12_readDay_50 : decode cX12_readDay 50 = .ok (.getfield 22, 3) := by decide +kernel
theorem dX12_readDay_53 : decode cX12_readDay 53 = .ok (.iconst 4, 1) := by decide +kernel
theorem dX12_readDay_54 : decode cX12_readDay 54 = .ok (.dup2, 1) := by decide +kernel
theorem dX12_readDay_55 : decode cX12_readDay 55 = .ok (.iaload, 1) := by decide +kernel
theorem dX12_readDay_56 : decode cX12_readDay 56 = .ok (.iconst 1, 1) := by decide +kernel
theorem dX12_readDay_57 : decode cX12_readDay 57 = .ok (.iadd, 1) := by decide +kernel
theorem dX12_readDay_58 : decode cX12_readDay 58 = .ok (.iastore, 1) := by decide +kernel
theorem dX12_readDay_59 : decode cX12_readDay 59 = .ok (.return_, 1) := by decide +kernel
theorem dX12_port_0 : decode cX12_port 0 = .ok (.aload_n 0, 1) := by decide +kernel
theorem dX12_port_1 : decode cX12_port 1 = .ok (.iconst 0, 1) := by decide +kernel
theorem dX12_port_2 : decode cX12_port 2 = .ok (.putfield 47, 3) := by decide +kernel
theorem dX12_port_5 : decode cX12_port 5 = .ok (.aload_n 0, 1) := by decide +kernel
theorem dX12_port_6 : decode cX12_port 6 = .ok (.invokevirtual 155, 3) := by decide +kernel
theorem dX12_port_9 : decode cX12_port 9 = .ok (.iconst 0, 1) := by decide +kernel
theorem dX12_port_10 : decode cX12_port 10 = .ok (.istore_n 1, 1) := by decide +kernel
theorem dX12_port_11 : decode cX12_port 11 = .ok (.iload_n 1, 1) := by decide +kernel
theorem dX12_port_12 : decode cX12_port 12 = .ok (.bipush 39, 2) := by decide +kernel
theorem dX12_port_14 : decode cX12_port 14 = .ok (.if_icmp .ge 16, 3) := by decide +kernel
theorem dX12_port_17 : decode cX12_port 17 = .ok (.aload_n 0, 1) := by decide +kernel
theorem dX12_port_18 : decode cX12_port 18 = .ok (.getfield 22, 3) := by decide +kernel
theorem dX12_port_21 : decode cX12_port 21 = .ok (.iload_n 1, 1) := by decide +kernel
theorem dX12_port_22 : decode cX12_port 22 = .ok (.iconst 0, 1) := by decide +kernel
theorem dX12_port_23 : decode cX12_port 23 = .ok (.iastore, 1) := by decide +kernel
theorem dX12_port_24 : decode cX12_port 24 = .ok (.iinc 1 1, 3) := by decide +kernel
theorem dX12_port_27 : decode cX12_port 27 = .ok (.goto (-16), 3) := by decide +kernel
theorem dX12_port_30 : decode cX12_port 30 = .ok (.aload_n 0, 1) := by decide +kernel
theorem dX12_port_31 : decode cX12_port 31 = .ok (.aload_n 0, 1) := by decide +kernel
theorem dX12_port_32 : decode cX12_port 32 = .ok (.invokevirtual 140, 3) := by decide +kernel
theorem dX12_port_35 : decode cX12_port 35 = .ok (.ldc2_w 158, 3) := by decide +kernel
theorem dX12_port_38 : decode cX12_port 38 = .ok (.lcmp, 1) := by decide +kernel
theorem dX12_port_39 : decode cX12_port 39 = .ok (.ifCond .ne 7, 3) := by decide +kernel
theorem dX12_port_42 : decode cX12_port 42 = .ok (.iconst 1, 1) := by decide +kernel
theorem dX12_port_43 : decode cX12_port 43 = .ok (.goto 4, 3) := by decide +kernel
theorem dX12_port_46 : decode cX12_port 46 = .ok (.iconst 0, 1) := by decide +kernel
theorem dX12_port_47 : decode cX12_port 47 = .ok (.invokevirtual 122, 3) := by decide +kernel
theorem dX12_port_50 : decode cX12_port 50 = .ok (.aload_n 0, 1) := by decide +kernel
theorem dX12_port_51 : decode cX12_port 51 = .ok (.getfield 22, 3) := by decide +kernel
theorem dX12_port_54 : decode cX12_port 54 = .ok (.iconst 0, 1) := by decide +kernel
theorem dX12_port_55 : decode cX12_port 55 = .ok (.aload_n 0, 1) := by decide +kernel
theorem dX12_port_56 : decode cX12_port 56 = .ok (.iconst 0, 1) := by decide +kernel
theorem dX12_port_57 : decode cX12_port 57 = .ok (.iconst 3, 1) := by decide +kernel
theorem dX12_port_58 : decode cX12_port 58 = .ok (.invokevirtual 148, 3) := by decide +kernel
theorem dX12_port_61 : decode cX12_port 61 = .ok (.iastore, 1) := by decide +kernel
theorem dX12_port_62 : decode cX12_port 62 = .ok (.aload_n 0, 1) := by decide +kernel
theorem dX12_port_63 : decode cX12_port 63 = .ok (.getfield 22, 3) := by decide +kernel
theorem dX12_port_66 : decode cX12_port 66 = .ok (.iconst 1, 1) := by decide +kernel
theorem dX12_port_67 : decode cX12_port 67 = .ok (.aload_n 0, 1) := by decide +kernel
theorem dX12_port_68 : decode cX12_port 68 = .ok (.iconst 0, 1) := by decide +kernel
theorem dX12_port_69 : decode cX12_port 69 = .ok (.iconst 1, 1) := by decide +kernel
theorem dX12_port_70 : decode cX12_port 70 = .ok (.invokevirtual 148, 3) := by decide +kernel
theorem dX12_port_73 : decode cX12_port 73 = .ok (.iastore, 1) := by decide +kernel
theorem dX12_port_74 : decode cX12_port 74 = .ok (.aload_n 0, 1) := by decide +kernel
theorem dX12_port_75 : decode cX12_port 75 = .ok (.getfield 22, 3) := by decide +kernel
theorem dX12_port_78 : decode cX12_port 78 = .ok (.iconst 2, 1) := by decide +kernel
theorem dX12_port_79 : decode cX12_port 79 = .ok (.aload_n 0, 1) := by decide +kernel
theorem dX12_port_80 : decode cX12_port 80 = .ok (.iconst 2, 1) := by decide +kernel
theorem dX12_port_81 : decode cX12_port 81 = .ok (.sipush 200, 3) := by decide +kernel
theorem dX12_port_84 : decode cX12_port 84 = .ok (.invokevirtual 148, 3) := by decide +kernel
theorem dX12_port_87 : decode cX12_port 87 = .ok (.iastore, 1) := by decide +kernel
theorem dX12_port_88 : decode cX12_port 88 = .ok (.aload_n 0, 1) := by decide +kernel
theorem dX12_port_89 : decode cX12_port 89 = .ok (.invokevirtual 152, 3) := by decide +kernel
theorem dX12_port_92 : decode cX12_port 92 = .ok (.aload_n 0, 1) := by decide +kernel
theorem dX12_port_93 : decode cX12_port 93 = .ok (.invokevirtual 140, 3) := by decide +kernel
theorem dX12_port_96 : decode cX12_port 96 = .ok (.ldc2_w 160, 3) := by decide +kernel
theorem dX12_port_99 : decode cX12_port 99 = .ok (.lcmp, 1) := by decide +kernel
theorem dX12_port_100 : decode cX12_port 100 = .ok (.ifCond .ne 10, 3) := by decide +kernel
theorem dX12_port_103 : decode cX12_port 103 = .ok (.aload_n 0, 1) := by decide +kernel
theorem dX12_port_104 : decode cX12_port 104 = .ok (.invokevirtual 162, 3) := by decide +kernel
theorem dX12_port_107 : decode cX12_port 107 = .ok (.goto (-15), 3) := by decide +kernel
theorem dX12_port_110 : decode cX12_port 110 = .ok (.aload_n 0, 1) := by decide +kernel
theorem dX12_port_111 : decode cX12_port 111 = .ok (.invokevirtual 140, 3) := by decide +kernel
theorem dX12_port_114 : decode cX12_port 114 = .ok (.ldc2_w 165, 3) := by decide +kernel
theorem dX12_port_117 : decode cX12_port 117 = .ok (.lcmp, 1) := by decide +kernel
theorem dX12_port_118 : decode cX12_port 118 = .ok (.ifCond .ne 10, 3) := by decide +kernel
theorem dX12_port_121 : decode cX12_port 121 = .ok (.aload_n 0, 1) := by decide +kernel
theorem dX12_port_122 : decode cX12_port 122 = .ok (.invokevirtual 167, 3) := by decide +kernel
theorem dX12_port_125 : decode cX12_port 125 = .ok (.goto (-15), 3) := by decide +kernel
theorem dX12_port_128 : decode cX12_port 128 = .ok (.aload_n 0, 1) := by decide +kernel
theorem dX12_port_129 : decode cX12_port 129 = .ok (.getfield 105, 3) := by decide +kernel
theorem dX12_port_132 : decode cX12_port 132 = .ok (.ifCond .ne 16, 3) := by decide +kernel
theorem dX12_port_135 : decode cX12_port 135 = .ok (.aload_n 0, 1) := by decide +kernel
theorem dX12_port_136 : decode cX12_port 136 = .ok (.getfield 93, 3) := by decide +kernel
theorem dX12_port_139 : decode cX12_port 139 = .ok (.iconst 1, 1) := by decide +kernel
theorem dX12_port_140 : decode cX12_port 140 = .ok (.if_icmp .eq 8, 3) := by decide +kernel
theorem dX12_port_143 : decode cX12_port 143 = .ok (.aload_n 0, 1) := by decide +kernel
theorem dX12_port_144 : decode cX12_port 144 = .ok (.iconst 1, 1) := by decide +kernel
theorem dX12_port_145 : decode cX12_port 145 = .ok (.invokevirtual 114, 3) := by decide +kernel
theorem dX12_port_148 : decode cX12_port 148 = .ok (.aload_n 0, 1) := by decide +kernel
theorem dX12_port_149 : decode cX12_port 149 = .ok (.getfield 105, 3) := by decide +kernel
theorem dX12_port_152 : decode cX12_port 152 = .ok (.ifCond .le 19, 3) := by decide +kernel
theorem dX12_port_155 : decode cX12_port 155 = .ok (.aload_n 0, 1) := by decide +kernel
theorem dX12_port_156 : decode cX12_port 156 = .ok (.aload_n 0, 1) := by decide +kernel
theorem dX12_port_157 : decode cX12_port 157 = .ok (.getfield 105, 3) := by decide +kernel
theorem dX12_port_160 : decode cX12_port 160 = .ok (.putfield 170, 3) := by decide +kernel
theorem dX12_port_163 : decode cX12_port 163 = .ok (.ldc 173, 2) := by decide +kernel
theorem dX12_port_165 : decode cX12_port 165 = .ok (.aload_n 0, 1) := by decide +kernel
theorem dX12_port_166 : decode cX12_port 166 = .ok (.getfield 111, 3) := by decide +kernel
theorem dX12_port_169 : decode cX12_port 169 = .ok (.isub, 1) := by decide +kernel
theorem dX12_port_170 : decode cX12_port 170 = .ok (.ireturn, 1) := by decide +kernel
theorem dX12_port_171 : decode cX12_port 171 = .ok (.iconst 0, 1) := by decide +kernel
theorem dX12_port_172 : decode cX12_port 172 = .ok (.istore_n 1, 1) := by decide +kernel
theorem dX12_port_173 : decode cX12_port 173 = .ok (.iload_n 1, 1) := by decide +kernel
theorem dX12_port_174 : decode cX12_port 174 = .ok (.bipush 39, 2) := by decide +kernel
theorem dX12_port_176 : decode cX12_port 176 = .ok (.if_icmp .ge 21, 3) := by decide +kernel
theorem dX12_port_179 : decode cX12_port 179 = .ok (.aload_n 0, 1) := by decide +kernel
theorem dX12_port_180 : decode cX12_port 180 = .ok (.getfield 19, 3) := by decide +kernel
theorem dX12_port_183 : decode cX12_port 183 = .ok (.iload_n 1, 1) := by decide +kernel
theorem dX12_port_184 : decode cX12_port 184 = .ok (.aload_n 0, 1) := by decide +kernel
theorem dX12_port_185 : decode cX12_port 185 = .ok (.getfield 22, 3) := by decide +kernel
theorem dX12_port_188 : decode cX12_port 188 = .ok (.iload_n 1, 1) := by decide +kernel
theorem dX12_port_189 : decode cX12_port 189 = .ok (.iaload, 1) := by decide +kernel
theorem dX12_port_190 : decode cX12_port 190 = .ok (.iastore, 1) := by decide +kernel
theorem dX12_port_191 : decode cX12_port 191 = .ok (.iinc 1 1, 3) := by decide +kernel
theorem dX12_port_194 : decode cX12_port 194 = .ok (.goto (-21), 3) := by decide +kernel
theorem dX12_port_197 : decode cX12_port 197 = .ok (.aload_n 0, 1) := by decide +kernel
theorem dX12_port_198 : decode cX12_port 198 = .ok (.getfield 19, 3) := by decide +kernel
theorem dX12_port_201 : decode cX12_port 201 = .ok (.iconst 4, 1) := by decide +kernel
theorem dX12_port_202 : decode cX12_port 202 = .ok (.iaload, 1) := by decide +kernel
theorem dX12_port_203 : decode cX12_port 203 = .ok (.ireturn, 1) := by decide +kernel
theorem dX12_fault_0 : decode cX12_fault 0 = .ok (.aload_n 0, 1) := by decide +kernel
theorem dX12_fault_1 : decode cX12_fault 1 = .ok (.iconst 0, 1) := by decide +kernel
theorem dX12_fault_2 : decode cX12_fault 2 = .ok (.putfield 47, 3) := by decide +kernel
theorem dX12_fault_5 : decode cX12_fault 5 = .ok (.aload_n 0, 1) := by decide +kernel
theorem dX12_fault_6 : decode cX12_fault 6 = .ok (.getfield 170, 3) := by decide +kernel
theorem dX12_fault_9 : decode cX12_fault 9 = .ok (.ireturn, 1) := by decide +kernel
theorem dX12_isThere_0 : decode cX12_isThere 0 = .ok (.aload_n 0, 1) := by decide +kernel
theorem dX12_isThere_1 : decode cX12_isThere 1 = .ok (.getfield 19, 3) := by decide +kernel
theorem dX12_isThere_4 : decode cX12_isThere 4 = .ok (.iconst 2, 1) := by decide +kernel
theorem dX12_isThere_5 : decode cX12_isThere 5 = .ok (.iaload, 1) := by decide +kernel
theorem dX12_isThere_6 : decode cX12_isThere 6 = .ok (.ifCond .le 7, 3) := by decide +kernel
theorem dX12_isThere_9 : decode cX12_isThere 9 = .ok (.iconst 1, 1) := by decide +kernel
theorem dX12_isThere_10 : decode cX12_isThere 10 = .ok (.goto 4, 3) := by decide +kernel
theorem dX12_isThere_13 : decode cX12_isThere 13 = .ok (.iconst 0, 1) := by decide +kernel
theorem dX12_isThere_14 : decode cX12_isThere 14 = .ok (.ireturn, 1) := by decide +kernel
theorem dX12_isThing_0 : decode cX12_isThing 0 = .ok (.iload_n 1, 1) := by decide +kernel
theorem dX12_isThing_1 : decode cX12_isThing 1 = .ok (.i2l, 1) := by decide +kernel
theorem dX12_isThing_2 : decode cX12_isThing 2 = .ok (.lconst 0, 1) := by decide +kernel
theorem dX12_isThing_3 : decode cX12_isThing 3 = .ok (.aload_n 0, 1) := by decide +kernel
theorem dX12_isThing_4 : decode cX12_isThing 4 = .ok (.getfield 19, 3) := by decide +kernel
theorem dX12_isThing_7 : decode cX12_isThing 7 = .ok (.iconst 3, 1) := by decide +kernel
theorem dX12_isThing_8 : decode cX12_isThing 8 = .ok (.iaload, 1) := by decide +kernel
theorem dX12_isThing_9 : decode cX12_isThing 9 = .ok (.iconst 1, 1) := by decide +kernel
theorem dX12_isThing_10 : decode cX12_isThing 10 = .ok (.isub, 1) := by decide +kernel
theorem dX12_isThing_11 : decode cX12_isThing 11 = .ok (.i2l, 1) := by decide +kernel
theorem dX12_isThing_12 : decode cX12_isThing 12 = .ok (.invokestatic 57, 3) := by decide +kernel
theorem dX12_isThing_15 : decode cX12_isThing 15 = .ok (.ireturn, 1) := by decide +kernel
theorem dX12_isDay_0 : decode cX12_isDay 0 = .ok (.iload_n 1, 1) := by decide +kernel
theorem dX12_isDay_1 : decode cX12_isDay 1 = .ok (.i2l, 1) := by decide +kernel
theorem dX12_isDay_2 : decode cX12_isDay 2 = .ok (.lconst 0, 1) := by decide +kernel
theorem dX12_isDay_3 : decode cX12_isDay 3 = .ok (.aload_n 0, 1) := by decide +kernel
theorem dX12_isDay_4 : decode cX12_isDay 4 = .ok (.getfield 19, 3) := by decide +kernel
theorem dX12_isDay_7 : decode cX12_isDay 7 = .ok (.iconst 4, 1) := by decide +kernel
theorem dX12_isDay_8 : decode cX12_isDay 8 = .ok (.iaload, 1) := by decide +kernel
theorem dX12_isDay_9 : decode cX12_isDay 9 = .ok (.iconst 1, 1) := by decide +kernel
theorem dX12_isDay_10 : decode cX12_isDay 10 = .ok (.isub, 1) := by decide +kernel
theorem dX12_isDay_11 : decode cX12_isDay 11 = .ok (.i2l, 1) := by decide +kernel
theorem dX12_isDay_12 : decode cX12_isDay 12 = .ok (.invokestatic 57, 3) := by decide +kernel
theorem dX12_isDay_15 : decode cX12_isDay 15 = .ok (.ireturn, 1) := by decide +kernel
theorem dX12_isSet_0 : decode cX12_isSet 0 = .ok (.iload_n 1, 1) := by decide +kernel
theorem dX12_isSet_1 : decode cX12_isSet 1 = .ok (.i2l, 1) := by decide +kernel
theorem dX12_isSet_2 : decode cX12_isSet 2 = .ok (.lconst 0, 1) := by decide +kernel
theorem dX12_isSet_3 : decode cX12_isSet 3 = .ok (.iconst 1, 1) := by decide +kernel
theorem dX12_isSet_4 : decode cX12_isSet 4 = .ok (.aload_n 0, 1) := by decide +kernel
theorem dX12_isSet_5 : decode cX12_isSet 5 = .ok (.getfield 19, 3) := by decide +kernel
theorem dX12_isSet_8 : decode cX12_isSet 8 = .ok (.iconst 3, 1) := by decide +kernel
theorem dX12_isSet_9 : decode cX12_isSet 9 = .ok (.iaload, 1) := by decide +kernel
theorem dX12_isSet_10 : decode cX12_isSet 10 = .ok (.ishl, 1) := by decide +kernel
theorem dX12_isSet_11 : decode cX12_isSet 11 = .ok (.iconst 1, 1) := by decide +kernel
theorem dX12_isSet_12 : decode cX12_isSet 12 = .ok (.isub, 1) := by decide +kernel
theorem dX12_isSet_13 : decode cX12_isSet 13 = .ok (.i2l, 1) := by decide +kernel
theorem dX12_isSet_14 : decode cX12_isSet 14 = .ok (.invokestatic 57, 3) := by decide +kernel
theorem dX12_isSet_17 : decode cX12_isSet 17 = .ok (.ireturn, 1) := by decide +kernel
theorem dX12_kindOf_0 : decode cX12_kindOf 0 = .ok (.aload_n 0, 1) := by decide +kernel
theorem dX12_kindOf_1 : decode cX12_kindOf 1 = .ok (.getfield 19, 3) := by decide +kernel
theorem dX12_kindOf_4 : decode cX12_kindOf 4 = .ok (.iconst 5, 1) := by decide +kernel
theorem dX12_kindOf_5 : decode cX12_kindOf 5 = .ok (.iconst 2, 1) := by decide +kernel
theorem dX12_kindOf_6 : decode cX12_kindOf 6 = .ok (.iload_n 1, 1) := by decide +kernel
theorem dX12_kindOf_7 : decode cX12_kindOf 7 = .ok (.imul, 1) := by decide +kernel
theorem dX12_kindOf_8 : decode cX12_kindOf 8 = .ok (.iadd, 1) := by decide +kernel
theorem dX12_kindOf_9 : decode cX12_kindOf 9 = .ok (.iaload, 1) := by decide +kernel
theorem dX12_kindOf_10 : decode cX12_kindOf 10 = .ok (.ireturn, 1) := by decide +kernel
theorem dX12_layTruly_0 : decode cX12_layTruly 0 = .ok (.iconst 0, 1) := by decide +kernel
theorem dX12_layTruly_1 : decode cX12_layTruly 1 = .ok (.istore_n 1, 1) := by decide +kernel
theorem dX12_layTruly_2 : decode cX12_layTruly 2 = .ok (.iload_n 1, 1) := by decide +kernel
theorem dX12_layTruly_3 : decode cX12_layTruly 3 = .ok (.aload_n 0, 1) := by decide +kernel
theorem dX12_layTruly_4 : decode cX12_layTruly 4 = .ok (.getfield 19, 3) := by decide +kernel
theorem dX12_layTruly_7 : decode cX12_layTruly 7 = .ok (.iconst 3, 1) := by decide +kernel
theorem dX12_layTruly_8 : decode cX12_layTruly 8 = .ok (.iaload, 1) := by decide +kernel
theorem dX12_layTruly_9 : decode cX12_layTruly 9 = .ok (.if_icmp .ge 27, 3) := by decide +kernel
theorem dX12_layTruly_12 : decode cX12_layTruly 12 = .ok (.aload_n 0, 1) := by decide +kernel
theorem dX12_layTruly_13 : decode cX12_layTruly 13 = .ok (.getfield 28, 3) := by decide +kernel
theorem dX12_layTruly_16 : decode cX12_layTruly 16 = .ok (.iload_n 1, 1) := by decide +kernel
theorem dX12_layTruly_17 : decode cX12_layTruly 17 = .ok (.aload_n 0, 1) := by decide +kernel
theorem dX12_layTruly_18 : decode cX12_layTruly 18 = .ok (.getfield 19, 3) := by decide +kernel
theorem dX12_layTruly_21 : decode cX12_layTruly 21 = .ok (.iconst 5, 1) := by decide +kernel
theorem dX12_layTruly_22 : decode cX12_layTruly 22 = .ok (.iconst 2, 1) := by decide +kernel
theorem dX12_layTruly_23 : decode cX12_layTruly 23 = .ok (.iload_n 1, 1) := by decide +kernel
theorem dX12_layTruly_24 : decode cX12_layTruly 24 = .ok (.imul, 1) := by decide +kernel
theorem dX12_layTruly_25 : decode cX12_layTruly 25 = .ok (.iadd, 1) := by decide +kernel
theorem dX12_layTruly_26 : decode cX12_layTruly 26 = .ok (.iconst 1, 1) := by decide +kernel
theorem dX12_layTruly_27 : decode cX12_layTruly 27 = .ok (.iadd, 1) := by decide +kernel
theorem dX12_layTruly_28 : decode cX12_layTruly 28 = .ok (.iaload, 1) := by decide +kernel
theorem dX12_layTruly_29 : decode cX12_layTruly 29 = .ok (.iastore, 1) := by decide +kernel
theorem dX12_layTruly_30 : decode cX12_layTruly 30 = .ok (.iinc 1 1, 3) := by decide +kernel
theorem dX12_layTruly_33 : decode cX12_layTruly 33 = .ok (.goto (-31), 3) := by decide +kernel
theorem dX12_layTruly_36 : decode cX12_layTruly 36 = .ok (.aload_n 0, 1) := by decide +kernel
theorem dX12_layTruly_37 : decode cX12_layTruly 37 = .ok (.aload_n 0, 1) := by decide +kernel
theorem dX12_layTruly_38 : decode cX12_layTruly 38 = .ok (.getfield 19, 3) := by decide +kernel
theorem dX12_layTruly_41 : decode cX12_layTruly 41 = .ok (.iconst 0, 1) := by decide +kernel
theorem dX12_layTruly_42 : decode cX12_layTruly 42 = .ok (.iaload, 1) := by decide +kernel
theorem dX12_layTruly_43 : decode cX12_layTruly 43 = .ok (.putfield 174, 3) := by decide +kernel
theorem dX12_layTruly_46 : decode cX12_layTruly 46 = .ok (.aload_n 0, 1) := by decide +kernel
theorem dX12_layTruly_47 : decode cX12_layTruly 47 = .ok (.aload_n 0, 1) := by decide +kernel
theorem dX12_layTruly_48 : decode cX12_layTruly 48 = .ok (.getfield 19, 3) := by decide +kernel
theorem dX12_layTruly_51 : decode cX12_layTruly 51 = .ok (.iconst 1, 1) := by decide +kernel
theorem dX12_layTruly_52 : decode cX12_layTruly 52 = .ok (.iaload, 1) := by decide +kernel
theorem dX12_layTruly_53 : decode cX12_layTruly 53 = .ok (.putfield 177, 3) := by decide +kernel
theorem dX12_layTruly_56 : decode cX12_layTruly 56 = .ok (.aload_n 0, 1) := by decide +kernel
theorem dX12_layTruly_57 : decode cX12_layTruly 57 = .ok (.ldc 83, 2) := by decide +kernel
theorem dX12_layTruly_59 : decode cX12_layTruly 59 = .ok (.putfield 180, 3) := by decide +kernel
theorem dX12_layTruly_62 : decode cX12_layTruly 62 = .ok (.return_, 1) := by decide +kernel
theorem dX12_layWorld_0 : decode cX12_layWorld 0 = .ok (.iconst 0, 1) := by decide +kernel
theorem dX12_layWorld_1 : decode cX12_layWorld 1 = .ok (.istore_n 2, 1) := by decide +kernel
theorem dX12_layWorld_2 : decode cX12_layWorld 2 = .ok (.iload_n 2, 1) := by decide +kernel
theorem dX12_layWorld_3 : decode cX12_layWorld 3 = .ok (.aload_n 0, 1) := by decide +kernel
theorem dX12_layWorld_4 : decode cX12_layWorld 4 = .ok (.getfield 19, 3) := by decide +kernel
theorem dX12_layWorld_7 : decode cX12_layWorld 7 = .ok (.iconst 3, 1) := by decide +kernel
theorem dX12_layWorld_8 : decode cX12_layWorld 8 = .ok (.iaload, 1) := by decide +kernel
theorem dX12_layWorld_9 : decode cX12_layWorld 9 = .ok (.if_icmp .ge 23, 3) := by decide +kernel
theorem dX12_layWorld_12 : decode cX12_layWorld 12 = .ok (.aload_n 0, 1) := by decide +kernel
theorem dX12_layWorld_13 : decode cX12_layWorld 13 = .ok (.getfield 28, 3) := by decide +kernel
theorem dX12_layWorld_16 : decode cX12_layWorld 16 = .ok (.iload_n 2, 1) := by decide +kernel
theorem dX12_layWorld_17 : decode cX12_layWorld 17 = .ok (.iload_n 1, 1) := by decide +kernel
theorem dX12_layWorld_18 : decode cX12_layWorld 18 = .ok (.iconst 3, 1) := by decide +kernel
theorem dX12_layWorld_19 : decode cX12_layWorld 19 = .ok (.iload_n 2, 1) := by decide +kernel
theorem dX12_layWorld_20 : decode cX12_layWorld 20 = .ok (.imul, 1) := by decide +kernel
theorem dX12_layWorld_21 : decode cX12_layWorld 21 = .ok (.ishr, 1) := by decide +kernel
theorem dX12_layWorld_22 : decode cX12_layWorld 22 = .ok (.bipush 7, 2) := by decide +kernel
theorem dX12_layWorld_24 : decode cX12_layWorld 24 = .ok (.iand, 1) := by decide +kernel
theorem dX12_layWorld_25 : decode cX12_layWorld 25 = .ok (.iastore, 1) := by decide +kernel
theorem dX12_layWorld_26 : decode cX12_layWorld 26 = .ok (.iinc 2 1, 3) := by decide +kernel
theorem dX12_layWorld_29 : decode cX12_layWorld 29 = .ok (.goto (-27), 3) := by decide +kernel
theorem dX12_layWorld_32 : decode cX12_layWorld 32 = .ok (.return_, 1) := by decide +kernel
theorem dX12_worlds_0 : decode cX12_worlds 0 = .ok (.iconst 1, 1) := by decide +kernel
theorem dX12_worlds_1 : decode cX12_worlds 1 = .ok (.iconst 3, 1) := by decide +kernel
theorem dX12_worlds_2 : decode cX12_worlds 2 = .ok (.aload_n 0, 1) := by decide +kernel
theorem dX12_worlds_3 : decode cX12_worlds 3 = .ok (.getfield 19, 3) := by decide +kernel
theorem dX12_worlds_6 : decode cX12_worlds 6 = .ok (.iconst 3, 1) := by decide +kernel
theorem dX12_worlds_7 : decode cX12_worlds 7 = .ok (.iaload, 1) := by decide +kernel
theorem dX12_worlds_8 : decode cX12_worlds 8 = .ok (.imul, 1) := by decide +kernel
theorem dX12_worlds_9 : decode cX12_worlds 9 = .ok (.ishl, 1) := by decide +kernel
theorem dX12_worlds_10 : decode cX12_worlds 10 = .ok (.ireturn, 1) := by decide +kernel
theorem dX12_heavyOn_0 : decode cX12_heavyOn 0 = .ok (.aload_n 0, 1) := by decide +kernel
theorem dX12_heavyOn_1 : decode cX12_heavyOn 1 = .ok (.iload_n 1, 1) := by decide +kernel
theorem dX12_heavyOn_2 : decode cX12_heavyOn 2 = .ok (.invokevirtual 183, 3) := by decide +kernel
theorem dX12_heavyOn_5 : decode cX12_heavyOn 5 = .ok (.tableswitch 79 2 5 #[31, 58, 79, 69], 31) := by decide +kernel
theorem dX12_heavyOn_36 : decode cX12_heavyOn 36 = .ok (.aload_n 0, 1) := by decide +kernel
theorem dX12_heavyOn_37 : decode cX12_heavyOn 37 = .ok (.getfield 28, 3) := by decide +kernel
theorem dX12_heavyOn_40 : decode cX12_heavyOn 40 = .ok (.iload_n 1, 1) := by decide +kernel
theorem dX12_heavyOn_41 : decode cX12_heavyOn 41 = .ok (.iaload, 1) := by decide +kernel
theorem dX12_heavyOn_42 : decode cX12_heavyOn 42 = .ok (.iload_n 2, 1) := by decide +kernel
theorem dX12_heavyOn_43 : decode cX12_heavyOn 43 = .ok (.iconst 3, 1) := by decide +kernel
theorem dX12_heavyOn_44 : decode cX12_heavyOn 44 = .ok (.idiv, 1) := by decide +kernel
theorem dX12_heavyOn_45 : decode cX12_heavyOn 45 = .ok (.if_icmp .ge 7, 3) := by decide +kernel
theorem dX12_heavyOn_48 : decode cX12_heavyOn 48 = .ok (.iconst 0, 1) := by decide +kernel
theorem dX12_heavyOn_49 : decode cX12_heavyOn 49 = .ok (.goto 13, 3) := by decide +kernel
theorem dX12_heavyOn_52 : decode cX12_heavyOn 52 = .ok (.aload_n 0, 1) := by decide +kernel
theorem dX12_heavyOn_53 : decode cX12_heavyOn 53 = .ok (.getfield 28, 3) := by decide +kernel
theorem dX12_heavyOn_56 : decode cX12_heavyOn 56 = .ok (.iload_n 1, 1) := by decide +kernel
theorem dX12_heavyOn_57 : decode cX12_heavyOn 57 = .ok (.iaload, 1) := by decide +kernel
theorem dX12_heavyOn_58 : decode cX12_heavyOn 58 = .ok (.iload_n 2, 1) := by decide +kernel
theorem dX12_heavyOn_59 : decode cX12_heavyOn 59 = .ok (.iconst 3, 1) := by decide +kernel
theorem dX12_heavyOn_60 : decode cX12_heavyOn 60 = .ok (.idiv, 1) := by decide +kernel
theorem dX12_heavyOn_61 : decode cX12_heavyOn 61 = .ok (.isub, 1) := by decide +kernel
theorem dX12_heavyOn_62 : decode cX12_heavyOn 62 = .ok (.ireturn, 1) := by decide +kernel
theorem dX12_heavyOn_63 : decode cX12_heavyOn 63 = .ok (.aload_n 0, 1) := by decide +kernel
theorem dX12_heavyOn_64 : decode cX12_heavyOn 64 = .ok (.getfield 28, 3) := by decide +kernel
theorem dX12_heavyOn_67 : decode cX12_heavyOn 67 = .ok (.iload_n 1, 1) := by decide +kernel
theorem dX12_heavyOn_68 : decode cX12_heavyOn 68 = .ok (.iaload, 1) := by decide +kernel
theorem dX12_heavyOn_69 : decode cX12_heavyOn 69 = .ok (.iload_n 2, 1) := by decide +kernel
theorem dX12_heavyOn_70 : decode cX12_heavyOn 70 = .ok (.iconst 4, 1) := by decide +kernel
theorem dX12_heavyOn_71 : decode cX12_heavyOn 71 = .ok (.idiv, 1) := by decide +kernel
theorem dX12_heavyOn_72 : decode cX12_heavyOn 72 = .ok (.iadd, 1) := by decide +kernel
theorem dX12_heavyOn_73 : decode cX12_heavyOn 73 = .ok (.ireturn, 1) := by decide +kernel
theorem dX12_heavyOn_74 : decode cX12_heavyOn 74 = .ok (.bipush 10, 2) := by decide +kernel
theorem dX12_heavyOn_76 : decode cX12_heavyOn 76 = .ok (.aload_n 0, 1) := by decide +kernel
theorem dX12_heavyOn_77 : decode cX12_heavyOn 77 = .ok (.getfield 28, 3) := by decide +kernel
theorem dX12_heavyOn_80 : decode cX12_heavyOn 80 = .ok (.iload_n 1, 1) := by decide +kernel
theorem dX12_heavyOn_81 : decode cX12_heavyOn 81 = .ok (.iaload, 1) := by decide +kernel
theorem dX12_heavyOn_82 : decode cX12_heavyOn 82 = .ok (.imul, 1) := by decide +kernel
theorem dX12_heavyOn_83 : decode cX12_heavyOn 83 = .ok (.ireturn, 1) := by decide +kernel
theorem dX12_heavyOn_84 : decode cX12_heavyOn 84 = .ok (.aload_n 0, 1) := by decide +kernel
theorem dX12_heavyOn_85 : decode cX12_heavyOn 85 = .ok (.getfield 28, 3) := by decide +kernel
theorem dX12_heavyOn_88 : decode cX12_heavyOn 88 = .ok (.iload_n 1, 1) := by decide +kernel
theorem dX12_heavyOn_89 : decode cX12_heavyOn 89 = .ok (.iaload, 1) := by decide +kernel
theorem dX12_heavyOn_90 : decode cX12_heavyOn 90 = .ok (.ireturn, 1) := by decide +kernel
theorem dX12_loadOn_0 : decode cX12_loadOn 0 = .ok (.iload_n 1, 1) := by decide +kernel
theorem dX12_loadOn_1 : decode cX12_loadOn 1 = .ok (.aload_n 0, 1) := by decide +kernel
theorem dX12_loadOn_2 : decode cX12_loadOn 2 = .ok (.getfield 180, 3) := by decide +kernel
theorem dX12_loadOn_5 : decode cX12_loadOn 5 = .ok (.if_icmp .ne 7, 3) := by decide +kernel
theorem dX12_loadOn_8 : decode cX12_loadOn 8 = .ok (.iconst 1, 1) := by decide +kernel
theorem dX12_loadOn_9 : decode cX12_loadOn 9 = .ok (.goto 4, 3) := by decide +kernel
theorem dX12_loadOn_12 : decode cX12_loadOn 12 = .ok (.iconst 0, 1) := by decide +kernel
theorem dX12_loadOn_13 : decode cX12_loadOn 13 = .ok (.istore_n 2, 1) := by decide +kernel
theorem dX12_loadOn_14 : decode cX12_loadOn 14 = .ok (.iconst 0, 1) := by decide +kernel
theorem dX12_loadOn_15 : decode cX12_loadOn 15 = .ok (.istore_n 3, 1) := by decide +kernel
theorem dX12_loadOn_16 : decode cX12_loadOn 16 = .ok (.iload_n 3, 1) := by decide +kernel
theorem dX12_loadOn_17 : decode cX12_loadOn 17 = .ok (.aload_n 0, 1) := by decide +kernel
theorem dX12_loadOn_18 : decode cX12_loadOn 18 = .ok (.getfield 19, 3) := by decide +kernel
theorem dX12_loadOn_21 : decode cX12_loadOn 21 = .ok (.iconst 3, 1) := by decide +kernel
theorem dX12_loadOn_22 : decode cX12_loadOn 22 = .ok (.iaload, 1) := by decide +kernel
theorem dX12_loadOn_23 : decode cX12_loadOn 23 = .ok (.if_icmp .ge 39, 3) := by decide +kernel
theorem dX12_loadOn_26 : decode cX12_loadOn 26 = .ok (.iload_n 2, 1) := by decide +kernel
theorem dX12_loadOn_27 : decode cX12_loadOn 27 = .ok (.aload_n 0, 1) := by decide +kernel
theorem dX12_loadOn_28 : decode cX12_loadOn 28 = .ok (.getfield 19, 3) := by decide +kernel
theorem dX12_loadOn_31 : decode cX12_loadOn 31 = .ok (.bipush 13, 2) := by decide +kernel
theorem dX12_loadOn_33 : decode cX12_loadOn 33 = .ok (.iload_n 1, 1) := by decide +kernel
theorem dX12_loadOn_34 : decode cX12_loadOn 34 = .ok (.iadd, 1) := by decide +kernel
theorem dX12_loadOn_35 : decode cX12_loadOn 35 = .ok (.iaload, 1) := by decide +kernel
theorem dX12_loadOn_36 : decode cX12_loadOn 36 = .ok (.iload_n 3, 1) := by decide +kernel
theorem dX12_loadOn_37 : decode cX12_loadOn 37 = .ok (.ishr, 1) := by decide +kernel
theorem dX12_loadOn_38 : decode cX12_loadOn 38 = .ok (.iconst 1, 1) := by decide +kernel
theorem dX12_loadOn_39 : decode cX12_loadOn 39 = .ok (.iand, 1) := by decide +kernel
theorem dX12_loadOn_40 : decode cX12_loadOn 40 = .ok (.iconst 1, 1) := by decide +kernel
theorem dX12_loadOn_41 : decode cX12_loadOn 41 = .ok (.if_icmp .ne 12, 3) := by decide +kernel
theorem dX12_loadOn_44 : decode cX12_loadOn 44 = .ok (.aload_n 0, 1) := by decide +kernel
theorem dX12_loadOn_45 : decode cX12_loadOn 45 = .ok (.iload_n 3, 1) := by decide +kernel
theorem dX12_loadOn_46 : decode cX12_loadOn 46 = .ok (.iload_n 1, 1) := by decide +kernel
theorem dX12_loadOn_47 : decode cX12_loadOn 47 = .ok (.invokevirtual 186, 3) := by decide +kernel
theorem dX12_loadOn_50 : decode cX12_loadOn 50 = .ok (.goto 4, 3) := by decide +kernel
theorem dX12_loadOn_53 : decode cX12_loadOn 53 = .ok (.iconst 0, 1) := by decide +kernel
theorem dX12_loadOn_54 : decode cX12_loadOn 54 = .ok (.iadd, 1) := by decide +kernel
theorem dX12_loadOn_55 : decode cX12_loadOn 55 = .ok (.istore_n 2, 1) := by decide +kernel
theorem dX12_loadOn_56 : decode cX12_loadOn 56 = .ok (.iinc 3 1, 3) := by decide +kernel
theorem dX12_loadOn_59 : decode cX12_loadOn 59 = .ok (.goto (-43), 3) := by decide +kernel
theorem dX12_loadOn_62 : decode cX12_loadOn 62 = .ok (.iload_n 2, 1) := by decide +kernel
theorem dX12_loadOn_63 : decode cX12_loadOn 63 = .ok (.ireturn, 1) := by decide +kernel
theorem dX12_isFresh_0 : decode cX12_isFresh 0 = .ok (.iconst 0, 1) := by decide +kernel
theorem dX12_isFresh_1 : decode cX12_isFresh 1 = .ok (.istore_n 2, 1) := by decide +kernel
theorem dX12_isFresh_2 : decode cX12_isFresh 2 = .ok (.iconst 0, 1) := by decide +kernel
theorem dX12_isFresh_3 : decode cX12_isFresh 3 = .ok (.istore_n 3, 1) := by decide +kernel
theorem dX12_isFresh_4 : decode cX12_isFresh 4 = .ok (.iload_n 3, 1) := by decide +kernel
theorem dX12_isFresh_5 : decode cX12_isFresh 5 = .ok (.aload_n 0, 1) := by decide +kernel
theorem dX12_isFresh_6 : decode cX12_isFresh 6 = .ok (.getfield 19, 3) := by decide +kernel
theorem dX12_isFresh_9 : decode cX12_isFresh 9 = .ok (.iconst 3, 1) := by decide +kernel
theorem dX12_isFresh_10 : decode cX12_isFresh 10 = .ok (.iaload, 1) := by decide +kernel
theorem dX12_isFresh_11 : decode cX12_isFresh 11 = .ok (.if_icmp .ge 45, 3) := by decide +kernel
theorem dX12_isFresh_14 : decode cX12_isFresh 14 = .ok (.iload_n 2, 1) := by decide +kernel
theorem dX12_isFresh_15 : decode cX12_isFresh 15 = .ok (.ifCond .ne 29, 3) := by decide +kernel
theorem dX12_isFresh_18 : decode cX12_isFresh 18 = .ok (.aload_n 0, 1) := by decide +kernel
theorem dX12_isFresh_19 : decode cX12_isFresh 19 = .ok (.getfield 19, 3) := by decide +kernel
theorem dX12_isFresh_22 : decode cX12_isFresh 22 = .ok (.bipush 13, 2) := by decide +kernel
theorem dX12_isFresh_24 : decode cX12_isFresh 24 = .ok (.iload_n 1, 1) := by decide +kernel
theorem dX12_isFresh_25 : decode cX12_isFresh 25 = .ok (.iadd, 1) := by decide +kernel
theorem dX12_isFresh_26 : decode cX12_isFresh 26 = .ok (.iaload, 1) := by decide +kernel
theorem dX12_isFresh_27 : decode cX12_isFresh 27 = .ok (.iload_n 3, 1) := by decide +kernel
theorem dX12_isFresh_28 : decode cX12_isFresh 28 = .ok (.ishr, 1) := by decide +kernel
theorem dX12_isFresh_29 : decode cX12_isFresh 29 = .ok (.iconst 1, 1) := by decide +kernel
theorem dX12_isFresh_30 : decode cX12_isFresh 30 = .ok (.iand, 1) := by decide +kernel
theorem dX12_isFresh_31 : decode cX12_isFresh 31 = .ok (.iconst 1, 1) := by decide +kernel
theorem dX12_isFresh_32 : decode cX12_isFresh 32 = .ok (.if_icmp .ne 16, 3) := by decide +kernel
theorem dX12_isFresh_35 : decode cX12_isFresh 35 = .ok (.aload_n 0, 1) := by decide +kernel
theorem dX12_isFresh_36 : decode cX12_isFresh 36 = .ok (.iload_n 3, 1) := by decide +kernel
theorem dX12_isFresh_37 : decode cX12_isFresh 37 = .ok (.invokevirtual 183, 3) := by decide +kernel
theorem dX12_isFresh_40 : decode cX12_isFresh 40 = .ok (.iconst 4, 1) := by decide +kernel
theorem dX12_isFresh_41 : decode cX12_isFresh 41 = .ok (.if_icmp .ne 7, 3) := by decide +kernel
theorem dX12_isFresh_44 : decode cX12_isFresh 44 = .ok (.iconst 1, 1) := by decide +kernel
theorem dX12_isFresh_45 : decode cX12_isFresh 45 = .ok (.goto 4, 3) := by decide +kernel
theorem dX12_isFresh_48 : decode cX12_isFresh 48 = .ok (.iconst 0, 1) := by decide +kernel
theorem dX12_isFresh_49 : decode cX12_isFresh 49 = .ok (.istore_n 2, 1) := by decide +kernel
theorem dX12_isFresh_50 : decode cX12_isFresh 50 = .ok (.iinc 3 1, 3) := by decide +kernel
theorem dX12_isFresh_53 : decode cX12_isFresh 53 = .ok (.goto (-49), 3) := by decide +kernel
theorem dX12_isFresh_56 : decode cX12_isFresh 56 = .ok (.iload_n 2, 1) := by decide +kernel
theorem dX12_isFresh_57 : decode cX12_isFresh 57 = .ok (.ireturn, 1) := by decide +kernel
theorem dX12_shows_0 : decode cX12_shows 0 = .ok (.aload_n 0, 1) := by decide +kernel
theorem dX12_shows_1 : decode cX12_shows 1 = .ok (.iload_n 1, 1) := by decide +kernel
theorem dX12_shows_2 : decode cX12_shows 2 = .ok (.invokevirtual 189, 3) := by decide +kernel
theorem dX12_shows_5 : decode cX12_shows 5 = .ok (.istore_n 2, 1) := by decide +kernel
theorem dX12_shows_6 : decode cX12_shows 6 = .ok (.iload_n 1, 1) := by decide +kernel
theorem dX12_shows_7 : decode cX12_shows 7 = .ok (.istore_n 3, 1) := by decide +kernel
theorem dX12_shows_8 : decode cX12_shows 8 = .ok (.iconst 1, 1) := by decide +kernel
theorem dX12_shows_9 : decode cX12_shows 9 = .ok (.istore 4, 2) := by decide +kernel
theorem dX12_shows_11 : decode cX12_shows 11 = .ok (.iload 4, 2) := by decide +kernel
theorem dX12_shows_13 : decode cX12_shows 13 = .ok (.aload_n 0, 1) := by decide +kernel
theorem dX12_shows_14 : decode cX12_shows 14 = .ok (.getfield 174, 3) := by decide +kernel
theorem dX12_shows_17 : decode cX12_shows 17 = .ok (.if_icmp .gt 51, 3) := by decide +kernel
theorem dX12_shows_20 : decode cX12_shows 20 = .ok (.iload_n 3, 1) := by decide +kernel
theorem dX12_shows_21 : decode cX12_shows 21 = .ok (.ifCond .le 47, 3) := by decide +kernel
theorem dX12_shows_24 : decode cX12_shows 24 = .ok (.aload_n 0, 1) := by decide +kernel
theorem dX12_shows_25 : decode cX12_shows 25 = .ok (.iload_n 3, 1) := by decide +kernel
theorem dX12_shows_26 : decode cX12_shows 26 = .ok (.invokevirtual 192, 3) := by decide +kernel
theorem dX12_shows_29 : decode cX12_shows 29 = .ok (.ifCond .ne 39, 3) := by decide +kernel
theorem dX12_shows_32 : decode cX12_shows 32 = .ok (.iinc 3 (-1), 3) := by decide +kernel
theorem dX12_shows_35 : decode cX12_shows 35 = .ok (.iload_n 2, 1) := by decide +kernel
theorem dX12_shows_36 : decode cX12_shows 36 = .ok (.aload_n 0, 1) := by decide +kernel
theorem dX12_shows_37 : decode cX12_shows 37 = .ok (.getfield 177, 3) := by decide +kernel
theorem dX12_shows_40 : decode cX12_shows 40 = .ok (.iconst 1, 1) := by decide +kernel
theorem dX12_shows_41 : decode cX12_shows 41 = .ok (.if_icmp .ne 14, 3) := by decide +kernel
theorem dX12_shows_44 : decode cX12_shows 44 = .ok (.aload_n 0, 1) := by decide +kernel
theorem dX12_shows_45 : decode cX12_shows 45 = .ok (.iload_n 3, 1) := by decide +kernel
theorem dX12_shows_46 : decode cX12_shows 46 = .ok (.invokevirtual 189, 3) := by decide +kernel
theorem dX12_shows_49 : decode cX12_shows 49 = .ok (.iload 4, 2) := by decide +kernel
theorem dX12_shows_51 : decode cX12_shows 51 = .ok (.ishr, 1) := by decide +kernel
theorem dX12_shows_52 : decode cX12_shows 52 = .ok (.goto 8, 3) := by decide +kernel
theorem dX12_shows_55 : decode cX12_shows 55 = .ok (.aload_n 0, 1) := by decide +kernel
theorem dX12_shows_56 : decode cX12_shows 56 = .ok (.iload_n 3, 1) := by decide +kernel
theorem dX12_shows_57 : decode cX12_shows 57 = .ok (.invokevirtual 189, 3) := by decide +kernel
theorem dX12_shows_60 : decode cX12_shows 60 = .ok (.iadd, 1) := by decide +kernel
theorem dX12_shows_61 : decode cX12_shows 61 = .ok (.istore_n 2, 1) := by decide +kernel
theorem dX12_shows_62 : decode cX12_shows 62 = .ok (.iinc 4 1, 3) := by decide +kernel
theorem dX12_shows_65 : decode cX12_shows 65 = .ok (.goto (-54), 3) := by decide +kernel
theorem dX12_shows_68 : decode cX12_shows 68 = .ok (.iload_n 2, 1) := by decide +kernel
theorem dX12_shows_69 : decode cX12_shows 69 = .ok (.aload_n 0, 1) := by decide +kernel
theorem dX12_shows_70 : decode cX12_shows 70 = .ok (.getfield 19, 3) := by decide +kernel
theorem dX12_shows_73 : decode cX12_shows 73 = .ok (.iconst 2, 1) := by decide +kernel
theorem dX12_shows_74 : decode cX12_shows 74 = .ok (.iaload, 1) := by decide +kernel
theorem dX12_shows_75 : decode cX12_shows 75 = .ok (.irem, 1) := by decide +kernel
theorem dX12_shows_76 : decode cX12_shows 76 = .ok (.ireturn, 1) := by decide +kernel
theorem dX12_day_0 : decode cX12_day 0 = .ok (.aload_n 0, 1) := by decide +kernel
theorem dX12_day_1 : decode cX12_day 1 = .ok (.iconst 0, 1) := by decide +kernel
theorem dX12_day_2 : decode cX12_day 2 = .ok (.putfield 47, 3) := by decide +kernel
theorem dX12_day_5 : decode cX12_day 5 = .ok (.aload_n 0, 1) := by decide +kernel
theorem dX12_day_6 : decode cX12_day 6 = .ok (.invokevirtual 195, 3) := by decide +kernel
theorem dX12_day_9 : decode cX12_day 9 = .ok (.ifCond .ne 6, 3) := by decide +kernel
theorem dX12_day_12 : decode cX12_day 12 = .ok (.ldc 199, 2) := by decide +kernel
theorem dX12_day_14 : decode cX12_day 14 = .ok (.ireturn, 1) := by decide +kernel
theorem dX12_day_15 : decode cX12_day 15 = .ok (.aload_n 0, 1) := by decide +kernel
theorem dX12_day_16 : decode cX12_day 16 = .ok (.iload_n 1, 1) := by decide +kernel
theorem dX12_day_17 : decode cX12_day 17 = .ok (.invokevirtual 200, 3) := by decide +kernel
theorem dX12_day_20 : decode cX12_day 20 = .ok (.ifCond .ne 6, 3) := by decide +kernel
theorem dX12_day_23 : decode cX12_day 23 = .ok (.ldc 67, 2) := by decide +kernel
theorem dX12_day_25 : decode cX12_day 25 = .ok (.ireturn, 1) := by decide +kernel
theorem dX12_day_26 : decode cX12_day 26 = .ok (.aload_n 0, 1) := by decide +kernel
theorem dX12_day_27 : decode cX12_day 27 = .ok (.getfield 19, 3) := by decide +kernel
theorem dX12_day_30 : decode cX12_day 30 = .ok (.iconst 4, 1) := by decide +kernel
theorem dX12_day_31 : decode cX12_day 31 = .ok (.iaload, 1) := by decide +kernel
theorem dX12_day_32 : decode cX12_day 32 = .ok (.bipush 24, 2) := by decide +kernel
theorem dX12_day_34 : decode cX12_day 34 = .ok (.if_icmp .ne 6, 3) := by decide +kernel
theorem dX12_day_37 : decode cX12_day 37 = .ok (.ldc 77, 2) := by decide +kernel
theorem dX12_day_39 : decode cX12_day 39 = .ok (.ireturn, 1) := by decide +kernel
theorem dX12_day_40 : decode cX12_day 40 = .ok (.aload_n 0, 1) := by decide +kernel
theorem dX12_day_41 : decode cX12_day 41 = .ok (.getfield 19, 3) := by decide +kernel
theorem dX12_day_44 : decode cX12_day 44 = .ok (.bipush 13, 2) := by decide +kernel
theorem dX12_day_46 : decode cX12_day 46 = .ok (.aload_n 0, 1) := by decide +kernel
theorem dX12_day_47 : decode cX12_day 47 = .ok (.getfield 19, 3) := by decide +kernel
theorem dX12_day_50 : decode cX12_day 50 = .ok (.iconst 4, 1) := by decide +kernel
theorem dX12_day_51 : decode cX12_day 51 = .ok (.iaload, 1) := by decide +kernel
theorem dX12_day_52 : decode cX12_day 52 = .ok (.iadd, 1) := by decide +kernel
theorem dX12_day_53 : decode cX12_day 53 = .ok (.iload_n 1, 1) := by decide +kernel
theorem dX12_day_54 : decode cX12_day 54 = .ok (.iastore, 1) := by decide +kernel
theorem dX12_day_55 : decode cX12_day 55 = .ok (.aload_n 0, 1) := by decide +kernel
theorem dX12_day_56 : decode cX12_day 56 = .ok (.getfield 19, 3) := by decide +kernel
theorem dX12_day_59 : decode cX12_day 59 = .ok (.iconst 4, 1) := by decide +kernel
theorem dX12_day_60 : decode cX12_day 60 = .ok (.dup2, 1) := by decide +kernel
theorem dX12_day_61 : decode cX12_day 61 = .ok (.iaload, 1) := by decide +kernel
theorem dX12_day_62 : decode cX12_day 62 = .ok (.iconst 1, 1) := by decide +kernel
theorem dX12_day_63 : decode cX12_day 63 = .ok (.iadd, 1) := by decide +kernel
theorem dX12_day_64 : decode cX12_day 64 = .ok (.iastore, 1) := by decide +kernel
theorem dX12_day_65 : decode cX12_day 65 = .ok (.aload_n 0, 1) := by decide +kernel
theorem dX12_day_66 : decode cX12_day 66 = .ok (.invokevirtual 203, 3) := by decide +kernel
theorem dX12_day_69 : decode cX12_day 69 = .ok (.aload_n 0, 1) := by decide +kernel
theorem dX12_day_70 : decode cX12_day 70 = .ok (.aload_n 0, 1) := by decide +kernel
theorem dX12_day_71 : decode cX12_day 71 = .ok (.getfield 19, 3) := by decide +kernel
theorem dX12_day_74 : decode cX12_day 74 = .ok (.iconst 4, 1) := by decide +kernel
theorem dX12_day_75 : decode cX12_day 75 = .ok (.iaload, 1) := by decide +kernel
theorem dX12_day_76 : decode cX12_day 76 = .ok (.iconst 1, 1) := by decide +kernel
theorem dX12_day_77 : decode cX12_day 77 = .ok (.isub, 1) := by decide +kernel
theorem dX12_day_78 : decode cX12_day 78 = .ok (.invokevirtual 206, 3) := by decide +kernel
theorem dX12_day_81 : decode cX12_day 81 = .ok (.ireturn, 1) := by decide +kernel
theorem dX12_undo_0 : decode cX12_undo 0 = .ok (.aload_n 0, 1) := by decide +kernel
theorem dX12_undo_1 : decode cX12_undo 1 = .ok (.iconst 0, 1) := by decide +kernel
theorem dX12_undo_2 : decode cX12_undo 2 = .ok (.putfield 47, 3) := by decide +kernel
theorem dX12_undo_5 : decode cX12_undo 5 = .ok (.aload_n 0, 1) := by decide +kernel
theorem dX12_undo_6 : decode cX12_undo 6 = .ok (.getfield 19, 3) := by decide +kernel
theorem dX12_undo_9 : decode cX12_undo 9 = .ok (.iconst 4, 1) := by decide +kernel
theorem dX12_undo_10 : decode cX12_undo 10 = .ok (.iaload, 1) := by decide +kernel
theorem dX12_undo_11 : decode cX12_undo 11 = .ok (.ifCond .ne 6, 3) := by decide +kernel
theorem dX12_undo_14 : decode cX12_undo 14 = .ok (.ldc 199, 2) := by decide +kernel
theorem dX12_undo_16 : decode cX12_undo 16 = .ok (.ireturn, 1) := by decide +kernel
theorem dX12_undo_17 : decode cX12_undo 17 = .ok (.aload_n 0, 1) := by decide +kernel
theorem dX12_undo_18 : decode cX12_undo 18 = .ok (.getfield 19, 3) := by decide +kernel
theorem dX12_undo_21 : decode cX12_undo 21 = .ok (.iconst 4, 1) := by decide +kernel
theorem dX12_undo_22 : decode cX12_undo 22 = .ok (.dup2, 1) := by decide +kernel
theorem dX12_undo_23 : decode cX12_undo 23 = .ok (.iaload, 1) := by decide +kernel
theorem dX12_undo_24 : decode cX12_undo 24 = .ok (.iconst 1, 1) := by decide +kernel
theorem dX12_undo_25 : decode cX12_undo 25 = .ok (.isub, 1) := by decide +kernel
theorem dX12_undo_26 : decode cX12_undo 26 = .ok (.iastore, 1) := by decide +kernel
theorem dX12_undo_27 : decode cX12_undo 27 = .ok (.aload_n 0, 1) := by decide +kernel
theorem dX12_undo_28 : decode cX12_undo 28 = .ok (.getfield 19, 3) := by decide +kernel
theorem dX12_undo_31 : decode cX12_undo 31 = .ok (.iconst 4, 1) := by decide +kernel
theorem dX12_undo_32 : decode cX12_undo 32 = .ok (.iaload, 1) := by decide +kernel
theorem dX12_undo_33 : decode cX12_undo 33 = .ok (.ireturn, 1) := by decide +kernel
theorem dX12_shown_0 : decode cX12_shown 0 = .ok (.aload_n 0, 1) := by decide +kernel
theorem dX12_shown_1 : decode cX12_shown 1 = .ok (.iconst 0, 1) := by decide +kernel
theorem dX12_shown_2 : decode cX12_shown 2 = .ok (.putfield 47, 3) := by decide +kernel
theorem dX12_shown_5 : decode cX12_shown 5 = .ok (.aload_n 0, 1) := by decide +kernel
theorem dX12_shown_6 : decode cX12_shown 6 = .ok (.iload_n 1, 1) := by decide +kernel
theorem dX12_shown_7 : decode cX12_shown 7 = .ok (.invokevirtual 209, 3) := by decide +kernel
theorem dX12_shown_10 : decode cX12_shown 10 = .ok (.ifCond .eq 15, 3) := by decide +kernel
theorem dX12_shown_13 : decode cX12_shown 13 = .ok (.iload_n 2, 1) := by decide +kernel
theorem dX12_shown_14 : decode cX12_shown 14 = .ok (.i2l, 1) := by decide +kernel
theorem dX12_shown_15 : decode cX12_shown 15 = .ok (.lconst 0, 1) := by decide +kernel
theorem dX12_shown_16 : decode cX12_shown 16 = .ok (.ldc2_w 212, 3) := by decide +kernel
theorem dX12_shown_19 : decode cX12_shown 19 = .ok (.invokestatic 57, 3) := by decide +kernel
theorem dX12_shown_22 : decode cX12_shown 22 = .ok (.ifCond .ne 6, 3) := by decide +kernel
theorem dX12_shown_25 : decode cX12_shown 25 = .ok (.ldc 67, 2) := by decide +kernel
theorem dX12_shown_27 : decode cX12_shown 27 = .ok (.ireturn, 1) := by decide +kernel
theorem dX12_shown_28 : decode cX12_shown 28 = .ok (.aload_n 0, 1) := by decide +kernel
theorem dX12_shown_29 : decode cX12_shown 29 = .ok (.invokevirtual 203, 3) := by decide +kernel
theorem dX12_shown_32 : decode cX12_shown 32 = .ok (.iload_n 2, 1) := by decide +kernel
theorem dX12_shown_33 : decode cX12_shown 33 = .ok (.ifCond .ne 15, 3) := by decide +kernel
theorem dX12_shown_36 : decode cX12_shown 36 = .ok (.aload_n 0, 1) := by decide +kernel
theorem dX12_shown_37 : decode cX12_shown 37 = .ok (.getfield 19, 3) := by decide +kernel
theorem dX12_shown_40 : decode cX12_shown 40 = .ok (.bipush 13, 2) := by decide +kernel
theorem dX12_shown_42 : decode cX12_shown 42 = .ok (.iload_n 1, 1) := by decide +kernel
theorem dX12_shown_43 : decode cX12_shown 43 = .ok (.iadd, 1) := by decide +kernel
theorem dX12_shown_44 : decode cX12_shown 44 = .ok (.iaload, 1) := by decide +kernel
theorem dX12_shown_45 : decode cX12_shown 45 = .ok (.goto 42, 3) := by decide +kernel
theorem dX12_shown_48 : decode cX12_shown 48 = .ok (.iload_n 2, 1) := by decide +kernel
theorem dX12_shown_49 : decode cX12_shown 49 = .ok (.iconst 1, 1) := by decide +kernel
theorem dX12_shown_50 : decode cX12_shown 50 = .ok (.if_icmp .ne 11, 3) := by decide +kernel
theorem dX12_shown_53 : decode cX12_shown 53 = .ok (.aload_n 0, 1) := by decide +kernel
theorem dX12_shown_54 : decode cX12_shown 54 = .ok (.iload_n 1, 1) := by decide +kernel
theorem dX12_shown_55 : decode cX12_shown 55 = .ok (.invokevirtual 189, 3) := by decide +kernel
theorem dX12_shown_58 : decode cX12_shown 58 = .ok (.goto 29, 3) := by decide +kernel
theorem dX12_shown_61 : decode cX12_shown 61 = .ok (.iload_n 2, 1) := by decide +kernel
theorem dX12_shown_62 : decode cX12_shown 62 = .ok (.iconst 2, 1) := by decide +kernel
theorem dX12_shown_63 : decode cX12_shown 63 = .ok (.if_icmp .ne 11, 3) := by decide +kernel
theorem dX12_shown_66 : decode cX12_shown 66 = .ok (.aload_n 0, 1) := by decide +kernel
theorem dX12_shown_67 : decode cX12_shown 67 = .ok (.iload_n 1, 1) := by decide +kernel
theorem dX12_shown_68 : decode cX12_shown 68 = .ok (.invokevirtual 206, 3) := by decide +kernel
theorem dX12_shown_71 : decode cX12_shown 71 = .ok (.goto 16, 3) := by decide +kernel
theorem dX12_shown_74 : decode cX12_shown 74 = .ok (.aload_n 0, 1) := by decide +kernel
theorem dX12_shown_75 : decode cX12_shown 75 = .ok (.iload_n 1, 1) := by decide +kernel
theorem dX12_shown_76 : decode cX12_shown 76 = .ok (.invokevirtual 192, 3) := by decide +kernel
theorem dX12_shown_79 : decode cX12_shown 79 = .ok (.ifCond .eq 7, 3) := by decide +kernel
theorem dX12_shown_82 : decode cX12_shown 82 = .ok (.iconst 1, 1) := by decide +kernel
theorem dX12_shown_83 : decode cX12_shown 83 = .ok (.goto 4, 3) := by decide +kernel
theorem dX12_shown_86 : decode cX12_shown 86 = .ok (.iconst 0, 1) := by decide +kernel
theorem dX12_shown_87 : decode cX12_shown 87 = .ok (.ireturn, 1) := by decide +kernel
theorem dX12_heavy_0 : decode cX12_heavy 0 = .ok (.aload_n 0, 1) := by decide +kernel
theorem dX12_heavy_1 : decode cX12_heavy 1 = .ok (.iconst 0, 1) := by decide +kernel
theorem dX12_heavy_2 : decode cX12_heavy 2 = .ok (.putfield 47, 3) := by decide +kernel
theorem dX12_heavy_5 : decode cX12_heavy 5 = .ok (.aload_n 0, 1) := by decide +kernel
theorem dX12_heavy_6 : decode cX12_heavy 6 = .ok (.iload_n 1, 1) := by decide +kernel
theorem dX12_heavy_7 : decode cX12_heavy 7 = .ok (.invokevirtual 214, 3) := by decide +kernel
theorem dX12_heavy_10 : decode cX12_heavy 10 = .ok (.ifCond .eq 17, 3) := by decide +kernel
theorem dX12_heavy_13 : decode cX12_heavy 13 = .ok (.iload_n 2, 1) := by decide +kernel
theorem dX12_heavy_14 : decode cX12_heavy 14 = .ok (.i2l, 1) := by decide +kernel
theorem dX12_heavy_15 : decode cX12_heavy 15 = .ok (.ldc2_w 217, 3) := by decide +kernel
theorem dX12_heavy_18 : decode cX12_heavy 18 = .ok (.ldc2_w 219, 3) := by decide +kernel
theorem dX12_heavy_21 : decode cX12_heavy 21 = .ok (.invokestatic 57, 3) := by decide +kernel
theorem dX12_heavy_24 : decode cX12_heavy 24 = .ok (.ifCond .ne 6, 3) := by decide +kernel
theorem dX12_heavy_27 : decode cX12_heavy 27 = .ok (.ldc 67, 2) := by decide +kernel
theorem dX12_heavy_29 : decode cX12_heavy 29 = .ok (.ireturn, 1) := by decide +kernel
theorem dX12_heavy_30 : decode cX12_heavy 30 = .ok (.aload_n 0, 1) := by decide +kernel
theorem dX12_heavy_31 : decode cX12_heavy 31 = .ok (.invokevirtual 203, 3) := by decide +kernel
theorem dX12_heavy_34 : decode cX12_heavy 34 = .ok (.iload_n 2, 1) := by decide +kernel
theorem dX12_heavy_35 : decode cX12_heavy 35 = .ok (.ifCond .ge 12, 3) := by decide +kernel
theorem dX12_heavy_38 : decode cX12_heavy 38 = .ok (.aload_n 0, 1) := by decide +kernel
theorem dX12_heavy_39 : decode cX12_heavy 39 = .ok (.getfield 28, 3) := by decide +kernel
theorem dX12_heavy_42 : decode cX12_heavy 42 = .ok (.iload_n 1, 1) := by decide +kernel
theorem dX12_heavy_43 : decode cX12_heavy 43 = .ok (.iaload, 1) := by decide +kernel
theorem dX12_heavy_44 : decode cX12_heavy 44 = .ok (.goto 9, 3) := by decide +kernel
theorem dX12_heavy_47 : decode cX12_heavy 47 = .ok (.aload_n 0, 1) := by decide +kernel
theorem dX12_heavy_48 : decode cX12_heavy 48 = .ok (.iload_n 1, 1) := by decide +kernel
theorem dX12_heavy_49 : decode cX12_heavy 49 = .ok (.iload_n 2, 1) := by decide +kernel
theorem dX12_heavy_50 : decode cX12_heavy 50 = .ok (.invokevirtual 186, 3) := by decide +kernel
theorem dX12_heavy_53 : decode cX12_heavy 53 = .ok (.ireturn, 1) := by decide +kernel
theorem dX12_next_0 : decode cX12_next 0 = .ok (.aload_n 0, 1) := by decide +kernel
theorem dX12_next_1 : decode cX12_next 1 = .ok (.iconst 0, 1) := by decide +kernel
theorem dX12_next_2 : decode cX12_next 2 = .ok (.putfield 47, 3) := by decide +kernel
theorem dX12_next_5 : decode cX12_next 5 = .ok (.aload_n 0, 1) := by decide +kernel
theorem dX12_next_6 : decode cX12_next 6 = .ok (.invokevirtual 195, 3) := by decide +kernel
theorem dX12_next_9 : decode cX12_next 9 = .ok (.ifCond .ne 6, 3) := by decide +kernel
theorem dX12_next_12 : decode cX12_next 12 = .ok (.ldc 199, 2) := by decide +kernel
theorem dX12_next_14 : decode cX12_next 14 = .ok (.ireturn, 1) := by decide +kernel
theorem dX12_next_15 : decode cX12_next 15 = .ok (.aload_n 0, 1) := by decide +kernel
theorem dX12_next_16 : decode cX12_next 16 = .ok (.iload_n 1, 1) := by decide +kernel
theorem dX12_next_17 : decode cX12_next 17 = .ok (.invokevirtual 200, 3) := by decide +kernel
theorem dX12_next_20 : decode cX12_next 20 = .ok (.ifCond .ne 6, 3) := by decide +kernel
theorem dX12_next_23 : decode cX12_next 23 = .ok (.ldc 67, 2) := by decide +kernel
theorem dX12_next_25 : decode cX12_next 25 = .ok (.ireturn, 1) := by decide +kernel
theorem dX12_next_26 : decode cX12_next 26 = .ok (.aload_n 0, 1) := by decide +kernel
theorem dX12_next_27 : decode cX12_next 27 = .ok (.getfield 19, 3) := by decide +kernel
theorem dX12_next_30 : decode cX12_next 30 = .ok (.bipush 13, 2) := by decide +kernel
theorem dX12_next_32 : decode cX12_next 32 = .ok (.aload_n 0, 1) := by decide +kernel
theorem dX12_next_33 : decode cX12_next 33 = .ok (.getfield 19, 3) := by decide +kernel
theorem dX12_next_36 : decode cX12_next 36 = .ok (.iconst 4, 1) := by decide +kernel
theorem dX12_next_37 : decode cX12_next 37 = .ok (.iaload, 1) := by decide +kernel
theorem dX12_next_38 : decode cX12_next 38 = .ok (.iadd, 1) := by decide +kernel
theorem dX12_next_39 : decode cX12_next 39 = .ok (.iload_n 1, 1) := by decide +kernel
theorem dX12_next_40 : decode cX12_next 40 = .ok (.iastore, 1) := by decide +kernel
theorem dX12_next_41 : decode cX12_next 41 = .ok (.aload_n 0, 1) := by decide +kernel
theorem dX12_next_42 : decode cX12_next 42 = .ok (.invokevirtual 203, 3) := by decide +kernel
theorem dX12_next_45 : decode cX12_next 45 = .ok (.aload_n 0, 1) := by decide +kernel
theorem dX12_next_46 : decode cX12_next 46 = .ok (.aload_n 0, 1) := by decide +kernel
theorem dX12_next_47 : decode cX12_next 47 = .ok (.getfield 19, 3) := by decide +kernel
theorem dX12_next_50 : decode cX12_next 50 = .ok (.iconst 4, 1) := by decide +kernel
theorem dX12_next_51 : decode cX12_next 51 = .ok (.iaload, 1) := by decide +kernel
theorem dX12_next_52 : decode cX12_next 52 = .ok (.invokevirtual 206, 3) := by decide +kernel
theorem dX12_next_55 : decode cX12_next 55 = .ok (.ireturn, 1) := by decide +kernel
theorem dX12_barred_0 : decode cX12_barred 0 = .ok (.aload_n 0, 1) := by decide +kernel
theorem dX12_barred_1 : decode cX12_barred 1 = .ok (.invokevirtual 195, 3) := by decide +kernel
theorem dX12_barred_4 : decode cX12_barred 4 = .ok (.ifCond .ne 6, 3) := by decide +kernel
theorem dX12_barred_7 : decode cX12_barred 7 = .ok (.ldc 199, 2) := by decide +kernel
theorem dX12_barred_9 : decode cX12_barred 9 = .ok (.ireturn, 1) := by decide +kernel
theorem dX12_barred_10 : decode cX12_barred 10 = .ok (.iload_n 1, 1) := by decide +kernel
theorem dX12_barred_11 : decode cX12_barred 11 = .ok (.invokestatic 61, 3) := by decide +kernel
theorem dX12_barred_14 : decode cX12_barred 14 = .ok (.ifCond .eq 7, 3) := by decide +kernel
theorem dX12_barred_17 : decode cX12_barred 17 = .ok (.iload_n 2, 1) := by decide +kernel
theorem dX12_barred_18 : decode cX12_barred 18 = .ok (.ifCond .ne 6, 3) := by decide +kernel
theorem dX12_barred_21 : decode cX12_barred 21 = .ok (.ldc 67, 2) := by decide +kernel
theorem dX12_barred_23 : decode cX12_barred 23 = .ok (.ireturn, 1) := by decide +kernel
theorem dX12_barred_24 : decode cX12_barred 24 = .ok (.aload_n 0, 1) := by decide +kernel
theorem dX12_barred_25 : decode cX12_barred 25 = .ok (.getfield 7, 3) := by decide +kernel
theorem dX12_barred_28 : decode cX12_barred 28 = .ok (.iload_n 1, 1) := by decide +kernel
theorem dX12_barred_29 : decode cX12_barred 29 = .ok (.iaload, 1) := by decide +kernel
theorem dX12_barred_30 : decode cX12_barred 30 = .ok (.ifCond .ge 9, 3) := by decide +kernel
theorem dX12_barred_33 : decode cX12_barred 33 = .ok (.aload_n 0, 1) := by decide +kernel
theorem dX12_barred_34 : decode cX12_barred 34 = .ok (.iconst 1, 1) := by decide +kernel
theorem dX12_barred_35 : decode cX12_barred 35 = .ok (.invokevirtual 68, 3) := by decide +kernel
theorem dX12_barred_38 : decode cX12_barred 38 = .ok (.ireturn, 1) := by decide +kernel
theorem dX12_barred_39 : decode cX12_barred 39 = .ok (.aload_n 0, 1) := by decide +kernel
theorem dX12_barred_40 : decode cX12_barred 40 = .ok (.getfield 19, 3) := by decide +kernel
theorem dX12_barred_43 : decode cX12_barred 43 = .ok (.iconst 4, 1) := by decide +kernel
theorem dX12_barred_44 : decode cX12_barred 44 = .ok (.iaload, 1) := by decide +kernel
theorem dX12_barred_45 : decode cX12_barred 45 = .ok (.aload_n 0, 1) := by decide +kernel
theorem dX12_barred_46 : decode cX12_barred 46 = .ok (.getfield 13, 3) := by decide +kernel
theorem dX12_barred_49 : decode cX12_barred 49 = .ok (.iload_n 1, 1) := by decide +kernel
theorem dX12_barred_50 : decode cX12_barred 50 = .ok (.iaload, 1) := by decide +kernel
theorem dX12_barred_51 : decode cX12_barred 51 = .ok (.if_icmp .le 9, 3) := by decide +kernel
theorem dX12_barred_54 : decode cX12_barred 54 = .ok (.aload_n 0, 1) := by decide +kernel
theorem dX12_barred_55 : decode cX12_barred 55 = .ok (.iconst 2, 1) := by decide +kernel
theorem dX12_barred_56 : decode cX12_barred 56 = .ok (.invokevirtual 68, 3) := by decide +kernel
theorem dX12_barred_59 : decode cX12_barred 59 = .ok (.ireturn, 1) := by decide +kernel
theorem dX12_barred_60 : decode cX12_barred 60 = .ok (.iconst 0, 1) := by decide +kernel
theorem dX12_barred_61 : decode cX12_barred 61 = .ok (.istore_n 3, 1) := by decide +kernel
theorem dX12_barred_62 : decode cX12_barred 62 = .ok (.iload_n 3, 1) := by decide +kernel
theorem dX12_barred_63 : decode cX12_barred 63 = .ok (.aload_n 0, 1) := by decide +kernel
theorem dX12_barred_64 : decode cX12_barred 64 = .ok (.getfield 19, 3) := by decide +kernel
theorem dX12_barred_67 : decode cX12_barred 67 = .ok (.iconst 4, 1) := by decide +kernel
theorem dX12_barred_68 : decode cX12_barred 68 = .ok (.iaload, 1) := by decide +kernel
theorem dX12_barred_69 : decode cX12_barred 69 = .ok (.if_icmp .ge 27, 3) := by decide +kernel
theorem dX12_barred_72 : decode cX12_barred 72 = .ok (.aload_n 0, 1) := by decide +kernel
theorem dX12_barred_73 : decode cX12_barred 73 = .ok (.getfield 16, 3) := by decide +kernel
theorem dX12_barred_76 : decode cX12_barred 76 = .ok (.bipush 40, 2) := by decide +kernel
theorem dX12_barred_78 : decode cX12_barred 78 = .ok (.iload_n 1, 1) := by decide +kernel
theorem dX12_barred_79 : decode cX12_barred 79 = .ok (.imul, 1) := by decide +kernel
theorem dX12_barred_80 : decode cX12_barred 80 = .ok (.iload_n 3, 1) := by decide +kernel
theorem dX12_barred_81 : decode cX12_barred 81 = .ok (.iadd, 1) := by decide +kernel
theorem dX12_barred_82 : decode cX12_barred 82 = .ok (.iaload, 1) := by decide +kernel
theorem dX12_barred_83 : decode cX12_barred 83 = .ok (.iconst (-1), 1) := by decide +kernel
theorem dX12_barred_84 : decode cX12_barred 84 = .ok (.if_icmp .ge 6, 3) := by decide +kernel
theorem dX12_barred_87 : decode cX12_barred 87 = .ok (.ldc 67, 2) := by decide +kernel
theorem dX12_barred_89 : decode cX12_barred 89 = .ok (.ireturn, 1) := by decide +kernel
theorem dX12_barred_90 : decode cX12_barred 90 = .ok (.iinc 3 1, 3) := by decide +kernel
theorem dX12_barred_93 : decode cX12_barred 93 = .ok (.goto (-31), 3) := by decide +kernel
theorem dX12_barred_96 : decode cX12_barred 96 = .ok (.aload_n 0, 1) := by decide +kernel
theorem dX12_barred_97 : decode cX12_barred 97 = .ok (.iconst 0, 1) := by decide +kernel
theorem dX12_barred_98 : decode cX12_barred 98 = .ok (.putfield 51, 3) := by decide +kernel
theorem dX12_barred_101 : decode cX12_barred 101 = .ok (.aload_n 0, 1) := by decide +kernel
theorem dX12_barred_102 : decode cX12_barred 102 = .ok (.invokevirtual 203, 3) := by decide +kernel
theorem dX12_barred_105 : decode cX12_barred 105 = .ok (.iconst 0, 1) := by decide +kernel
theorem dX12_barred_106 : decode cX12_barred 106 = .ok (.ireturn, 1) := by decide +kernel
theorem dX12_wrongDays_0 : decode cX12_wrongDays 0 = .ok (.iconst 0, 1) := by decide +kernel
theorem dX12_wrongDays_1 : decode cX12_wrongDays 1 = .ok (.istore_n 2, 1) := by decide +kernel
theorem dX12_wrongDays_2 : decode cX12_wrongDays 2 = .ok (.iconst 0, 1) := by decide +kernel
theorem dX12_wrongDays_3 : decode cX12_wrongDays 3 = .ok (.istore_n 3, 1) := by decide +kernel
theorem dX12_wrongDays_4 : decode cX12_wrongDays 4 = .ok (.iload_n 3, 1) := by decide +kernel
theorem dX12_wrongDays_5 : decode cX12_wrongDays 5 = .ok (.aload_n 0, 1) := by decide +kernel
theorem dX12_wrongDays_6 : decode cX12_wrongDays 6 = .ok (.getfield 19, 3) := by decide +kernel
theorem dX12_wrongDays_9 : decode cX12_wrongDays 9 = .ok (.iconst 4, 1) := by decide +kernel
theorem dX12_wrongDays_10 : decode cX12_wrongDays 10 = .ok (.iaload, 1) := by decide +kernel
theorem dX12_wrongDays_11 : decode cX12_wrongDays 11 = .ok (.if_icmp .ge 47, 3) := by decide +kernel
theorem dX12_wrongDays_14 : decode cX12_wrongDays 14 = .ok (.aload_n 0, 1) := by decide +kernel
theorem dX12_wrongDays_15 : decode cX12_wrongDays 15 = .ok (.getfield 16, 3) := by decide +kernel
theorem dX12_wrongDays_18 : decode cX12_wrongDays 18 = .ok (.bipush 40, 2) := by decide +kernel
theorem dX12_wrongDays_20 : decode cX12_wrongDays 20 = .ok (.iload_n 1, 1) := by decide +kernel
theorem dX12_wrongDays_21 : decode cX12_wrongDays 21 = .ok (.imul, 1) := by decide +kernel
theorem dX12_wrongDays_22 : decode cX12_wrongDays 22 = .ok (.iload_n 3, 1) := by decide +kernel
theorem dX12_wrongDays_23 : decode cX12_wrongDays 23 = .ok (.iadd, 1) := by decide +kernel
theorem dX12_wrongDays_24 : decode cX12_wrongDays 24 = .ok (.iaload, 1) := by decide +kernel
theorem dX12_wrongDays_25 : decode cX12_wrongDays 25 = .ok (.istore 4, 2) := by decide +kernel
theorem dX12_wrongDays_27 : decode cX12_wrongDays 27 = .ok (.iload_n 2, 1) := by decide +kernel
theorem dX12_wrongDays_28 : decode cX12_wrongDays 28 = .ok (.iload 4, 2) := by decide +kernel
theorem dX12_wrongDays_30 : decode cX12_wrongDays 30 = .ok (.ifCond .lt 19, 3) := by decide +kernel
theorem dX12_wrongDays_33 : decode cX12_wrongDays 33 = .ok (.iload 4, 2) := by decide +kernel
theorem dX12_wrongDays_35 : decode cX12_wrongDays 35 = .ok (.aload_n 0, 1) := by decide +kernel
theorem dX12_wrongDays_36 : decode cX12_wrongDays 36 = .ok (.iload_n 3, 1) := by decide +kernel
theorem dX12_wrongDays_37 : decode cX12_wrongDays 37 = .ok (.invokevirtual 206, 3) := by decide +kernel
theorem dX12_wrongDays_40 : decode cX12_wrongDays 40 = .ok (.if_icmp .eq 9, 3) := by decide +kernel
theorem dX12_wrongDays_43 : decode cX12_wrongDays 43 = .ok (.iconst 1, 1) := by decide +kernel
theorem dX12_wrongDays_44 : decode cX12_wrongDays 44 = .ok (.iload_n 3, 1) := by decide +kernel
theorem dX12_wrongDays_45 : decode cX12_wrongDays 45 = .ok (.ishl, 1) := by decide +kernel
theorem dX12_wrongDays_46 : decode cX12_wrongDays 46 = .ok (.goto 4, 3) := by decide +kernel
theorem dX12_wrongDays_49 : decode cX12_wrongDays 49 = .ok (.iconst 0, 1) := by decide +kernel
theorem dX12_wrongDays_50 : decode cX12_wrongDays 50 = .ok (.ior, 1) := by decide +kernel
theorem dX12_wrongDays_51 : decode cX12_wrongDays 51 = .ok (.istore_n 2, 1) := by decide +kernel
theorem dX12_wrongDays_52 : decode cX12_wrongDays 52 = .ok (.iinc 3 1, 3) := by decide +kernel
theorem dX12_wrongDays_55 : decode cX12_wrongDays 55 = .ok (.goto (-51), 3) := by decide +kernel
theorem dX12_wrongDays_58 : decode cX12_wrongDays 58 = .ok (.iload_n 2, 1) := by decide +kernel
theorem dX12_wrongDays_59 : decode cX12_wrongDays 59 = .ok (.ireturn, 1) := by decide +kernel
theorem dX12_fits_0 : decode cX12_fits 0 = .ok (.aload_n 0, 1) := by decide +kernel
theorem dX12_fits_1 : decode cX12_fits 1 = .ok (.iconst 0, 1) := by decide +kernel
theorem dX12_fits_2 : decode cX12_fits 2 = .ok (.putfield 47, 3) := by decide +kernel
theorem dX12_fits_5 : decode cX12_fits 5 = .ok (.aload_n 0, 1) := by decide +kernel
theorem dX12_fits_6 : decode cX12_fits 6 = .ok (.iload_n 1, 1) := by decide +kernel
theorem dX12_fits_7 : decode cX12_fits 7 = .ok (.iload_n 2, 1) := by decide +kernel
theorem dX12_fits_8 : decode cX12_fits 8 = .ok (.i2l, 1) := by decide +kernel
theorem dX12_fits_9 : decode cX12_fits 9 = .ok (.ldc2_w 217, 3) := by decide +kernel
theorem dX12_fits_12 : decode cX12_fits 12 = .ok (.aload_n 0, 1) := by decide +kernel
theorem dX12_fits_13 : decode cX12_fits 13 = .ok (.getfield 19, 3) := by decide +kernel
theorem dX12_fits_16 : decode cX12_fits 16 = .ok (.iconst 3, 1) := by decide +kernel
theorem dX12_fits_17 : decode cX12_fits 17 = .ok (.iaload, 1) := by decide +kernel
theorem dX12_fits_18 : decode cX12_fits 18 = .ok (.iconst 1, 1) := by decide +kernel
theorem dX12_fits_19 : decode cX12_fits 19 = .ok (.isub, 1) := by decide +kernel
theorem dX12_fits_20 : decode cX12_fits 20 = .ok (.i2l, 1) := by decide +kernel
theorem dX12_fits_21 : decode cX12_fits 21 = .ok (.invokestatic 57, 3) := by decide +kernel
theorem dX12_fits_24 : decode cX12_fits 24 = .ok (.ifCond .eq 19, 3) := by decide +kernel
theorem dX12_fits_27 : decode cX12_fits 27 = .ok (.iload_n 3, 1) := by decide +kernel
theorem dX12_fits_28 : decode cX12_fits 28 = .ok (.i2l, 1) := by decide +kernel
theorem dX12_fits_29 : decode cX12_fits 29 = .ok (.lconst 0, 1) := by decide +kernel
theorem dX12_fits_30 : decode cX12_fits 30 = .ok (.ldc2_w 55, 3) := by decide +kernel
theorem dX12_fits_33 : decode cX12_fits 33 = .ok (.invokestatic 57, 3) := by decide +kernel
theorem dX12_fits_36 : decode cX12_fits 36 = .ok (.ifCond .eq 7, 3) := by decide +kernel
theorem dX12_fits_39 : decode cX12_fits 39 = .ok (.iconst 1, 1) := by decide +kernel
theorem dX12_fits_40 : decode cX12_fits 40 = .ok (.goto 4, 3) := by decide +kernel
theorem dX12_fits_43 : decode cX12_fits 43 = .ok (.iconst 0, 1) := by decide +kernel
theorem dX12_fits_44 : decode cX12_fits 44 = .ok (.invokevirtual 221, 3) := by decide +kernel
theorem dX12_fits_47 : decode cX12_fits 47 = .ok (.istore 4, 2) := by decide +kernel
theorem dX12_fits_49 : decode cX12_fits 49 = .ok (.iload 4, 2) := by decide +kernel
theorem dX12_fits_51 : decode cX12_fits 51 = .ok (.ifCond .ge 6, 3) := by decide +kernel
theorem dX12_fits_54 : decode cX12_fits 54 = .ok (.iload 4, 2) := by decide +kernel
theorem dX12_fits_56 : decode cX12_fits 56 = .ok (.ireturn, 1) := by decide +kernel
theorem dX12_fits_57 : decode cX12_fits 57 = .ok (.iconst 0, 1) := by decide +kernel
theorem dX12_fits_58 : decode cX12_fits 58 = .ok (.istore 5, 2) := by decide +kernel
theorem dX12_fits_60 : decode cX12_fits 60 = .ok (.iconst 0, 1) := by decide +kernel
theorem dX12_fits_61 : decode cX12_fits 61 = .ok (.istore 6, 2) := by decide +kernel
theorem dX12_fits_63 : decode cX12_fits 63 = .ok (.iload 6, 2) := by decide +kernel
theorem dX12_fits_65 : decode cX12_fits 65 = .ok (.aload_n 0, 1) := by decide +kernel
theorem dX12_fits_66 : decode cX12_fits 66 = .ok (.invokevirtual 225, 3) := by decide +kernel
theorem dX12_fits_69 : decode cX12_fits 69 = .ok (.if_icmp .ge 47, 3) := by decide +kernel
theorem dX12_fits_72 : decode cX12_fits 72 = .ok (.aload_n 0, 1) := by decide +kernel
theorem dX12_fits_73 : decode cX12_fits 73 = .ok (.iload 6, 2) := by decide +kernel
theorem dX12_fits_75 : decode cX12_fits 75 = .ok (.invokevirtual 228, 3) := by decide +kernel
theorem dX12_fits_78 : decode cX12_fits 78 = .ok (.iload 5, 2) := by decide +kernel
theorem dX12_fits_80 : decode cX12_fits 80 = .ok (.iload_n 2, 1) := by decide +kernel
theorem dX12_fits_81 : decode cX12_fits 81 = .ok (.ifCond .lt 13, 3) := by decide +kernel
theorem dX12_fits_84 : decode cX12_fits 84 = .ok (.aload_n 0, 1) := by decide +kernel
theorem dX12_fits_85 : decode cX12_fits 85 = .ok (.getfield 28, 3) := by decide +kernel
theorem dX12_fits_88 : decode cX12_fits 88 = .ok (.iload_n 2, 1) := by decide +kernel
theorem dX12_fits_89 : decode cX12_fits 89 = .ok (.iaload, 1) := by decide +kernel
theorem dX12_fits_90 : decode cX12_fits 90 = .ok (.iload_n 3, 1) := by decide +kernel
theorem dX12_fits_91 : decode cX12_fits 91 = .ok (.if_icmp .ne 15, 3) := by decide +kernel
theorem dX12_fits_94 : decode cX12_fits 94 = .ok (.aload_n 0, 1) := by decide +kernel
theorem dX12_fits_95 : decode cX12_fits 95 = .ok (.iload_n 1, 1) := by decide +kernel
theorem dX12_fits_96 : decode cX12_fits 96 = .ok (.invokevirtual 231, 3) := by decide +kernel
theorem dX12_fits_99 : decode cX12_fits 99 = .ok (.ifCond .ne 7, 3) := by decide +kernel
theorem dX12_fits_102 : decode cX12_fits 102 = .ok (.iconst 1, 1) := by decide +kernel
theorem dX12_fits_103 : decode cX12_fits 103 = .ok (.goto 4, 3) := by decide +kernel
theorem dX12_fits_106 : decode cX12_fits 106 = .ok (.iconst 0, 1) := by decide +kernel
theorem dX12_fits_107 : decode cX12_fits 107 = .ok (.iadd, 1) := by decide +kernel
theorem dX12_fits_108 : decode cX12_fits 108 = .ok (.istore 5, 2) := by decide +kernel
theorem dX12_fits_110 : decode cX12_fits 110 = .ok (.iinc 6 1, 3) := by decide +kernel
theorem dX12_fits_113 : decode cX12_fits 113 = .ok (.goto (-50), 3) := by decide +kernel
theorem dX12_fits_116 : decode cX12_fits 116 = .ok (.iload 5, 2) := by decide +kernel
theorem dX12_fits_118 : decode cX12_fits 118 = .ok (.ireturn, 1) := by decide +kernel
theorem dX12_sure_0 : decode cX12_sure 0 = .ok (.aload_n 0, 1) := by decide +kernel
theorem dX12_sure_1 : decode cX12_sure 1 = .ok (.iconst 0, 1) := by decide +kernel
theorem dX12_sure_2 : decode cX12_sure 2 = .ok (.putfield 47, 3) := by decide +kernel
theorem dX12_sure_5 : decode cX12_sure 5 = .ok (.aload_n 0, 1) := by decide +kernel
theorem dX12_sure_6 : decode cX12_sure 6 = .ok (.iload_n 1, 1) := by decide +kernel
theorem dX12_sure_7 : decode cX12_sure 7 = .ok (.aload_n 0, 1) := by decide +kernel
theorem dX12_sure_8 : decode cX12_sure 8 = .ok (.iload_n 2, 1) := by decide +kernel
theorem dX12_sure_9 : decode cX12_sure 9 = .ok (.invokevirtual 214, 3) := by decide +kernel
theorem dX12_sure_12 : decode cX12_sure 12 = .ok (.invokevirtual 221, 3) := by decide +kernel
theorem dX12_sure_15 : decode cX12_sure 15 = .ok (.istore_n 3, 1) := by decide +kernel
theorem dX12_sure_16 : decode cX12_sure 16 = .ok (.iload_n 3, 1) := by decide +kernel
theorem dX12_sure_17 : decode cX12_sure 17 = .ok (.ifCond .ge 5, 3) := by decide +kernel
theorem dX12_sure_20 : decode cX12_sure 20 = .ok (.iload_n 3, 1) := by decide +kernel
theorem dX12_sure_21 : decode cX12_sure 21 = .ok (.ireturn, 1) := by decide +kernel
theorem dX12_sure_22 : decode cX12_sure 22 = .ok (.iconst 0, 1) := by decide +kernel
theorem dX12_sure_23 : decode cX12_sure 23 = .ok (.istore 4, 2) := by decide +kernel
theorem dX12_sure_25 : decode cX12_sure 25 = .ok (.iconst 0, 1) := by decide +kernel
theorem dX12_sure_26 : decode cX12_sure 26 = .ok (.istore 5, 2) := by decide +kernel
theorem dX12_sure_28 : decode cX12_sure 28 = .ok (.iload 5, 2) := by decide +kernel
theorem dX12_sure_30 : decode cX12_sure 30 = .ok (.aload_n 0, 1) := by decide +kernel
theorem dX12_sure_31 : decode cX12_sure 31 = .ok (.invokevirtual 225, 3) := by decide +kernel
theorem dX12_sure_34 : decode cX12_sure 34 = .ok (.if_icmp .ge 40, 3) := by decide +kernel
theorem dX12_sure_37 : decode cX12_sure 37 = .ok (.aload_n 0, 1) := by decide +kernel
theorem dX12_sure_38 : decode cX12_sure 38 = .ok (.iload 5, 2) := by decide +kernel
theorem dX12_sure_40 : decode cX12_sure 40 = .ok (.invokevirtual 228, 3) := by decide +kernel
theorem dX12_sure_43 : decode cX12_sure 43 = .ok (.iload 4, 2) := by decide +kernel
theorem dX12_sure_45 : decode cX12_sure 45 = .ok (.aload_n 0, 1) := by decide +kernel
theorem dX12_sure_46 : decode cX12_sure 46 = .ok (.iload_n 1, 1) := by decide +kernel
theorem dX12_sure_47 : decode cX12_sure 47 = .ok (.invokevirtual 231, 3) := by decide +kernel
theorem dX12_sure_50 : decode cX12_sure 50 = .ok (.ifCond .ne 14, 3) := by decide +kernel
theorem dX12_sure_53 : decode cX12_sure 53 = .ok (.iconst 1, 1) := by decide +kernel
theorem dX12_sure_54 : decode cX12_sure 54 = .ok (.aload_n 0, 1) := by decide +kernel
theorem dX12_sure_55 : decode cX12_sure 55 = .ok (.getfield 28, 3) := by decide +kernel
theorem dX12_sure_58 : decode cX12_sure 58 = .ok (.iload_n 2, 1) := by decide +kernel
theorem dX12_sure_59 : decode cX12_sure 59 = .ok (.iaload, 1) := by decide +kernel
theorem dX12_sure_60 : decode cX12_sure 60 = .ok (.ishl, 1) := by decide +kernel
theorem dX12_sure_61 : decode cX12_sure 61 = .ok (.goto 4, 3) := by decide +kernel
theorem dX12_sure_64 : decode cX12_sure 64 = .ok (.iconst 0, 1) := by decide +kernel
theorem dX12_sure_65 : decode cX12_sure 65 = .ok (.ior, 1) := by decide +kernel
theorem dX12_sure_66 : decode cX12_sure 66 = .ok (.istore 4, 2) := by decide +kernel
theorem dX12_sure_68 : decode cX12_sure 68 = .ok (.iinc 5 1, 3) := by decide +kernel
theorem dX12_sure_71 : decode cX12_sure 71 = .ok (.goto (-43), 3) := by decide +kernel
theorem dX12_sure_74 : decode cX12_sure 74 = .ok (.iload 4, 2) := by decide +kernel
theorem dX12_sure_76 : decode cX12_sure 76 = .ok (.invokestatic 234, 3) := by decide +kernel
theorem dX12_sure_79 : decode cX12_sure 79 = .ok (.ireturn, 1) := by decide +kernel
theorem dX12_oneOf_0 : decode cX12_oneOf 0 = .ok (.ldc 83, 2) := by decide +kernel
theorem dX12_oneOf_2 : decode cX12_oneOf 2 = .ok (.istore_n 1, 1) := by decide +kernel
theorem dX12_oneOf_3 : decode cX12_oneOf 3 = .ok (.iconst 0, 1) := by decide +kernel
theorem dX12_oneOf_4 : decode cX12_oneOf 4 = .ok (.istore_n 2, 1) := by decide +kernel
theorem dX12_oneOf_5 : decode cX12_oneOf 5 = .ok (.iload_n 2, 1) := by decide +kernel
theorem dX12_oneOf_6 : decode cX12_oneOf 6 = .ok (.bipush 8, 2) := by decide +kernel
theorem dX12_oneOf_8 : decode cX12_oneOf 8 = .ok (.if_icmp .ge 22, 3) := by decide +kernel
theorem dX12_oneOf_11 : decode cX12_oneOf 11 = .ok (.iload_n 0, 1) := by decide +kernel
theorem dX12_oneOf_12 : decode cX12_oneOf 12 = .ok (.iconst 1, 1) := by decide +kernel
theorem dX12_oneOf_13 : decode cX12_oneOf 13 = .ok (.iload_n 2, 1) := by decide +kernel
theorem dX12_oneOf_14 : decode cX12_oneOf 14 = .ok (.ishl, 1) := by decide +kernel
theorem dX12_oneOf_15 : decode cX12_oneOf 15 = .ok (.if_icmp .ne 7, 3) := by decide +kernel
theorem dX12_oneOf_18 : decode cX12_oneOf 18 = .ok (.iload_n 2, 1) := by decide +kernel
theorem dX12_oneOf_19 : decode cX12_oneOf 19 = .ok (.goto 4, 3) := by decide +kernel
theorem dX12_oneOf_22 : decode cX12_oneOf 22 = .ok (.iload_n 1, 1) := by decide +kernel
theorem dX12_oneOf_23 : decode cX12_oneOf 23 = .ok (.istore_n 1, 1) := by decide +kernel
theorem dX12_oneOf_24 : decode cX12_oneOf 24 = .ok (.iinc 2 1, 3) := by decide +kernel
theorem dX12_oneOf_27 : decode cX12_oneOf 27 = .ok (.goto (-22), 3) := by decide +kernel
theorem dX12_oneOf_30 : decode cX12_oneOf 30 = .ok (.iload_n 1, 1) := by decide +kernel
theorem dX12_oneOf_31 : decode cX12_oneOf 31 = .ok (.ireturn, 1) := by decide +kernel
theorem dX12_gap_0 : decode cX12_gap 0 = .ok (.aload_n 0, 1) := by decide +kernel
theorem dX12_gap_1 : decode cX12_gap 1 = .ok (.iconst 0, 1) := by decide +kernel
theorem dX12_gap_2 : decode cX12_gap 2 = .ok (.putfield 47, 3) := by decide +kernel
theorem dX12_gap_5 : decode cX12_gap 5 = .ok (.aload_n 0, 1) := by decide +kernel
theorem dX12_gap_6 : decode cX12_gap 6 = .ok (.iload_n 1, 1) := by decide +kernel
theorem dX12_gap_7 : decode cX12_gap 7 = .ok (.aload_n 0, 1) := by decide +kernel
theorem dX12_gap_8 : decode cX12_gap 8 = .ok (.iload_n 2, 1) := by decide +kernel
theorem dX12_gap_9 : decode cX12_gap 9 = .ok (.invokevirtual 209, 3) := by decide +kernel
theorem dX12_gap_12 : decode cX12_gap 12 = .ok (.invokevirtual 221, 3) := by decide +kernel
theorem dX12_gap_15 : decode cX12_gap 15 = .ok (.istore_n 3, 1) := by decide +kernel
theorem dX12_gap_16 : decode cX12_gap 16 = .ok (.iload_n 3, 1) := by decide +kernel
theorem dX12_gap_17 : decode cX12_gap 17 = .ok (.ifCond .ge 5, 3) := by decide +kernel
theorem dX12_gap_20 : decode cX12_gap 20 = .ok (.iload_n 3, 1) := by decide +kernel
theorem dX12_gap_21 : decode cX12_gap 21 = .ok (.ireturn, 1) := by decide +kernel
theorem dX12_gap_22 : decode cX12_gap 22 = .ok (.ldc 83, 2) := by decide +kernel
theorem dX12_gap_24 : decode cX12_gap 24 = .ok (.istore 4, 2) := by decide +kernel
theorem dX12_gap_26 : decode cX12_gap 26 = .ok (.iconst 1, 1) := by decide +kernel
theorem dX12_gap_27 : decode cX12_gap 27 = .ok (.istore 5, 2) := by decide +kernel
theorem dX12_gap_29 : decode cX12_gap 29 = .ok (.iconst 0, 1) := by decide +kernel
theorem dX12_gap_30 : decode cX12_gap 30 = .ok (.istore 6, 2) := by decide +kernel
theorem dX12_gap_32 : decode cX12_gap 32 = .ok (.iload 6, 2) := by decide +kernel
theorem dX12_gap_34 : decode cX12_gap 34 = .ok (.aload_n 0, 1) := by decide +kernel
theorem dX12_gap_35 : decode cX12_gap 35 = .ok (.invokevirtual 225, 3) := by decide +kernel
theorem dX12_gap_38 : decode cX12_gap 38 = .ok (.if_icmp .ge 59, 3) := by decide +kernel
theorem dX12_gap_41 : decode cX12_gap 41 = .ok (.aload_n 0, 1) := by decide +kernel
theorem dX12_gap_42 : decode cX12_gap 42 = .ok (.iload 6, 2) := by decide +kernel
theorem dX12_gap_44 : decode cX12_gap 44 = .ok (.invokevirtual 228, 3) := by decide +kernel
theorem dX12_gap_47 : decode cX12_gap 47 = .ok (.aload_n 0, 1) := by decide +kernel
theorem dX12_gap_48 : decode cX12_gap 48 = .ok (.iload_n 1, 1) := by decide +kernel
theorem dX12_gap_49 : decode cX12_gap 49 = .ok (.invokevirtual 231, 3) := by decide +kernel
theorem dX12_gap_52 : decode cX12_gap 52 = .ok (.ifCond .ne 39, 3) := by decide +kernel
theorem dX12_gap_55 : decode cX12_gap 55 = .ok (.iload 5, 2) := by decide +kernel
theorem dX12_gap_57 : decode cX12_gap 57 = .ok (.ifCond .eq 24, 3) := by decide +kernel
theorem dX12_gap_60 : decode cX12_gap 60 = .ok (.iload 4, 2) := by decide +kernel
theorem dX12_gap_62 : decode cX12_gap 62 = .ok (.ldc 83, 2) := by decide +kernel
theorem dX12_gap_64 : decode cX12_gap 64 = .ok (.if_icmp .eq 13, 3) := by decide +kernel
theorem dX12_gap_67 : decode cX12_gap 67 = .ok (.iload 4, 2) := by decide +kernel
theorem dX12_gap_69 : decode cX12_gap 69 = .ok (.aload_n 0, 1) := by decide +kernel
theorem dX12_gap_70 : decode cX12_gap 70 = .ok (.iload_n 2, 1) := by decide +kernel
theorem dX12_gap_71 : decode cX12_gap 71 = .ok (.invokevirtual 206, 3) := by decide +kernel
theorem dX12_gap_74 : decode cX12_gap 74 = .ok (.if_icmp .ne 7, 3) := by decide +kernel
theorem dX12_gap_77 : decode cX12_gap 77 = .ok (.iconst 1, 1) := by decide +kernel
theorem dX12_gap_78 : decode cX12_gap 78 = .ok (.goto 4, 3) := by decide +kernel
theorem dX12_gap_81 : decode cX12_gap 81 = .ok (.iconst 0, 1) := by decide +kernel
theorem dX12_gap_82 : decode cX12_gap 82 = .ok (.istore 5, 2) := by decide +kernel
theorem dX12_gap_84 : decode cX12_gap 84 = .ok (.aload_n 0, 1) := by decide +kernel
theorem dX12_gap_85 : decode cX12_gap 85 = .ok (.iload_n 2, 1) := by decide +kernel
theorem dX12_gap_86 : decode cX12_gap 86 = .ok (.invokevirtual 206, 3) := by decide +kernel
theorem dX12_gap_89 : decode cX12_gap 89 = .ok (.istore 4, 2) := by decide +kernel
theorem dX12_gap_91 : decode cX12_gap 91 = .ok (.iinc 6 1, 3) := by decide +kernel
theorem dX12_gap_94 : decode cX12_gap 94 = .ok (.goto (-62), 3) := by decide +kernel
theorem dX12_gap_97 : decode cX12_gap 97 = .ok (.iload 5, 2) := by decide +kernel
theorem dX12_gap_99 : decode cX12_gap 99 = .ok (.ifCond .eq 8, 3) := by decide +kernel
theorem dX12_gap_102 : decode cX12_gap 102 = .ok (.iload 4, 2) := by decide +kernel
theorem dX12_gap_104 : decode cX12_gap 104 = .ok (.goto 5, 3) := by decide +kernel
theorem dX12_gap_107 : decode cX12_gap 107 = .ok (.ldc 83, 2) := by decide +kernel
theorem dX12_gap_109 : decode cX12_gap 109 = .ok (.ireturn, 1) := by decide +kernel
theorem dX12_bits_0 : decode cX12_bits 0 = .ok (.iconst 0, 1) := by decide +kernel
theorem dX12_bits_1 : decode cX12_bits 1 = .ok (.istore_n 1, 1) := by decide +kernel
theorem dX12_bits_2 : decode cX12_bits 2 = .ok (.iconst 0, 1) := by decide +kernel
theorem dX12_bits_3 : decode cX12_bits 3 = .ok (.istore_n 2, 1) := by decide +kernel
theorem dX12_bits_4 : decode cX12_bits 4 = .ok (.iload_n 2, 1) := by decide +kernel
theorem dX12_bits_5 : decode cX12_bits 5 = .ok (.bipush 24, 2) := by decide +kernel
theorem dX12_bits_7 : decode cX12_bits 7 = .ok (.if_icmp .ge 17, 3) := by decide +kernel
theorem dX12_bits_10 : decode cX12_bits 10 = .ok (.iload_n 1, 1) := by decide +kernel
theorem dX12_bits_11 : decode cX12_bits 11 = .ok (.iload_n 0, 1) := by decide +kernel
theorem dX12_bits_12 : decode cX12_bits 12 = .ok (.iload_n 2, 1) := by decide +kernel
theorem dX12_bits_13 : decode cX12_bits 13 = .ok (.ishr, 1) := by decide +kernel
theorem dX12_bits_14 : decode cX12_bits 14 = .ok (.iconst 1, 1) := by decide +kernel
theorem dX12_bits_15 : decode cX12_bits 15 = .ok (.iand, 1) := by decide +kernel
theorem dX12_bits_16 : decode cX12_bits 16 = .ok (.iadd, 1) := by decide +kernel
theorem dX12_bits_17 : decode cX12_bits 17 = .ok (.istore_n 1, 1) := by decide +kernel
theorem dX12_bits_18 : decode cX12_bits 18 = .ok (.iinc 2 1, 3) := by decide +kernel
theorem dX12_bits_21 : decode cX12_bits 21 = .ok (.goto (-17), 3) := by decide +kernel
theorem dX12_bits_24 : decode cX12_bits 24 = .ok (.iload_n 1, 1) := by decide +kernel
theorem dX12_bits_25 : decode cX12_bits 25 = .ok (.ireturn, 1) := by decide +kernel
theorem dX12_wrong_0 : decode cX12_wrong 0 = .ok (.aload_n 0, 1) := by decide +kernel
theorem dX12_wrong_1 : decode cX12_wrong 1 = .ok (.iconst 0, 1) := by decide +kernel
theorem dX12_wrong_2 : decode cX12_wrong 2 = .ok (.putfield 47, 3) := by decide +kernel
theorem dX12_wrong_5 : decode cX12_wrong 5 = .ok (.aload_n 0, 1) := by decide +kernel
theorem dX12_wrong_6 : decode cX12_wrong 6 = .ok (.iload_n 1, 1) := by decide +kernel
theorem dX12_wrong_7 : decode cX12_wrong 7 = .ok (.iload_n 2, 1) := by decide +kernel
theorem dX12_wrong_8 : decode cX12_wrong 8 = .ok (.i2l, 1) := by decide +kernel
theorem dX12_wrong_9 : decode cX12_wrong 9 = .ok (.lconst 0, 1) := by decide +kernel
theorem dX12_wrong_10 : decode cX12_wrong 10 = .ok (.lconst 1, 1) := by decide +kernel
theorem dX12_wrong_11 : decode cX12_wrong 11 = .ok (.invokestatic 57, 3) := by decide +kernel
theorem dX12_wrong_14 : decode cX12_wrong 14 = .ok (.invokevirtual 221, 3) := by decide +kernel
theorem dX12_wrong_17 : decode cX12_wrong 17 = .ok (.istore_n 3, 1) := by decide +kernel
theorem dX12_wrong_18 : decode cX12_wrong 18 = .ok (.iload_n 3, 1) := by decide +kernel
theorem dX12_wrong_19 : decode cX12_wrong 19 = .ok (.ifCond .ge 5, 3) := by decide +kernel
theorem dX12_wrong_22 : decode cX12_wrong 22 = .ok (.iload_n 3, 1) := by decide +kernel
theorem dX12_wrong_23 : decode cX12_wrong 23 = .ok (.ireturn, 1) := by decide +kernel
theorem dX12_wrong_24 : decode cX12_wrong 24 = .ok (.ldc 83, 2) := by decide +kernel
theorem dX12_wrong_26 : decode cX12_wrong 26 = .ok (.istore 4, 2) := by decide +kernel
theorem dX12_wrong_28 : decode cX12_wrong 28 = .ok (.iconst 0, 1) := by decide +kernel
theorem dX12_wrong_29 : decode cX12_wrong 29 = .ok (.istore 5, 2) := by decide +kernel
theorem dX12_wrong_31 : decode cX12_wrong 31 = .ok (.iload 5, 2) := by decide +kernel
theorem dX12_wrong_33 : decode cX12_wrong 33 = .ok (.aload_n 0, 1) := by decide +kernel
theorem dX12_wrong_34 : decode cX12_wrong 34 = .ok (.invokevirtual 225, 3) := by decide +kernel
theorem dX12_wrong_37 : decode cX12_wrong 37 = .ok (.if_icmp .ge 83, 3) := by decide +kernel
theorem dX12_wrong_40 : decode cX12_wrong 40 = .ok (.aload_n 0, 1) := by decide +kernel
theorem dX12_wrong_41 : decode cX12_wrong 41 = .ok (.iload 5, 2) := by decide +kernel
theorem dX12_wrong_43 : decode cX12_wrong 43 = .ok (.invokevirtual 228, 3) := by decide +kernel
theorem dX12_wrong_46 : decode cX12_wrong 46 = .ok (.aload_n 0, 1) := by decide +kernel
theorem dX12_wrong_47 : decode cX12_wrong 47 = .ok (.iload_n 1, 1) := by decide +kernel
theorem dX12_wrong_48 : decode cX12_wrong 48 = .ok (.invokevirtual 231, 3) := by decide +kernel
theorem dX12_wrong_51 : decode cX12_wrong 51 = .ok (.istore 6, 2) := by decide +kernel
theorem dX12_wrong_53 : decode cX12_wrong 53 = .ok (.iload 4, 2) := by decide +kernel
theorem dX12_wrong_55 : decode cX12_wrong 55 = .ok (.ldc 83, 2) := by decide +kernel
theorem dX12_wrong_57 : decode cX12_wrong 57 = .ok (.if_icmp .eq 36, 3) := by decide +kernel
theorem dX12_wrong_60 : decode cX12_wrong 60 = .ok (.iload 6, 2) := by decide +kernel
theorem dX12_wrong_62 : decode cX12_wrong 62 = .ok (.invokestatic 237, 3) := by decide +kernel
theorem dX12_wrong_65 : decode cX12_wrong 65 = .ok (.iload 4, 2) := by decide +kernel
theorem dX12_wrong_67 : decode cX12_wrong 67 = .ok (.invokestatic 237, 3) := by decide +kernel
theorem dX12_wrong_70 : decode cX12_wrong 70 = .ok (.if_icmp .lt 23, 3) := by decide +kernel
theorem dX12_wrong_73 : decode cX12_wrong 73 = .ok (.iload 6, 2) := by decide +kernel
theorem dX12_wrong_75 : decode cX12_wrong 75 = .ok (.invokestatic 237, 3) := by decide +kernel
theorem dX12_wrong_78 : decode cX12_wrong 78 = .ok (.iload 4, 2) := by decide +kernel
theorem dX12_wrong_80 : decode cX12_wrong 80 = .ok (.invokestatic 237, 3) := by decide +kernel
theorem dX12_wrong_83 : decode cX12_wrong 83 = .ok (.if_icmp .ne 14, 3) := by decide +kernel
theorem dX12_wrong_86 : decode cX12_wrong 86 = .ok (.iload 6, 2) := by decide +kernel
theorem dX12_wrong_88 : decode cX12_wrong 88 = .ok (.iload 4, 2) := by decide +kernel
theorem dX12_wrong_90 : decode cX12_wrong 90 = .ok (.if_icmp .ge 7, 3) := by decide +kernel
theorem dX12_wrong_93 : decode cX12_wrong 93 = .ok (.iconst 1, 1) := by decide +kernel
theorem dX12_wrong_94 : decode cX12_wrong 94 = .ok (.goto 4, 3) := by decide +kernel
theorem dX12_wrong_97 : decode cX12_wrong 97 = .ok (.iconst 0, 1) := by decide +kernel
theorem dX12_wrong_98 : decode cX12_wrong 98 = .ok (.istore 7, 2) := by decide +kernel
theorem dX12_wrong_100 : decode cX12_wrong 100 = .ok (.iload 7, 2) := by decide +kernel
theorem dX12_wrong_102 : decode cX12_wrong 102 = .ok (.ifCond .eq 8, 3) := by decide +kernel
theorem dX12_wrong_105 : decode cX12_wrong 105 = .ok (.iload 6, 2) := by decide +kernel
theorem dX12_wrong_107 : decode cX12_wrong 107 = .ok (.goto 5, 3) := by decide +kernel
theorem dX12_wrong_110 : decode cX12_wrong 110 = .ok (.iload 4, 2) := by decide +kernel
theorem dX12_wrong_112 : decode cX12_wrong 112 = .ok (.istore 4, 2) := by decide +kernel
theorem dX12_wrong_114 : decode cX12_wrong 114 = .ok (.iinc 5 1, 3) := by decide +kernel
theorem dX12_wrong_117 : decode cX12_wrong 117 = .ok (.goto (-86), 3) := by decide +kernel
theorem dX12_wrong_120 : decode cX12_wrong 120 = .ok (.iload_n 2, 1) := by decide +kernel
theorem dX12_wrong_121 : decode cX12_wrong 121 = .ok (.ifCond .ne 11, 3) := by decide +kernel
theorem dX12_wrong_124 : decode cX12_wrong 124 = .ok (.iload 4, 2) := by decide +kernel
theorem dX12_wrong_126 : decode cX12_wrong 126 = .ok (.invokestatic 237, 3) := by decide +kernel
theorem dX12_wrong_129 : decode cX12_wrong 129 = .ok (.goto 5, 3) := by decide +kernel
theorem dX12_wrong_132 : decode cX12_wrong 132 = .ok (.iload 4, 2) := by decide +kernel
theorem dX12_wrong_134 : decode cX12_wrong 134 = .ok (.ireturn, 1) := by decide +kernel
theorem dX12_layTrulyShown_0 : decode cX12_layTrulyShown 0 = .ok (.aload_n 0, 1) := by decide +kernel
theorem dX12_layTrulyShown_1 : decode cX12_layTrulyShown 1 = .ok (.invokevirtual 203, 3) := by decide +kernel
theorem dX12_layTrulyShown_4 : decode cX12_layTrulyShown 4 = .ok (.iconst 0, 1) := by decide +kernel
theorem dX12_layTrulyShown_5 : decode cX12_layTrulyShown 5 = .ok (.istore_n 2, 1) := by decide +kernel
theorem dX12_layTrulyShown_6 : decode cX12_layTrulyShown 6 = .ok (.iload_n 2, 1) := by decide +kernel
theorem dX12_layTrulyShown_7 : decode cX12_layTrulyShown 7 = .ok (.iload_n 1, 1) := by decide +kernel
theorem dX12_layTrulyShown_8 : decode cX12_layTrulyShown 8 = .ok (.if_icmp .ge 20, 3) := by decide +kernel
theorem dX12_layTrulyShown_11 : decode cX12_layTrulyShown 11 = .ok (.aload_n 0, 1) := by decide +kernel
theorem dX12_layTrulyShown_12 : decode cX12_layTrulyShown 12 = .ok (.getfield 34, 3) := by decide +kernel
theorem dX12_layTrulyShown_15 : decode cX12_layTrulyShown 15 = .ok (.iload_n 2, 1) := by decide +kernel
theorem dX12_layTrulyShown_16 : decode cX12_layTrulyShown 16 = .ok (.aload_n 0, 1) := by decide +kernel
theorem dX12_layTrulyShown_17 : decode cX12_layTrulyShown 17 = .ok (.iload_n 2, 1) := by decide +kernel
theorem dX12_layTrulyShown_18 : decode cX12_layTrulyShown 18 = .ok (.invokevirtual 206, 3) := by decide +kernel
theorem dX12_layTrulyShown_21 : decode cX12_layTrulyShown 21 = .ok (.iastore, 1) := by decide +kernel
theorem dX12_layTrulyShown_22 : decode cX12_layTrulyShown 22 = .ok (.iinc 2 1, 3) := by decide +kernel
theorem dX12_layTrulyShown_25 : decode cX12_layTrulyShown 25 = .ok (.goto (-19), 3) := by decide +kernel
theorem dX12_layTrulyShown_28 : decode cX12_layTrulyShown 28 = .ok (.return_, 1) := by decide +kernel
theorem dX12_layLeft_0 : decode cX12_layLeft 0 = .ok (.aload_n 0, 1) := by decide +kernel
theorem dX12_layLeft_1 : decode cX12_layLeft 1 = .ok (.aload_n 0, 1) := by decide +kernel
theorem dX12_layLeft_2 : decode cX12_layLeft 2 = .ok (.getfield 19, 3) := by decide +kernel
theorem dX12_layLeft_5 : decode cX12_layLeft 5 = .ok (.iconst 4, 1) := by decide +kernel
theorem dX12_layLeft_6 : decode cX12_layLeft 6 = .ok (.iaload, 1) := by decide +kernel
theorem dX12_layLeft_7 : decode cX12_layLeft 7 = .ok (.invokevirtual 240, 3) := by decide +kernel
theorem dX12_layLeft_10 : decode cX12_layLeft 10 = .ok (.aload_n 0, 1) := by decide +kernel
theorem dX12_layLeft_11 : decode cX12_layLeft 11 = .ok (.iconst 0, 1) := by decide +kernel
theorem dX12_layLeft_12 : decode cX12_layLeft 12 = .ok (.putfield 243, 3) := by decide +kernel
theorem dX12_layLeft_15 : decode cX12_layLeft 15 = .ok (.iconst 0, 1) := by decide +kernel
theorem dX12_layLeft_16 : decode cX12_layLeft 16 = .ok (.istore_n 1, 1) := by decide +kernel
theorem dX12_layLeft_17 : decode cX12_layLeft 17 = .ok (.iload_n 1, 1) := by decide +kernel
theorem dX12_layLeft_18 : decode cX12_layLeft 18 = .ok (.aload_n 0, 1) := by decide +kernel
theorem dX12_layLeft_19 : decode cX12_layLeft 19 = .ok (.invokevirtual 225, 3) := by decide +kernel
theorem dX12_layLeft_22 : decode cX12_layLeft 22 = .ok (.if_icmp .ge 82, 3) := by decide +kernel
theorem dX12_layLeft_25 : decode cX12_layLeft 25 = .ok (.aload_n 0, 1) := by decide +kernel
theorem dX12_layLeft_26 : decode cX12_layLeft 26 = .ok (.iload_n 1, 1) := by decide +kernel
theorem dX12_layLeft_27 : decode cX12_layLeft 27 = .ok (.invokevirtual 228, 3) := by decide +kernel
theorem dX12_layLeft_30 : decode cX12_layLeft 30 = .ok (.iconst 1, 1) := by decide +kernel
theorem dX12_layLeft_31 : decode cX12_layLeft 31 = .ok (.istore_n 2, 1) := by decide +kernel
theorem dX12_layLeft_32 : decode cX12_layLeft 32 = .ok (.iconst 0, 1) := by decide +kernel
theorem dX12_layLeft_33 : decode cX12_layLeft 33 = .ok (.istore_n 3, 1) := by decide +kernel
theorem dX12_layLeft_34 : decode cX12_layLeft 34 = .ok (.iload_n 3, 1) := by decide +kernel
theorem dX12_layLeft_35 : decode cX12_layLeft 35 = .ok (.aload_n 0, 1) := by decide +kernel
theorem dX12_layLeft_36 : decode cX12_layLeft 36 = .ok (.getfield 19, 3) := by decide +kernel
theorem dX12_layLeft_39 : decode cX12_layLeft 39 = .ok (.iconst 4, 1) := by decide +kernel
theorem dX12_layLeft_40 : decode cX12_layLeft 40 = .ok (.iaload, 1) := by decide +kernel
theorem dX12_layLeft_41 : decode cX12_layLeft 41 = .ok (.if_icmp .ge 33, 3) := by decide +kernel
theorem dX12_layLeft_44 : decode cX12_layLeft 44 = .ok (.iload_n 2, 1) := by decide +kernel
theorem dX12_layLeft_45 : decode cX12_layLeft 45 = .ok (.ifCond .eq 29, 3) := by decide +kernel
theorem dX12_layLeft_48 : decode cX12_layLeft 48 = .ok (.aload_n 0, 1) := by decide +kernel
theorem dX12_layLeft_49 : decode cX12_layLeft 49 = .ok (.iload_n 3, 1) := by decide +kernel
theorem dX12_layLeft_50 : decode cX12_layLeft 50 = .ok (.invokevirtual 206, 3) := by decide +kernel
theorem dX12_layLeft_53 : decode cX12_layLeft 53 = .ok (.aload_n 0, 1) := by decide +kernel
theorem dX12_layLeft_54 : decode cX12_layLeft 54 = .ok (.getfield 34, 3) := by decide +kernel
theorem dX12_layLeft_57 : decode cX12_layLeft 57 = .ok (.iload_n 3, 1) := by decide +kernel
theorem dX12_layLeft_58 : decode cX12_layLeft 58 = .ok (.iaload, 1) := by decide +kernel
theorem dX12_layLeft_59 : decode cX12_layLeft 59 = .ok (.if_icmp .ne 7, 3) := by decide +kernel
theorem dX12_layLeft_62 : decode cX12_layLeft 62 = .ok (.iconst 1, 1) := by decide +kernel
theorem dX12_layLeft_63 : decode cX12_layLeft 63 = .ok (.goto 4, 3) := by decide +kernel
theorem dX12_layLeft_66 : decode cX12_layLeft 66 = .ok (.iconst 0, 1) := by decide +kernel
theorem dX12_layLeft_67 : decode cX12_layLeft 67 = .ok (.istore_n 2, 1) := by decide +kernel
theorem dX12_layLeft_68 : decode cX12_layLeft 68 = .ok (.iinc 3 1, 3) := by decide +kernel
theorem dX12_layLeft_71 : decode cX12_layLeft 71 = .ok (.goto (-37), 3) := by decide +kernel
theorem dX12_layLeft_74 : decode cX12_layLeft 74 = .ok (.iload_n 2, 1) := by decide +kernel
theorem dX12_layLeft_75 : decode cX12_layLeft 75 = .ok (.ifCond .eq 23, 3) := by decide +kernel
theorem dX12_layLeft_78 : decode cX12_layLeft 78 = .ok (.aload_n 0, 1) := by decide +kernel
theorem dX12_layLeft_79 : decode cX12_layLeft 79 = .ok (.getfield 31, 3) := by decide +kernel
theorem dX12_layLeft_82 : decode cX12_layLeft 82 = .ok (.aload_n 0, 1) := by decide +kernel
theorem dX12_layLeft_83 : decode cX12_layLeft 83 = .ok (.getfield 243, 3) := by decide +kernel
theorem dX12_layLeft_86 : decode cX12_layLeft 86 = .ok (.iload_n 1, 1) := by decide +kernel
theorem dX12_layLeft_87 : decode cX12_layLeft 87 = .ok (.iastore, 1) := by decide +kernel
theorem dX12_layLeft_88 : decode cX12_layLeft 88 = .ok (.aload_n 0, 1) := by decide +kernel
theorem dX12_layLeft_89 : decode cX12_layLeft 89 = .ok (.dup, 1) := by decide +kernel
theorem dX12_layLeft_90 : decode cX12_layLeft 90 = .ok (.getfield 243, 3) := by decide +kernel
theorem dX12_layLeft_93 : decode cX12_layLeft 93 = .ok (.iconst 1, 1) := by decide +kernel
theorem dX12_layLeft_94 : decode cX12_layLeft 94 = .ok (.iadd, 1) := by decide +kernel
theorem dX12_layLeft_95 : decode cX12_layLeft 95 = .ok (.putfield 243, 3) := by decide +kernel
theorem dX12_layLeft_98 : decode cX12_layLeft 98 = .ok (.iinc 1 1, 3) := by decide +kernel
theorem dX12_layLeft_101 : decode cX12_layLeft 101 = .ok (.goto (-84), 3) := by decide +kernel
theorem dX12_layLeft_104 : decode cX12_layLeft 104 = .ok (.return_, 1) := by decide +kernel
theorem dX12_isOne_0 : decode cX12_isOne 0 = .ok (.aload_n 0, 1) := by decide +kernel
theorem dX12_isOne_1 : decode cX12_isOne 1 = .ok (.getfield 19, 3) := by decide +kernel
theorem dX12_isOne_4 : decode cX12_isOne 4 = .ok (.iconst 4, 1) := by decide +kernel
theorem dX12_isOne_5 : decode cX12_isOne 5 = .ok (.iaload, 1) := by decide +kernel
theorem dX12_isOne_6 : decode cX12_isOne 6 = .ok (.istore_n 2, 1) := by decide +kernel
theorem dX12_isOne_7 : decode cX12_isOne 7 = .ok (.aload_n 0, 1) := by decide +kernel
theorem dX12_isOne_8 : decode cX12_isOne 8 = .ok (.iload_n 2, 1) := by decide +kernel
theorem dX12_isOne_9 : decode cX12_isOne 9 = .ok (.iload_n 1, 1) := by decide +kernel
theorem dX12_isOne_10 : decode cX12_isOne 10 = .ok (.iadd, 1) := by decide +kernel
theorem dX12_isOne_11 : decode cX12_isOne 11 = .ok (.invokevirtual 240, 3) := by decide +kernel
theorem dX12_isOne_14 : decode cX12_isOne 14 = .ok (.iconst 0, 1) := by decide +kernel
theorem dX12_isOne_15 : decode cX12_isOne 15 = .ok (.istore_n 3, 1) := by decide +kernel
theorem dX12_isOne_16 : decode cX12_isOne 16 = .ok (.iconst 0, 1) := by decide +kernel
theorem dX12_isOne_17 : decode cX12_isOne 17 = .ok (.istore 4, 2) := by decide +kernel
theorem dX12_isOne_19 : decode cX12_isOne 19 = .ok (.iload 4, 2) := by decide +kernel
theorem dX12_isOne_21 : decode cX12_isOne 21 = .ok (.aload_n 0, 1) := by decide +kernel
theorem dX12_isOne_22 : decode cX12_isOne 22 = .ok (.getfield 243, 3) := by decide +kernel
theorem dX12_isOne_25 : decode cX12_isOne 25 = .ok (.if_icmp .ge 86, 3) := by decide +kernel
theorem dX12_isOne_28 : decode cX12_isOne 28 = .ok (.iload_n 3, 1) := by decide +kernel
theorem dX12_isOne_29 : decode cX12_isOne 29 = .ok (.iconst 2, 1) := by decide +kernel
theorem dX12_isOne_30 : decode cX12_isOne 30 = .ok (.if_icmp .ge 81, 3) := by decide +kernel
theorem dX12_isOne_33 : decode cX12_isOne 33 = .ok (.aload_n 0, 1) := by decide +kernel
theorem dX12_isOne_34 : decode cX12_isOne 34 = .ok (.aload_n 0, 1) := by decide +kernel
theorem dX12_isOne_35 : decode cX12_isOne 35 = .ok (.getfield 31, 3) := by decide +kernel
theorem dX12_isOne_38 : decode cX12_isOne 38 = .ok (.iload 4, 2) := by decide +kernel
theorem dX12_isOne_40 : decode cX12_isOne 40 = .ok (.iaload, 1) := by decide +kernel
theorem dX12_isOne_41 : decode cX12_isOne 41 = .ok (.invokevirtual 228, 3) := by decide +kernel
theorem dX12_isOne_44 : decode cX12_isOne 44 = .ok (.iconst 1, 1) := by decide +kernel
theorem dX12_isOne_45 : decode cX12_isOne 45 = .ok (.istore 5, 2) := by decide +kernel
theorem dX12_isOne_47 : decode cX12_isOne 47 = .ok (.iload_n 2, 1) := by decide +kernel
theorem dX12_isOne_48 : decode cX12_isOne 48 = .ok (.istore 6, 2) := by decide +kernel
theorem dX12_isOne_50 : decode cX12_isOne 50 = .ok (.iload 6, 2) := by decide +kernel
theorem dX12_isOne_52 : decode cX12_isOne 52 = .ok (.iload_n 2, 1) := by decide +kernel
theorem dX12_isOne_53 : decode cX12_isOne 53 = .ok (.iload_n 1, 1) := by decide +kernel
theorem dX12_isOne_54 : decode cX12_isOne 54 = .ok (.iadd, 1) := by decide +kernel
theorem dX12_isOne_55 : decode cX12_isOne 55 = .ok (.if_icmp .ge 37, 3) := by decide +kernel
theorem dX12_isOne_58 : decode cX12_isOne 58 = .ok (.iload 5, 2) := by decide +kernel
theorem dX12_isOne_60 : decode cX12_isOne 60 = .ok (.ifCond .eq 32, 3) := by decide +kernel
theorem dX12_isOne_63 : decode cX12_isOne 63 = .ok (.aload_n 0, 1) := by decide +kernel
theorem dX12_isOne_64 : decode cX12_isOne 64 = .ok (.iload 6, 2) := by decide +kernel
theorem dX12_isOne_66 : decode cX12_isOne 66 = .ok (.invokevirtual 206, 3) := by decide +kernel
theorem dX12_isOne_69 : decode cX12_isOne 69 = .ok (.aload_n 0, 1) := by decide +kernel
theorem dX12_isOne_70 : decode cX12_isOne 70 = .ok (.getfield 34, 3) := by decide +kernel
theorem dX12_isOne_73 : decode cX12_isOne 73 = .ok (.iload 6, 2) := by decide +kernel
theorem dX12_isOne_75 : decode cX12_isOne 75 = .ok (.iaload, 1) := by decide +kernel
theorem dX12_isOne_76 : decode cX12_isOne 76 = .ok (.if_icmp .ne 7, 3) := by decide +kernel
theorem dX12_isOne_79 : decode cX12_isOne 79 = .ok (.iconst 1, 1) := by decide +kernel
theorem dX12_isOne_80 : decode cX12_isOne 80 = .ok (.goto 4, 3) := by decide +kernel
theorem dX12_isOne_83 : decode cX12_isOne 83 = .ok (.iconst 0, 1) := by decide +kernel
theorem dX12_isOne_84 : decode cX12_isOne 84 = .ok (.istore 5, 2) := by decide +kernel
theorem dX12_isOne_86 : decode cX12_isOne 86 = .ok (.iinc 6 1, 3) := by decide +kernel
theorem dX12_isOne_89 : decode cX12_isOne 89 = .ok (.goto (-39), 3) := by decide +kernel
theorem dX12_isOne_92 : decode cX12_isOne 92 = .ok (.iload_n 3, 1) := by decide +kernel
theorem dX12_isOne_93 : decode cX12_isOne 93 = .ok (.iload 5, 2) := by decide +kernel
theorem dX12_isOne_95 : decode cX12_isOne 95 = .ok (.ifCond .eq 7, 3) := by decide +kernel
theorem dX12_isOne_98 : decode cX12_isOne 98 = .ok (.iconst 1, 1) := by decide +kernel
theorem dX12_isOne_99 : decode cX12_isOne 99 = .ok (.goto 4, 3) := by decide +kernel
theorem dX12_isOne_102 : decode cX12_isOne 102 = .ok (.iconst 0, 1) := by decide +kernel
theorem dX12_isOne_103 : decode cX12_isOne 103 = .ok (.iadd, 1) := by decide +kernel
theorem dX12_isOne_104 : decode cX12_isOne 104 = .ok (.istore_n 3, 1) := by decide +kernel
theorem dX12_isOne_105 : decode cX12_isOne 105 = .ok (.iinc 4 1, 3) := by decide +kernel
theorem dX12_isOne_108 : decode cX12_isOne 108 = .ok (.goto (-89), 3) := by decide +kernel
theorem dX12_isOne_111 : decode cX12_isOne 111 = .ok (.iload_n 3, 1) := by decide +kernel
theorem dX12_isOne_112 : decode cX12_isOne 112 = .ok (.iconst 1, 1) := by decide +kernel
theorem dX12_isOne_113 : decode cX12_isOne 113 = .ok (.if_icmp .ne 7, 3) := by decide +kernel
theorem dX12_isOne_116 : decode cX12_isOne 116 = .ok (.iconst 1, 1) := by decide +kernel
theorem dX12_isOne_117 : decode cX12_isOne 117 = .ok (.goto 4, 3) := by decide +kernel
theorem dX12_isOne_120 : decode cX12_isOne 120 = .ok (.iconst 0, 1) := by decide +kernel
theorem dX12_isOne_121 : decode cX12_isOne 121 = .ok (.ireturn, 1) := by decide +kernel
theorem dX12_laySoon_0 : decode cX12_laySoon 0 = .ok (.aload_n 0, 1) := by decide +kernel
theorem dX12_laySoon_1 : decode cX12_laySoon 1 = .ok (.ldc 83, 2) := by decide +kernel
theorem dX12_laySoon_3 : decode cX12_laySoon 3 = .ok (.putfield 246, 3) := by decide +kernel
theorem dX12_laySoon_6 : decode cX12_laySoon 6 = .ok (.aload_n 0, 1) := by decide +kernel
theorem dX12_laySoon_7 : decode cX12_laySoon 7 = .ok (.invokevirtual 249, 3) := by decide +kernel
theorem dX12_laySoon_10 : decode cX12_laySoon 10 = .ok (.aload_n 0, 1) := by decide +kernel
theorem dX12_laySoon_11 : decode cX12_laySoon 11 = .ok (.getfield 19, 3) := by decide +kernel
theorem dX12_laySoon_14 : decode cX12_laySoon 14 = .ok (.iconst 4, 1) := by decide +kernel
theorem dX12_laySoon_15 : decode cX12_laySoon 15 = .ok (.iaload, 1) := by decide +kernel
theorem dX12_laySoon_16 : decode cX12_laySoon 16 = .ok (.istore_n 1, 1) := by decide +kernel
theorem dX12_laySoon_17 : decode cX12_laySoon 17 = .ok (.iconst 1, 1) := by decide +kernel
theorem dX12_laySoon_18 : decode cX12_laySoon 18 = .ok (.aload_n 0, 1) := by decide +kernel
theorem dX12_laySoon_19 : decode cX12_laySoon 19 = .ok (.getfield 19, 3) := by decide +kernel
theorem dX12_laySoon_22 : decode cX12_laySoon 22 = .ok (.iconst 3, 1) := by decide +kernel
theorem dX12_laySoon_23 : decode cX12_laySoon 23 = .ok (.iaload, 1) := by decide +kernel
theorem dX12_laySoon_24 : decode cX12_laySoon 24 = .ok (.ishl, 1) := by decide +kernel
theorem dX12_laySoon_25 : decode cX12_laySoon 25 = .ok (.istore_n 2, 1) := by decide +kernel
theorem dX12_laySoon_26 : decode cX12_laySoon 26 = .ok (.aload_n 0, 1) := by decide +kernel
theorem dX12_laySoon_27 : decode cX12_laySoon 27 = .ok (.getfield 243, 3) := by decide +kernel
theorem dX12_laySoon_30 : decode cX12_laySoon 30 = .ok (.iconst 1, 1) := by decide +kernel
theorem dX12_laySoon_31 : decode cX12_laySoon 31 = .ok (.if_icmp .ne 9, 3) := by decide +kernel
theorem dX12_laySoon_34 : decode cX12_laySoon 34 = .ok (.aload_n 0, 1) := by decide +kernel
theorem dX12_laySoon_35 : decode cX12_laySoon 35 = .ok (.iconst 0, 1) := by decide +kernel
theorem dX12_laySoon_36 : decode cX12_laySoon 36 = .ok (.putfield 246, 3) := by decide +kernel
theorem dX12_laySoon_39 : decode cX12_laySoon 39 = .ok (.return_, 1) := by decide +kernel
theorem dX12_laySoon_40 : decode cX12_laySoon 40 = .ok (.iconst 0, 1) := by decide +kernel
theorem dX12_laySoon_41 : decode cX12_laySoon 41 = .ok (.istore_n 3, 1) := by decide +kernel
theorem dX12_laySoon_42 : decode cX12_laySoon 42 = .ok (.iload_n 3, 1) := by decide +kernel
theorem dX12_laySoon_43 : decode cX12_laySoon 43 = .ok (.iload_n 2, 1) := by decide +kernel
theorem dX12_laySoon_44 : decode cX12_laySoon 44 = .ok (.if_icmp .ge 38, 3) := by decide +kernel
theorem dX12_laySoon_47 : decode cX12_laySoon 47 = .ok (.aload_n 0, 1) := by decide +kernel
theorem dX12_laySoon_48 : decode cX12_laySoon 48 = .ok (.getfield 19, 3) := by decide +kernel
theorem dX12_laySoon_51 : decode cX12_laySoon 51 = .ok (.bipush 13, 2) := by decide +kernel
theorem dX12_laySoon_53 : decode cX12_laySoon 53 = .ok (.iload_n 1, 1) := by decide +kernel
theorem dX12_laySoon_54 : decode cX12_laySoon 54 = .ok (.iadd, 1) := by decide +kernel
theorem dX12_laySoon_55 : decode cX12_laySoon 55 = .ok (.iload_n 3, 1) := by decide +kernel
theorem dX12_laySoon_56 : decode cX12_laySoon 56 = .ok (.iastore, 1) := by decide +kernel
theorem dX12_laySoon_57 : decode cX12_laySoon 57 = .ok (.aload_n 0, 1) := by decide +kernel
theorem dX12_laySoon_58 : decode cX12_laySoon 58 = .ok (.iconst 1, 1) := by decide +kernel
theorem dX12_laySoon_59 : decode cX12_laySoon 59 = .ok (.invokevirtual 252, 3) := by decide +kernel
theorem dX12_laySoon_62 : decode cX12_laySoon 62 = .ok (.ifCond .eq 14, 3) := by decide +kernel
theorem dX12_laySoon_65 : decode cX12_laySoon 65 = .ok (.aload_n 0, 1) := by decide +kernel
theorem dX12_laySoon_66 : decode cX12_laySoon 66 = .ok (.iconst 1, 1) := by decide +kernel
theorem dX12_laySoon_67 : decode cX12_laySoon 67 = .ok (.putfield 246, 3) := by decide +kernel
theorem dX12_laySoon_70 : decode cX12_laySoon 70 = .ok (.aload_n 0, 1) := by decide +kernel
theorem dX12_laySoon_71 : decode cX12_laySoon 71 = .ok (.iload_n 3, 1) := by decide +kernel
theorem dX12_laySoon_72 : decode cX12_laySoon 72 = .ok (.putfield 255, 3) := by decide +kernel
theorem dX12_laySoon_75 : decode cX12_laySoon 75 = .ok (.return_, 1) := by decide +kernel
theorem dX12_laySoon_76 : decode cX12_laySoon 76 = .ok (.iinc 3 1, 3) := by decide +kernel
theorem dX12_laySoon_79 : decode cX12_laySoon 79 = .ok (.goto (-37), 3) := by decide +kernel
theorem dX12_laySoon_82 : decode cX12_laySoon 82 = .ok (.iconst 0, 1) := by decide +kernel
theorem dX12_laySoon_83 : decode cX12_laySoon 83 = .ok (.istore_n 3, 1) := by decide +kernel
theorem dX12_laySoon_84 : decode cX12_laySoon 84 = .ok (.iload_n 3, 1) := by decide +kernel
theorem dX12_laySoon_85 : decode cX12_laySoon 85 = .ok (.iload_n 2, 1) := by decide +kernel
theorem dX12_laySoon_86 : decode cX12_laySoon 86 = .ok (.iload_n 2, 1) := by decide +kernel
theorem dX12_laySoon_87 : decode cX12_laySoon 87 = .ok (.imul, 1) := by decide +kernel
theorem dX12_laySoon_88 : decode cX12_laySoon 88 = .ok (.if_icmp .ge 63, 3) := by decide +kernel
theorem dX12_laySoon_91 : decode cX12_laySoon 91 = .ok (.aload_n 0, 1) := by decide +kernel
theorem dX12_laySoon_92 : decode cX12_laySoon 92 = .ok (.getfield 19, 3) := by decide +kernel
theorem dX12_laySoon_95 : decode cX12_laySoon 95 = .ok (.bipush 13, 2) := by decide +kernel
theorem dX12_laySoon_97 : decode cX12_laySoon 97 = .ok (.iload_n 1, 1) := by decide +kernel
theorem dX12_laySoon_98 : decode cX12_laySoon 98 = .ok (.iadd, 1) := by decide +kernel
theorem dX12_laySoon_99 : decode cX12_laySoon 99 = .ok (.iload_n 3, 1) := by decide +kernel
theorem dX12_laySoon_100 : decode cX12_laySoon 100 = .ok (.iload_n 2, 1) := by decide +kernel
theorem dX12_laySoon_101 : decode cX12_laySoon 101 = .ok (.idiv, 1) := by decide +kernel
theorem dX12_laySoon_102 : decode cX12_laySoon 102 = .ok (.iastore, 1) := by decide +kernel
theorem dX12_laySoon_103 : decode cX12_laySoon 103 = .ok (.aload_n 0, 1) := by decide +kernel
theorem dX12_laySoon_104 : decode cX12_laySoon 104 = .ok (.getfield 19, 3) := by decide +kernel
theorem dX12_laySoon_107 : decode cX12_laySoon 107 = .ok (.bipush 13, 2) := by decide +kernel
theorem dX12_laySoon_109 : decode cX12_laySoon 109 = .ok (.iload_n 1, 1) := by decide +kernel
theorem dX12_laySoon_110 : decode cX12_laySoon 110 = .ok (.iadd, 1) := by decide +kernel
theorem dX12_laySoon_111 : decode cX12_laySoon 111 = .ok (.iconst 1, 1) := by decide +kernel
theorem dX12_laySoon_112 : decode cX12_laySoon 112 = .ok (.iadd, 1) := by decide +kernel
theorem dX12_laySoon_113 : decode cX12_laySoon 113 = .ok (.iload_n 3, 1) := by decide +kernel
theorem dX12_laySoon_114 : decode cX12_laySoon 114 = .ok (.iload_n 2, 1) := by decide +kernel
theorem dX12_laySoon_115 : decode cX12_laySoon 115 = .ok (.irem, 1) := by decide +kernel
theorem dX12_laySoon_116 : decode cX12_laySoon 116 = .ok (.iastore, 1) := by decide +kernel
theorem dX12_laySoon_117 : decode cX12_laySoon 117 = .ok (.aload_n 0, 1) := by decide +kernel
theorem dX12_laySoon_118 : decode cX12_laySoon 118 = .ok (.iconst 2, 1) := by decide +kernel
theorem dX12_laySoon_119 : decode cX12_laySoon 119 = .ok (.invokevirtual 252, 3) := by decide +kernel
theorem dX12_laySoon_122 : decode cX12_laySoon 122 = .ok (.ifCond .eq 23, 3) := by decide +kernel
theorem dX12_laySoon_125 : decode cX12_laySoon 125 = .ok (.aload_n 0, 1) := by decide +kernel
theorem dX12_laySoon_126 : decode cX12_laySoon 126 = .ok (.iconst 2, 1) := by decide +kernel
theorem dX12_laySoon_127 : decode cX12_laySoon 127 = .ok (.putfield 246, 3) := by decide +kernel
theorem dX12_laySoon_130 : decode cX12_laySoon 130 = .ok (.aload_n 0, 1) := by decide +kernel
theorem dX12_laySoon_131 : decode cX12_laySoon 131 = .ok (.iload_n 3, 1) := by decide +kernel
theorem dX12_laySoon_132 : decode cX12_laySoon 132 = .ok (.iload_n 2, 1) := by decide +kernel
theorem dX12_laySoon_133 : decode cX12_laySoon 133 = .ok (.idiv, 1) := by decide +kernel
theorem dX12_laySoon_134 : decode cX12_laySoon 134 = .ok (.putfield 255, 3) := by decide +kernel
theorem dX12_laySoon_137 : decode cX12_laySoon 137 = .ok (.aload_n 0, 1) := by decide +kernel
theorem dX12_laySoon_138 : decode cX12_laySoon 138 = .ok (.iload_n 3, 1) := by decide +kernel
theorem dX12_laySoon_139 : decode cX12_laySoon 139 = .ok (.iload_n 2, 1) := by decide +kernel
theorem dX12_laySoon_140 : decode cX12_laySoon 140 = .ok (.irem, 1) := by decide +kernel
theorem dX12_laySoon_141 : decode cX12_laySoon 141 = .ok (.putfield 258, 3) := by decide +kernel
theorem dX12_laySoon_144 : decode cX12_laySoon 144 = .ok (.return_, 1) := by decide +kernel
theorem dX12_laySoon_145 : decode cX12_laySoon 145 = .ok (.iinc 3 1, 3) := by decide +kernel
theorem dX12_laySoon_148 : decode cX12_laySoon 148 = .ok (.goto (-64), 3) := by decide +kernel
theorem dX12_laySoon_151 : decode cX12_laySoon 151 = .ok (.return_, 1) := by decide +kernel
theorem dX12_soon_0 : decode cX12_soon 0 = .ok (.aload_n 0, 1) := by decide +kernel
theorem dX12_soon_1 : decode cX12_soon 1 = .ok (.iconst 0, 1) := by decide +kernel
theorem dX12_soon_2 : decode cX12_soon 2 = .ok (.putfield 47, 3) := by decide +kernel
theorem dX12_soon_5 : decode cX12_soon 5 = .ok (.aload_n 0, 1) := by decide +kernel
theorem dX12_soon_6 : decode cX12_soon 6 = .ok (.invokevirtual 195, 3) := by decide +kernel
theorem dX12_soon_9 : decode cX12_soon 9 = .ok (.ifCond .ne 6, 3) := by decide +kernel
theorem dX12_soon_12 : decode cX12_soon 12 = .ok (.ldc 199, 2) := by decide +kernel
theorem dX12_soon_14 : decode cX12_soon 14 = .ok (.ireturn, 1) := by decide +kernel
theorem dX12_soon_15 : decode cX12_soon 15 = .ok (.iload_n 1, 1) := by decide +kernel
theorem dX12_soon_16 : decode cX12_soon 16 = .ok (.iconst (-1), 1) := by decide +kernel
theorem dX12_soon_17 : decode cX12_soon 17 = .ok (.if_icmp .ge 6, 3) := by decide +kernel
theorem dX12_soon_20 : decode cX12_soon 20 = .ok (.ldc 67, 2) := by decide +kernel
theorem dX12_soon_22 : decode cX12_soon 22 = .ok (.ireturn, 1) := by decide +kernel
theorem dX12_soon_23 : decode cX12_soon 23 = .ok (.aload_n 0, 1) := by decide +kernel
theorem dX12_soon_24 : decode cX12_soon 24 = .ok (.invokevirtual 261, 3) := by decide +kernel
theorem dX12_soon_27 : decode cX12_soon 27 = .ok (.iload_n 1, 1) := by decide +kernel
theorem dX12_soon_28 : decode cX12_soon 28 = .ok (.ifCond .lt 11, 3) := by decide +kernel
theorem dX12_soon_31 : decode cX12_soon 31 = .ok (.iload_n 1, 1) := by decide +kernel
theorem dX12_soon_32 : decode cX12_soon 32 = .ok (.aload_n 0, 1) := by decide +kernel
theorem dX12_soon_33 : decode cX12_soon 33 = .ok (.getfield 246, 3) := by decide +kernel
theorem dX12_soon_36 : decode cX12_soon 36 = .ok (.if_icmp .lt 17, 3) := by decide +kernel
theorem dX12_soon_39 : decode cX12_soon 39 = .ok (.iload_n 1, 1) := by decide +kernel
theorem dX12_soon_40 : decode cX12_soon 40 = .ok (.ifCond .ge 10, 3) := by decide +kernel
theorem dX12_soon_43 : decode cX12_soon 43 = .ok (.aload_n 0, 1) := by decide +kernel
theorem dX12_soon_44 : decode cX12_soon 44 = .ok (.getfield 246, 3) := by decide +kernel
theorem dX12_soon_47 : decode cX12_soon 47 = .ok (.goto 5, 3) := by decide +kernel
theorem dX12_soon_50 : decode cX12_soon 50 = .ok (.ldc 83, 2) := by decide +kernel
theorem dX12_soon_52 : decode cX12_soon 52 = .ok (.ireturn, 1) := by decide +kernel
theorem dX12_soon_53 : decode cX12_soon 53 = .ok (.iload_n 1, 1) := by decide +kernel
theorem dX12_soon_54 : decode cX12_soon 54 = .ok (.ifCond .ne 10, 3) := by decide +kernel
theorem dX12_soon_57 : decode cX12_soon 57 = .ok (.aload_n 0, 1) := by decide +kernel
theorem dX12_soon_58 : decode cX12_soon 58 = .ok (.getfield 255, 3) := by decide +kernel
theorem dX12_soon_61 : decode cX12_soon 61 = .ok (.goto 7, 3) := by decide +kernel
theorem dX12_soon_64 : decode cX12_soon 64 = .ok (.aload_n 0, 1) := by decide +kernel
theorem dX12_soon_65 : decode cX12_soon 65 = .ok (.getfield 258, 3) := by decide +kernel
theorem dX12_soon_68 : decode cX12_soon 68 = .ok (.ireturn, 1) := by decide +kernel
theorem dX12_laws_0 : decode cX12_laws 0 = .ok (.aload_n 0, 1) := by decide +kernel
theorem dX12_laws_1 : decode cX12_laws 1 = .ok (.iconst 0, 1) := by decide +kernel
theorem dX12_laws_2 : decode cX12_laws 2 = .ok (.putfield 47, 3) := by decide +kernel
theorem dX12_laws_5 : decode cX12_laws 5 = .ok (.aload_n 0, 1) := by decide +kernel
theorem dX12_laws_6 : decode cX12_laws 6 = .ok (.iload_n 1, 1) := by decide +kernel
theorem dX12_laws_7 : decode cX12_laws 7 = .ok (.iconst 1, 1) := by decide +kernel
theorem dX12_laws_8 : decode cX12_laws 8 = .ok (.invokevirtual 221, 3) := by decide +kernel
theorem dX12_laws_11 : decode cX12_laws 11 = .ok (.istore_n 2, 1) := by decide +kernel
theorem dX12_laws_12 : decode cX12_laws 12 = .ok (.iload_n 2, 1) := by decide +kernel
theorem dX12_laws_13 : decode cX12_laws 13 = .ok (.ifCond .ge 5, 3) := by decide +kernel
theorem dX12_laws_16 : decode cX12_laws 16 = .ok (.iload_n 2, 1) := by decide +kernel
theorem dX12_laws_17 : decode cX12_laws 17 = .ok (.ireturn, 1) := by decide +kernel
theorem dX12_laws_18 : decode cX12_laws 18 = .ok (.iconst 0, 1) := by decide +kernel
theorem dX12_laws_19 : decode cX12_laws 19 = .ok (.istore_n 3, 1) := by decide +kernel
theorem dX12_laws_20 : decode cX12_laws 20 = .ok (.iconst 0, 1) := by decide +kernel
theorem dX12_laws_21 : decode cX12_laws 21 = .ok (.istore 4, 2) := by decide +kernel
theorem dX12_laws_23 : decode cX12_laws 23 = .ok (.iload 4, 2) := by decide +kernel
theorem dX12_laws_25 : decode cX12_laws 25 = .ok (.bipush 8, 2) := by decide +kernel
theorem dX12_laws_27 : decode cX12_laws 27 = .ok (.if_icmp .ge 44, 3) := by decide +kernel
theorem dX12_laws_30 : decode cX12_laws 30 = .ok (.aload_n 0, 1) := by decide +kernel
theorem dX12_laws_31 : decode cX12_laws 31 = .ok (.iload 4, 2) := by decide +kernel
theorem dX12_laws_33 : decode cX12_laws 33 = .ok (.iconst 3, 1) := by decide +kernel
theorem dX12_laws_34 : decode cX12_laws 34 = .ok (.iand, 1) := by decide +kernel
theorem dX12_laws_35 : decode cX12_laws 35 = .ok (.putfield 174, 3) := by decide +kernel
theorem dX12_laws_38 : decode cX12_laws 38 = .ok (.aload_n 0, 1) := by decide +kernel
theorem dX12_laws_39 : decode cX12_laws 39 = .ok (.iload 4, 2) := by decide +kernel
theorem dX12_laws_41 : decode cX12_laws 41 = .ok (.iconst 2, 1) := by decide +kernel
theorem dX12_laws_42 : decode cX12_laws 42 = .ok (.ishr, 1) := by decide +kernel
theorem dX12_laws_43 : decode cX12_laws 43 = .ok (.putfield 177, 3) := by decide +kernel
theorem dX12_laws_46 : decode cX12_laws 46 = .ok (.iload_n 3, 1) := by decide +kernel
theorem dX12_laws_47 : decode cX12_laws 47 = .ok (.aload_n 0, 1) := by decide +kernel
theorem dX12_laws_48 : decode cX12_laws 48 = .ok (.iload_n 1, 1) := by decide +kernel
theorem dX12_laws_49 : decode cX12_laws 49 = .ok (.invokevirtual 231, 3) := by decide +kernel
theorem dX12_laws_52 : decode cX12_laws 52 = .ok (.ifCond .ne 10, 3) := by decide +kernel
theorem dX12_laws_55 : decode cX12_laws 55 = .ok (.iconst 1, 1) := by decide +kernel
theorem dX12_laws_56 : decode cX12_laws 56 = .ok (.iload 4, 2) := by decide +kernel
theorem dX12_laws_58 : decode cX12_laws 58 = .ok (.ishl, 1) := by decide +kernel
theorem dX12_laws_59 : decode cX12_laws 59 = .ok (.goto 4, 3) := by decide +kernel
theorem dX12_laws_62 : decode cX12_laws 62 = .ok (.iconst 0, 1) := by decide +kernel
theorem dX12_laws_63 : decode cX12_laws 63 = .ok (.ior, 1) := by decide +kernel
theorem dX12_laws_64 : decode cX12_laws 64 = .ok (.istore_n 3, 1) := by decide +kernel
theorem dX12_laws_65 : decode cX12_laws 65 = .ok (.iinc 4 1, 3) := by decide +kernel
theorem dX12_laws_68 : decode cX12_laws 68 = .ok (.goto (-45), 3) := by decide +kernel
theorem dX12_laws_71 : decode cX12_laws 71 = .ok (.iload_n 3, 1) := by decide +kernel
theorem dX12_laws_72 : decode cX12_laws 72 = .ok (.ireturn, 1) := by decide +kernel
theorem dX12_error_0 : decode cX12_error 0 = .ok (.aload_n 0, 1) := by decide +kernel
theorem dX12_error_1 : decode cX12_error 1 = .ok (.iconst 0, 1) := by decide +kernel
theorem dX12_error_2 : decode cX12_error 2 = .ok (.putfield 47, 3) := by decide +kernel
theorem dX12_error_5 : decode cX12_error 5 = .ok (.aload_n 0, 1) := by decide +kernel
theorem dX12_error_6 : decode cX12_error 6 = .ok (.iload_n 1, 1) := by decide +kernel
theorem dX12_error_7 : decode cX12_error 7 = .ok (.invokevirtual 209, 3) := by decide +kernel
theorem dX12_error_10 : decode cX12_error 10 = .ok (.ifCond .ne 6, 3) := by decide +kernel
theorem dX12_error_13 : decode cX12_error 13 = .ok (.ldc 67, 2) := by decide +kernel
theorem dX12_error_15 : decode cX12_error 15 = .ok (.ireturn, 1) := by decide +kernel
theorem dX12_error_16 : decode cX12_error 16 = .ok (.aload_n 0, 1) := by decide +kernel
theorem dX12_error_17 : decode cX12_error 17 = .ok (.aload_n 0, 1) := by decide +kernel
theorem dX12_error_18 : decode cX12_error 18 = .ok (.getfield 19, 3) := by decide +kernel
theorem dX12_error_21 : decode cX12_error 21 = .ok (.iconst 4, 1) := by decide +kernel
theorem dX12_error_22 : decode cX12_error 22 = .ok (.iaload, 1) := by decide +kernel
theorem dX12_error_23 : decode cX12_error 23 = .ok (.invokevirtual 240, 3) := by decide +kernel
theorem dX12_error_26 : decode cX12_error 26 = .ok (.aload_n 0, 1) := by decide +kernel
theorem dX12_error_27 : decode cX12_error 27 = .ok (.iload_n 1, 1) := by decide +kernel
theorem dX12_error_28 : decode cX12_error 28 = .ok (.putfield 180, 3) := by decide +kernel
theorem dX12_error_31 : decode cX12_error 31 = .ok (.iconst 0, 1) := by decide +kernel
theorem dX12_error_32 : decode cX12_error 32 = .ok (.istore_n 2, 1) := by decide +kernel
theorem dX12_error_33 : decode cX12_error 33 = .ok (.iconst 0, 1) := by decide +kernel
theorem dX12_error_34 : decode cX12_error 34 = .ok (.istore_n 3, 1) := by decide +kernel
theorem dX12_error_35 : decode cX12_error 35 = .ok (.iload_n 3, 1) := by decide +kernel
theorem dX12_error_36 : decode cX12_error 36 = .ok (.aload_n 0, 1) := by decide +kernel
theorem dX12_error_37 : decode cX12_error 37 = .ok (.getfield 19, 3) := by decide +kernel
theorem dX12_error_40 : decode cX12_error 40 = .ok (.iconst 4, 1) := by decide +kernel
theorem dX12_error_41 : decode cX12_error 41 = .ok (.iaload, 1) := by decide +kernel
theorem dX12_error_42 : decode cX12_error 42 = .ok (.if_icmp .ge 33, 3) := by decide +kernel
theorem dX12_error_45 : decode cX12_error 45 = .ok (.iload_n 2, 1) := by decide +kernel
theorem dX12_error_46 : decode cX12_error 46 = .ok (.aload_n 0, 1) := by decide +kernel
theorem dX12_error_47 : decode cX12_error 47 = .ok (.iload_n 3, 1) := by decide +kernel
theorem dX12_error_48 : decode cX12_error 48 = .ok (.invokevirtual 206, 3) := by decide +kernel
theorem dX12_error_51 : decode cX12_error 51 = .ok (.aload_n 0, 1) := by decide +kernel
theorem dX12_error_52 : decode cX12_error 52 = .ok (.getfield 34, 3) := by decide +kernel
theorem dX12_error_55 : decode cX12_error 55 = .ok (.iload_n 3, 1) := by decide +kernel
theorem dX12_error_56 : decode cX12_error 56 = .ok (.iaload, 1) := by decide +kernel
theorem dX12_error_57 : decode cX12_error 57 = .ok (.if_icmp .eq 9, 3) := by decide +kernel
theorem dX12_error_60 : decode cX12_error 60 = .ok (.iconst 1, 1) := by decide +kernel
theorem dX12_error_61 : decode cX12_error 61 = .ok (.iload_n 3, 1) := by decide +kernel
theorem dX12_error_62 : decode cX12_error 62 = .ok (.ishl, 1) := by decide +kernel
theorem dX12_error_63 : decode cX12_error 63 = .ok (.goto 4, 3) := by decide +kernel
theorem dX12_error_66 : decode cX12_error 66 = .ok (.iconst 0, 1) := by decide +kernel
theorem dX12_error_67 : decode cX12_error 67 = .ok (.ior, 1) := by decide +kernel
theorem dX12_error_68 : decode cX12_error 68 = .ok (.istore_n 2, 1) := by decide +kernel
theorem dX12_error_69 : decode cX12_error 69 = .ok (.iinc 3 1, 3) := by decide +kernel
theorem dX12_error_72 : decode cX12_error 72 = .ok (.goto (-37), 3) := by decide +kernel
theorem dX12_error_75 : decode cX12_error 75 = .ok (.iload_n 2, 1) := by decide +kernel
theorem dX12_error_76 : decode cX12_error 76 = .ok (.ireturn, 1) := by decide +kernel
theorem dX12_sold_0 : decode cX12_sold 0 = .ok (.aload_n 0, 1) := by decide +kernel
theorem dX12_sold_1 : decode cX12_sold 1 = .ok (.iconst 0, 1) := by decide +kernel
theorem dX12_sold_2 : decode cX12_sold 2 = .ok (.putfield 47, 3) := by decide +kernel
theorem dX12_sold_5 : decode cX12_sold 5 = .ok (.aload_n 0, 1) := by decide +kernel
theorem dX12_sold_6 : decode cX12_sold 6 = .ok (.iload_n 1, 1) := by decide +kernel
theorem dX12_sold_7 : decode cX12_sold 7 = .ok (.invokevirtual 214, 3) := by decide +kernel
theorem dX12_sold_10 : decode cX12_sold 10 = .ok (.ifCond .eq 31, 3) := by decide +kernel
theorem dX12_sold_13 : decode cX12_sold 13 = .ok (.aload_n 0, 1) := by decide +kernel
theorem dX12_sold_14 : decode cX12_sold 14 = .ok (.iload_n 2, 1) := by decide +kernel
theorem dX12_sold_15 : decode cX12_sold 15 = .ok (.invokevirtual 209, 3) := by decide +kernel
theorem dX12_sold_18 : decode cX12_sold 18 = .ok (.ifCond .eq 23, 3) := by decide +kernel
theorem dX12_sold_21 : decode cX12_sold 21 = .ok (.iload_n 2, 1) := by decide +kernel
theorem dX12_sold_22 : decode cX12_sold 22 = .ok (.ifCond .eq 19, 3) := by decide +kernel
theorem dX12_sold_25 : decode cX12_sold 25 = .ok (.aload_n 0, 1) := by decide +kernel
theorem dX12_sold_26 : decode cX12_sold 26 = .ok (.getfield 19, 3) := by decide +kernel
theorem dX12_sold_29 : decode cX12_sold 29 = .ok (.bipush 13, 2) := by decide +kernel
theorem dX12_sold_31 : decode cX12_sold 31 = .ok (.iload_n 2, 1) := by decide +kernel
theorem dX12_sold_32 : decode cX12_sold 32 = .ok (.iadd, 1) := by decide +kernel
theorem dX12_sold_33 : decode cX12_sold 33 = .ok (.iaload, 1) := by decide +kernel
theorem dX12_sold_34 : decode cX12_sold 34 = .ok (.iload_n 1, 1) := by decide +kernel
theorem dX12_sold_35 : decode cX12_sold 35 = .ok (.ishr, 1) := by decide +kernel
theorem dX12_sold_36 : decode cX12_sold 36 = .ok (.iconst 1, 1) := by decide +kernel
theorem dX12_sold_37 : decode cX12_sold 37 = .ok (.iand, 1) := by decide +kernel
theorem dX12_sold_38 : decode cX12_sold 38 = .ok (.ifCond .ne 6, 3) := by decide +kernel
theorem dX12_sold_41 : decode cX12_sold 41 = .ok (.ldc 67, 2) := by decide +kernel
theorem dX12_sold_43 : decode cX12_sold 43 = .ok (.ireturn, 1) := by decide +kernel
theorem dX12_sold_44 : decode cX12_sold 44 = .ok (.aload_n 0, 1) := by decide +kernel
theorem dX12_sold_45 : decode cX12_sold 45 = .ok (.invokevirtual 203, 3) := by decide +kernel
theorem dX12_sold_48 : decode cX12_sold 48 = .ok (.aload_n 0, 1) := by decide +kernel
theorem dX12_sold_49 : decode cX12_sold 49 = .ok (.iload_n 2, 1) := by decide +kernel
theorem dX12_sold_50 : decode cX12_sold 50 = .ok (.invokevirtual 206, 3) := by decide +kernel
theorem dX12_sold_53 : decode cX12_sold 53 = .ok (.aload_n 0, 1) := by decide +kernel
theorem dX12_sold_54 : decode cX12_sold 54 = .ok (.iload_n 2, 1) := by decide +kernel
theorem dX12_sold_55 : decode cX12_sold 55 = .ok (.iconst 1, 1) := by decide +kernel
theorem dX12_sold_56 : decode cX12_sold 56 = .ok (.isub, 1) := by decide +kernel
theorem dX12_sold_57 : decode cX12_sold 57 = .ok (.invokevirtual 206, 3) := by decide +kernel
theorem dX12_sold_60 : decode cX12_sold 60 = .ok (.isub, 1) := by decide +kernel
theorem dX12_sold_61 : decode cX12_sold 61 = .ok (.aload_n 0, 1) := by decide +kernel
theorem dX12_sold_62 : decode cX12_sold 62 = .ok (.iload_n 1, 1) := by decide +kernel
theorem dX12_sold_63 : decode cX12_sold 63 = .ok (.iload_n 2, 1) := by decide +kernel
theorem dX12_sold_64 : decode cX12_sold 64 = .ok (.invokevirtual 186, 3) := by decide +kernel
theorem dX12_sold_67 : decode cX12_sold 67 = .ok (.isub, 1) := by decide +kernel
theorem dX12_sold_68 : decode cX12_sold 68 = .ok (.ireturn, 1) := by decide +kernel
theorem dX12_image_0 : decode cX12_image 0 = .ok (.aload_n 0, 1) := by decide +kernel
theorem dX12_image_1 : decode cX12_image 1 = .ok (.iconst 0, 1) := by decide +kernel
theorem dX12_image_2 : decode cX12_image 2 = .ok (.putfield 47, 3) := by decide +kernel
theorem dX12_image_5 : decode cX12_image 5 = .ok (.iload_n 1, 1) := by decide +kernel
theorem dX12_image_6 : decode cX12_image 6 = .ok (.i2l, 1) := by decide +kernel
theorem dX12_image_7 : decode cX12_image 7 = .ok (.lconst 0, 1) := by decide +kernel
theorem dX12_image_8 : decode cX12_image 8 = .ok (.lconst 1, 1) := by decide +kernel
theorem dX12_image_9 : decode cX12_image 9 = .ok (.invokestatic 57, 3) := by decide +kernel
theorem dX12_image_12 : decode cX12_image 12 = .ok (.ifCond .ne 6, 3) := by decide +kernel
theorem dX12_image_15 : decode cX12_image 15 = .ok (.ldc 67, 2) := by decide +kernel
theorem dX12_image_17 : decode cX12_image 17 = .ok (.ireturn, 1) := by decide +kernel
theorem dX12_image_18 : decode cX12_image 18 = .ok (.aload_n 0, 1) := by decide +kernel
theorem dX12_image_19 : decode cX12_image 19 = .ok (.invokevirtual 195, 3) := by decide +kernel
theorem dX12_image_22 : decode cX12_image 22 = .ok (.ifCond .ne 6, 3) := by decide +kernel
theorem dX12_image_25 : decode cX12_image 25 = .ok (.ldc 199, 2) := by decide +kernel
theorem dX12_image_27 : decode cX12_image 27 = .ok (.ireturn, 1) := by decide +kernel
theorem dX12_image_28 : decode cX12_image 28 = .ok (.iconst 0, 1) := by decide +kernel
theorem dX12_image_29 : decode cX12_image 29 = .ok (.istore_n 2, 1) := by decide +kernel
theorem dX12_image_30 : decode cX12_image 30 = .ok (.iload_n 2, 1) := by decide +kernel
theorem dX12_image_31 : decode cX12_image 31 = .ok (.bipush 39, 2) := by decide +kernel
theorem dX12_image_33 : decode cX12_image 33 = .ok (.if_icmp .ge 26, 3) := by decide +kernel
theorem dX12_image_36 : decode cX12_image 36 = .ok (.aload_n 0, 1) := by decide +kernel
theorem dX12_image_37 : decode cX12_image 37 = .ok (.getfield 41, 3) := by decide +kernel
theorem dX12_image_40 : decode cX12_image 40 = .ok (.bipush 39, 2) := by decide +kernel
theorem dX12_image_42 : decode cX12_image 42 = .ok (.iload_n 1, 1) := by decide +kernel
theorem dX12_image_43 : decode cX12_image 43 = .ok (.imul, 1) := by decide +kernel
theorem dX12_image_44 : decode cX12_image 44 = .ok (.iload_n 2, 1) := by decide +kernel
theorem dX12_image_45 : decode cX12_image 45 = .ok (.iadd, 1) := by decide +kernel
theorem dX12_image_46 : decode cX12_image 46 = .ok (.aload_n 0, 1) := by decide +kernel
theorem dX12_image_47 : decode cX12_image 47 = .ok (.getfield 19, 3) := by decide +kernel
theorem dX12_image_50 : decode cX12_image 50 = .ok (.iload_n 2, 1) := by decide +kernel
theorem dX12_image_51 : decode cX12_image 51 = .ok (.iaload, 1) := by decide +kernel
theorem dX12_image_52 : decode cX12_image 52 = .ok (.iastore, 1) := by decide +kernel
theorem dX12_image_53 : decode cX12_image 53 = .ok (.iinc 2 1, 3) := by decide +kernel
theorem dX12_image_56 : decode cX12_image 56 = .ok (.goto (-26), 3) := by decide +kernel
theorem dX12_image_59 : decode cX12_image 59 = .ok (.aload_n 0, 1) := by decide +kernel
theorem dX12_image_60 : decode cX12_image 60 = .ok (.getfield 37, 3) := by decide +kernel
theorem dX12_image_63 : decode cX12_image 63 = .ok (.iload_n 1, 1) := by decide +kernel
theorem dX12_image_64 : decode cX12_image 64 = .ok (.iconst 1, 1) := by decide +kernel
theorem dX12_image_65 : decode cX12_image 65 = .ok (.bastore, 1) := by decide +kernel
theorem dX12_image_66 : decode cX12_image 66 = .ok (.iconst 1, 1) := by decide +kernel
theorem dX12_image_67 : decode cX12_image 67 = .ok (.ireturn, 1) := by decide +kernel
theorem dX12_restore_0 : decode cX12_restore 0 = .ok (.aload_n 0, 1) := by decide +kernel
theorem dX12_restore_1 : decode cX12_restore 1 = .ok (.iconst 0, 1) := by decide +kernel
theorem dX12_restore_2 : decode cX12_restore 2 = .ok (.putfield 47, 3) := by decide +kernel
theorem dX12_restore_5 : decode cX12_restore 5 = .ok (.iload_n 1, 1) := by decide +kernel
theorem dX12_restore_6 : decode cX12_restore 6 = .ok (.i2l, 1) := by decide +kernel
theorem dX12_restore_7 : decode cX12_restore 7 = .ok (.lconst 0, 1) := by decide +kernel
theorem dX12_restore_8 : decode cX12_restore 8 = .ok (.lconst 1, 1) := by decide +kernel
theorem dX12_restore_9 : decode cX12_restore 9 = .ok (.invokestatic 57, 3) := by decide +kernel
theorem dX12_restore_12 : decode cX12_restore 12 = .ok (.ifCond .ne 6, 3) := by decide +kernel
theorem dX12_restore_15 : decode cX12_restore 15 = .ok (.ldc 67, 2) := by decide +kernel
theorem dX12_restore_17 : decode cX12_restore 17 = .ok (.ireturn, 1) := by decide +kernel
theorem dX12_restore_18 : decode cX12_restore 18 = .ok (.aload_n 0, 1) := by decide +kernel
theorem dX12_restore_19 : decode cX12_restore 19 = .ok (.getfield 37, 3) := by decide +kernel
theorem dX12_restore_22 : decode cX12_restore 22 = .ok (.iload_n 1, 1) := by decide +kernel
theorem dX12_restore_23 : decode cX12_restore 23 = .ok (.baload, 1) := by decide +kernel
theorem dX12_restore_24 : decode cX12_restore 24 = .ok (.ifCond .ne 6, 3) := by decide +kernel
theorem dX12_restore_27 : decode cX12_restore 27 = .ok (.ldc 199, 2) := by decide +kernel
theorem dX12_restore_29 : decode cX12_restore 29 = .ok (.ireturn, 1) := by decide +kernel
theorem dX12_restore_30 : decode cX12_restore 30 = .ok (.iconst 0, 1) := by decide +kernel
theorem dX12_restore_31 : decode cX12_restore 31 = .ok (.istore_n 2, 1) := by decide +kernel
theorem dX12_restore_32 : decode cX12_restore 32 = .ok (.iload_n 2, 1) := by decide +kernel
theorem dX12_restore_33 : decode cX12_restore 33 = .ok (.bipush 39, 2) := by decide +kernel
theorem dX12_restore_35 : decode cX12_restore 35 = .ok (.if_icmp .ge 26, 3) := by decide +kernel
theorem dX12_restore_38 : decode cX12_restore 38 = .ok (.aload_n 0, 1) := by decide +kernel
theorem dX12_restore_39 : decode cX12_restore 39 = .ok (.getfield 19, 3) := by decide +kernel
theorem dX12_restore_42 : decode cX12_restore 42 = .ok (.iload_n 2, 1) := by decide +kernel
theorem dX12_restore_43 : decode cX12_restore 43 = .ok (.aload_n 0, 1) := by decide +kernel
theorem dX12_restore_44 : decode cX12_restore 44 = .ok (.getfield 41, 3) := by decide +kernel
theorem dX12_restore_47 : decode cX12_restore 47 = .ok (.bipush 39, 2) := by decide +kernel
theorem dX12_restore_49 : decode cX12_restore 49 = .ok (.iload_n 1, 1) := by decide +kernel
theorem dX12_restore_50 : decode cX12_restore 50 = .ok (.imul, 1) := by decide +kernel
theorem dX12_restore_51 : decode cX12_restore 51 = .ok (.iload_n 2, 1) := by decide +kernel
theorem dX12_restore_52 : decode cX12_restore 52 = .ok (.iadd, 1) := by decide +kernel
theorem dX12_restore_53 : decode cX12_restore 53 = .ok (.iaload, 1) := by decide +kernel
theorem dX12_restore_54 : decode cX12_restore 54 = .ok (.iastore, 1) := by decide +kernel
theorem dX12_restore_55 : decode cX12_restore 55 = .ok (.iinc 2 1, 3) := by decide +kernel
theorem dX12_restore_58 : decode cX12_restore 58 = .ok (.goto (-26), 3) := by decide +kernel
theorem dX12_restore_61 : decode cX12_restore 61 = .ok (.iconst 1, 1) := by decide +kernel
theorem dX12_restore_62 : decode cX12_restore 62 = .ok (.ireturn, 1) := by decide +kernel
theorem dX12_isOf_0 : decode cX12_isOf 0 = .ok (.iload_n 1, 1) := by decide +kernel
theorem dX12_isOf_1 : decode cX12_isOf 1 = .ok (.ifCond .eq 28, 3) := by decide +kernel
theorem dX12_isOf_4 : decode cX12_isOf 4 = .ok (.iload_n 0, 1) := by decide +kernel
theorem dX12_isOf_5 : decode cX12_isOf 5 = .ok (.iload_n 1, 1) := by decide +kernel
theorem dX12_isOf_6 : decode cX12_isOf 6 = .ok (.if_icmp .eq 23, 3) := by decide +kernel
theorem dX12_isOf_9 : decode cX12_isOf 9 = .ok (.iload_n 1, 1) := by decide +kernel
theorem dX12_isOf_10 : decode cX12_isOf 10 = .ok (.iconst 1, 1) := by decide +kernel
theorem dX12_isOf_11 : decode cX12_isOf 11 = .ok (.if_icmp .ne 8, 3) := by decide +kernel
theorem dX12_isOf_14 : decode cX12_isOf 14 = .ok (.iload_n 0, 1) := by decide +kernel
theorem dX12_isOf_15 : decode cX12_isOf 15 = .ok (.iconst 4, 1) := by decide +kernel
theorem dX12_isOf_16 : decode cX12_isOf 16 = .ok (.if_icmp .lt 13, 3) := by decide +kernel
theorem dX12_isOf_19 : decode cX12_isOf 19 = .ok (.iload_n 1, 1) := by decide +kernel
theorem dX12_isOf_20 : decode cX12_isOf 20 = .ok (.iconst 4, 1) := by decide +kernel
theorem dX12_isOf_21 : decode cX12_isOf 21 = .ok (.if_icmp .ne 12, 3) := by decide +kernel
theorem dX12_isOf_24 : decode cX12_isOf 24 = .ok (.iload_n 0, 1) := by decide +kernel
theorem dX12_isOf_25 : decode cX12_isOf 25 = .ok (.iconst 5, 1) := by decide +kernel
theorem dX12_isOf_26 : decode cX12_isOf 26 = .ok (.if_icmp .ne 7, 3) := by decide +kernel
theorem dX12_isOf_29 : decode cX12_isOf 29 = .ok (.iconst 1, 1) := by decide +kernel
theorem dX12_isOf_30 : decode cX12_isOf 30 = .ok (.goto 4, 3) := by decide +kernel
theorem dX12_isOf_33 : decode cX12_isOf 33 = .ok (.iconst 0, 1) := by decide +kernel
theorem dX12_isOf_34 : decode cX12_isOf 34 = .ok (.ireturn, 1) := by decide +kernel
theorem dX12_kind_0 : decode cX12_kind 0 = .ok (.aload_n 0, 1) := by decide +kernel
theorem dX12_kind_1 : decode cX12_kind 1 = .ok (.iconst 0, 1) := by decide +kernel
theorem dX12_kind_2 : decode cX12_kind 2 = .ok (.putfield 47, 3) := by decide +kernel
theorem dX12_kind_5 : decode cX12_kind 5 = .ok (.aload_n 0, 1) := by decide +kernel
theorem dX12_kind_6 : decode cX12_kind 6 = .ok (.iload_n 1, 1) := by decide +kernel
theorem dX12_kind_7 : decode cX12_kind 7 = .ok (.invokevirtual 214, 3) := by decide +kernel
theorem dX12_kind_10 : decode cX12_kind 10 = .ok (.ifCond .eq 11, 3) := by decide +kernel
theorem dX12_kind_13 : decode cX12_kind 13 = .ok (.aload_n 0, 1) := by decide +kernel
theorem dX12_kind_14 : decode cX12_kind 14 = .ok (.iload_n 1, 1) := by decide +kernel
theorem dX12_kind_15 : decode cX12_kind 15 = .ok (.invokevirtual 183, 3) := by decide +kernel
theorem dX12_kind_18 : decode cX12_kind 18 = .ok (.goto 5, 3) := by decide +kernel
theorem dX12_kind_21 : decode cX12_kind 21 = .ok (.ldc 67, 2) := by decide +kernel
theorem dX12_kind_23 : decode cX12_kind 23 = .ok (.ireturn, 1) := by decide +kernel
theorem dX12_as_0 : decode cX12_as 0 = .ok (.aload_n 0, 1) := by decide +kernel
theorem dX12_as_1 : decode cX12_as 1 = .ok (.iconst 0, 1) := by decide +kernel
theorem dX12_as_2 : decode cX12_as 2 = .ok (.putfield 47, 3) := by decide +kernel
theorem dX12_as_5 : decode cX12_as 5 = .ok (.aload_n 0, 1) := by decide +kernel
theorem dX12_as_6 : decode cX12_as 6 = .ok (.iload_n 1, 1) := by decide +kernel
theorem dX12_as_7 : decode cX12_as 7 = .ok (.invokevirtual 214, 3) := by decide +kernel
theorem dX12_as_10 : decode cX12_as 10 = .ok (.ifCond .eq 15, 3) := by decide +kernel
theorem dX12_as_13 : decode cX12_as 13 = .ok (.iload_n 2, 1) := by decide +kernel
theorem dX12_as_14 : decode cX12_as 14 = .ok (.i2l, 1) := by decide +kernel
theorem dX12_as_15 : decode cX12_as 15 = .ok (.lconst 0, 1) := by decide +kernel
theorem dX12_as_16 : decode cX12_as 16 = .ok (.ldc2_w 264, 3) := by decide +kernel
theorem dX12_as_19 : decode cX12_as 19 = .ok (.invokestatic 57, 3) := by decide +kernel
theorem dX12_as_22 : decode cX12_as 22 = .ok (.ifCond .ne 6, 3) := by decide +kernel
theorem dX12_as_25 : decode cX12_as 25 = .ok (.ldc 67, 2) := by decide +kernel
theorem dX12_as_27 : decode cX12_as 27 = .ok (.ireturn, 1) := by decide +kernel
theorem dX12_as_28 : decode cX12_as 28 = .ok (.aload_n 0, 1) := by decide +kernel
theorem dX12_as_29 : decode cX12_as 29 = .ok (.iconst 0, 1) := by decide +kernel
theorem dX12_as_30 : decode cX12_as 30 = .ok (.putfield 51, 3) := by decide +kernel
theorem dX12_as_33 : decode cX12_as 33 = .ok (.aload_n 0, 1) := by decide +kernel
theorem dX12_as_34 : decode cX12_as 34 = .ok (.iload_n 1, 1) := by decide +kernel
theorem dX12_as_35 : decode cX12_as 35 = .ok (.invokevirtual 183, 3) := by decide +kernel
theorem dX12_as_38 : decode cX12_as 38 = .ok (.iload_n 2, 1) := by decide +kernel
theorem dX12_as_39 : decode cX12_as 39 = .ok (.invokestatic 266, 3) := by decide +kernel
theorem dX12_as_42 : decode cX12_as 42 = .ok (.ifCond .eq 7, 3) := by decide +kernel
theorem dX12_as_45 : decode cX12_as 45 = .ok (.iload_n 1, 1) := by decide +kernel
theorem dX12_as_46 : decode cX12_as 46 = .ok (.goto 8, 3) := by decide +kernel
theorem dX12_as_49 : decode cX12_as 49 = .ok (.aload_n 0, 1) := by decide +kernel
theorem dX12_as_50 : decode cX12_as 50 = .ok (.iconst 3, 1) := by decide +kernel
theorem dX12_as_51 : decode cX12_as 51 = .ok (.invokevirtual 68, 3) := by decide +kernel
theorem dX12_as_54 : decode cX12_as 54 = .ok (.ireturn, 1) := by decide +kernel
theorem dX12_began_0 : decode cX12_began 0 = .ok (.aload_n 0, 1) := by decide +kernel
theorem dX12_began_1 : decode cX12_began 1 = .ok (.getfield 270, 3) := by decide +kernel
theorem dX12_began_4 : decode cX12_began 4 = .ok (.bipush 16, 2) := by decide +kernel
theorem dX12_began_6 : decode cX12_began 6 = .ok (.if_icmp .ge 23, 3) := by decide +kernel
theorem dX12_began_9 : decode cX12_began 9 = .ok (.aload_n 0, 1) := by decide +kernel
theorem dX12_began_10 : decode cX12_began 10 = .ok (.getfield 44, 3) := by decide +kernel
theorem dX12_began_13 : decode cX12_began 13 = .ok (.aload_n 0, 1) := by decide +kernel
theorem dX12_began_14 : decode cX12_began 14 = .ok (.getfield 270, 3) := by decide +kernel
theorem dX12_began_17 : decode cX12_began 17 = .ok (.iload_n 1, 1) := by decide +kernel
theorem dX12_began_18 : decode cX12_began 18 = .ok (.iastore, 1) := by decide +kernel
theorem dX12_began_19 : decode cX12_began 19 = .ok (.aload_n 0, 1) := by decide +kernel
theorem dX12_began_20 : decode cX12_began 20 = .ok (.dup, 1) := by decide +kernel
theorem dX12_began_21 : decode cX12_began 21 = .ok (.getfield 270, 3) := by decide +kernel
theorem dX12_began_24 : decode cX12_began 24 = .ok (.iconst 1, 1) := by decide +kernel
theorem dX12_began_25 : decode cX12_began 25 = .ok (.iadd, 1) := by decide +kernel
theorem dX12_began_26 : decode cX12_began 26 = .ok (.putfield 270, 3) := by decide +kernel
theorem dX12_began_29 : decode cX12_began 29 = .ok (.return_, 1) := by decide +kernel
theorem dX12_plainSize_0 : decode cX12_plainSize 0 = .ok (.aload_n 0, 1) := by decide +kernel
theorem dX12_plainSize_1 : decode cX12_plainSize 1 = .ok (.bipush 10, 2) := by decide +kernel
theorem dX12_plainSize_3 : decode cX12_plainSize 3 = .ok (.invokevirtual 273, 3) := by decide +kernel
theorem dX12_plainSize_6 : decode cX12_plainSize 6 = .ok (.aload_n 0, 1) := by decide +kernel
theorem dX12_plainSize_7 : decode cX12_plainSize 7 = .ok (.getfield 19, 3) := by decide +kernel
theorem dX12_plainSize_10 : decode cX12_plainSize 10 = .ok (.iconst 5, 1) := by decide +kernel
theorem dX12_plainSize_11 : decode cX12_plainSize 11 = .ok (.iconst 2, 1) := by decide +kernel
theorem dX12_plainSize_12 : decode cX12_plainSize 12 = .ok (.iload_n 1, 1) := by decide +kernel
theorem dX12_plainSize_13 : decode cX12_plainSize 13 = .ok (.imul, 1) := by decide +kernel
theorem dX12_plainSize_14 : decode cX12_plainSize 14 = .ok (.iadd, 1) := by decide +kernel
theorem dX12_plainSize_15 : decode cX12_plainSize 15 = .ok (.iconst 1, 1) := by decide +kernel
theorem dX12_plainSize_16 : decode cX12_plainSize 16 = .ok (.iadd, 1) := by decide +kernel
theorem dX12_plainSize_17 : decode cX12_plainSize 17 = .ok (.iaload, 1) := by decide +kernel
theorem dX12_plainSize_18 : decode cX12_plainSize 18 = .ok (.ireturn, 1) := by decide +kernel
theorem dX12_stoneSize_0 : decode cX12_stoneSize 0 = .ok (.aload_n 0, 1) := by decide +kernel
theorem dX12_stoneSize_1 : decode cX12_stoneSize 1 = .ok (.iload_n 1, 1) := by decide +kernel
theorem dX12_stoneSize_2 : decode cX12_stoneSize 2 = .ok (.invokevirtual 183, 3) := by decide +kernel
theorem dX12_stoneSize_5 : decode cX12_stoneSize 5 = .ok (.iconst 5, 1) := by decide +kernel
theorem dX12_stoneSize_6 : decode cX12_stoneSize 6 = .ok (.if_icmp .ne 9, 3) := by decide +kernel
theorem dX12_stoneSize_9 : decode cX12_stoneSize 9 = .ok (.aload_n 0, 1) := by decide +kernel
theorem dX12_stoneSize_10 : decode cX12_stoneSize 10 = .ok (.bipush 14, 2) := by decide +kernel
theorem dX12_stoneSize_12 : decode cX12_stoneSize 12 = .ok (.invokevirtual 273, 3) := by decide +kernel
theorem dX12_stoneSize_15 : decode cX12_stoneSize 15 = .ok (.aload_n 0, 1) := by decide +kernel
theorem dX12_stoneSize_16 : decode cX12_stoneSize 16 = .ok (.bipush 13, 2) := by decide +kernel
theorem dX12_stoneSize_18 : decode cX12_stoneSize 18 = .ok (.invokevirtual 273, 3) := by decide +kernel
theorem dX12_stoneSize_21 : decode cX12_stoneSize 21 = .ok (.aload_n 0, 1) := by decide +kernel
theorem dX12_stoneSize_22 : decode cX12_stoneSize 22 = .ok (.iload_n 1, 1) := by decide +kernel
theorem dX12_stoneSize_23 : decode cX12_stoneSize 23 = .ok (.invokevirtual 276, 3) := by decide +kernel
theorem dX12_stoneSize_26 : decode cX12_stoneSize 26 = .ok (.bipush 100, 2) := by decide +kernel
theorem dX12_stoneSize_28 : decode cX12_stoneSize 28 = .ok (.isub, 1) := by decide +kernel
theorem dX12_stoneSize_29 : decode cX12_stoneSize 29 = .ok (.istore_n 2, 1) := by decide +kernel
theorem dX12_stoneSize_30 : decode cX12_stoneSize 30 = .ok (.aload_n 0, 1) := by decide +kernel
theorem dX12_stoneSize_31 : decode cX12_stoneSize 31 = .ok (.iload_n 1, 1) := by decide +kernel
theorem dX12_stoneSize_32 : decode cX12_stoneSize 32 = .ok (.invokevirtual 183, 3) := by decide +kernel
theorem dX12_stoneSize_35 : decode cX12_stoneSize 35 = .ok (.iconst 5, 1) := by decide +kernel
theorem dX12_stoneSize_36 : decode cX12_stoneSize 36 = .ok (.if_icmp .ne 9, 3) := by decide +kernel
theorem dX12_stoneSize_39 : decode cX12_stoneSize 39 = .ok (.iconst 2, 1) := by decide +kernel
theorem dX12_stoneSize_40 : decode cX12_stoneSize 40 = .ok (.iload_n 2, 1) := by decide +kernel
theorem dX12_stoneSize_41 : decode cX12_stoneSize 41 = .ok (.imul, 1) := by decide +kernel
theorem dX12_stoneSize_42 : decode cX12_stoneSize 42 = .ok (.goto 4, 3) := by decide +kernel
theorem dX12_stoneSize_45 : decode cX12_stoneSize 45 = .ok (.iload_n 2, 1) := by decide +kernel
theorem dX12_stoneSize_46 : decode cX12_stoneSize 46 = .ok (.ireturn, 1) := by decide +kernel
theorem dX12_markOf_0 : decode cX12_markOf 0 = .ok (.aload_n 0, 1) := by decide +kernel
theorem dX12_markOf_1 : decode cX12_markOf 1 = .ok (.iload_n 1, 1) := by decide +kernel
theorem dX12_markOf_2 : decode cX12_markOf 2 = .ok (.invokevirtual 183, 3) := by decide +kernel
theorem dX12_markOf_5 : decode cX12_markOf 5 = .ok (.istore_n 2, 1) := by decide +kernel
theorem dX12_markOf_6 : decode cX12_markOf 6 = .ok (.iload_n 2, 1) := by decide +kernel
theorem dX12_markOf_7 : decode cX12_markOf 7 = .ok (.iconst 4, 1) := by decide +kernel
theorem dX12_markOf_8 : decode cX12_markOf 8 = .ok (.if_icmp .lt 23, 3) := by decide +kernel
theorem dX12_markOf_11 : decode cX12_markOf 11 = .ok (.aload_n 0, 1) := by decide +kernel
theorem dX12_markOf_12 : decode cX12_markOf 12 = .ok (.bipush 23, 2) := by decide +kernel
theorem dX12_markOf_14 : decode cX12_markOf 14 = .ok (.invokevirtual 273, 3) := by decide +kernel
theorem dX12_markOf_17 : decode cX12_markOf 17 = .ok (.aload_n 0, 1) := by decide +kernel
theorem dX12_markOf_18 : decode cX12_markOf 18 = .ok (.bipush 20, 2) := by decide +kernel
theorem dX12_markOf_20 : decode cX12_markOf 20 = .ok (.invokevirtual 273, 3) := by decide +kernel
theorem dX12_markOf_23 : decode cX12_markOf 23 = .ok (.iload_n 1, 1) := by decide +kernel
theorem dX12_markOf_24 : decode cX12_markOf 24 = .ok (.aload_n 0, 1) := by decide +kernel
theorem dX12_markOf_25 : decode cX12_markOf 25 = .ok (.iload_n 1, 1) := by decide +kernel
theorem dX12_markOf_26 : decode cX12_markOf 26 = .ok (.invokevirtual 279, 3) := by decide +kernel
theorem dX12_markOf_29 : decode cX12_markOf 29 = .ok (.isub, 1) := by decide +kernel
theorem dX12_markOf_30 : decode cX12_markOf 30 = .ok (.ireturn, 1) := by decide +kernel
theorem dX12_markOf_31 : decode cX12_markOf 31 = .ok (.iload_n 2, 1) := by decide +kernel
theorem dX12_markOf_32 : decode cX12_markOf 32 = .ok (.iconst 1, 1) := by decide +kernel
theorem dX12_markOf_33 : decode cX12_markOf 33 = .ok (.if_icmp .eq 19, 3) := by decide +kernel
theorem dX12_markOf_36 : decode cX12_markOf 36 = .ok (.aload_n 0, 1) := by decide +kernel
theorem dX12_markOf_37 : decode cX12_markOf 37 = .ok (.iload_n 2, 1) := by decide +kernel
theorem dX12_markOf_38 : decode cX12_markOf 38 = .ok (.iconst 2, 1) := by decide +kernel
theorem dX12_markOf_39 : decode cX12_markOf 39 = .ok (.if_icmp .ne 8, 3) := by decide +kernel
theorem dX12_markOf_42 : decode cX12_markOf 42 = .ok (.bipush 22, 2) := by decide +kernel
theorem dX12_markOf_44 : decode cX12_markOf 44 = .ok (.goto 5, 3) := by decide +kernel
theorem dX12_markOf_47 : decode cX12_markOf 47 = .ok (.bipush 24, 2) := by decide +kernel
theorem dX12_markOf_49 : decode cX12_markOf 49 = .ok (.invokevirtual 273, 3) := by decide +kernel
theorem dX12_markOf_52 : decode cX12_markOf 52 = .ok (.aload_n 0, 1) := by decide +kernel
theorem dX12_markOf_53 : decode cX12_markOf 53 = .ok (.bipush 21, 2) := by decide +kernel
theorem dX12_markOf_55 : decode cX12_markOf 55 = .ok (.invokevirtual 273, 3) := by decide +kernel
theorem dX12_markOf_58 : decode cX12_markOf 58 = .ok (.aload_n 0, 1) := by decide +kernel
theorem dX12_markOf_59 : decode cX12_markOf 59 = .ok (.bipush 20, 2) := by decide +kernel
theorem dX12_markOf_61 : decode cX12_markOf 61 = .ok (.invokevirtual 273, 3) := by decide +kernel
theorem dX12_markOf_64 : decode cX12_markOf 64 = .ok (.iload_n 1, 1) := by decide +kernel
theorem dX12_markOf_65 : decode cX12_markOf 65 = .ok (.aload_n 0, 1) := by decide +kernel
theorem dX12_markOf_66 : decode cX12_markOf 66 = .ok (.getfield 19, 3) := by decide +kernel
theorem dX12_markOf_69 : decode cX12_markOf 69 = .ok (.iconst 4, 1) := by decide +kernel
theorem dX12_markOf_70 : decode cX12_markOf 70 = .ok (.iaload, 1) := by decide +kernel
theorem dX12_markOf_71 : decode cX12_markOf 71 = .ok (.iadd, 1) := by decide +kernel
theorem dX12_markOf_72 : decode cX12_markOf 72 = .ok (.istore_n 3, 1) := by decide +kernel
theorem dX12_markOf_73 : decode cX12_markOf 73 = .ok (.iload_n 2, 1) := by decide +kernel
theorem dX12_markOf_74 : decode cX12_markOf 74 = .ok (.iconst 1, 1) := by decide +kernel
theorem dX12_markOf_75 : decode cX12_markOf 75 = .ok (.if_icmp .ne 7, 3) := by decide +kernel
theorem dX12_markOf_78 : decode cX12_markOf 78 = .ok (.iload_n 3, 1) := by decide +kernel
theorem dX12_markOf_79 : decode cX12_markOf 79 = .ok (.goto 19, 3) := by decide +kernel
theorem dX12_markOf_82 : decode cX12_markOf 82 = .ok (.iload_n 2, 1) := by decide +kernel
theorem dX12_markOf_83 : decode cX12_markOf 83 = .ok (.iconst 2, 1) := by decide +kernel
theorem dX12_markOf_84 : decode cX12_markOf 84 = .ok (.if_icmp .ne 11, 3) := by decide +kernel
theorem dX12_markOf_87 : decode cX12_markOf 87 = .ok (.iload_n 3, 1) := by decide +kernel
theorem dX12_markOf_88 : decode cX12_markOf 88 = .ok (.sipush 1000, 3) := by decide +kernel
theorem dX12_markOf_91 : decode cX12_markOf 91 = .ok (.isub, 1) := by decide +kernel
theorem dX12_markOf_92 : decode cX12_markOf 92 = .ok (.goto 6, 3) := by decide +kernel
theorem dX12_markOf_95 : decode cX12_markOf 95 = .ok (.iconst 2, 1) := by decide +kernel
theorem dX12_markOf_96 : decode cX12_markOf 96 = .ok (.iload_n 3, 1) := by decide +kernel
theorem dX12_markOf_97 : decode cX12_markOf 97 = .ok (.imul, 1) := by decide +kernel
theorem dX12_markOf_98 : decode cX12_markOf 98 = .ok (.ireturn, 1) := by decide +kernel
theorem dX12_sizeOf_0 : decode cX12_sizeOf 0 = .ok (.aload_n 0, 1) := by decide +kernel
theorem dX12_sizeOf_1 : decode cX12_sizeOf 1 = .ok (.iload_n 1, 1) := by decide +kernel
theorem dX12_sizeOf_2 : decode cX12_sizeOf 2 = .ok (.invokevirtual 183, 3) := by decide +kernel
theorem dX12_sizeOf_5 : decode cX12_sizeOf 5 = .ok (.istore_n 2, 1) := by decide +kernel
theorem dX12_sizeOf_6 : decode cX12_sizeOf 6 = .ok (.iload_n 2, 1) := by decide +kernel
theorem dX12_sizeOf_7 : decode cX12_sizeOf 7 = .ok (.iconst 4, 1) := by decide +kernel
theorem dX12_sizeOf_8 : decode cX12_sizeOf 8 = .ok (.if_icmp .lt 9, 3) := by decide +kernel
theorem dX12_sizeOf_11 : decode cX12_sizeOf 11 = .ok (.aload_n 0, 1) := by decide +kernel
theorem dX12_sizeOf_12 : decode cX12_sizeOf 12 = .ok (.iload_n 1, 1) := by decide +kernel
theorem dX12_sizeOf_13 : decode cX12_sizeOf 13 = .ok (.invokevirtual 279, 3) := by decide +kernel
theorem dX12_sizeOf_16 : decode cX12_sizeOf 16 = .ok (.ireturn, 1) := by decide +kernel
theorem dX12_sizeOf_17 : decode cX12_sizeOf 17 = .ok (.iload_n 2, 1) := by decide +kernel
theorem dX12_sizeOf_18 : decode cX12_sizeOf 18 = .ok (.iconst 3, 1) := by decide +kernel
theorem dX12_sizeOf_19 : decode cX12_sizeOf 19 = .ok (.if_icmp .ne 9, 3) := by decide +kernel
theorem dX12_sizeOf_22 : decode cX12_sizeOf 22 = .ok (.aload_n 0, 1) := by decide +kernel
theorem dX12_sizeOf_23 : decode cX12_sizeOf 23 = .ok (.bipush 12, 2) := by decide +kernel
theorem dX12_sizeOf_25 : decode cX12_sizeOf 25 = .ok (.invokevirtual 273, 3) := by decide +kernel
theorem dX12_sizeOf_28 : decode cX12_sizeOf 28 = .ok (.aload_n 0, 1) := by decide +kernel
theorem dX12_sizeOf_29 : decode cX12_sizeOf 29 = .ok (.bipush 11, 2) := by decide +kernel
theorem dX12_sizeOf_31 : decode cX12_sizeOf 31 = .ok (.invokevirtual 273, 3) := by decide +kernel
theorem dX12_sizeOf_34 : decode cX12_sizeOf 34 = .ok (.aload_n 0, 1) := by decide +kernel
theorem dX12_sizeOf_35 : decode cX12_sizeOf 35 = .ok (.iload_n 1, 1) := by decide +kernel
theorem dX12_sizeOf_36 : decode cX12_sizeOf 36 = .ok (.invokevirtual 276, 3) := by decide +kernel
theorem dX12_sizeOf_39 : decode cX12_sizeOf 39 = .ok (.istore_n 3, 1) := by decide +kernel
theorem dX12_sizeOf_40 : decode cX12_sizeOf 40 = .ok (.iload_n 3, 1) := by decide +kernel
theorem dX12_sizeOf_41 : decode cX12_sizeOf 41 = .ok (.aload_n 0, 1) := by decide +kernel
theorem dX12_sizeOf_42 : decode cX12_sizeOf 42 = .ok (.iload_n 1, 1) := by decide +kernel
theorem dX12_sizeOf_43 : decode cX12_sizeOf 43 = .ok (.invokevirtual 282, 3) := by decide +kernel
theorem dX12_sizeOf_46 : decode cX12_sizeOf 46 = .ok (.iadd, 1) := by decide +kernel
theorem dX12_sizeOf_47 : decode cX12_sizeOf 47 = .ok (.istore_n 3, 1) := by decide +kernel
theorem dX12_sizeOf_48 : decode cX12_sizeOf 48 = .ok (.iload_n 2, 1) := by decide +kernel
theorem dX12_sizeOf_49 : decode cX12_sizeOf 49 = .ok (.iconst 3, 1) := by decide +kernel
theorem dX12_sizeOf_50 : decode cX12_sizeOf 50 = .ok (.if_icmp .ne 8, 3) := by decide +kernel
theorem dX12_sizeOf_53 : decode cX12_sizeOf 53 = .ok (.iload_n 3, 1) := by decide +kernel
theorem dX12_sizeOf_54 : decode cX12_sizeOf 54 = .ok (.ineg, 1) := by decide +kernel
theorem dX12_sizeOf_55 : decode cX12_sizeOf 55 = .ok (.goto 4, 3) := by decide +kernel
theorem dX12_sizeOf_58 : decode cX12_sizeOf 58 = .ok (.iload_n 3, 1) := by decide +kernel
theorem dX12_sizeOf_59 : decode cX12_sizeOf 59 = .ok (.ireturn, 1) := by decide +kernel
theorem dX12_ask_0 : decode cX12_ask 0 = .ok (.aload_n 0, 1) := by decide +kernel
theorem dX12_ask_1 : decode cX12_ask 1 = .ok (.iconst 0, 1) := by decide +kernel
theorem dX12_ask_2 : decode cX12_ask 2 = .ok (.putfield 47, 3) := by decide +kernel
theorem dX12_ask_5 : decode cX12_ask 5 = .ok (.aload_n 0, 1) := by decide +kernel
theorem dX12_ask_6 : decode cX12_ask 6 = .ok (.iload_n 1, 1) := by decide +kernel
theorem dX12_ask_7 : decode cX12_ask 7 = .ok (.invokevirtual 214, 3) := by decide +kernel
theorem dX12_ask_10 : decode cX12_ask 10 = .ok (.ifCond .eq 13, 3) := by decide +kernel
theorem dX12_ask_13 : decode cX12_ask 13 = .ok (.iload_n 2, 1) := by decide +kernel
theorem dX12_ask_14 : decode cX12_ask 14 = .ok (.i2l, 1) := by decide +kernel
theorem dX12_ask_15 : decode cX12_ask 15 = .ok (.lconst 0, 1) := by decide +kernel
theorem dX12_ask_16 : decode cX12_ask 16 = .ok (.lconst 1, 1) := by decide +kernel
theorem dX12_ask_17 : decode cX12_ask 17 = .ok (.invokestatic 57, 3) := by decide +kernel
theorem dX12_ask_20 : decode cX12_ask 20 = .ok (.ifCond .ne 6, 3) := by decide +kernel
theorem dX12_ask_23 : decode cX12_ask 23 = .ok (.ldc 67, 2) := by decide +kernel
theorem dX12_ask_25 : decode cX12_ask 25 = .ok (.ireturn, 1) := by decide +kernel
theorem dX12_ask_26 : decode cX12_ask 26 = .ok (.aload_n 0, 1) := by decide +kernel
theorem dX12_ask_27 : decode cX12_ask 27 = .ok (.iconst 0, 1) := by decide +kernel
theorem dX12_ask_28 : decode cX12_ask 28 = .ok (.putfield 270, 3) := by decide +kernel
theorem dX12_ask_31 : decode cX12_ask 31 = .ok (.iload_n 2, 1) := by decide +kernel
theorem dX12_ask_32 : decode cX12_ask 32 = .ok (.ifCond .ne 11, 3) := by decide +kernel
theorem dX12_ask_35 : decode cX12_ask 35 = .ok (.aload_n 0, 1) := by decide +kernel
theorem dX12_ask_36 : decode cX12_ask 36 = .ok (.iload_n 1, 1) := by decide +kernel
theorem dX12_ask_37 : decode cX12_ask 37 = .ok (.invokevirtual 285, 3) := by decide +kernel
theorem dX12_ask_40 : decode cX12_ask 40 = .ok (.goto 8, 3) := by decide +kernel
theorem dX12_ask_43 : decode cX12_ask 43 = .ok (.aload_n 0, 1) := by decide +kernel
theorem dX12_ask_44 : decode cX12_ask 44 = .ok (.iload_n 1, 1) := by decide +kernel
theorem dX12_ask_45 : decode cX12_ask 45 = .ok (.invokevirtual 282, 3) := by decide +kernel
theorem dX12_ask_48 : decode cX12_ask 48 = .ok (.ireturn, 1) := by decide +kernel
theorem dX12_trace_0 : decode cX12_trace 0 = .ok (.aload_n 0, 1) := by decide +kernel
theorem dX12_trace_1 : decode cX12_trace 1 = .ok (.iconst 0, 1) := by decide +kernel
theorem dX12_trace_2 : decode cX12_trace 2 = .ok (.putfield 47, 3) := by decide +kernel
theorem dX12_trace_5 : decode cX12_trace 5 = .ok (.iload_n 1, 1) := by decide +kernel
theorem dX12_trace_6 : decode cX12_trace 6 = .ok (.i2l, 1) := by decide +kernel
theorem dX12_trace_7 : decode cX12_trace 7 = .ok (.lconst 0, 1) := by decide +kernel
theorem dX12_trace_8 : decode cX12_trace 8 = .ok (.aload_n 0, 1) := by decide +kernel
theorem dX12_trace_9 : decode cX12_trace 9 = .ok (.getfield 270, 3) := by decide +kernel
theorem dX12_trace_12 : decode cX12_trace 12 = .ok (.iconst 1, 1) := by decide +kernel
theorem dX12_trace_13 : decode cX12_trace 13 = .ok (.isub, 1) := by decide +kernel
theorem dX12_trace_14 : decode cX12_trace 14 = .ok (.i2l, 1) := by decide +kernel
theorem dX12_trace_15 : decode cX12_trace 15 = .ok (.invokestatic 57, 3) := by decide +kernel
theorem dX12_trace_18 : decode cX12_trace 18 = .ok (.ifCond .eq 12, 3) := by decide +kernel
theorem dX12_trace_21 : decode cX12_trace 21 = .ok (.aload_n 0, 1) := by decide +kernel
theorem dX12_trace_22 : decode cX12_trace 22 = .ok (.getfield 44, 3) := by decide +kernel
theorem dX12_trace_25 : decode cX12_trace 25 = .ok (.iload_n 1, 1) := by decide +kernel
theorem dX12_trace_26 : decode cX12_trace 26 = .ok (.iaload, 1) := by decide +kernel
theorem dX12_trace_27 : decode cX12_trace 27 = .ok (.goto 5, 3) := by decide +kernel
theorem dX12_trace_30 : decode cX12_trace 30 = .ok (.ldc 83, 2) := by decide +kernel
theorem dX12_trace_32 : decode cX12_trace 32 = .ok (.ireturn, 1) := by decide +kernel
theorem dX12_count_0 : decode cX12_count 0 = .ok (.aload_n 0, 1) := by decide +kernel
theorem dX12_count_1 : decode cX12_count 1 = .ok (.iconst 0, 1) := by decide +kernel
theorem dX12_count_2 : decode cX12_count 2 = .ok (.putfield 47, 3) := by decide +kernel
theorem dX12_count_5 : decode cX12_count 5 = .ok (.iconst 0, 1) := by decide +kernel
theorem dX12_count_6 : decode cX12_count 6 = .ok (.istore_n 2, 1) := by decide +kernel
theorem dX12_count_7 : decode cX12_count 7 = .ok (.iload_n 1, 1) := by decide +kernel
theorem dX12_count_8 : decode cX12_count 8 = .ok (.tableswitch 102 0 6 #[44, 77, 77, 88, 88, 88, 97], 44) := by decide +kernel
theorem dX12_count_52 : decode cX12_count 52 = .ok (.iconst 0, 1) := by decide +kernel
theorem dX12_count_53 : decode cX12_count 53 = .ok (.istore_n 3, 1) := by decide +kernel
theorem dX12_count_54 : decode cX12_count 54 = .ok (.iload_n 3, 1) := by decide +kernel
theorem dX12_count_55 : decode cX12_count 55 = .ok (.bipush 8, 2) := by decide +kernel
theorem dX12_count_57 : decode cX12_count 57 = .ok (.if_icmp .ge 26, 3) := by decide +kernel
theorem dX12_count_60 : decode cX12_count 60 = .ok (.iload_n 2, 1) := by decide +kernel
theorem dX12_count_61 : decode cX12_count 61 = .ok (.aload_n 0, 1) := by decide +kernel
theorem dX12_count_62 : decode cX12_count 62 = .ok (.getfield 7, 3) := by decide +kernel
theorem dX12_count_65 : decode cX12_count 65 = .ok (.iload_n 3, 1) := by decide +kernel
theorem dX12_count_66 : decode cX12_count 66 = .ok (.iaload, 1) := by decide +kernel
theorem dX12_count_67 : decode cX12_count 67 = .ok (.ifCond .lt 7, 3) := by decide +kernel
theorem dX12_count_70 : decode cX12_count 70 = .ok (.iconst 1, 1) := by decide +kernel
theorem dX12_count_71 : decode cX12_count 71 = .ok (.goto 4, 3) := by decide +kernel
theorem dX12_count_74 : decode cX12_count 74 = .ok (.iconst 0, 1) := by decide +kernel
theorem dX12_count_75 : decode cX12_count 75 = .ok (.iadd, 1) := by decide +kernel
theorem dX12_count_76 : decode cX12_count 76 = .ok (.istore_n 2, 1) := by decide +kernel
theorem dX12_count_77 : decode cX12_count 77 = .ok (.iinc 3 1, 3) := by decide +kernel
theorem dX12_count_80 : decode cX12_count 80 = .ok (.goto (-26), 3) := by decide +kernel
theorem dX12_count_83 : decode cX12_count 83 = .ok (.iload_n 2, 1) := by decide +kernel
theorem dX12_count_84 : decode cX12_count 84 = .ok (.ireturn, 1) := by decide +kernel
theorem dX12_count_85 : decode cX12_count 85 = .ok (.aload_n 0, 1) := by decide +kernel
theorem dX12_count_86 : decode cX12_count 86 = .ok (.getfield 19, 3) := by decide +kernel
theorem dX12_count_89 : decode cX12_count 89 = .ok (.iconst 3, 1) := by decide +kernel
theorem dX12_count_90 : decode cX12_count 90 = .ok (.iload_n 1, 1) := by decide +kernel
theorem dX12_count_91 : decode cX12_count 91 = .ok (.iadd, 1) := by decide +kernel
theorem dX12_count_92 : decode cX12_count 92 = .ok (.iconst 1, 1) := by decide +kernel
theorem dX12_count_93 : decode cX12_count 93 = .ok (.isub, 1) := by decide +kernel
theorem dX12_count_94 : decode cX12_count 94 = .ok (.iaload, 1) := by decide +kernel
theorem dX12_count_95 : decode cX12_count 95 = .ok (.ireturn, 1) := by decide +kernel
theorem dX12_count_96 : decode cX12_count 96 = .ok (.aload_n 0, 1) := by decide +kernel
theorem dX12_count_97 : decode cX12_count 97 = .ok (.getfield 19, 3) := by decide +kernel
theorem dX12_count_100 : decode cX12_count 100 = .ok (.iload_n 1, 1) := by decide +kernel
theorem dX12_count_101 : decode cX12_count 101 = .ok (.iconst 3, 1) := by decide +kernel
theorem dX12_count_102 : decode cX12_count 102 = .ok (.isub, 1) := by decide +kernel
theorem dX12_count_103 : decode cX12_count 103 = .ok (.iaload, 1) := by decide +kernel
theorem dX12_count_104 : decode cX12_count 104 = .ok (.ireturn, 1) := by decide +kernel
theorem dX12_count_105 : decode cX12_count 105 = .ok (.aload_n 0, 1) := by decide +kernel
theorem dX12_count_106 : decode cX12_count 106 = .ok (.getfield 74, 3) := by decide +kernel
theorem dX12_count_109 : decode cX12_count 109 = .ok (.ireturn, 1) := by decide +kernel
theorem dX12_count_110 : decode cX12_count 110 = .ok (.ldc 67, 2) := by decide +kernel
theorem dX12_count_112 : decode cX12_count 112 = .ok (.ireturn, 1) := by decide +kernel
theorem dX12_status_0 : decode cX12_status 0 = .ok (.aload_n 0, 1) := by decide +kernel
theorem dX12_status_1 : decode cX12_status 1 = .ok (.iconst 0, 1) := by decide +kernel
theorem dX12_status_2 : decode cX12_status 2 = .ok (.putfield 47, 3) := by decide +kernel
theorem dX12_status_5 : decode cX12_status 5 = .ok (.aload_n 0, 1) := by decide +kernel
theorem dX12_status_6 : decode cX12_status 6 = .ok (.getfield 51, 3) := by decide +kernel
theorem dX12_status_9 : decode cX12_status 9 = .ok (.ireturn, 1) := by decide +kernel
