theorem dX10_init_0 : decode cX10_init 0 = .ok (.aload_n 0, 1) := by decide +kernel
theorem dX10_init_1 : decode cX10_init 1 = .ok (.invokespecial 5, 3) := by decide +kernel
theorem dX10_init_4 : decode cX10_init 4 = .ok (.aload_n 0, 1) := by decide +kernel
theorem dX10_init_5 : decode cX10_init 5 = .ok (.sipush 1664, 3) := by decide +kernel
theorem dX10_init_8 : decode cX10_init 8 = .ok (.newarray .int, 2) := by decide +kernel
theorem dX10_init_10 : decode cX10_init 10 = .ok (.putfield 11, 3) := by decide +kernel
theorem dX10_init_13 : decode cX10_init 13 = .ok (.aload_n 0, 1) := by decide +kernel
theorem dX10_init_14 : decode cX10_init 14 = .ok (.sipush 1664, 3) := by decide +kernel
theorem dX10_init_17 : decode cX10_init 17 = .ok (.newarray .int, 2) := by decide +kernel
theorem dX10_init_19 : decode cX10_init 19 = .ok (.putfield 15, 3) := by decide +kernel
theorem dX10_init_22 : decode cX10_init 22 = .ok (.aload_n 0, 1) := by decide +kernel
theorem dX10_init_23 : decode cX10_init 23 = .ok (.bipush 26, 2) := by decide +kernel
theorem dX10_init_25 : decode cX10_init 25 = .ok (.newarray .int, 2) := by decide +kernel
theorem dX10_init_27 : decode cX10_init 27 = .ok (.putfield 18, 3) := by decide +kernel
theorem dX10_init_30 : decode cX10_init 30 = .ok (.aload_n 0, 1) := by decide +kernel
theorem dX10_init_31 : decode cX10_init 31 = .ok (.bipush 24, 2) := by decide +kernel
theorem dX10_init_33 : decode cX10_init 33 = .ok (.newarray .int, 2) := by decide +kernel
theorem dX10_init_35 : decode cX10_init 35 = .ok (.putfield 21, 3) := by decide +kernel
theorem dX10_init_38 : decode cX10_init 38 = .ok (.aload_n 0, 1) := by decide +kernel
theorem dX10_init_39 : decode cX10_init 39 = .ok (.sipush 4096, 3) := by decide +kernel
theorem dX10_init_42 : decode cX10_init 42 = .ok (.newarray .int, 2) := by decide +kernel
theorem dX10_init_44 : decode cX10_init 44 = .ok (.putfield 24, 3) := by decide +kernel
theorem dX10_init_47 : decode cX10_init 47 = .ok (.return_, 1) := by decide +kernel
theorem dX10_begin_0 : decode cX10_begin 0 = .ok (.aload_n 0, 1) := by decide +kernel
theorem dX10_begin_1 : decode cX10_begin 1 = .ok (.aload_n 1, 1) := by decide +kernel
theorem dX10_begin_2 : decode cX10_begin 2 = .ok (.invokevirtual 27, 3) := by decide +kernel
theorem dX10_begin_5 : decode cX10_begin 5 = .ok (.aload_n 2, 1) := by decide +kernel
theorem dX10_begin_6 : decode cX10_begin 6 = .ok (.iconst 0, 1) := by decide +kernel
theorem dX10_begin_7 : decode cX10_begin 7 = .ok (.aload_n 0, 1) := by decide +kernel
theorem dX10_begin_8 : decode cX10_begin 8 = .ok (.getfield 21, 3) := by decide +kernel
theorem dX10_begin_11 : decode cX10_begin 11 = .ok (.iconst 0, 1) := by decide +kernel
theorem dX10_begin_12 : decode cX10_begin 12 = .ok (.aload_n 0, 1) := by decide +kernel
theorem dX10_begin_13 : decode cX10_begin 13 = .ok (.getfield 31, 3) := by decide +kernel
theorem dX10_begin_16 : decode cX10_begin 16 = .ok (.invokestatic 35, 3) := by decide +kernel
theorem dX10_begin_19 : decode cX10_begin 19 = .ok (.return_, 1) := by decide +kernel
theorem dX10_take_0 : decode cX10_take 0 = .ok (.aload_n 0, 1) := by decide +kernel
theorem dX10_take_1 : decode cX10_take 1 = .ok (.aload_n 1, 1) := by decide +kernel
theorem dX10_take_2 : decode cX10_take 2 = .ok (.getfield 41, 3) := by decide +kernel
theorem dX10_take_5 : decode cX10_take 5 = .ok (.putfield 46, 3) := by decide +kernel
theorem dX10_take_8 : decode cX10_take 8 = .ok (.aload_n 0, 1) := by decide +kernel
theorem dX10_take_9 : decode cX10_take 9 = .ok (.aload_n 1, 1) := by decide +kernel
theorem dX10_take_10 : decode cX10_take 10 = .ok (.getfield 47, 3) := by decide +kernel
theorem dX10_take_13 : decode cX10_take 13 = .ok (.putfield 50, 3) := by decide +kernel
theorem dX10_take_16 : decode cX10_take 16 = .ok (.aload_n 0, 1) := by decide +kernel
theorem dX10_take_17 : decode cX10_take 17 = .ok (.aload_n 1, 1) := by decide +kernel
theorem dX10_take_18 : decode cX10_take 18 = .ok (.getfield 51, 3) := by decide +kernel
theorem dX10_take_21 : decode cX10_take 21 = .ok (.putfield 31, 3) := by decide +kernel
theorem dX10_take_24 : decode cX10_take 24 = .ok (.aload_n 0, 1) := by decide +kernel
theorem dX10_take_25 : decode cX10_take 25 = .ok (.iconst 1, 1) := by decide +kernel
theorem dX10_take_26 : decode cX10_take 26 = .ok (.iconst 3, 1) := by decide +kernel
theorem dX10_take_27 : decode cX10_take 27 = .ok (.aload_n 1, 1) := by decide +kernel
theorem dX10_take_28 : decode cX10_take 28 = .ok (.getfield 52, 3) := by decide +kernel
theorem dX10_take_31 : decode cX10_take 31 = .ok (.imul, 1) := by decide +kernel
theorem dX10_take_32 : decode cX10_take 32 = .ok (.ishl, 1) := by decide +kernel
theorem dX10_take_33 : decode cX10_take 33 = .ok (.putfield 55, 3) := by decide +kernel
theorem dX10_take_36 : decode cX10_take 36 = .ok (.iconst 0, 1) := by decide +kernel
theorem dX10_take_37 : decode cX10_take 37 = .ok (.istore_n 2, 1) := by decide +kernel
theorem dX10_take_38 : decode cX10_take 38 = .ok (.iload_n 2, 1) := by decide +kernel
theorem dX10_take_39 : decode cX10_take 39 = .ok (.aload_n 0, 1) := by decide +kernel
theorem dX10_take_40 : decode cX10_take 40 = .ok (.getfield 31, 3) := by decide +kernel
theorem dX10_take_43 : decode cX10_take 43 = .ok (.if_icmp .ge 15, 3) := by decide +kernel
theorem dX10_take_46 : decode cX10_take 46 = .ok (.aload_n 0, 1) := by decide +kernel
theorem dX10_take_47 : decode cX10_take 47 = .ok (.aload_n 1, 1) := by decide +kernel
theorem dX10_take_48 : decode cX10_take 48 = .ok (.iload_n 2, 1) := by decide +kernel
theorem dX10_take_49 : decode cX10_take 49 = .ok (.invokevirtual 58, 3) := by decide +kernel
theorem dX10_take_52 : decode cX10_take 52 = .ok (.iinc 2 1, 3) := by decide +kernel
theorem dX10_take_55 : decode cX10_take 55 = .ok (.goto (-17), 3) := by decide +kernel
theorem dX10_take_58 : decode cX10_take 58 = .ok (.return_, 1) := by decide +kernel
theorem dX10_takeDay_0 : decode cX10_takeDay 0 = .ok (.aload_n 0, 1) := by decide +kernel
theorem dX10_takeDay_1 : decode cX10_takeDay 1 = .ok (.getfield 18, 3) := by decide +kernel
theorem dX10_takeDay_4 : decode cX10_takeDay 4 = .ok (.iload_n 2, 1) := by decide +kernel
theorem dX10_takeDay_5 : decode cX10_takeDay 5 = .ok (.aload_n 1, 1) := by decide +kernel
theorem dX10_takeDay_6 : decode cX10_takeDay 6 = .ok (.iload_n 2, 1) := by decide +kernel
theorem dX10_takeDay_7 : decode cX10_takeDay 7 = .ok (.aload_n 1, 1) := by decide +kernel
theorem dX10_takeDay_8 : decode cX10_takeDay 8 = .ok (.getfield 62, 3) := by decide +kernel
theorem dX10_takeDay_11 : decode cX10_takeDay 11 = .ok (.invokevirtual 65, 3) := by decide +kernel
theorem dX10_takeDay_14 : decode cX10_takeDay 14 = .ok (.iastore, 1) := by decide +kernel
theorem dX10_takeDay_15 : decode cX10_takeDay 15 = .ok (.aload_n 0, 1) := by decide +kernel
theorem dX10_takeDay_16 : decode cX10_takeDay 16 = .ok (.getfield 11, 3) := by decide +kernel
theorem dX10_takeDay_19 : decode cX10_takeDay 19 = .ok (.aload_n 1, 1) := by decide +kernel
theorem dX10_takeDay_20 : decode cX10_takeDay 20 = .ok (.iconst 0, 1) := by decide +kernel
theorem dX10_takeDay_21 : decode cX10_takeDay 21 = .ok (.iload_n 2, 1) := by decide +kernel
theorem dX10_takeDay_22 : decode cX10_takeDay 22 = .ok (.invokestatic 69, 3) := by decide +kernel
theorem dX10_takeDay_25 : decode cX10_takeDay 25 = .ok (.aload_n 0, 1) := by decide +kernel
theorem dX10_takeDay_26 : decode cX10_takeDay 26 = .ok (.getfield 15, 3) := by decide +kernel
theorem dX10_takeDay_29 : decode cX10_takeDay 29 = .ok (.aload_n 1, 1) := by decide +kernel
theorem dX10_takeDay_30 : decode cX10_takeDay 30 = .ok (.iconst 2, 1) := by decide +kernel
theorem dX10_takeDay_31 : decode cX10_takeDay 31 = .ok (.iload_n 2, 1) := by decide +kernel
theorem dX10_takeDay_32 : decode cX10_takeDay 32 = .ok (.invokestatic 69, 3) := by decide +kernel
theorem dX10_takeDay_35 : decode cX10_takeDay 35 = .ok (.return_, 1) := by decide +kernel
theorem dX10_fillPair_0 : decode cX10_fillPair 0 = .ok (.iload_n 3, 1) := by decide +kernel
theorem dX10_fillPair_1 : decode cX10_fillPair 1 = .ok (.bipush 64, 2) := by decide +kernel
theorem dX10_fillPair_3 : decode cX10_fillPair 3 = .ok (.imul, 1) := by decide +kernel
theorem dX10_fillPair_4 : decode cX10_fillPair 4 = .ok (.istore 4, 2) := by decide +kernel
theorem dX10_fillPair_6 : decode cX10_fillPair 6 = .ok (.iconst 0, 1) := by decide +kernel
theorem dX10_fillPair_7 : decode cX10_fillPair 7 = .ok (.istore 5, 2) := by decide +kernel
theorem dX10_fillPair_9 : decode cX10_fillPair 9 = .ok (.iload 5, 2) := by decide +kernel
theorem dX10_fillPair_11 : decode cX10_fillPair 11 = .ok (.bipush 8, 2) := by decide +kernel
theorem dX10_fillPair_13 : decode cX10_fillPair 13 = .ok (.if_icmp .ge 24, 3) := by decide +kernel
theorem dX10_fillPair_16 : decode cX10_fillPair 16 = .ok (.aload_n 0, 1) := by decide +kernel
theorem dX10_fillPair_17 : decode cX10_fillPair 17 = .ok (.iload 4, 2) := by decide +kernel
theorem dX10_fillPair_19 : decode cX10_fillPair 19 = .ok (.iload 5, 2) := by decide +kernel
theorem dX10_fillPair_21 : decode cX10_fillPair 21 = .ok (.iadd, 1) := by decide +kernel
theorem dX10_fillPair_22 : decode cX10_fillPair 22 = .ok (.aload_n 1, 1) := by decide +kernel
theorem dX10_fillPair_23 : decode cX10_fillPair 23 = .ok (.iload_n 2, 1) := by decide +kernel
theorem dX10_fillPair_24 : decode cX10_fillPair 24 = .ok (.iload 5, 2) := by decide +kernel
theorem dX10_fillPair_26 : decode cX10_fillPair 26 = .ok (.iload_n 3, 1) := by decide +kernel
theorem dX10_fillPair_27 : decode cX10_fillPair 27 = .ok (.invokestatic 73, 3) := by decide +kernel
theorem dX10_fillPair_30 : decode cX10_fillPair 30 = .ok (.iastore, 1) := by decide +kernel
theorem dX10_fillPair_31 : decode cX10_fillPair 31 = .ok (.iinc 5 1, 3) := by decide +kernel
theorem dX10_fillPair_34 : decode cX10_fillPair 34 = .ok (.goto (-25), 3) := by decide +kernel
theorem dX10_fillPair_37 : decode cX10_fillPair 37 = .ok (.bipush 7, 2) := by decide +kernel
theorem dX10_fillPair_39 : decode cX10_fillPair 39 = .ok (.istore 5, 2) := by decide +kernel
theorem dX10_fillPair_41 : decode cX10_fillPair 41 = .ok (.iload 5, 2) := by decide +kernel
theorem dX10_fillPair_43 : decode cX10_fillPair 43 = .ok (.ifCond .lt 60, 3) := by decide +kernel
theorem dX10_fillPair_46 : decode cX10_fillPair 46 = .ok (.aload_n 1, 1) := by decide +kernel
theorem dX10_fillPair_47 : decode cX10_fillPair 47 = .ok (.iload_n 2, 1) := by decide +kernel
theorem dX10_fillPair_48 : decode cX10_fillPair 48 = .ok (.iconst 1, 1) := by decide +kernel
theorem dX10_fillPair_49 : decode cX10_fillPair 49 = .ok (.iadd, 1) := by decide +kernel
theorem dX10_fillPair_50 : decode cX10_fillPair 50 = .ok (.iload 5, 2) := by decide +kernel
theorem dX10_fillPair_52 : decode cX10_fillPair 52 = .ok (.iload_n 3, 1) := by decide +kernel
theorem dX10_fillPair_53 : decode cX10_fillPair 53 = .ok (.invokestatic 73, 3) := by decide +kernel
theorem dX10_fillPair_56 : decode cX10_fillPair 56 = .ok (.istore 6, 2) := by decide +kernel
theorem dX10_fillPair_58 : decode cX10_fillPair 58 = .ok (.iconst 0, 1) := by decide +kernel
theorem dX10_fillPair_59 : decode cX10_fillPair 59 = .ok (.istore 7, 2) := by decide +kernel
theorem dX10_fillPair_61 : decode cX10_fillPair 61 = .ok (.iload 7, 2) := by decide +kernel
theorem dX10_fillPair_63 : decode cX10_fillPair 63 = .ok (.bipush 8, 2) := by decide +kernel
theorem dX10_fillPair_65 : decode cX10_fillPair 65 = .ok (.if_icmp .ge 32, 3) := by decide +kernel
theorem dX10_fillPair_68 : decode cX10_fillPair 68 = .ok (.aload_n 0, 1) := by decide +kernel
theorem dX10_fillPair_69 : decode cX10_fillPair 69 = .ok (.iload 4, 2) := by decide +kernel
theorem dX10_fillPair_71 : decode cX10_fillPair 71 = .ok (.iload 5, 2) := by decide +kernel
theorem dX10_fillPair_73 : decode cX10_fillPair 73 = .ok (.bipush 8, 2) := by decide +kernel
theorem dX10_fillPair_75 : decode cX10_fillPair 75 = .ok (.imul, 1) := by decide +kernel
theorem dX10_fillPair_76 : decode cX10_fillPair 76 = .ok (.iadd, 1) := by decide +kernel
theorem dX10_fillPair_77 : decode cX10_fillPair 77 = .ok (.iload 7, 2) := by decide +kernel
theorem dX10_fillPair_79 : decode cX10_fillPair 79 = .ok (.iadd, 1) := by decide +kernel
theorem dX10_fillPair_80 : decode cX10_fillPair 80 = .ok (.aload_n 0, 1) := by decide +kernel
theorem dX10_fillPair_81 : decode cX10_fillPair 81 = .ok (.iload 4, 2) := by decide +kernel
theorem dX10_fillPair_83 : decode cX10_fillPair 83 = .ok (.iload 7, 2) := by decide +kernel
theorem dX10_fillPair_85 : decode cX10_fillPair 85 = .ok (.iadd, 1) := by decide +kernel
theorem dX10_fillPair_86 : decode cX10_fillPair 86 = .ok (.iaload, 1) := by decide +kernel
theorem dX10_fillPair_87 : decode cX10_fillPair 87 = .ok (.iload 6, 2) := by decide +kernel
theorem dX10_fillPair_89 : decode cX10_fillPair 89 = .ok (.iadd, 1) := by decide +kernel
theorem dX10_fillPair_90 : decode cX10_fillPair 90 = .ok (.iastore, 1) := by decide +kernel
theorem dX10_fillPair_91 : decode cX10_fillPair 91 = .ok (.iinc 7 1, 3) := by decide +kernel
theorem dX10_fillPair_94 : decode cX10_fillPair 94 = .ok (.goto (-33), 3) := by decide +kernel
theorem dX10_fillPair_97 : decode cX10_fillPair 97 = .ok (.iinc 5 (-1), 3) := by decide +kernel
theorem dX10_fillPair_100 : decode cX10_fillPair 100 = .ok (.goto (-59), 3) := by decide +kernel
theorem dX10_fillPair_103 : decode cX10_fillPair 103 = .ok (.return_, 1) := by decide +kernel
theorem dX10_heavyIn_0 : decode cX10_heavyIn 0 = .ok (.aload_n 0, 1) := by decide +kernel
theorem dX10_heavyIn_1 : decode cX10_heavyIn 1 = .ok (.iload_n 1, 1) := by decide +kernel
theorem dX10_heavyIn_2 : decode cX10_heavyIn 2 = .ok (.invokevirtual 77, 3) := by decide +kernel
theorem dX10_heavyIn_5 : decode cX10_heavyIn 5 = .ok (.astore 4, 2) := by decide +kernel
theorem dX10_heavyIn_7 : decode cX10_heavyIn 7 = .ok (.aload 4, 2) := by decide +kernel
theorem dX10_heavyIn_9 : decode cX10_heavyIn 9 = .ok (.ifnull 22, 3) := by decide +kernel
theorem dX10_heavyIn_12 : decode cX10_heavyIn 12 = .ok (.aload_n 0, 1) := by decide +kernel
theorem dX10_heavyIn_13 : decode cX10_heavyIn 13 = .ok (.iload_n 1, 1) := by decide +kernel
theorem dX10_heavyIn_14 : decode cX10_heavyIn 14 = .ok (.iload_n 3, 1) := by decide +kernel
theorem dX10_heavyIn_15 : decode cX10_heavyIn 15 = .ok (.invokevirtual 81, 3) := by decide +kernel
theorem dX10_heavyIn_18 : decode cX10_heavyIn 18 = .ok (.ifCond .eq 13, 3) := by decide +kernel
theorem dX10_heavyIn_21 : decode cX10_heavyIn 21 = .ok (.aload 4, 2) := by decide +kernel
theorem dX10_heavyIn_23 : decode cX10_heavyIn 23 = .ok (.iload_n 2, 1) := by decide +kernel
theorem dX10_heavyIn_24 : decode cX10_heavyIn 24 = .ok (.iload_n 3, 1) := by decide +kernel
theorem dX10_heavyIn_25 : decode cX10_heavyIn 25 = .ok (.invokevirtual 85, 3) := by decide +kernel
theorem dX10_heavyIn_28 : decode cX10_heavyIn 28 = .ok (.goto 4, 3) := by decide +kernel
theorem dX10_heavyIn_31 : decode cX10_heavyIn 31 = .ok (.iconst 0, 1) := by decide +kernel
theorem dX10_heavyIn_32 : decode cX10_heavyIn 32 = .ok (.ireturn, 1) := by decide +kernel
theorem dX10_weightIn_0 : decode cX10_weightIn 0 = .ok (.iload_n 0, 1) := by decide +kernel
theorem dX10_weightIn_1 : decode cX10_weightIn 1 = .ok (.iconst 3, 1) := by decide +kernel
theorem dX10_weightIn_2 : decode cX10_weightIn 2 = .ok (.iload_n 1, 1) := by decide +kernel
theorem dX10_weightIn_3 : decode cX10_weightIn 3 = .ok (.imul, 1) := by decide +kernel
theorem dX10_weightIn_4 : decode cX10_weightIn 4 = .ok (.ishr, 1) := by decide +kernel
theorem dX10_weightIn_5 : decode cX10_weightIn 5 = .ok (.bipush 7, 2) := by decide +kernel
theorem dX10_weightIn_7 : decode cX10_weightIn 7 = .ok (.iand, 1) := by decide +kernel
theorem dX10_weightIn_8 : decode cX10_weightIn 8 = .ok (.ireturn, 1) := by decide +kernel
theorem dX10_shownIn_0 : decode cX10_shownIn 0 = .ok (.iload_n 1, 1) := by decide +kernel
theorem dX10_shownIn_1 : decode cX10_shownIn 1 = .ok (.bipush 63, 2) := by decide +kernel
theorem dX10_shownIn_3 : decode cX10_shownIn 3 = .ok (.iand, 1) := by decide +kernel
theorem dX10_shownIn_4 : decode cX10_shownIn 4 = .ok (.istore_n 3, 1) := by decide +kernel
theorem dX10_shownIn_5 : decode cX10_shownIn 5 = .ok (.iload_n 1, 1) := by decide +kernel
theorem dX10_shownIn_6 : decode cX10_shownIn 6 = .ok (.bipush 6, 2) := by decide +kernel
theorem dX10_shownIn_8 : decode cX10_shownIn 8 = .ok (.ishr, 1) := by decide +kernel
theorem dX10_shownIn_9 : decode cX10_shownIn 9 = .ok (.istore 4, 2) := by decide +kernel
theorem dX10_shownIn_11 : decode cX10_shownIn 11 = .ok (.aload_n 0, 1) := by decide +kernel
theorem dX10_shownIn_12 : decode cX10_shownIn 12 = .ok (.getfield 18, 3) := by decide +kernel
theorem dX10_shownIn_15 : decode cX10_shownIn 15 = .ok (.iload_n 2, 1) := by decide +kernel
theorem dX10_shownIn_16 : decode cX10_shownIn 16 = .ok (.iaload, 1) := by decide +kernel
theorem dX10_shownIn_17 : decode cX10_shownIn 17 = .ok (.istore 5, 2) := by decide +kernel
theorem dX10_shownIn_19 : decode cX10_shownIn 19 = .ok (.iconst 0, 1) := by decide +kernel
theorem dX10_shownIn_20 : decode cX10_shownIn 20 = .ok (.istore 6, 2) := by decide +kernel
theorem dX10_shownIn_22 : decode cX10_shownIn 22 = .ok (.iconst 0, 1) := by decide +kernel
theorem dX10_shownIn_23 : decode cX10_shownIn 23 = .ok (.istore 7, 2) := by decide +kernel
theorem dX10_shownIn_25 : decode cX10_shownIn 25 = .ok (.iload 7, 2) := by decide +kernel
theorem dX10_shownIn_27 : decode cX10_shownIn 27 = .ok (.iload 5, 2) := by decide +kernel
theorem dX10_shownIn_29 : decode cX10_shownIn 29 = .ok (.if_icmp .gt 51, 3) := by decide +kernel
theorem dX10_shownIn_32 : decode cX10_shownIn 32 = .ok (.iload_n 2, 1) := by decide +kernel
theorem dX10_shownIn_33 : decode cX10_shownIn 33 = .ok (.iload 7, 2) := by decide +kernel
theorem dX10_shownIn_35 : decode cX10_shownIn 35 = .ok (.isub, 1) := by decide +kernel
theorem dX10_shownIn_36 : decode cX10_shownIn 36 = .ok (.bipush 64, 2) := by decide +kernel
theorem dX10_shownIn_38 : decode cX10_shownIn 38 = .ok (.imul, 1) := by decide +kernel
theorem dX10_shownIn_39 : decode cX10_shownIn 39 = .ok (.istore 8, 2) := by decide +kernel
theorem dX10_shownIn_41 : decode cX10_shownIn 41 = .ok (.iload 6, 2) := by decide +kernel
theorem dX10_shownIn_43 : decode cX10_shownIn 43 = .ok (.aload_n 0, 1) := by decide +kernel
theorem dX10_shownIn_44 : decode cX10_shownIn 44 = .ok (.getfield 11, 3) := by decide +kernel
theorem dX10_shownIn_47 : decode cX10_shownIn 47 = .ok (.iload 8, 2) := by decide +kernel
theorem dX10_shownIn_49 : decode cX10_shownIn 49 = .ok (.iload_n 3, 1) := by decide +kernel
theorem dX10_shownIn_50 : decode cX10_shownIn 50 = .ok (.iadd, 1) := by decide +kernel
theorem dX10_shownIn_51 : decode cX10_shownIn 51 = .ok (.iaload, 1) := by decide +kernel
theorem dX10_shownIn_52 : decode cX10_shownIn 52 = .ok (.aload_n 0, 1) := by decide +kernel
theorem dX10_shownIn_53 : decode cX10_shownIn 53 = .ok (.getfield 15, 3) := by decide +kernel
theorem dX10_shownIn_56 : decode cX10_shownIn 56 = .ok (.iload 8, 2) := by decide +kernel
theorem dX10_shownIn_58 : decode cX10_shownIn 58 = .ok (.iload 4, 2) := by decide +kernel
theorem dX10_shownIn_60 : decode cX10_shownIn 60 = .ok (.iadd, 1) := by decide +kernel
theorem dX10_shownIn_61 : decode cX10_shownIn 61 = .ok (.iaload, 1) := by decide +kernel
theorem dX10_shownIn_62 : decode cX10_shownIn 62 = .ok (.iadd, 1) := by decide +kernel
theorem dX10_shownIn_63 : decode cX10_shownIn 63 = .ok (.iload 7, 2) := by decide +kernel
theorem dX10_shownIn_65 : decode cX10_shownIn 65 = .ok (.aload_n 0, 1) := by decide +kernel
theorem dX10_shownIn_66 : decode cX10_shownIn 66 = .ok (.getfield 46, 3) := by decide +kernel
theorem dX10_shownIn_69 : decode cX10_shownIn 69 = .ok (.imul, 1) := by decide +kernel
theorem dX10_shownIn_70 : decode cX10_shownIn 70 = .ok (.ishr, 1) := by decide +kernel
theorem dX10_shownIn_71 : decode cX10_shownIn 71 = .ok (.iadd, 1) := by decide +kernel
theorem dX10_shownIn_72 : decode cX10_shownIn 72 = .ok (.istore 6, 2) := by decide +kernel
theorem dX10_shownIn_74 : decode cX10_shownIn 74 = .ok (.iinc 7 1, 3) := by decide +kernel
theorem dX10_shownIn_77 : decode cX10_shownIn 77 = .ok (.goto (-52), 3) := by decide +kernel
theorem dX10_shownIn_80 : decode cX10_shownIn 80 = .ok (.iload 6, 2) := by decide +kernel
theorem dX10_shownIn_82 : decode cX10_shownIn 82 = .ok (.aload_n 0, 1) := by decide +kernel
theorem dX10_shownIn_83 : decode cX10_shownIn 83 = .ok (.getfield 50, 3) := by decide +kernel
theorem dX10_shownIn_86 : decode cX10_shownIn 86 = .ok (.invokestatic 90, 3) := by decide +kernel
theorem dX10_shownIn_89 : decode cX10_shownIn 89 = .ok (.ireturn, 1) := by decide +kernel
theorem dX10_isFitting_0 : decode cX10_isFitting 0 = .ok (.iconst 0, 1) := by decide +kernel
theorem dX10_isFitting_1 : decode cX10_isFitting 1 = .ok (.istore_n 2, 1) := by decide +kernel
theorem dX10_isFitting_2 : decode cX10_isFitting 2 = .ok (.iload_n 2, 1) := by decide +kernel
theorem dX10_isFitting_3 : decode cX10_isFitting 3 = .ok (.aload_n 0, 1) := by decide +kernel
theorem dX10_isFitting_4 : decode cX10_isFitting 4 = .ok (.getfield 31, 3) := by decide +kernel
theorem dX10_isFitting_7 : decode cX10_isFitting 7 = .ok (.if_icmp .ge 36, 3) := by decide +kernel
theorem dX10_isFitting_10 : decode cX10_isFitting 10 = .ok (.aload_n 0, 1) := by decide +kernel
theorem dX10_isFitting_11 : decode cX10_isFitting 11 = .ok (.getfield 21, 3) := by decide +kernel
theorem dX10_isFitting_14 : decode cX10_isFitting 14 = .ok (.iload_n 2, 1) := by decide +kernel
theorem dX10_isFitting_15 : decode cX10_isFitting 15 = .ok (.iaload, 1) := by decide +kernel
theorem dX10_isFitting_16 : decode cX10_isFitting 16 = .ok (.iconst (-1), 1) := by decide +kernel
theorem dX10_isFitting_17 : decode cX10_isFitting 17 = .ok (.if_icmp .eq 20, 3) := by decide +kernel
theorem dX10_isFitting_20 : decode cX10_isFitting 20 = .ok (.aload_n 0, 1) := by decide +kernel
theorem dX10_isFitting_21 : decode cX10_isFitting 21 = .ok (.getfield 21, 3) := by decide +kernel
theorem dX10_isFitting_24 : decode cX10_isFitting 24 = .ok (.iload_n 2, 1) := by decide +kernel
theorem dX10_isFitting_25 : decode cX10_isFitting 25 = .ok (.iaload, 1) := by decide +kernel
theorem dX10_isFitting_26 : decode cX10_isFitting 26 = .ok (.aload_n 0, 1) := by decide +kernel
theorem dX10_isFitting_27 : decode cX10_isFitting 27 = .ok (.iload_n 1, 1) := by decide +kernel
theorem dX10_isFitting_28 : decode cX10_isFitting 28 = .ok (.iload_n 2, 1) := by decide +kernel
theorem dX10_isFitting_29 : decode cX10_isFitting 29 = .ok (.invokevirtual 93, 3) := by decide +kernel
theorem dX10_isFitting_32 : decode cX10_isFitting 32 = .ok (.if_icmp .eq 5, 3) := by decide +kernel
theorem dX10_isFitting_35 : decode cX10_isFitting 35 = .ok (.iconst 0, 1) := by decide +kernel
theorem dX10_isFitting_36 : decode cX10_isFitting 36 = .ok (.ireturn, 1) := by decide +kernel
theorem dX10_isFitting_37 : decode cX10_isFitting 37 = .ok (.iinc 2 1, 3) := by decide +kernel
theorem dX10_isFitting_40 : decode cX10_isFitting 40 = .ok (.goto (-38), 3) := by decide +kernel
theorem dX10_isFitting_43 : decode cX10_isFitting 43 = .ok (.iconst 1, 1) := by decide +kernel
theorem dX10_isFitting_44 : decode cX10_isFitting 44 = .ok (.ireturn, 1) := by decide +kernel
theorem dX10_howManyFit_0 : decode cX10_howManyFit 0 = .ok (.iconst 0, 1) := by decide +kernel
theorem dX10_howManyFit_1 : decode cX10_howManyFit 1 = .ok (.istore_n 1, 1) := by decide +kernel
theorem dX10_howManyFit_2 : decode cX10_howManyFit 2 = .ok (.iconst 0, 1) := by decide +kernel
theorem dX10_howManyFit_3 : decode cX10_howManyFit 3 = .ok (.istore_n 2, 1) := by decide +kernel
theorem dX10_howManyFit_4 : decode cX10_howManyFit 4 = .ok (.iload_n 2, 1) := by decide +kernel
theorem dX10_howManyFit_5 : decode cX10_howManyFit 5 = .ok (.aload_n 0, 1) := by decide +kernel
theorem dX10_howManyFit_6 : decode cX10_howManyFit 6 = .ok (.getfield 55, 3) := by decide +kernel
theorem dX10_howManyFit_9 : decode cX10_howManyFit 9 = .ok (.if_icmp .ge 20, 3) := by decide +kernel
theorem dX10_howManyFit_12 : decode cX10_howManyFit 12 = .ok (.aload_n 0, 1) := by decide +kernel
theorem dX10_howManyFit_13 : decode cX10_howManyFit 13 = .ok (.iload_n 2, 1) := by decide +kernel
theorem dX10_howManyFit_14 : decode cX10_howManyFit 14 = .ok (.invokevirtual 96, 3) := by decide +kernel
theorem dX10_howManyFit_17 : decode cX10_howManyFit 17 = .ok (.ifCond .eq 6, 3) := by decide +kernel
theorem dX10_howManyFit_20 : decode cX10_howManyFit 20 = .ok (.iinc 1 1, 3) := by decide +kernel
theorem dX10_howManyFit_23 : decode cX10_howManyFit 23 = .ok (.iinc 2 1, 3) := by decide +kernel
theorem dX10_howManyFit_26 : decode cX10_howManyFit 26 = .ok (.goto (-22), 3) := by decide +kernel
theorem dX10_howManyFit_29 : decode cX10_howManyFit 29 = .ok (.iload_n 1, 1) := by decide +kernel
theorem dX10_howManyFit_30 : decode cX10_howManyFit 30 = .ok (.ireturn, 1) := by decide +kernel
theorem dX10_howManyFitWith_0 : decode cX10_howManyFitWith 0 = .ok (.iconst 0, 1) := by decide +kernel
theorem dX10_howManyFitWith_1 : decode cX10_howManyFitWith 1 = .ok (.istore_n 3, 1) := by decide +kernel
theorem dX10_howManyFitWith_2 : decode cX10_howManyFitWith 2 = .ok (.iconst 0, 1) := by decide +kernel
theorem dX10_howManyFitWith_3 : decode cX10_howManyFitWith 3 = .ok (.istore 4, 2) := by decide +kernel
theorem dX10_howManyFitWith_5 : decode cX10_howManyFitWith 5 = .ok (.iload 4, 2) := by decide +kernel
theorem dX10_howManyFitWith_7 : decode cX10_howManyFitWith 7 = .ok (.aload_n 0, 1) := by decide +kernel
theorem dX10_howManyFitWith_8 : decode cX10_howManyFitWith 8 = .ok (.getfield 55, 3) := by decide +kernel
theorem dX10_howManyFitWith_11 : decode cX10_howManyFitWith 11 = .ok (.if_icmp .ge 31, 3) := by decide +kernel
theorem dX10_howManyFitWith_14 : decode cX10_howManyFitWith 14 = .ok (.iload 4, 2) := by decide +kernel
theorem dX10_howManyFitWith_16 : decode cX10_howManyFitWith 16 = .ok (.iload_n 1, 1) := by decide +kernel
theorem dX10_howManyFitWith_17 : decode cX10_howManyFitWith 17 = .ok (.invokestatic 100, 3) := by decide +kernel
theorem dX10_howManyFitWith_20 : decode cX10_howManyFitWith 20 = .ok (.iload_n 2, 1) := by decide +kernel
theorem dX10_howManyFitWith_21 : decode cX10_howManyFitWith 21 = .ok (.if_icmp .ne 15, 3) := by decide +kernel
theorem dX10_howManyFitWith_24 : decode cX10_howManyFitWith 24 = .ok (.aload_n 0, 1) := by decide +kernel
theorem dX10_howManyFitWith_25 : decode cX10_howManyFitWith 25 = .ok (.iload 4, 2) := by decide +kernel
theorem dX10_howManyFitWith_27 : decode cX10_howManyFitWith 27 = .ok (.invokevirtual 96, 3) := by decide +kernel
theorem dX10_howManyFitWith_30 : decode cX10_howManyFitWith 30 = .ok (.ifCond .eq 6, 3) := by decide +kernel
theorem dX10_howManyFitWith_33 : decode cX10_howManyFitWith 33 = .ok (.iinc 3 1, 3) := by decide +kernel
theorem dX10_howManyFitWith_36 : decode cX10_howManyFitWith 36 = .ok (.iinc 4 1, 3) := by decide +kernel
theorem dX10_howManyFitWith_39 : decode cX10_howManyFitWith 39 = .ok (.goto (-34), 3) := by decide +kernel
theorem dX10_howManyFitWith_42 : decode cX10_howManyFitWith 42 = .ok (.iload_n 3, 1) := by decide +kernel
theorem dX10_howManyFitWith_43 : decode cX10_howManyFitWith 43 = .ok (.ireturn, 1) := by decide +kernel
theorem dX10_sureWeight_0 : decode cX10_sureWeight 0 = .ok (.ldc 103, 2) := by decide +kernel
theorem dX10_sureWeight_2 : decode cX10_sureWeight 2 = .ok (.istore_n 2, 1) := by decide +kernel
theorem dX10_sureWeight_3 : decode cX10_sureWeight 3 = .ok (.iconst 0, 1) := by decide +kernel
theorem dX10_sureWeight_4 : decode cX10_sureWeight 4 = .ok (.istore_n 3, 1) := by decide +kernel
theorem dX10_sureWeight_5 : decode cX10_sureWeight 5 = .ok (.iload_n 3, 1) := by decide +kernel
theorem dX10_sureWeight_6 : decode cX10_sureWeight 6 = .ok (.aload_n 0, 1) := by decide +kernel
theorem dX10_sureWeight_7 : decode cX10_sureWeight 7 = .ok (.getfield 55, 3) := by decide +kernel
theorem dX10_sureWeight_10 : decode cX10_sureWeight 10 = .ok (.if_icmp .ge 42, 3) := by decide +kernel
theorem dX10_sureWeight_13 : decode cX10_sureWeight 13 = .ok (.iload_n 3, 1) := by decide +kernel
theorem dX10_sureWeight_14 : decode cX10_sureWeight 14 = .ok (.iload_n 1, 1) := by decide +kernel
theorem dX10_sureWeight_15 : decode cX10_sureWeight 15 = .ok (.invokestatic 100, 3) := by decide +kernel
theorem dX10_sureWeight_18 : decode cX10_sureWeight 18 = .ok (.istore 4, 2) := by decide +kernel
theorem dX10_sureWeight_20 : decode cX10_sureWeight 20 = .ok (.iload 4, 2) := by decide +kernel
theorem dX10_sureWeight_22 : decode cX10_sureWeight 22 = .ok (.iload_n 2, 1) := by decide +kernel
theorem dX10_sureWeight_23 : decode cX10_sureWeight 23 = .ok (.if_icmp .eq 23, 3) := by decide +kernel
theorem dX10_sureWeight_26 : decode cX10_sureWeight 26 = .ok (.aload_n 0, 1) := by decide +kernel
theorem dX10_sureWeight_27 : decode cX10_sureWeight 27 = .ok (.iload_n 3, 1) := by decide +kernel
theorem dX10_sureWeight_28 : decode cX10_sureWeight 28 = .ok (.invokevirtual 96, 3) := by decide +kernel
theorem dX10_sureWeight_31 : decode cX10_sureWeight 31 = .ok (.ifCond .eq 15, 3) := by decide +kernel
theorem dX10_sureWeight_34 : decode cX10_sureWeight 34 = .ok (.iload_n 2, 1) := by decide +kernel
theorem dX10_sureWeight_35 : decode cX10_sureWeight 35 = .ok (.ldc 103, 2) := by decide +kernel
theorem dX10_sureWeight_37 : decode cX10_sureWeight 37 = .ok (.if_icmp .eq 6, 3) := by decide +kernel
theorem dX10_sureWeight_40 : decode cX10_sureWeight 40 = .ok (.ldc 103, 2) := by decide +kernel
theorem dX10_sureWeight_42 : decode cX10_sureWeight 42 = .ok (.ireturn, 1) := by decide +kernel
theorem dX10_sureWeight_43 : decode cX10_sureWeight 43 = .ok (.iload 4, 2) := by decide +kernel
theorem dX10_sureWeight_45 : decode cX10_sureWeight 45 = .ok (.istore_n 2, 1) := by decide +kernel
theorem dX10_sureWeight_46 : decode cX10_sureWeight 46 = .ok (.iinc 3 1, 3) := by decide +kernel
theorem dX10_sureWeight_49 : decode cX10_sureWeight 49 = .ok (.goto (-44), 3) := by decide +kernel
theorem dX10_sureWeight_52 : decode cX10_sureWeight 52 = .ok (.iload_n 2, 1) := by decide +kernel
theorem dX10_sureWeight_53 : decode cX10_sureWeight 53 = .ok (.ireturn, 1) := by decide +kernel
theorem dX10_sureShown_0 : decode cX10_sureShown 0 = .ok (.ldc 103, 2) := by decide +kernel
theorem dX10_sureShown_2 : decode cX10_sureShown 2 = .ok (.istore_n 2, 1) := by decide +kernel
theorem dX10_sureShown_3 : decode cX10_sureShown 3 = .ok (.iconst 0, 1) := by decide +kernel
theorem dX10_sureShown_4 : decode cX10_sureShown 4 = .ok (.istore_n 3, 1) := by decide +kernel
theorem dX10_sureShown_5 : decode cX10_sureShown 5 = .ok (.iload_n 3, 1) := by decide +kernel
theorem dX10_sureShown_6 : decode cX10_sureShown 6 = .ok (.aload_n 0, 1) := by decide +kernel
theorem dX10_sureShown_7 : decode cX10_sureShown 7 = .ok (.getfield 55, 3) := by decide +kernel
theorem dX10_sureShown_10 : decode cX10_sureShown 10 = .ok (.if_icmp .ge 43, 3) := by decide +kernel
theorem dX10_sureShown_13 : decode cX10_sureShown 13 = .ok (.aload_n 0, 1) := by decide +kernel
theorem dX10_sureShown_14 : decode cX10_sureShown 14 = .ok (.iload_n 3, 1) := by decide +kernel
theorem dX10_sureShown_15 : decode cX10_sureShown 15 = .ok (.invokevirtual 96, 3) := by decide +kernel
theorem dX10_sureShown_18 : decode cX10_sureShown 18 = .ok (.ifCond .eq 29, 3) := by decide +kernel
theorem dX10_sureShown_21 : decode cX10_sureShown 21 = .ok (.aload_n 0, 1) := by decide +kernel
theorem dX10_sureShown_22 : decode cX10_sureShown 22 = .ok (.iload_n 3, 1) := by decide +kernel
theorem dX10_sureShown_23 : decode cX10_sureShown 23 = .ok (.iload_n 1, 1) := by decide +kernel
theorem dX10_sureShown_24 : decode cX10_sureShown 24 = .ok (.invokevirtual 93, 3) := by decide +kernel
theorem dX10_sureShown_27 : decode cX10_sureShown 27 = .ok (.istore 4, 2) := by decide +kernel
theorem dX10_sureShown_29 : decode cX10_sureShown 29 = .ok (.iload_n 2, 1) := by decide +kernel
theorem dX10_sureShown_30 : decode cX10_sureShown 30 = .ok (.ldc 103, 2) := by decide +kernel
theorem dX10_sureShown_32 : decode cX10_sureShown 32 = .ok (.if_icmp .eq 12, 3) := by decide +kernel
theorem dX10_sureShown_35 : decode cX10_sureShown 35 = .ok (.iload_n 2, 1) := by decide +kernel
theorem dX10_sureShown_36 : decode cX10_sureShown 36 = .ok (.iload 4, 2) := by decide +kernel
theorem dX10_sureShown_38 : decode cX10_sureShown 38 = .ok (.if_icmp .eq 6, 3) := by decide +kernel
theorem dX10_sureShown_41 : decode cX10_sureShown 41 = .ok (.ldc 103, 2) := by decide +kernel
theorem dX10_sureShown_43 : decode cX10_sureShown 43 = .ok (.ireturn, 1) := by decide +kernel
theorem dX10_sureShown_44 : decode cX10_sureShown 44 = .ok (.iload 4, 2) := by decide +kernel
theorem dX10_sureShown_46 : decode cX10_sureShown 46 = .ok (.istore_n 2, 1) := by decide +kernel
theorem dX10_sureShown_47 : decode cX10_sureShown 47 = .ok (.iinc 3 1, 3) := by decide +kernel
theorem dX10_sureShown_50 : decode cX10_sureShown 50 = .ok (.goto (-45), 3) := by decide +kernel
theorem dX10_sureShown_53 : decode cX10_sureShown 53 = .ok (.iload_n 2, 1) := by decide +kernel
theorem dX10_sureShown_54 : decode cX10_sureShown 54 = .ok (.ireturn, 1) := by decide +kernel
theorem dX10_fewestFalse_0 : decode cX10_fewestFalse 0 = .ok (.iconst 1, 1) := by decide +kernel
theorem dX10_fewestFalse_1 : decode cX10_fewestFalse 1 = .ok (.aload_n 0, 1) := by decide +kernel
theorem dX10_fewestFalse_2 : decode cX10_fewestFalse 2 = .ok (.getfield 31, 3) := by decide +kernel
theorem dX10_fewestFalse_5 : decode cX10_fewestFalse 5 = .ok (.ishl, 1) := by decide +kernel
theorem dX10_fewestFalse_6 : decode cX10_fewestFalse 6 = .ok (.iconst 1, 1) := by decide +kernel
theorem dX10_fewestFalse_7 : decode cX10_fewestFalse 7 = .ok (.isub, 1) := by decide +kernel
theorem dX10_fewestFalse_8 : decode cX10_fewestFalse 8 = .ok (.istore_n 1, 1) := by decide +kernel
theorem dX10_fewestFalse_9 : decode cX10_fewestFalse 9 = .ok (.aload_n 0, 1) := by decide +kernel
theorem dX10_fewestFalse_10 : decode cX10_fewestFalse 10 = .ok (.getfield 31, 3) := by decide +kernel
theorem dX10_fewestFalse_13 : decode cX10_fewestFalse 13 = .ok (.istore_n 2, 1) := by decide +kernel
theorem dX10_fewestFalse_14 : decode cX10_fewestFalse 14 = .ok (.iconst 0, 1) := by decide +kernel
theorem dX10_fewestFalse_15 : decode cX10_fewestFalse 15 = .ok (.istore_n 3, 1) := by decide +kernel
theorem dX10_fewestFalse_16 : decode cX10_fewestFalse 16 = .ok (.iload_n 3, 1) := by decide +kernel
theorem dX10_fewestFalse_17 : decode cX10_fewestFalse 17 = .ok (.aload_n 0, 1) := by decide +kernel
theorem dX10_fewestFalse_18 : decode cX10_fewestFalse 18 = .ok (.getfield 55, 3) := by decide +kernel
theorem dX10_fewestFalse_21 : decode cX10_fewestFalse 21 = .ok (.if_icmp .ge 48, 3) := by decide +kernel
theorem dX10_fewestFalse_24 : decode cX10_fewestFalse 24 = .ok (.aload_n 0, 1) := by decide +kernel
theorem dX10_fewestFalse_25 : decode cX10_fewestFalse 25 = .ok (.iload_n 3, 1) := by decide +kernel
theorem dX10_fewestFalse_26 : decode cX10_fewestFalse 26 = .ok (.iload_n 2, 1) := by decide +kernel
theorem dX10_fewestFalse_27 : decode cX10_fewestFalse 27 = .ok (.invokevirtual 104, 3) := by decide +kernel
theorem dX10_fewestFalse_30 : decode cX10_fewestFalse 30 = .ok (.istore 4, 2) := by decide +kernel
theorem dX10_fewestFalse_32 : decode cX10_fewestFalse 32 = .ok (.iload 4, 2) := by decide +kernel
theorem dX10_fewestFalse_34 : decode cX10_fewestFalse 34 = .ok (.invokestatic 107, 3) := by decide +kernel
theorem dX10_fewestFalse_37 : decode cX10_fewestFalse 37 = .ok (.istore 5, 2) := by decide +kernel
theorem dX10_fewestFalse_39 : decode cX10_fewestFalse 39 = .ok (.iload 5, 2) := by decide +kernel
theorem dX10_fewestFalse_41 : decode cX10_fewestFalse 41 = .ok (.iload_n 2, 1) := by decide +kernel
theorem dX10_fewestFalse_42 : decode cX10_fewestFalse 42 = .ok (.if_icmp .lt 15, 3) := by decide +kernel
theorem dX10_fewestFalse_45 : decode cX10_fewestFalse 45 = .ok (.iload 5, 2) := by decide +kernel
theorem dX10_fewestFalse_47 : decode cX10_fewestFalse 47 = .ok (.iload_n 2, 1) := by decide +kernel
theorem dX10_fewestFalse_48 : decode cX10_fewestFalse 48 = .ok (.if_icmp .ne 15, 3) := by decide +kernel
theorem dX10_fewestFalse_51 : decode cX10_fewestFalse 51 = .ok (.iload 4, 2) := by decide +kernel
theorem dX10_fewestFalse_53 : decode cX10_fewestFalse 53 = .ok (.iload_n 1, 1) := by decide +kernel
theorem dX10_fewestFalse_54 : decode cX10_fewestFalse 54 = .ok (.if_icmp .ge 9, 3) := by decide +kernel
theorem dX10_fewestFalse_57 : decode cX10_fewestFalse 57 = .ok (.iload 4, 2) := by decide +kernel
theorem dX10_fewestFalse_59 : decode cX10_fewestFalse 59 = .ok (.istore_n 1, 1) := by decide +kernel
theorem dX10_fewestFalse_60 : decode cX10_fewestFalse 60 = .ok (.iload 5, 2) := by decide +kernel
theorem dX10_fewestFalse_62 : decode cX10_fewestFalse 62 = .ok (.istore_n 2, 1) := by decide +kernel
theorem dX10_fewestFalse_63 : decode cX10_fewestFalse 63 = .ok (.iinc 3 1, 3) := by decide +kernel
theorem dX10_fewestFalse_66 : decode cX10_fewestFalse 66 = .ok (.goto (-50), 3) := by decide +kernel
theorem dX10_fewestFalse_69 : decode cX10_fewestFalse 69 = .ok (.iload_n 1, 1) := by decide +kernel
theorem dX10_fewestFalse_70 : decode cX10_fewestFalse 70 = .ok (.ireturn, 1) := by decide +kernel
theorem dX10_falseIn_0 : decode cX10_falseIn 0 = .ok (.iconst 0, 1) := by decide +kernel
theorem dX10_falseIn_1 : decode cX10_falseIn 1 = .ok (.istore_n 3, 1) := by decide +kernel
theorem dX10_falseIn_2 : decode cX10_falseIn 2 = .ok (.iconst 0, 1) := by decide +kernel
theorem dX10_falseIn_3 : decode cX10_falseIn 3 = .ok (.istore 4, 2) := by decide +kernel
theorem dX10_falseIn_5 : decode cX10_falseIn 5 = .ok (.iconst 0, 1) := by decide +kernel
theorem dX10_falseIn_6 : decode cX10_falseIn 6 = .ok (.istore 5, 2) := by decide +kernel
theorem dX10_falseIn_8 : decode cX10_falseIn 8 = .ok (.iload 5, 2) := by decide +kernel
theorem dX10_falseIn_10 : decode cX10_falseIn 10 = .ok (.aload_n 0, 1) := by decide +kernel
theorem dX10_falseIn_11 : decode cX10_falseIn 11 = .ok (.getfield 31, 3) := by decide +kernel
theorem dX10_falseIn_14 : decode cX10_falseIn 14 = .ok (.if_icmp .ge 53, 3) := by decide +kernel
theorem dX10_falseIn_17 : decode cX10_falseIn 17 = .ok (.iload 4, 2) := by decide +kernel
theorem dX10_falseIn_19 : decode cX10_falseIn 19 = .ok (.iload_n 2, 1) := by decide +kernel
theorem dX10_falseIn_20 : decode cX10_falseIn 20 = .ok (.if_icmp .gt 47, 3) := by decide +kernel
theorem dX10_falseIn_23 : decode cX10_falseIn 23 = .ok (.aload_n 0, 1) := by decide +kernel
theorem dX10_falseIn_24 : decode cX10_falseIn 24 = .ok (.getfield 21, 3) := by decide +kernel
theorem dX10_falseIn_27 : decode cX10_falseIn 27 = .ok (.iload 5, 2) := by decide +kernel
theorem dX10_falseIn_29 : decode cX10_falseIn 29 = .ok (.iaload, 1) := by decide +kernel
theorem dX10_falseIn_30 : decode cX10_falseIn 30 = .ok (.iconst (-1), 1) := by decide +kernel
theorem dX10_falseIn_31 : decode cX10_falseIn 31 = .ok (.if_icmp .eq 30, 3) := by decide +kernel
theorem dX10_falseIn_34 : decode cX10_falseIn 34 = .ok (.aload_n 0, 1) := by decide +kernel
theorem dX10_falseIn_35 : decode cX10_falseIn 35 = .ok (.getfield 21, 3) := by decide +kernel
theorem dX10_falseIn_38 : decode cX10_falseIn 38 = .ok (.iload 5, 2) := by decide +kernel
theorem dX10_falseIn_40 : decode cX10_falseIn 40 = .ok (.iaload, 1) := by decide +kernel
theorem dX10_falseIn_41 : decode cX10_falseIn 41 = .ok (.aload_n 0, 1) := by decide +kernel
theorem dX10_falseIn_42 : decode cX10_falseIn 42 = .ok (.iload_n 1, 1) := by decide +kernel
theorem dX10_falseIn_43 : decode cX10_falseIn 43 = .ok (.iload 5, 2) := by decide +kernel
theorem dX10_falseIn_45 : decode cX10_falseIn 45 = .ok (.invokevirtual 93, 3) := by decide +kernel
theorem dX10_falseIn_48 : decode cX10_falseIn 48 = .ok (.if_icmp .eq 13, 3) := by decide +kernel
theorem dX10_falseIn_51 : decode cX10_falseIn 51 = .ok (.iload_n 3, 1) := by decide +kernel
theorem dX10_falseIn_52 : decode cX10_falseIn 52 = .ok (.iconst 1, 1) := by decide +kernel
theorem dX10_falseIn_53 : decode cX10_falseIn 53 = .ok (.iload 5, 2) := by decide +kernel
theorem dX10_falseIn_55 : decode cX10_falseIn 55 = .ok (.ishl, 1) := by decide +kernel
theorem dX10_falseIn_56 : decode cX10_falseIn 56 = .ok (.ior, 1) := by decide +kernel
theorem dX10_falseIn_57 : decode cX10_falseIn 57 = .ok (.istore_n 3, 1) := by decide +kernel
theorem dX10_falseIn_58 : decode cX10_falseIn 58 = .ok (.iinc 4 1, 3) := by decide +kernel
theorem dX10_falseIn_61 : decode cX10_falseIn 61 = .ok (.iinc 5 1, 3) := by decide +kernel
theorem dX10_falseIn_64 : decode cX10_falseIn 64 = .ok (.goto (-56), 3) := by decide +kernel
theorem dX10_falseIn_67 : decode cX10_falseIn 67 = .ok (.iload_n 3, 1) := by decide +kernel
theorem dX10_falseIn_68 : decode cX10_falseIn 68 = .ok (.ireturn, 1) := by decide +kernel
theorem dX10_forget_0 : decode cX10_forget 0 = .ok (.aload_n 0, 1) := by decide +kernel
theorem dX10_forget_1 : decode cX10_forget 1 = .ok (.iconst 0, 1) := by decide +kernel
theorem dX10_forget_2 : decode cX10_forget 2 = .ok (.putfield 113, 3) := by decide +kernel
theorem dX10_forget_5 : decode cX10_forget 5 = .ok (.return_, 1) := by decide +kernel
theorem dX10_soonSet_0 : decode cX10_soonSet 0 = .ok (.iload_n 1, 1) := by decide +kernel
theorem dX10_soonSet_1 : decode cX10_soonSet 1 = .ok (.ifCond .lt 11, 3) := by decide +kernel
theorem dX10_soonSet_4 : decode cX10_soonSet 4 = .ok (.iload_n 1, 1) := by decide +kernel
theorem dX10_soonSet_5 : decode cX10_soonSet 5 = .ok (.aload_n 0, 1) := by decide +kernel
theorem dX10_soonSet_6 : decode cX10_soonSet 6 = .ok (.getfield 117, 3) := by decide +kernel
theorem dX10_soonSet_9 : decode cX10_soonSet 9 = .ok (.if_icmp .lt 6, 3) := by decide +kernel
theorem dX10_soonSet_12 : decode cX10_soonSet 12 = .ok (.ldc 103, 2) := by decide +kernel
theorem dX10_soonSet_14 : decode cX10_soonSet 14 = .ok (.ireturn, 1) := by decide +kernel
theorem dX10_soonSet_15 : decode cX10_soonSet 15 = .ok (.iload_n 1, 1) := by decide +kernel
theorem dX10_soonSet_16 : decode cX10_soonSet 16 = .ok (.ifCond .ne 10, 3) := by decide +kernel
theorem dX10_soonSet_19 : decode cX10_soonSet 19 = .ok (.aload_n 0, 1) := by decide +kernel
theorem dX10_soonSet_20 : decode cX10_soonSet 20 = .ok (.getfield 120, 3) := by decide +kernel
theorem dX10_soonSet_23 : decode cX10_soonSet 23 = .ok (.goto 7, 3) := by decide +kernel
theorem dX10_soonSet_26 : decode cX10_soonSet 26 = .ok (.aload_n 0, 1) := by decide +kernel
theorem dX10_soonSet_27 : decode cX10_soonSet 27 = .ok (.getfield 123, 3) := by decide +kernel
theorem dX10_soonSet_30 : decode cX10_soonSet 30 = .ok (.ireturn, 1) := by decide +kernel
theorem dX10_learnSoon_0 : decode cX10_learnSoon 0 = .ok (.aload_n 0, 1) := by decide +kernel
theorem dX10_learnSoon_1 : decode cX10_learnSoon 1 = .ok (.getfield 113, 3) := by decide +kernel
theorem dX10_learnSoon_4 : decode cX10_learnSoon 4 = .ok (.ifCond .eq 4, 3) := by decide +kernel
theorem dX10_learnSoon_7 : decode cX10_learnSoon 7 = .ok (.return_, 1) := by decide +kernel
theorem dX10_learnSoon_8 : decode cX10_learnSoon 8 = .ok (.aload_n 0, 1) := by decide +kernel
theorem dX10_learnSoon_9 : decode cX10_learnSoon 9 = .ok (.iconst 1, 1) := by decide +kernel
theorem dX10_learnSoon_10 : decode cX10_learnSoon 10 = .ok (.putfield 113, 3) := by decide +kernel
theorem dX10_learnSoon_13 : decode cX10_learnSoon 13 = .ok (.aload_n 0, 1) := by decide +kernel
theorem dX10_learnSoon_14 : decode cX10_learnSoon 14 = .ok (.ldc 103, 2) := by decide +kernel
theorem dX10_learnSoon_16 : decode cX10_learnSoon 16 = .ok (.putfield 117, 3) := by decide +kernel
theorem dX10_learnSoon_19 : decode cX10_learnSoon 19 = .ok (.aload_n 0, 1) := by decide +kernel
theorem dX10_learnSoon_20 : decode cX10_learnSoon 20 = .ok (.aload_n 1, 1) := by decide +kernel
theorem dX10_learnSoon_21 : decode cX10_learnSoon 21 = .ok (.invokevirtual 27, 3) := by decide +kernel
theorem dX10_learnSoon_24 : decode cX10_learnSoon 24 = .ok (.aload_n 0, 1) := by decide +kernel
theorem dX10_learnSoon_25 : decode cX10_learnSoon 25 = .ok (.aload_n 1, 1) := by decide +kernel
theorem dX10_learnSoon_26 : decode cX10_learnSoon 26 = .ok (.invokevirtual 126, 3) := by decide +kernel
theorem dX10_learnSoon_29 : decode cX10_learnSoon 29 = .ok (.istore_n 2, 1) := by decide +kernel
theorem dX10_learnSoon_30 : decode cX10_learnSoon 30 = .ok (.iload_n 2, 1) := by decide +kernel
theorem dX10_learnSoon_31 : decode cX10_learnSoon 31 = .ok (.iconst 1, 1) := by decide +kernel
theorem dX10_learnSoon_32 : decode cX10_learnSoon 32 = .ok (.if_icmp .ne 9, 3) := by decide +kernel
theorem dX10_learnSoon_35 : decode cX10_learnSoon 35 = .ok (.aload_n 0, 1) := by decide +kernel
theorem dX10_learnSoon_36 : decode cX10_learnSoon 36 = .ok (.iconst 0, 1) := by decide +kernel
theorem dX10_learnSoon_37 : decode cX10_learnSoon 37 = .ok (.putfield 117, 3) := by decide +kernel
theorem dX10_learnSoon_40 : decode cX10_learnSoon 40 = .ok (.return_, 1) := by decide +kernel
theorem dX10_learnSoon_41 : decode cX10_learnSoon 41 = .ok (.aload_n 1, 1) := by decide +kernel
theorem dX10_learnSoon_42 : decode cX10_learnSoon 42 = .ok (.invokestatic 130, 3) := by decide +kernel
theorem dX10_learnSoon_45 : decode cX10_learnSoon 45 = .ok (.istore_n 3, 1) := by decide +kernel
theorem dX10_learnSoon_46 : decode cX10_learnSoon 46 = .ok (.aload_n 0, 1) := by decide +kernel
theorem dX10_learnSoon_47 : decode cX10_learnSoon 47 = .ok (.aload_n 1, 1) := by decide +kernel
theorem dX10_learnSoon_48 : decode cX10_learnSoon 48 = .ok (.iload_n 2, 1) := by decide +kernel
theorem dX10_learnSoon_49 : decode cX10_learnSoon 49 = .ok (.iload_n 3, 1) := by decide +kernel
theorem dX10_learnSoon_50 : decode cX10_learnSoon 50 = .ok (.invokevirtual 133, 3) := by decide +kernel
theorem dX10_learnSoon_53 : decode cX10_learnSoon 53 = .ok (.ifCond .ne 10, 3) := by decide +kernel
theorem dX10_learnSoon_56 : decode cX10_learnSoon 56 = .ok (.aload_n 0, 1) := by decide +kernel
theorem dX10_learnSoon_57 : decode cX10_learnSoon 57 = .ok (.aload_n 1, 1) := by decide +kernel
theorem dX10_learnSoon_58 : decode cX10_learnSoon 58 = .ok (.iload_n 2, 1) := by decide +kernel
theorem dX10_learnSoon_59 : decode cX10_learnSoon 59 = .ok (.iload_n 3, 1) := by decide +kernel
theorem dX10_learnSoon_60 : decode cX10_learnSoon 60 = .ok (.invokevirtual 137, 3) := by decide +kernel
theorem dX10_learnSoon_63 : decode cX10_learnSoon 63 = .ok (.return_, 1) := by decide +kernel
theorem dX10_worldOf_0 : decode cX10_worldOf 0 = .ok (.iconst 0, 1) := by decide +kernel
theorem dX10_worldOf_1 : decode cX10_worldOf 1 = .ok (.istore_n 1, 1) := by decide +kernel
theorem dX10_worldOf_2 : decode cX10_worldOf 2 = .ok (.iconst 0, 1) := by decide +kernel
theorem dX10_worldOf_3 : decode cX10_worldOf 3 = .ok (.istore_n 2, 1) := by decide +kernel
theorem dX10_worldOf_4 : decode cX10_worldOf 4 = .ok (.iload_n 2, 1) := by decide +kernel
theorem dX10_worldOf_5 : decode cX10_worldOf 5 = .ok (.aload_n 0, 1) := by decide +kernel
theorem dX10_worldOf_6 : decode cX10_worldOf 6 = .ok (.getfield 52, 3) := by decide +kernel
theorem dX10_worldOf_9 : decode cX10_worldOf 9 = .ok (.if_icmp .ge 22, 3) := by decide +kernel
theorem dX10_worldOf_12 : decode cX10_worldOf 12 = .ok (.iload_n 1, 1) := by decide +kernel
theorem dX10_worldOf_13 : decode cX10_worldOf 13 = .ok (.aload_n 0, 1) := by decide +kernel
theorem dX10_worldOf_14 : decode cX10_worldOf 14 = .ok (.getfield 141, 3) := by decide +kernel
theorem dX10_worldOf_17 : decode cX10_worldOf 17 = .ok (.iload_n 2, 1) := by decide +kernel
theorem dX10_worldOf_18 : decode cX10_worldOf 18 = .ok (.iaload, 1) := by decide +kernel
theorem dX10_worldOf_19 : decode cX10_worldOf 19 = .ok (.iconst 3, 1) := by decide +kernel
theorem dX10_worldOf_20 : decode cX10_worldOf 20 = .ok (.iload_n 2, 1) := by decide +kernel
theorem dX10_worldOf_21 : decode cX10_worldOf 21 = .ok (.imul, 1) := by decide +kernel
theorem dX10_worldOf_22 : decode cX10_worldOf 22 = .ok (.ishl, 1) := by decide +kernel
theorem dX10_worldOf_23 : decode cX10_worldOf 23 = .ok (.ior, 1) := by decide +kernel
theorem dX10_worldOf_24 : decode cX10_worldOf 24 = .ok (.istore_n 1, 1) := by decide +kernel
theorem dX10_worldOf_25 : decode cX10_worldOf 25 = .ok (.iinc 2 1, 3) := by decide +kernel
theorem dX10_worldOf_28 : decode cX10_worldOf 28 = .ok (.goto (-24), 3) := by decide +kernel
theorem dX10_worldOf_31 : decode cX10_worldOf 31 = .ok (.iload_n 1, 1) := by decide +kernel
theorem dX10_worldOf_32 : decode cX10_worldOf 32 = .ok (.ireturn, 1) := by decide +kernel
theorem dX10_gatherTrue_0 : decode cX10_gatherTrue 0 = .ok (.iconst 0, 1) := by decide +kernel
theorem dX10_gatherTrue_1 : decode cX10_gatherTrue 1 = .ok (.istore_n 2, 1) := by decide +kernel
theorem dX10_gatherTrue_2 : decode cX10_gatherTrue 2 = .ok (.iload_n 2, 1) := by decide +kernel
theorem dX10_gatherTrue_3 : decode cX10_gatherTrue 3 = .ok (.aload_n 0, 1) := by decide +kernel
theorem dX10_gatherTrue_4 : decode cX10_gatherTrue 4 = .ok (.getfield 31, 3) := by decide +kernel
theorem dX10_gatherTrue_7 : decode cX10_gatherTrue 7 = .ok (.if_icmp .ge 20, 3) := by decide +kernel
theorem dX10_gatherTrue_10 : decode cX10_gatherTrue 10 = .ok (.aload_n 0, 1) := by decide +kernel
theorem dX10_gatherTrue_11 : decode cX10_gatherTrue 11 = .ok (.getfield 21, 3) := by decide +kernel
theorem dX10_gatherTrue_14 : decode cX10_gatherTrue 14 = .ok (.iload_n 2, 1) := by decide +kernel
theorem dX10_gatherTrue_15 : decode cX10_gatherTrue 15 = .ok (.aload_n 1, 1) := by decide +kernel
theorem dX10_gatherTrue_16 : decode cX10_gatherTrue 16 = .ok (.iload_n 2, 1) := by decide +kernel
theorem dX10_gatherTrue_17 : decode cX10_gatherTrue 17 = .ok (.invokevirtual 144, 3) := by decide +kernel
theorem dX10_gatherTrue_20 : decode cX10_gatherTrue 20 = .ok (.iastore, 1) := by decide +kernel
theorem dX10_gatherTrue_21 : decode cX10_gatherTrue 21 = .ok (.iinc 2 1, 3) := by decide +kernel
theorem dX10_gatherTrue_24 : decode cX10_gatherTrue 24 = .ok (.goto (-22), 3) := by decide +kernel
theorem dX10_gatherTrue_27 : decode cX10_gatherTrue 27 = .ok (.iconst 0, 1) := by decide +kernel
theorem dX10_gatherTrue_28 : decode cX10_gatherTrue 28 = .ok (.istore_n 2, 1) := by decide +kernel
theorem dX10_gatherTrue_29 : decode cX10_gatherTrue 29 = .ok (.iconst 0, 1) := by decide +kernel
theorem dX10_gatherTrue_30 : decode cX10_gatherTrue 30 = .ok (.istore_n 3, 1) := by decide +kernel
theorem dX10_gatherTrue_31 : decode cX10_gatherTrue 31 = .ok (.iload_n 3, 1) := by decide +kernel
theorem dX10_gatherTrue_32 : decode cX10_gatherTrue 32 = .ok (.aload_n 0, 1) := by decide +kernel
theorem dX10_gatherTrue_33 : decode cX10_gatherTrue 33 = .ok (.getfield 55, 3) := by decide +kernel
theorem dX10_gatherTrue_36 : decode cX10_gatherTrue 36 = .ok (.if_icmp .ge 27, 3) := by decide +kernel
theorem dX10_gatherTrue_39 : decode cX10_gatherTrue 39 = .ok (.aload_n 0, 1) := by decide +kernel
theorem dX10_gatherTrue_40 : decode cX10_gatherTrue 40 = .ok (.iload_n 3, 1) := by decide +kernel
theorem dX10_gatherTrue_41 : decode cX10_gatherTrue 41 = .ok (.invokevirtual 96, 3) := by decide +kernel
theorem dX10_gatherTrue_44 : decode cX10_gatherTrue 44 = .ok (.ifCond .eq 13, 3) := by decide +kernel
theorem dX10_gatherTrue_47 : decode cX10_gatherTrue 47 = .ok (.aload_n 0, 1) := by decide +kernel
theorem dX10_gatherTrue_48 : decode cX10_gatherTrue 48 = .ok (.getfield 24, 3) := by decide +kernel
theorem dX10_gatherTrue_51 : decode cX10_gatherTrue 51 = .ok (.iload_n 2, 1) := by decide +kernel
theorem dX10_gatherTrue_52 : decode cX10_gatherTrue 52 = .ok (.iload_n 3, 1) := by decide +kernel
theorem dX10_gatherTrue_53 : decode cX10_gatherTrue 53 = .ok (.iastore, 1) := by decide +kernel
theorem dX10_gatherTrue_54 : decode cX10_gatherTrue 54 = .ok (.iinc 2 1, 3) := by decide +kernel
theorem dX10_gatherTrue_57 : decode cX10_gatherTrue 57 = .ok (.iinc 3 1, 3) := by decide +kernel
theorem dX10_gatherTrue_60 : decode cX10_gatherTrue 60 = .ok (.goto (-29), 3) := by decide +kernel
theorem dX10_gatherTrue_63 : decode cX10_gatherTrue 63 = .ok (.iload_n 2, 1) := by decide +kernel
theorem dX10_gatherTrue_64 : decode cX10_gatherTrue 64 = .ok (.ireturn, 1) := by decide +kernel
theorem dX10_findOneDay_0 : decode cX10_findOneDay 0 = .ok (.iconst 0, 1) := by decide +kernel
theorem dX10_findOneDay_1 : decode cX10_findOneDay 1 = .ok (.istore 4, 2) := by decide +kernel
theorem dX10_findOneDay_3 : decode cX10_findOneDay 3 = .ok (.iload 4, 2) := by decide +kernel
theorem dX10_findOneDay_5 : decode cX10_findOneDay 5 = .ok (.aload_n 1, 1) := by decide +kernel
theorem dX10_findOneDay_6 : decode cX10_findOneDay 6 = .ok (.invokevirtual 147, 3) := by decide +kernel
theorem dX10_findOneDay_9 : decode cX10_findOneDay 9 = .ok (.if_icmp .gt 55, 3) := by decide +kernel
theorem dX10_findOneDay_12 : decode cX10_findOneDay 12 = .ok (.aload_n 1, 1) := by decide +kernel
theorem dX10_findOneDay_13 : decode cX10_findOneDay 13 = .ok (.getfield 151, 3) := by decide +kernel
theorem dX10_findOneDay_16 : decode cX10_findOneDay 16 = .ok (.aload_n 0, 1) := by decide +kernel
theorem dX10_findOneDay_17 : decode cX10_findOneDay 17 = .ok (.getfield 31, 3) := by decide +kernel
theorem dX10_findOneDay_20 : decode cX10_findOneDay 20 = .ok (.iload 4, 2) := by decide +kernel
theorem dX10_findOneDay_22 : decode cX10_findOneDay 22 = .ok (.iastore, 1) := by decide +kernel
theorem dX10_findOneDay_23 : decode cX10_findOneDay 23 = .ok (.aload_n 0, 1) := by decide +kernel
theorem dX10_findOneDay_24 : decode cX10_findOneDay 24 = .ok (.aload_n 1, 1) := by decide +kernel
theorem dX10_findOneDay_25 : decode cX10_findOneDay 25 = .ok (.aload_n 0, 1) := by decide +kernel
theorem dX10_findOneDay_26 : decode cX10_findOneDay 26 = .ok (.getfield 31, 3) := by decide +kernel
theorem dX10_findOneDay_29 : decode cX10_findOneDay 29 = .ok (.invokevirtual 58, 3) := by decide +kernel
theorem dX10_findOneDay_32 : decode cX10_findOneDay 32 = .ok (.aload_n 0, 1) := by decide +kernel
theorem dX10_findOneDay_33 : decode cX10_findOneDay 33 = .ok (.iload_n 3, 1) := by decide +kernel
theorem dX10_findOneDay_34 : decode cX10_findOneDay 34 = .ok (.iload_n 2, 1) := by decide +kernel
theorem dX10_findOneDay_35 : decode cX10_findOneDay 35 = .ok (.aload_n 0, 1) := by decide +kernel
theorem dX10_findOneDay_36 : decode cX10_findOneDay 36 = .ok (.getfield 31, 3) := by decide +kernel
theorem dX10_findOneDay_39 : decode cX10_findOneDay 39 = .ok (.invokevirtual 154, 3) := by decide +kernel
theorem dX10_findOneDay_42 : decode cX10_findOneDay 42 = .ok (.ifCond .eq 16, 3) := by decide +kernel
theorem dX10_findOneDay_45 : decode cX10_findOneDay 45 = .ok (.aload_n 0, 1) := by decide +kernel
theorem dX10_findOneDay_46 : decode cX10_findOneDay 46 = .ok (.iconst 1, 1) := by decide +kernel
theorem dX10_findOneDay_47 : decode cX10_findOneDay 47 = .ok (.putfield 117, 3) := by decide +kernel
theorem dX10_findOneDay_50 : decode cX10_findOneDay 50 = .ok (.aload_n 0, 1) := by decide +kernel
theorem dX10_findOneDay_51 : decode cX10_findOneDay 51 = .ok (.iload 4, 2) := by decide +kernel
theorem dX10_findOneDay_53 : decode cX10_findOneDay 53 = .ok (.putfield 120, 3) := by decide +kernel
theorem dX10_findOneDay_56 : decode cX10_findOneDay 56 = .ok (.iconst 1, 1) := by decide +kernel
theorem dX10_findOneDay_57 : decode cX10_findOneDay 57 = .ok (.ireturn, 1) := by decide +kernel
theorem dX10_findOneDay_58 : decode cX10_findOneDay 58 = .ok (.iinc 4 1, 3) := by decide +kernel
theorem dX10_findOneDay_61 : decode cX10_findOneDay 61 = .ok (.goto (-58), 3) := by decide +kernel
theorem dX10_findOneDay_64 : decode cX10_findOneDay 64 = .ok (.iconst 0, 1) := by decide +kernel
theorem dX10_findOneDay_65 : decode cX10_findOneDay 65 = .ok (.ireturn, 1) := by decide +kernel
theorem dX10_findTwoDays_0 : decode cX10_findTwoDays 0 = .ok (.iconst 0, 1) := by decide +kernel
theorem dX10_findTwoDays_1 : decode cX10_findTwoDays 1 = .ok (.istore 4, 2) := by decide +kernel
theorem dX10_findTwoDays_3 : decode cX10_findTwoDays 3 = .ok (.iload 4, 2) := by decide +kernel
theorem dX10_findTwoDays_5 : decode cX10_findTwoDays 5 = .ok (.aload_n 1, 1) := by decide +kernel
theorem dX10_findTwoDays_6 : decode cX10_findTwoDays 6 = .ok (.invokevirtual 147, 3) := by decide +kernel
theorem dX10_findTwoDays_9 : decode cX10_findTwoDays 9 = .ok (.if_icmp .gt 113, 3) := by decide +kernel
theorem dX10_findTwoDays_12 : decode cX10_findTwoDays 12 = .ok (.aload_n 1, 1) := by decide +kernel
theorem dX10_findTwoDays_13 : decode cX10_findTwoDays 13 = .ok (.getfield 151, 3) := by decide +kernel
theorem dX10_findTwoDays_16 : decode cX10_findTwoDays 16 = .ok (.aload_n 0, 1) := by decide +kernel
theorem dX10_findTwoDays_17 : decode cX10_findTwoDays 17 = .ok (.getfield 31, 3) := by decide +kernel
theorem dX10_findTwoDays_20 : decode cX10_findTwoDays 20 = .ok (.iload 4, 2) := by decide +kernel
theorem dX10_findTwoDays_22 : decode cX10_findTwoDays 22 = .ok (.iastore, 1) := by decide +kernel
theorem dX10_findTwoDays_23 : decode cX10_findTwoDays 23 = .ok (.aload_n 0, 1) := by decide +kernel
theorem dX10_findTwoDays_24 : decode cX10_findTwoDays 24 = .ok (.aload_n 1, 1) := by decide +kernel
theorem dX10_findTwoDays_25 : decode cX10_findTwoDays 25 = .ok (.aload_n 0, 1) := by decide +kernel
theorem dX10_findTwoDays_26 : decode cX10_findTwoDays 26 = .ok (.getfield 31, 3) := by decide +kernel
theorem dX10_findTwoDays_29 : decode cX10_findTwoDays 29 = .ok (.invokevirtual 58, 3) := by decide +kernel
theorem dX10_findTwoDays_32 : decode cX10_findTwoDays 32 = .ok (.aload_n 0, 1) := by decide +kernel
theorem dX10_findTwoDays_33 : decode cX10_findTwoDays 33 = .ok (.iload_n 3, 1) := by decide +kernel
theorem dX10_findTwoDays_34 : decode cX10_findTwoDays 34 = .ok (.iload_n 2, 1) := by decide +kernel
theorem dX10_findTwoDays_35 : decode cX10_findTwoDays 35 = .ok (.invokevirtual 158, 3) := by decide +kernel
theorem dX10_findTwoDays_38 : decode cX10_findTwoDays 38 = .ok (.istore 5, 2) := by decide +kernel
theorem dX10_findTwoDays_40 : decode cX10_findTwoDays 40 = .ok (.iconst 0, 1) := by decide +kernel
theorem dX10_findTwoDays_41 : decode cX10_findTwoDays 41 = .ok (.istore 6, 2) := by decide +kernel
theorem dX10_findTwoDays_43 : decode cX10_findTwoDays 43 = .ok (.iload 6, 2) := by decide +kernel
theorem dX10_findTwoDays_45 : decode cX10_findTwoDays 45 = .ok (.aload_n 1, 1) := by decide +kernel
theorem dX10_findTwoDays_46 : decode cX10_findTwoDays 46 = .ok (.invokevirtual 147, 3) := by decide +kernel
theorem dX10_findTwoDays_49 : decode cX10_findTwoDays 49 = .ok (.if_icmp .gt 67, 3) := by decide +kernel
theorem dX10_findTwoDays_52 : decode cX10_findTwoDays 52 = .ok (.aload_n 1, 1) := by decide +kernel
theorem dX10_findTwoDays_53 : decode cX10_findTwoDays 53 = .ok (.getfield 151, 3) := by decide +kernel
theorem dX10_findTwoDays_56 : decode cX10_findTwoDays 56 = .ok (.aload_n 0, 1) := by decide +kernel
theorem dX10_findTwoDays_57 : decode cX10_findTwoDays 57 = .ok (.getfield 31, 3) := by decide +kernel
theorem dX10_findTwoDays_60 : decode cX10_findTwoDays 60 = .ok (.iconst 1, 1) := by decide +kernel
theorem dX10_findTwoDays_61 : decode cX10_findTwoDays 61 = .ok (.iadd, 1) := by decide +kernel
theorem dX10_findTwoDays_62 : decode cX10_findTwoDays 62 = .ok (.iload 6, 2) := by decide +kernel
theorem dX10_findTwoDays_64 : decode cX10_findTwoDays 64 = .ok (.iastore, 1) := by decide +kernel
theorem dX10_findTwoDays_65 : decode cX10_findTwoDays 65 = .ok (.aload_n 0, 1) := by decide +kernel
theorem dX10_findTwoDays_66 : decode cX10_findTwoDays 66 = .ok (.aload_n 1, 1) := by decide +kernel
theorem dX10_findTwoDays_67 : decode cX10_findTwoDays 67 = .ok (.aload_n 0, 1) := by decide +kernel
theorem dX10_findTwoDays_68 : decode cX10_findTwoDays 68 = .ok (.getfield 31, 3) := by decide +kernel
theorem dX10_findTwoDays_71 : decode cX10_findTwoDays 71 = .ok (.iconst 1, 1) := by decide +kernel
theorem dX10_findTwoDays_72 : decode cX10_findTwoDays 72 = .ok (.iadd, 1) := by decide +kernel
theorem dX10_findTwoDays_73 : decode cX10_findTwoDays 73 = .ok (.invokevirtual 58, 3) := by decide +kernel
theorem dX10_findTwoDays_76 : decode cX10_findTwoDays 76 = .ok (.aload_n 0, 1) := by decide +kernel
theorem dX10_findTwoDays_77 : decode cX10_findTwoDays 77 = .ok (.iload_n 3, 1) := by decide +kernel
theorem dX10_findTwoDays_78 : decode cX10_findTwoDays 78 = .ok (.iload 5, 2) := by decide +kernel
theorem dX10_findTwoDays_80 : decode cX10_findTwoDays 80 = .ok (.aload_n 0, 1) := by decide +kernel
theorem dX10_findTwoDays_81 : decode cX10_findTwoDays 81 = .ok (.getfield 31, 3) := by decide +kernel
theorem dX10_findTwoDays_84 : decode cX10_findTwoDays 84 = .ok (.iconst 1, 1) := by decide +kernel
theorem dX10_findTwoDays_85 : decode cX10_findTwoDays 85 = .ok (.iadd, 1) := by decide +kernel
theorem dX10_findTwoDays_86 : decode cX10_findTwoDays 86 = .ok (.invokevirtual 154, 3) := by decide +kernel
theorem dX10_findTwoDays_89 : decode cX10_findTwoDays 89 = .ok (.ifCond .eq 21, 3) := by decide +kernel
theorem dX10_findTwoDays_92 : decode cX10_findTwoDays 92 = .ok (.aload_n 0, 1) := by decide +kernel
theorem dX10_findTwoDays_93 : decode cX10_findTwoDays 93 = .ok (.iconst 2, 1) := by decide +kernel
theorem dX10_findTwoDays_94 : decode cX10_findTwoDays 94 = .ok (.putfield 117, 3) := by decide +kernel
theorem dX10_findTwoDays_97 : decode cX10_findTwoDays 97 = .ok (.aload_n 0, 1) := by decide +kernel
theorem dX10_findTwoDays_98 : decode cX10_findTwoDays 98 = .ok (.iload 4, 2) := by decide +kernel
theorem dX10_findTwoDays_100 : decode cX10_findTwoDays 100 = .ok (.putfield 120, 3) := by decide +kernel
theorem dX10_findTwoDays_103 : decode cX10_findTwoDays 103 = .ok (.aload_n 0, 1) := by decide +kernel
theorem dX10_findTwoDays_104 : decode cX10_findTwoDays 104 = .ok (.iload 6, 2) := by decide +kernel
theorem dX10_findTwoDays_106 : decode cX10_findTwoDays 106 = .ok (.putfield 123, 3) := by decide +kernel
theorem dX10_findTwoDays_109 : decode cX10_findTwoDays 109 = .ok (.return_, 1) := by decide +kernel
theorem dX10_findTwoDays_110 : decode cX10_findTwoDays 110 = .ok (.iinc 6 1, 3) := by decide +kernel
theorem dX10_findTwoDays_113 : decode cX10_findTwoDays 113 = .ok (.goto (-70), 3) := by decide +kernel
theorem dX10_findTwoDays_116 : decode cX10_findTwoDays 116 = .ok (.iinc 4 1, 3) := by decide +kernel
theorem dX10_findTwoDays_119 : decode cX10_findTwoDays 119 = .ok (.goto (-116), 3) := by decide +kernel
theorem dX10_findTwoDays_122 : decode cX10_findTwoDays 122 = .ok (.return_, 1) := by decide +kernel
theorem dX10_isAlone_0 : decode cX10_isAlone 0 = .ok (.aload_n 0, 1) := by decide +kernel
theorem dX10_isAlone_1 : decode cX10_isAlone 1 = .ok (.iload_n 1, 1) := by decide +kernel
theorem dX10_isAlone_2 : decode cX10_isAlone 2 = .ok (.iload_n 3, 1) := by decide +kernel
theorem dX10_isAlone_3 : decode cX10_isAlone 3 = .ok (.invokevirtual 93, 3) := by decide +kernel
theorem dX10_isAlone_6 : decode cX10_isAlone 6 = .ok (.istore 4, 2) := by decide +kernel
theorem dX10_isAlone_8 : decode cX10_isAlone 8 = .ok (.iconst 0, 1) := by decide +kernel
theorem dX10_isAlone_9 : decode cX10_isAlone 9 = .ok (.istore 5, 2) := by decide +kernel
theorem dX10_isAlone_11 : decode cX10_isAlone 11 = .ok (.iload 5, 2) := by decide +kernel
theorem dX10_isAlone_13 : decode cX10_isAlone 13 = .ok (.iload_n 2, 1) := by decide +kernel
theorem dX10_isAlone_14 : decode cX10_isAlone 14 = .ok (.if_icmp .ge 39, 3) := by decide +kernel
theorem dX10_isAlone_17 : decode cX10_isAlone 17 = .ok (.aload_n 0, 1) := by decide +kernel
theorem dX10_isAlone_18 : decode cX10_isAlone 18 = .ok (.getfield 24, 3) := by decide +kernel
theorem dX10_isAlone_21 : decode cX10_isAlone 21 = .ok (.iload 5, 2) := by decide +kernel
theorem dX10_isAlone_23 : decode cX10_isAlone 23 = .ok (.iaload, 1) := by decide +kernel
theorem dX10_isAlone_24 : decode cX10_isAlone 24 = .ok (.iload_n 1, 1) := by decide +kernel
theorem dX10_isAlone_25 : decode cX10_isAlone 25 = .ok (.if_icmp .eq 22, 3) := by decide +kernel
theorem dX10_isAlone_28 : decode cX10_isAlone 28 = .ok (.aload_n 0, 1) := by decide +kernel
theorem dX10_isAlone_29 : decode cX10_isAlone 29 = .ok (.aload_n 0, 1) := by decide +kernel
theorem dX10_isAlone_30 : decode cX10_isAlone 30 = .ok (.getfield 24, 3) := by decide +kernel
theorem dX10_isAlone_33 : decode cX10_isAlone 33 = .ok (.iload 5, 2) := by decide +kernel
theorem dX10_isAlone_35 : decode cX10_isAlone 35 = .ok (.iaload, 1) := by decide +kernel
theorem dX10_isAlone_36 : decode cX10_isAlone 36 = .ok (.iload_n 3, 1) := by decide +kernel
theorem dX10_isAlone_37 : decode cX10_isAlone 37 = .ok (.invokevirtual 93, 3) := by decide +kernel
theorem dX10_isAlone_40 : decode cX10_isAlone 40 = .ok (.iload 4, 2) := by decide +kernel
theorem dX10_isAlone_42 : decode cX10_isAlone 42 = .ok (.if_icmp .ne 5, 3) := by decide +kernel
theorem dX10_isAlone_45 : decode cX10_isAlone 45 = .ok (.iconst 0, 1) := by decide +kernel
theorem dX10_isAlone_46 : decode cX10_isAlone 46 = .ok (.ireturn, 1) := by decide +kernel
theorem dX10_isAlone_47 : decode cX10_isAlone 47 = .ok (.iinc 5 1, 3) := by decide +kernel
theorem dX10_isAlone_50 : decode cX10_isAlone 50 = .ok (.goto (-39), 3) := by decide +kernel
theorem dX10_isAlone_53 : decode cX10_isAlone 53 = .ok (.iconst 1, 1) := by decide +kernel
theorem dX10_isAlone_54 : decode cX10_isAlone 54 = .ok (.ireturn, 1) := by decide +kernel
theorem dX10_bringForward_0 : decode cX10_bringForward 0 = .ok (.aload_n 0, 1) := by decide +kernel
theorem dX10_bringForward_1 : decode cX10_bringForward 1 = .ok (.iload_n 1, 1) := by decide +kernel
theorem dX10_bringForward_2 : decode cX10_bringForward 2 = .ok (.aload_n 0, 1) := by decide +kernel
theorem dX10_bringForward_3 : decode cX10_bringForward 3 = .ok (.getfield 31, 3) := by decide +kernel
theorem dX10_bringForward_6 : decode cX10_bringForward 6 = .ok (.invokevirtual 93, 3) := by decide +kernel
theorem dX10_bringForward_9 : decode cX10_bringForward 9 = .ok (.istore_n 3, 1) := by decide +kernel
theorem dX10_bringForward_10 : decode cX10_bringForward 10 = .ok (.iconst 0, 1) := by decide +kernel
theorem dX10_bringForward_11 : decode cX10_bringForward 11 = .ok (.istore 4, 2) := by decide +kernel
theorem dX10_bringForward_13 : decode cX10_bringForward 13 = .ok (.iconst 0, 1) := by decide +kernel
theorem dX10_bringForward_14 : decode cX10_bringForward 14 = .ok (.istore 5, 2) := by decide +kernel
theorem dX10_bringForward_16 : decode cX10_bringForward 16 = .ok (.iload 5, 2) := by decide +kernel
theorem dX10_bringForward_18 : decode cX10_bringForward 18 = .ok (.iload_n 2, 1) := by decide +kernel
theorem dX10_bringForward_19 : decode cX10_bringForward 19 = .ok (.if_icmp .ge 58, 3) := by decide +kernel
theorem dX10_bringForward_22 : decode cX10_bringForward 22 = .ok (.aload_n 0, 1) := by decide +kernel
theorem dX10_bringForward_23 : decode cX10_bringForward 23 = .ok (.getfield 24, 3) := by decide +kernel
theorem dX10_bringForward_26 : decode cX10_bringForward 26 = .ok (.iload 5, 2) := by decide +kernel
theorem dX10_bringForward_28 : decode cX10_bringForward 28 = .ok (.iaload, 1) := by decide +kernel
theorem dX10_bringForward_29 : decode cX10_bringForward 29 = .ok (.istore 6, 2) := by decide +kernel
theorem dX10_bringForward_31 : decode cX10_bringForward 31 = .ok (.aload_n 0, 1) := by decide +kernel
theorem dX10_bringForward_32 : decode cX10_bringForward 32 = .ok (.iload 6, 2) := by decide +kernel
theorem dX10_bringForward_34 : decode cX10_bringForward 34 = .ok (.aload_n 0, 1) := by decide +kernel
theorem dX10_bringForward_35 : decode cX10_bringForward 35 = .ok (.getfield 31, 3) := by decide +kernel
theorem dX10_bringForward_38 : decode cX10_bringForward 38 = .ok (.invokevirtual 93, 3) := by decide +kernel
theorem dX10_bringForward_41 : decode cX10_bringForward 41 = .ok (.iload_n 3, 1) := by decide +kernel
theorem dX10_bringForward_42 : decode cX10_bringForward 42 = .ok (.if_icmp .ne 29, 3) := by decide +kernel
theorem dX10_bringForward_45 : decode cX10_bringForward 45 = .ok (.aload_n 0, 1) := by decide +kernel
theorem dX10_bringForward_46 : decode cX10_bringForward 46 = .ok (.getfield 24, 3) := by decide +kernel
theorem dX10_bringForward_49 : decode cX10_bringForward 49 = .ok (.iload 5, 2) := by decide +kernel
theorem dX10_bringForward_51 : decode cX10_bringForward 51 = .ok (.aload_n 0, 1) := by decide +kernel
theorem dX10_bringForward_52 : decode cX10_bringForward 52 = .ok (.getfield 24, 3) := by decide +kernel
theorem dX10_bringForward_55 : decode cX10_bringForward 55 = .ok (.iload 4, 2) := by decide +kernel
theorem dX10_bringForward_57 : decode cX10_bringForward 57 = .ok (.iaload, 1) := by decide +kernel
theorem dX10_bringForward_58 : decode cX10_bringForward 58 = .ok (.iastore, 1) := by decide +kernel
theorem dX10_bringForward_59 : decode cX10_bringForward 59 = .ok (.aload_n 0, 1) := by decide +kernel
theorem dX10_bringForward_60 : decode cX10_bringForward 60 = .ok (.getfield 24, 3) := by decide +kernel
theorem dX10_bringForward_63 : decode cX10_bringForward 63 = .ok (.iload 4, 2) := by decide +kernel
theorem dX10_bringForward_65 : decode cX10_bringForward 65 = .ok (.iload 6, 2) := by decide +kernel
theorem dX10_bringForward_67 : decode cX10_bringForward 67 = .ok (.iastore, 1) := by decide +kernel
theorem dX10_bringForward_68 : decode cX10_bringForward 68 = .ok (.iinc 4 1, 3) := by decide +kernel
theorem dX10_bringForward_71 : decode cX10_bringForward 71 = .ok (.iinc 5 1, 3) := by decide +kernel
theorem dX10_bringForward_74 : decode cX10_bringForward 74 = .ok (.goto (-58), 3) := by decide +kernel
theorem dX10_bringForward_77 : decode cX10_bringForward 77 = .ok (.iload 4, 2) := by decide +kernel
theorem dX10_bringForward_79 : decode cX10_bringForward 79 = .ok (.ireturn, 1) := by decide +kernel
theorem dX6_init_0 : decode cX6_init 0 = .ok (.aload_n 0, 1) := by decide +kernel
theorem dX6_init_1 : decode cX6_init 1 = .ok (.invokespecial 3, 3) := by decide +kernel
theorem dX6_init_4 : decode cX6_init 4 = .ok (.aload_n 0, 1) := by decide +kernel
theorem dX6_init_5 : decode cX6_init 5 = .ok (.sipush 400, 3) := by decide +kernel
theorem dX6_init_8 : decode cX6_init 8 = .ok (.newarray .byte, 2) := by decide +kernel
theorem dX6_init_10 : decode cX6_init 10 = .ok (.putfield 11, 3) := by decide +kernel
theorem dX6_init_13 : decode cX6_init 13 = .ok (.return_, 1) := by decide +kernel
theorem dX6_hasRoom_0 : decode cX6_hasRoom 0 = .ok (.iload_n 1, 1) := by decide +kernel
theorem dX6_hasRoom_1 : decode cX6_hasRoom 1 = .ok (.sipush 400, 3) := by decide +kernel
theorem dX6_hasRoom_4 : decode cX6_hasRoom 4 = .ok (.aload_n 0, 1) := by decide +kernel
theorem dX6_hasRoom_5 : decode cX6_hasRoom 5 = .ok (.getfield 15, 3) := by decide +kernel
theorem dX6_hasRoom_8 : decode cX6_hasRoom 8 = .ok (.isub, 1) := by decide +kernel
theorem dX6_hasRoom_9 : decode cX6_hasRoom 9 = .ok (.if_icmp .gt 7, 3) := by decide +kernel
theorem dX6_hasRoom_12 : decode cX6_hasRoom 12 = .ok (.iconst 1, 1) := by decide +kernel
theorem dX6_hasRoom_13 : decode cX6_hasRoom 13 = .ok (.goto 4, 3) := by decide +kernel
theorem dX6_hasRoom_16 : decode cX6_hasRoom 16 = .ok (.iconst 0, 1) := by decide +kernel
theorem dX6_hasRoom_17 : decode cX6_hasRoom 17 = .ok (.ireturn, 1) := by decide +kernel
theorem dX6_append_0 : decode cX6_append 0 = .ok (.iload_n 3, 1) := by decide +kernel
theorem dX6_append_1 : decode cX6_append 1 = .ok (.iconst 1, 1) := by decide +kernel
theorem dX6_append_2 : decode cX6_append 2 = .ok (.isub, 1) := by decide +kernel
theorem dX6_append_3 : decode cX6_append 3 = .ok (.istore 4, 2) := by decide +kernel
theorem dX6_append_5 : decode cX6_append 5 = .ok (.iload 4, 2) := by decide +kernel
theorem dX6_append_7 : decode cX6_append 7 = .ok (.ifCond .lt 47, 3) := by decide +kernel
theorem dX6_append_10 : decode cX6_append 10 = .ok (.aload_n 0, 1) := by decide +kernel
theorem dX6_append_11 : decode cX6_append 11 = .ok (.getfield 15, 3) := by decide +kernel
theorem dX6_append_14 : decode cX6_append 14 = .ok (.sipush 400, 3) := by decide +kernel
theorem dX6_append_17 : decode cX6_append 17 = .ok (.if_icmp .ge 37, 3) := by decide +kernel
theorem dX6_append_20 : decode cX6_append 20 = .ok (.aload_n 0, 1) := by decide +kernel
theorem dX6_append_21 : decode cX6_append 21 = .ok (.getfield 11, 3) := by decide +kernel
theorem dX6_append_24 : decode cX6_append 24 = .ok (.aload_n 0, 1) := by decide +kernel
theorem dX6_append_25 : decode cX6_append 25 = .ok (.getfield 15, 3) := by decide +kernel
theorem dX6_append_28 : decode cX6_append 28 = .ok (.lload_n 1, 1) := by decide +kernel
theorem dX6_append_29 : decode cX6_append 29 = .ok (.bipush 8, 2) := by decide +kernel
theorem dX6_append_31 : decode cX6_append 31 = .ok (.iload 4, 2) := by decide +kernel
theorem dX6_append_33 : decode cX6_append 33 = .ok (.imul, 1) := by decide +kernel
theorem dX6_append_34 : decode cX6_append 34 = .ok (.lshr, 1) := by decide +kernel
theorem dX6_append_35 : decode cX6_append 35 = .ok (.l2i, 1) := by decide +kernel
theorem dX6_append_36 : decode cX6_append 36 = .ok (.i2b, 1) := by decide +kernel
theorem dX6_append_37 : decode cX6_append 37 = .ok (.bastore, 1) := by decide +kernel
theorem dX6_append_38 : decode cX6_append 38 = .ok (.aload_n 0, 1) := by decide +kernel
theorem dX6_append_39 : decode cX6_append 39 = .ok (.dup, 1) := by decide +kernel
theorem dX6_append_40 : decode cX6_append 40 = .ok (.getfield 15, 3) := by decide +kernel
theorem dX6_append_43 : decode cX6_append 43 = .ok (.iconst 1, 1) := by decide +kernel
theorem dX6_append_44 : decode cX6_append 44 = .ok (.iadd, 1) := by decide +kernel
theorem dX6_append_45 : decode cX6_append 45 = .ok (.putfield 15, 3) := by decide +kernel
theorem dX6_append_48 : decode cX6_append 48 = .ok (.iinc 4 (-1), 3) := by decide +kernel
theorem dX6_append_51 : decode cX6_append 51 = .ok (.goto (-46), 3) := by decide +kernel
theorem dX6_append_54 : decode cX6_append 54 = .ok (.aload_n 0, 1) := by decide +kernel
theorem dX6_append_55 : decode cX6_append 55 = .ok (.getfield 15, 3) := by decide +kernel
theorem dX6_append_58 : decode cX6_append 58 = .ok (.ireturn, 1) := by decide +kernel
theorem dX6_readInto_0 : decode cX6_readInto 0 = .ok (.aload_n 1, 1) := by decide +kernel
theorem dX6_readInto_1 : decode cX6_readInto 1 = .ok (.invokevirtual 19, 3) := by decide +kernel
theorem dX6_readInto_4 : decode cX6_readInto 4 = .ok (.aload_n 0, 1) := by decide +kernel
theorem dX6_readInto_5 : decode cX6_readInto 5 = .ok (.iconst 0, 1) := by decide +kernel
theorem dX6_readInto_6 : decode cX6_readInto 6 = .ok (.putfield 24, 3) := by decide +kernel
theorem dX6_readInto_9 : decode cX6_readInto 9 = .ok (.aload_n 0, 1) := by decide +kernel
theorem dX6_readInto_10 : decode cX6_readInto 10 = .ok (.invokevirtual 27, 3) := by decide +kernel
theorem dX6_readInto_13 : decode cX6_readInto 13 = .ok (.aload_n 0, 1) := by decide +kernel
theorem dX6_readInto_14 : decode cX6_readInto 14 = .ok (.aload_n 1, 1) := by decide +kernel
theorem dX6_readInto_15 : decode cX6_readInto 15 = .ok (.invokevirtual 30, 3) := by decide +kernel
theorem dX6_readInto_18 : decode cX6_readInto 18 = .ok (.ifCond .eq 30, 3) := by decide +kernel
theorem dX6_readInto_21 : decode cX6_readInto 21 = .ok (.aload_n 0, 1) := by decide +kernel
theorem dX6_readInto_22 : decode cX6_readInto 22 = .ok (.aload_n 1, 1) := by decide +kernel
theorem dX6_readInto_23 : decode cX6_readInto 23 = .ok (.invokevirtual 34, 3) := by decide +kernel
theorem dX6_readInto_26 : decode cX6_readInto 26 = .ok (.ifCond .eq 22, 3) := by decide +kernel
theorem dX6_readInto_29 : decode cX6_readInto 29 = .ok (.aload_n 0, 1) := by decide +kernel
theorem dX6_readInto_30 : decode cX6_readInto 30 = .ok (.aload_n 1, 1) := by decide +kernel
theorem dX6_readInto_31 : decode cX6_readInto 31 = .ok (.invokevirtual 37, 3) := by decide +kernel
theorem dX6_readInto_34 : decode cX6_readInto 34 = .ok (.ifCond .eq 14, 3) := by decide +kernel
theorem dX6_readInto_37 : decode cX6_readInto 37 = .ok (.aload_n 0, 1) := by decide +kernel
theorem dX6_readInto_38 : decode cX6_readInto 38 = .ok (.invokevirtual 40, 3) := by decide +kernel
theorem dX6_readInto_41 : decode cX6_readInto 41 = .ok (.ifCond .eq 7, 3) := by decide +kernel
theorem dX6_readInto_44 : decode cX6_readInto 44 = .ok (.iconst 1, 1) := by decide +kernel
theorem dX6_readInto_45 : decode cX6_readInto 45 = .ok (.goto 4, 3) := by decide +kernel
theorem dX6_readInto_48 : decode cX6_readInto 48 = .ok (.iconst 0, 1) := by decide +kernel
theorem dX6_readInto_49 : decode cX6_readInto 49 = .ok (.istore_n 2, 1) := by decide +kernel
theorem dX6_readInto_50 : decode cX6_readInto 50 = .ok (.aload_n 1, 1) := by decide +kernel
theorem dX6_readInto_51 : decode cX6_readInto 51 = .ok (.iload_n 2, 1) := by decide +kernel
theorem dX6_readInto_52 : decode cX6_readInto 52 = .ok (.putfield 44, 3) := by decide +kernel
theorem dX6_readInto_55 : decode cX6_readInto 55 = .ok (.aload_n 0, 1) := by decide +kernel
theorem dX6_readInto_56 : decode cX6_readInto 56 = .ok (.iconst 0, 1) := by decide +kernel
theorem dX6_readInto_57 : decode cX6_readInto 57 = .ok (.putfield 15, 3) := by decide +kernel
theorem dX6_readInto_60 : decode cX6_readInto 60 = .ok (.iload_n 2, 1) := by decide +kernel
theorem dX6_readInto_61 : decode cX6_readInto 61 = .ok (.ireturn, 1) := by decide +kernel
theorem dX6_readLaw_0 : decode cX6_readLaw 0 = .ok (.aload_n 0, 1) := by decide +kernel
theorem dX6_readLaw_1 : decode cX6_readLaw 1 = .ok (.ldc 48, 2) := by decide +kernel
theorem dX6_readLaw_3 : decode cX6_readLaw 3 = .ok (.invokevirtual 50, 3) := by decide +kernel
theorem dX6_readLaw_6 : decode cX6_readLaw 6 = .ok (.ifCond .eq 12, 3) := by decide +kernel
theorem dX6_readLaw_9 : decode cX6_readLaw 9 = .ok (.aload_n 0, 1) := by decide +kernel
theorem dX6_readLaw_10 : decode cX6_readLaw 10 = .ok (.iconst 0, 1) := by decide +kernel
theorem dX6_readLaw_11 : decode cX6_readLaw 11 = .ok (.iconst 3, 1) := by decide +kernel
theorem dX6_readLaw_12 : decode cX6_readLaw 12 = .ok (.invokevirtual 54, 3) := by decide +kernel
theorem dX6_readLaw_15 : decode cX6_readLaw 15 = .ok (.ifCond .ne 5, 3) := by decide +kernel
theorem dX6_readLaw_18 : decode cX6_readLaw 18 = .ok (.iconst 0, 1) := by decide +kernel
theorem dX6_readLaw_19 : decode cX6_readLaw 19 = .ok (.ireturn, 1) := by decide +kernel
theorem dX6_readLaw_20 : decode cX6_readLaw 20 = .ok (.aload_n 1, 1) := by decide +kernel
theorem dX6_readLaw_21 : decode cX6_readLaw 21 = .ok (.aload_n 0, 1) := by decide +kernel
theorem dX6_readLaw_22 : decode cX6_readLaw 22 = .ok (.getfield 58, 3) := by decide +kernel
theorem dX6_readLaw_25 : decode cX6_readLaw 25 = .ok (.putfield 61, 3) := by decide +kernel
theorem dX6_readLaw_28 : decode cX6_readLaw 28 = .ok (.aload_n 0, 1) := by decide +kernel
theorem dX6_readLaw_29 : decode cX6_readLaw 29 = .ok (.iconst 0, 1) := by decide +kernel
theorem dX6_readLaw_30 : decode cX6_readLaw 30 = .ok (.iconst 1, 1) := by decide +kernel
theorem dX6_readLaw_31 : decode cX6_readLaw 31 = .ok (.invokevirtual 54, 3) := by decide +kernel
theorem dX6_readLaw_34 : decode cX6_readLaw 34 = .ok (.ifCond .ne 5, 3) := by decide +kernel
theorem dX6_readLaw_37 : decode cX6_readLaw 37 = .ok (.iconst 0, 1) := by decide +kernel
theorem dX6_readLaw_38 : decode cX6_readLaw 38 = .ok (.ireturn, 1) := by decide +kernel
theorem dX6_readLaw_39 : decode cX6_readLaw 39 = .ok (.aload_n 1, 1) := by decide +kernel
theorem dX6_readLaw_40 : decode cX6_readLaw 40 = .ok (.aload_n 0, 1) := by decide +kernel
theorem dX6_readLaw_41 : decode cX6_readLaw 41 = .ok (.getfield 58, 3) := by decide +kernel
theorem dX6_readLaw_44 : decode cX6_readLaw 44 = .ok (.putfield 64, 3) := by decide +kernel
theorem dX6_readLaw_47 : decode cX6_readLaw 47 = .ok (.aload_n 0, 1) := by decide +kernel
theorem dX6_readLaw_48 : decode cX6_readLaw 48 = .ok (.iconst 2, 1) := by decide +kernel
theorem dX6_readLaw_49 : decode cX6_readLaw 49 = .ok (.sipush 200, 3) := by decide +kernel
theorem dX6_readLaw_52 : decode cX6_readLaw 52 = .ok (.invokevirtual 54, 3) := by decide +kernel
theorem dX6_readLaw_55 : decode cX6_readLaw 55 = .ok (.ifCond .ne 5, 3) := by decide +kernel
theorem dX6_readLaw_58 : decode cX6_readLaw 58 = .ok (.iconst 0, 1) := by decide +kernel
theorem dX6_readLaw_59 : decode cX6_readLaw 59 = .ok (.ireturn, 1) := by decide +kernel
theorem dX6_readLaw_60 : decode cX6_readLaw 60 = .ok (.aload_n 1, 1) := by decide +kernel
theorem dX6_readLaw_61 : decode cX6_readLaw 61 = .ok (.aload_n 0, 1) := by decide +kernel
theorem dX6_readLaw_62 : decode cX6_readLaw 62 = .ok (.getfield 58, 3) := by decide +kernel
theorem dX6_readLaw_65 : decode cX6_readLaw 65 = .ok (.putfield 67, 3) := by decide +kernel
theorem dX6_readLaw_68 : decode cX6_readLaw 68 = .ok (.aload_n 0, 1) := by decide +kernel
theorem dX6_readLaw_69 : decode cX6_readLaw 69 = .ok (.invokevirtual 70, 3) := by decide +kernel
theorem dX6_readLaw_72 : decode cX6_readLaw 72 = .ok (.ireturn, 1) := by decide +kernel
theorem dX6_readThings_0 : decode cX6_readThings 0 = .ok (.iconst 0, 1) := by decide +kernel
theorem dX6_readThings_1 : decode cX6_readThings 1 = .ok (.istore_n 2, 1) := by decide +kernel
theorem dX6_readThings_2 : decode cX6_readThings 2 = .ok (.iload_n 2, 1) := by decide +kernel
theorem dX6_readThings_3 : decode cX6_readThings 3 = .ok (.iconst 4, 1) := by decide +kernel
theorem dX6_readThings_4 : decode cX6_readThings 4 = .ok (.if_icmp .gt 43, 3) := by decide +kernel
theorem dX6_readThings_7 : decode cX6_readThings 7 = .ok (.aload_n 0, 1) := by decide +kernel
theorem dX6_readThings_8 : decode cX6_readThings 8 = .ok (.ldc 73, 2) := by decide +kernel
theorem dX6_readThings_10 : decode cX6_readThings 10 = .ok (.invokevirtual 75, 3) := by decide +kernel
theorem dX6_readThings_13 : decode cX6_readThings 13 = .ok (.ifCond .eq 34, 3) := by decide +kernel
theorem dX6_readThings_16 : decode cX6_readThings 16 = .ok (.iload_n 2, 1) := by decide +kernel
theorem dX6_readThings_17 : decode cX6_readThings 17 = .ok (.iconst 4, 1) := by decide +kernel
theorem dX6_readThings_18 : decode cX6_readThings 18 = .ok (.if_icmp .ne 9, 3) := by decide +kernel
theorem dX6_readThings_21 : decode cX6_readThings 21 = .ok (.aload_n 0, 1) := by decide +kernel
theorem dX6_readThings_22 : decode cX6_readThings 22 = .ok (.iconst 3, 1) := by decide +kernel
theorem dX6_readThings_23 : decode cX6_readThings 23 = .ok (.invokevirtual 78, 3) := by decide +kernel
theorem dX6_readThings_26 : decode cX6_readThings 26 = .ok (.ireturn, 1) := by decide +kernel
theorem dX6_readThings_27 : decode cX6_readThings 27 = .ok (.aload_n 0, 1) := by decide +kernel
theorem dX6_readThings_28 : decode cX6_readThings 28 = .ok (.invokevirtual 27, 3) := by decide +kernel
theorem dX6_readThings_31 : decode cX6_readThings 31 = .ok (.aload_n 0, 1) := by decide +kernel
theorem dX6_readThings_32 : decode cX6_readThings 32 = .ok (.aload_n 1, 1) := by decide +kernel
theorem dX6_readThings_33 : decode cX6_readThings 33 = .ok (.invokevirtual 82, 3) := by decide +kernel
theorem dX6_readThings_36 : decode cX6_readThings 36 = .ok (.ifCond .ne 5, 3) := by decide +kernel
theorem dX6_readThings_39 : decode cX6_readThings 39 = .ok (.iconst 0, 1) := by decide +kernel
theorem dX6_readThings_40 : decode cX6_readThings 40 = .ok (.ireturn, 1) := by decide +kernel
theorem dX6_readThings_41 : decode cX6_readThings 41 = .ok (.iinc 2 1, 3) := by decide +kernel
theorem dX6_readThings_44 : decode cX6_readThings 44 = .ok (.goto (-42), 3) := by decide +kernel
theorem dX6_readThings_47 : decode cX6_readThings 47 = .ok (.iconst 1, 1) := by decide +kernel
theorem dX6_readThings_48 : decode cX6_readThings 48 = .ok (.ireturn, 1) := by decide +kernel
theorem dX6_readThing_0 : decode cX6_readThing 0 = .ok (.aload_n 0, 1) := by decide +kernel
theorem dX6_readThing_1 : decode cX6_readThing 1 = .ok (.invokevirtual 85, 3) := by decide +kernel
theorem dX6_readThing_4 : decode cX6_readThing 4 = .ok (.istore_n 2, 1) := by decide +kernel
theorem dX6_readThing_5 : decode cX6_readThing 5 = .ok (.iload_n 2, 1) := by decide +kernel
theorem dX6_readThing_6 : decode cX6_readThing 6 = .ok (.ifCond .ne 9, 3) := by decide +kernel
theorem dX6_readThing_9 : decode cX6_readThing 9 = .ok (.aload_n 0, 1) := by decide +kernel
theorem dX6_readThing_10 : decode cX6_readThing 10 = .ok (.iconst 1, 1) := by decide +kernel
theorem dX6_readThing_11 : decode cX6_readThing 11 = .ok (.invokevirtual 78, 3) := by decide +kernel
theorem dX6_readThing_14 : decode cX6_readThing 14 = .ok (.ireturn, 1) := by decide +kernel
theorem dX6_readThing_15 : decode cX6_readThing 15 = .ok (.aload_n 0, 1) := by decide +kernel
theorem dX6_readThing_16 : decode cX6_readThing 16 = .ok (.invokevirtual 27, 3) := by decide +kernel
theorem dX6_readThing_19 : decode cX6_readThing 19 = .ok (.aload_n 0, 1) := by decide +kernel
theorem dX6_readThing_20 : decode cX6_readThing 20 = .ok (.iconst 0, 1) := by decide +kernel
theorem dX6_readThing_21 : decode cX6_readThing 21 = .ok (.bipush 7, 2) := by decide +kernel
theorem dX6_readThing_23 : decode cX6_readThing 23 = .ok (.invokevirtual 54, 3) := by decide +kernel
theorem dX6_readThing_26 : decode cX6_readThing 26 = .ok (.ifCond .ne 5, 3) := by decide +kernel
theorem dX6_readThing_29 : decode cX6_readThing 29 = .ok (.iconst 0, 1) := by decide +kernel
theorem dX6_readThing_30 : decode cX6_readThing 30 = .ok (.ireturn, 1) := by decide +kernel
theorem dX6_readThing_31 : decode cX6_readThing 31 = .ok (.aload_n 1, 1) := by decide +kernel
theorem dX6_readThing_32 : decode cX6_readThing 32 = .ok (.iload_n 2, 1) := by decide +kernel
theorem dX6_readThing_33 : decode cX6_readThing 33 = .ok (.aload_n 0, 1) := by decide +kernel
theorem dX6_readThing_34 : decode cX6_readThing 34 = .ok (.getfield 58, 3) := by decide +kernel
theorem dX6_readThing_37 : decode cX6_readThing 37 = .ok (.invokevirtual 89, 3) := by decide +kernel
theorem dX6_readThing_40 : decode cX6_readThing 40 = .ok (.aload_n 0, 1) := by decide +kernel
theorem dX6_readThing_41 : decode cX6_readThing 41 = .ok (.invokevirtual 70, 3) := by decide +kernel
theorem dX6_readThing_44 : decode cX6_readThing 44 = .ok (.ireturn, 1) := by decide +kernel
theorem dX6_readDays_0 : decode cX6_readDays 0 = .ok (.iconst 0, 1) := by decide +kernel
theorem dX6_readDays_1 : decode cX6_readDays 1 = .ok (.istore_n 2, 1) := by decide +kernel
theorem dX6_readDays_2 : decode cX6_readDays 2 = .ok (.iload_n 2, 1) := by decide +kernel
theorem dX6_readDays_3 : decode cX6_readDays 3 = .ok (.bipush 12, 2) := by decide +kernel
theorem dX6_readDays_5 : decode cX6_readDays 5 = .ok (.if_icmp .gt 65, 3) := by decide +kernel
theorem dX6_readDays_8 : decode cX6_readDays 8 = .ok (.aload_n 0, 1) := by decide +kernel
theorem dX6_readDays_9 : decode cX6_readDays 9 = .ok (.ldc 93, 2) := by decide +kernel
theorem dX6_readDays_11 : decode cX6_readDays 11 = .ok (.invokevirtual 75, 3) := by decide +kernel
theorem dX6_readDays_14 : decode cX6_readDays 14 = .ok (.ifCond .eq 56, 3) := by decide +kernel
theorem dX6_readDays_17 : decode cX6_readDays 17 = .ok (.iload_n 2, 1) := by decide +kernel
theorem dX6_readDays_18 : decode cX6_readDays 18 = .ok (.bipush 12, 2) := by decide +kernel
theorem dX6_readDays_20 : decode cX6_readDays 20 = .ok (.if_icmp .ne 9, 3) := by decide +kernel
theorem dX6_readDays_23 : decode cX6_readDays 23 = .ok (.aload_n 0, 1) := by decide +kernel
theorem dX6_readDays_24 : decode cX6_readDays 24 = .ok (.iconst 3, 1) := by decide +kernel
theorem dX6_readDays_25 : decode cX6_readDays 25 = .ok (.invokevirtual 78, 3) := by decide +kernel
theorem dX6_readDays_28 : decode cX6_readDays 28 = .ok (.ireturn, 1) := by decide +kernel
theorem dX6_readDays_29 : decode cX6_readDays 29 = .ok (.aload_n 0, 1) := by decide +kernel
theorem dX6_readDays_30 : decode cX6_readDays 30 = .ok (.invokevirtual 27, 3) := by decide +kernel
theorem dX6_readDays_33 : decode cX6_readDays 33 = .ok (.aload_n 0, 1) := by decide +kernel
theorem dX6_readDays_34 : decode cX6_readDays 34 = .ok (.iconst 0, 1) := by decide +kernel
theorem dX6_readDays_35 : decode cX6_readDays 35 = .ok (.aload_n 1, 1) := by decide +kernel
theorem dX6_readDays_36 : decode cX6_readDays 36 = .ok (.invokevirtual 95, 3) := by decide +kernel
theorem dX6_readDays_39 : decode cX6_readDays 39 = .ok (.invokevirtual 54, 3) := by decide +kernel
theorem dX6_readDays_42 : decode cX6_readDays 42 = .ok (.ifCond .ne 5, 3) := by decide +kernel
theorem dX6_readDays_45 : decode cX6_readDays 45 = .ok (.iconst 0, 1) := by decide +kernel
theorem dX6_readDays_46 : decode cX6_readDays 46 = .ok (.ireturn, 1) := by decide +kernel
theorem dX6_readDays_47 : decode cX6_readDays 47 = .ok (.aload_n 1, 1) := by decide +kernel
theorem dX6_readDays_48 : decode cX6_readDays 48 = .ok (.aload_n 0, 1) := by decide +kernel
theorem dX6_readDays_49 : decode cX6_readDays 49 = .ok (.getfield 58, 3) := by decide +kernel
theorem dX6_readDays_52 : decode cX6_readDays 52 = .ok (.invokevirtual 98, 3) := by decide +kernel
theorem dX6_readDays_55 : decode cX6_readDays 55 = .ok (.aload_n 0, 1) := by decide +kernel
theorem dX6_readDays_56 : decode cX6_readDays 56 = .ok (.invokevirtual 70, 3) := by decide +kernel
theorem dX6_readDays_59 : decode cX6_readDays 59 = .ok (.ifCond .ne 5, 3) := by decide +kernel
theorem dX6_readDays_62 : decode cX6_readDays 62 = .ok (.iconst 0, 1) := by decide +kernel
theorem dX6_readDays_63 : decode cX6_readDays 63 = .ok (.ireturn, 1) := by decide +kernel
theorem dX6_readDays_64 : decode cX6_readDays 64 = .ok (.iinc 2 1, 3) := by decide +kernel
theorem dX6_readDays_67 : decode cX6_readDays 67 = .ok (.goto (-65), 3) := by decide +kernel
theorem dX6_readDays_70 : decode cX6_readDays 70 = .ok (.iconst 1, 1) := by decide +kernel
theorem dX6_readDays_71 : decode cX6_readDays 71 = .ok (.ireturn, 1) := by decide +kernel
theorem dX6_readEnd_0 : decode cX6_readEnd 0 = .ok (.aload_n 0, 1) := by decide +kernel
theorem dX6_readEnd_1 : decode cX6_readEnd 1 = .ok (.getfield 102, 3) := by decide +kernel
theorem dX6_readEnd_4 : decode cX6_readEnd 4 = .ok (.ifCond .eq 11, 3) := by decide +kernel
theorem dX6_readEnd_7 : decode cX6_readEnd 7 = .ok (.aload_n 0, 1) := by decide +kernel
theorem dX6_readEnd_8 : decode cX6_readEnd 8 = .ok (.iconst 1, 1) := by decide +kernel
theorem dX6_readEnd_9 : decode cX6_readEnd 9 = .ok (.invokevirtual 78, 3) := by decide +kernel
theorem dX6_readEnd_12 : decode cX6_readEnd 12 = .ok (.ifCond .eq 7, 3) := by decide +kernel
theorem dX6_readEnd_15 : decode cX6_readEnd 15 = .ok (.iconst 1, 1) := by decide +kernel
theorem dX6_readEnd_16 : decode cX6_readEnd 16 = .ok (.goto 4, 3) := by decide +kernel
theorem dX6_readEnd_19 : decode cX6_readEnd 19 = .ok (.iconst 0, 1) := by decide +kernel
theorem dX6_readEnd_20 : decode cX6_readEnd 20 = .ok (.ireturn, 1) := by decide +kernel
theorem dX6_sortNamed_0 : decode cX6_sortNamed 0 = .ok (.aload_n 0, 1) := by decide +kernel
theorem dX6_sortNamed_1 : decode cX6_sortNamed 1 = .ok (.ldc 105, 2) := by decide +kernel
theorem dX6_sortNamed_3 : decode cX6_sortNamed 3 = .ok (.invokevirtual 75, 3) := by decide +kernel
theorem dX6_sortNamed_6 : decode cX6_sortNamed 6 = .ok (.ifCond .eq 5, 3) := by decide +kernel
theorem dX6_sortNamed_9 : decode cX6_sortNamed 9 = .ok (.iconst 1, 1) := by decide +kernel
theorem dX6_sortNamed_10 : decode cX6_sortNamed 10 = .ok (.ireturn, 1) := by decide +kernel
theorem dX6_sortNamed_11 : decode cX6_sortNamed 11 = .ok (.aload_n 0, 1) := by decide +kernel
theorem dX6_sortNamed_12 : decode cX6_sortNamed 12 = .ok (.ldc 109, 2) := by decide +kernel
theorem dX6_sortNamed_14 : decode cX6_sortNamed 14 = .ok (.invokevirtual 75, 3) := by decide +kernel
theorem dX6_sortNamed_17 : decode cX6_sortNamed 17 = .ok (.ifCond .eq 5, 3) := by decide +kernel
theorem dX6_sortNamed_20 : decode cX6_sortNamed 20 = .ok (.iconst 2, 1) := by decide +kernel
theorem dX6_sortNamed_21 : decode cX6_sortNamed 21 = .ok (.ireturn, 1) := by decide +kernel
theorem dX6_sortNamed_22 : decode cX6_sortNamed 22 = .ok (.aload_n 0, 1) := by decide +kernel
theorem dX6_sortNamed_23 : decode cX6_sortNamed 23 = .ok (.ldc 113, 2) := by decide +kernel
theorem dX6_sortNamed_25 : decode cX6_sortNamed 25 = .ok (.invokevirtual 75, 3) := by decide +kernel
theorem dX6_sortNamed_28 : decode cX6_sortNamed 28 = .ok (.ifCond .eq 5, 3) := by decide +kernel
theorem dX6_sortNamed_31 : decode cX6_sortNamed 31 = .ok (.iconst 3, 1) := by decide +kernel
theorem dX6_sortNamed_32 : decode cX6_sortNamed 32 = .ok (.ireturn, 1) := by decide +kernel
theorem dX6_sortNamed_33 : decode cX6_sortNamed 33 = .ok (.aload_n 0, 1) := by decide +kernel
theorem dX6_sortNamed_34 : decode cX6_sortNamed 34 = .ok (.ldc 117, 2) := by decide +kernel
theorem dX6_sortNamed_36 : decode cX6_sortNamed 36 = .ok (.invokevirtual 75, 3) := by decide +kernel
theorem dX6_sortNamed_39 : decode cX6_sortNamed 39 = .ok (.ifCond .eq 5, 3) := by decide +kernel
theorem dX6_sortNamed_42 : decode cX6_sortNamed 42 = .ok (.iconst 4, 1) := by decide +kernel
theorem dX6_sortNamed_43 : decode cX6_sortNamed 43 = .ok (.ireturn, 1) := by decide +kernel
theorem dX6_sortNamed_44 : decode cX6_sortNamed 44 = .ok (.aload_n 0, 1) := by decide +kernel
theorem dX6_sortNamed_45 : decode cX6_sortNamed 45 = .ok (.ldc 121, 2) := by decide +kernel
theorem dX6_sortNamed_47 : decode cX6_sortNamed 47 = .ok (.invokevirtual 75, 3) := by decide +kernel
theorem dX6_sortNamed_50 : decode cX6_sortNamed 50 = .ok (.ifCond .eq 7, 3) := by decide +kernel
theorem dX6_sortNamed_53 : decode cX6_sortNamed 53 = .ok (.iconst 5, 1) := by decide +kernel
theorem dX6_sortNamed_54 : decode cX6_sortNamed 54 = .ok (.goto 4, 3) := by decide +kernel
theorem dX6_sortNamed_57 : decode cX6_sortNamed 57 = .ok (.iconst 0, 1) := by decide +kernel
theorem dX6_sortNamed_58 : decode cX6_sortNamed 58 = .ok (.ireturn, 1) := by decide +kernel
theorem dX6_takeWord_0 : decode cX6_takeWord 0 = .ok (.aload_n 0, 1) := by decide +kernel
theorem dX6_takeWord_1 : decode cX6_takeWord 1 = .ok (.aload_n 1, 1) := by decide +kernel
theorem dX6_takeWord_2 : decode cX6_takeWord 2 = .ok (.invokevirtual 75, 3) := by decide +kernel
theorem dX6_takeWord_5 : decode cX6_takeWord 5 = .ok (.ifCond .ne 9, 3) := by decide +kernel
theorem dX6_takeWord_8 : decode cX6_takeWord 8 = .ok (.aload_n 0, 1) := by decide +kernel
theorem dX6_takeWord_9 : decode cX6_takeWord 9 = .ok (.iconst 1, 1) := by decide +kernel
theorem dX6_takeWord_10 : decode cX6_takeWord 10 = .ok (.invokevirtual 78, 3) := by decide +kernel
theorem dX6_takeWord_13 : decode cX6_takeWord 13 = .ok (.ireturn, 1) := by decide +kernel
theorem dX6_takeWord_14 : decode cX6_takeWord 14 = .ok (.aload_n 0, 1) := by decide +kernel
theorem dX6_takeWord_15 : decode cX6_takeWord 15 = .ok (.invokevirtual 27, 3) := by decide +kernel
theorem dX6_takeWord_18 : decode cX6_takeWord 18 = .ok (.iconst 1, 1) := by decide +kernel
theorem dX6_takeWord_19 : decode cX6_takeWord 19 = .ok (.ireturn, 1) := by decide +kernel
theorem dX6_takeNumber_0 : decode cX6_takeNumber 0 = .ok (.aload_n 0, 1) := by decide +kernel
theorem dX6_takeNumber_1 : decode cX6_takeNumber 1 = .ok (.getfield 102, 3) := by decide +kernel
theorem dX6_takeNumber_4 : decode cX6_takeNumber 4 = .ok (.iconst 2, 1) := by decide +kernel
theorem dX6_takeNumber_5 : decode cX6_takeNumber 5 = .ok (.if_icmp .eq 9, 3) := by decide +kernel
theorem dX6_takeNumber_8 : decode cX6_takeNumber 8 = .ok (.aload_n 0, 1) := by decide +kernel
theorem dX6_takeNumber_9 : decode cX6_takeNumber 9 = .ok (.iconst 1, 1) := by decide +kernel
theorem dX6_takeNumber_10 : decode cX6_takeNumber 10 = .ok (.invokevirtual 78, 3) := by decide +kernel
theorem dX6_takeNumber_13 : decode cX6_takeNumber 13 = .ok (.ireturn, 1) := by decide +kernel
theorem dX6_takeNumber_14 : decode cX6_takeNumber 14 = .ok (.aload_n 0, 1) := by decide +kernel
theorem dX6_takeNumber_15 : decode cX6_takeNumber 15 = .ok (.aload_n 0, 1) := by decide +kernel
theorem dX6_takeNumber_16 : decode cX6_takeNumber 16 = .ok (.invokevirtual 125, 3) := by decide +kernel
theorem dX6_takeNumber_19 : decode cX6_takeNumber 19 = .ok (.putfield 58, 3) := by decide +kernel
theorem dX6_takeNumber_22 : decode cX6_takeNumber 22 = .ok (.aload_n 0, 1) := by decide +kernel
theorem dX6_takeNumber_23 : decode cX6_takeNumber 23 = .ok (.getfield 58, 3) := by decide +kernel
theorem dX6_takeNumber_26 : decode cX6_takeNumber 26 = .ok (.iload_n 1, 1) := by decide +kernel
theorem dX6_takeNumber_27 : decode cX6_takeNumber 27 = .ok (.if_icmp .lt 11, 3) := by decide +kernel
theorem dX6_takeNumber_30 : decode cX6_takeNumber 30 = .ok (.aload_n 0, 1) := by decide +kernel
theorem dX6_takeNumber_31 : decode cX6_takeNumber 31 = .ok (.getfield 58, 3) := by decide +kernel
theorem dX6_takeNumber_34 : decode cX6_takeNumber 34 = .ok (.iload_n 2, 1) := by decide +kernel
theorem dX6_takeNumber_35 : decode cX6_takeNumber 35 = .ok (.if_icmp .le 9, 3) := by decide +kernel
theorem dX6_takeNumber_38 : decode cX6_takeNumber 38 = .ok (.aload_n 0, 1) := by decide +kernel
theorem dX6_takeNumber_39 : decode cX6_takeNumber 39 = .ok (.iconst 2, 1) := by decide +kernel
theorem dX6_takeNumber_40 : decode cX6_takeNumber 40 = .ok (.invokevirtual 78, 3) := by decide +kernel
theorem dX6_takeNumber_43 : decode cX6_takeNumber 43 = .ok (.ireturn, 1) := by decide +kernel
theorem dX6_takeNumber_44 : decode cX6_takeNumber 44 = .ok (.aload_n 0, 1) := by decide +kernel
theorem dX6_takeNumber_45 : decode cX6_takeNumber 45 = .ok (.invokevirtual 27, 3) := by decide +kernel
theorem dX6_takeNumber_48 : decode cX6_takeNumber 48 = .ok (.iconst 1, 1) := by decide +kernel
theorem dX6_takeNumber_49 : decode cX6_takeNumber 49 = .ok (.ireturn, 1) := by decide +kernel
theorem dX6_takeSemicolon_0 : decode cX6_takeSemicolon 0 = .ok (.aload_n 0, 1) := by decide +kernel
theorem dX6_takeSemicolon_1 : decode cX6_takeSemicolon 1 = .ok (.getfield 102, 3) := by decide +kernel
theorem dX6_takeSemicolon_4 : decode cX6_takeSemicolon 4 = .ok (.iconst 3, 1) := by decide +kernel
theorem dX6_takeSemicolon_5 : decode cX6_takeSemicolon 5 = .ok (.if_icmp .eq 9, 3) := by decide +kernel
theorem dX6_takeSemicolon_8 : decode cX6_takeSemicolon 8 = .ok (.aload_n 0, 1) := by decide +kernel
theorem dX6_takeSemicolon_9 : decode cX6_takeSemicolon 9 = .ok (.iconst 1, 1) := by decide +kernel
theorem dX6_takeSemicolon_10 : decode cX6_takeSemicolon 10 = .ok (.invokevirtual 78, 3) := by decide +kernel
theorem dX6_takeSemicolon_13 : decode cX6_takeSemicolon 13 = .ok (.ireturn, 1) := by decide +kernel
theorem dX6_takeSemicolon_14 : decode cX6_takeSemicolon 14 = .ok (.aload_n 0, 1) := by decide +kernel
theorem dX6_takeSemicolon_15 : decode cX6_takeSemicolon 15 = .ok (.invokevirtual 27, 3) := by decide +kernel
theorem dX6_takeSemicolon_18 : decode cX6_takeSemicolon 18 = .ok (.iconst 1, 1) := by decide +kernel
theorem dX6_takeSemicolon_19 : decode cX6_takeSemicolon 19 = .ok (.ireturn, 1) := by decide +kernel
theorem dX6_fail_0 : decode cX6_fail 0 = .ok (.aload_n 0, 1) := by decide +kernel
theorem dX6_fail_1 : decode cX6_fail 1 = .ok (.iload_n 1, 1) := by decide +kernel
theorem dX6_fail_2 : decode cX6_fail 2 = .ok (.putfield 128, 3) := by decide +kernel
theorem dX6_fail_5 : decode cX6_fail 5 = .ok (.aload_n 0, 1) := by decide +kernel
theorem dX6_fail_6 : decode cX6_fail 6 = .ok (.aload_n 0, 1) := by decide +kernel
theorem dX6_fail_7 : decode cX6_fail 7 = .ok (.getfield 131, 3) := by decide +kernel
theorem dX6_fail_10 : decode cX6_fail 10 = .ok (.putfield 134, 3) := by decide +kernel
theorem dX6_fail_13 : decode cX6_fail 13 = .ok (.iconst 0, 1) := by decide +kernel
theorem dX6_fail_14 : decode cX6_fail 14 = .ok (.ireturn, 1) := by decide +kernel
theorem dX6_isWord_0 : decode cX6_isWord 0 = .ok (.aload_n 0, 1) := by decide +kernel
theorem dX6_isWord_1 : decode cX6_isWord 1 = .ok (.getfield 102, 3) := by decide +kernel
theorem dX6_isWord_4 : decode cX6_isWord 4 = .ok (.iconst 1, 1) := by decide +kernel
theorem dX6_isWord_5 : decode cX6_isWord 5 = .ok (.if_icmp .ne 19, 3) := by decide +kernel
theorem dX6_isWord_8 : decode cX6_isWord 8 = .ok (.aload_n 0, 1) := by decide +kernel
theorem dX6_isWord_9 : decode cX6_isWord 9 = .ok (.getfield 24, 3) := by decide +kernel
theorem dX6_isWord_12 : decode cX6_isWord 12 = .ok (.aload_n 0, 1) := by decide +kernel
theorem dX6_isWord_13 : decode cX6_isWord 13 = .ok (.getfield 131, 3) := by decide +kernel
theorem dX6_isWord_16 : decode cX6_isWord 16 = .ok (.isub, 1) := by decide +kernel
theorem dX6_isWord_17 : decode cX6_isWord 17 = .ok (.aload_n 1, 1) := by decide +kernel
theorem dX6_isWord_18 : decode cX6_isWord 18 = .ok (.invokevirtual 137, 3) := by decide +kernel
theorem dX6_isWord_21 : decode cX6_isWord 21 = .ok (.if_icmp .eq 5, 3) := by decide +kernel
theorem dX6_isWord_24 : decode cX6_isWord 24 = .ok (.iconst 0, 1) := by decide +kernel
theorem dX6_isWord_25 : decode cX6_isWord 25 = .ok (.ireturn, 1) := by decide +kernel
theorem dX6_isWord_26 : decode cX6_isWord 26 = .ok (.aload_n 0, 1) := by decide +kernel
theorem dX6_isWord_27 : decode cX6_isWord 27 = .ok (.getfield 131, 3) := by decide +kernel
theorem dX6_isWord_30 : decode cX6_isWord 30 = .ok (.istore_n 2, 1) := by decide +kernel
theorem dX6_isWord_31 : decode cX6_isWord 31 = .ok (.iload_n 2, 1) := by decide +kernel
theorem dX6_isWord_32 : decode cX6_isWord 32 = .ok (.aload_n 0, 1) := by decide +kernel
theorem dX6_isWord_33 : decode cX6_isWord 33 = .ok (.getfield 24, 3) := by decide +kernel
theorem dX6_isWord_36 : decode cX6_isWord 36 = .ok (.if_icmp .ge 30, 3) := by decide +kernel
theorem dX6_isWord_39 : decode cX6_isWord 39 = .ok (.aload_n 0, 1) := by decide +kernel
theorem dX6_isWord_40 : decode cX6_isWord 40 = .ok (.getfield 11, 3) := by decide +kernel
theorem dX6_isWord_43 : decode cX6_isWord 43 = .ok (.iload_n 2, 1) := by decide +kernel
theorem dX6_isWord_44 : decode cX6_isWord 44 = .ok (.baload, 1) := by decide +kernel
theorem dX6_isWord_45 : decode cX6_isWord 45 = .ok (.aload_n 1, 1) := by decide +kernel
theorem dX6_isWord_46 : decode cX6_isWord 46 = .ok (.iload_n 2, 1) := by decide +kernel
theorem dX6_isWord_47 : decode cX6_isWord 47 = .ok (.aload_n 0, 1) := by decide +kernel
theorem dX6_isWord_48 : decode cX6_isWord 48 = .ok (.getfield 131, 3) := by decide +kernel
theorem dX6_isWord_51 : decode cX6_isWord 51 = .ok (.isub, 1) := by decide +kernel
theorem dX6_isWord_52 : decode cX6_isWord 52 = .ok (.invokevirtual 141, 3) := by decide +kernel
theorem dX6_isWord_55 : decode cX6_isWord 55 = .ok (.if_icmp .eq 5, 3) := by decide +kernel
theorem dX6_isWord_58 : decode cX6_isWord 58 = .ok (.iconst 0, 1) := by decide +kernel
theorem dX6_isWord_59 : decode cX6_isWord 59 = .ok (.ireturn, 1) := by decide +kernel
theorem dX6_isWord_60 : decode cX6_isWord 60 = .ok (.iinc 2 1, 3) := by decide +kernel
theorem dX6_isWord_63 : decode cX6_isWord 63 = .ok (.goto (-32), 3) := by decide +kernel
theorem dX6_isWord_66 : decode cX6_isWord 66 = .ok (.iconst 1, 1) := by decide +kernel
theorem dX6_isWord_67 : decode cX6_isWord 67 = .ok (.ireturn, 1) := by decide +kernel
theorem dX6_numberRead_0 : decode cX6_numberRead 0 = .ok (.iconst 0, 1) := by decide +kernel
theorem dX6_numberRead_1 : decode cX6_numberRead 1 = .ok (.istore_n 1, 1) := by decide +kernel
theorem dX6_numberRead_2 : decode cX6_numberRead 2 = .ok (.aload_n 0, 1) := by decide +kernel
theorem dX6_numberRead_3 : decode cX6_numberRead 3 = .ok (.getfield 131, 3) := by decide +kernel
theorem dX6_numberRead_6 : decode cX6_numberRead 6 = .ok (.istore_n 2, 1) := by decide +kernel
theorem dX6_numberRead_7 : decode cX6_numberRead 7 = .ok (.iload_n 2, 1) := by decide +kernel
theorem dX6_numberRead_8 : decode cX6_numberRead 8 = .ok (.aload_n 0, 1) := by decide +kernel
theorem dX6_numberRead_9 : decode cX6_numberRead 9 = .ok (.getfield 24, 3) := by decide +kernel
theorem dX6_numberRead_12 : decode cX6_numberRead 12 = .ok (.if_icmp .ge 24, 3) := by decide +kernel
theorem dX6_numberRead_15 : decode cX6_numberRead 15 = .ok (.iload_n 1, 1) := by decide +kernel
theorem dX6_numberRead_16 : decode cX6_numberRead 16 = .ok (.bipush 10, 2) := by decide +kernel
theorem dX6_numberRead_18 : decode cX6_numberRead 18 = .ok (.imul, 1) := by decide +kernel
theorem dX6_numberRead_19 : decode cX6_numberRead 19 = .ok (.aload_n 0, 1) := by decide +kernel
theorem dX6_numberRead_20 : decode cX6_numberRead 20 = .ok (.getfield 11, 3) := by decide +kernel
theorem dX6_numberRead_23 : decode cX6_numberRead 23 = .ok (.iload_n 2, 1) := by decide +kernel
theorem dX6_numberRead_24 : decode cX6_numberRead 24 = .ok (.baload, 1) := by decide +kernel
theorem dX6_numberRead_25 : decode cX6_numberRead 25 = .ok (.iadd, 1) := by decide +kernel
theorem dX6_numberRead_26 : decode cX6_numberRead 26 = .ok (.bipush 48, 2) := by decide +kernel
theorem dX6_numberRead_28 : decode cX6_numberRead 28 = .ok (.isub, 1) := by decide +kernel
theorem dX6_numberRead_29 : decode cX6_numberRead 29 = .ok (.istore_n 1, 1) := by decide +kernel
theorem dX6_numberRead_30 : decode cX6_numberRead 30 = .ok (.iinc 2 1, 3) := by decide +kernel
theorem dX6_numberRead_33 : decode cX6_numberRead 33 = .ok (.goto (-26), 3) := by decide +kernel
theorem dX6_numberRead_36 : decode cX6_numberRead 36 = .ok (.iload_n 1, 1) := by decide +kernel
theorem dX6_numberRead_37 : decode cX6_numberRead 37 = .ok (.ireturn, 1) := by decide +kernel
theorem dX6_advance_0 : decode cX6_advance 0 = .ok (.aload_n 0, 1) := by decide +kernel
theorem dX6_advance_1 : decode cX6_advance 1 = .ok (.getfield 24, 3) := by decide +kernel
theorem dX6_advance_4 : decode cX6_advance 4 = .ok (.aload_n 0, 1) := by decide +kernel
theorem dX6_advance_5 : decode cX6_advance 5 = .ok (.getfield 15, 3) := by decide +kernel
theorem dX6_advance_8 : decode cX6_advance 8 = .ok (.if_icmp .ge 31, 3) := by decide +kernel
theorem dX6_advance_11 : decode cX6_advance 11 = .ok (.aload_n 0, 1) := by decide +kernel
theorem dX6_advance_12 : decode cX6_advance 12 = .ok (.getfield 11, 3) := by decide +kernel
theorem dX6_advance_15 : decode cX6_advance 15 = .ok (.aload_n 0, 1) := by decide +kernel
theorem dX6_advance_16 : decode cX6_advance 16 = .ok (.getfield 24, 3) := by decide +kernel
theorem dX6_advance_19 : decode cX6_advance 19 = .ok (.baload, 1) := by decide +kernel
theorem dX6_advance_20 : decode cX6_advance 20 = .ok (.invokestatic 145, 3) := by decide +kernel
theorem dX6_advance_23 : decode cX6_advance 23 = .ok (.ifCond .eq 16, 3) := by decide +kernel
theorem dX6_advance_26 : decode cX6_advance 26 = .ok (.aload_n 0, 1) := by decide +kernel
theorem dX6_advance_27 : decode cX6_advance 27 = .ok (.dup, 1) := by decide +kernel
theorem dX6_advance_28 : decode cX6_advance 28 = .ok (.getfield 24, 3) := by decide +kernel
theorem dX6_advance_31 : decode cX6_advance 31 = .ok (.iconst 1, 1) := by decide +kernel
theorem dX6_advance_32 : decode cX6_advance 32 = .ok (.iadd, 1) := by decide +kernel
theorem dX6_advance_33 : decode cX6_advance 33 = .ok (.putfield 24, 3) := by decide +kernel
theorem dX6_advance_36 : decode cX6_advance 36 = .ok (.goto (-36), 3) := by decide +kernel
theorem dX6_advance_39 : decode cX6_advance 39 = .ok (.aload_n 0, 1) := by decide +kernel
theorem dX6_advance_40 : decode cX6_advance 40 = .ok (.aload_n 0, 1) := by decide +kernel
theorem dX6_advance_41 : decode cX6_advance 41 = .ok (.getfield 24, 3) := by decide +kernel
theorem dX6_advance_44 : decode cX6_advance 44 = .ok (.putfield 131, 3) := by decide +kernel
theorem dX6_advance_47 : decode cX6_advance 47 = .ok (.aload_n 0, 1) := by decide +kernel
theorem dX6_advance_48 : decode cX6_advance 48 = .ok (.getfield 24, 3) := by decide +kernel
theorem dX6_advance_51 : decode cX6_advance 51 = .ok (.aload_n 0, 1) := by decide +kernel
theorem dX6_advance_52 : decode cX6_advance 52 = .ok (.getfield 15, 3) := by decide +kernel
theorem dX6_advance_55 : decode cX6_advance 55 = .ok (.if_icmp .lt 11, 3) := by decide +kernel
theorem dX6_advance_58 : decode cX6_advance 58 = .ok (.aload_n 0, 1) := by decide +kernel
theorem dX6_advance_59 : decode cX6_advance 59 = .ok (.iconst 0, 1) := by decide +kernel
theorem dX6_advance_60 : decode cX6_advance 60 = .ok (.putfield 102, 3) := by decide +kernel
theorem dX6_advance_63 : decode cX6_advance 63 = .ok (.goto 177, 3) := by decide +kernel
theorem dX6_advance_66 : decode cX6_advance 66 = .ok (.aload_n 0, 1) := by decide +kernel
theorem dX6_advance_67 : decode cX6_advance 67 = .ok (.getfield 11, 3) := by decide +kernel
theorem dX6_advance_70 : decode cX6_advance 70 = .ok (.aload_n 0, 1) := by decide +kernel
theorem dX6_advance_71 : decode cX6_advance 71 = .ok (.getfield 24, 3) := by decide +kernel
theorem dX6_advance_74 : decode cX6_advance 74 = .ok (.baload, 1) := by decide +kernel
theorem dX6_advance_75 : decode cX6_advance 75 = .ok (.invokestatic 148, 3) := by decide +kernel
theorem dX6_advance_78 : decode cX6_advance 78 = .ok (.ifCond .eq 50, 3) := by decide +kernel
theorem dX6_advance_81 : decode cX6_advance 81 = .ok (.aload_n 0, 1) := by decide +kernel
theorem dX6_advance_82 : decode cX6_advance 82 = .ok (.getfield 24, 3) := by decide +kernel
theorem dX6_advance_85 : decode cX6_advance 85 = .ok (.aload_n 0, 1) := by decide +kernel
theorem dX6_advance_86 : decode cX6_advance 86 = .ok (.getfield 15, 3) := by decide +kernel
theorem dX6_advance_89 : decode cX6_advance 89 = .ok (.if_icmp .ge 31, 3) := by decide +kernel
theorem dX6_advance_92 : decode cX6_advance 92 = .ok (.aload_n 0, 1) := by decide +kernel
theorem dX6_advance_93 : decode cX6_advance 93 = .ok (.getfield 11, 3) := by decide +kernel
theorem dX6_advance_96 : decode cX6_advance 96 = .ok (.aload_n 0, 1) := by decide +kernel
theorem dX6_advance_97 : decode cX6_advance 97 = .ok (.getfield 24, 3) := by decide +kernel
theorem dX6_advance_100 : decode cX6_advance 100 = .ok (.baload, 1) := by decide +kernel
theorem dX6_advance_101 : decode cX6_advance 101 = .ok (.invokestatic 148, 3) := by decide +kernel
theorem dX6_advance_104 : decode cX6_advance 104 = .ok (.ifCond .eq 16, 3) := by decide +kernel
theorem dX6_advance_107 : decode cX6_advance 107 = .ok (.aload_n 0, 1) := by decide +kernel
theorem dX6_advance_108 : decode cX6_advance 108 = .ok (.dup, 1) := by decide +kernel
theorem dX6_advance_109 : decode cX6_advance 109 = .ok (.getfield 24, 3) := by decide +kernel
theorem dX6_advance_112 : decode cX6_advance 112 = .ok (.iconst 1, 1) := by decide +kernel
theorem dX6_advance_113 : decode cX6_advance 113 = .ok (.iadd, 1) := by decide +kernel
theorem dX6_advance_114 : decode cX6_advance 114 = .ok (.putfield 24, 3) := by decide +kernel
theorem dX6_advance_117 : decode cX6_advance 117 = .ok (.goto (-36), 3) := by decide +kernel
theorem dX6_advance_120 : decode cX6_advance 120 = .ok (.aload_n 0, 1) := by decide +kernel
theorem dX6_advance_121 : decode cX6_advance 121 = .ok (.iconst 1, 1) := by decide +kernel
theorem dX6_advance_122 : decode cX6_advance 122 = .ok (.putfield 102, 3) := by decide +kernel
theorem dX6_advance_125 : decode cX6_advance 125 = .ok (.goto 115, 3) := by decide +kernel
theorem dX6_advance_128 : decode cX6_advance 128 = .ok (.aload_n 0, 1) := by decide +kernel
theorem dX6_advance_129 : decode cX6_advance 129 = .ok (.getfield 11, 3) := by decide +kernel
theorem dX6_advance_132 : decode cX6_advance 132 = .ok (.aload_n 0, 1) := by decide +kernel
theorem dX6_advance_133 : decode cX6_advance 133 = .ok (.getfield 24, 3) := by decide +kernel
theorem dX6_advance_136 : decode cX6_advance 136 = .ok (.baload, 1) := by decide +kernel
theorem dX6_advance_137 : decode cX6_advance 137 = .ok (.invokestatic 151, 3) := by decide +kernel
theorem dX6_advance_140 : decode cX6_advance 140 = .ok (.ifCond .eq 67, 3) := by decide +kernel
theorem dX6_advance_143 : decode cX6_advance 143 = .ok (.aload_n 0, 1) := by decide +kernel
theorem dX6_advance_144 : decode cX6_advance 144 = .ok (.getfield 24, 3) := by decide +kernel
theorem dX6_advance_147 : decode cX6_advance 147 = .ok (.aload_n 0, 1) := by decide +kernel
theorem dX6_advance_148 : decode cX6_advance 148 = .ok (.getfield 15, 3) := by decide +kernel
theorem dX6_advance_151 : decode cX6_advance 151 = .ok (.if_icmp .ge 31, 3) := by decide +kernel
theorem dX6_advance_154 : decode cX6_advance 154 = .ok (.aload_n 0, 1) := by decide +kernel
theorem dX6_advance_155 : decode cX6_advance 155 = .ok (.getfield 11, 3) := by decide +kernel
theorem dX6_advance_158 : decode cX6_advance 158 = .ok (.aload_n 0, 1) := by decide +kernel
theorem dX6_advance_159 : decode cX6_advance 159 = .ok (.getfield 24, 3) := by decide +kernel
theorem dX6_advance_162 : decode cX6_advance 162 = .ok (.baload, 1) := by decide +kernel
theorem dX6_advance_163 : decode cX6_advance 163 = .ok (.invokestatic 151, 3) := by decide +kernel
theorem dX6_advance_166 : decode cX6_advance 166 = .ok (.ifCond .eq 16, 3) := by decide +kernel
theorem dX6_advance_169 : decode cX6_advance 169 = .ok (.aload_n 0, 1) := by decide +kernel
theorem dX6_advance_170 : decode cX6_advance 170 = .ok (.dup, 1) := by decide +kernel
theorem dX6_advance_171 : decode cX6_advance 171 = .ok (.getfield 24, 3) := by decide +kernel
theorem dX6_advance_174 : decode cX6_advance 174 = .ok (.iconst 1, 1) := by decide +kernel
theorem dX6_advance_175 : decode cX6_advance 175 = .ok (.iadd, 1) := by decide +kernel
theorem dX6_advance_176 : decode cX6_advance 176 = .ok (.putfield 24, 3) := by decide +kernel
theorem dX6_advance_179 : decode cX6_advance 179 = .ok (.goto (-36), 3) := by decide +kernel
theorem dX6_advance_182 : decode cX6_advance 182 = .ok (.aload_n 0, 1) := by decide +kernel
theorem dX6_advance_183 : decode cX6_advance 183 = .ok (.aload_n 0, 1) := by decide +kernel
theorem dX6_advance_184 : decode cX6_advance 184 = .ok (.getfield 24, 3) := by decide +kernel
theorem dX6_advance_187 : decode cX6_advance 187 = .ok (.aload_n 0, 1) := by decide +kernel
theorem dX6_advance_188 : decode cX6_advance 188 = .ok (.getfield 131, 3) := by decide +kernel
theorem dX6_advance_191 : decode cX6_advance 191 = .ok (.isub, 1) := by decide +kernel
theorem dX6_advance_192 : decode cX6_advance 192 = .ok (.iconst 3, 1) := by decide +kernel
theorem dX6_advance_193 : decode cX6_advance 193 = .ok (.if_icmp .gt 7, 3) := by decide +kernel
theorem dX6_advance_196 : decode cX6_advance 196 = .ok (.iconst 2, 1) := by decide +kernel
theorem dX6_advance_197 : decode cX6_advance 197 = .ok (.goto 4, 3) := by decide +kernel
theorem dX6_advance_200 : decode cX6_advance 200 = .ok (.iconst 4, 1) := by decide +kernel
theorem dX6_advance_201 : decode cX6_advance 201 = .ok (.putfield 102, 3) := by decide +kernel
theorem dX6_advance_204 : decode cX6_advance 204 = .ok (.goto 36, 3) := by decide +kernel
theorem dX6_advance_207 : decode cX6_advance 207 = .ok (.aload_n 0, 1) := by decide +kernel
theorem dX6_advance_208 : decode cX6_advance 208 = .ok (.aload_n 0, 1) := by decide +kernel
theorem dX6_advance_209 : decode cX6_advance 209 = .ok (.getfield 11, 3) := by decide +kernel
theorem dX6_advance_212 : decode cX6_advance 212 = .ok (.aload_n 0, 1) := by decide +kernel
theorem dX6_advance_213 : decode cX6_advance 213 = .ok (.getfield 24, 3) := by decide +kernel
theorem dX6_advance_216 : decode cX6_advance 216 = .ok (.baload, 1) := by decide +kernel
theorem dX6_advance_217 : decode cX6_advance 217 = .ok (.bipush 59, 2) := by decide +kernel
theorem dX6_advance_219 : decode cX6_advance 219 = .ok (.if_icmp .ne 7, 3) := by decide +kernel
theorem dX6_advance_222 : decode cX6_advance 222 = .ok (.iconst 3, 1) := by decide +kernel
theorem dX6_advance_223 : decode cX6_advance 223 = .ok (.goto 4, 3) := by decide +kernel
theorem dX6_advance_226 : decode cX6_advance 226 = .ok (.iconst 4, 1) := by decide +kernel
theorem dX6_advance_227 : decode cX6_advance 227 = .ok (.putfield 102, 3) := by decide +kernel
theorem dX6_advance_230 : decode cX6_advance 230 = .ok (.aload_n 0, 1) := by decide +kernel
theorem dX6_advance_231 : decode cX6_advance 231 = .ok (.dup, 1) := by decide +kernel
theorem dX6_advance_232 : decode cX6_advance 232 = .ok (.getfield 24, 3) := by decide +kernel
theorem dX6_advance_235 : decode cX6_advance 235 = .ok (.iconst 1, 1) := by decide +kernel
theorem dX6_advance_236 : decode cX6_advance 236 = .ok (.iadd, 1) := by decide +kernel
theorem dX6_advance_237 : decode cX6_advance 237 = .ok (.putfield 24, 3) := by decide +kernel
theorem dX6_advance_240 : decode cX6_advance 240 = .ok (.return_, 1) := by decide +kernel
theorem dX6_isBetween_0 : decode cX6_isBetween 0 = .ok (.iload_n 0, 1) := by decide +kernel
theorem dX6_isBetween_1 : decode cX6_isBetween 1 = .ok (.bipush 32, 2) := by decide +kernel
theorem dX6_isBetween_3 : decode cX6_isBetween 3 = .ok (.if_icmp .eq 9, 3) := by decide +kernel
theorem dX6_isBetween_6 : decode cX6_isBetween 6 = .ok (.iload_n 0, 1) := by decide +kernel
theorem dX6_isBetween_7 : decode cX6_isBetween 7 = .ok (.bipush 10, 2) := by decide +kernel
theorem dX6_isBetween_9 : decode cX6_isBetween 9 = .ok (.if_icmp .ne 7, 3) := by decide +kernel
theorem dX6_isBetween_12 : decode cX6_isBetween 12 = .ok (.iconst 1, 1) := by decide +kernel
theorem dX6_isBetween_13 : decode cX6_isBetween 13 = .ok (.goto 4, 3) := by decide +kernel
theorem dX6_isBetween_16 : decode cX6_isBetween 16 = .ok (.iconst 0, 1) := by decide +kernel
theorem dX6_isBetween_17 : decode cX6_isBetween 17 = .ok (.ireturn, 1) := by decide +kernel
theorem dX6_isLetter_0 : decode cX6_isLetter 0 = .ok (.iload_n 0, 1) := by decide +kernel
theorem dX6_isLetter_1 : decode cX6_isLetter 1 = .ok (.bipush 97, 2) := by decide +kernel
theorem dX6_isLetter_3 : decode cX6_isLetter 3 = .ok (.if_icmp .lt 13, 3) := by decide +kernel
theorem dX6_isLetter_6 : decode cX6_isLetter 6 = .ok (.iload_n 0, 1) := by decide +kernel
theorem dX6_isLetter_7 : decode cX6_isLetter 7 = .ok (.bipush 122, 2) := by decide +kernel
theorem dX6_isLetter_9 : decode cX6_isLetter 9 = .ok (.if_icmp .gt 7, 3) := by decide +kernel
theorem dX6_isLetter_12 : decode cX6_isLetter 12 = .ok (.iconst 1, 1) := by decide +kernel
theorem dX6_isLetter_13 : decode cX6_isLetter 13 = .ok (.goto 4, 3) := by decide +kernel
theorem dX6_isLetter_16 : decode cX6_isLetter 16 = .ok (.iconst 0, 1) := by decide +kernel
theorem dX6_isLetter_17 : decode cX6_isLetter 17 = .ok (.ireturn, 1) := by decide +kernel
theorem dX6_isFigure_0 : decode cX6_isFigure 0 = .ok (.iload_n 0, 1) := by decide +kernel
theorem dX6_isFigure_1 : decode cX6_isFigure 1 = .ok (.bipush 48, 2) := by decide +kernel
theorem dX6_isFigure_3 : decode cX6_isFigure 3 = .ok (.if_icmp .lt 13, 3) := by decide +kernel
theorem dX6_isFigure_6 : decode cX6_isFigure 6 = .ok (.iload_n 0, 1) := by decide +kernel
theorem dX6_isFigure_7 : decode cX6_isFigure 7 = .ok (.bipush 57, 2) := by decide +kernel
theorem dX6_isFigure_9 : decode cX6_isFigure 9 = .ok (.if_icmp .gt 7, 3) := by decide +kernel
theorem dX6_isFigure_12 : decode cX6_isFigure 12 = .ok (.iconst 1, 1) := by decide +kernel
theorem dX6_isFigure_13 : decode cX6_isFigure 13 = .ok (.goto 4, 3) := by decide +kernel
theorem dX6_isFigure_16 : decode cX6_isFigure 16 = .ok (.iconst 0, 1) := by decide +kernel
theorem dX6_isFigure_17 : decode cX6_isFigure 17 = .ok (.ireturn, 1) := by decide +kernel
