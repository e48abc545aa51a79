theorem dX0_init_0 : decode cX0_init 0 = .ok (.aload_n 0, 1) := by decide +kernel
theorem dX0_init_1 : decode cX0_init 1 = .ok (.invokespecial 1, 3) := by decide +kernel
theorem dX0_init_4 : decode cX0_init 4 = .ok (.aload_n 0, 1) := by decide +kernel
theorem dX0_init_5 : decode cX0_init 5 = .ok (.bipush 16, 2) := by decide +kernel
theorem dX0_init_7 : decode cX0_init 7 = .ok (.newarray .int, 2) := by decide +kernel
theorem dX0_init_9 : decode cX0_init 9 = .ok (.putfield 9, 3) := by decide +kernel
theorem dX0_init_12 : decode cX0_init 12 = .ok (.return_, 1) := by decide +kernel
theorem dX0_begin_0 : decode cX0_begin 0 = .ok (.aload_n 0, 1) := by decide +kernel
theorem dX0_begin_1 : decode cX0_begin 1 = .ok (.iconst 0, 1) := by decide +kernel
theorem dX0_begin_2 : decode cX0_begin 2 = .ok (.putfield 13, 3) := by decide +kernel
theorem dX0_begin_5 : decode cX0_begin 5 = .ok (.aload_n 0, 1) := by decide +kernel
theorem dX0_begin_6 : decode cX0_begin 6 = .ok (.iload_n 1, 1) := by decide +kernel
theorem dX0_begin_7 : decode cX0_begin 7 = .ok (.putfield 17, 3) := by decide +kernel
theorem dX0_begin_10 : decode cX0_begin 10 = .ok (.return_, 1) := by decide +kernel
theorem dX0_enter_0 : decode cX0_enter 0 = .ok (.aload_n 0, 1) := by decide +kernel
theorem dX0_enter_1 : decode cX0_enter 1 = .ok (.getfield 13, 3) := by decide +kernel
theorem dX0_enter_4 : decode cX0_enter 4 = .ok (.bipush 16, 2) := by decide +kernel
theorem dX0_enter_6 : decode cX0_enter 6 = .ok (.if_icmp .ge 23, 3) := by decide +kernel
theorem dX0_enter_9 : decode cX0_enter 9 = .ok (.aload_n 0, 1) := by decide +kernel
theorem dX0_enter_10 : decode cX0_enter 10 = .ok (.getfield 9, 3) := by decide +kernel
theorem dX0_enter_13 : decode cX0_enter 13 = .ok (.aload_n 0, 1) := by decide +kernel
theorem dX0_enter_14 : decode cX0_enter 14 = .ok (.getfield 13, 3) := by decide +kernel
theorem dX0_enter_17 : decode cX0_enter 17 = .ok (.iload_n 1, 1) := by decide +kernel
theorem dX0_enter_18 : decode cX0_enter 18 = .ok (.iastore, 1) := by decide +kernel
theorem dX0_enter_19 : decode cX0_enter 19 = .ok (.aload_n 0, 1) := by decide +kernel
theorem dX0_enter_20 : decode cX0_enter 20 = .ok (.dup, 1) := by decide +kernel
theorem dX0_enter_21 : decode cX0_enter 21 = .ok (.getfield 13, 3) := by decide +kernel
theorem dX0_enter_24 : decode cX0_enter 24 = .ok (.iconst 1, 1) := by decide +kernel
theorem dX0_enter_25 : decode cX0_enter 25 = .ok (.iadd, 1) := by decide +kernel
theorem dX0_enter_26 : decode cX0_enter 26 = .ok (.putfield 13, 3) := by decide +kernel
theorem dX0_enter_29 : decode cX0_enter 29 = .ok (.return_, 1) := by decide +kernel
theorem dX1_init_0 : decode cX1_init 0 = .ok (.aload_n 0, 1) := by decide +kernel
theorem dX1_init_1 : decode cX1_init 1 = .ok (.iload_n 1, 1) := by decide +kernel
theorem dX1_init_2 : decode cX1_init 2 = .ok (.iload_n 2, 1) := by decide +kernel
theorem dX1_init_3 : decode cX1_init 3 = .ok (.invokespecial 1, 3) := by decide +kernel
theorem dX1_init_6 : decode cX1_init 6 = .ok (.return_, 1) := by decide +kernel
theorem dX1_kindNumber_0 : decode cX1_kindNumber 0 = .ok (.iconst 2, 1) := by decide +kernel
theorem dX1_kindNumber_1 : decode cX1_kindNumber 1 = .ok (.ireturn, 1) := by decide +kernel
theorem dX1_heavyWith_0 : decode cX1_heavyWith 0 = .ok (.iload_n 1, 1) := by decide +kernel
theorem dX1_heavyWith_1 : decode cX1_heavyWith 1 = .ok (.iload_n 2, 1) := by decide +kernel
theorem dX1_heavyWith_2 : decode cX1_heavyWith 2 = .ok (.iconst 3, 1) := by decide +kernel
theorem dX1_heavyWith_3 : decode cX1_heavyWith 3 = .ok (.idiv, 1) := by decide +kernel
theorem dX1_heavyWith_4 : decode cX1_heavyWith 4 = .ok (.isub, 1) := by decide +kernel
theorem dX1_heavyWith_5 : decode cX1_heavyWith 5 = .ok (.istore_n 3, 1) := by decide +kernel
theorem dX1_heavyWith_6 : decode cX1_heavyWith 6 = .ok (.iload_n 3, 1) := by decide +kernel
theorem dX1_heavyWith_7 : decode cX1_heavyWith 7 = .ok (.ifCond .le 7, 3) := by decide +kernel
theorem dX1_heavyWith_10 : decode cX1_heavyWith 10 = .ok (.iload_n 3, 1) := by decide +kernel
theorem dX1_heavyWith_11 : decode cX1_heavyWith 11 = .ok (.goto 4, 3) := by decide +kernel
theorem dX1_heavyWith_14 : decode cX1_heavyWith 14 = .ok (.iconst 0, 1) := by decide +kernel
theorem dX1_heavyWith_15 : decode cX1_heavyWith 15 = .ok (.ireturn, 1) := by decide +kernel
theorem dX1_markBy_0 : decode cX1_markBy 0 = .ok (.aload_n 1, 1) := by decide +kernel
theorem dX1_markBy_1 : decode cX1_markBy 1 = .ok (.bipush 22, 2) := by decide +kernel
theorem dX1_markBy_3 : decode cX1_markBy 3 = .ok (.invokevirtual 9, 3) := by decide +kernel
theorem dX1_markBy_6 : decode cX1_markBy 6 = .ok (.aload_n 0, 1) := by decide +kernel
theorem dX1_markBy_7 : decode cX1_markBy 7 = .ok (.aload_n 1, 1) := by decide +kernel
theorem dX1_markBy_8 : decode cX1_markBy 8 = .ok (.iload_n 2, 1) := by decide +kernel
theorem dX1_markBy_9 : decode cX1_markBy 9 = .ok (.invokespecial 15, 3) := by decide +kernel
theorem dX1_markBy_12 : decode cX1_markBy 12 = .ok (.sipush 1000, 3) := by decide +kernel
theorem dX1_markBy_15 : decode cX1_markBy 15 = .ok (.isub, 1) := by decide +kernel
theorem dX1_markBy_16 : decode cX1_markBy 16 = .ok (.ireturn, 1) := by decide +kernel
theorem dX2_init_0 : decode cX2_init 0 = .ok (.aload_n 0, 1) := by decide +kernel
theorem dX2_init_1 : decode cX2_init 1 = .ok (.invokespecial 3, 3) := by decide +kernel
theorem dX2_init_4 : decode cX2_init 4 = .ok (.aload_n 0, 1) := by decide +kernel
theorem dX2_init_5 : decode cX2_init 5 = .ok (.iconst 4, 1) := by decide +kernel
theorem dX2_init_6 : decode cX2_init 6 = .ok (.newarray .int, 2) := by decide +kernel
theorem dX2_init_8 : decode cX2_init 8 = .ok (.putfield 9, 3) := by decide +kernel
theorem dX2_init_11 : decode cX2_init 11 = .ok (.aload_n 0, 1) := by decide +kernel
theorem dX2_init_12 : decode cX2_init 12 = .ok (.iconst 4, 1) := by decide +kernel
theorem dX2_init_13 : decode cX2_init 13 = .ok (.newarray .int, 2) := by decide +kernel
theorem dX2_init_15 : decode cX2_init 15 = .ok (.putfield 15, 3) := by decide +kernel
theorem dX2_init_18 : decode cX2_init 18 = .ok (.aload_n 0, 1) := by decide +kernel
theorem dX2_init_19 : decode cX2_init 19 = .ok (.iconst 4, 1) := by decide +kernel
theorem dX2_init_20 : decode cX2_init 20 = .ok (.anewarray 18, 3) := by decide +kernel
theorem dX2_init_23 : decode cX2_init 23 = .ok (.putfield 20, 3) := by decide +kernel
theorem dX2_init_26 : decode cX2_init 26 = .ok (.aload_n 0, 1) := by decide +kernel
theorem dX2_init_27 : decode cX2_init 27 = .ok (.bipush 26, 2) := by decide +kernel
theorem dX2_init_29 : decode cX2_init 29 = .ok (.newarray .int, 2) := by decide +kernel
theorem dX2_init_31 : decode cX2_init 31 = .ok (.putfield 24, 3) := by decide +kernel
theorem dX2_init_34 : decode cX2_init 34 = .ok (.return_, 1) := by decide +kernel
theorem dX2_clear_0 : decode cX2_clear 0 = .ok (.aload_n 0, 1) := by decide +kernel
theorem dX2_clear_1 : decode cX2_clear 1 = .ok (.iconst 0, 1) := by decide +kernel
theorem dX2_clear_2 : decode cX2_clear 2 = .ok (.putfield 27, 3) := by decide +kernel
theorem dX2_clear_5 : decode cX2_clear 5 = .ok (.aload_n 0, 1) := by decide +kernel
theorem dX2_clear_6 : decode cX2_clear 6 = .ok (.iconst 0, 1) := by decide +kernel
theorem dX2_clear_7 : decode cX2_clear 7 = .ok (.putfield 31, 3) := by decide +kernel
theorem dX2_clear_10 : decode cX2_clear 10 = .ok (.aload_n 0, 1) := by decide +kernel
theorem dX2_clear_11 : decode cX2_clear 11 = .ok (.iconst 0, 1) := by decide +kernel
theorem dX2_clear_12 : decode cX2_clear 12 = .ok (.putfield 34, 3) := by decide +kernel
theorem dX2_clear_15 : decode cX2_clear 15 = .ok (.return_, 1) := by decide +kernel
theorem dX2_become_0 : decode cX2_become 0 = .ok (.aload_n 0, 1) := by decide +kernel
theorem dX2_become_1 : decode cX2_become 1 = .ok (.aload_n 1, 1) := by decide +kernel
theorem dX2_become_2 : decode cX2_become 2 = .ok (.getfield 37, 3) := by decide +kernel
theorem dX2_become_5 : decode cX2_become 5 = .ok (.putfield 37, 3) := by decide +kernel
theorem dX2_become_8 : decode cX2_become 8 = .ok (.aload_n 0, 1) := by decide +kernel
theorem dX2_become_9 : decode cX2_become 9 = .ok (.aload_n 1, 1) := by decide +kernel
theorem dX2_become_10 : decode cX2_become 10 = .ok (.getfield 41, 3) := by decide +kernel
theorem dX2_become_13 : decode cX2_become 13 = .ok (.putfield 41, 3) := by decide +kernel
theorem dX2_become_16 : decode cX2_become 16 = .ok (.aload_n 0, 1) := by decide +kernel
theorem dX2_become_17 : decode cX2_become 17 = .ok (.aload_n 1, 1) := by decide +kernel
theorem dX2_become_18 : decode cX2_become 18 = .ok (.getfield 44, 3) := by decide +kernel
theorem dX2_become_21 : decode cX2_become 21 = .ok (.putfield 44, 3) := by decide +kernel
theorem dX2_become_24 : decode cX2_become 24 = .ok (.aload_n 0, 1) := by decide +kernel
theorem dX2_become_25 : decode cX2_become 25 = .ok (.aload_n 1, 1) := by decide +kernel
theorem dX2_become_26 : decode cX2_become 26 = .ok (.getfield 47, 3) := by decide +kernel
theorem dX2_become_29 : decode cX2_become 29 = .ok (.putfield 47, 3) := by decide +kernel
theorem dX2_become_32 : decode cX2_become 32 = .ok (.aload_n 0, 1) := by decide +kernel
theorem dX2_become_33 : decode cX2_become 33 = .ok (.aload_n 1, 1) := by decide +kernel
theorem dX2_become_34 : decode cX2_become 34 = .ok (.getfield 27, 3) := by decide +kernel
theorem dX2_become_37 : decode cX2_become 37 = .ok (.putfield 27, 3) := by decide +kernel
theorem dX2_become_40 : decode cX2_become 40 = .ok (.aload_n 0, 1) := by decide +kernel
theorem dX2_become_41 : decode cX2_become 41 = .ok (.aload_n 1, 1) := by decide +kernel
theorem dX2_become_42 : decode cX2_become 42 = .ok (.getfield 31, 3) := by decide +kernel
theorem dX2_become_45 : decode cX2_become 45 = .ok (.putfield 31, 3) := by decide +kernel
theorem dX2_become_48 : decode cX2_become 48 = .ok (.aload_n 0, 1) := by decide +kernel
theorem dX2_become_49 : decode cX2_become 49 = .ok (.aload_n 1, 1) := by decide +kernel
theorem dX2_become_50 : decode cX2_become 50 = .ok (.getfield 34, 3) := by decide +kernel
theorem dX2_become_53 : decode cX2_become 53 = .ok (.putfield 34, 3) := by decide +kernel
theorem dX2_become_56 : decode cX2_become 56 = .ok (.iconst 0, 1) := by decide +kernel
theorem dX2_become_57 : decode cX2_become 57 = .ok (.istore_n 2, 1) := by decide +kernel
theorem dX2_become_58 : decode cX2_become 58 = .ok (.iload_n 2, 1) := by decide +kernel
theorem dX2_become_59 : decode cX2_become 59 = .ok (.iconst 4, 1) := by decide +kernel
theorem dX2_become_60 : decode cX2_become 60 = .ok (.if_icmp .ge 45, 3) := by decide +kernel
theorem dX2_become_63 : decode cX2_become 63 = .ok (.aload_n 0, 1) := by decide +kernel
theorem dX2_become_64 : decode cX2_become 64 = .ok (.getfield 9, 3) := by decide +kernel
theorem dX2_become_67 : decode cX2_become 67 = .ok (.iload_n 2, 1) := by decide +kernel
theorem dX2_become_68 : decode cX2_become 68 = .ok (.aload_n 1, 1) := by decide +kernel
theorem dX2_become_69 : decode cX2_become 69 = .ok (.getfield 9, 3) := by decide +kernel
theorem dX2_become_72 : decode cX2_become 72 = .ok (.iload_n 2, 1) := by decide +kernel
theorem dX2_become_73 : decode cX2_become 73 = .ok (.iaload, 1) := by decide +kernel
theorem dX2_become_74 : decode cX2_become 74 = .ok (.iastore, 1) := by decide +kernel
theorem dX2_become_75 : decode cX2_become 75 = .ok (.aload_n 0, 1) := by decide +kernel
theorem dX2_become_76 : decode cX2_become 76 = .ok (.getfield 15, 3) := by decide +kernel
theorem dX2_become_79 : decode cX2_become 79 = .ok (.iload_n 2, 1) := by decide +kernel
theorem dX2_become_80 : decode cX2_become 80 = .ok (.aload_n 1, 1) := by decide +kernel
theorem dX2_become_81 : decode cX2_become 81 = .ok (.getfield 15, 3) := by decide +kernel
theorem dX2_become_84 : decode cX2_become 84 = .ok (.iload_n 2, 1) := by decide +kernel
theorem dX2_become_85 : decode cX2_become 85 = .ok (.iaload, 1) := by decide +kernel
theorem dX2_become_86 : decode cX2_become 86 = .ok (.iastore, 1) := by decide +kernel
theorem dX2_become_87 : decode cX2_become 87 = .ok (.aload_n 0, 1) := by decide +kernel
theorem dX2_become_88 : decode cX2_become 88 = .ok (.getfield 20, 3) := by decide +kernel
theorem dX2_become_91 : decode cX2_become 91 = .ok (.iload_n 2, 1) := by decide +kernel
theorem dX2_become_92 : decode cX2_become 92 = .ok (.aload_n 1, 1) := by decide +kernel
theorem dX2_become_93 : decode cX2_become 93 = .ok (.getfield 20, 3) := by decide +kernel
theorem dX2_become_96 : decode cX2_become 96 = .ok (.iload_n 2, 1) := by decide +kernel
theorem dX2_become_97 : decode cX2_become 97 = .ok (.aaload, 1) := by decide +kernel
theorem dX2_become_98 : decode cX2_become 98 = .ok (.aastore, 1) := by decide +kernel
theorem dX2_become_99 : decode cX2_become 99 = .ok (.iinc 2 1, 3) := by decide +kernel
theorem dX2_become_102 : decode cX2_become 102 = .ok (.goto (-44), 3) := by decide +kernel
theorem dX2_become_105 : decode cX2_become 105 = .ok (.aload_n 1, 1) := by decide +kernel
theorem dX2_become_106 : decode cX2_become 106 = .ok (.getfield 24, 3) := by decide +kernel
theorem dX2_become_109 : decode cX2_become 109 = .ok (.iconst 0, 1) := by decide +kernel
theorem dX2_become_110 : decode cX2_become 110 = .ok (.aload_n 0, 1) := by decide +kernel
theorem dX2_become_111 : decode cX2_become 111 = .ok (.getfield 24, 3) := by decide +kernel
theorem dX2_become_114 : decode cX2_become 114 = .ok (.iconst 0, 1) := by decide +kernel
theorem dX2_become_115 : decode cX2_become 115 = .ok (.aload_n 0, 1) := by decide +kernel
theorem dX2_become_116 : decode cX2_become 116 = .ok (.getfield 24, 3) := by decide +kernel
theorem dX2_become_119 : decode cX2_become 119 = .ok (.arraylength, 1) := by decide +kernel
theorem dX2_become_120 : decode cX2_become 120 = .ok (.invokestatic 50, 3) := by decide +kernel
theorem dX2_become_123 : decode cX2_become 123 = .ok (.return_, 1) := by decide +kernel
theorem dX2_addThing_0 : decode cX2_addThing 0 = .ok (.aload_n 0, 1) := by decide +kernel
theorem dX2_addThing_1 : decode cX2_addThing 1 = .ok (.getfield 27, 3) := by decide +kernel
theorem dX2_addThing_4 : decode cX2_addThing 4 = .ok (.iconst 4, 1) := by decide +kernel
theorem dX2_addThing_5 : decode cX2_addThing 5 = .ok (.if_icmp .lt 4, 3) := by decide +kernel
theorem dX2_addThing_8 : decode cX2_addThing 8 = .ok (.return_, 1) := by decide +kernel
theorem dX2_addThing_9 : decode cX2_addThing 9 = .ok (.aload_n 0, 1) := by decide +kernel
theorem dX2_addThing_10 : decode cX2_addThing 10 = .ok (.getfield 9, 3) := by decide +kernel
theorem dX2_addThing_13 : decode cX2_addThing 13 = .ok (.aload_n 0, 1) := by decide +kernel
theorem dX2_addThing_14 : decode cX2_addThing 14 = .ok (.getfield 27, 3) := by decide +kernel
theorem dX2_addThing_17 : decode cX2_addThing 17 = .ok (.iload_n 1, 1) := by decide +kernel
theorem dX2_addThing_18 : decode cX2_addThing 18 = .ok (.iastore, 1) := by decide +kernel
theorem dX2_addThing_19 : decode cX2_addThing 19 = .ok (.aload_n 0, 1) := by decide +kernel
theorem dX2_addThing_20 : decode cX2_addThing 20 = .ok (.getfield 15, 3) := by decide +kernel
theorem dX2_addThing_23 : decode cX2_addThing 23 = .ok (.aload_n 0, 1) := by decide +kernel
theorem dX2_addThing_24 : decode cX2_addThing 24 = .ok (.getfield 27, 3) := by decide +kernel
theorem dX2_addThing_27 : decode cX2_addThing 27 = .ok (.iload_n 2, 1) := by decide +kernel
theorem dX2_addThing_28 : decode cX2_addThing 28 = .ok (.iastore, 1) := by decide +kernel
theorem dX2_addThing_29 : decode cX2_addThing 29 = .ok (.iload_n 1, 1) := by decide +kernel
theorem dX2_addThing_30 : decode cX2_addThing 30 = .ok (.iconst 4, 1) := by decide +kernel
theorem dX2_addThing_31 : decode cX2_addThing 31 = .ok (.if_icmp .ne 18, 3) := by decide +kernel
theorem dX2_addThing_34 : decode cX2_addThing 34 = .ok (.aload_n 0, 1) := by decide +kernel
theorem dX2_addThing_35 : decode cX2_addThing 35 = .ok (.dup, 1) := by decide +kernel
theorem dX2_addThing_36 : decode cX2_addThing 36 = .ok (.getfield 34, 3) := by decide +kernel
theorem dX2_addThing_39 : decode cX2_addThing 39 = .ok (.iconst 1, 1) := by decide +kernel
theorem dX2_addThing_40 : decode cX2_addThing 40 = .ok (.aload_n 0, 1) := by decide +kernel
theorem dX2_addThing_41 : decode cX2_addThing 41 = .ok (.getfield 27, 3) := by decide +kernel
theorem dX2_addThing_44 : decode cX2_addThing 44 = .ok (.ishl, 1) := by decide +kernel
theorem dX2_addThing_45 : decode cX2_addThing 45 = .ok (.ior, 1) := by decide +kernel
theorem dX2_addThing_46 : decode cX2_addThing 46 = .ok (.putfield 34, 3) := by decide +kernel
theorem dX2_addThing_49 : decode cX2_addThing 49 = .ok (.aload_n 0, 1) := by decide +kernel
theorem dX2_addThing_50 : decode cX2_addThing 50 = .ok (.dup, 1) := by decide +kernel
theorem dX2_addThing_51 : decode cX2_addThing 51 = .ok (.getfield 27, 3) := by decide +kernel
theorem dX2_addThing_54 : decode cX2_addThing 54 = .ok (.iconst 1, 1) := by decide +kernel
theorem dX2_addThing_55 : decode cX2_addThing 55 = .ok (.iadd, 1) := by decide +kernel
theorem dX2_addThing_56 : decode cX2_addThing 56 = .ok (.putfield 27, 3) := by decide +kernel
theorem dX2_addThing_59 : decode cX2_addThing 59 = .ok (.return_, 1) := by decide +kernel
theorem dX2_makeThings_0 : decode cX2_makeThings 0 = .ok (.iconst 0, 1) := by decide +kernel
theorem dX2_makeThings_1 : decode cX2_makeThings 1 = .ok (.istore_n 1, 1) := by decide +kernel
theorem dX2_makeThings_2 : decode cX2_makeThings 2 = .ok (.iload_n 1, 1) := by decide +kernel
theorem dX2_makeThings_3 : decode cX2_makeThings 3 = .ok (.aload_n 0, 1) := by decide +kernel
theorem dX2_makeThings_4 : decode cX2_makeThings 4 = .ok (.getfield 27, 3) := by decide +kernel
theorem dX2_makeThings_7 : decode cX2_makeThings 7 = .ok (.if_icmp .ge 31, 3) := by decide +kernel
theorem dX2_makeThings_10 : decode cX2_makeThings 10 = .ok (.aload_n 0, 1) := by decide +kernel
theorem dX2_makeThings_11 : decode cX2_makeThings 11 = .ok (.getfield 20, 3) := by decide +kernel
theorem dX2_makeThings_14 : decode cX2_makeThings 14 = .ok (.iload_n 1, 1) := by decide +kernel
theorem dX2_makeThings_15 : decode cX2_makeThings 15 = .ok (.aload_n 0, 1) := by decide +kernel
theorem dX2_makeThings_16 : decode cX2_makeThings 16 = .ok (.getfield 9, 3) := by decide +kernel
theorem dX2_makeThings_19 : decode cX2_makeThings 19 = .ok (.iload_n 1, 1) := by decide +kernel
theorem dX2_makeThings_20 : decode cX2_makeThings 20 = .ok (.iaload, 1) := by decide +kernel
theorem dX2_makeThings_21 : decode cX2_makeThings 21 = .ok (.iload_n 1, 1) := by decide +kernel
theorem dX2_makeThings_22 : decode cX2_makeThings 22 = .ok (.aload_n 0, 1) := by decide +kernel
theorem dX2_makeThings_23 : decode cX2_makeThings 23 = .ok (.getfield 15, 3) := by decide +kernel
theorem dX2_makeThings_26 : decode cX2_makeThings 26 = .ok (.iload_n 1, 1) := by decide +kernel
theorem dX2_makeThings_27 : decode cX2_makeThings 27 = .ok (.iaload, 1) := by decide +kernel
theorem dX2_makeThings_28 : decode cX2_makeThings 28 = .ok (.invokestatic 58, 3) := by decide +kernel
theorem dX2_makeThings_31 : decode cX2_makeThings 31 = .ok (.aastore, 1) := by decide +kernel
theorem dX2_makeThings_32 : decode cX2_makeThings 32 = .ok (.iinc 1 1, 3) := by decide +kernel
theorem dX2_makeThings_35 : decode cX2_makeThings 35 = .ok (.goto (-33), 3) := by decide +kernel
theorem dX2_makeThings_38 : decode cX2_makeThings 38 = .ok (.return_, 1) := by decide +kernel
theorem dX2_made_0 : decode cX2_made 0 = .ok (.iload_n 0, 1) := by decide +kernel
theorem dX2_made_1 : decode cX2_made 1 = .ok (.tableswitch 71 2 5 #[31, 41, 51, 61], 31) := by decide +kernel
theorem dX2_made_32 : decode cX2_made 32 = .ok (.new 62, 3) := by decide +kernel
theorem dX2_made_35 : decode cX2_made 35 = .ok (.dup, 1) := by decide +kernel
theorem dX2_made_36 : decode cX2_made 36 = .ok (.iload_n 1, 1) := by decide +kernel
theorem dX2_made_37 : decode cX2_made 37 = .ok (.iload_n 2, 1) := by decide +kernel
theorem dX2_made_38 : decode cX2_made 38 = .ok (.invokespecial 64, 3) := by decide +kernel
theorem dX2_made_41 : decode cX2_made 41 = .ok (.areturn, 1) := by decide +kernel
theorem dX2_made_42 : decode cX2_made 42 = .ok (.new 67, 3) := by decide +kernel
theorem dX2_made_45 : decode cX2_made 45 = .ok (.dup, 1) := by decide +kernel
theorem dX2_made_46 : decode cX2_made 46 = .ok (.iload_n 1, 1) := by decide +kernel
theorem dX2_made_47 : decode cX2_made 47 = .ok (.iload_n 2, 1) := by decide +kernel
theorem dX2_made_48 : decode cX2_made 48 = .ok (.invokespecial 69, 3) := by decide +kernel
theorem dX2_made_51 : decode cX2_made 51 = .ok (.areturn, 1) := by decide +kernel
theorem dX2_made_52 : decode cX2_made 52 = .ok (.new 56, 3) := by decide +kernel
theorem dX2_made_55 : decode cX2_made 55 = .ok (.dup, 1) := by decide +kernel
theorem dX2_made_56 : decode cX2_made 56 = .ok (.iload_n 1, 1) := by decide +kernel
theorem dX2_made_57 : decode cX2_made 57 = .ok (.iload_n 2, 1) := by decide +kernel
theorem dX2_made_58 : decode cX2_made 58 = .ok (.invokespecial 70, 3) := by decide +kernel
theorem dX2_made_61 : decode cX2_made 61 = .ok (.areturn, 1) := by decide +kernel
theorem dX2_made_62 : decode cX2_made 62 = .ok (.new 71, 3) := by decide +kernel
theorem dX2_made_65 : decode cX2_made 65 = .ok (.dup, 1) := by decide +kernel
theorem dX2_made_66 : decode cX2_made 66 = .ok (.iload_n 1, 1) := by decide +kernel
theorem dX2_made_67 : decode cX2_made 67 = .ok (.iload_n 2, 1) := by decide +kernel
theorem dX2_made_68 : decode cX2_made 68 = .ok (.invokespecial 73, 3) := by decide +kernel
theorem dX2_made_71 : decode cX2_made 71 = .ok (.areturn, 1) := by decide +kernel
theorem dX2_made_72 : decode cX2_made 72 = .ok (.new 74, 3) := by decide +kernel
theorem dX2_made_75 : decode cX2_made 75 = .ok (.dup, 1) := by decide +kernel
theorem dX2_made_76 : decode cX2_made 76 = .ok (.iload_n 1, 1) := by decide +kernel
theorem dX2_made_77 : decode cX2_made 77 = .ok (.iload_n 2, 1) := by decide +kernel
theorem dX2_made_78 : decode cX2_made 78 = .ok (.invokespecial 76, 3) := by decide +kernel
theorem dX2_made_81 : decode cX2_made 81 = .ok (.areturn, 1) := by decide +kernel
theorem dX2_addDay_0 : decode cX2_addDay 0 = .ok (.aload_n 0, 1) := by decide +kernel
theorem dX2_addDay_1 : decode cX2_addDay 1 = .ok (.getfield 31, 3) := by decide +kernel
theorem dX2_addDay_4 : decode cX2_addDay 4 = .ok (.bipush 24, 2) := by decide +kernel
theorem dX2_addDay_6 : decode cX2_addDay 6 = .ok (.if_icmp .lt 4, 3) := by decide +kernel
theorem dX2_addDay_9 : decode cX2_addDay 9 = .ok (.return_, 1) := by decide +kernel
theorem dX2_addDay_10 : decode cX2_addDay 10 = .ok (.aload_n 0, 1) := by decide +kernel
theorem dX2_addDay_11 : decode cX2_addDay 11 = .ok (.getfield 24, 3) := by decide +kernel
theorem dX2_addDay_14 : decode cX2_addDay 14 = .ok (.aload_n 0, 1) := by decide +kernel
theorem dX2_addDay_15 : decode cX2_addDay 15 = .ok (.getfield 31, 3) := by decide +kernel
theorem dX2_addDay_18 : decode cX2_addDay 18 = .ok (.iload_n 1, 1) := by decide +kernel
theorem dX2_addDay_19 : decode cX2_addDay 19 = .ok (.iastore, 1) := by decide +kernel
theorem dX2_addDay_20 : decode cX2_addDay 20 = .ok (.aload_n 0, 1) := by decide +kernel
theorem dX2_addDay_21 : decode cX2_addDay 21 = .ok (.dup, 1) := by decide +kernel
theorem dX2_addDay_22 : decode cX2_addDay 22 = .ok (.getfield 31, 3) := by decide +kernel
theorem dX2_addDay_25 : decode cX2_addDay 25 = .ok (.iconst 1, 1) := by decide +kernel
theorem dX2_addDay_26 : decode cX2_addDay 26 = .ok (.iadd, 1) := by decide +kernel
theorem dX2_addDay_27 : decode cX2_addDay 27 = .ok (.putfield 31, 3) := by decide +kernel
theorem dX2_addDay_30 : decode cX2_addDay 30 = .ok (.return_, 1) := by decide +kernel
theorem dX2_allThings_0 : decode cX2_allThings 0 = .ok (.iconst 1, 1) := by decide +kernel
theorem dX2_allThings_1 : decode cX2_allThings 1 = .ok (.aload_n 0, 1) := by decide +kernel
theorem dX2_allThings_2 : decode cX2_allThings 2 = .ok (.getfield 27, 3) := by decide +kernel
theorem dX2_allThings_5 : decode cX2_allThings 5 = .ok (.ishl, 1) := by decide +kernel
theorem dX2_allThings_6 : decode cX2_allThings 6 = .ok (.iconst 1, 1) := by decide +kernel
theorem dX2_allThings_7 : decode cX2_allThings 7 = .ok (.isub, 1) := by decide +kernel
theorem dX2_allThings_8 : decode cX2_allThings 8 = .ok (.ireturn, 1) := by decide +kernel
theorem dX2_canLay_0 : decode cX2_canLay 0 = .ok (.iload_n 1, 1) := by decide +kernel
theorem dX2_canLay_1 : decode cX2_canLay 1 = .ok (.ifCond .lt 15, 3) := by decide +kernel
theorem dX2_canLay_4 : decode cX2_canLay 4 = .ok (.iload_n 1, 1) := by decide +kernel
theorem dX2_canLay_5 : decode cX2_canLay 5 = .ok (.aload_n 0, 1) := by decide +kernel
theorem dX2_canLay_6 : decode cX2_canLay 6 = .ok (.invokevirtual 77, 3) := by decide +kernel
theorem dX2_canLay_9 : decode cX2_canLay 9 = .ok (.if_icmp .gt 7, 3) := by decide +kernel
theorem dX2_canLay_12 : decode cX2_canLay 12 = .ok (.iconst 1, 1) := by decide +kernel
theorem dX2_canLay_13 : decode cX2_canLay 13 = .ok (.goto 4, 3) := by decide +kernel
theorem dX2_canLay_16 : decode cX2_canLay 16 = .ok (.iconst 0, 1) := by decide +kernel
theorem dX2_canLay_17 : decode cX2_canLay 17 = .ok (.ireturn, 1) := by decide +kernel
theorem dX2_thingAt_0 : decode cX2_thingAt 0 = .ok (.iload_n 1, 1) := by decide +kernel
theorem dX2_thingAt_1 : decode cX2_thingAt 1 = .ok (.ifCond .lt 20, 3) := by decide +kernel
theorem dX2_thingAt_4 : decode cX2_thingAt 4 = .ok (.iload_n 1, 1) := by decide +kernel
theorem dX2_thingAt_5 : decode cX2_thingAt 5 = .ok (.aload_n 0, 1) := by decide +kernel
theorem dX2_thingAt_6 : decode cX2_thingAt 6 = .ok (.getfield 27, 3) := by decide +kernel
theorem dX2_thingAt_9 : decode cX2_thingAt 9 = .ok (.if_icmp .ge 12, 3) := by decide +kernel
theorem dX2_thingAt_12 : decode cX2_thingAt 12 = .ok (.aload_n 0, 1) := by decide +kernel
theorem dX2_thingAt_13 : decode cX2_thingAt 13 = .ok (.getfield 20, 3) := by decide +kernel
theorem dX2_thingAt_16 : decode cX2_thingAt 16 = .ok (.iload_n 1, 1) := by decide +kernel
theorem dX2_thingAt_17 : decode cX2_thingAt 17 = .ok (.aaload, 1) := by decide +kernel
theorem dX2_thingAt_18 : decode cX2_thingAt 18 = .ok (.goto 4, 3) := by decide +kernel
theorem dX2_thingAt_21 : decode cX2_thingAt 21 = .ok (.aconst_null, 1) := by decide +kernel
theorem dX2_thingAt_22 : decode cX2_thingAt 22 = .ok (.areturn, 1) := by decide +kernel
theorem dX2_hasDay_0 : decode cX2_hasDay 0 = .ok (.iload_n 1, 1) := by decide +kernel
theorem dX2_hasDay_1 : decode cX2_hasDay 1 = .ok (.ifCond .lt 15, 3) := by decide +kernel
theorem dX2_hasDay_4 : decode cX2_hasDay 4 = .ok (.iload_n 1, 1) := by decide +kernel
theorem dX2_hasDay_5 : decode cX2_hasDay 5 = .ok (.aload_n 0, 1) := by decide +kernel
theorem dX2_hasDay_6 : decode cX2_hasDay 6 = .ok (.getfield 31, 3) := by decide +kernel
theorem dX2_hasDay_9 : decode cX2_hasDay 9 = .ok (.if_icmp .ge 7, 3) := by decide +kernel
theorem dX2_hasDay_12 : decode cX2_hasDay 12 = .ok (.iconst 1, 1) := by decide +kernel
theorem dX2_hasDay_13 : decode cX2_hasDay 13 = .ok (.goto 4, 3) := by decide +kernel
theorem dX2_hasDay_16 : decode cX2_hasDay 16 = .ok (.iconst 0, 1) := by decide +kernel
theorem dX2_hasDay_17 : decode cX2_hasDay 17 = .ok (.ireturn, 1) := by decide +kernel
theorem dX2_liesOn_0 : decode cX2_liesOn 0 = .ok (.aload_n 0, 1) := by decide +kernel
theorem dX2_liesOn_1 : decode cX2_liesOn 1 = .ok (.getfield 24, 3) := by decide +kernel
theorem dX2_liesOn_4 : decode cX2_liesOn 4 = .ok (.iload_n 2, 1) := by decide +kernel
theorem dX2_liesOn_5 : decode cX2_liesOn 5 = .ok (.iaload, 1) := by decide +kernel
theorem dX2_liesOn_6 : decode cX2_liesOn 6 = .ok (.iload_n 1, 1) := by decide +kernel
theorem dX2_liesOn_7 : decode cX2_liesOn 7 = .ok (.ishr, 1) := by decide +kernel
theorem dX2_liesOn_8 : decode cX2_liesOn 8 = .ok (.iconst 1, 1) := by decide +kernel
theorem dX2_liesOn_9 : decode cX2_liesOn 9 = .ok (.iand, 1) := by decide +kernel
theorem dX2_liesOn_10 : decode cX2_liesOn 10 = .ok (.ifCond .eq 7, 3) := by decide +kernel
theorem dX2_liesOn_13 : decode cX2_liesOn 13 = .ok (.iconst 1, 1) := by decide +kernel
theorem dX2_liesOn_14 : decode cX2_liesOn 14 = .ok (.goto 4, 3) := by decide +kernel
theorem dX2_liesOn_17 : decode cX2_liesOn 17 = .ok (.iconst 0, 1) := by decide +kernel
theorem dX2_liesOn_18 : decode cX2_liesOn 18 = .ok (.ireturn, 1) := by decide +kernel
theorem dX2_isFresh_0 : decode cX2_isFresh 0 = .ok (.aload_n 0, 1) := by decide +kernel
theorem dX2_isFresh_1 : decode cX2_isFresh 1 = .ok (.getfield 24, 3) := by decide +kernel
theorem dX2_isFresh_4 : decode cX2_isFresh 4 = .ok (.iload_n 1, 1) := by decide +kernel
theorem dX2_isFresh_5 : decode cX2_isFresh 5 = .ok (.iaload, 1) := by decide +kernel
theorem dX2_isFresh_6 : decode cX2_isFresh 6 = .ok (.aload_n 0, 1) := by decide +kernel
theorem dX2_isFresh_7 : decode cX2_isFresh 7 = .ok (.getfield 34, 3) := by decide +kernel
theorem dX2_isFresh_10 : decode cX2_isFresh 10 = .ok (.iand, 1) := by decide +kernel
theorem dX2_isFresh_11 : decode cX2_isFresh 11 = .ok (.ifCond .eq 7, 3) := by decide +kernel
theorem dX2_isFresh_14 : decode cX2_isFresh 14 = .ok (.iconst 1, 1) := by decide +kernel
theorem dX2_isFresh_15 : decode cX2_isFresh 15 = .ok (.goto 4, 3) := by decide +kernel
theorem dX2_isFresh_18 : decode cX2_isFresh 18 = .ok (.iconst 0, 1) := by decide +kernel
theorem dX2_isFresh_19 : decode cX2_isFresh 19 = .ok (.ireturn, 1) := by decide +kernel
theorem dX2_loadOn_0 : decode cX2_loadOn 0 = .ok (.iconst 0, 1) := by decide +kernel
theorem dX2_loadOn_1 : decode cX2_loadOn 1 = .ok (.istore_n 2, 1) := by decide +kernel
theorem dX2_loadOn_2 : decode cX2_loadOn 2 = .ok (.iconst 0, 1) := by decide +kernel
theorem dX2_loadOn_3 : decode cX2_loadOn 3 = .ok (.istore_n 3, 1) := by decide +kernel
theorem dX2_loadOn_4 : decode cX2_loadOn 4 = .ok (.iload_n 3, 1) := by decide +kernel
theorem dX2_loadOn_5 : decode cX2_loadOn 5 = .ok (.aload_n 0, 1) := by decide +kernel
theorem dX2_loadOn_6 : decode cX2_loadOn 6 = .ok (.getfield 27, 3) := by decide +kernel
theorem dX2_loadOn_9 : decode cX2_loadOn 9 = .ok (.if_icmp .ge 45, 3) := by decide +kernel
theorem dX2_loadOn_12 : decode cX2_loadOn 12 = .ok (.aload_n 0, 1) := by decide +kernel
theorem dX2_loadOn_13 : decode cX2_loadOn 13 = .ok (.getfield 20, 3) := by decide +kernel
theorem dX2_loadOn_16 : decode cX2_loadOn 16 = .ok (.iload_n 3, 1) := by decide +kernel
theorem dX2_loadOn_17 : decode cX2_loadOn 17 = .ok (.aaload, 1) := by decide +kernel
theorem dX2_loadOn_18 : decode cX2_loadOn 18 = .ok (.astore 4, 2) := by decide +kernel
theorem dX2_loadOn_20 : decode cX2_loadOn 20 = .ok (.aload 4, 2) := by decide +kernel
theorem dX2_loadOn_22 : decode cX2_loadOn 22 = .ok (.ifnull 26, 3) := by decide +kernel
theorem dX2_loadOn_25 : decode cX2_loadOn 25 = .ok (.aload_n 0, 1) := by decide +kernel
theorem dX2_loadOn_26 : decode cX2_loadOn 26 = .ok (.iload_n 3, 1) := by decide +kernel
theorem dX2_loadOn_27 : decode cX2_loadOn 27 = .ok (.iload_n 1, 1) := by decide +kernel
theorem dX2_loadOn_28 : decode cX2_loadOn 28 = .ok (.invokevirtual 81, 3) := by decide +kernel
theorem dX2_loadOn_31 : decode cX2_loadOn 31 = .ok (.ifCond .eq 17, 3) := by decide +kernel
theorem dX2_loadOn_34 : decode cX2_loadOn 34 = .ok (.iload_n 2, 1) := by decide +kernel
theorem dX2_loadOn_35 : decode cX2_loadOn 35 = .ok (.aload 4, 2) := by decide +kernel
theorem dX2_loadOn_37 : decode cX2_loadOn 37 = .ok (.aload 4, 2) := by decide +kernel
theorem dX2_loadOn_39 : decode cX2_loadOn 39 = .ok (.getfield 85, 3) := by decide +kernel
theorem dX2_loadOn_42 : decode cX2_loadOn 42 = .ok (.iload_n 1, 1) := by decide +kernel
theorem dX2_loadOn_43 : decode cX2_loadOn 43 = .ok (.invokevirtual 88, 3) := by decide +kernel
theorem dX2_loadOn_46 : decode cX2_loadOn 46 = .ok (.iadd, 1) := by decide +kernel
theorem dX2_loadOn_47 : decode cX2_loadOn 47 = .ok (.istore_n 2, 1) := by decide +kernel
theorem dX2_loadOn_48 : decode cX2_loadOn 48 = .ok (.iinc 3 1, 3) := by decide +kernel
theorem dX2_loadOn_51 : decode cX2_loadOn 51 = .ok (.goto (-47), 3) := by decide +kernel
theorem dX2_loadOn_54 : decode cX2_loadOn 54 = .ok (.iload_n 2, 1) := by decide +kernel
theorem dX2_loadOn_55 : decode cX2_loadOn 55 = .ok (.ireturn, 1) := by decide +kernel
theorem dX2_reachOf_0 : decode cX2_reachOf 0 = .ok (.iconst 0, 1) := by decide +kernel
theorem dX2_reachOf_1 : decode cX2_reachOf 1 = .ok (.istore_n 3, 1) := by decide +kernel
theorem dX2_reachOf_2 : decode cX2_reachOf 2 = .ok (.iload_n 3, 1) := by decide +kernel
theorem dX2_reachOf_3 : decode cX2_reachOf 3 = .ok (.iload_n 2, 1) := by decide +kernel
theorem dX2_reachOf_4 : decode cX2_reachOf 4 = .ok (.if_icmp .ge 25, 3) := by decide +kernel
theorem dX2_reachOf_7 : decode cX2_reachOf 7 = .ok (.iload_n 1, 1) := by decide +kernel
theorem dX2_reachOf_8 : decode cX2_reachOf 8 = .ok (.iload_n 3, 1) := by decide +kernel
theorem dX2_reachOf_9 : decode cX2_reachOf 9 = .ok (.isub, 1) := by decide +kernel
theorem dX2_reachOf_10 : decode cX2_reachOf 10 = .ok (.ifCond .le 19, 3) := by decide +kernel
theorem dX2_reachOf_13 : decode cX2_reachOf 13 = .ok (.aload_n 0, 1) := by decide +kernel
theorem dX2_reachOf_14 : decode cX2_reachOf 14 = .ok (.iload_n 1, 1) := by decide +kernel
theorem dX2_reachOf_15 : decode cX2_reachOf 15 = .ok (.iload_n 3, 1) := by decide +kernel
theorem dX2_reachOf_16 : decode cX2_reachOf 16 = .ok (.isub, 1) := by decide +kernel
theorem dX2_reachOf_17 : decode cX2_reachOf 17 = .ok (.invokevirtual 92, 3) := by decide +kernel
theorem dX2_reachOf_20 : decode cX2_reachOf 20 = .ok (.ifCond .ne 9, 3) := by decide +kernel
theorem dX2_reachOf_23 : decode cX2_reachOf 23 = .ok (.iinc 3 1, 3) := by decide +kernel
theorem dX2_reachOf_26 : decode cX2_reachOf 26 = .ok (.goto (-24), 3) := by decide +kernel
theorem dX2_reachOf_29 : decode cX2_reachOf 29 = .ok (.iload_n 3, 1) := by decide +kernel
theorem dX2_reachOf_30 : decode cX2_reachOf 30 = .ok (.ireturn, 1) := by decide +kernel
theorem dX2_shownOn_0 : decode cX2_shownOn 0 = .ok (.aload_n 0, 1) := by decide +kernel
theorem dX2_shownOn_1 : decode cX2_shownOn 1 = .ok (.iload_n 1, 1) := by decide +kernel
theorem dX2_shownOn_2 : decode cX2_shownOn 2 = .ok (.aload_n 0, 1) := by decide +kernel
theorem dX2_shownOn_3 : decode cX2_shownOn 3 = .ok (.getfield 41, 3) := by decide +kernel
theorem dX2_shownOn_6 : decode cX2_shownOn 6 = .ok (.aload_n 0, 1) := by decide +kernel
theorem dX2_shownOn_7 : decode cX2_shownOn 7 = .ok (.getfield 44, 3) := by decide +kernel
theorem dX2_shownOn_10 : decode cX2_shownOn 10 = .ok (.iconst (-1), 1) := by decide +kernel
theorem dX2_shownOn_11 : decode cX2_shownOn 11 = .ok (.invokevirtual 96, 3) := by decide +kernel
theorem dX2_shownOn_14 : decode cX2_shownOn 14 = .ok (.ireturn, 1) := by decide +kernel
theorem dX2_shownBy_0 : decode cX2_shownBy 0 = .ok (.iconst 0, 1) := by decide +kernel
theorem dX2_shownBy_1 : decode cX2_shownBy 1 = .ok (.istore 5, 2) := by decide +kernel
theorem dX2_shownBy_3 : decode cX2_shownBy 3 = .ok (.aload_n 0, 1) := by decide +kernel
theorem dX2_shownBy_4 : decode cX2_shownBy 4 = .ok (.iload_n 1, 1) := by decide +kernel
theorem dX2_shownBy_5 : decode cX2_shownBy 5 = .ok (.iload_n 2, 1) := by decide +kernel
theorem dX2_shownBy_6 : decode cX2_shownBy 6 = .ok (.invokevirtual 100, 3) := by decide +kernel
theorem dX2_shownBy_9 : decode cX2_shownBy 9 = .ok (.istore 6, 2) := by decide +kernel
theorem dX2_shownBy_11 : decode cX2_shownBy 11 = .ok (.iconst 0, 1) := by decide +kernel
theorem dX2_shownBy_12 : decode cX2_shownBy 12 = .ok (.istore 7, 2) := by decide +kernel
theorem dX2_shownBy_14 : decode cX2_shownBy 14 = .ok (.iload 7, 2) := by decide +kernel
theorem dX2_shownBy_16 : decode cX2_shownBy 16 = .ok (.iload 6, 2) := by decide +kernel
theorem dX2_shownBy_18 : decode cX2_shownBy 18 = .ok (.if_icmp .gt 43, 3) := by decide +kernel
theorem dX2_shownBy_21 : decode cX2_shownBy 21 = .ok (.aload_n 0, 1) := by decide +kernel
theorem dX2_shownBy_22 : decode cX2_shownBy 22 = .ok (.iload_n 1, 1) := by decide +kernel
theorem dX2_shownBy_23 : decode cX2_shownBy 23 = .ok (.iload 7, 2) := by decide +kernel
theorem dX2_shownBy_25 : decode cX2_shownBy 25 = .ok (.isub, 1) := by decide +kernel
theorem dX2_shownBy_26 : decode cX2_shownBy 26 = .ok (.invokevirtual 103, 3) := by decide +kernel
theorem dX2_shownBy_29 : decode cX2_shownBy 29 = .ok (.istore 8, 2) := by decide +kernel
theorem dX2_shownBy_31 : decode cX2_shownBy 31 = .ok (.iload_n 1, 1) := by decide +kernel
theorem dX2_shownBy_32 : decode cX2_shownBy 32 = .ok (.iload 7, 2) := by decide +kernel
theorem dX2_shownBy_34 : decode cX2_shownBy 34 = .ok (.isub, 1) := by decide +kernel
theorem dX2_shownBy_35 : decode cX2_shownBy 35 = .ok (.iload 4, 2) := by decide +kernel
theorem dX2_shownBy_37 : decode cX2_shownBy 37 = .ok (.if_icmp .ne 6, 3) := by decide +kernel
theorem dX2_shownBy_40 : decode cX2_shownBy 40 = .ok (.iinc 8 1, 3) := by decide +kernel
theorem dX2_shownBy_43 : decode cX2_shownBy 43 = .ok (.iload 5, 2) := by decide +kernel
theorem dX2_shownBy_45 : decode cX2_shownBy 45 = .ok (.iload 8, 2) := by decide +kernel
theorem dX2_shownBy_47 : decode cX2_shownBy 47 = .ok (.iload 7, 2) := by decide +kernel
theorem dX2_shownBy_49 : decode cX2_shownBy 49 = .ok (.iload_n 3, 1) := by decide +kernel
theorem dX2_shownBy_50 : decode cX2_shownBy 50 = .ok (.imul, 1) := by decide +kernel
theorem dX2_shownBy_51 : decode cX2_shownBy 51 = .ok (.ishr, 1) := by decide +kernel
theorem dX2_shownBy_52 : decode cX2_shownBy 52 = .ok (.iadd, 1) := by decide +kernel
theorem dX2_shownBy_53 : decode cX2_shownBy 53 = .ok (.istore 5, 2) := by decide +kernel
theorem dX2_shownBy_55 : decode cX2_shownBy 55 = .ok (.iinc 7 1, 3) := by decide +kernel
theorem dX2_shownBy_58 : decode cX2_shownBy 58 = .ok (.goto (-44), 3) := by decide +kernel
theorem dX2_shownBy_61 : decode cX2_shownBy 61 = .ok (.iload 5, 2) := by decide +kernel
theorem dX2_shownBy_63 : decode cX2_shownBy 63 = .ok (.aload_n 0, 1) := by decide +kernel
theorem dX2_shownBy_64 : decode cX2_shownBy 64 = .ok (.getfield 47, 3) := by decide +kernel
theorem dX2_shownBy_67 : decode cX2_shownBy 67 = .ok (.invokestatic 107, 3) := by decide +kernel
theorem dX2_shownBy_70 : decode cX2_shownBy 70 = .ok (.ireturn, 1) := by decide +kernel
theorem dX2_changedBy_0 : decode cX2_changedBy 0 = .ok (.iconst 0, 1) := by decide +kernel
theorem dX2_changedBy_1 : decode cX2_changedBy 1 = .ok (.istore_n 2, 1) := by decide +kernel
theorem dX2_changedBy_2 : decode cX2_changedBy 2 = .ok (.iconst 0, 1) := by decide +kernel
theorem dX2_changedBy_3 : decode cX2_changedBy 3 = .ok (.istore_n 3, 1) := by decide +kernel
theorem dX2_changedBy_4 : decode cX2_changedBy 4 = .ok (.iload_n 3, 1) := by decide +kernel
theorem dX2_changedBy_5 : decode cX2_changedBy 5 = .ok (.aload_n 0, 1) := by decide +kernel
theorem dX2_changedBy_6 : decode cX2_changedBy 6 = .ok (.getfield 31, 3) := by decide +kernel
theorem dX2_changedBy_9 : decode cX2_changedBy 9 = .ok (.if_icmp .ge 37, 3) := by decide +kernel
theorem dX2_changedBy_12 : decode cX2_changedBy 12 = .ok (.aload_n 0, 1) := by decide +kernel
theorem dX2_changedBy_13 : decode cX2_changedBy 13 = .ok (.iload_n 3, 1) := by decide +kernel
theorem dX2_changedBy_14 : decode cX2_changedBy 14 = .ok (.aload_n 0, 1) := by decide +kernel
theorem dX2_changedBy_15 : decode cX2_changedBy 15 = .ok (.getfield 41, 3) := by decide +kernel
theorem dX2_changedBy_18 : decode cX2_changedBy 18 = .ok (.aload_n 0, 1) := by decide +kernel
theorem dX2_changedBy_19 : decode cX2_changedBy 19 = .ok (.getfield 44, 3) := by decide +kernel
theorem dX2_changedBy_22 : decode cX2_changedBy 22 = .ok (.iload_n 1, 1) := by decide +kernel
theorem dX2_changedBy_23 : decode cX2_changedBy 23 = .ok (.invokevirtual 96, 3) := by decide +kernel
theorem dX2_changedBy_26 : decode cX2_changedBy 26 = .ok (.aload_n 0, 1) := by decide +kernel
theorem dX2_changedBy_27 : decode cX2_changedBy 27 = .ok (.iload_n 3, 1) := by decide +kernel
theorem dX2_changedBy_28 : decode cX2_changedBy 28 = .ok (.invokevirtual 110, 3) := by decide +kernel
theorem dX2_changedBy_31 : decode cX2_changedBy 31 = .ok (.if_icmp .eq 9, 3) := by decide +kernel
theorem dX2_changedBy_34 : decode cX2_changedBy 34 = .ok (.iload_n 2, 1) := by decide +kernel
theorem dX2_changedBy_35 : decode cX2_changedBy 35 = .ok (.iconst 1, 1) := by decide +kernel
theorem dX2_changedBy_36 : decode cX2_changedBy 36 = .ok (.iload_n 3, 1) := by decide +kernel
theorem dX2_changedBy_37 : decode cX2_changedBy 37 = .ok (.ishl, 1) := by decide +kernel
theorem dX2_changedBy_38 : decode cX2_changedBy 38 = .ok (.ior, 1) := by decide +kernel
theorem dX2_changedBy_39 : decode cX2_changedBy 39 = .ok (.istore_n 2, 1) := by decide +kernel
theorem dX2_changedBy_40 : decode cX2_changedBy 40 = .ok (.iinc 3 1, 3) := by decide +kernel
theorem dX2_changedBy_43 : decode cX2_changedBy 43 = .ok (.goto (-39), 3) := by decide +kernel
theorem dX2_changedBy_46 : decode cX2_changedBy 46 = .ok (.iload_n 2, 1) := by decide +kernel
theorem dX2_changedBy_47 : decode cX2_changedBy 47 = .ok (.ireturn, 1) := by decide +kernel
theorem dX2_lawsTelling_0 : decode cX2_lawsTelling 0 = .ok (.iconst 0, 1) := by decide +kernel
theorem dX2_lawsTelling_1 : decode cX2_lawsTelling 1 = .ok (.istore_n 2, 1) := by decide +kernel
theorem dX2_lawsTelling_2 : decode cX2_lawsTelling 2 = .ok (.iconst 0, 1) := by decide +kernel
theorem dX2_lawsTelling_3 : decode cX2_lawsTelling 3 = .ok (.istore_n 3, 1) := by decide +kernel
theorem dX2_lawsTelling_4 : decode cX2_lawsTelling 4 = .ok (.iload_n 3, 1) := by decide +kernel
theorem dX2_lawsTelling_5 : decode cX2_lawsTelling 5 = .ok (.bipush 8, 2) := by decide +kernel
theorem dX2_lawsTelling_7 : decode cX2_lawsTelling 7 = .ok (.if_icmp .ge 29, 3) := by decide +kernel
theorem dX2_lawsTelling_10 : decode cX2_lawsTelling 10 = .ok (.aload_n 0, 1) := by decide +kernel
theorem dX2_lawsTelling_11 : decode cX2_lawsTelling 11 = .ok (.iload_n 3, 1) := by decide +kernel
theorem dX2_lawsTelling_12 : decode cX2_lawsTelling 12 = .ok (.iconst 4, 1) := by decide +kernel
theorem dX2_lawsTelling_13 : decode cX2_lawsTelling 13 = .ok (.irem, 1) := by decide +kernel
theorem dX2_lawsTelling_14 : decode cX2_lawsTelling 14 = .ok (.iload_n 3, 1) := by decide +kernel
theorem dX2_lawsTelling_15 : decode cX2_lawsTelling 15 = .ok (.iconst 4, 1) := by decide +kernel
theorem dX2_lawsTelling_16 : decode cX2_lawsTelling 16 = .ok (.idiv, 1) := by decide +kernel
theorem dX2_lawsTelling_17 : decode cX2_lawsTelling 17 = .ok (.aload_n 1, 1) := by decide +kernel
theorem dX2_lawsTelling_18 : decode cX2_lawsTelling 18 = .ok (.invokevirtual 113, 3) := by decide +kernel
theorem dX2_lawsTelling_21 : decode cX2_lawsTelling 21 = .ok (.ifCond .eq 9, 3) := by decide +kernel
theorem dX2_lawsTelling_24 : decode cX2_lawsTelling 24 = .ok (.iload_n 2, 1) := by decide +kernel
theorem dX2_lawsTelling_25 : decode cX2_lawsTelling 25 = .ok (.iconst 1, 1) := by decide +kernel
theorem dX2_lawsTelling_26 : decode cX2_lawsTelling 26 = .ok (.iload_n 3, 1) := by decide +kernel
theorem dX2_lawsTelling_27 : decode cX2_lawsTelling 27 = .ok (.ishl, 1) := by decide +kernel
theorem dX2_lawsTelling_28 : decode cX2_lawsTelling 28 = .ok (.ior, 1) := by decide +kernel
theorem dX2_lawsTelling_29 : decode cX2_lawsTelling 29 = .ok (.istore_n 2, 1) := by decide +kernel
theorem dX2_lawsTelling_30 : decode cX2_lawsTelling 30 = .ok (.iinc 3 1, 3) := by decide +kernel
theorem dX2_lawsTelling_33 : decode cX2_lawsTelling 33 = .ok (.goto (-29), 3) := by decide +kernel
theorem dX2_lawsTelling_36 : decode cX2_lawsTelling 36 = .ok (.iload_n 2, 1) := by decide +kernel
theorem dX2_lawsTelling_37 : decode cX2_lawsTelling 37 = .ok (.ireturn, 1) := by decide +kernel
theorem dX2_tellsBy_0 : decode cX2_tellsBy 0 = .ok (.iconst 0, 1) := by decide +kernel
theorem dX2_tellsBy_1 : decode cX2_tellsBy 1 = .ok (.istore 4, 2) := by decide +kernel
theorem dX2_tellsBy_3 : decode cX2_tellsBy 3 = .ok (.iload 4, 2) := by decide +kernel
theorem dX2_tellsBy_5 : decode cX2_tellsBy 5 = .ok (.aload_n 0, 1) := by decide +kernel
theorem dX2_tellsBy_6 : decode cX2_tellsBy 6 = .ok (.getfield 31, 3) := by decide +kernel
theorem dX2_tellsBy_9 : decode cX2_tellsBy 9 = .ok (.if_icmp .ge 35, 3) := by decide +kernel
theorem dX2_tellsBy_12 : decode cX2_tellsBy 12 = .ok (.aload_n 3, 1) := by decide +kernel
theorem dX2_tellsBy_13 : decode cX2_tellsBy 13 = .ok (.iload 4, 2) := by decide +kernel
theorem dX2_tellsBy_15 : decode cX2_tellsBy 15 = .ok (.iaload, 1) := by decide +kernel
theorem dX2_tellsBy_16 : decode cX2_tellsBy 16 = .ok (.iconst (-1), 1) := by decide +kernel
theorem dX2_tellsBy_17 : decode cX2_tellsBy 17 = .ok (.if_icmp .eq 21, 3) := by decide +kernel
theorem dX2_tellsBy_20 : decode cX2_tellsBy 20 = .ok (.aload_n 3, 1) := by decide +kernel
theorem dX2_tellsBy_21 : decode cX2_tellsBy 21 = .ok (.iload 4, 2) := by decide +kernel
theorem dX2_tellsBy_23 : decode cX2_tellsBy 23 = .ok (.iaload, 1) := by decide +kernel
theorem dX2_tellsBy_24 : decode cX2_tellsBy 24 = .ok (.aload_n 0, 1) := by decide +kernel
theorem dX2_tellsBy_25 : decode cX2_tellsBy 25 = .ok (.iload 4, 2) := by decide +kernel
theorem dX2_tellsBy_27 : decode cX2_tellsBy 27 = .ok (.iload_n 1, 1) := by decide +kernel
theorem dX2_tellsBy_28 : decode cX2_tellsBy 28 = .ok (.iload_n 2, 1) := by decide +kernel
theorem dX2_tellsBy_29 : decode cX2_tellsBy 29 = .ok (.iconst (-1), 1) := by decide +kernel
theorem dX2_tellsBy_30 : decode cX2_tellsBy 30 = .ok (.invokevirtual 96, 3) := by decide +kernel
theorem dX2_tellsBy_33 : decode cX2_tellsBy 33 = .ok (.if_icmp .eq 5, 3) := by decide +kernel
theorem dX2_tellsBy_36 : decode cX2_tellsBy 36 = .ok (.iconst 0, 1) := by decide +kernel
theorem dX2_tellsBy_37 : decode cX2_tellsBy 37 = .ok (.ireturn, 1) := by decide +kernel
theorem dX2_tellsBy_38 : decode cX2_tellsBy 38 = .ok (.iinc 4 1, 3) := by decide +kernel
theorem dX2_tellsBy_41 : decode cX2_tellsBy 41 = .ok (.goto (-38), 3) := by decide +kernel
theorem dX2_tellsBy_44 : decode cX2_tellsBy 44 = .ok (.iconst 1, 1) := by decide +kernel
theorem dX2_tellsBy_45 : decode cX2_tellsBy 45 = .ok (.ireturn, 1) := by decide +kernel
theorem dX2_leftOver_0 : decode cX2_leftOver 0 = .ok (.iload_n 1, 1) := by decide +kernel
theorem dX2_leftOver_1 : decode cX2_leftOver 1 = .ok (.ifCond .le 9, 3) := by decide +kernel
theorem dX2_leftOver_4 : decode cX2_leftOver 4 = .ok (.iload_n 0, 1) := by decide +kernel
theorem dX2_leftOver_5 : decode cX2_leftOver 5 = .ok (.iload_n 1, 1) := by decide +kernel
theorem dX2_leftOver_6 : decode cX2_leftOver 6 = .ok (.irem, 1) := by decide +kernel
theorem dX2_leftOver_7 : decode cX2_leftOver 7 = .ok (.goto 4, 3) := by decide +kernel
theorem dX2_leftOver_10 : decode cX2_leftOver 10 = .ok (.iload_n 0, 1) := by decide +kernel
theorem dX2_leftOver_11 : decode cX2_leftOver 11 = .ok (.ireturn, 1) := by decide +kernel
theorem dX3_init_0 : decode cX3_init 0 = .ok (.aload_n 0, 1) := by decide +kernel
theorem dX3_init_1 : decode cX3_init 1 = .ok (.invokespecial 3, 3) := by decide +kernel
theorem dX3_init_4 : decode cX3_init 4 = .ok (.aload_n 0, 1) := by decide +kernel
theorem dX3_init_5 : decode cX3_init 5 = .ok (.bipush 40, 2) := by decide +kernel
theorem dX3_init_7 : decode cX3_init 7 = .ok (.newarray .int, 2) := by decide +kernel
theorem dX3_init_9 : decode cX3_init 9 = .ok (.putfield 9, 3) := by decide +kernel
theorem dX3_init_12 : decode cX3_init 12 = .ok (.return_, 1) := by decide +kernel
theorem dX3_begin_0 : decode cX3_begin 0 = .ok (.aload_n 0, 1) := by decide +kernel
theorem dX3_begin_1 : decode cX3_begin 1 = .ok (.iconst 1, 1) := by decide +kernel
theorem dX3_begin_2 : decode cX3_begin 2 = .ok (.putfield 15, 3) := by decide +kernel
theorem dX3_begin_5 : decode cX3_begin 5 = .ok (.aload_n 0, 1) := by decide +kernel
theorem dX3_begin_6 : decode cX3_begin 6 = .ok (.iload_n 1, 1) := by decide +kernel
theorem dX3_begin_7 : decode cX3_begin 7 = .ok (.putfield 19, 3) := by decide +kernel
theorem dX3_begin_10 : decode cX3_begin 10 = .ok (.aload_n 0, 1) := by decide +kernel
theorem dX3_begin_11 : decode cX3_begin 11 = .ok (.iload_n 2, 1) := by decide +kernel
theorem dX3_begin_12 : decode cX3_begin 12 = .ok (.putfield 23, 3) := by decide +kernel
theorem dX3_begin_15 : decode cX3_begin 15 = .ok (.iconst 0, 1) := by decide +kernel
theorem dX3_begin_16 : decode cX3_begin 16 = .ok (.istore_n 3, 1) := by decide +kernel
theorem dX3_begin_17 : decode cX3_begin 17 = .ok (.iload_n 3, 1) := by decide +kernel
theorem dX3_begin_18 : decode cX3_begin 18 = .ok (.bipush 40, 2) := by decide +kernel
theorem dX3_begin_20 : decode cX3_begin 20 = .ok (.if_icmp .ge 16, 3) := by decide +kernel
theorem dX3_begin_23 : decode cX3_begin 23 = .ok (.aload_n 0, 1) := by decide +kernel
theorem dX3_begin_24 : decode cX3_begin 24 = .ok (.getfield 9, 3) := by decide +kernel
theorem dX3_begin_27 : decode cX3_begin 27 = .ok (.iload_n 3, 1) := by decide +kernel
theorem dX3_begin_28 : decode cX3_begin 28 = .ok (.iconst 0, 1) := by decide +kernel
theorem dX3_begin_29 : decode cX3_begin 29 = .ok (.iastore, 1) := by decide +kernel
theorem dX3_begin_30 : decode cX3_begin 30 = .ok (.iinc 3 1, 3) := by decide +kernel
theorem dX3_begin_33 : decode cX3_begin 33 = .ok (.goto (-16), 3) := by decide +kernel
theorem dX3_begin_36 : decode cX3_begin 36 = .ok (.return_, 1) := by decide +kernel
theorem dX3_cut_0 : decode cX3_cut 0 = .ok (.aload_n 0, 1) := by decide +kernel
theorem dX3_cut_1 : decode cX3_cut 1 = .ok (.getfield 19, 3) := by decide +kernel
theorem dX3_cut_4 : decode cX3_cut 4 = .ok (.lookupswitch 34 #[(0, 28), (1, 31)], 28) := by decide +kernel
theorem dX3_cut_32 : decode cX3_cut 32 = .ok (.iload_n 1, 1) := by decide +kernel
theorem dX3_cut_33 : decode cX3_cut 33 = .ok (.i2b, 1) := by decide +kernel
theorem dX3_cut_34 : decode cX3_cut 34 = .ok (.ireturn, 1) := by decide +kernel
theorem dX3_cut_35 : decode cX3_cut 35 = .ok (.iload_n 1, 1) := by decide +kernel
theorem dX3_cut_36 : decode cX3_cut 36 = .ok (.i2s, 1) := by decide +kernel
theorem dX3_cut_37 : decode cX3_cut 37 = .ok (.ireturn, 1) := by decide +kernel
theorem dX3_cut_38 : decode cX3_cut 38 = .ok (.iload_n 1, 1) := by decide +kernel
theorem dX3_cut_39 : decode cX3_cut 39 = .ok (.ireturn, 1) := by decide +kernel
theorem dX3_hasPlaces_0 : decode cX3_hasPlaces 0 = .ok (.iload_n 1, 1) := by decide +kernel
theorem dX3_hasPlaces_1 : decode cX3_hasPlaces 1 = .ok (.ifCond .lt 29, 3) := by decide +kernel
theorem dX3_hasPlaces_4 : decode cX3_hasPlaces 4 = .ok (.iload_n 2, 1) := by decide +kernel
theorem dX3_hasPlaces_5 : decode cX3_hasPlaces 5 = .ok (.ifCond .lt 25, 3) := by decide +kernel
theorem dX3_hasPlaces_8 : decode cX3_hasPlaces 8 = .ok (.iload_n 1, 1) := by decide +kernel
theorem dX3_hasPlaces_9 : decode cX3_hasPlaces 9 = .ok (.aload_n 0, 1) := by decide +kernel
theorem dX3_hasPlaces_10 : decode cX3_hasPlaces 10 = .ok (.getfield 23, 3) := by decide +kernel
theorem dX3_hasPlaces_13 : decode cX3_hasPlaces 13 = .ok (.if_icmp .gt 17, 3) := by decide +kernel
theorem dX3_hasPlaces_16 : decode cX3_hasPlaces 16 = .ok (.iload_n 2, 1) := by decide +kernel
theorem dX3_hasPlaces_17 : decode cX3_hasPlaces 17 = .ok (.aload_n 0, 1) := by decide +kernel
theorem dX3_hasPlaces_18 : decode cX3_hasPlaces 18 = .ok (.getfield 23, 3) := by decide +kernel
theorem dX3_hasPlaces_21 : decode cX3_hasPlaces 21 = .ok (.iload_n 1, 1) := by decide +kernel
theorem dX3_hasPlaces_22 : decode cX3_hasPlaces 22 = .ok (.isub, 1) := by decide +kernel
theorem dX3_hasPlaces_23 : decode cX3_hasPlaces 23 = .ok (.if_icmp .gt 7, 3) := by decide +kernel
theorem dX3_hasPlaces_26 : decode cX3_hasPlaces 26 = .ok (.iconst 1, 1) := by decide +kernel
theorem dX3_hasPlaces_27 : decode cX3_hasPlaces 27 = .ok (.goto 4, 3) := by decide +kernel
theorem dX3_hasPlaces_30 : decode cX3_hasPlaces 30 = .ok (.iconst 0, 1) := by decide +kernel
theorem dX3_hasPlaces_31 : decode cX3_hasPlaces 31 = .ok (.ireturn, 1) := by decide +kernel
theorem dX4_init_0 : decode cX4_init 0 = .ok (.aload_n 0, 1) := by decide +kernel
theorem dX4_init_1 : decode cX4_init 1 = .ok (.iload_n 1, 1) := by decide +kernel
theorem dX4_init_2 : decode cX4_init 2 = .ok (.iload_n 2, 1) := by decide +kernel
theorem dX4_init_3 : decode cX4_init 3 = .ok (.invokespecial 1, 3) := by decide +kernel
theorem dX4_init_6 : decode cX4_init 6 = .ok (.return_, 1) := by decide +kernel
theorem dX4_kindNumber_0 : decode cX4_kindNumber 0 = .ok (.iconst 1, 1) := by decide +kernel
theorem dX4_kindNumber_1 : decode cX4_kindNumber 1 = .ok (.ireturn, 1) := by decide +kernel
theorem dX4_sizeBy_0 : decode cX4_sizeBy 0 = .ok (.aload_n 1, 1) := by decide +kernel
theorem dX4_sizeBy_1 : decode cX4_sizeBy 1 = .ok (.bipush 11, 2) := by decide +kernel
theorem dX4_sizeBy_3 : decode cX4_sizeBy 3 = .ok (.invokevirtual 9, 3) := by decide +kernel
theorem dX4_sizeBy_6 : decode cX4_sizeBy 6 = .ok (.aload_n 0, 1) := by decide +kernel
theorem dX4_sizeBy_7 : decode cX4_sizeBy 7 = .ok (.aload_n 1, 1) := by decide +kernel
theorem dX4_sizeBy_8 : decode cX4_sizeBy 8 = .ok (.iload_n 2, 1) := by decide +kernel
theorem dX4_sizeBy_9 : decode cX4_sizeBy 9 = .ok (.invokespecial 15, 3) := by decide +kernel
theorem dX4_sizeBy_12 : decode cX4_sizeBy 12 = .ok (.istore_n 3, 1) := by decide +kernel
theorem dX4_sizeBy_13 : decode cX4_sizeBy 13 = .ok (.iload_n 2, 1) := by decide +kernel
theorem dX4_sizeBy_14 : decode cX4_sizeBy 14 = .ok (.bipush 8, 2) := by decide +kernel
theorem dX4_sizeBy_16 : decode cX4_sizeBy 16 = .ok (.if_icmp .ge 16, 3) := by decide +kernel
theorem dX4_sizeBy_19 : decode cX4_sizeBy 19 = .ok (.iload_n 3, 1) := by decide +kernel
theorem dX4_sizeBy_20 : decode cX4_sizeBy 20 = .ok (.aload_n 0, 1) := by decide +kernel
theorem dX4_sizeBy_21 : decode cX4_sizeBy 21 = .ok (.aload_n 1, 1) := by decide +kernel
theorem dX4_sizeBy_22 : decode cX4_sizeBy 22 = .ok (.iload_n 2, 1) := by decide +kernel
theorem dX4_sizeBy_23 : decode cX4_sizeBy 23 = .ok (.iconst 1, 1) := by decide +kernel
theorem dX4_sizeBy_24 : decode cX4_sizeBy 24 = .ok (.iadd, 1) := by decide +kernel
theorem dX4_sizeBy_25 : decode cX4_sizeBy 25 = .ok (.invokevirtual 19, 3) := by decide +kernel
theorem dX4_sizeBy_28 : decode cX4_sizeBy 28 = .ok (.iadd, 1) := by decide +kernel
theorem dX4_sizeBy_29 : decode cX4_sizeBy 29 = .ok (.goto 4, 3) := by decide +kernel
theorem dX4_sizeBy_32 : decode cX4_sizeBy 32 = .ok (.iload_n 3, 1) := by decide +kernel
theorem dX4_sizeBy_33 : decode cX4_sizeBy 33 = .ok (.ireturn, 1) := by decide +kernel
theorem dX4_markBy_0 : decode cX4_markBy 0 = .ok (.aload_n 1, 1) := by decide +kernel
theorem dX4_markBy_1 : decode cX4_markBy 1 = .ok (.bipush 21, 2) := by decide +kernel
theorem dX4_markBy_3 : decode cX4_markBy 3 = .ok (.invokevirtual 9, 3) := by decide +kernel
theorem dX4_markBy_6 : decode cX4_markBy 6 = .ok (.aload_n 0, 1) := by decide +kernel
theorem dX4_markBy_7 : decode cX4_markBy 7 = .ok (.aload_n 1, 1) := by decide +kernel
theorem dX4_markBy_8 : decode cX4_markBy 8 = .ok (.iload_n 2, 1) := by decide +kernel
theorem dX4_markBy_9 : decode cX4_markBy 9 = .ok (.invokespecial 22, 3) := by decide +kernel
theorem dX4_markBy_12 : decode cX4_markBy 12 = .ok (.aload_n 1, 1) := by decide +kernel
theorem dX4_markBy_13 : decode cX4_markBy 13 = .ok (.getfield 23, 3) := by decide +kernel
theorem dX4_markBy_16 : decode cX4_markBy 16 = .ok (.iadd, 1) := by decide +kernel
theorem dX4_markBy_17 : decode cX4_markBy 17 = .ok (.ireturn, 1) := by decide +kernel
theorem dX5_init_0 : decode cX5_init 0 = .ok (.aload_n 0, 1) := by decide +kernel
theorem dX5_init_1 : decode cX5_init 1 = .ok (.iload_n 1, 1) := by decide +kernel
theorem dX5_init_2 : decode cX5_init 2 = .ok (.iload_n 2, 1) := by decide +kernel
theorem dX5_init_3 : decode cX5_init 3 = .ok (.invokespecial 1, 3) := by decide +kernel
theorem dX5_init_6 : decode cX5_init 6 = .ok (.return_, 1) := by decide +kernel
theorem dX5_kindNumber_0 : decode cX5_kindNumber 0 = .ok (.iconst 4, 1) := by decide +kernel
theorem dX5_kindNumber_1 : decode cX5_kindNumber 1 = .ok (.ireturn, 1) := by decide +kernel
theorem dX5_sizeBy_0 : decode cX5_sizeBy 0 = .ok (.aload_n 1, 1) := by decide +kernel
theorem dX5_sizeBy_1 : decode cX5_sizeBy 1 = .ok (.bipush 13, 2) := by decide +kernel
theorem dX5_sizeBy_3 : decode cX5_sizeBy 3 = .ok (.invokevirtual 9, 3) := by decide +kernel
theorem dX5_sizeBy_6 : decode cX5_sizeBy 6 = .ok (.aload_n 0, 1) := by decide +kernel
theorem dX5_sizeBy_7 : decode cX5_sizeBy 7 = .ok (.aload_n 1, 1) := by decide +kernel
theorem dX5_sizeBy_8 : decode cX5_sizeBy 8 = .ok (.iload_n 2, 1) := by decide +kernel
theorem dX5_sizeBy_9 : decode cX5_sizeBy 9 = .ok (.invokespecial 15, 3) := by decide +kernel
theorem dX5_sizeBy_12 : decode cX5_sizeBy 12 = .ok (.bipush 100, 2) := by decide +kernel
theorem dX5_sizeBy_14 : decode cX5_sizeBy 14 = .ok (.isub, 1) := by decide +kernel
theorem dX5_sizeBy_15 : decode cX5_sizeBy 15 = .ok (.ireturn, 1) := by decide +kernel
theorem dX5_markBy_0 : decode cX5_markBy 0 = .ok (.aload_n 1, 1) := by decide +kernel
theorem dX5_markBy_1 : decode cX5_markBy 1 = .ok (.bipush 23, 2) := by decide +kernel
theorem dX5_markBy_3 : decode cX5_markBy 3 = .ok (.invokevirtual 9, 3) := by decide +kernel
theorem dX5_markBy_6 : decode cX5_markBy 6 = .ok (.aload_n 0, 1) := by decide +kernel
theorem dX5_markBy_7 : decode cX5_markBy 7 = .ok (.aload_n 1, 1) := by decide +kernel
theorem dX5_markBy_8 : decode cX5_markBy 8 = .ok (.iload_n 2, 1) := by decide +kernel
theorem dX5_markBy_9 : decode cX5_markBy 9 = .ok (.invokespecial 19, 3) := by decide +kernel
theorem dX5_markBy_12 : decode cX5_markBy 12 = .ok (.istore_n 3, 1) := by decide +kernel
theorem dX5_markBy_13 : decode cX5_markBy 13 = .ok (.iload_n 2, 1) := by decide +kernel
theorem dX5_markBy_14 : decode cX5_markBy 14 = .ok (.bipush 8, 2) := by decide +kernel
theorem dX5_markBy_16 : decode cX5_markBy 16 = .ok (.if_icmp .ge 16, 3) := by decide +kernel
theorem dX5_markBy_19 : decode cX5_markBy 19 = .ok (.iload_n 3, 1) := by decide +kernel
theorem dX5_markBy_20 : decode cX5_markBy 20 = .ok (.aload_n 0, 1) := by decide +kernel
theorem dX5_markBy_21 : decode cX5_markBy 21 = .ok (.aload_n 1, 1) := by decide +kernel
theorem dX5_markBy_22 : decode cX5_markBy 22 = .ok (.iload_n 2, 1) := by decide +kernel
theorem dX5_markBy_23 : decode cX5_markBy 23 = .ok (.iconst 1, 1) := by decide +kernel
theorem dX5_markBy_24 : decode cX5_markBy 24 = .ok (.iadd, 1) := by decide +kernel
theorem dX5_markBy_25 : decode cX5_markBy 25 = .ok (.invokevirtual 22, 3) := by decide +kernel
theorem dX5_markBy_28 : decode cX5_markBy 28 = .ok (.isub, 1) := by decide +kernel
theorem dX5_markBy_29 : decode cX5_markBy 29 = .ok (.goto 4, 3) := by decide +kernel
theorem dX5_markBy_32 : decode cX5_markBy 32 = .ok (.iload_n 3, 1) := by decide +kernel
theorem dX5_markBy_33 : decode cX5_markBy 33 = .ok (.ireturn, 1) := by decide +kernel
theorem dX7_init_0 : decode cX7_init 0 = .ok (.aload_n 0, 1) := by decide +kernel
theorem dX7_init_1 : decode cX7_init 1 = .ok (.invokespecial 1, 3) := by decide +kernel
theorem dX7_init_4 : decode cX7_init 4 = .ok (.aload_n 0, 1) := by decide +kernel
theorem dX7_init_5 : decode cX7_init 5 = .ok (.iload_n 1, 1) := by decide +kernel
theorem dX7_init_6 : decode cX7_init 6 = .ok (.putfield 7, 3) := by decide +kernel
theorem dX7_init_9 : decode cX7_init 9 = .ok (.aload_n 0, 1) := by decide +kernel
theorem dX7_init_10 : decode cX7_init 10 = .ok (.iload_n 2, 1) := by decide +kernel
theorem dX7_init_11 : decode cX7_init 11 = .ok (.putfield 13, 3) := by decide +kernel
theorem dX7_init_14 : decode cX7_init 14 = .ok (.return_, 1) := by decide +kernel
theorem dX7_heavyWith_0 : decode cX7_heavyWith 0 = .ok (.iload_n 1, 1) := by decide +kernel
theorem dX7_heavyWith_1 : decode cX7_heavyWith 1 = .ok (.ireturn, 1) := by decide +kernel
theorem dX7_sizeBy_0 : decode cX7_sizeBy 0 = .ok (.aload_n 1, 1) := by decide +kernel
theorem dX7_sizeBy_1 : decode cX7_sizeBy 1 = .ok (.bipush 10, 2) := by decide +kernel
theorem dX7_sizeBy_3 : decode cX7_sizeBy 3 = .ok (.invokevirtual 16, 3) := by decide +kernel
theorem dX7_sizeBy_6 : decode cX7_sizeBy 6 = .ok (.aload_n 0, 1) := by decide +kernel
theorem dX7_sizeBy_7 : decode cX7_sizeBy 7 = .ok (.getfield 13, 3) := by decide +kernel
theorem dX7_sizeBy_10 : decode cX7_sizeBy 10 = .ok (.ireturn, 1) := by decide +kernel
theorem dX7_markBy_0 : decode cX7_markBy 0 = .ok (.aload_n 1, 1) := by decide +kernel
theorem dX7_markBy_1 : decode cX7_markBy 1 = .ok (.bipush 20, 2) := by decide +kernel
theorem dX7_markBy_3 : decode cX7_markBy 3 = .ok (.invokevirtual 16, 3) := by decide +kernel
theorem dX7_markBy_6 : decode cX7_markBy 6 = .ok (.aload_n 0, 1) := by decide +kernel
theorem dX7_markBy_7 : decode cX7_markBy 7 = .ok (.getfield 7, 3) := by decide +kernel
theorem dX7_markBy_10 : decode cX7_markBy 10 = .ok (.ireturn, 1) := by decide +kernel
theorem dX8_init_0 : decode cX8_init 0 = .ok (.aload_n 0, 1) := by decide +kernel
theorem dX8_init_1 : decode cX8_init 1 = .ok (.iload_n 1, 1) := by decide +kernel
theorem dX8_init_2 : decode cX8_init 2 = .ok (.iload_n 2, 1) := by decide +kernel
theorem dX8_init_3 : decode cX8_init 3 = .ok (.invokespecial 1, 3) := by decide +kernel
theorem dX8_init_6 : decode cX8_init 6 = .ok (.return_, 1) := by decide +kernel
theorem dX8_kindNumber_0 : decode cX8_kindNumber 0 = .ok (.iconst 5, 1) := by decide +kernel
theorem dX8_kindNumber_1 : decode cX8_kindNumber 1 = .ok (.ireturn, 1) := by decide +kernel
theorem dX8_heavyWith_0 : decode cX8_heavyWith 0 = .ok (.bipush 10, 2) := by decide +kernel
theorem dX8_heavyWith_2 : decode cX8_heavyWith 2 = .ok (.iload_n 1, 1) := by decide +kernel
theorem dX8_heavyWith_3 : decode cX8_heavyWith 3 = .ok (.imul, 1) := by decide +kernel
theorem dX8_heavyWith_4 : decode cX8_heavyWith 4 = .ok (.ireturn, 1) := by decide +kernel
theorem dX8_sizeBy_0 : decode cX8_sizeBy 0 = .ok (.aload_n 1, 1) := by decide +kernel
theorem dX8_sizeBy_1 : decode cX8_sizeBy 1 = .ok (.bipush 14, 2) := by decide +kernel
theorem dX8_sizeBy_3 : decode cX8_sizeBy 3 = .ok (.invokevirtual 9, 3) := by decide +kernel
theorem dX8_sizeBy_6 : decode cX8_sizeBy 6 = .ok (.iconst 2, 1) := by decide +kernel
theorem dX8_sizeBy_7 : decode cX8_sizeBy 7 = .ok (.aload_n 0, 1) := by decide +kernel
theorem dX8_sizeBy_8 : decode cX8_sizeBy 8 = .ok (.aload_n 1, 1) := by decide +kernel
theorem dX8_sizeBy_9 : decode cX8_sizeBy 9 = .ok (.iload_n 2, 1) := by decide +kernel
theorem dX8_sizeBy_10 : decode cX8_sizeBy 10 = .ok (.invokespecial 15, 3) := by decide +kernel
theorem dX8_sizeBy_13 : decode cX8_sizeBy 13 = .ok (.imul, 1) := by decide +kernel
theorem dX8_sizeBy_14 : decode cX8_sizeBy 14 = .ok (.ireturn, 1) := by decide +kernel
theorem dX9_init_0 : decode cX9_init 0 = .ok (.aload_n 0, 1) := by decide +kernel
theorem dX9_init_1 : decode cX9_init 1 = .ok (.iload_n 1, 1) := by decide +kernel
theorem dX9_init_2 : decode cX9_init 2 = .ok (.iload_n 2, 1) := by decide +kernel
theorem dX9_init_3 : decode cX9_init 3 = .ok (.invokespecial 1, 3) := by decide +kernel
theorem dX9_init_6 : decode cX9_init 6 = .ok (.return_, 1) := by decide +kernel
theorem dX9_kindNumber_0 : decode cX9_kindNumber 0 = .ok (.iconst 3, 1) := by decide +kernel
theorem dX9_kindNumber_1 : decode cX9_kindNumber 1 = .ok (.ireturn, 1) := by decide +kernel
theorem dX9_heavyWith_0 : decode cX9_heavyWith 0 = .ok (.iload_n 1, 1) := by decide +kernel
theorem dX9_heavyWith_1 : decode cX9_heavyWith 1 = .ok (.iload_n 2, 1) := by decide +kernel
theorem dX9_heavyWith_2 : decode cX9_heavyWith 2 = .ok (.iconst 4, 1) := by decide +kernel
theorem dX9_heavyWith_3 : decode cX9_heavyWith 3 = .ok (.idiv, 1) := by decide +kernel
theorem dX9_heavyWith_4 : decode cX9_heavyWith 4 = .ok (.iadd, 1) := by decide +kernel
theorem dX9_heavyWith_5 : decode cX9_heavyWith 5 = .ok (.ireturn, 1) := by decide +kernel
theorem dX9_sizeBy_0 : decode cX9_sizeBy 0 = .ok (.aload_n 1, 1) := by decide +kernel
theorem dX9_sizeBy_1 : decode cX9_sizeBy 1 = .ok (.bipush 12, 2) := by decide +kernel
theorem dX9_sizeBy_3 : decode cX9_sizeBy 3 = .ok (.invokevirtual 9, 3) := by decide +kernel
theorem dX9_sizeBy_6 : decode cX9_sizeBy 6 = .ok (.aload_n 0, 1) := by decide +kernel
theorem dX9_sizeBy_7 : decode cX9_sizeBy 7 = .ok (.aload_n 1, 1) := by decide +kernel
theorem dX9_sizeBy_8 : decode cX9_sizeBy 8 = .ok (.iload_n 2, 1) := by decide +kernel
theorem dX9_sizeBy_9 : decode cX9_sizeBy 9 = .ok (.invokespecial 15, 3) := by decide +kernel
theorem dX9_sizeBy_12 : decode cX9_sizeBy 12 = .ok (.ineg, 1) := by decide +kernel
theorem dX9_sizeBy_13 : decode cX9_sizeBy 13 = .ok (.ireturn, 1) := by decide +kernel
theorem dX9_markBy_0 : decode cX9_markBy 0 = .ok (.aload_n 1, 1) := by decide +kernel
theorem dX9_markBy_1 : decode cX9_markBy 1 = .ok (.bipush 24, 2) := by decide +kernel
theorem dX9_markBy_3 : decode cX9_markBy 3 = .ok (.invokevirtual 9, 3) := by decide +kernel
theorem dX9_markBy_6 : decode cX9_markBy 6 = .ok (.iconst 2, 1) := by decide +kernel
theorem dX9_markBy_7 : decode cX9_markBy 7 = .ok (.aload_n 0, 1) := by decide +kernel
theorem dX9_markBy_8 : decode cX9_markBy 8 = .ok (.aload_n 1, 1) := by decide +kernel
theorem dX9_markBy_9 : decode cX9_markBy 9 = .ok (.iload_n 2, 1) := by decide +kernel
theorem dX9_markBy_10 : decode cX9_markBy 10 = .ok (.invokespecial 19, 3) := by decide +kernel
theorem dX9_markBy_13 : decode cX9_markBy 13 = .ok (.imul, 1) := by decide +kernel
theorem dX9_markBy_14 : decode cX9_markBy 14 = .ok (.ireturn, 1) := by decide +kernel
theorem dJ6_bitCount_0f7a4_0 : decode cJ6_bitCount_0f7a4 0 = .ok (.iload_n 0, 1) := by decide +kernel
theorem dJ6_bitCount_0f7a4_1 : decode cJ6_bitCount_0f7a4 1 = .ok (.iload_n 0, 1) := by decide +kernel
theorem dJ6_bitCount_0f7a4_2 : decode cJ6_bitCount_0f7a4 2 = .ok (.iconst 1, 1) := by decide +kernel
theorem dJ6_bitCount_0f7a4_3 : decode cJ6_bitCount_0f7a4 3 = .ok (.iushr, 1) := by decide +kernel
theorem dJ6_bitCount_0f7a4_4 : decode cJ6_bitCount_0f7a4 4 = .ok (.ldc_w 265, 3) := by decide +kernel
theorem dJ6_bitCount_0f7a4_7 : decode cJ6_bitCount_0f7a4 7 = .ok (.iand, 1) := by decide +kernel
theorem dJ6_bitCount_0f7a4_8 : decode cJ6_bitCount_0f7a4 8 = .ok (.isub, 1) := by decide +kernel
theorem dJ6_bitCount_0f7a4_9 : decode cJ6_bitCount_0f7a4 9 = .ok (.istore_n 0, 1) := by decide +kernel
theorem dJ6_bitCount_0f7a4_10 : decode cJ6_bitCount_0f7a4 10 = .ok (.iload_n 0, 1) := by decide +kernel
theorem dJ6_bitCount_0f7a4_11 : decode cJ6_bitCount_0f7a4 11 = .ok (.ldc_w 266, 3) := by decide +kernel
theorem dJ6_bitCount_0f7a4_14 : decode cJ6_bitCount_0f7a4 14 = .ok (.iand, 1) := by decide +kernel
theorem dJ6_bitCount_0f7a4_15 : decode cJ6_bitCount_0f7a4 15 = .ok (.iload_n 0, 1) := by decide +kernel
theorem dJ6_bitCount_0f7a4_16 : decode cJ6_bitCount_0f7a4 16 = .ok (.iconst 2, 1) := by decide +kernel
theorem dJ6_bitCount_0f7a4_17 : decode cJ6_bitCount_0f7a4 17 = .ok (.iushr, 1) := by decide +kernel
theorem dJ6_bitCount_0f7a4_18 : decode cJ6_bitCount_0f7a4 18 = .ok (.ldc_w 266, 3) := by decide +kernel
theorem dJ6_bitCount_0f7a4_21 : decode cJ6_bitCount_0f7a4 21 = .ok (.iand, 1) := by decide +kernel
theorem dJ6_bitCount_0f7a4_22 : decode cJ6_bitCount_0f7a4 22 = .ok (.iadd, 1) := by decide +kernel
theorem dJ6_bitCount_0f7a4_23 : decode cJ6_bitCount_0f7a4 23 = .ok (.istore_n 0, 1) := by decide +kernel
theorem dJ6_bitCount_0f7a4_24 : decode cJ6_bitCount_0f7a4 24 = .ok (.iload_n 0, 1) := by decide +kernel
theorem dJ6_bitCount_0f7a4_25 : decode cJ6_bitCount_0f7a4 25 = .ok (.iload_n 0, 1) := by decide +kernel
theorem dJ6_bitCount_0f7a4_26 : decode cJ6_bitCount_0f7a4 26 = .ok (.iconst 4, 1) := by decide +kernel
theorem dJ6_bitCount_0f7a4_27 : decode cJ6_bitCount_0f7a4 27 = .ok (.iushr, 1) := by decide +kernel
theorem dJ6_bitCount_0f7a4_28 : decode cJ6_bitCount_0f7a4 28 = .ok (.iadd, 1) := by decide +kernel
theorem dJ6_bitCount_0f7a4_29 : decode cJ6_bitCount_0f7a4 29 = .ok (.ldc_w 267, 3) := by decide +kernel
theorem dJ6_bitCount_0f7a4_32 : decode cJ6_bitCount_0f7a4 32 = .ok (.iand, 1) := by decide +kernel
theorem dJ6_bitCount_0f7a4_33 : decode cJ6_bitCount_0f7a4 33 = .ok (.istore_n 0, 1) := by decide +kernel
theorem dJ6_bitCount_0f7a4_34 : decode cJ6_bitCount_0f7a4 34 = .ok (.iload_n 0, 1) := by decide +kernel
theorem dJ6_bitCount_0f7a4_35 : decode cJ6_bitCount_0f7a4 35 = .ok (.iload_n 0, 1) := by decide +kernel
theorem dJ6_bitCount_0f7a4_36 : decode cJ6_bitCount_0f7a4 36 = .ok (.bipush 8, 2) := by decide +kernel
theorem dJ6_bitCount_0f7a4_38 : decode cJ6_bitCount_0f7a4 38 = .ok (.iushr, 1) := by decide +kernel
theorem dJ6_bitCount_0f7a4_39 : decode cJ6_bitCount_0f7a4 39 = .ok (.iadd, 1) := by decide +kernel
theorem dJ6_bitCount_0f7a4_40 : decode cJ6_bitCount_0f7a4 40 = .ok (.istore_n 0, 1) := by decide +kernel
theorem dJ6_bitCount_0f7a4_41 : decode cJ6_bitCount_0f7a4 41 = .ok (.iload_n 0, 1) := by decide +kernel
theorem dJ6_bitCount_0f7a4_42 : decode cJ6_bitCount_0f7a4 42 = .ok (.iload_n 0, 1) := by decide +kernel
theorem dJ6_bitCount_0f7a4_43 : decode cJ6_bitCount_0f7a4 43 = .ok (.bipush 16, 2) := by decide +kernel
theorem dJ6_bitCount_0f7a4_45 : decode cJ6_bitCount_0f7a4 45 = .ok (.iushr, 1) := by decide +kernel
theorem dJ6_bitCount_0f7a4_46 : decode cJ6_bitCount_0f7a4 46 = .ok (.iadd, 1) := by decide +kernel
theorem dJ6_bitCount_0f7a4_47 : decode cJ6_bitCount_0f7a4 47 = .ok (.istore_n 0, 1) := by decide +kernel
theorem dJ6_bitCount_0f7a4_48 : decode cJ6_bitCount_0f7a4 48 = .ok (.iload_n 0, 1) := by decide +kernel
theorem dJ6_bitCount_0f7a4_49 : decode cJ6_bitCount_0f7a4 49 = .ok (.bipush 63, 2) := by decide +kernel
theorem dJ6_bitCount_0f7a4_51 : decode cJ6_bitCount_0f7a4 51 = .ok (.iand, 1) := by decide +kernel
theorem dJ6_bitCount_0f7a4_52 : decode cJ6_bitCount_0f7a4 52 = .ok (.ireturn, 1) := by decide +kernel
theorem dJ0_length_8abf5_0 : decode cJ0_length_8abf5 0 = .ok (.aload_n 0, 1) := by decide +kernel
theorem dJ0_length_8abf5_1 : decode cJ0_length_8abf5 1 = .ok (.getfield 9, 3) := by decide +kernel
theorem dJ0_length_8abf5_4 : decode cJ0_length_8abf5 4 = .ok (.arraylength, 1) := by decide +kernel
theorem dJ0_length_8abf5_5 : decode cJ0_length_8abf5 5 = .ok (.aload_n 0, 1) := by decide +kernel
theorem dJ0_length_8abf5_6 : decode cJ0_length_8abf5 6 = .ok (.invokevirtual 335, 3) := by decide +kernel
theorem dJ0_length_8abf5_9 : decode cJ0_length_8abf5 9 = .ok (.ishr, 1) := by decide +kernel
theorem dJ0_length_8abf5_10 : decode cJ0_length_8abf5 10 = .ok (.ireturn, 1) := by decide +kernel
theorem dJ0_charAt_5068e_0 : decode cJ0_charAt_5068e 0 = .ok (.aload_n 0, 1) := by decide +kernel
theorem dJ0_charAt_5068e_1 : decode cJ0_charAt_5068e 1 = .ok (.invokevirtual 492, 3) := by decide +kernel
theorem dJ0_charAt_5068e_4 : decode cJ0_charAt_5068e 4 = .ok (.ifCond .eq 12, 3) := by decide +kernel
theorem dJ0_charAt_5068e_7 : decode cJ0_charAt_5068e 7 = .ok (.aload_n 0, 1) := by decide +kernel
theorem dJ0_charAt_5068e_8 : decode cJ0_charAt_5068e 8 = .ok (.getfield 9, 3) := by decide +kernel
theorem dJ0_charAt_5068e_11 : decode cJ0_charAt_5068e 11 = .ok (.iload_n 1, 1) := by decide +kernel
theorem dJ0_charAt_5068e_12 : decode cJ0_charAt_5068e 12 = .ok (.invokestatic 495, 3) := by decide +kernel
theorem dJ0_charAt_5068e_15 : decode cJ0_charAt_5068e 15 = .ok (.ireturn, 1) := by decide +kernel
theorem dJ0_charAt_5068e_16 : decode cJ0_charAt_5068e 16 = .ok (.aload_n 0, 1) := by decide +kernel
theorem dJ0_charAt_5068e_17 : decode cJ0_charAt_5068e 17 = .ok (.getfield 9, 3) := by decide +kernel
theorem dJ0_charAt_5068e_20 : decode cJ0_charAt_5068e 20 = .ok (.iload_n 1, 1) := by decide +kernel
theorem dJ0_charAt_5068e_21 : decode cJ0_charAt_5068e 21 = .ok (.invokestatic 498, 3) := by decide +kernel
theorem dJ0_charAt_5068e_24 : decode cJ0_charAt_5068e 24 = .ok (.ireturn, 1) := by decide +kernel
theorem dJ0_coder_7d493_0 : decode cJ0_coder_7d493 0 = .ok (.getstatic 38, 3) := by decide +kernel
theorem dJ0_coder_7d493_3 : decode cJ0_coder_7d493 3 = .ok (.ifCond .eq 10, 3) := by decide +kernel
theorem dJ0_coder_7d493_6 : decode cJ0_coder_7d493 6 = .ok (.aload_n 0, 1) := by decide +kernel
theorem dJ0_coder_7d493_7 : decode cJ0_coder_7d493 7 = .ok (.getfield 15, 3) := by decide +kernel
theorem dJ0_coder_7d493_10 : decode cJ0_coder_7d493 10 = .ok (.goto 4, 3) := by decide +kernel
theorem dJ0_coder_7d493_13 : decode cJ0_coder_7d493 13 = .ok (.iconst 1, 1) := by decide +kernel
theorem dJ0_coder_7d493_14 : decode cJ0_coder_7d493 14 = .ok (.ireturn, 1) := by decide +kernel
theorem dJ0_isLatin1_aae02_0 : decode cJ0_isLatin1_aae02 0 = .ok (.getstatic 38, 3) := by decide +kernel
theorem dJ0_isLatin1_aae02_3 : decode cJ0_isLatin1_aae02 3 = .ok (.ifCond .eq 14, 3) := by decide +kernel
theorem dJ0_isLatin1_aae02_6 : decode cJ0_isLatin1_aae02 6 = .ok (.aload_n 0, 1) := by decide +kernel
theorem dJ0_isLatin1_aae02_7 : decode cJ0_isLatin1_aae02 7 = .ok (.getfield 15, 3) := by decide +kernel
theorem dJ0_isLatin1_aae02_10 : decode cJ0_isLatin1_aae02 10 = .ok (.ifCond .ne 7, 3) := by decide +kernel
theorem dJ0_isLatin1_aae02_13 : decode cJ0_isLatin1_aae02 13 = .ok (.iconst 1, 1) := by decide +kernel
theorem dJ0_isLatin1_aae02_14 : decode cJ0_isLatin1_aae02 14 = .ok (.goto 4, 3) := by decide +kernel
theorem dJ0_isLatin1_aae02_17 : decode cJ0_isLatin1_aae02 17 = .ok (.iconst 0, 1) := by decide +kernel
theorem dJ0_isLatin1_aae02_18 : decode cJ0_isLatin1_aae02 18 = .ok (.ireturn, 1) := by decide +kernel
theorem dJ0_checkIndex_df160_0 : decode cJ0_checkIndex_df160 0 = .ok (.iload_n 0, 1) := by decide +kernel
theorem dJ0_checkIndex_df160_1 : decode cJ0_checkIndex_df160 1 = .ok (.iload_n 1, 1) := by decide +kernel
theorem dJ0_checkIndex_df160_2 : decode cJ0_checkIndex_df160 2 = .ok (.getstatic 1053, 3) := by decide +kernel
theorem dJ0_checkIndex_df160_5 : decode cJ0_checkIndex_df160 5 = .ok (.invokestatic 1059, 3) := by decide +kernel
theorem dJ0_checkIndex_df160_8 : decode cJ0_checkIndex_df160 8 = .ok (.pop, 1) := by decide +kernel
theorem dJ0_checkIndex_df160_9 : decode cJ0_checkIndex_df160 9 = .ok (.return_, 1) := by decide +kernel
theorem dJ1_charAt_3b067_0 : decode cJ1_charAt_3b067 0 = .ok (.iload_n 1, 1) := by decide +kernel
theorem dJ1_charAt_3b067_1 : decode cJ1_charAt_3b067 1 = .ok (.aload_n 0, 1) := by decide +kernel
theorem dJ1_charAt_3b067_2 : decode cJ1_charAt_3b067 2 = .ok (.arraylength, 1) := by decide +kernel
theorem dJ1_charAt_3b067_3 : decode cJ1_charAt_3b067 3 = .ok (.invokestatic 9, 3) := by decide +kernel
theorem dJ1_charAt_3b067_6 : decode cJ1_charAt_3b067 6 = .ok (.aload_n 0, 1) := by decide +kernel
theorem dJ1_charAt_3b067_7 : decode cJ1_charAt_3b067 7 = .ok (.iload_n 1, 1) := by decide +kernel
theorem dJ1_charAt_3b067_8 : decode cJ1_charAt_3b067 8 = .ok (.baload, 1) := by decide +kernel
theorem dJ1_charAt_3b067_9 : decode cJ1_charAt_3b067 9 = .ok (.sipush 255, 3) := by decide +kernel
theorem dJ1_charAt_3b067_12 : decode cJ1_charAt_3b067 12 = .ok (.iand, 1) := by decide +kernel
theorem dJ1_charAt_3b067_13 : decode cJ1_charAt_3b067 13 = .ok (.i2c, 1) := by decide +kernel
theorem dJ1_charAt_3b067_14 : decode cJ1_charAt_3b067 14 = .ok (.ireturn, 1) := by decide +kernel
theorem dJ2_getChar_3b067_0 : decode cJ2_getChar_3b067 0 = .ok (.getstatic 44, 3) := by decide +kernel
theorem dJ2_getChar_3b067_3 : decode cJ2_getChar_3b067 3 = .ok (.ifCond .ne 25, 3) := by decide +kernel
theorem dJ2_getChar_3b067_6 : decode cJ2_getChar_3b067 6 = .ok (.iload_n 1, 1) := by decide +kernel
theorem dJ2_getChar_3b067_7 : decode cJ2_getChar_3b067 7 = .ok (.ifCond .lt 11, 3) := by decide +kernel
theorem dJ2_getChar_3b067_10 : decode cJ2_getChar_3b067 10 = .ok (.iload_n 1, 1) := by decide +kernel
theorem dJ2_getChar_3b067_11 : decode cJ2_getChar_3b067 11 = .ok (.aload_n 0, 1) := by decide +kernel
theorem dJ2_getChar_3b067_12 : decode cJ2_getChar_3b067 12 = .ok (.invokestatic 48, 3) := by decide +kernel
theorem dJ2_getChar_3b067_15 : decode cJ2_getChar_3b067 15 = .ok (.if_icmp .lt 13, 3) := by decide +kernel
theorem dJ2_getChar_3b067_18 : decode cJ2_getChar_3b067 18 = .ok (.new 52, 3) := by decide +kernel
theorem dJ2_getChar_3b067_21 : decode cJ2_getChar_3b067 21 = .ok (.dup, 1) := by decide +kernel
theorem dJ2_getChar_3b067_22 : decode cJ2_getChar_3b067 22 = .ok (.ldc 54, 2) := by decide +kernel
theorem dJ2_getChar_3b067_24 : decode cJ2_getChar_3b067 24 = .ok (.invokespecial 56, 3) := by decide +kernel
theorem dJ2_getChar_3b067_27 : decode cJ2_getChar_3b067 27 = .ok (.athrow, 1) := by decide +kernel
theorem dJ2_getChar_3b067_28 : decode cJ2_getChar_3b067 28 = .ok (.iload_n 1, 1) := by decide +kernel
theorem dJ2_getChar_3b067_29 : decode cJ2_getChar_3b067 29 = .ok (.iconst 1, 1) := by decide +kernel
theorem dJ2_getChar_3b067_30 : decode cJ2_getChar_3b067 30 = .ok (.ishl, 1) := by decide +kernel
theorem dJ2_getChar_3b067_31 : decode cJ2_getChar_3b067 31 = .ok (.istore_n 1, 1) := by decide +kernel
theorem dJ2_getChar_3b067_32 : decode cJ2_getChar_3b067 32 = .ok (.aload_n 0, 1) := by decide +kernel
theorem dJ2_getChar_3b067_33 : decode cJ2_getChar_3b067 33 = .ok (.iload_n 1, 1) := by decide +kernel
theorem dJ2_getChar_3b067_34 : decode cJ2_getChar_3b067 34 = .ok (.iinc 1 1, 3) := by decide +kernel
theorem dJ2_getChar_3b067_37 : decode cJ2_getChar_3b067 37 = .ok (.baload, 1) := by decide +kernel
theorem dJ2_getChar_3b067_38 : decode cJ2_getChar_3b067 38 = .ok (.sipush 255, 3) := by decide +kernel
theorem dJ2_getChar_3b067_41 : decode cJ2_getChar_3b067 41 = .ok (.iand, 1) := by decide +kernel
theorem dJ2_getChar_3b067_42 : decode cJ2_getChar_3b067 42 = .ok (.getstatic 59, 3) := by decide +kernel
theorem dJ2_getChar_3b067_45 : decode cJ2_getChar_3b067 45 = .ok (.ishl, 1) := by decide +kernel
theorem dJ2_getChar_3b067_46 : decode cJ2_getChar_3b067 46 = .ok (.aload_n 0, 1) := by decide +kernel
theorem dJ2_getChar_3b067_47 : decode cJ2_getChar_3b067 47 = .ok (.iload_n 1, 1) := by decide +kernel
theorem dJ2_getChar_3b067_48 : decode cJ2_getChar_3b067 48 = .ok (.baload, 1) := by decide +kernel
theorem dJ2_getChar_3b067_49 : decode cJ2_getChar_3b067 49 = .ok (.sipush 255, 3) := by decide +kernel
theorem dJ2_getChar_3b067_52 : decode cJ2_getChar_3b067 52 = .ok (.iand, 1) := by decide +kernel
theorem dJ2_getChar_3b067_53 : decode cJ2_getChar_3b067 53 = .ok (.getstatic 63, 3) := by decide +kernel
theorem dJ2_getChar_3b067_56 : decode cJ2_getChar_3b067 56 = .ok (.ishl, 1) := by decide +kernel
theorem dJ2_getChar_3b067_57 : decode cJ2_getChar_3b067 57 = .ok (.ior, 1) := by decide +kernel
theorem dJ2_getChar_3b067_58 : decode cJ2_getChar_3b067 58 = .ok (.i2c, 1) := by decide +kernel
theorem dJ2_getChar_3b067_59 : decode cJ2_getChar_3b067 59 = .ok (.ireturn, 1) := by decide +kernel
theorem dJ2_length_9d52b_0 : decode cJ2_length_9d52b 0 = .ok (.aload_n 0, 1) := by decide +kernel
theorem dJ2_length_9d52b_1 : decode cJ2_length_9d52b 1 = .ok (.arraylength, 1) := by decide +kernel
theorem dJ2_length_9d52b_2 : decode cJ2_length_9d52b 2 = .ok (.iconst 1, 1) := by decide +kernel
theorem dJ2_length_9d52b_3 : decode cJ2_length_9d52b 3 = .ok (.ishr, 1) := by decide +kernel
theorem dJ2_length_9d52b_4 : decode cJ2_length_9d52b 4 = .ok (.ireturn, 1) := by decide +kernel
theorem dJ2_charAt_3b067_0 : decode cJ2_charAt_3b067 0 = .ok (.iload_n 1, 1) := by decide +kernel
theorem dJ2_charAt_3b067_1 : decode cJ2_charAt_3b067 1 = .ok (.aload_n 0, 1) := by decide +kernel
theorem dJ2_charAt_3b067_2 : decode cJ2_charAt_3b067 2 = .ok (.invokestatic 67, 3) := by decide +kernel
theorem dJ2_charAt_3b067_5 : decode cJ2_charAt_3b067 5 = .ok (.aload_n 0, 1) := by decide +kernel
theorem dJ2_charAt_3b067_6 : decode cJ2_charAt_3b067 6 = .ok (.iload_n 1, 1) := by decide +kernel
theorem dJ2_charAt_3b067_7 : decode cJ2_charAt_3b067 7 = .ok (.invokestatic 71, 3) := by decide +kernel
theorem dJ2_charAt_3b067_10 : decode cJ2_charAt_3b067 10 = .ok (.ireturn, 1) := by decide +kernel
theorem dJ2_checkIndex_2214a_0 : decode cJ2_checkIndex_2214a 0 = .ok (.iload_n 0, 1) := by decide +kernel
theorem dJ2_checkIndex_2214a_1 : decode cJ2_checkIndex_2214a 1 = .ok (.aload_n 1, 1) := by decide +kernel
theorem dJ2_checkIndex_2214a_2 : decode cJ2_checkIndex_2214a 2 = .ok (.invokestatic 48, 3) := by decide +kernel
theorem dJ2_checkIndex_2214a_5 : decode cJ2_checkIndex_2214a 5 = .ok (.invokestatic 414, 3) := by decide +kernel
theorem dJ2_checkIndex_2214a_8 : decode cJ2_checkIndex_2214a 8 = .ok (.return_, 1) := by decide +kernel
theorem dJ3_checkIndex_8e157_0 : decode cJ3_checkIndex_8e157 0 = .ok (.iload_n 0, 1) := by decide +kernel
theorem dJ3_checkIndex_8e157_1 : decode cJ3_checkIndex_8e157 1 = .ok (.ifCond .lt 8, 3) := by decide +kernel
theorem dJ3_checkIndex_8e157_4 : decode cJ3_checkIndex_8e157 4 = .ok (.iload_n 0, 1) := by decide +kernel
theorem dJ3_checkIndex_8e157_5 : decode cJ3_checkIndex_8e157 5 = .ok (.iload_n 1, 1) := by decide +kernel
theorem dJ3_checkIndex_8e157_6 : decode cJ3_checkIndex_8e157 6 = .ok (.if_icmp .lt 10, 3) := by decide +kernel
theorem dJ3_checkIndex_8e157_9 : decode cJ3_checkIndex_8e157 9 = .ok (.aload_n 2, 1) := by decide +kernel
theorem dJ3_checkIndex_8e157_10 : decode cJ3_checkIndex_8e157 10 = .ok (.iload_n 0, 1) := by decide +kernel
theorem dJ3_checkIndex_8e157_11 : decode cJ3_checkIndex_8e157 11 = .ok (.iload_n 1, 1) := by decide +kernel
theorem dJ3_checkIndex_8e157_12 : decode cJ3_checkIndex_8e157 12 = .ok (.invokestatic 95, 3) := by decide +kernel
theorem dJ3_checkIndex_8e157_15 : decode cJ3_checkIndex_8e157 15 = .ok (.athrow, 1) := by decide +kernel
theorem dJ3_checkIndex_8e157_16 : decode cJ3_checkIndex_8e157 16 = .ok (.iload_n 0, 1) := by decide +kernel
theorem dJ3_checkIndex_8e157_17 : decode cJ3_checkIndex_8e157 17 = .ok (.ireturn, 1) := by decide +kernel
theorem dL_law_0 : decode cL_law 0 = .ok (.new 7, 3) := by decide +kernel
theorem dL_law_3 : decode cL_law 3 = .ok (.dup, 1) := by decide +kernel
theorem dL_law_4 : decode cL_law 4 = .ok (.invokespecial 9, 3) := by decide +kernel
theorem dL_law_7 : decode cL_law 7 = .ok (.astore_n 1, 1) := by decide +kernel
theorem dL_law_8 : decode cL_law 8 = .ok (.new 10, 3) := by decide +kernel
theorem dL_law_11 : decode cL_law 11 = .ok (.dup, 1) := by decide +kernel
theorem dL_law_12 : decode cL_law 12 = .ok (.invokespecial 12, 3) := by decide +kernel
theorem dL_law_15 : decode cL_law 15 = .ok (.astore_n 2, 1) := by decide +kernel
theorem dL_law_16 : decode cL_law 16 = .ok (.iconst 0, 1) := by decide +kernel
theorem dL_law_17 : decode cL_law 17 = .ok (.istore_n 3, 1) := by decide +kernel
theorem dL_law_18 : decode cL_law 18 = .ok (.iload_n 3, 1) := by decide +kernel
theorem dL_law_19 : decode cL_law 19 = .ok (.aload_n 0, 1) := by decide +kernel
theorem dL_law_20 : decode cL_law 20 = .ok (.arraylength, 1) := by decide +kernel
theorem dL_law_21 : decode cL_law 21 = .ok (.bipush 6, 2) := by decide +kernel
theorem dL_law_23 : decode cL_law 23 = .ok (.isub, 1) := by decide +kernel
theorem dL_law_24 : decode cL_law 24 = .ok (.if_icmp .gt 966, 3) := by decide +kernel
theorem dL_law_27 : decode cL_law 27 = .ok (.aload_n 0, 1) := by decide +kernel
theorem dL_law_28 : decode cL_law 28 = .ok (.iload_n 3, 1) := by decide +kernel
theorem dL_law_29 : decode cL_law 29 = .ok (.iaload, 1) := by decide +kernel
theorem dL_law_30 : decode cL_law 30 = .ok (.bipush 31, 2) := by decide +kernel
theorem dL_law_32 : decode cL_law 32 = .ok (.iand, 1) := by decide +kernel
theorem dL_law_33 : decode cL_law 33 = .ok (.tableswitch 951 0 27 #[127, 170, 213, 276, 299, 362, 375, 388, 411, 424, 457, 490, 513, 556, 589, 622, 655, 678, 701, 724, 757, 780, 803, 826, 859, 892, 915, 938], 127) := by decide +kernel
theorem dL_law_160 : decode cL_law 160 = .ok (.aload_n 1, 1) := by decide +kernel
theorem dL_law_161 : decode cL_law 161 = .ok (.aload_n 0, 1) := by decide +kernel
theorem dL_law_162 : decode cL_law 162 = .ok (.iload_n 3, 1) := by decide +kernel
theorem dL_law_163 : decode cL_law 163 = .ok (.iconst 1, 1) := by decide +kernel
theorem dL_law_164 : decode cL_law 164 = .ok (.iadd, 1) := by decide +kernel
theorem dL_law_165 : decode cL_law 165 = .ok (.iaload, 1) := by decide +kernel
theorem dL_law_166 : decode cL_law 166 = .ok (.aload_n 0, 1) := by decide +kernel
theorem dL_law_167 : decode cL_law 167 = .ok (.iload_n 3, 1) := by decide +kernel
theorem dL_law_168 : decode cL_law 168 = .ok (.iconst 2, 1) := by decide +kernel
theorem dL_law_169 : decode cL_law 169 = .ok (.iadd, 1) := by decide +kernel
theorem dL_law_170 : decode cL_law 170 = .ok (.iaload, 1) := by decide +kernel
theorem dL_law_171 : decode cL_law 171 = .ok (.aload_n 0, 1) := by decide +kernel
theorem dL_law_172 : decode cL_law 172 = .ok (.iload_n 3, 1) := by decide +kernel
theorem dL_law_173 : decode cL_law 173 = .ok (.iconst 3, 1) := by decide +kernel
theorem dL_law_174 : decode cL_law 174 = .ok (.iadd, 1) := by decide +kernel
theorem dL_law_175 : decode cL_law 175 = .ok (.iaload, 1) := by decide +kernel
theorem dL_law_176 : decode cL_law 176 = .ok (.invokevirtual 13, 3) := by decide +kernel
theorem dL_law_179 : decode cL_law 179 = .ok (.aload_n 2, 1) := by decide +kernel
theorem dL_law_180 : decode cL_law 180 = .ok (.aload_n 0, 1) := by decide +kernel
theorem dL_law_181 : decode cL_law 181 = .ok (.iload_n 3, 1) := by decide +kernel
theorem dL_law_182 : decode cL_law 182 = .ok (.iconst 1, 1) := by decide +kernel
theorem dL_law_183 : decode cL_law 183 = .ok (.iadd, 1) := by decide +kernel
theorem dL_law_184 : decode cL_law 184 = .ok (.iaload, 1) := by decide +kernel
theorem dL_law_185 : decode cL_law 185 = .ok (.aload_n 0, 1) := by decide +kernel
theorem dL_law_186 : decode cL_law 186 = .ok (.iload_n 3, 1) := by decide +kernel
theorem dL_law_187 : decode cL_law 187 = .ok (.iconst 2, 1) := by decide +kernel
theorem dL_law_188 : decode cL_law 188 = .ok (.iadd, 1) := by decide +kernel
theorem dL_law_189 : decode cL_law 189 = .ok (.iaload, 1) := by decide +kernel
theorem dL_law_190 : decode cL_law 190 = .ok (.aload_n 0, 1) := by decide +kernel
theorem dL_law_191 : decode cL_law 191 = .ok (.iload_n 3, 1) := by decide +kernel
theorem dL_law_192 : decode cL_law 192 = .ok (.iconst 3, 1) := by decide +kernel
theorem dL_law_193 : decode cL_law 193 = .ok (.iadd, 1) := by decide +kernel
theorem dL_law_194 : decode cL_law 194 = .ok (.iaload, 1) := by decide +kernel
theorem dL_law_195 : decode cL_law 195 = .ok (.invokevirtual 17, 3) := by decide +kernel
theorem dL_law_198 : decode cL_law 198 = .ok (.if_icmp .eq 786, 3) := by decide +kernel
theorem dL_law_201 : decode cL_law 201 = .ok (.iconst 0, 1) := by decide +kernel
theorem dL_law_202 : decode cL_law 202 = .ok (.ireturn, 1) := by decide +kernel
theorem dL_law_203 : decode cL_law 203 = .ok (.aload_n 1, 1) := by decide +kernel
theorem dL_law_204 : decode cL_law 204 = .ok (.aload_n 0, 1) := by decide +kernel
theorem dL_law_205 : decode cL_law 205 = .ok (.iload_n 3, 1) := by decide +kernel
theorem dL_law_206 : decode cL_law 206 = .ok (.iconst 1, 1) := by decide +kernel
theorem dL_law_207 : decode cL_law 207 = .ok (.iadd, 1) := by decide +kernel
theorem dL_law_208 : decode cL_law 208 = .ok (.iaload, 1) := by decide +kernel
theorem dL_law_209 : decode cL_law 209 = .ok (.aload_n 0, 1) := by decide +kernel
theorem dL_law_210 : decode cL_law 210 = .ok (.iload_n 3, 1) := by decide +kernel
theorem dL_law_211 : decode cL_law 211 = .ok (.iconst 2, 1) := by decide +kernel
theorem dL_law_212 : decode cL_law 212 = .ok (.iadd, 1) := by decide +kernel
theorem dL_law_213 : decode cL_law 213 = .ok (.iaload, 1) := by decide +kernel
theorem dL_law_214 : decode cL_law 214 = .ok (.aload_n 0, 1) := by decide +kernel
theorem dL_law_215 : decode cL_law 215 = .ok (.iload_n 3, 1) := by decide +kernel
theorem dL_law_216 : decode cL_law 216 = .ok (.iconst 3, 1) := by decide +kernel
theorem dL_law_217 : decode cL_law 217 = .ok (.iadd, 1) := by decide +kernel
theorem dL_law_218 : decode cL_law 218 = .ok (.iaload, 1) := by decide +kernel
theorem dL_law_219 : decode cL_law 219 = .ok (.invokevirtual 18, 3) := by decide +kernel
theorem dL_law_222 : decode cL_law 222 = .ok (.aload_n 2, 1) := by decide +kernel
theorem dL_law_223 : decode cL_law 223 = .ok (.aload_n 0, 1) := by decide +kernel
theorem dL_law_224 : decode cL_law 224 = .ok (.iload_n 3, 1) := by decide +kernel
theorem dL_law_225 : decode cL_law 225 = .ok (.iconst 1, 1) := by decide +kernel
theorem dL_law_226 : decode cL_law 226 = .ok (.iadd, 1) := by decide +kernel
theorem dL_law_227 : decode cL_law 227 = .ok (.iaload, 1) := by decide +kernel
theorem dL_law_228 : decode cL_law 228 = .ok (.aload_n 0, 1) := by decide +kernel
theorem dL_law_229 : decode cL_law 229 = .ok (.iload_n 3, 1) := by decide +kernel
theorem dL_law_230 : decode cL_law 230 = .ok (.iconst 2, 1) := by decide +kernel
theorem dL_law_231 : decode cL_law 231 = .ok (.iadd, 1) := by decide +kernel
theorem dL_law_232 : decode cL_law 232 = .ok (.iaload, 1) := by decide +kernel
theorem dL_law_233 : decode cL_law 233 = .ok (.aload_n 0, 1) := by decide +kernel
theorem dL_law_234 : decode cL_law 234 = .ok (.iload_n 3, 1) := by decide +kernel
theorem dL_law_235 : decode cL_law 235 = .ok (.iconst 3, 1) := by decide +kernel
theorem dL_law_236 : decode cL_law 236 = .ok (.iadd, 1) := by decide +kernel
theorem dL_law_237 : decode cL_law 237 = .ok (.iaload, 1) := by decide +kernel
theorem dL_law_238 : decode cL_law 238 = .ok (.invokevirtual 21, 3) := by decide +kernel
theorem dL_law_241 : decode cL_law 241 = .ok (.if_icmp .eq 743, 3) := by decide +kernel
theorem dL_law_244 : decode cL_law 244 = .ok (.iconst 0, 1) := by decide +kernel
theorem dL_law_245 : decode cL_law 245 = .ok (.ireturn, 1) := by decide +kernel
theorem dL_law_246 : decode cL_law 246 = .ok (.aload_n 1, 1) := by decide +kernel
theorem dL_law_247 : decode cL_law 247 = .ok (.aload_n 0, 1) := by decide +kernel
theorem dL_law_248 : decode cL_law 248 = .ok (.iload_n 3, 1) := by decide +kernel
theorem dL_law_249 : decode cL_law 249 = .ok (.iconst 1, 1) := by decide +kernel
theorem dL_law_250 : decode cL_law 250 = .ok (.iadd, 1) := by decide +kernel
theorem dL_law_251 : decode cL_law 251 = .ok (.iaload, 1) := by decide +kernel
theorem dL_law_252 : decode cL_law 252 = .ok (.aload_n 0, 1) := by decide +kernel
theorem dL_law_253 : decode cL_law 253 = .ok (.iload_n 3, 1) := by decide +kernel
theorem dL_law_254 : decode cL_law 254 = .ok (.iconst 2, 1) := by decide +kernel
theorem dL_law_255 : decode cL_law 255 = .ok (.iadd, 1) := by decide +kernel
theorem dL_law_256 : decode cL_law 256 = .ok (.iaload, 1) := by decide +kernel
theorem dL_law_257 : decode cL_law 257 = .ok (.aload_n 0, 1) := by decide +kernel
theorem dL_law_258 : decode cL_law 258 = .ok (.iload_n 3, 1) := by decide +kernel
theorem dL_law_259 : decode cL_law 259 = .ok (.iconst 3, 1) := by decide +kernel
theorem dL_law_260 : decode cL_law 260 = .ok (.iadd, 1) := by decide +kernel
theorem dL_law_261 : decode cL_law 261 = .ok (.iaload, 1) := by decide +kernel
theorem dL_law_262 : decode cL_law 262 = .ok (.aload_n 0, 1) := by decide +kernel
theorem dL_law_263 : decode cL_law 263 = .ok (.iload_n 3, 1) := by decide +kernel
theorem dL_law_264 : decode cL_law 264 = .ok (.iconst 4, 1) := by decide +kernel
theorem dL_law_265 : decode cL_law 265 = .ok (.iadd, 1) := by decide +kernel
theorem dL_law_266 : decode cL_law 266 = .ok (.iaload, 1) := by decide +kernel
theorem dL_law_267 : decode cL_law 267 = .ok (.aload_n 0, 1) := by decide +kernel
theorem dL_law_268 : decode cL_law 268 = .ok (.iload_n 3, 1) := by decide +kernel
theorem dL_law_269 : decode cL_law 269 = .ok (.iconst 5, 1) := by decide +kernel
theorem dL_law_270 : decode cL_law 270 = .ok (.iadd, 1) := by decide +kernel
theorem dL_law_271 : decode cL_law 271 = .ok (.iaload, 1) := by decide +kernel
theorem dL_law_272 : decode cL_law 272 = .ok (.invokevirtual 22, 3) := by decide +kernel
theorem dL_law_275 : decode cL_law 275 = .ok (.aload_n 2, 1) := by decide +kernel
theorem dL_law_276 : decode cL_law 276 = .ok (.aload_n 0, 1) := by decide +kernel
theorem dL_law_277 : decode cL_law 277 = .ok (.iload_n 3, 1) := by decide +kernel
theorem dL_law_278 : decode cL_law 278 = .ok (.iconst 1, 1) := by decide +kernel
theorem dL_law_279 : decode cL_law 279 = .ok (.iadd, 1) := by decide +kernel
theorem dL_law_280 : decode cL_law 280 = .ok (.iaload, 1) := by decide +kernel
theorem dL_law_281 : decode cL_law 281 = .ok (.aload_n 0, 1) := by decide +kernel
theorem dL_law_282 : decode cL_law 282 = .ok (.iload_n 3, 1) := by decide +kernel
theorem dL_law_283 : decode cL_law 283 = .ok (.iconst 2, 1) := by decide +kernel
theorem dL_law_284 : decode cL_law 284 = .ok (.iadd, 1) := by decide +kernel
theorem dL_law_285 : decode cL_law 285 = .ok (.iaload, 1) := by decide +kernel
theorem dL_law_286 : decode cL_law 286 = .ok (.aload_n 0, 1) := by decide +kernel
theorem dL_law_287 : decode cL_law 287 = .ok (.iload_n 3, 1) := by decide +kernel
theorem dL_law_288 : decode cL_law 288 = .ok (.iconst 3, 1) := by decide +kernel
theorem dL_law_289 : decode cL_law 289 = .ok (.iadd, 1) := by decide +kernel
theorem dL_law_290 : decode cL_law 290 = .ok (.iaload, 1) := by decide +kernel
theorem dL_law_291 : decode cL_law 291 = .ok (.aload_n 0, 1) := by decide +kernel
theorem dL_law_292 : decode cL_law 292 = .ok (.iload_n 3, 1) := by decide +kernel
theorem dL_law_293 : decode cL_law 293 = .ok (.iconst 4, 1) := by decide +kernel
theorem dL_law_294 : decode cL_law 294 = .ok (.iadd, 1) := by decide +kernel
theorem dL_law_295 : decode cL_law 295 = .ok (.iaload, 1) := by decide +kernel
theorem dL_law_296 : decode cL_law 296 = .ok (.aload_n 0, 1) := by decide +kernel
theorem dL_law_297 : decode cL_law 297 = .ok (.iload_n 3, 1) := by decide +kernel
theorem dL_law_298 : decode cL_law 298 = .ok (.iconst 5, 1) := by decide +kernel
theorem dL_law_299 : decode cL_law 299 = .ok (.iadd, 1) := by decide +kernel
theorem dL_law_300 : decode cL_law 300 = .ok (.iaload, 1) := by decide +kernel
theorem dL_law_301 : decode cL_law 301 = .ok (.invokevirtual 26, 3) := by decide +kernel
theorem dL_law_304 : decode cL_law 304 = .ok (.if_icmp .eq 680, 3) := by decide +kernel
theorem dL_law_307 : decode cL_law 307 = .ok (.iconst 0, 1) := by decide +kernel
theorem dL_law_308 : decode cL_law 308 = .ok (.ireturn, 1) := by decide +kernel
theorem dL_law_309 : decode cL_law 309 = .ok (.aload_n 1, 1) := by decide +kernel
theorem dL_law_310 : decode cL_law 310 = .ok (.aload_n 0, 1) := by decide +kernel
theorem dL_law_311 : decode cL_law 311 = .ok (.iload_n 3, 1) := by decide +kernel
theorem dL_law_312 : decode cL_law 312 = .ok (.iconst 1, 1) := by decide +kernel
theorem dL_law_313 : decode cL_law 313 = .ok (.iadd, 1) := by decide +kernel
theorem dL_law_314 : decode cL_law 314 = .ok (.iaload, 1) := by decide +kernel
theorem dL_law_315 : decode cL_law 315 = .ok (.invokevirtual 27, 3) := by decide +kernel
theorem dL_law_318 : decode cL_law 318 = .ok (.aload_n 2, 1) := by decide +kernel
theorem dL_law_319 : decode cL_law 319 = .ok (.aload_n 0, 1) := by decide +kernel
theorem dL_law_320 : decode cL_law 320 = .ok (.iload_n 3, 1) := by decide +kernel
theorem dL_law_321 : decode cL_law 321 = .ok (.iconst 1, 1) := by decide +kernel
theorem dL_law_322 : decode cL_law 322 = .ok (.iadd, 1) := by decide +kernel
theorem dL_law_323 : decode cL_law 323 = .ok (.iaload, 1) := by decide +kernel
theorem dL_law_324 : decode cL_law 324 = .ok (.invokevirtual 31, 3) := by decide +kernel
theorem dL_law_327 : decode cL_law 327 = .ok (.if_icmp .eq 657, 3) := by decide +kernel
theorem dL_law_330 : decode cL_law 330 = .ok (.iconst 0, 1) := by decide +kernel
theorem dL_law_331 : decode cL_law 331 = .ok (.ireturn, 1) := by decide +kernel
theorem dL_law_332 : decode cL_law 332 = .ok (.aload_n 1, 1) := by decide +kernel
theorem dL_law_333 : decode cL_law 333 = .ok (.aload_n 0, 1) := by decide +kernel
theorem dL_law_334 : decode cL_law 334 = .ok (.iload_n 3, 1) := by decide +kernel
theorem dL_law_335 : decode cL_law 335 = .ok (.iconst 1, 1) := by decide +kernel
theorem dL_law_336 : decode cL_law 336 = .ok (.iadd, 1) := by decide +kernel
theorem dL_law_337 : decode cL_law 337 = .ok (.iaload, 1) := by decide +kernel
theorem dL_law_338 : decode cL_law 338 = .ok (.i2l, 1) := by decide +kernel
theorem dL_law_339 : decode cL_law 339 = .ok (.bipush 32, 2) := by decide +kernel
theorem dL_law_341 : decode cL_law 341 = .ok (.lshl, 1) := by decide +kernel
theorem dL_law_342 : decode cL_law 342 = .ok (.aload_n 0, 1) := by decide +kernel
theorem dL_law_343 : decode cL_law 343 = .ok (.iload_n 3, 1) := by decide +kernel
theorem dL_law_344 : decode cL_law 344 = .ok (.iconst 2, 1) := by decide +kernel
theorem dL_law_345 : decode cL_law 345 = .ok (.iadd, 1) := by decide +kernel
theorem dL_law_346 : decode cL_law 346 = .ok (.iaload, 1) := by decide +kernel
theorem dL_law_347 : decode cL_law 347 = .ok (.i2l, 1) := by decide +kernel
theorem dL_law_348 : decode cL_law 348 = .ok (.ldc2_w 32, 3) := by decide +kernel
theorem dL_law_351 : decode cL_law 351 = .ok (.land, 1) := by decide +kernel
theorem dL_law_352 : decode cL_law 352 = .ok (.lor, 1) := by decide +kernel
theorem dL_law_353 : decode cL_law 353 = .ok (.aload_n 0, 1) := by decide +kernel
theorem dL_law_354 : decode cL_law 354 = .ok (.iload_n 3, 1) := by decide +kernel
theorem dL_law_355 : decode cL_law 355 = .ok (.iconst 3, 1) := by decide +kernel
theorem dL_law_356 : decode cL_law 356 = .ok (.iadd, 1) := by decide +kernel
theorem dL_law_357 : decode cL_law 357 = .ok (.iaload, 1) := by decide +kernel
theorem dL_law_358 : decode cL_law 358 = .ok (.invokevirtual 34, 3) := by decide +kernel
theorem dL_law_361 : decode cL_law 361 = .ok (.aload_n 2, 1) := by decide +kernel
theorem dL_law_362 : decode cL_law 362 = .ok (.aload_n 0, 1) := by decide +kernel
theorem dL_law_363 : decode cL_law 363 = .ok (.iload_n 3, 1) := by decide +kernel
theorem dL_law_364 : decode cL_law 364 = .ok (.iconst 1, 1) := by decide +kernel
theorem dL_law_365 : decode cL_law 365 = .ok (.iadd, 1) := by decide +kernel
theorem dL_law_366 : decode cL_law 366 = .ok (.iaload, 1) := by decide +kernel
theorem dL_law_367 : decode cL_law 367 = .ok (.i2l, 1) := by decide +kernel
theorem dL_law_368 : decode cL_law 368 = .ok (.bipush 32, 2) := by decide +kernel
theorem dL_law_370 : decode cL_law 370 = .ok (.lshl, 1) := by decide +kernel
theorem dL_law_371 : decode cL_law 371 = .ok (.aload_n 0, 1) := by decide +kernel
theorem dL_law_372 : decode cL_law 372 = .ok (.iload_n 3, 1) := by decide +kernel
theorem dL_law_373 : decode cL_law 373 = .ok (.iconst 2, 1) := by decide +kernel
theorem dL_law_374 : decode cL_law 374 = .ok (.iadd, 1) := by decide +kernel
theorem dL_law_375 : decode cL_law 375 = .ok (.iaload, 1) := by decide +kernel
theorem dL_law_376 : decode cL_law 376 = .ok (.i2l, 1) := by decide +kernel
theorem dL_law_377 : decode cL_law 377 = .ok (.ldc2_w 32, 3) := by decide +kernel
theorem dL_law_380 : decode cL_law 380 = .ok (.land, 1) := by decide +kernel
theorem dL_law_381 : decode cL_law 381 = .ok (.lor, 1) := by decide +kernel
theorem dL_law_382 : decode cL_law 382 = .ok (.aload_n 0, 1) := by decide +kernel
theorem dL_law_383 : decode cL_law 383 = .ok (.iload_n 3, 1) := by decide +kernel
theorem dL_law_384 : decode cL_law 384 = .ok (.iconst 3, 1) := by decide +kernel
theorem dL_law_385 : decode cL_law 385 = .ok (.iadd, 1) := by decide +kernel
theorem dL_law_386 : decode cL_law 386 = .ok (.iaload, 1) := by decide +kernel
theorem dL_law_387 : decode cL_law 387 = .ok (.invokevirtual 38, 3) := by decide +kernel
theorem dL_law_390 : decode cL_law 390 = .ok (.if_icmp .eq 594, 3) := by decide +kernel
theorem dL_law_393 : decode cL_law 393 = .ok (.iconst 0, 1) := by decide +kernel
theorem dL_law_394 : decode cL_law 394 = .ok (.ireturn, 1) := by decide +kernel
theorem dL_law_395 : decode cL_law 395 = .ok (.aload_n 1, 1) := by decide +kernel
theorem dL_law_396 : decode cL_law 396 = .ok (.invokevirtual 39, 3) := by decide +kernel
theorem dL_law_399 : decode cL_law 399 = .ok (.aload_n 2, 1) := by decide +kernel
theorem dL_law_400 : decode cL_law 400 = .ok (.invokevirtual 43, 3) := by decide +kernel
theorem dL_law_403 : decode cL_law 403 = .ok (.if_icmp .eq 581, 3) := by decide +kernel
theorem dL_law_406 : decode cL_law 406 = .ok (.iconst 0, 1) := by decide +kernel
theorem dL_law_407 : decode cL_law 407 = .ok (.ireturn, 1) := by decide +kernel
theorem dL_law_408 : decode cL_law 408 = .ok (.aload_n 1, 1) := by decide +kernel
theorem dL_law_409 : decode cL_law 409 = .ok (.invokevirtual 44, 3) := by decide +kernel
theorem dL_law_412 : decode cL_law 412 = .ok (.aload_n 2, 1) := by decide +kernel
theorem dL_law_413 : decode cL_law 413 = .ok (.invokevirtual 47, 3) := by decide +kernel
theorem dL_law_416 : decode cL_law 416 = .ok (.if_icmp .eq 568, 3) := by decide +kernel
theorem dL_law_419 : decode cL_law 419 = .ok (.iconst 0, 1) := by decide +kernel
theorem dL_law_420 : decode cL_law 420 = .ok (.ireturn, 1) := by decide +kernel
theorem dL_law_421 : decode cL_law 421 = .ok (.aload_n 1, 1) := by decide +kernel
theorem dL_law_422 : decode cL_law 422 = .ok (.aload_n 0, 1) := by decide +kernel
theorem dL_law_423 : decode cL_law 423 = .ok (.iload_n 3, 1) := by decide +kernel
theorem dL_law_424 : decode cL_law 424 = .ok (.iconst 1, 1) := by decide +kernel
theorem dL_law_425 : decode cL_law 425 = .ok (.iadd, 1) := by decide +kernel
theorem dL_law_426 : decode cL_law 426 = .ok (.iaload, 1) := by decide +kernel
theorem dL_law_427 : decode cL_law 427 = .ok (.invokevirtual 48, 3) := by decide +kernel
theorem dL_law_430 : decode cL_law 430 = .ok (.aload_n 2, 1) := by decide +kernel
theorem dL_law_431 : decode cL_law 431 = .ok (.aload_n 0, 1) := by decide +kernel
theorem dL_law_432 : decode cL_law 432 = .ok (.iload_n 3, 1) := by decide +kernel
theorem dL_law_433 : decode cL_law 433 = .ok (.iconst 1, 1) := by decide +kernel
theorem dL_law_434 : decode cL_law 434 = .ok (.iadd, 1) := by decide +kernel
theorem dL_law_435 : decode cL_law 435 = .ok (.iaload, 1) := by decide +kernel
theorem dL_law_436 : decode cL_law 436 = .ok (.invokevirtual 51, 3) := by decide +kernel
theorem dL_law_439 : decode cL_law 439 = .ok (.if_icmp .eq 545, 3) := by decide +kernel
theorem dL_law_442 : decode cL_law 442 = .ok (.iconst 0, 1) := by decide +kernel
theorem dL_law_443 : decode cL_law 443 = .ok (.ireturn, 1) := by decide +kernel
theorem dL_law_444 : decode cL_law 444 = .ok (.aload_n 1, 1) := by decide +kernel
theorem dL_law_445 : decode cL_law 445 = .ok (.invokevirtual 52, 3) := by decide +kernel
theorem dL_law_448 : decode cL_law 448 = .ok (.aload_n 2, 1) := by decide +kernel
theorem dL_law_449 : decode cL_law 449 = .ok (.invokevirtual 55, 3) := by decide +kernel
theorem dL_law_452 : decode cL_law 452 = .ok (.if_icmp .eq 532, 3) := by decide +kernel
theorem dL_law_455 : decode cL_law 455 = .ok (.iconst 0, 1) := by decide +kernel
theorem dL_law_456 : decode cL_law 456 = .ok (.ireturn, 1) := by decide +kernel
theorem dL_law_457 : decode cL_law 457 = .ok (.aload_n 1, 1) := by decide +kernel
theorem dL_law_458 : decode cL_law 458 = .ok (.aload_n 0, 1) := by decide +kernel
theorem dL_law_459 : decode cL_law 459 = .ok (.iload_n 3, 1) := by decide +kernel
theorem dL_law_460 : decode cL_law 460 = .ok (.iconst 1, 1) := by decide +kernel
theorem dL_law_461 : decode cL_law 461 = .ok (.iadd, 1) := by decide +kernel
theorem dL_law_462 : decode cL_law 462 = .ok (.iaload, 1) := by decide +kernel
theorem dL_law_463 : decode cL_law 463 = .ok (.aload_n 0, 1) := by decide +kernel
theorem dL_law_464 : decode cL_law 464 = .ok (.iload_n 3, 1) := by decide +kernel
theorem dL_law_465 : decode cL_law 465 = .ok (.iconst 2, 1) := by decide +kernel
theorem dL_law_466 : decode cL_law 466 = .ok (.iadd, 1) := by decide +kernel
theorem dL_law_467 : decode cL_law 467 = .ok (.iaload, 1) := by decide +kernel
theorem dL_law_468 : decode cL_law 468 = .ok (.invokevirtual 56, 3) := by decide +kernel
theorem dL_law_471 : decode cL_law 471 = .ok (.aload_n 2, 1) := by decide +kernel
theorem dL_law_472 : decode cL_law 472 = .ok (.aload_n 0, 1) := by decide +kernel
theorem dL_law_473 : decode cL_law 473 = .ok (.iload_n 3, 1) := by decide +kernel
theorem dL_law_474 : decode cL_law 474 = .ok (.iconst 1, 1) := by decide +kernel
theorem dL_law_475 : decode cL_law 475 = .ok (.iadd, 1) := by decide +kernel
theorem dL_law_476 : decode cL_law 476 = .ok (.iaload, 1) := by decide +kernel
theorem dL_law_477 : decode cL_law 477 = .ok (.aload_n 0, 1) := by decide +kernel
theorem dL_law_478 : decode cL_law 478 = .ok (.iload_n 3, 1) := by decide +kernel
theorem dL_law_479 : decode cL_law 479 = .ok (.iconst 2, 1) := by decide +kernel
theorem dL_law_480 : decode cL_law 480 = .ok (.iadd, 1) := by decide +kernel
theorem dL_law_481 : decode cL_law 481 = .ok (.iaload, 1) := by decide +kernel
theorem dL_law_482 : decode cL_law 482 = .ok (.invokevirtual 60, 3) := by decide +kernel
theorem dL_law_485 : decode cL_law 485 = .ok (.if_icmp .eq 499, 3) := by decide +kernel
theorem dL_law_488 : decode cL_law 488 = .ok (.iconst 0, 1) := by decide +kernel
theorem dL_law_489 : decode cL_law 489 = .ok (.ireturn, 1) := by decide +kernel
theorem dL_law_490 : decode cL_law 490 = .ok (.aload_n 1, 1) := by decide +kernel
theorem dL_law_491 : decode cL_law 491 = .ok (.aload_n 0, 1) := by decide +kernel
theorem dL_law_492 : decode cL_law 492 = .ok (.iload_n 3, 1) := by decide +kernel
theorem dL_law_493 : decode cL_law 493 = .ok (.iconst 1, 1) := by decide +kernel
theorem dL_law_494 : decode cL_law 494 = .ok (.iadd, 1) := by decide +kernel
theorem dL_law_495 : decode cL_law 495 = .ok (.iaload, 1) := by decide +kernel
theorem dL_law_496 : decode cL_law 496 = .ok (.aload_n 0, 1) := by decide +kernel
theorem dL_law_497 : decode cL_law 497 = .ok (.iload_n 3, 1) := by decide +kernel
theorem dL_law_498 : decode cL_law 498 = .ok (.iconst 2, 1) := by decide +kernel
theorem dL_law_499 : decode cL_law 499 = .ok (.iadd, 1) := by decide +kernel
theorem dL_law_500 : decode cL_law 500 = .ok (.iaload, 1) := by decide +kernel
theorem dL_law_501 : decode cL_law 501 = .ok (.invokevirtual 61, 3) := by decide +kernel
theorem dL_law_504 : decode cL_law 504 = .ok (.aload_n 2, 1) := by decide +kernel
theorem dL_law_505 : decode cL_law 505 = .ok (.aload_n 0, 1) := by decide +kernel
theorem dL_law_506 : decode cL_law 506 = .ok (.iload_n 3, 1) := by decide +kernel
theorem dL_law_507 : decode cL_law 507 = .ok (.iconst 1, 1) := by decide +kernel
theorem dL_law_508 : decode cL_law 508 = .ok (.iadd, 1) := by decide +kernel
theorem dL_law_509 : decode cL_law 509 = .ok (.iaload, 1) := by decide +kernel
theorem dL_law_510 : decode cL_law 510 = .ok (.aload_n 0, 1) := by decide +kernel
theorem dL_law_511 : decode cL_law 511 = .ok (.iload_n 3, 1) := by decide +kernel
theorem dL_law_512 : decode cL_law 512 = .ok (.iconst 2, 1) := by decide +kernel
theorem dL_law_513 : decode cL_law 513 = .ok (.iadd, 1) := by decide +kernel
theorem dL_law_514 : decode cL_law 514 = .ok (.iaload, 1) := by decide +kernel
theorem dL_law_515 : decode cL_law 515 = .ok (.invokevirtual 64, 3) := by decide +kernel
theorem dL_law_518 : decode cL_law 518 = .ok (.if_icmp .eq 466, 3) := by decide +kernel
theorem dL_law_521 : decode cL_law 521 = .ok (.iconst 0, 1) := by decide +kernel
theorem dL_law_522 : decode cL_law 522 = .ok (.ireturn, 1) := by decide +kernel
theorem dL_law_523 : decode cL_law 523 = .ok (.aload_n 1, 1) := by decide +kernel
theorem dL_law_524 : decode cL_law 524 = .ok (.aload_n 0, 1) := by decide +kernel
theorem dL_law_525 : decode cL_law 525 = .ok (.iload_n 3, 1) := by decide +kernel
theorem dL_law_526 : decode cL_law 526 = .ok (.iconst 1, 1) := by decide +kernel
theorem dL_law_527 : decode cL_law 527 = .ok (.iadd, 1) := by decide +kernel
theorem dL_law_528 : decode cL_law 528 = .ok (.iaload, 1) := by decide +kernel
theorem dL_law_529 : decode cL_law 529 = .ok (.invokevirtual 65, 3) := by decide +kernel
theorem dL_law_532 : decode cL_law 532 = .ok (.aload_n 2, 1) := by decide +kernel
theorem dL_law_533 : decode cL_law 533 = .ok (.aload_n 0, 1) := by decide +kernel
theorem dL_law_534 : decode cL_law 534 = .ok (.iload_n 3, 1) := by decide +kernel
theorem dL_law_535 : decode cL_law 535 = .ok (.iconst 1, 1) := by decide +kernel
theorem dL_law_536 : decode cL_law 536 = .ok (.iadd, 1) := by decide +kernel
theorem dL_law_537 : decode cL_law 537 = .ok (.iaload, 1) := by decide +kernel
theorem dL_law_538 : decode cL_law 538 = .ok (.invokevirtual 68, 3) := by decide +kernel
theorem dL_law_541 : decode cL_law 541 = .ok (.if_icmp .eq 443, 3) := by decide +kernel
theorem dL_law_544 : decode cL_law 544 = .ok (.iconst 0, 1) := by decide +kernel
theorem dL_law_545 : decode cL_law 545 = .ok (.ireturn, 1) := by decide +kernel
theorem dL_law_546 : decode cL_law 546 = .ok (.aload_n 1, 1) := by decide +kernel
theorem dL_law_547 : decode cL_law 547 = .ok (.aload_n 0, 1) := by decide +kernel
theorem dL_law_548 : decode cL_law 548 = .ok (.iload_n 3, 1) := by decide +kernel
theorem dL_law_549 : decode cL_law 549 = .ok (.iconst 1, 1) := by decide +kernel
theorem dL_law_550 : decode cL_law 550 = .ok (.iadd, 1) := by decide +kernel
theorem dL_law_551 : decode cL_law 551 = .ok (.iaload, 1) := by decide +kernel
theorem dL_law_552 : decode cL_law 552 = .ok (.aload_n 0, 1) := by decide +kernel
theorem dL_law_553 : decode cL_law 553 = .ok (.iload_n 3, 1) := by decide +kernel
theorem dL_law_554 : decode cL_law 554 = .ok (.iconst 2, 1) := by decide +kernel
theorem dL_law_555 : decode cL_law 555 = .ok (.iadd, 1) := by decide +kernel
theorem dL_law_556 : decode cL_law 556 = .ok (.iaload, 1) := by decide +kernel
theorem dL_law_557 : decode cL_law 557 = .ok (.aload_n 0, 1) := by decide +kernel
theorem dL_law_558 : decode cL_law 558 = .ok (.iload_n 3, 1) := by decide +kernel
theorem dL_law_559 : decode cL_law 559 = .ok (.iconst 3, 1) := by decide +kernel
theorem dL_law_560 : decode cL_law 560 = .ok (.iadd, 1) := by decide +kernel
theorem dL_law_561 : decode cL_law 561 = .ok (.iaload, 1) := by decide +kernel
theorem dL_law_562 : decode cL_law 562 = .ok (.invokevirtual 69, 3) := by decide +kernel
theorem dL_law_565 : decode cL_law 565 = .ok (.aload_n 2, 1) := by decide +kernel
theorem dL_law_566 : decode cL_law 566 = .ok (.aload_n 0, 1) := by decide +kernel
theorem dL_law_567 : decode cL_law 567 = .ok (.iload_n 3, 1) := by decide +kernel
theorem dL_law_568 : decode cL_law 568 = .ok (.iconst 1, 1) := by decide +kernel
theorem dL_law_569 : decode cL_law 569 = .ok (.iadd, 1) := by decide +kernel
theorem dL_law_570 : decode cL_law 570 = .ok (.iaload, 1) := by decide +kernel
theorem dL_law_571 : decode cL_law 571 = .ok (.aload_n 0, 1) := by decide +kernel
theorem dL_law_572 : decode cL_law 572 = .ok (.iload_n 3, 1) := by decide +kernel
theorem dL_law_573 : decode cL_law 573 = .ok (.iconst 2, 1) := by decide +kernel
theorem dL_law_574 : decode cL_law 574 = .ok (.iadd, 1) := by decide +kernel
theorem dL_law_575 : decode cL_law 575 = .ok (.iaload, 1) := by decide +kernel
theorem dL_law_576 : decode cL_law 576 = .ok (.aload_n 0, 1) := by decide +kernel
theorem dL_law_577 : decode cL_law 577 = .ok (.iload_n 3, 1) := by decide +kernel
theorem dL_law_578 : decode cL_law 578 = .ok (.iconst 3, 1) := by decide +kernel
theorem dL_law_579 : decode cL_law 579 = .ok (.iadd, 1) := by decide +kernel
theorem dL_law_580 : decode cL_law 580 = .ok (.iaload, 1) := by decide +kernel
theorem dL_law_581 : decode cL_law 581 = .ok (.invokevirtual 72, 3) := by decide +kernel
theorem dL_law_584 : decode cL_law 584 = .ok (.if_icmp .eq 400, 3) := by decide +kernel
theorem dL_law_587 : decode cL_law 587 = .ok (.iconst 0, 1) := by decide +kernel
theorem dL_law_588 : decode cL_law 588 = .ok (.ireturn, 1) := by decide +kernel
theorem dL_law_589 : decode cL_law 589 = .ok (.aload_n 1, 1) := by decide +kernel
theorem dL_law_590 : decode cL_law 590 = .ok (.aload_n 0, 1) := by decide +kernel
theorem dL_law_591 : decode cL_law 591 = .ok (.iload_n 3, 1) := by decide +kernel
theorem dL_law_592 : decode cL_law 592 = .ok (.iconst 1, 1) := by decide +kernel
theorem dL_law_593 : decode cL_law 593 = .ok (.iadd, 1) := by decide +kernel
theorem dL_law_594 : decode cL_law 594 = .ok (.iaload, 1) := by decide +kernel
theorem dL_law_595 : decode cL_law 595 = .ok (.aload_n 0, 1) := by decide +kernel
theorem dL_law_596 : decode cL_law 596 = .ok (.iload_n 3, 1) := by decide +kernel
theorem dL_law_597 : decode cL_law 597 = .ok (.iconst 2, 1) := by decide +kernel
theorem dL_law_598 : decode cL_law 598 = .ok (.iadd, 1) := by decide +kernel
theorem dL_law_599 : decode cL_law 599 = .ok (.iaload, 1) := by decide +kernel
theorem dL_law_600 : decode cL_law 600 = .ok (.invokevirtual 73, 3) := by decide +kernel
theorem dL_law_603 : decode cL_law 603 = .ok (.aload_n 2, 1) := by decide +kernel
theorem dL_law_604 : decode cL_law 604 = .ok (.aload_n 0, 1) := by decide +kernel
theorem dL_law_605 : decode cL_law 605 = .ok (.iload_n 3, 1) := by decide +kernel
theorem dL_law_606 : decode cL_law 606 = .ok (.iconst 1, 1) := by decide +kernel
theorem dL_law_607 : decode cL_law 607 = .ok (.iadd, 1) := by decide +kernel
theorem dL_law_608 : decode cL_law 608 = .ok (.iaload, 1) := by decide +kernel
theorem dL_law_609 : decode cL_law 609 = .ok (.aload_n 0, 1) := by decide +kernel
theorem dL_law_610 : decode cL_law 610 = .ok (.iload_n 3, 1) := by decide +kernel
theorem dL_law_611 : decode cL_law 611 = .ok (.iconst 2, 1) := by decide +kernel
theorem dL_law_612 : decode cL_law 612 = .ok (.iadd, 1) := by decide +kernel
theorem dL_law_613 : decode cL_law 613 = .ok (.iaload, 1) := by decide +kernel
theorem dL_law_614 : decode cL_law 614 = .ok (.invokevirtual 76, 3) := by decide +kernel
theorem dL_law_617 : decode cL_law 617 = .ok (.if_icmp .eq 367, 3) := by decide +kernel
theorem dL_law_620 : decode cL_law 620 = .ok (.iconst 0, 1) := by decide +kernel
theorem dL_law_621 : decode cL_law 621 = .ok (.ireturn, 1) := by decide +kernel
theorem dL_law_622 : decode cL_law 622 = .ok (.aload_n 1, 1) := by decide +kernel
theorem dL_law_623 : decode cL_law 623 = .ok (.aload_n 0, 1) := by decide +kernel
theorem dL_law_624 : decode cL_law 624 = .ok (.iload_n 3, 1) := by decide +kernel
theorem dL_law_625 : decode cL_law 625 = .ok (.iconst 1, 1) := by decide +kernel
theorem dL_law_626 : decode cL_law 626 = .ok (.iadd, 1) := by decide +kernel
theorem dL_law_627 : decode cL_law 627 = .ok (.iaload, 1) := by decide +kernel
theorem dL_law_628 : decode cL_law 628 = .ok (.aload_n 0, 1) := by decide +kernel
theorem dL_law_629 : decode cL_law 629 = .ok (.iload_n 3, 1) := by decide +kernel
theorem dL_law_630 : decode cL_law 630 = .ok (.iconst 2, 1) := by decide +kernel
theorem dL_law_631 : decode cL_law 631 = .ok (.iadd, 1) := by decide +kernel
theorem dL_law_632 : decode cL_law 632 = .ok (.iaload, 1) := by decide +kernel
theorem dL_law_633 : decode cL_law 633 = .ok (.invokevirtual 77, 3) := by decide +kernel
theorem dL_law_636 : decode cL_law 636 = .ok (.aload_n 2, 1) := by decide +kernel
theorem dL_law_637 : decode cL_law 637 = .ok (.aload_n 0, 1) := by decide +kernel
theorem dL_law_638 : decode cL_law 638 = .ok (.iload_n 3, 1) := by decide +kernel
theorem dL_law_639 : decode cL_law 639 = .ok (.iconst 1, 1) := by decide +kernel
theorem dL_law_640 : decode cL_law 640 = .ok (.iadd, 1) := by decide +kernel
theorem dL_law_641 : decode cL_law 641 = .ok (.iaload, 1) := by decide +kernel
theorem dL_law_642 : decode cL_law 642 = .ok (.aload_n 0, 1) := by decide +kernel
theorem dL_law_643 : decode cL_law 643 = .ok (.iload_n 3, 1) := by decide +kernel
theorem dL_law_644 : decode cL_law 644 = .ok (.iconst 2, 1) := by decide +kernel
theorem dL_law_645 : decode cL_law 645 = .ok (.iadd, 1) := by decide +kernel
theorem dL_law_646 : decode cL_law 646 = .ok (.iaload, 1) := by decide +kernel
theorem dL_law_647 : decode cL_law 647 = .ok (.invokevirtual 80, 3) := by decide +kernel
theorem dL_law_650 : decode cL_law 650 = .ok (.if_icmp .eq 334, 3) := by decide +kernel
theorem dL_law_653 : decode cL_law 653 = .ok (.iconst 0, 1) := by decide +kernel
theorem dL_law_654 : decode cL_law 654 = .ok (.ireturn, 1) := by decide +kernel
theorem dL_law_655 : decode cL_law 655 = .ok (.aload_n 1, 1) := by decide +kernel
theorem dL_law_656 : decode cL_law 656 = .ok (.aload_n 0, 1) := by decide +kernel
theorem dL_law_657 : decode cL_law 657 = .ok (.iload_n 3, 1) := by decide +kernel
theorem dL_law_658 : decode cL_law 658 = .ok (.iconst 1, 1) := by decide +kernel
theorem dL_law_659 : decode cL_law 659 = .ok (.iadd, 1) := by decide +kernel
theorem dL_law_660 : decode cL_law 660 = .ok (.iaload, 1) := by decide +kernel
theorem dL_law_661 : decode cL_law 661 = .ok (.aload_n 0, 1) := by decide +kernel
theorem dL_law_662 : decode cL_law 662 = .ok (.iload_n 3, 1) := by decide +kernel
theorem dL_law_663 : decode cL_law 663 = .ok (.iconst 2, 1) := by decide +kernel
theorem dL_law_664 : decode cL_law 664 = .ok (.iadd, 1) := by decide +kernel
theorem dL_law_665 : decode cL_law 665 = .ok (.iaload, 1) := by decide +kernel
theorem dL_law_666 : decode cL_law 666 = .ok (.invokevirtual 81, 3) := by decide +kernel
theorem dL_law_669 : decode cL_law 669 = .ok (.aload_n 2, 1) := by decide +kernel
theorem dL_law_670 : decode cL_law 670 = .ok (.aload_n 0, 1) := by decide +kernel
theorem dL_law_671 : decode cL_law 671 = .ok (.iload_n 3, 1) := by decide +kernel
theorem dL_law_672 : decode cL_law 672 = .ok (.iconst 1, 1) := by decide +kernel
theorem dL_law_673 : decode cL_law 673 = .ok (.iadd, 1) := by decide +kernel
theorem dL_law_674 : decode cL_law 674 = .ok (.iaload, 1) := by decide +kernel
theorem dL_law_675 : decode cL_law 675 = .ok (.aload_n 0, 1) := by decide +kernel
theorem dL_law_676 : decode cL_law 676 = .ok (.iload_n 3, 1) := by decide +kernel
theorem dL_law_677 : decode cL_law 677 = .ok (.iconst 2, 1) := by decide +kernel
theorem dL_law_678 : decode cL_law 678 = .ok (.iadd, 1) := by decide +kernel
theorem dL_law_679 : decode cL_law 679 = .ok (.iaload, 1) := by decide +kernel
theorem dL_law_680 : decode cL_law 680 = .ok (.invokevirtual 84, 3) := by decide +kernel
theorem dL_law_683 : decode cL_law 683 = .ok (.if_icmp .eq 301, 3) := by decide +kernel
theorem dL_law_686 : decode cL_law 686 = .ok (.iconst 0, 1) := by decide +kernel
theorem dL_law_687 : decode cL_law 687 = .ok (.ireturn, 1) := by decide +kernel
theorem dL_law_688 : decode cL_law 688 = .ok (.aload_n 1, 1) := by decide +kernel
theorem dL_law_689 : decode cL_law 689 = .ok (.aload_n 0, 1) := by decide +kernel
theorem dL_law_690 : decode cL_law 690 = .ok (.iload_n 3, 1) := by decide +kernel
theorem dL_law_691 : decode cL_law 691 = .ok (.iconst 1, 1) := by decide +kernel
theorem dL_law_692 : decode cL_law 692 = .ok (.iadd, 1) := by decide +kernel
theorem dL_law_693 : decode cL_law 693 = .ok (.iaload, 1) := by decide +kernel
theorem dL_law_694 : decode cL_law 694 = .ok (.invokevirtual 85, 3) := by decide +kernel
theorem dL_law_697 : decode cL_law 697 = .ok (.aload_n 2, 1) := by decide +kernel
theorem dL_law_698 : decode cL_law 698 = .ok (.aload_n 0, 1) := by decide +kernel
theorem dL_law_699 : decode cL_law 699 = .ok (.iload_n 3, 1) := by decide +kernel
theorem dL_law_700 : decode cL_law 700 = .ok (.iconst 1, 1) := by decide +kernel
theorem dL_law_701 : decode cL_law 701 = .ok (.iadd, 1) := by decide +kernel
theorem dL_law_702 : decode cL_law 702 = .ok (.iaload, 1) := by decide +kernel
theorem dL_law_703 : decode cL_law 703 = .ok (.invokevirtual 88, 3) := by decide +kernel
theorem dL_law_706 : decode cL_law 706 = .ok (.if_icmp .eq 278, 3) := by decide +kernel
theorem dL_law_709 : decode cL_law 709 = .ok (.iconst 0, 1) := by decide +kernel
theorem dL_law_710 : decode cL_law 710 = .ok (.ireturn, 1) := by decide +kernel
theorem dL_law_711 : decode cL_law 711 = .ok (.aload_n 1, 1) := by decide +kernel
theorem dL_law_712 : decode cL_law 712 = .ok (.aload_n 0, 1) := by decide +kernel
theorem dL_law_713 : decode cL_law 713 = .ok (.iload_n 3, 1) := by decide +kernel
theorem dL_law_714 : decode cL_law 714 = .ok (.iconst 1, 1) := by decide +kernel
theorem dL_law_715 : decode cL_law 715 = .ok (.iadd, 1) := by decide +kernel
theorem dL_law_716 : decode cL_law 716 = .ok (.iaload, 1) := by decide +kernel
theorem dL_law_717 : decode cL_law 717 = .ok (.invokevirtual 89, 3) := by decide +kernel
theorem dL_law_720 : decode cL_law 720 = .ok (.aload_n 2, 1) := by decide +kernel
theorem dL_law_721 : decode cL_law 721 = .ok (.aload_n 0, 1) := by decide +kernel
theorem dL_law_722 : decode cL_law 722 = .ok (.iload_n 3, 1) := by decide +kernel
theorem dL_law_723 : decode cL_law 723 = .ok (.iconst 1, 1) := by decide +kernel
theorem dL_law_724 : decode cL_law 724 = .ok (.iadd, 1) := by decide +kernel
theorem dL_law_725 : decode cL_law 725 = .ok (.iaload, 1) := by decide +kernel
theorem dL_law_726 : decode cL_law 726 = .ok (.invokevirtual 92, 3) := by decide +kernel
theorem dL_law_729 : decode cL_law 729 = .ok (.if_icmp .eq 255, 3) := by decide +kernel
theorem dL_law_732 : decode cL_law 732 = .ok (.iconst 0, 1) := by decide +kernel
theorem dL_law_733 : decode cL_law 733 = .ok (.ireturn, 1) := by decide +kernel
theorem dL_law_734 : decode cL_law 734 = .ok (.aload_n 1, 1) := by decide +kernel
theorem dL_law_735 : decode cL_law 735 = .ok (.aload_n 0, 1) := by decide +kernel
theorem dL_law_736 : decode cL_law 736 = .ok (.iload_n 3, 1) := by decide +kernel
theorem dL_law_737 : decode cL_law 737 = .ok (.iconst 1, 1) := by decide +kernel
theorem dL_law_738 : decode cL_law 738 = .ok (.iadd, 1) := by decide +kernel
theorem dL_law_739 : decode cL_law 739 = .ok (.iaload, 1) := by decide +kernel
theorem dL_law_740 : decode cL_law 740 = .ok (.invokevirtual 93, 3) := by decide +kernel
theorem dL_law_743 : decode cL_law 743 = .ok (.aload_n 2, 1) := by decide +kernel
theorem dL_law_744 : decode cL_law 744 = .ok (.aload_n 0, 1) := by decide +kernel
theorem dL_law_745 : decode cL_law 745 = .ok (.iload_n 3, 1) := by decide +kernel
theorem dL_law_746 : decode cL_law 746 = .ok (.iconst 1, 1) := by decide +kernel
theorem dL_law_747 : decode cL_law 747 = .ok (.iadd, 1) := by decide +kernel
theorem dL_law_748 : decode cL_law 748 = .ok (.iaload, 1) := by decide +kernel
theorem dL_law_749 : decode cL_law 749 = .ok (.invokevirtual 96, 3) := by decide +kernel
theorem dL_law_752 : decode cL_law 752 = .ok (.if_icmp .eq 232, 3) := by decide +kernel
theorem dL_law_755 : decode cL_law 755 = .ok (.iconst 0, 1) := by decide +kernel
theorem dL_law_756 : decode cL_law 756 = .ok (.ireturn, 1) := by decide +kernel
theorem dL_law_757 : decode cL_law 757 = .ok (.aload_n 1, 1) := by decide +kernel
theorem dL_law_758 : decode cL_law 758 = .ok (.aload_n 0, 1) := by decide +kernel
theorem dL_law_759 : decode cL_law 759 = .ok (.iload_n 3, 1) := by decide +kernel
theorem dL_law_760 : decode cL_law 760 = .ok (.iconst 1, 1) := by decide +kernel
theorem dL_law_761 : decode cL_law 761 = .ok (.iadd, 1) := by decide +kernel
theorem dL_law_762 : decode cL_law 762 = .ok (.iaload, 1) := by decide +kernel
theorem dL_law_763 : decode cL_law 763 = .ok (.aload_n 0, 1) := by decide +kernel
theorem dL_law_764 : decode cL_law 764 = .ok (.iload_n 3, 1) := by decide +kernel
theorem dL_law_765 : decode cL_law 765 = .ok (.iconst 2, 1) := by decide +kernel
theorem dL_law_766 : decode cL_law 766 = .ok (.iadd, 1) := by decide +kernel
theorem dL_law_767 : decode cL_law 767 = .ok (.iaload, 1) := by decide +kernel
theorem dL_law_768 : decode cL_law 768 = .ok (.invokevirtual 97, 3) := by decide +kernel
theorem dL_law_771 : decode cL_law 771 = .ok (.aload_n 2, 1) := by decide +kernel
theorem dL_law_772 : decode cL_law 772 = .ok (.aload_n 0, 1) := by decide +kernel
theorem dL_law_773 : decode cL_law 773 = .ok (.iload_n 3, 1) := by decide +kernel
theorem dL_law_774 : decode cL_law 774 = .ok (.iconst 1, 1) := by decide +kernel
theorem dL_law_775 : decode cL_law 775 = .ok (.iadd, 1) := by decide +kernel
theorem dL_law_776 : decode cL_law 776 = .ok (.iaload, 1) := by decide +kernel
theorem dL_law_777 : decode cL_law 777 = .ok (.aload_n 0, 1) := by decide +kernel
theorem dL_law_778 : decode cL_law 778 = .ok (.iload_n 3, 1) := by decide +kernel
theorem dL_law_779 : decode cL_law 779 = .ok (.iconst 2, 1) := by decide +kernel
theorem dL_law_780 : decode cL_law 780 = .ok (.iadd, 1) := by decide +kernel
theorem dL_law_781 : decode cL_law 781 = .ok (.iaload, 1) := by decide +kernel
theorem dL_law_782 : decode cL_law 782 = .ok (.invokevirtual 100, 3) := by decide +kernel
theorem dL_law_785 : decode cL_law 785 = .ok (.if_icmp .eq 199, 3) := by decide +kernel
theorem dL_law_788 : decode cL_law 788 = .ok (.iconst 0, 1) := by decide +kernel
theorem dL_law_789 : decode cL_law 789 = .ok (.ireturn, 1) := by decide +kernel
theorem dL_law_790 : decode cL_law 790 = .ok (.aload_n 1, 1) := by decide +kernel
theorem dL_law_791 : decode cL_law 791 = .ok (.aload_n 0, 1) := by decide +kernel
theorem dL_law_792 : decode cL_law 792 = .ok (.iload_n 3, 1) := by decide +kernel
theorem dL_law_793 : decode cL_law 793 = .ok (.iconst 1, 1) := by decide +kernel
theorem dL_law_794 : decode cL_law 794 = .ok (.iadd, 1) := by decide +kernel
theorem dL_law_795 : decode cL_law 795 = .ok (.iaload, 1) := by decide +kernel
theorem dL_law_796 : decode cL_law 796 = .ok (.invokevirtual 101, 3) := by decide +kernel
theorem dL_law_799 : decode cL_law 799 = .ok (.aload_n 2, 1) := by decide +kernel
theorem dL_law_800 : decode cL_law 800 = .ok (.aload_n 0, 1) := by decide +kernel
theorem dL_law_801 : decode cL_law 801 = .ok (.iload_n 3, 1) := by decide +kernel
theorem dL_law_802 : decode cL_law 802 = .ok (.iconst 1, 1) := by decide +kernel
theorem dL_law_803 : decode cL_law 803 = .ok (.iadd, 1) := by decide +kernel
theorem dL_law_804 : decode cL_law 804 = .ok (.iaload, 1) := by decide +kernel
theorem dL_law_805 : decode cL_law 805 = .ok (.invokevirtual 104, 3) := by decide +kernel
theorem dL_law_808 : decode cL_law 808 = .ok (.if_icmp .eq 176, 3) := by decide +kernel
theorem dL_law_811 : decode cL_law 811 = .ok (.iconst 0, 1) := by decide +kernel
theorem dL_law_812 : decode cL_law 812 = .ok (.ireturn, 1) := by decide +kernel
theorem dL_law_813 : decode cL_law 813 = .ok (.aload_n 1, 1) := by decide +kernel
theorem dL_law_814 : decode cL_law 814 = .ok (.aload_n 0, 1) := by decide +kernel
theorem dL_law_815 : decode cL_law 815 = .ok (.iload_n 3, 1) := by decide +kernel
theorem dL_law_816 : decode cL_law 816 = .ok (.iconst 1, 1) := by decide +kernel
theorem dL_law_817 : decode cL_law 817 = .ok (.iadd, 1) := by decide +kernel
theorem dL_law_818 : decode cL_law 818 = .ok (.iaload, 1) := by decide +kernel
theorem dL_law_819 : decode cL_law 819 = .ok (.invokevirtual 105, 3) := by decide +kernel
theorem dL_law_822 : decode cL_law 822 = .ok (.aload_n 2, 1) := by decide +kernel
theorem dL_law_823 : decode cL_law 823 = .ok (.aload_n 0, 1) := by decide +kernel
theorem dL_law_824 : decode cL_law 824 = .ok (.iload_n 3, 1) := by decide +kernel
theorem dL_law_825 : decode cL_law 825 = .ok (.iconst 1, 1) := by decide +kernel
theorem dL_law_826 : decode cL_law 826 = .ok (.iadd, 1) := by decide +kernel
theorem dL_law_827 : decode cL_law 827 = .ok (.iaload, 1) := by decide +kernel
theorem dL_law_828 : decode cL_law 828 = .ok (.invokevirtual 108, 3) := by decide +kernel
theorem dL_law_831 : decode cL_law 831 = .ok (.if_icmp .eq 153, 3) := by decide +kernel
theorem dL_law_834 : decode cL_law 834 = .ok (.iconst 0, 1) := by decide +kernel
theorem dL_law_835 : decode cL_law 835 = .ok (.ireturn, 1) := by decide +kernel
theorem dL_law_836 : decode cL_law 836 = .ok (.aload_n 1, 1) := by decide +kernel
theorem dL_law_837 : decode cL_law 837 = .ok (.aload_n 0, 1) := by decide +kernel
theorem dL_law_838 : decode cL_law 838 = .ok (.iload_n 3, 1) := by decide +kernel
theorem dL_law_839 : decode cL_law 839 = .ok (.iconst 1, 1) := by decide +kernel
theorem dL_law_840 : decode cL_law 840 = .ok (.iadd, 1) := by decide +kernel
theorem dL_law_841 : decode cL_law 841 = .ok (.iaload, 1) := by decide +kernel
theorem dL_law_842 : decode cL_law 842 = .ok (.invokevirtual 109, 3) := by decide +kernel
theorem dL_law_845 : decode cL_law 845 = .ok (.aload_n 2, 1) := by decide +kernel
theorem dL_law_846 : decode cL_law 846 = .ok (.aload_n 0, 1) := by decide +kernel
theorem dL_law_847 : decode cL_law 847 = .ok (.iload_n 3, 1) := by decide +kernel
theorem dL_law_848 : decode cL_law 848 = .ok (.iconst 1, 1) := by decide +kernel
theorem dL_law_849 : decode cL_law 849 = .ok (.iadd, 1) := by decide +kernel
theorem dL_law_850 : decode cL_law 850 = .ok (.iaload, 1) := by decide +kernel
theorem dL_law_851 : decode cL_law 851 = .ok (.invokevirtual 112, 3) := by decide +kernel
theorem dL_law_854 : decode cL_law 854 = .ok (.if_icmp .eq 130, 3) := by decide +kernel
theorem dL_law_857 : decode cL_law 857 = .ok (.iconst 0, 1) := by decide +kernel
theorem dL_law_858 : decode cL_law 858 = .ok (.ireturn, 1) := by decide +kernel
theorem dL_law_859 : decode cL_law 859 = .ok (.aload_n 1, 1) := by decide +kernel
theorem dL_law_860 : decode cL_law 860 = .ok (.aload_n 0, 1) := by decide +kernel
theorem dL_law_861 : decode cL_law 861 = .ok (.iload_n 3, 1) := by decide +kernel
theorem dL_law_862 : decode cL_law 862 = .ok (.iconst 1, 1) := by decide +kernel
theorem dL_law_863 : decode cL_law 863 = .ok (.iadd, 1) := by decide +kernel
theorem dL_law_864 : decode cL_law 864 = .ok (.iaload, 1) := by decide +kernel
theorem dL_law_865 : decode cL_law 865 = .ok (.aload_n 0, 1) := by decide +kernel
theorem dL_law_866 : decode cL_law 866 = .ok (.iload_n 3, 1) := by decide +kernel
theorem dL_law_867 : decode cL_law 867 = .ok (.iconst 2, 1) := by decide +kernel
theorem dL_law_868 : decode cL_law 868 = .ok (.iadd, 1) := by decide +kernel
theorem dL_law_869 : decode cL_law 869 = .ok (.iaload, 1) := by decide +kernel
theorem dL_law_870 : decode cL_law 870 = .ok (.invokevirtual 113, 3) := by decide +kernel
theorem dL_law_873 : decode cL_law 873 = .ok (.aload_n 2, 1) := by decide +kernel
theorem dL_law_874 : decode cL_law 874 = .ok (.aload_n 0, 1) := by decide +kernel
theorem dL_law_875 : decode cL_law 875 = .ok (.iload_n 3, 1) := by decide +kernel
theorem dL_law_876 : decode cL_law 876 = .ok (.iconst 1, 1) := by decide +kernel
theorem dL_law_877 : decode cL_law 877 = .ok (.iadd, 1) := by decide +kernel
theorem dL_law_878 : decode cL_law 878 = .ok (.iaload, 1) := by decide +kernel
theorem dL_law_879 : decode cL_law 879 = .ok (.aload_n 0, 1) := by decide +kernel
theorem dL_law_880 : decode cL_law 880 = .ok (.iload_n 3, 1) := by decide +kernel
theorem dL_law_881 : decode cL_law 881 = .ok (.iconst 2, 1) := by decide +kernel
theorem dL_law_882 : decode cL_law 882 = .ok (.iadd, 1) := by decide +kernel
theorem dL_law_883 : decode cL_law 883 = .ok (.iaload, 1) := by decide +kernel
theorem dL_law_884 : decode cL_law 884 = .ok (.invokevirtual 116, 3) := by decide +kernel
theorem dL_law_887 : decode cL_law 887 = .ok (.if_icmp .eq 97, 3) := by decide +kernel
theorem dL_law_890 : decode cL_law 890 = .ok (.iconst 0, 1) := by decide +kernel
theorem dL_law_891 : decode cL_law 891 = .ok (.ireturn, 1) := by decide +kernel
theorem dL_law_892 : decode cL_law 892 = .ok (.aload_n 1, 1) := by decide +kernel
theorem dL_law_893 : decode cL_law 893 = .ok (.aload_n 0, 1) := by decide +kernel
theorem dL_law_894 : decode cL_law 894 = .ok (.iload_n 3, 1) := by decide +kernel
theorem dL_law_895 : decode cL_law 895 = .ok (.iconst 1, 1) := by decide +kernel
theorem dL_law_896 : decode cL_law 896 = .ok (.iadd, 1) := by decide +kernel
theorem dL_law_897 : decode cL_law 897 = .ok (.iaload, 1) := by decide +kernel
theorem dL_law_898 : decode cL_law 898 = .ok (.aload_n 0, 1) := by decide +kernel
theorem dL_law_899 : decode cL_law 899 = .ok (.iload_n 3, 1) := by decide +kernel
theorem dL_law_900 : decode cL_law 900 = .ok (.iconst 2, 1) := by decide +kernel
theorem dL_law_901 : decode cL_law 901 = .ok (.iadd, 1) := by decide +kernel
theorem dL_law_902 : decode cL_law 902 = .ok (.iaload, 1) := by decide +kernel
theorem dL_law_903 : decode cL_law 903 = .ok (.invokevirtual 117, 3) := by decide +kernel
theorem dL_law_906 : decode cL_law 906 = .ok (.aload_n 2, 1) := by decide +kernel
theorem dL_law_907 : decode cL_law 907 = .ok (.aload_n 0, 1) := by decide +kernel
theorem dL_law_908 : decode cL_law 908 = .ok (.iload_n 3, 1) := by decide +kernel
theorem dL_law_909 : decode cL_law 909 = .ok (.iconst 1, 1) := by decide +kernel
theorem dL_law_910 : decode cL_law 910 = .ok (.iadd, 1) := by decide +kernel
theorem dL_law_911 : decode cL_law 911 = .ok (.iaload, 1) := by decide +kernel
theorem dL_law_912 : decode cL_law 912 = .ok (.aload_n 0, 1) := by decide +kernel
theorem dL_law_913 : decode cL_law 913 = .ok (.iload_n 3, 1) := by decide +kernel
theorem dL_law_914 : decode cL_law 914 = .ok (.iconst 2, 1) := by decide +kernel
theorem dL_law_915 : decode cL_law 915 = .ok (.iadd, 1) := by decide +kernel
theorem dL_law_916 : decode cL_law 916 = .ok (.iaload, 1) := by decide +kernel
theorem dL_law_917 : decode cL_law 917 = .ok (.invokevirtual 120, 3) := by decide +kernel
theorem dL_law_920 : decode cL_law 920 = .ok (.if_icmp .eq 64, 3) := by decide +kernel
theorem dL_law_923 : decode cL_law 923 = .ok (.iconst 0, 1) := by decide +kernel
theorem dL_law_924 : decode cL_law 924 = .ok (.ireturn, 1) := by decide +kernel
theorem dL_law_925 : decode cL_law 925 = .ok (.aload_n 1, 1) := by decide +kernel
theorem dL_law_926 : decode cL_law 926 = .ok (.aload_n 0, 1) := by decide +kernel
theorem dL_law_927 : decode cL_law 927 = .ok (.iload_n 3, 1) := by decide +kernel
theorem dL_law_928 : decode cL_law 928 = .ok (.iconst 1, 1) := by decide +kernel
theorem dL_law_929 : decode cL_law 929 = .ok (.iadd, 1) := by decide +kernel
theorem dL_law_930 : decode cL_law 930 = .ok (.iaload, 1) := by decide +kernel
theorem dL_law_931 : decode cL_law 931 = .ok (.invokevirtual 121, 3) := by decide +kernel
theorem dL_law_934 : decode cL_law 934 = .ok (.aload_n 2, 1) := by decide +kernel
theorem dL_law_935 : decode cL_law 935 = .ok (.aload_n 0, 1) := by decide +kernel
theorem dL_law_936 : decode cL_law 936 = .ok (.iload_n 3, 1) := by decide +kernel
theorem dL_law_937 : decode cL_law 937 = .ok (.iconst 1, 1) := by decide +kernel
theorem dL_law_938 : decode cL_law 938 = .ok (.iadd, 1) := by decide +kernel
theorem dL_law_939 : decode cL_law 939 = .ok (.iaload, 1) := by decide +kernel
theorem dL_law_940 : decode cL_law 940 = .ok (.invokevirtual 124, 3) := by decide +kernel
theorem dL_law_943 : decode cL_law 943 = .ok (.if_icmp .eq 41, 3) := by decide +kernel
theorem dL_law_946 : decode cL_law 946 = .ok (.iconst 0, 1) := by decide +kernel
theorem dL_law_947 : decode cL_law 947 = .ok (.ireturn, 1) := by decide +kernel
theorem dL_law_948 : decode cL_law 948 = .ok (.aload_n 1, 1) := by decide +kernel
theorem dL_law_949 : decode cL_law 949 = .ok (.aload_n 0, 1) := by decide +kernel
theorem dL_law_950 : decode cL_law 950 = .ok (.iload_n 3, 1) := by decide +kernel
theorem dL_law_951 : decode cL_law 951 = .ok (.iconst 1, 1) := by decide +kernel
theorem dL_law_952 : decode cL_law 952 = .ok (.iadd, 1) := by decide +kernel
theorem dL_law_953 : decode cL_law 953 = .ok (.iaload, 1) := by decide +kernel
theorem dL_law_954 : decode cL_law 954 = .ok (.invokevirtual 125, 3) := by decide +kernel
theorem dL_law_957 : decode cL_law 957 = .ok (.aload_n 2, 1) := by decide +kernel
theorem dL_law_958 : decode cL_law 958 = .ok (.aload_n 0, 1) := by decide +kernel
theorem dL_law_959 : decode cL_law 959 = .ok (.iload_n 3, 1) := by decide +kernel
theorem dL_law_960 : decode cL_law 960 = .ok (.iconst 1, 1) := by decide +kernel
theorem dL_law_961 : decode cL_law 961 = .ok (.iadd, 1) := by decide +kernel
theorem dL_law_962 : decode cL_law 962 = .ok (.iaload, 1) := by decide +kernel
theorem dL_law_963 : decode cL_law 963 = .ok (.invokevirtual 128, 3) := by decide +kernel
theorem dL_law_966 : decode cL_law 966 = .ok (.if_icmp .eq 18, 3) := by decide +kernel
theorem dL_law_969 : decode cL_law 969 = .ok (.iconst 0, 1) := by decide +kernel
theorem dL_law_970 : decode cL_law 970 = .ok (.ireturn, 1) := by decide +kernel
theorem dL_law_971 : decode cL_law 971 = .ok (.aload_n 1, 1) := by decide +kernel
theorem dL_law_972 : decode cL_law 972 = .ok (.invokevirtual 129, 3) := by decide +kernel
theorem dL_law_975 : decode cL_law 975 = .ok (.aload_n 2, 1) := by decide +kernel
theorem dL_law_976 : decode cL_law 976 = .ok (.invokevirtual 132, 3) := by decide +kernel
theorem dL_law_979 : decode cL_law 979 = .ok (.if_icmp .eq 5, 3) := by decide +kernel
theorem dL_law_982 : decode cL_law 982 = .ok (.iconst 0, 1) := by decide +kernel
theorem dL_law_983 : decode cL_law 983 = .ok (.ireturn, 1) := by decide +kernel
theorem dL_law_984 : decode cL_law 984 = .ok (.iinc 3 6, 3) := by decide +kernel
theorem dL_law_987 : decode cL_law 987 = .ok (.goto (-969), 3) := by decide +kernel
theorem dL_law_990 : decode cL_law 990 = .ok (.iconst 1, 1) := by decide +kernel
theorem dL_law_991 : decode cL_law 991 = .ok (.ireturn, 1) := by decide +kernel
