theorem dX0_init_0 : decode cX0_init 0 = .ok (.aload_n 0, 1) := by decide +kernel
theorem dX0_init_1 : decode cX0_init 1 = .ok (.invokespecial 3, 3) := by decide +kernel
theorem dX0_init_4 : decode cX0_init 4 = .ok (.aload_n 0, 1) := by decide +kernel
theorem dX0_init_5 : decode cX0_init 5 = .ok (.iconst 0, 1) := by decide +kernel
theorem dX0_init_6 : decode cX0_init 6 = .ok (.putfield 9, 3) := by decide +kernel
theorem dX0_init_9 : decode cX0_init 9 = .ok (.aload_n 0, 1) := by decide +kernel
theorem dX0_init_10 : decode cX0_init 10 = .ok (.iconst (-1), 1) := by decide +kernel
theorem dX0_init_11 : decode cX0_init 11 = .ok (.putfield 15, 3) := by decide +kernel
theorem dX0_init_14 : decode cX0_init 14 = .ok (.aload_n 0, 1) := by decide +kernel
theorem dX0_init_15 : decode cX0_init 15 = .ok (.iload_n 1, 1) := by decide +kernel
theorem dX0_init_16 : decode cX0_init 16 = .ok (.putfield 18, 3) := by decide +kernel
theorem dX0_init_19 : decode cX0_init 19 = .ok (.aload_n 0, 1) := by decide +kernel
theorem dX0_init_20 : decode cX0_init 20 = .ok (.iload_n 2, 1) := by decide +kernel
theorem dX0_init_21 : decode cX0_init 21 = .ok (.bipush 100, 2) := by decide +kernel
theorem dX0_init_23 : decode cX0_init 23 = .ok (.idiv, 1) := by decide +kernel
theorem dX0_init_24 : decode cX0_init 24 = .ok (.putfield 21, 3) := by decide +kernel
theorem dX0_init_27 : decode cX0_init 27 = .ok (.aload_n 0, 1) := by decide +kernel
theorem dX0_init_28 : decode cX0_init 28 = .ok (.iload_n 2, 1) := by decide +kernel
theorem dX0_init_29 : decode cX0_init 29 = .ok (.bipush 100, 2) := by decide +kernel
theorem dX0_init_31 : decode cX0_init 31 = .ok (.irem, 1) := by decide +kernel
theorem dX0_init_32 : decode cX0_init 32 = .ok (.putfield 24, 3) := by decide +kernel
theorem dX0_init_35 : decode cX0_init 35 = .ok (.aload_n 0, 1) := by decide +kernel
theorem dX0_init_36 : decode cX0_init 36 = .ok (.iload_n 3, 1) := by decide +kernel
theorem dX0_init_37 : decode cX0_init 37 = .ok (.ldc 27, 2) := by decide +kernel
theorem dX0_init_39 : decode cX0_init 39 = .ok (.idiv, 1) := by decide +kernel
theorem dX0_init_40 : decode cX0_init 40 = .ok (.putfield 28, 3) := by decide +kernel
theorem dX0_init_43 : decode cX0_init 43 = .ok (.aload_n 0, 1) := by decide +kernel
theorem dX0_init_44 : decode cX0_init 44 = .ok (.iload_n 3, 1) := by decide +kernel
theorem dX0_init_45 : decode cX0_init 45 = .ok (.sipush 1000, 3) := by decide +kernel
theorem dX0_init_48 : decode cX0_init 48 = .ok (.idiv, 1) := by decide +kernel
theorem dX0_init_49 : decode cX0_init 49 = .ok (.sipush 1000, 3) := by decide +kernel
theorem dX0_init_52 : decode cX0_init 52 = .ok (.irem, 1) := by decide +kernel
theorem dX0_init_53 : decode cX0_init 53 = .ok (.putfield 31, 3) := by decide +kernel
theorem dX0_init_56 : decode cX0_init 56 = .ok (.aload_n 0, 1) := by decide +kernel
theorem dX0_init_57 : decode cX0_init 57 = .ok (.iload_n 3, 1) := by decide +kernel
theorem dX0_init_58 : decode cX0_init 58 = .ok (.sipush 1000, 3) := by decide +kernel
theorem dX0_init_61 : decode cX0_init 61 = .ok (.irem, 1) := by decide +kernel
theorem dX0_init_62 : decode cX0_init 62 = .ok (.putfield 34, 3) := by decide +kernel
theorem dX0_init_65 : decode cX0_init 65 = .ok (.aload_n 0, 1) := by decide +kernel
theorem dX0_init_66 : decode cX0_init 66 = .ok (.iload 4, 2) := by decide +kernel
theorem dX0_init_68 : decode cX0_init 68 = .ok (.sipush 1000, 3) := by decide +kernel
theorem dX0_init_71 : decode cX0_init 71 = .ok (.idiv, 1) := by decide +kernel
theorem dX0_init_72 : decode cX0_init 72 = .ok (.putfield 37, 3) := by decide +kernel
theorem dX0_init_75 : decode cX0_init 75 = .ok (.aload_n 0, 1) := by decide +kernel
theorem dX0_init_76 : decode cX0_init 76 = .ok (.iload 4, 2) := by decide +kernel
theorem dX0_init_78 : decode cX0_init 78 = .ok (.sipush 1000, 3) := by decide +kernel
theorem dX0_init_81 : decode cX0_init 81 = .ok (.irem, 1) := by decide +kernel
theorem dX0_init_82 : decode cX0_init 82 = .ok (.putfield 40, 3) := by decide +kernel
theorem dX0_init_85 : decode cX0_init 85 = .ok (.aload_n 0, 1) := by decide +kernel
theorem dX0_init_86 : decode cX0_init 86 = .ok (.iload 5, 2) := by decide +kernel
theorem dX0_init_88 : decode cX0_init 88 = .ok (.putfield 43, 3) := by decide +kernel
theorem dX0_init_91 : decode cX0_init 91 = .ok (.aload_n 0, 1) := by decide +kernel
theorem dX0_init_92 : decode cX0_init 92 = .ok (.iload 5, 2) := by decide +kernel
theorem dX0_init_94 : decode cX0_init 94 = .ok (.putfield 46, 3) := by decide +kernel
theorem dX0_init_97 : decode cX0_init 97 = .ok (.return_, 1) := by decide +kernel
theorem dX0_isAboard_0 : decode cX0_isAboard 0 = .ok (.aload_n 0, 1) := by decide +kernel
theorem dX0_isAboard_1 : decode cX0_isAboard 1 = .ok (.getfield 9, 3) := by decide +kernel
theorem dX0_isAboard_4 : decode cX0_isAboard 4 = .ok (.iconst 1, 1) := by decide +kernel
theorem dX0_isAboard_5 : decode cX0_isAboard 5 = .ok (.if_icmp .ne 18, 3) := by decide +kernel
theorem dX0_isAboard_8 : decode cX0_isAboard 8 = .ok (.aload_n 0, 1) := by decide +kernel
theorem dX0_isAboard_9 : decode cX0_isAboard 9 = .ok (.getfield 15, 3) := by decide +kernel
theorem dX0_isAboard_12 : decode cX0_isAboard 12 = .ok (.aload_n 1, 1) := by decide +kernel
theorem dX0_isAboard_13 : decode cX0_isAboard 13 = .ok (.getfield 49, 3) := by decide +kernel
theorem dX0_isAboard_16 : decode cX0_isAboard 16 = .ok (.if_icmp .ne 7, 3) := by decide +kernel
theorem dX0_isAboard_19 : decode cX0_isAboard 19 = .ok (.iconst 1, 1) := by decide +kernel
theorem dX0_isAboard_20 : decode cX0_isAboard 20 = .ok (.goto 4, 3) := by decide +kernel
theorem dX0_isAboard_23 : decode cX0_isAboard 23 = .ok (.iconst 0, 1) := by decide +kernel
theorem dX0_isAboard_24 : decode cX0_isAboard 24 = .ok (.ireturn, 1) := by decide +kernel
theorem dX0_turn_0 : decode cX0_turn 0 = .ok (.aload_n 0, 1) := by decide +kernel
theorem dX0_turn_1 : decode cX0_turn 1 = .ok (.iload_n 1, 1) := by decide +kernel
theorem dX0_turn_2 : decode cX0_turn 2 = .ok (.putfield 9, 3) := by decide +kernel
theorem dX0_turn_5 : decode cX0_turn 5 = .ok (.aload_n 0, 1) := by decide +kernel
theorem dX0_turn_6 : decode cX0_turn 6 = .ok (.iload_n 2, 1) := by decide +kernel
theorem dX0_turn_7 : decode cX0_turn 7 = .ok (.putfield 46, 3) := by decide +kernel
theorem dX0_turn_10 : decode cX0_turn 10 = .ok (.return_, 1) := by decide +kernel
theorem dX0_tell_0 : decode cX0_tell 0 = .ok (.iload_n 1, 1) := by decide +kernel
theorem dX0_tell_1 : decode cX0_tell 1 = .ok (.tableswitch 123 0 11 #[63, 68, 73, 78, 83, 88, 93, 98, 103, 108, 113, 118], 63) := by decide +kernel
theorem dX0_tell_64 : decode cX0_tell 64 = .ok (.aload_n 0, 1) := by decide +kernel
theorem dX0_tell_65 : decode cX0_tell 65 = .ok (.getfield 18, 3) := by decide +kernel
theorem dX0_tell_68 : decode cX0_tell 68 = .ok (.ireturn, 1) := by decide +kernel
theorem dX0_tell_69 : decode cX0_tell 69 = .ok (.aload_n 0, 1) := by decide +kernel
theorem dX0_tell_70 : decode cX0_tell 70 = .ok (.getfield 21, 3) := by decide +kernel
theorem dX0_tell_73 : decode cX0_tell 73 = .ok (.ireturn, 1) := by decide +kernel
theorem dX0_tell_74 : decode cX0_tell 74 = .ok (.aload_n 0, 1) := by decide +kernel
theorem dX0_tell_75 : decode cX0_tell 75 = .ok (.getfield 24, 3) := by decide +kernel
theorem dX0_tell_78 : decode cX0_tell 78 = .ok (.ireturn, 1) := by decide +kernel
theorem dX0_tell_79 : decode cX0_tell 79 = .ok (.aload_n 0, 1) := by decide +kernel
theorem dX0_tell_80 : decode cX0_tell 80 = .ok (.getfield 28, 3) := by decide +kernel
theorem dX0_tell_83 : decode cX0_tell 83 = .ok (.ireturn, 1) := by decide +kernel
theorem dX0_tell_84 : decode cX0_tell 84 = .ok (.aload_n 0, 1) := by decide +kernel
theorem dX0_tell_85 : decode cX0_tell 85 = .ok (.getfield 31, 3) := by decide +kernel
theorem dX0_tell_88 : decode cX0_tell 88 = .ok (.ireturn, 1) := by decide +kernel
theorem dX0_tell_89 : decode cX0_tell 89 = .ok (.aload_n 0, 1) := by decide +kernel
theorem dX0_tell_90 : decode cX0_tell 90 = .ok (.getfield 34, 3) := by decide +kernel
theorem dX0_tell_93 : decode cX0_tell 93 = .ok (.ireturn, 1) := by decide +kernel
theorem dX0_tell_94 : decode cX0_tell 94 = .ok (.aload_n 0, 1) := by decide +kernel
theorem dX0_tell_95 : decode cX0_tell 95 = .ok (.getfield 37, 3) := by decide +kernel
theorem dX0_tell_98 : decode cX0_tell 98 = .ok (.ireturn, 1) := by decide +kernel
theorem dX0_tell_99 : decode cX0_tell 99 = .ok (.aload_n 0, 1) := by decide +kernel
theorem dX0_tell_100 : decode cX0_tell 100 = .ok (.getfield 40, 3) := by decide +kernel
theorem dX0_tell_103 : decode cX0_tell 103 = .ok (.ireturn, 1) := by decide +kernel
theorem dX0_tell_104 : decode cX0_tell 104 = .ok (.aload_n 0, 1) := by decide +kernel
theorem dX0_tell_105 : decode cX0_tell 105 = .ok (.getfield 43, 3) := by decide +kernel
theorem dX0_tell_108 : decode cX0_tell 108 = .ok (.ireturn, 1) := by decide +kernel
theorem dX0_tell_109 : decode cX0_tell 109 = .ok (.aload_n 0, 1) := by decide +kernel
theorem dX0_tell_110 : decode cX0_tell 110 = .ok (.getfield 9, 3) := by decide +kernel
theorem dX0_tell_113 : decode cX0_tell 113 = .ok (.ireturn, 1) := by decide +kernel
theorem dX0_tell_114 : decode cX0_tell 114 = .ok (.aload_n 0, 1) := by decide +kernel
theorem dX0_tell_115 : decode cX0_tell 115 = .ok (.getfield 15, 3) := by decide +kernel
theorem dX0_tell_118 : decode cX0_tell 118 = .ok (.ireturn, 1) := by decide +kernel
theorem dX0_tell_119 : decode cX0_tell 119 = .ok (.aload_n 0, 1) := by decide +kernel
theorem dX0_tell_120 : decode cX0_tell 120 = .ok (.getfield 46, 3) := by decide +kernel
theorem dX0_tell_123 : decode cX0_tell 123 = .ok (.ireturn, 1) := by decide +kernel
theorem dX0_tell_124 : decode cX0_tell 124 = .ok (.iconst (-1), 1) := by decide +kernel
theorem dX0_tell_125 : decode cX0_tell 125 = .ok (.ireturn, 1) := by decide +kernel
theorem dX1_init_0 : decode cX1_init 0 = .ok (.aload_n 0, 1) := by decide +kernel
theorem dX1_init_1 : decode cX1_init 1 = .ok (.invokespecial 3, 3) := by decide +kernel
theorem dX1_init_4 : decode cX1_init 4 = .ok (.aload_n 0, 1) := by decide +kernel
theorem dX1_init_5 : decode cX1_init 5 = .ok (.bipush 11, 2) := by decide +kernel
theorem dX1_init_7 : decode cX1_init 7 = .ok (.newarray .int, 2) := by decide +kernel
theorem dX1_init_9 : decode cX1_init 9 = .ok (.putfield 9, 3) := by decide +kernel
theorem dX1_init_12 : decode cX1_init 12 = .ok (.aload_n 0, 1) := by decide +kernel
theorem dX1_init_13 : decode cX1_init 13 = .ok (.iconst 0, 1) := by decide +kernel
theorem dX1_init_14 : decode cX1_init 14 = .ok (.putfield 15, 3) := by decide +kernel
theorem dX1_init_17 : decode cX1_init 17 = .ok (.aload_n 0, 1) := by decide +kernel
theorem dX1_init_18 : decode cX1_init 18 = .ok (.iconst (-1), 1) := by decide +kernel
theorem dX1_init_19 : decode cX1_init 19 = .ok (.putfield 19, 3) := by decide +kernel
theorem dX1_init_22 : decode cX1_init 22 = .ok (.aload_n 0, 1) := by decide +kernel
theorem dX1_init_23 : decode cX1_init 23 = .ok (.iconst (-1), 1) := by decide +kernel
theorem dX1_init_24 : decode cX1_init 24 = .ok (.putfield 22, 3) := by decide +kernel
theorem dX1_init_27 : decode cX1_init 27 = .ok (.aload_n 0, 1) := by decide +kernel
theorem dX1_init_28 : decode cX1_init 28 = .ok (.iload_n 1, 1) := by decide +kernel
theorem dX1_init_29 : decode cX1_init 29 = .ok (.putfield 25, 3) := by decide +kernel
theorem dX1_init_32 : decode cX1_init 32 = .ok (.aload_n 0, 1) := by decide +kernel
theorem dX1_init_33 : decode cX1_init 33 = .ok (.iload_n 2, 1) := by decide +kernel
theorem dX1_init_34 : decode cX1_init 34 = .ok (.putfield 28, 3) := by decide +kernel
theorem dX1_init_37 : decode cX1_init 37 = .ok (.aload_n 0, 1) := by decide +kernel
theorem dX1_init_38 : decode cX1_init 38 = .ok (.iload_n 3, 1) := by decide +kernel
theorem dX1_init_39 : decode cX1_init 39 = .ok (.putfield 31, 3) := by decide +kernel
theorem dX1_init_42 : decode cX1_init 42 = .ok (.aload_n 0, 1) := by decide +kernel
theorem dX1_init_43 : decode cX1_init 43 = .ok (.iload 4, 2) := by decide +kernel
theorem dX1_init_45 : decode cX1_init 45 = .ok (.putfield 34, 3) := by decide +kernel
theorem dX1_init_48 : decode cX1_init 48 = .ok (.aload_n 0, 1) := by decide +kernel
theorem dX1_init_49 : decode cX1_init 49 = .ok (.iload 5, 2) := by decide +kernel
theorem dX1_init_51 : decode cX1_init 51 = .ok (.putfield 37, 3) := by decide +kernel
theorem dX1_init_54 : decode cX1_init 54 = .ok (.aload_n 0, 1) := by decide +kernel
theorem dX1_init_55 : decode cX1_init 55 = .ok (.getfield 9, 3) := by decide +kernel
theorem dX1_init_58 : decode cX1_init 58 = .ok (.bipush 10, 2) := by decide +kernel
theorem dX1_init_60 : decode cX1_init 60 = .ok (.bipush 24, 2) := by decide +kernel
theorem dX1_init_62 : decode cX1_init 62 = .ok (.iastore, 1) := by decide +kernel
theorem dX1_init_63 : decode cX1_init 63 = .ok (.return_, 1) := by decide +kernel
theorem dX1_letTo_0 : decode cX1_letTo 0 = .ok (.aload_n 0, 1) := by decide +kernel
theorem dX1_letTo_1 : decode cX1_letTo 1 = .ok (.getfield 9, 3) := by decide +kernel
theorem dX1_letTo_4 : decode cX1_letTo 4 = .ok (.bipush 10, 2) := by decide +kernel
theorem dX1_letTo_6 : decode cX1_letTo 6 = .ok (.iconst 0, 1) := by decide +kernel
theorem dX1_letTo_7 : decode cX1_letTo 7 = .ok (.iastore, 1) := by decide +kernel
theorem dX1_letTo_8 : decode cX1_letTo 8 = .ok (.aload_n 0, 1) := by decide +kernel
theorem dX1_letTo_9 : decode cX1_letTo 9 = .ok (.getfield 9, 3) := by decide +kernel
theorem dX1_letTo_12 : decode cX1_letTo 12 = .ok (.iload_n 1, 1) := by decide +kernel
theorem dX1_letTo_13 : decode cX1_letTo 13 = .ok (.bipush 24, 2) := by decide +kernel
theorem dX1_letTo_15 : decode cX1_letTo 15 = .ok (.iastore, 1) := by decide +kernel
theorem dX1_letTo_16 : decode cX1_letTo 16 = .ok (.aload_n 0, 1) := by decide +kernel
theorem dX1_letTo_17 : decode cX1_letTo 17 = .ok (.iconst 1, 1) := by decide +kernel
theorem dX1_letTo_18 : decode cX1_letTo 18 = .ok (.putfield 40, 3) := by decide +kernel
theorem dX1_letTo_21 : decode cX1_letTo 21 = .ok (.return_, 1) := by decide +kernel
theorem dX1_comeTo_0 : decode cX1_comeTo 0 = .ok (.aload_n 0, 1) := by decide +kernel
theorem dX1_comeTo_1 : decode cX1_comeTo 1 = .ok (.iconst 1, 1) := by decide +kernel
theorem dX1_comeTo_2 : decode cX1_comeTo 2 = .ok (.putfield 15, 3) := by decide +kernel
theorem dX1_comeTo_5 : decode cX1_comeTo 5 = .ok (.aload_n 0, 1) := by decide +kernel
theorem dX1_comeTo_6 : decode cX1_comeTo 6 = .ok (.iload_n 1, 1) := by decide +kernel
theorem dX1_comeTo_7 : decode cX1_comeTo 7 = .ok (.putfield 19, 3) := by decide +kernel
theorem dX1_comeTo_10 : decode cX1_comeTo 10 = .ok (.aload_n 0, 1) := by decide +kernel
theorem dX1_comeTo_11 : decode cX1_comeTo 11 = .ok (.iload_n 2, 1) := by decide +kernel
theorem dX1_comeTo_12 : decode cX1_comeTo 12 = .ok (.putfield 22, 3) := by decide +kernel
theorem dX1_comeTo_15 : decode cX1_comeTo 15 = .ok (.aload_n 0, 1) := by decide +kernel
theorem dX1_comeTo_16 : decode cX1_comeTo 16 = .ok (.iconst 0, 1) := by decide +kernel
theorem dX1_comeTo_17 : decode cX1_comeTo 17 = .ok (.putfield 44, 3) := by decide +kernel
theorem dX1_comeTo_20 : decode cX1_comeTo 20 = .ok (.return_, 1) := by decide +kernel
theorem dX1_putToSea_0 : decode cX1_putToSea 0 = .ok (.aload_n 0, 1) := by decide +kernel
theorem dX1_putToSea_1 : decode cX1_putToSea 1 = .ok (.iconst 2, 1) := by decide +kernel
theorem dX1_putToSea_2 : decode cX1_putToSea 2 = .ok (.putfield 15, 3) := by decide +kernel
theorem dX1_putToSea_5 : decode cX1_putToSea 5 = .ok (.aload_n 0, 1) := by decide +kernel
theorem dX1_putToSea_6 : decode cX1_putToSea 6 = .ok (.dup, 1) := by decide +kernel
theorem dX1_putToSea_7 : decode cX1_putToSea 7 = .ok (.getfield 19, 3) := by decide +kernel
theorem dX1_putToSea_10 : decode cX1_putToSea 10 = .ok (.iconst 1, 1) := by decide +kernel
theorem dX1_putToSea_11 : decode cX1_putToSea 11 = .ok (.iadd, 1) := by decide +kernel
theorem dX1_putToSea_12 : decode cX1_putToSea 12 = .ok (.putfield 19, 3) := by decide +kernel
theorem dX1_putToSea_15 : decode cX1_putToSea 15 = .ok (.aload_n 0, 1) := by decide +kernel
theorem dX1_putToSea_16 : decode cX1_putToSea 16 = .ok (.iload_n 1, 1) := by decide +kernel
theorem dX1_putToSea_17 : decode cX1_putToSea 17 = .ok (.putfield 22, 3) := by decide +kernel
theorem dX1_putToSea_20 : decode cX1_putToSea 20 = .ok (.aload_n 0, 1) := by decide +kernel
theorem dX1_putToSea_21 : decode cX1_putToSea 21 = .ok (.iconst 0, 1) := by decide +kernel
theorem dX1_putToSea_22 : decode cX1_putToSea 22 = .ok (.putfield 44, 3) := by decide +kernel
theorem dX1_putToSea_25 : decode cX1_putToSea 25 = .ok (.return_, 1) := by decide +kernel
theorem dX1_canTake_0 : decode cX1_canTake 0 = .ok (.aload_n 0, 1) := by decide +kernel
theorem dX1_canTake_1 : decode cX1_canTake 1 = .ok (.getfield 47, 3) := by decide +kernel
theorem dX1_canTake_4 : decode cX1_canTake 4 = .ok (.aload_n 1, 1) := by decide +kernel
theorem dX1_canTake_5 : decode cX1_canTake 5 = .ok (.getfield 50, 3) := by decide +kernel
theorem dX1_canTake_8 : decode cX1_canTake 8 = .ok (.iadd, 1) := by decide +kernel
theorem dX1_canTake_9 : decode cX1_canTake 9 = .ok (.aload_n 0, 1) := by decide +kernel
theorem dX1_canTake_10 : decode cX1_canTake 10 = .ok (.getfield 28, 3) := by decide +kernel
theorem dX1_canTake_13 : decode cX1_canTake 13 = .ok (.if_icmp .gt 49, 3) := by decide +kernel
theorem dX1_canTake_16 : decode cX1_canTake 16 = .ok (.aload_n 0, 1) := by decide +kernel
theorem dX1_canTake_17 : decode cX1_canTake 17 = .ok (.getfield 53, 3) := by decide +kernel
theorem dX1_canTake_20 : decode cX1_canTake 20 = .ok (.aload_n 1, 1) := by decide +kernel
theorem dX1_canTake_21 : decode cX1_canTake 21 = .ok (.getfield 56, 3) := by decide +kernel
theorem dX1_canTake_24 : decode cX1_canTake 24 = .ok (.iadd, 1) := by decide +kernel
theorem dX1_canTake_25 : decode cX1_canTake 25 = .ok (.aload_n 0, 1) := by decide +kernel
theorem dX1_canTake_26 : decode cX1_canTake 26 = .ok (.getfield 31, 3) := by decide +kernel
theorem dX1_canTake_29 : decode cX1_canTake 29 = .ok (.if_icmp .gt 33, 3) := by decide +kernel
theorem dX1_canTake_32 : decode cX1_canTake 32 = .ok (.aload_n 1, 1) := by decide +kernel
theorem dX1_canTake_33 : decode cX1_canTake 33 = .ok (.getfield 59, 3) := by decide +kernel
theorem dX1_canTake_36 : decode cX1_canTake 36 = .ok (.iconst 1, 1) := by decide +kernel
theorem dX1_canTake_37 : decode cX1_canTake 37 = .ok (.if_icmp .ne 21, 3) := by decide +kernel
theorem dX1_canTake_40 : decode cX1_canTake 40 = .ok (.aload_n 0, 1) := by decide +kernel
theorem dX1_canTake_41 : decode cX1_canTake 41 = .ok (.getfield 62, 3) := by decide +kernel
theorem dX1_canTake_44 : decode cX1_canTake 44 = .ok (.aload_n 1, 1) := by decide +kernel
theorem dX1_canTake_45 : decode cX1_canTake 45 = .ok (.getfield 56, 3) := by decide +kernel
theorem dX1_canTake_48 : decode cX1_canTake 48 = .ok (.iadd, 1) := by decide +kernel
theorem dX1_canTake_49 : decode cX1_canTake 49 = .ok (.aload_n 0, 1) := by decide +kernel
theorem dX1_canTake_50 : decode cX1_canTake 50 = .ok (.getfield 31, 3) := by decide +kernel
theorem dX1_canTake_53 : decode cX1_canTake 53 = .ok (.iconst 2, 1) := by decide +kernel
theorem dX1_canTake_54 : decode cX1_canTake 54 = .ok (.idiv, 1) := by decide +kernel
theorem dX1_canTake_55 : decode cX1_canTake 55 = .ok (.if_icmp .gt 7, 3) := by decide +kernel
theorem dX1_canTake_58 : decode cX1_canTake 58 = .ok (.iconst 1, 1) := by decide +kernel
theorem dX1_canTake_59 : decode cX1_canTake 59 = .ok (.goto 4, 3) := by decide +kernel
theorem dX1_canTake_62 : decode cX1_canTake 62 = .ok (.iconst 0, 1) := by decide +kernel
theorem dX1_canTake_63 : decode cX1_canTake 63 = .ok (.ireturn, 1) := by decide +kernel
theorem dX1_load_0 : decode cX1_load 0 = .ok (.aload_n 0, 1) := by decide +kernel
theorem dX1_load_1 : decode cX1_load 1 = .ok (.aload_n 1, 1) := by decide +kernel
theorem dX1_load_2 : decode cX1_load 2 = .ok (.iconst 1, 1) := by decide +kernel
theorem dX1_load_3 : decode cX1_load 3 = .ok (.invokevirtual 65, 3) := by decide +kernel
theorem dX1_load_6 : decode cX1_load 6 = .ok (.return_, 1) := by decide +kernel
theorem dX1_unload_0 : decode cX1_unload 0 = .ok (.aload_n 0, 1) := by decide +kernel
theorem dX1_unload_1 : decode cX1_unload 1 = .ok (.aload_n 1, 1) := by decide +kernel
theorem dX1_unload_2 : decode cX1_unload 2 = .ok (.iconst (-1), 1) := by decide +kernel
theorem dX1_unload_3 : decode cX1_unload 3 = .ok (.invokevirtual 65, 3) := by decide +kernel
theorem dX1_unload_6 : decode cX1_unload 6 = .ok (.return_, 1) := by decide +kernel
theorem dX1_change_0 : decode cX1_change 0 = .ok (.aload_n 0, 1) := by decide +kernel
theorem dX1_change_1 : decode cX1_change 1 = .ok (.dup, 1) := by decide +kernel
theorem dX1_change_2 : decode cX1_change 2 = .ok (.getfield 69, 3) := by decide +kernel
theorem dX1_change_5 : decode cX1_change 5 = .ok (.iload_n 2, 1) := by decide +kernel
theorem dX1_change_6 : decode cX1_change 6 = .ok (.iadd, 1) := by decide +kernel
theorem dX1_change_7 : decode cX1_change 7 = .ok (.putfield 69, 3) := by decide +kernel
theorem dX1_change_10 : decode cX1_change 10 = .ok (.aload_n 0, 1) := by decide +kernel
theorem dX1_change_11 : decode cX1_change 11 = .ok (.dup, 1) := by decide +kernel
theorem dX1_change_12 : decode cX1_change 12 = .ok (.getfield 47, 3) := by decide +kernel
theorem dX1_change_15 : decode cX1_change 15 = .ok (.iload_n 2, 1) := by decide +kernel
theorem dX1_change_16 : decode cX1_change 16 = .ok (.aload_n 1, 1) := by decide +kernel
theorem dX1_change_17 : decode cX1_change 17 = .ok (.getfield 50, 3) := by decide +kernel
theorem dX1_change_20 : decode cX1_change 20 = .ok (.imul, 1) := by decide +kernel
theorem dX1_change_21 : decode cX1_change 21 = .ok (.iadd, 1) := by decide +kernel
theorem dX1_change_22 : decode cX1_change 22 = .ok (.putfield 47, 3) := by decide +kernel
theorem dX1_change_25 : decode cX1_change 25 = .ok (.aload_n 0, 1) := by decide +kernel
theorem dX1_change_26 : decode cX1_change 26 = .ok (.dup, 1) := by decide +kernel
theorem dX1_change_27 : decode cX1_change 27 = .ok (.getfield 53, 3) := by decide +kernel
theorem dX1_change_30 : decode cX1_change 30 = .ok (.iload_n 2, 1) := by decide +kernel
theorem dX1_change_31 : decode cX1_change 31 = .ok (.aload_n 1, 1) := by decide +kernel
theorem dX1_change_32 : decode cX1_change 32 = .ok (.getfield 56, 3) := by decide +kernel
theorem dX1_change_35 : decode cX1_change 35 = .ok (.imul, 1) := by decide +kernel
theorem dX1_change_36 : decode cX1_change 36 = .ok (.iadd, 1) := by decide +kernel
theorem dX1_change_37 : decode cX1_change 37 = .ok (.putfield 53, 3) := by decide +kernel
theorem dX1_change_40 : decode cX1_change 40 = .ok (.aload_n 1, 1) := by decide +kernel
theorem dX1_change_41 : decode cX1_change 41 = .ok (.getfield 59, 3) := by decide +kernel
theorem dX1_change_44 : decode cX1_change 44 = .ok (.iconst 1, 1) := by decide +kernel
theorem dX1_change_45 : decode cX1_change 45 = .ok (.if_icmp .ne 18, 3) := by decide +kernel
theorem dX1_change_48 : decode cX1_change 48 = .ok (.aload_n 0, 1) := by decide +kernel
theorem dX1_change_49 : decode cX1_change 49 = .ok (.dup, 1) := by decide +kernel
theorem dX1_change_50 : decode cX1_change 50 = .ok (.getfield 62, 3) := by decide +kernel
theorem dX1_change_53 : decode cX1_change 53 = .ok (.iload_n 2, 1) := by decide +kernel
theorem dX1_change_54 : decode cX1_change 54 = .ok (.aload_n 1, 1) := by decide +kernel
theorem dX1_change_55 : decode cX1_change 55 = .ok (.getfield 56, 3) := by decide +kernel
theorem dX1_change_58 : decode cX1_change 58 = .ok (.imul, 1) := by decide +kernel
theorem dX1_change_59 : decode cX1_change 59 = .ok (.iadd, 1) := by decide +kernel
theorem dX1_change_60 : decode cX1_change 60 = .ok (.putfield 62, 3) := by decide +kernel
theorem dX1_change_63 : decode cX1_change 63 = .ok (.return_, 1) := by decide +kernel
theorem dX1_tell_0 : decode cX1_tell 0 = .ok (.iload_n 1, 1) := by decide +kernel
theorem dX1_tell_1 : decode cX1_tell 1 = .ok (.tableswitch 113 0 9 #[55, 60, 65, 70, 75, 80, 85, 90, 95, 100], 55) := by decide +kernel
theorem dX1_tell_56 : decode cX1_tell 56 = .ok (.aload_n 0, 1) := by decide +kernel
theorem dX1_tell_57 : decode cX1_tell 57 = .ok (.getfield 15, 3) := by decide +kernel
theorem dX1_tell_60 : decode cX1_tell 60 = .ok (.ireturn, 1) := by decide +kernel
theorem dX1_tell_61 : decode cX1_tell 61 = .ok (.aload_n 0, 1) := by decide +kernel
theorem dX1_tell_62 : decode cX1_tell 62 = .ok (.getfield 19, 3) := by decide +kernel
theorem dX1_tell_65 : decode cX1_tell 65 = .ok (.ireturn, 1) := by decide +kernel
theorem dX1_tell_66 : decode cX1_tell 66 = .ok (.aload_n 0, 1) := by decide +kernel
theorem dX1_tell_67 : decode cX1_tell 67 = .ok (.getfield 22, 3) := by decide +kernel
theorem dX1_tell_70 : decode cX1_tell 70 = .ok (.ireturn, 1) := by decide +kernel
theorem dX1_tell_71 : decode cX1_tell 71 = .ok (.aload_n 0, 1) := by decide +kernel
theorem dX1_tell_72 : decode cX1_tell 72 = .ok (.getfield 44, 3) := by decide +kernel
theorem dX1_tell_75 : decode cX1_tell 75 = .ok (.ireturn, 1) := by decide +kernel
theorem dX1_tell_76 : decode cX1_tell 76 = .ok (.aload_n 0, 1) := by decide +kernel
theorem dX1_tell_77 : decode cX1_tell 77 = .ok (.getfield 69, 3) := by decide +kernel
theorem dX1_tell_80 : decode cX1_tell 80 = .ok (.ireturn, 1) := by decide +kernel
theorem dX1_tell_81 : decode cX1_tell 81 = .ok (.aload_n 0, 1) := by decide +kernel
theorem dX1_tell_82 : decode cX1_tell 82 = .ok (.getfield 47, 3) := by decide +kernel
theorem dX1_tell_85 : decode cX1_tell 85 = .ok (.ireturn, 1) := by decide +kernel
theorem dX1_tell_86 : decode cX1_tell 86 = .ok (.aload_n 0, 1) := by decide +kernel
theorem dX1_tell_87 : decode cX1_tell 87 = .ok (.getfield 53, 3) := by decide +kernel
theorem dX1_tell_90 : decode cX1_tell 90 = .ok (.ireturn, 1) := by decide +kernel
theorem dX1_tell_91 : decode cX1_tell 91 = .ok (.aload_n 0, 1) := by decide +kernel
theorem dX1_tell_92 : decode cX1_tell 92 = .ok (.getfield 72, 3) := by decide +kernel
theorem dX1_tell_95 : decode cX1_tell 95 = .ok (.ireturn, 1) := by decide +kernel
theorem dX1_tell_96 : decode cX1_tell 96 = .ok (.aload_n 0, 1) := by decide +kernel
theorem dX1_tell_97 : decode cX1_tell 97 = .ok (.getfield 75, 3) := by decide +kernel
theorem dX1_tell_100 : decode cX1_tell 100 = .ok (.ireturn, 1) := by decide +kernel
theorem dX1_tell_101 : decode cX1_tell 101 = .ok (.aload_n 0, 1) := by decide +kernel
theorem dX1_tell_102 : decode cX1_tell 102 = .ok (.getfield 40, 3) := by decide +kernel
theorem dX1_tell_105 : decode cX1_tell 105 = .ok (.ifCond .eq 7, 3) := by decide +kernel
theorem dX1_tell_108 : decode cX1_tell 108 = .ok (.iconst 1, 1) := by decide +kernel
theorem dX1_tell_109 : decode cX1_tell 109 = .ok (.goto 4, 3) := by decide +kernel
theorem dX1_tell_112 : decode cX1_tell 112 = .ok (.iconst 0, 1) := by decide +kernel
theorem dX1_tell_113 : decode cX1_tell 113 = .ok (.ireturn, 1) := by decide +kernel
theorem dX1_tell_114 : decode cX1_tell 114 = .ok (.bipush (-2), 2) := by decide +kernel
theorem dX1_tell_116 : decode cX1_tell 116 = .ok (.ireturn, 1) := by decide +kernel
theorem dX2_init_0 : decode cX2_init 0 = .ok (.aload_n 0, 1) := by decide +kernel
theorem dX2_init_1 : decode cX2_init 1 = .ok (.invokespecial 3, 3) := by decide +kernel
theorem dX2_init_4 : decode cX2_init 4 = .ok (.aload_n 0, 1) := by decide +kernel
theorem dX2_init_5 : decode cX2_init 5 = .ok (.new 9, 3) := by decide +kernel
theorem dX2_init_8 : decode cX2_init 8 = .ok (.dup, 1) := by decide +kernel
theorem dX2_init_9 : decode cX2_init 9 = .ok (.invokespecial 11, 3) := by decide +kernel
theorem dX2_init_12 : decode cX2_init 12 = .ok (.putfield 12, 3) := by decide +kernel
theorem dX2_init_15 : decode cX2_init 15 = .ok (.aload_n 0, 1) := by decide +kernel
theorem dX2_init_16 : decode cX2_init 16 = .ok (.sipush 200, 3) := by decide +kernel
theorem dX2_init_19 : decode cX2_init 19 = .ok (.newarray .int, 2) := by decide +kernel
theorem dX2_init_21 : decode cX2_init 21 = .ok (.putfield 18, 3) := by decide +kernel
theorem dX2_init_24 : decode cX2_init 24 = .ok (.return_, 1) := by decide +kernel
theorem dX2_read_0 : decode cX2_read 0 = .ok (.aload_n 0, 1) := by decide +kernel
theorem dX2_read_1 : decode cX2_read 1 = .ok (.iconst 0, 1) := by decide +kernel
theorem dX2_read_2 : decode cX2_read 2 = .ok (.putfield 22, 3) := by decide +kernel
theorem dX2_read_5 : decode cX2_read 5 = .ok (.aload_n 0, 1) := by decide +kernel
theorem dX2_read_6 : decode cX2_read 6 = .ok (.iconst 0, 1) := by decide +kernel
theorem dX2_read_7 : decode cX2_read 7 = .ok (.putfield 26, 3) := by decide +kernel
theorem dX2_read_10 : decode cX2_read 10 = .ok (.aload_n 0, 1) := by decide +kernel
theorem dX2_read_11 : decode cX2_read 11 = .ok (.invokevirtual 29, 3) := by decide +kernel
theorem dX2_read_14 : decode cX2_read 14 = .ok (.aload_n 0, 1) := by decide +kernel
theorem dX2_read_15 : decode cX2_read 15 = .ok (.iconst 0, 1) := by decide +kernel
theorem dX2_read_16 : decode cX2_read 16 = .ok (.invokevirtual 32, 3) := by decide +kernel
theorem dX2_read_19 : decode cX2_read 19 = .ok (.ifCond .eq 17, 3) := by decide +kernel
theorem dX2_read_22 : decode cX2_read 22 = .ok (.aload_n 0, 1) := by decide +kernel
theorem dX2_read_23 : decode cX2_read 23 = .ok (.getfield 36, 3) := by decide +kernel
theorem dX2_read_26 : decode cX2_read 26 = .ok (.sipush 256, 3) := by decide +kernel
theorem dX2_read_29 : decode cX2_read 29 = .ok (.if_icmp .ne 7, 3) := by decide +kernel
theorem dX2_read_32 : decode cX2_read 32 = .ok (.iconst (-1), 1) := by decide +kernel
theorem dX2_read_33 : decode cX2_read 33 = .ok (.goto 7, 3) := by decide +kernel
theorem dX2_read_36 : decode cX2_read 36 = .ok (.aload_n 0, 1) := by decide +kernel
theorem dX2_read_37 : decode cX2_read 37 = .ok (.getfield 39, 3) := by decide +kernel
theorem dX2_read_40 : decode cX2_read 40 = .ok (.ireturn, 1) := by decide +kernel
theorem dX2_stepsRead_0 : decode cX2_stepsRead 0 = .ok (.aload_n 0, 1) := by decide +kernel
theorem dX2_stepsRead_1 : decode cX2_stepsRead 1 = .ok (.getfield 18, 3) := by decide +kernel
theorem dX2_stepsRead_4 : decode cX2_stepsRead 4 = .ok (.aload_n 0, 1) := by decide +kernel
theorem dX2_stepsRead_5 : decode cX2_stepsRead 5 = .ok (.getfield 26, 3) := by decide +kernel
theorem dX2_stepsRead_8 : decode cX2_stepsRead 8 = .ok (.invokestatic 42, 3) := by decide +kernel
theorem dX2_stepsRead_11 : decode cX2_stepsRead 11 = .ok (.areturn, 1) := by decide +kernel
theorem dX2_readEither_0 : decode cX2_readEither 0 = .ok (.aload_n 0, 1) := by decide +kernel
theorem dX2_readEither_1 : decode cX2_readEither 1 = .ok (.iload_n 1, 1) := by decide +kernel
theorem dX2_readEither_2 : decode cX2_readEither 2 = .ok (.invokevirtual 48, 3) := by decide +kernel
theorem dX2_readEither_5 : decode cX2_readEither 5 = .ok (.ifCond .ne 5, 3) := by decide +kernel
theorem dX2_readEither_8 : decode cX2_readEither 8 = .ok (.iconst 0, 1) := by decide +kernel
theorem dX2_readEither_9 : decode cX2_readEither 9 = .ok (.ireturn, 1) := by decide +kernel
theorem dX2_readEither_10 : decode cX2_readEither 10 = .ok (.iconst 0, 1) := by decide +kernel
theorem dX2_readEither_11 : decode cX2_readEither 11 = .ok (.istore_n 2, 1) := by decide +kernel
theorem dX2_readEither_12 : decode cX2_readEither 12 = .ok (.iload_n 2, 1) := by decide +kernel
theorem dX2_readEither_13 : decode cX2_readEither 13 = .ok (.sipush 200, 3) := by decide +kernel
theorem dX2_readEither_16 : decode cX2_readEither 16 = .ok (.if_icmp .ge 40, 3) := by decide +kernel
theorem dX2_readEither_19 : decode cX2_readEither 19 = .ok (.aload_n 0, 1) := by decide +kernel
theorem dX2_readEither_20 : decode cX2_readEither 20 = .ok (.getfield 36, 3) := by decide +kernel
theorem dX2_readEither_23 : decode cX2_readEither 23 = .ok (.sipush 261, 3) := by decide +kernel
theorem dX2_readEither_26 : decode cX2_readEither 26 = .ok (.if_icmp .ne 30, 3) := by decide +kernel
theorem dX2_readEither_29 : decode cX2_readEither 29 = .ok (.aload_n 0, 1) := by decide +kernel
theorem dX2_readEither_30 : decode cX2_readEither 30 = .ok (.invokevirtual 29, 3) := by decide +kernel
theorem dX2_readEither_33 : decode cX2_readEither 33 = .ok (.aload_n 0, 1) := by decide +kernel
theorem dX2_readEither_34 : decode cX2_readEither 34 = .ok (.iload_n 1, 1) := by decide +kernel
theorem dX2_readEither_35 : decode cX2_readEither 35 = .ok (.invokevirtual 48, 3) := by decide +kernel
theorem dX2_readEither_38 : decode cX2_readEither 38 = .ok (.ifCond .ne 5, 3) := by decide +kernel
theorem dX2_readEither_41 : decode cX2_readEither 41 = .ok (.iconst 0, 1) := by decide +kernel
theorem dX2_readEither_42 : decode cX2_readEither 42 = .ok (.ireturn, 1) := by decide +kernel
theorem dX2_readEither_43 : decode cX2_readEither 43 = .ok (.aload_n 0, 1) := by decide +kernel
theorem dX2_readEither_44 : decode cX2_readEither 44 = .ok (.sipush (-261), 3) := by decide +kernel
theorem dX2_readEither_47 : decode cX2_readEither 47 = .ok (.invokevirtual 51, 3) := by decide +kernel
theorem dX2_readEither_50 : decode cX2_readEither 50 = .ok (.iinc 2 1, 3) := by decide +kernel
theorem dX2_readEither_53 : decode cX2_readEither 53 = .ok (.goto (-41), 3) := by decide +kernel
theorem dX2_readEither_56 : decode cX2_readEither 56 = .ok (.iconst 1, 1) := by decide +kernel
theorem dX2_readEither_57 : decode cX2_readEither 57 = .ok (.ireturn, 1) := by decide +kernel
theorem dX2_readBoth_0 : decode cX2_readBoth 0 = .ok (.aload_n 0, 1) := by decide +kernel
theorem dX2_readBoth_1 : decode cX2_readBoth 1 = .ok (.iload_n 1, 1) := by decide +kernel
theorem dX2_readBoth_2 : decode cX2_readBoth 2 = .ok (.invokevirtual 55, 3) := by decide +kernel
theorem dX2_readBoth_5 : decode cX2_readBoth 5 = .ok (.ifCond .ne 5, 3) := by decide +kernel
theorem dX2_readBoth_8 : decode cX2_readBoth 8 = .ok (.iconst 0, 1) := by decide +kernel
theorem dX2_readBoth_9 : decode cX2_readBoth 9 = .ok (.ireturn, 1) := by decide +kernel
theorem dX2_readBoth_10 : decode cX2_readBoth 10 = .ok (.iconst 0, 1) := by decide +kernel
theorem dX2_readBoth_11 : decode cX2_readBoth 11 = .ok (.istore_n 2, 1) := by decide +kernel
theorem dX2_readBoth_12 : decode cX2_readBoth 12 = .ok (.iload_n 2, 1) := by decide +kernel
theorem dX2_readBoth_13 : decode cX2_readBoth 13 = .ok (.sipush 200, 3) := by decide +kernel
theorem dX2_readBoth_16 : decode cX2_readBoth 16 = .ok (.if_icmp .ge 40, 3) := by decide +kernel
theorem dX2_readBoth_19 : decode cX2_readBoth 19 = .ok (.aload_n 0, 1) := by decide +kernel
theorem dX2_readBoth_20 : decode cX2_readBoth 20 = .ok (.getfield 36, 3) := by decide +kernel
theorem dX2_readBoth_23 : decode cX2_readBoth 23 = .ok (.sipush 260, 3) := by decide +kernel
theorem dX2_readBoth_26 : decode cX2_readBoth 26 = .ok (.if_icmp .ne 30, 3) := by decide +kernel
theorem dX2_readBoth_29 : decode cX2_readBoth 29 = .ok (.aload_n 0, 1) := by decide +kernel
theorem dX2_readBoth_30 : decode cX2_readBoth 30 = .ok (.invokevirtual 29, 3) := by decide +kernel
theorem dX2_readBoth_33 : decode cX2_readBoth 33 = .ok (.aload_n 0, 1) := by decide +kernel
theorem dX2_readBoth_34 : decode cX2_readBoth 34 = .ok (.iload_n 1, 1) := by decide +kernel
theorem dX2_readBoth_35 : decode cX2_readBoth 35 = .ok (.invokevirtual 55, 3) := by decide +kernel
theorem dX2_readBoth_38 : decode cX2_readBoth 38 = .ok (.ifCond .ne 5, 3) := by decide +kernel
theorem dX2_readBoth_41 : decode cX2_readBoth 41 = .ok (.iconst 0, 1) := by decide +kernel
theorem dX2_readBoth_42 : decode cX2_readBoth 42 = .ok (.ireturn, 1) := by decide +kernel
theorem dX2_readBoth_43 : decode cX2_readBoth 43 = .ok (.aload_n 0, 1) := by decide +kernel
theorem dX2_readBoth_44 : decode cX2_readBoth 44 = .ok (.sipush (-260), 3) := by decide +kernel
theorem dX2_readBoth_47 : decode cX2_readBoth 47 = .ok (.invokevirtual 51, 3) := by decide +kernel
theorem dX2_readBoth_50 : decode cX2_readBoth 50 = .ok (.iinc 2 1, 3) := by decide +kernel
theorem dX2_readBoth_53 : decode cX2_readBoth 53 = .ok (.goto (-41), 3) := by decide +kernel
theorem dX2_readBoth_56 : decode cX2_readBoth 56 = .ok (.iconst 1, 1) := by decide +kernel
theorem dX2_readBoth_57 : decode cX2_readBoth 57 = .ok (.ireturn, 1) := by decide +kernel
theorem dX2_readDenied_0 : decode cX2_readDenied 0 = .ok (.aload_n 0, 1) := by decide +kernel
theorem dX2_readDenied_1 : decode cX2_readDenied 1 = .ok (.getfield 36, 3) := by decide +kernel
theorem dX2_readDenied_4 : decode cX2_readDenied 4 = .ok (.sipush 262, 3) := by decide +kernel
theorem dX2_readDenied_7 : decode cX2_readDenied 7 = .ok (.if_icmp .eq 9, 3) := by decide +kernel
theorem dX2_readDenied_10 : decode cX2_readDenied 10 = .ok (.aload_n 0, 1) := by decide +kernel
theorem dX2_readDenied_11 : decode cX2_readDenied 11 = .ok (.iload_n 1, 1) := by decide +kernel
theorem dX2_readDenied_12 : decode cX2_readDenied 12 = .ok (.invokevirtual 58, 3) := by decide +kernel
theorem dX2_readDenied_15 : decode cX2_readDenied 15 = .ok (.ireturn, 1) := by decide +kernel
theorem dX2_readDenied_16 : decode cX2_readDenied 16 = .ok (.iload_n 1, 1) := by decide +kernel
theorem dX2_readDenied_17 : decode cX2_readDenied 17 = .ok (.bipush 12, 2) := by decide +kernel
theorem dX2_readDenied_19 : decode cX2_readDenied 19 = .ok (.if_icmp .lt 5, 3) := by decide +kernel
theorem dX2_readDenied_22 : decode cX2_readDenied 22 = .ok (.iconst 0, 1) := by decide +kernel
theorem dX2_readDenied_23 : decode cX2_readDenied 23 = .ok (.ireturn, 1) := by decide +kernel
theorem dX2_readDenied_24 : decode cX2_readDenied 24 = .ok (.aload_n 0, 1) := by decide +kernel
theorem dX2_readDenied_25 : decode cX2_readDenied 25 = .ok (.invokevirtual 29, 3) := by decide +kernel
theorem dX2_readDenied_28 : decode cX2_readDenied 28 = .ok (.aload_n 0, 1) := by decide +kernel
theorem dX2_readDenied_29 : decode cX2_readDenied 29 = .ok (.iload_n 1, 1) := by decide +kernel
theorem dX2_readDenied_30 : decode cX2_readDenied 30 = .ok (.iconst 1, 1) := by decide +kernel
theorem dX2_readDenied_31 : decode cX2_readDenied 31 = .ok (.iadd, 1) := by decide +kernel
theorem dX2_readDenied_32 : decode cX2_readDenied 32 = .ok (.invokevirtual 55, 3) := by decide +kernel
theorem dX2_readDenied_35 : decode cX2_readDenied 35 = .ok (.ifCond .ne 5, 3) := by decide +kernel
theorem dX2_readDenied_38 : decode cX2_readDenied 38 = .ok (.iconst 0, 1) := by decide +kernel
theorem dX2_readDenied_39 : decode cX2_readDenied 39 = .ok (.ireturn, 1) := by decide +kernel
theorem dX2_readDenied_40 : decode cX2_readDenied 40 = .ok (.aload_n 0, 1) := by decide +kernel
theorem dX2_readDenied_41 : decode cX2_readDenied 41 = .ok (.sipush (-262), 3) := by decide +kernel
theorem dX2_readDenied_44 : decode cX2_readDenied 44 = .ok (.invokevirtual 51, 3) := by decide +kernel
theorem dX2_readDenied_47 : decode cX2_readDenied 47 = .ok (.iconst 1, 1) := by decide +kernel
theorem dX2_readDenied_48 : decode cX2_readDenied 48 = .ok (.ireturn, 1) := by decide +kernel
theorem dX2_readCompared_0 : decode cX2_readCompared 0 = .ok (.aload_n 0, 1) := by decide +kernel
theorem dX2_readCompared_1 : decode cX2_readCompared 1 = .ok (.iload_n 1, 1) := by decide +kernel
theorem dX2_readCompared_2 : decode cX2_readCompared 2 = .ok (.invokevirtual 61, 3) := by decide +kernel
theorem dX2_readCompared_5 : decode cX2_readCompared 5 = .ok (.ifCond .ne 5, 3) := by decide +kernel
theorem dX2_readCompared_8 : decode cX2_readCompared 8 = .ok (.iconst 0, 1) := by decide +kernel
theorem dX2_readCompared_9 : decode cX2_readCompared 9 = .ok (.ireturn, 1) := by decide +kernel
theorem dX2_readCompared_10 : decode cX2_readCompared 10 = .ok (.aload_n 0, 1) := by decide +kernel
theorem dX2_readCompared_11 : decode cX2_readCompared 11 = .ok (.getfield 36, 3) := by decide +kernel
theorem dX2_readCompared_14 : decode cX2_readCompared 14 = .ok (.istore_n 2, 1) := by decide +kernel
theorem dX2_readCompared_15 : decode cX2_readCompared 15 = .ok (.iload_n 2, 1) := by decide +kernel
theorem dX2_readCompared_16 : decode cX2_readCompared 16 = .ok (.bipush 60, 2) := by decide +kernel
theorem dX2_readCompared_18 : decode cX2_readCompared 18 = .ok (.if_icmp .eq 17, 3) := by decide +kernel
theorem dX2_readCompared_21 : decode cX2_readCompared 21 = .ok (.iload_n 2, 1) := by decide +kernel
theorem dX2_readCompared_22 : decode cX2_readCompared 22 = .ok (.bipush 61, 2) := by decide +kernel
theorem dX2_readCompared_24 : decode cX2_readCompared 24 = .ok (.if_icmp .eq 11, 3) := by decide +kernel
theorem dX2_readCompared_27 : decode cX2_readCompared 27 = .ok (.iload_n 2, 1) := by decide +kernel
theorem dX2_readCompared_28 : decode cX2_readCompared 28 = .ok (.bipush 62, 2) := by decide +kernel
theorem dX2_readCompared_30 : decode cX2_readCompared 30 = .ok (.if_icmp .eq 5, 3) := by decide +kernel
theorem dX2_readCompared_33 : decode cX2_readCompared 33 = .ok (.iconst 1, 1) := by decide +kernel
theorem dX2_readCompared_34 : decode cX2_readCompared 34 = .ok (.ireturn, 1) := by decide +kernel
theorem dX2_readCompared_35 : decode cX2_readCompared 35 = .ok (.aload_n 0, 1) := by decide +kernel
theorem dX2_readCompared_36 : decode cX2_readCompared 36 = .ok (.invokevirtual 29, 3) := by decide +kernel
theorem dX2_readCompared_39 : decode cX2_readCompared 39 = .ok (.aload_n 0, 1) := by decide +kernel
theorem dX2_readCompared_40 : decode cX2_readCompared 40 = .ok (.iload_n 1, 1) := by decide +kernel
theorem dX2_readCompared_41 : decode cX2_readCompared 41 = .ok (.invokevirtual 61, 3) := by decide +kernel
theorem dX2_readCompared_44 : decode cX2_readCompared 44 = .ok (.ifCond .ne 5, 3) := by decide +kernel
theorem dX2_readCompared_47 : decode cX2_readCompared 47 = .ok (.iconst 0, 1) := by decide +kernel
theorem dX2_readCompared_48 : decode cX2_readCompared 48 = .ok (.ireturn, 1) := by decide +kernel
theorem dX2_readCompared_49 : decode cX2_readCompared 49 = .ok (.aload_n 0, 1) := by decide +kernel
theorem dX2_readCompared_50 : decode cX2_readCompared 50 = .ok (.iload_n 2, 1) := by decide +kernel
theorem dX2_readCompared_51 : decode cX2_readCompared 51 = .ok (.ineg, 1) := by decide +kernel
theorem dX2_readCompared_52 : decode cX2_readCompared 52 = .ok (.invokevirtual 51, 3) := by decide +kernel
theorem dX2_readCompared_55 : decode cX2_readCompared 55 = .ok (.iconst 1, 1) := by decide +kernel
theorem dX2_readCompared_56 : decode cX2_readCompared 56 = .ok (.ireturn, 1) := by decide +kernel
theorem dX2_readSum_0 : decode cX2_readSum 0 = .ok (.aload_n 0, 1) := by decide +kernel
theorem dX2_readSum_1 : decode cX2_readSum 1 = .ok (.iload_n 1, 1) := by decide +kernel
theorem dX2_readSum_2 : decode cX2_readSum 2 = .ok (.invokevirtual 64, 3) := by decide +kernel
theorem dX2_readSum_5 : decode cX2_readSum 5 = .ok (.ifCond .ne 5, 3) := by decide +kernel
theorem dX2_readSum_8 : decode cX2_readSum 8 = .ok (.iconst 0, 1) := by decide +kernel
theorem dX2_readSum_9 : decode cX2_readSum 9 = .ok (.ireturn, 1) := by decide +kernel
theorem dX2_readSum_10 : decode cX2_readSum 10 = .ok (.iconst 0, 1) := by decide +kernel
theorem dX2_readSum_11 : decode cX2_readSum 11 = .ok (.istore_n 2, 1) := by decide +kernel
theorem dX2_readSum_12 : decode cX2_readSum 12 = .ok (.iload_n 2, 1) := by decide +kernel
theorem dX2_readSum_13 : decode cX2_readSum 13 = .ok (.sipush 200, 3) := by decide +kernel
theorem dX2_readSum_16 : decode cX2_readSum 16 = .ok (.if_icmp .ge 52, 3) := by decide +kernel
theorem dX2_readSum_19 : decode cX2_readSum 19 = .ok (.aload_n 0, 1) := by decide +kernel
theorem dX2_readSum_20 : decode cX2_readSum 20 = .ok (.getfield 36, 3) := by decide +kernel
theorem dX2_readSum_23 : decode cX2_readSum 23 = .ok (.bipush 43, 2) := by decide +kernel
theorem dX2_readSum_25 : decode cX2_readSum 25 = .ok (.if_icmp .eq 12, 3) := by decide +kernel
theorem dX2_readSum_28 : decode cX2_readSum 28 = .ok (.aload_n 0, 1) := by decide +kernel
theorem dX2_readSum_29 : decode cX2_readSum 29 = .ok (.getfield 36, 3) := by decide +kernel
theorem dX2_readSum_32 : decode cX2_readSum 32 = .ok (.bipush 45, 2) := by decide +kernel
theorem dX2_readSum_34 : decode cX2_readSum 34 = .ok (.if_icmp .ne 34, 3) := by decide +kernel
theorem dX2_readSum_37 : decode cX2_readSum 37 = .ok (.aload_n 0, 1) := by decide +kernel
theorem dX2_readSum_38 : decode cX2_readSum 38 = .ok (.getfield 36, 3) := by decide +kernel
theorem dX2_readSum_41 : decode cX2_readSum 41 = .ok (.istore_n 3, 1) := by decide +kernel
theorem dX2_readSum_42 : decode cX2_readSum 42 = .ok (.aload_n 0, 1) := by decide +kernel
theorem dX2_readSum_43 : decode cX2_readSum 43 = .ok (.invokevirtual 29, 3) := by decide +kernel
theorem dX2_readSum_46 : decode cX2_readSum 46 = .ok (.aload_n 0, 1) := by decide +kernel
theorem dX2_readSum_47 : decode cX2_readSum 47 = .ok (.iload_n 1, 1) := by decide +kernel
theorem dX2_readSum_48 : decode cX2_readSum 48 = .ok (.invokevirtual 64, 3) := by decide +kernel
theorem dX2_readSum_51 : decode cX2_readSum 51 = .ok (.ifCond .ne 5, 3) := by decide +kernel
theorem dX2_readSum_54 : decode cX2_readSum 54 = .ok (.iconst 0, 1) := by decide +kernel
theorem dX2_readSum_55 : decode cX2_readSum 55 = .ok (.ireturn, 1) := by decide +kernel
theorem dX2_readSum_56 : decode cX2_readSum 56 = .ok (.aload_n 0, 1) := by decide +kernel
theorem dX2_readSum_57 : decode cX2_readSum 57 = .ok (.iload_n 3, 1) := by decide +kernel
theorem dX2_readSum_58 : decode cX2_readSum 58 = .ok (.ineg, 1) := by decide +kernel
theorem dX2_readSum_59 : decode cX2_readSum 59 = .ok (.invokevirtual 51, 3) := by decide +kernel
theorem dX2_readSum_62 : decode cX2_readSum 62 = .ok (.iinc 2 1, 3) := by decide +kernel
theorem dX2_readSum_65 : decode cX2_readSum 65 = .ok (.goto (-53), 3) := by decide +kernel
theorem dX2_readSum_68 : decode cX2_readSum 68 = .ok (.iconst 1, 1) := by decide +kernel
theorem dX2_readSum_69 : decode cX2_readSum 69 = .ok (.ireturn, 1) := by decide +kernel
theorem dX2_readProduct_0 : decode cX2_readProduct 0 = .ok (.aload_n 0, 1) := by decide +kernel
theorem dX2_readProduct_1 : decode cX2_readProduct 1 = .ok (.iload_n 1, 1) := by decide +kernel
theorem dX2_readProduct_2 : decode cX2_readProduct 2 = .ok (.invokevirtual 67, 3) := by decide +kernel
theorem dX2_readProduct_5 : decode cX2_readProduct 5 = .ok (.ifCond .ne 5, 3) := by decide +kernel
theorem dX2_readProduct_8 : decode cX2_readProduct 8 = .ok (.iconst 0, 1) := by decide +kernel
theorem dX2_readProduct_9 : decode cX2_readProduct 9 = .ok (.ireturn, 1) := by decide +kernel
theorem dX2_readProduct_10 : decode cX2_readProduct 10 = .ok (.iconst 0, 1) := by decide +kernel
theorem dX2_readProduct_11 : decode cX2_readProduct 11 = .ok (.istore_n 2, 1) := by decide +kernel
theorem dX2_readProduct_12 : decode cX2_readProduct 12 = .ok (.iload_n 2, 1) := by decide +kernel
theorem dX2_readProduct_13 : decode cX2_readProduct 13 = .ok (.sipush 200, 3) := by decide +kernel
theorem dX2_readProduct_16 : decode cX2_readProduct 16 = .ok (.if_icmp .ge 38, 3) := by decide +kernel
theorem dX2_readProduct_19 : decode cX2_readProduct 19 = .ok (.aload_n 0, 1) := by decide +kernel
theorem dX2_readProduct_20 : decode cX2_readProduct 20 = .ok (.getfield 36, 3) := by decide +kernel
theorem dX2_readProduct_23 : decode cX2_readProduct 23 = .ok (.bipush 42, 2) := by decide +kernel
theorem dX2_readProduct_25 : decode cX2_readProduct 25 = .ok (.if_icmp .ne 29, 3) := by decide +kernel
theorem dX2_readProduct_28 : decode cX2_readProduct 28 = .ok (.aload_n 0, 1) := by decide +kernel
theorem dX2_readProduct_29 : decode cX2_readProduct 29 = .ok (.invokevirtual 29, 3) := by decide +kernel
theorem dX2_readProduct_32 : decode cX2_readProduct 32 = .ok (.aload_n 0, 1) := by decide +kernel
theorem dX2_readProduct_33 : decode cX2_readProduct 33 = .ok (.iload_n 1, 1) := by decide +kernel
theorem dX2_readProduct_34 : decode cX2_readProduct 34 = .ok (.invokevirtual 67, 3) := by decide +kernel
theorem dX2_readProduct_37 : decode cX2_readProduct 37 = .ok (.ifCond .ne 5, 3) := by decide +kernel
theorem dX2_readProduct_40 : decode cX2_readProduct 40 = .ok (.iconst 0, 1) := by decide +kernel
theorem dX2_readProduct_41 : decode cX2_readProduct 41 = .ok (.ireturn, 1) := by decide +kernel
theorem dX2_readProduct_42 : decode cX2_readProduct 42 = .ok (.aload_n 0, 1) := by decide +kernel
theorem dX2_readProduct_43 : decode cX2_readProduct 43 = .ok (.bipush (-42), 2) := by decide +kernel
theorem dX2_readProduct_45 : decode cX2_readProduct 45 = .ok (.invokevirtual 51, 3) := by decide +kernel
theorem dX2_readProduct_48 : decode cX2_readProduct 48 = .ok (.iinc 2 1, 3) := by decide +kernel
theorem dX2_readProduct_51 : decode cX2_readProduct 51 = .ok (.goto (-39), 3) := by decide +kernel
theorem dX2_readProduct_54 : decode cX2_readProduct 54 = .ok (.iconst 1, 1) := by decide +kernel
theorem dX2_readProduct_55 : decode cX2_readProduct 55 = .ok (.ireturn, 1) := by decide +kernel
theorem dX2_readOperand_0 : decode cX2_readOperand 0 = .ok (.aload_n 0, 1) := by decide +kernel
theorem dX2_readOperand_1 : decode cX2_readOperand 1 = .ok (.getfield 36, 3) := by decide +kernel
theorem dX2_readOperand_4 : decode cX2_readOperand 4 = .ok (.sipush 257, 3) := by decide +kernel
theorem dX2_readOperand_7 : decode cX2_readOperand 7 = .ok (.if_icmp .eq 13, 3) := by decide +kernel
theorem dX2_readOperand_10 : decode cX2_readOperand 10 = .ok (.aload_n 0, 1) := by decide +kernel
theorem dX2_readOperand_11 : decode cX2_readOperand 11 = .ok (.getfield 36, 3) := by decide +kernel
theorem dX2_readOperand_14 : decode cX2_readOperand 14 = .ok (.sipush 258, 3) := by decide +kernel
theorem dX2_readOperand_17 : decode cX2_readOperand 17 = .ok (.if_icmp .ne 36, 3) := by decide +kernel
theorem dX2_readOperand_20 : decode cX2_readOperand 20 = .ok (.aload_n 0, 1) := by decide +kernel
theorem dX2_readOperand_21 : decode cX2_readOperand 21 = .ok (.aload_n 0, 1) := by decide +kernel
theorem dX2_readOperand_22 : decode cX2_readOperand 22 = .ok (.getfield 36, 3) := by decide +kernel
theorem dX2_readOperand_25 : decode cX2_readOperand 25 = .ok (.sipush 257, 3) := by decide +kernel
theorem dX2_readOperand_28 : decode cX2_readOperand 28 = .ok (.if_icmp .ne 10, 3) := by decide +kernel
theorem dX2_readOperand_31 : decode cX2_readOperand 31 = .ok (.aload_n 0, 1) := by decide +kernel
theorem dX2_readOperand_32 : decode cX2_readOperand 32 = .ok (.getfield 70, 3) := by decide +kernel
theorem dX2_readOperand_35 : decode cX2_readOperand 35 = .ok (.goto 9, 3) := by decide +kernel
theorem dX2_readOperand_38 : decode cX2_readOperand 38 = .ok (.iconst (-1), 1) := by decide +kernel
theorem dX2_readOperand_39 : decode cX2_readOperand 39 = .ok (.aload_n 0, 1) := by decide +kernel
theorem dX2_readOperand_40 : decode cX2_readOperand 40 = .ok (.getfield 70, 3) := by decide +kernel
theorem dX2_readOperand_43 : decode cX2_readOperand 43 = .ok (.isub, 1) := by decide +kernel
theorem dX2_readOperand_44 : decode cX2_readOperand 44 = .ok (.invokevirtual 51, 3) := by decide +kernel
theorem dX2_readOperand_47 : decode cX2_readOperand 47 = .ok (.aload_n 0, 1) := by decide +kernel
theorem dX2_readOperand_48 : decode cX2_readOperand 48 = .ok (.invokevirtual 29, 3) := by decide +kernel
theorem dX2_readOperand_51 : decode cX2_readOperand 51 = .ok (.iconst 1, 1) := by decide +kernel
theorem dX2_readOperand_52 : decode cX2_readOperand 52 = .ok (.ireturn, 1) := by decide +kernel
theorem dX2_readOperand_53 : decode cX2_readOperand 53 = .ok (.aload_n 0, 1) := by decide +kernel
theorem dX2_readOperand_54 : decode cX2_readOperand 54 = .ok (.getfield 36, 3) := by decide +kernel
theorem dX2_readOperand_57 : decode cX2_readOperand 57 = .ok (.bipush 45, 2) := by decide +kernel
theorem dX2_readOperand_59 : decode cX2_readOperand 59 = .ok (.if_icmp .eq 12, 3) := by decide +kernel
theorem dX2_readOperand_62 : decode cX2_readOperand 62 = .ok (.aload_n 0, 1) := by decide +kernel
theorem dX2_readOperand_63 : decode cX2_readOperand 63 = .ok (.getfield 36, 3) := by decide +kernel
theorem dX2_readOperand_66 : decode cX2_readOperand 66 = .ok (.bipush 40, 2) := by decide +kernel
theorem dX2_readOperand_68 : decode cX2_readOperand 68 = .ok (.if_icmp .ne 9, 3) := by decide +kernel
theorem dX2_readOperand_71 : decode cX2_readOperand 71 = .ok (.iload_n 1, 1) := by decide +kernel
theorem dX2_readOperand_72 : decode cX2_readOperand 72 = .ok (.bipush 12, 2) := by decide +kernel
theorem dX2_readOperand_74 : decode cX2_readOperand 74 = .ok (.if_icmp .lt 5, 3) := by decide +kernel
theorem dX2_readOperand_77 : decode cX2_readOperand 77 = .ok (.iconst 0, 1) := by decide +kernel
theorem dX2_readOperand_78 : decode cX2_readOperand 78 = .ok (.ireturn, 1) := by decide +kernel
theorem dX2_readOperand_79 : decode cX2_readOperand 79 = .ok (.aload_n 0, 1) := by decide +kernel
theorem dX2_readOperand_80 : decode cX2_readOperand 80 = .ok (.getfield 36, 3) := by decide +kernel
theorem dX2_readOperand_83 : decode cX2_readOperand 83 = .ok (.bipush 40, 2) := by decide +kernel
theorem dX2_readOperand_85 : decode cX2_readOperand 85 = .ok (.if_icmp .ne 7, 3) := by decide +kernel
theorem dX2_readOperand_88 : decode cX2_readOperand 88 = .ok (.iconst 1, 1) := by decide +kernel
theorem dX2_readOperand_89 : decode cX2_readOperand 89 = .ok (.goto 4, 3) := by decide +kernel
theorem dX2_readOperand_92 : decode cX2_readOperand 92 = .ok (.iconst 0, 1) := by decide +kernel
theorem dX2_readOperand_93 : decode cX2_readOperand 93 = .ok (.istore_n 2, 1) := by decide +kernel
theorem dX2_readOperand_94 : decode cX2_readOperand 94 = .ok (.aload_n 0, 1) := by decide +kernel
theorem dX2_readOperand_95 : decode cX2_readOperand 95 = .ok (.invokevirtual 29, 3) := by decide +kernel
theorem dX2_readOperand_98 : decode cX2_readOperand 98 = .ok (.iload_n 2, 1) := by decide +kernel
theorem dX2_readOperand_99 : decode cX2_readOperand 99 = .ok (.ifCond .eq 13, 3) := by decide +kernel
theorem dX2_readOperand_102 : decode cX2_readOperand 102 = .ok (.aload_n 0, 1) := by decide +kernel
theorem dX2_readOperand_103 : decode cX2_readOperand 103 = .ok (.iload_n 1, 1) := by decide +kernel
theorem dX2_readOperand_104 : decode cX2_readOperand 104 = .ok (.iconst 1, 1) := by decide +kernel
theorem dX2_readOperand_105 : decode cX2_readOperand 105 = .ok (.iadd, 1) := by decide +kernel
theorem dX2_readOperand_106 : decode cX2_readOperand 106 = .ok (.invokevirtual 73, 3) := by decide +kernel
theorem dX2_readOperand_109 : decode cX2_readOperand 109 = .ok (.goto 10, 3) := by decide +kernel
theorem dX2_readOperand_112 : decode cX2_readOperand 112 = .ok (.aload_n 0, 1) := by decide +kernel
theorem dX2_readOperand_113 : decode cX2_readOperand 113 = .ok (.iload_n 1, 1) := by decide +kernel
theorem dX2_readOperand_114 : decode cX2_readOperand 114 = .ok (.iconst 1, 1) := by decide +kernel
theorem dX2_readOperand_115 : decode cX2_readOperand 115 = .ok (.iadd, 1) := by decide +kernel
theorem dX2_readOperand_116 : decode cX2_readOperand 116 = .ok (.invokevirtual 76, 3) := by decide +kernel
theorem dX2_readOperand_119 : decode cX2_readOperand 119 = .ok (.ireturn, 1) := by decide +kernel
theorem dX2_readBracket_0 : decode cX2_readBracket 0 = .ok (.aload_n 0, 1) := by decide +kernel
theorem dX2_readBracket_1 : decode cX2_readBracket 1 = .ok (.iload_n 1, 1) := by decide +kernel
theorem dX2_readBracket_2 : decode cX2_readBracket 2 = .ok (.invokevirtual 32, 3) := by decide +kernel
theorem dX2_readBracket_5 : decode cX2_readBracket 5 = .ok (.ifCond .eq 12, 3) := by decide +kernel
theorem dX2_readBracket_8 : decode cX2_readBracket 8 = .ok (.aload_n 0, 1) := by decide +kernel
theorem dX2_readBracket_9 : decode cX2_readBracket 9 = .ok (.getfield 36, 3) := by decide +kernel
theorem dX2_readBracket_12 : decode cX2_readBracket 12 = .ok (.bipush 41, 2) := by decide +kernel
theorem dX2_readBracket_14 : decode cX2_readBracket 14 = .ok (.if_icmp .eq 5, 3) := by decide +kernel
theorem dX2_readBracket_17 : decode cX2_readBracket 17 = .ok (.iconst 0, 1) := by decide +kernel
theorem dX2_readBracket_18 : decode cX2_readBracket 18 = .ok (.ireturn, 1) := by decide +kernel
theorem dX2_readBracket_19 : decode cX2_readBracket 19 = .ok (.aload_n 0, 1) := by decide +kernel
theorem dX2_readBracket_20 : decode cX2_readBracket 20 = .ok (.invokevirtual 29, 3) := by decide +kernel
theorem dX2_readBracket_23 : decode cX2_readBracket 23 = .ok (.iconst 1, 1) := by decide +kernel
theorem dX2_readBracket_24 : decode cX2_readBracket 24 = .ok (.ireturn, 1) := by decide +kernel
theorem dX2_readNegated_0 : decode cX2_readNegated 0 = .ok (.aload_n 0, 1) := by decide +kernel
theorem dX2_readNegated_1 : decode cX2_readNegated 1 = .ok (.iload_n 1, 1) := by decide +kernel
theorem dX2_readNegated_2 : decode cX2_readNegated 2 = .ok (.invokevirtual 67, 3) := by decide +kernel
theorem dX2_readNegated_5 : decode cX2_readNegated 5 = .ok (.ifCond .ne 5, 3) := by decide +kernel
theorem dX2_readNegated_8 : decode cX2_readNegated 8 = .ok (.iconst 0, 1) := by decide +kernel
theorem dX2_readNegated_9 : decode cX2_readNegated 9 = .ok (.ireturn, 1) := by decide +kernel
theorem dX2_readNegated_10 : decode cX2_readNegated 10 = .ok (.aload_n 0, 1) := by decide +kernel
theorem dX2_readNegated_11 : decode cX2_readNegated 11 = .ok (.sipush (-263), 3) := by decide +kernel
theorem dX2_readNegated_14 : decode cX2_readNegated 14 = .ok (.invokevirtual 51, 3) := by decide +kernel
theorem dX2_readNegated_17 : decode cX2_readNegated 17 = .ok (.iconst 1, 1) := by decide +kernel
theorem dX2_readNegated_18 : decode cX2_readNegated 18 = .ok (.ireturn, 1) := by decide +kernel
theorem dX2_putStep_0 : decode cX2_putStep 0 = .ok (.aload_n 0, 1) := by decide +kernel
theorem dX2_putStep_1 : decode cX2_putStep 1 = .ok (.getfield 26, 3) := by decide +kernel
theorem dX2_putStep_4 : decode cX2_putStep 4 = .ok (.aload_n 0, 1) := by decide +kernel
theorem dX2_putStep_5 : decode cX2_putStep 5 = .ok (.getfield 18, 3) := by decide +kernel
theorem dX2_putStep_8 : decode cX2_putStep 8 = .ok (.arraylength, 1) := by decide +kernel
theorem dX2_putStep_9 : decode cX2_putStep 9 = .ok (.if_icmp .ge 23, 3) := by decide +kernel
theorem dX2_putStep_12 : decode cX2_putStep 12 = .ok (.aload_n 0, 1) := by decide +kernel
theorem dX2_putStep_13 : decode cX2_putStep 13 = .ok (.getfield 18, 3) := by decide +kernel
theorem dX2_putStep_16 : decode cX2_putStep 16 = .ok (.aload_n 0, 1) := by decide +kernel
theorem dX2_putStep_17 : decode cX2_putStep 17 = .ok (.getfield 26, 3) := by decide +kernel
theorem dX2_putStep_20 : decode cX2_putStep 20 = .ok (.iload_n 1, 1) := by decide +kernel
theorem dX2_putStep_21 : decode cX2_putStep 21 = .ok (.iastore, 1) := by decide +kernel
theorem dX2_putStep_22 : decode cX2_putStep 22 = .ok (.aload_n 0, 1) := by decide +kernel
theorem dX2_putStep_23 : decode cX2_putStep 23 = .ok (.dup, 1) := by decide +kernel
theorem dX2_putStep_24 : decode cX2_putStep 24 = .ok (.getfield 26, 3) := by decide +kernel
theorem dX2_putStep_27 : decode cX2_putStep 27 = .ok (.iconst 1, 1) := by decide +kernel
theorem dX2_putStep_28 : decode cX2_putStep 28 = .ok (.iadd, 1) := by decide +kernel
theorem dX2_putStep_29 : decode cX2_putStep 29 = .ok (.putfield 26, 3) := by decide +kernel
theorem dX2_putStep_32 : decode cX2_putStep 32 = .ok (.return_, 1) := by decide +kernel
theorem dX2_nextToken_0 : decode cX2_nextToken 0 = .ok (.iconst 0, 1) := by decide +kernel
theorem dX2_nextToken_1 : decode cX2_nextToken 1 = .ok (.istore_n 1, 1) := by decide +kernel
theorem dX2_nextToken_2 : decode cX2_nextToken 2 = .ok (.iload_n 1, 1) := by decide +kernel
theorem dX2_nextToken_3 : decode cX2_nextToken 3 = .ok (.sipush 200, 3) := by decide +kernel
theorem dX2_nextToken_6 : decode cX2_nextToken 6 = .ok (.if_icmp .ge 49, 3) := by decide +kernel
theorem dX2_nextToken_9 : decode cX2_nextToken 9 = .ok (.aload_n 0, 1) := by decide +kernel
theorem dX2_nextToken_10 : decode cX2_nextToken 10 = .ok (.getfield 22, 3) := by decide +kernel
theorem dX2_nextToken_13 : decode cX2_nextToken 13 = .ok (.aload_n 0, 1) := by decide +kernel
theorem dX2_nextToken_14 : decode cX2_nextToken 14 = .ok (.getfield 12, 3) := by decide +kernel
theorem dX2_nextToken_17 : decode cX2_nextToken 17 = .ok (.getfield 79, 3) := by decide +kernel
theorem dX2_nextToken_20 : decode cX2_nextToken 20 = .ok (.if_icmp .ge 35, 3) := by decide +kernel
theorem dX2_nextToken_23 : decode cX2_nextToken 23 = .ok (.aload_n 0, 1) := by decide +kernel
theorem dX2_nextToken_24 : decode cX2_nextToken 24 = .ok (.getfield 12, 3) := by decide +kernel
theorem dX2_nextToken_27 : decode cX2_nextToken 27 = .ok (.aload_n 0, 1) := by decide +kernel
theorem dX2_nextToken_28 : decode cX2_nextToken 28 = .ok (.getfield 22, 3) := by decide +kernel
theorem dX2_nextToken_31 : decode cX2_nextToken 31 = .ok (.invokevirtual 82, 3) := by decide +kernel
theorem dX2_nextToken_34 : decode cX2_nextToken 34 = .ok (.bipush 32, 2) := by decide +kernel
theorem dX2_nextToken_36 : decode cX2_nextToken 36 = .ok (.if_icmp .ne 19, 3) := by decide +kernel
theorem dX2_nextToken_39 : decode cX2_nextToken 39 = .ok (.aload_n 0, 1) := by decide +kernel
theorem dX2_nextToken_40 : decode cX2_nextToken 40 = .ok (.dup, 1) := by decide +kernel
theorem dX2_nextToken_41 : decode cX2_nextToken 41 = .ok (.getfield 22, 3) := by decide +kernel
theorem dX2_nextToken_44 : decode cX2_nextToken 44 = .ok (.iconst 1, 1) := by decide +kernel
theorem dX2_nextToken_45 : decode cX2_nextToken 45 = .ok (.iadd, 1) := by decide +kernel
theorem dX2_nextToken_46 : decode cX2_nextToken 46 = .ok (.putfield 22, 3) := by decide +kernel
theorem dX2_nextToken_49 : decode cX2_nextToken 49 = .ok (.iinc 1 1, 3) := by decide +kernel
theorem dX2_nextToken_52 : decode cX2_nextToken 52 = .ok (.goto (-50), 3) := by decide +kernel
theorem dX2_nextToken_55 : decode cX2_nextToken 55 = .ok (.aload_n 0, 1) := by decide +kernel
theorem dX2_nextToken_56 : decode cX2_nextToken 56 = .ok (.aload_n 0, 1) := by decide +kernel
theorem dX2_nextToken_57 : decode cX2_nextToken 57 = .ok (.getfield 22, 3) := by decide +kernel
theorem dX2_nextToken_60 : decode cX2_nextToken 60 = .ok (.putfield 39, 3) := by decide +kernel
theorem dX2_nextToken_63 : decode cX2_nextToken 63 = .ok (.aload_n 0, 1) := by decide +kernel
theorem dX2_nextToken_64 : decode cX2_nextToken 64 = .ok (.getfield 22, 3) := by decide +kernel
theorem dX2_nextToken_67 : decode cX2_nextToken 67 = .ok (.aload_n 0, 1) := by decide +kernel
theorem dX2_nextToken_68 : decode cX2_nextToken 68 = .ok (.getfield 12, 3) := by decide +kernel
theorem dX2_nextToken_71 : decode cX2_nextToken 71 = .ok (.getfield 79, 3) := by decide +kernel
theorem dX2_nextToken_74 : decode cX2_nextToken 74 = .ok (.if_icmp .lt 13, 3) := by decide +kernel
theorem dX2_nextToken_77 : decode cX2_nextToken 77 = .ok (.aload_n 0, 1) := by decide +kernel
theorem dX2_nextToken_78 : decode cX2_nextToken 78 = .ok (.sipush 256, 3) := by decide +kernel
theorem dX2_nextToken_81 : decode cX2_nextToken 81 = .ok (.putfield 36, 3) := by decide +kernel
theorem dX2_nextToken_84 : decode cX2_nextToken 84 = .ok (.goto 76, 3) := by decide +kernel
theorem dX2_nextToken_87 : decode cX2_nextToken 87 = .ok (.aload_n 0, 1) := by decide +kernel
theorem dX2_nextToken_88 : decode cX2_nextToken 88 = .ok (.getfield 12, 3) := by decide +kernel
theorem dX2_nextToken_91 : decode cX2_nextToken 91 = .ok (.aload_n 0, 1) := by decide +kernel
theorem dX2_nextToken_92 : decode cX2_nextToken 92 = .ok (.getfield 22, 3) := by decide +kernel
theorem dX2_nextToken_95 : decode cX2_nextToken 95 = .ok (.invokevirtual 82, 3) := by decide +kernel
theorem dX2_nextToken_98 : decode cX2_nextToken 98 = .ok (.invokestatic 86, 3) := by decide +kernel
theorem dX2_nextToken_101 : decode cX2_nextToken 101 = .ok (.ifCond .eq 10, 3) := by decide +kernel
theorem dX2_nextToken_104 : decode cX2_nextToken 104 = .ok (.aload_n 0, 1) := by decide +kernel
theorem dX2_nextToken_105 : decode cX2_nextToken 105 = .ok (.invokevirtual 89, 3) := by decide +kernel
theorem dX2_nextToken_108 : decode cX2_nextToken 108 = .ok (.goto 52, 3) := by decide +kernel
theorem dX2_nextToken_111 : decode cX2_nextToken 111 = .ok (.aload_n 0, 1) := by decide +kernel
theorem dX2_nextToken_112 : decode cX2_nextToken 112 = .ok (.getfield 12, 3) := by decide +kernel
theorem dX2_nextToken_115 : decode cX2_nextToken 115 = .ok (.aload_n 0, 1) := by decide +kernel
theorem dX2_nextToken_116 : decode cX2_nextToken 116 = .ok (.getfield 22, 3) := by decide +kernel
theorem dX2_nextToken_119 : decode cX2_nextToken 119 = .ok (.invokevirtual 82, 3) := by decide +kernel
theorem dX2_nextToken_122 : decode cX2_nextToken 122 = .ok (.invokestatic 92, 3) := by decide +kernel
theorem dX2_nextToken_125 : decode cX2_nextToken 125 = .ok (.ifCond .eq 10, 3) := by decide +kernel
theorem dX2_nextToken_128 : decode cX2_nextToken 128 = .ok (.aload_n 0, 1) := by decide +kernel
theorem dX2_nextToken_129 : decode cX2_nextToken 129 = .ok (.invokevirtual 95, 3) := by decide +kernel
theorem dX2_nextToken_132 : decode cX2_nextToken 132 = .ok (.goto 28, 3) := by decide +kernel
theorem dX2_nextToken_135 : decode cX2_nextToken 135 = .ok (.aload_n 0, 1) := by decide +kernel
theorem dX2_nextToken_136 : decode cX2_nextToken 136 = .ok (.aload_n 0, 1) := by decide +kernel
theorem dX2_nextToken_137 : decode cX2_nextToken 137 = .ok (.getfield 12, 3) := by decide +kernel
theorem dX2_nextToken_140 : decode cX2_nextToken 140 = .ok (.aload_n 0, 1) := by decide +kernel
theorem dX2_nextToken_141 : decode cX2_nextToken 141 = .ok (.getfield 22, 3) := by decide +kernel
theorem dX2_nextToken_144 : decode cX2_nextToken 144 = .ok (.invokevirtual 82, 3) := by decide +kernel
theorem dX2_nextToken_147 : decode cX2_nextToken 147 = .ok (.putfield 36, 3) := by decide +kernel
theorem dX2_nextToken_150 : decode cX2_nextToken 150 = .ok (.aload_n 0, 1) := by decide +kernel
theorem dX2_nextToken_151 : decode cX2_nextToken 151 = .ok (.dup, 1) := by decide +kernel
theorem dX2_nextToken_152 : decode cX2_nextToken 152 = .ok (.getfield 22, 3) := by decide +kernel
theorem dX2_nextToken_155 : decode cX2_nextToken 155 = .ok (.iconst 1, 1) := by decide +kernel
theorem dX2_nextToken_156 : decode cX2_nextToken 156 = .ok (.iadd, 1) := by decide +kernel
theorem dX2_nextToken_157 : decode cX2_nextToken 157 = .ok (.putfield 22, 3) := by decide +kernel
theorem dX2_nextToken_160 : decode cX2_nextToken 160 = .ok (.return_, 1) := by decide +kernel
theorem dX2_takeNumber_0 : decode cX2_takeNumber 0 = .ok (.aload_n 0, 1) := by decide +kernel
theorem dX2_takeNumber_1 : decode cX2_takeNumber 1 = .ok (.iconst 0, 1) := by decide +kernel
theorem dX2_takeNumber_2 : decode cX2_takeNumber 2 = .ok (.putfield 70, 3) := by decide +kernel
theorem dX2_takeNumber_5 : decode cX2_takeNumber 5 = .ok (.iconst 0, 1) := by decide +kernel
theorem dX2_takeNumber_6 : decode cX2_takeNumber 6 = .ok (.istore_n 1, 1) := by decide +kernel
theorem dX2_takeNumber_7 : decode cX2_takeNumber 7 = .ok (.iload_n 1, 1) := by decide +kernel
theorem dX2_takeNumber_8 : decode cX2_takeNumber 8 = .ok (.sipush 200, 3) := by decide +kernel
theorem dX2_takeNumber_11 : decode cX2_takeNumber 11 = .ok (.if_icmp .ge 62, 3) := by decide +kernel
theorem dX2_takeNumber_14 : decode cX2_takeNumber 14 = .ok (.aload_n 0, 1) := by decide +kernel
theorem dX2_takeNumber_15 : decode cX2_takeNumber 15 = .ok (.getfield 12, 3) := by decide +kernel
theorem dX2_takeNumber_18 : decode cX2_takeNumber 18 = .ok (.aload_n 0, 1) := by decide +kernel
theorem dX2_takeNumber_19 : decode cX2_takeNumber 19 = .ok (.getfield 22, 3) := by decide +kernel
theorem dX2_takeNumber_22 : decode cX2_takeNumber 22 = .ok (.invokevirtual 82, 3) := by decide +kernel
theorem dX2_takeNumber_25 : decode cX2_takeNumber 25 = .ok (.invokestatic 86, 3) := by decide +kernel
theorem dX2_takeNumber_28 : decode cX2_takeNumber 28 = .ok (.ifCond .eq 45, 3) := by decide +kernel
theorem dX2_takeNumber_31 : decode cX2_takeNumber 31 = .ok (.aload_n 0, 1) := by decide +kernel
theorem dX2_takeNumber_32 : decode cX2_takeNumber 32 = .ok (.aload_n 0, 1) := by decide +kernel
theorem dX2_takeNumber_33 : decode cX2_takeNumber 33 = .ok (.getfield 70, 3) := by decide +kernel
theorem dX2_takeNumber_36 : decode cX2_takeNumber 36 = .ok (.bipush 10, 2) := by decide +kernel
theorem dX2_takeNumber_38 : decode cX2_takeNumber 38 = .ok (.imul, 1) := by decide +kernel
theorem dX2_takeNumber_39 : decode cX2_takeNumber 39 = .ok (.aload_n 0, 1) := by decide +kernel
theorem dX2_takeNumber_40 : decode cX2_takeNumber 40 = .ok (.getfield 12, 3) := by decide +kernel
theorem dX2_takeNumber_43 : decode cX2_takeNumber 43 = .ok (.aload_n 0, 1) := by decide +kernel
theorem dX2_takeNumber_44 : decode cX2_takeNumber 44 = .ok (.getfield 22, 3) := by decide +kernel
theorem dX2_takeNumber_47 : decode cX2_takeNumber 47 = .ok (.invokevirtual 82, 3) := by decide +kernel
theorem dX2_takeNumber_50 : decode cX2_takeNumber 50 = .ok (.iadd, 1) := by decide +kernel
theorem dX2_takeNumber_51 : decode cX2_takeNumber 51 = .ok (.bipush 48, 2) := by decide +kernel
theorem dX2_takeNumber_53 : decode cX2_takeNumber 53 = .ok (.isub, 1) := by decide +kernel
theorem dX2_takeNumber_54 : decode cX2_takeNumber 54 = .ok (.putfield 70, 3) := by decide +kernel
theorem dX2_takeNumber_57 : decode cX2_takeNumber 57 = .ok (.aload_n 0, 1) := by decide +kernel
theorem dX2_takeNumber_58 : decode cX2_takeNumber 58 = .ok (.dup, 1) := by decide +kernel
theorem dX2_takeNumber_59 : decode cX2_takeNumber 59 = .ok (.getfield 22, 3) := by decide +kernel
theorem dX2_takeNumber_62 : decode cX2_takeNumber 62 = .ok (.iconst 1, 1) := by decide +kernel
theorem dX2_takeNumber_63 : decode cX2_takeNumber 63 = .ok (.iadd, 1) := by decide +kernel
theorem dX2_takeNumber_64 : decode cX2_takeNumber 64 = .ok (.putfield 22, 3) := by decide +kernel
theorem dX2_takeNumber_67 : decode cX2_takeNumber 67 = .ok (.iinc 1 1, 3) := by decide +kernel
theorem dX2_takeNumber_70 : decode cX2_takeNumber 70 = .ok (.goto (-63), 3) := by decide +kernel
theorem dX2_takeNumber_73 : decode cX2_takeNumber 73 = .ok (.aload_n 0, 1) := by decide +kernel
theorem dX2_takeNumber_74 : decode cX2_takeNumber 74 = .ok (.aload_n 0, 1) := by decide +kernel
theorem dX2_takeNumber_75 : decode cX2_takeNumber 75 = .ok (.getfield 22, 3) := by decide +kernel
theorem dX2_takeNumber_78 : decode cX2_takeNumber 78 = .ok (.aload_n 0, 1) := by decide +kernel
theorem dX2_takeNumber_79 : decode cX2_takeNumber 79 = .ok (.getfield 39, 3) := by decide +kernel
theorem dX2_takeNumber_82 : decode cX2_takeNumber 82 = .ok (.isub, 1) := by decide +kernel
theorem dX2_takeNumber_83 : decode cX2_takeNumber 83 = .ok (.iconst 5, 1) := by decide +kernel
theorem dX2_takeNumber_84 : decode cX2_takeNumber 84 = .ok (.if_icmp .gt 9, 3) := by decide +kernel
theorem dX2_takeNumber_87 : decode cX2_takeNumber 87 = .ok (.sipush 257, 3) := by decide +kernel
theorem dX2_takeNumber_90 : decode cX2_takeNumber 90 = .ok (.goto 6, 3) := by decide +kernel
theorem dX2_takeNumber_93 : decode cX2_takeNumber 93 = .ok (.sipush 259, 3) := by decide +kernel
theorem dX2_takeNumber_96 : decode cX2_takeNumber 96 = .ok (.putfield 36, 3) := by decide +kernel
theorem dX2_takeNumber_99 : decode cX2_takeNumber 99 = .ok (.return_, 1) := by decide +kernel
theorem dX2_takeWord_0 : decode cX2_takeWord 0 = .ok (.iconst 0, 1) := by decide +kernel
theorem dX2_takeWord_1 : decode cX2_takeWord 1 = .ok (.istore_n 1, 1) := by decide +kernel
theorem dX2_takeWord_2 : decode cX2_takeWord 2 = .ok (.iload_n 1, 1) := by decide +kernel
theorem dX2_takeWord_3 : decode cX2_takeWord 3 = .ok (.sipush 200, 3) := by decide +kernel
theorem dX2_takeWord_6 : decode cX2_takeWord 6 = .ok (.if_icmp .ge 36, 3) := by decide +kernel
theorem dX2_takeWord_9 : decode cX2_takeWord 9 = .ok (.aload_n 0, 1) := by decide +kernel
theorem dX2_takeWord_10 : decode cX2_takeWord 10 = .ok (.getfield 12, 3) := by decide +kernel
theorem dX2_takeWord_13 : decode cX2_takeWord 13 = .ok (.aload_n 0, 1) := by decide +kernel
theorem dX2_takeWord_14 : decode cX2_takeWord 14 = .ok (.getfield 22, 3) := by decide +kernel
theorem dX2_takeWord_17 : decode cX2_takeWord 17 = .ok (.invokevirtual 82, 3) := by decide +kernel
theorem dX2_takeWord_20 : decode cX2_takeWord 20 = .ok (.invokestatic 92, 3) := by decide +kernel
theorem dX2_takeWord_23 : decode cX2_takeWord 23 = .ok (.ifCond .eq 19, 3) := by decide +kernel
theorem dX2_takeWord_26 : decode cX2_takeWord 26 = .ok (.aload_n 0, 1) := by decide +kernel
theorem dX2_takeWord_27 : decode cX2_takeWord 27 = .ok (.dup, 1) := by decide +kernel
theorem dX2_takeWord_28 : decode cX2_takeWord 28 = .ok (.getfield 22, 3) := by decide +kernel
theorem dX2_takeWord_31 : decode cX2_takeWord 31 = .ok (.iconst 1, 1) := by decide +kernel
theorem dX2_takeWord_32 : decode cX2_takeWord 32 = .ok (.iadd, 1) := by decide +kernel
theorem dX2_takeWord_33 : decode cX2_takeWord 33 = .ok (.putfield 22, 3) := by decide +kernel
theorem dX2_takeWord_36 : decode cX2_takeWord 36 = .ok (.iinc 1 1, 3) := by decide +kernel
theorem dX2_takeWord_39 : decode cX2_takeWord 39 = .ok (.goto (-37), 3) := by decide +kernel
theorem dX2_takeWord_42 : decode cX2_takeWord 42 = .ok (.aload_n 0, 1) := by decide +kernel
theorem dX2_takeWord_43 : decode cX2_takeWord 43 = .ok (.sipush 259, 3) := by decide +kernel
theorem dX2_takeWord_46 : decode cX2_takeWord 46 = .ok (.putfield 36, 3) := by decide +kernel
theorem dX2_takeWord_49 : decode cX2_takeWord 49 = .ok (.iconst 0, 1) := by decide +kernel
theorem dX2_takeWord_50 : decode cX2_takeWord 50 = .ok (.istore_n 1, 1) := by decide +kernel
theorem dX2_takeWord_51 : decode cX2_takeWord 51 = .ok (.iload_n 1, 1) := by decide +kernel
theorem dX2_takeWord_52 : decode cX2_takeWord 52 = .ok (.bipush 16, 2) := by decide +kernel
theorem dX2_takeWord_54 : decode cX2_takeWord 54 = .ok (.if_icmp .ge 56, 3) := by decide +kernel
theorem dX2_takeWord_57 : decode cX2_takeWord 57 = .ok (.aload_n 0, 1) := by decide +kernel
theorem dX2_takeWord_58 : decode cX2_takeWord 58 = .ok (.getfield 36, 3) := by decide +kernel
theorem dX2_takeWord_61 : decode cX2_takeWord 61 = .ok (.sipush 259, 3) := by decide +kernel
theorem dX2_takeWord_64 : decode cX2_takeWord 64 = .ok (.if_icmp .ne 46, 3) := by decide +kernel
theorem dX2_takeWord_67 : decode cX2_takeWord 67 = .ok (.aload_n 0, 1) := by decide +kernel
theorem dX2_takeWord_68 : decode cX2_takeWord 68 = .ok (.iload_n 1, 1) := by decide +kernel
theorem dX2_takeWord_69 : decode cX2_takeWord 69 = .ok (.invokevirtual 98, 3) := by decide +kernel
theorem dX2_takeWord_72 : decode cX2_takeWord 72 = .ok (.ifCond .eq 32, 3) := by decide +kernel
theorem dX2_takeWord_75 : decode cX2_takeWord 75 = .ok (.aload_n 0, 1) := by decide +kernel
theorem dX2_takeWord_76 : decode cX2_takeWord 76 = .ok (.iload_n 1, 1) := by decide +kernel
theorem dX2_takeWord_77 : decode cX2_takeWord 77 = .ok (.putfield 70, 3) := by decide +kernel
theorem dX2_takeWord_80 : decode cX2_takeWord 80 = .ok (.aload_n 0, 1) := by decide +kernel
theorem dX2_takeWord_81 : decode cX2_takeWord 81 = .ok (.iload_n 1, 1) := by decide +kernel
theorem dX2_takeWord_82 : decode cX2_takeWord 82 = .ok (.bipush 13, 2) := by decide +kernel
theorem dX2_takeWord_84 : decode cX2_takeWord 84 = .ok (.if_icmp .ge 9, 3) := by decide +kernel
theorem dX2_takeWord_87 : decode cX2_takeWord 87 = .ok (.sipush 258, 3) := by decide +kernel
theorem dX2_takeWord_90 : decode cX2_takeWord 90 = .ok (.goto 11, 3) := by decide +kernel
theorem dX2_takeWord_93 : decode cX2_takeWord 93 = .ok (.sipush 260, 3) := by decide +kernel
theorem dX2_takeWord_96 : decode cX2_takeWord 96 = .ok (.iload_n 1, 1) := by decide +kernel
theorem dX2_takeWord_97 : decode cX2_takeWord 97 = .ok (.iadd, 1) := by decide +kernel
theorem dX2_takeWord_98 : decode cX2_takeWord 98 = .ok (.bipush 13, 2) := by decide +kernel
theorem dX2_takeWord_100 : decode cX2_takeWord 100 = .ok (.isub, 1) := by decide +kernel
theorem dX2_takeWord_101 : decode cX2_takeWord 101 = .ok (.putfield 36, 3) := by decide +kernel
theorem dX2_takeWord_104 : decode cX2_takeWord 104 = .ok (.iinc 1 1, 3) := by decide +kernel
theorem dX2_takeWord_107 : decode cX2_takeWord 107 = .ok (.goto (-56), 3) := by decide +kernel
theorem dX2_takeWord_110 : decode cX2_takeWord 110 = .ok (.return_, 1) := by decide +kernel
theorem dX2_isWord_0 : decode cX2_isWord 0 = .ok (.iconst 0, 1) := by decide +kernel
theorem dX2_isWord_1 : decode cX2_isWord 1 = .ok (.istore_n 2, 1) := by decide +kernel
theorem dX2_isWord_2 : decode cX2_isWord 2 = .ok (.iload_n 2, 1) := by decide +kernel
theorem dX2_isWord_3 : decode cX2_isWord 3 = .ok (.bipush 8, 2) := by decide +kernel
theorem dX2_isWord_5 : decode cX2_isWord 5 = .ok (.if_icmp .ge 58, 3) := by decide +kernel
theorem dX2_isWord_8 : decode cX2_isWord 8 = .ok (.aload_n 0, 1) := by decide +kernel
theorem dX2_isWord_9 : decode cX2_isWord 9 = .ok (.getfield 39, 3) := by decide +kernel
theorem dX2_isWord_12 : decode cX2_isWord 12 = .ok (.iload_n 2, 1) := by decide +kernel
theorem dX2_isWord_13 : decode cX2_isWord 13 = .ok (.iadd, 1) := by decide +kernel
theorem dX2_isWord_14 : decode cX2_isWord 14 = .ok (.aload_n 0, 1) := by decide +kernel
theorem dX2_isWord_15 : decode cX2_isWord 15 = .ok (.getfield 22, 3) := by decide +kernel
theorem dX2_isWord_18 : decode cX2_isWord 18 = .ok (.if_icmp .ge 19, 3) := by decide +kernel
theorem dX2_isWord_21 : decode cX2_isWord 21 = .ok (.aload_n 0, 1) := by decide +kernel
theorem dX2_isWord_22 : decode cX2_isWord 22 = .ok (.getfield 12, 3) := by decide +kernel
theorem dX2_isWord_25 : decode cX2_isWord 25 = .ok (.aload_n 0, 1) := by decide +kernel
theorem dX2_isWord_26 : decode cX2_isWord 26 = .ok (.getfield 39, 3) := by decide +kernel
theorem dX2_isWord_29 : decode cX2_isWord 29 = .ok (.iload_n 2, 1) := by decide +kernel
theorem dX2_isWord_30 : decode cX2_isWord 30 = .ok (.iadd, 1) := by decide +kernel
theorem dX2_isWord_31 : decode cX2_isWord 31 = .ok (.invokevirtual 82, 3) := by decide +kernel
theorem dX2_isWord_34 : decode cX2_isWord 34 = .ok (.goto 5, 3) := by decide +kernel
theorem dX2_isWord_37 : decode cX2_isWord 37 = .ok (.bipush 32, 2) := by decide +kernel
theorem dX2_isWord_39 : decode cX2_isWord 39 = .ok (.istore_n 3, 1) := by decide +kernel
theorem dX2_isWord_40 : decode cX2_isWord 40 = .ok (.iload_n 3, 1) := by decide +kernel
theorem dX2_isWord_41 : decode cX2_isWord 41 = .ok (.ldc 103, 2) := by decide +kernel
theorem dX2_isWord_43 : decode cX2_isWord 43 = .ok (.iload_n 1, 1) := by decide +kernel
theorem dX2_isWord_44 : decode cX2_isWord 44 = .ok (.bipush 8, 2) := by decide +kernel
theorem dX2_isWord_46 : decode cX2_isWord 46 = .ok (.imul, 1) := by decide +kernel
theorem dX2_isWord_47 : decode cX2_isWord 47 = .ok (.iload_n 2, 1) := by decide +kernel
theorem dX2_isWord_48 : decode cX2_isWord 48 = .ok (.iadd, 1) := by decide +kernel
theorem dX2_isWord_49 : decode cX2_isWord 49 = .ok (.invokevirtual 105, 3) := by decide +kernel
theorem dX2_isWord_52 : decode cX2_isWord 52 = .ok (.if_icmp .eq 5, 3) := by decide +kernel
theorem dX2_isWord_55 : decode cX2_isWord 55 = .ok (.iconst 0, 1) := by decide +kernel
theorem dX2_isWord_56 : decode cX2_isWord 56 = .ok (.ireturn, 1) := by decide +kernel
theorem dX2_isWord_57 : decode cX2_isWord 57 = .ok (.iinc 2 1, 3) := by decide +kernel
theorem dX2_isWord_60 : decode cX2_isWord 60 = .ok (.goto (-58), 3) := by decide +kernel
theorem dX2_isWord_63 : decode cX2_isWord 63 = .ok (.iconst 1, 1) := by decide +kernel
theorem dX2_isWord_64 : decode cX2_isWord 64 = .ok (.ireturn, 1) := by decide +kernel
theorem dX2_isDigit_0 : decode cX2_isDigit 0 = .ok (.iload_n 0, 1) := by decide +kernel
theorem dX2_isDigit_1 : decode cX2_isDigit 1 = .ok (.bipush 48, 2) := by decide +kernel
theorem dX2_isDigit_3 : decode cX2_isDigit 3 = .ok (.bipush 57, 2) := by decide +kernel
theorem dX2_isDigit_5 : decode cX2_isDigit 5 = .ok (.invokestatic 111, 3) := by decide +kernel
theorem dX2_isDigit_8 : decode cX2_isDigit 8 = .ok (.ireturn, 1) := by decide +kernel
theorem dX2_isLetter_0 : decode cX2_isLetter 0 = .ok (.iload_n 0, 1) := by decide +kernel
theorem dX2_isLetter_1 : decode cX2_isLetter 1 = .ok (.bipush 97, 2) := by decide +kernel
theorem dX2_isLetter_3 : decode cX2_isLetter 3 = .ok (.bipush 122, 2) := by decide +kernel
theorem dX2_isLetter_5 : decode cX2_isLetter 5 = .ok (.invokestatic 111, 3) := by decide +kernel
theorem dX2_isLetter_8 : decode cX2_isLetter 8 = .ok (.ireturn, 1) := by decide +kernel
theorem dX3_init_0 : decode cX3_init 0 = .ok (.aload_n 0, 1) := by decide +kernel
theorem dX3_init_1 : decode cX3_init 1 = .ok (.invokespecial 3, 3) := by decide +kernel
theorem dX3_init_4 : decode cX3_init 4 = .ok (.aload_n 0, 1) := by decide +kernel
theorem dX3_init_5 : decode cX3_init 5 = .ok (.sipush 200, 3) := by decide +kernel
theorem dX3_init_8 : decode cX3_init 8 = .ok (.newarray .int, 2) := by decide +kernel
theorem dX3_init_10 : decode cX3_init 10 = .ok (.putfield 9, 3) := by decide +kernel
theorem dX3_init_13 : decode cX3_init 13 = .ok (.return_, 1) := by decide +kernel
theorem dX3_append_0 : decode cX3_append 0 = .ok (.iconst 0, 1) := by decide +kernel
theorem dX3_append_1 : decode cX3_append 1 = .ok (.istore_n 3, 1) := by decide +kernel
theorem dX3_append_2 : decode cX3_append 2 = .ok (.iload_n 3, 1) := by decide +kernel
theorem dX3_append_3 : decode cX3_append 3 = .ok (.iload_n 1, 1) := by decide +kernel
theorem dX3_append_4 : decode cX3_append 4 = .ok (.if_icmp .ge 48, 3) := by decide +kernel
theorem dX3_append_7 : decode cX3_append 7 = .ok (.aload_n 0, 1) := by decide +kernel
theorem dX3_append_8 : decode cX3_append 8 = .ok (.getfield 15, 3) := by decide +kernel
theorem dX3_append_11 : decode cX3_append 11 = .ok (.sipush 200, 3) := by decide +kernel
theorem dX3_append_14 : decode cX3_append 14 = .ok (.if_icmp .ge 38, 3) := by decide +kernel
theorem dX3_append_17 : decode cX3_append 17 = .ok (.aload_n 0, 1) := by decide +kernel
theorem dX3_append_18 : decode cX3_append 18 = .ok (.getfield 9, 3) := by decide +kernel
theorem dX3_append_21 : decode cX3_append 21 = .ok (.aload_n 0, 1) := by decide +kernel
theorem dX3_append_22 : decode cX3_append 22 = .ok (.getfield 15, 3) := by decide +kernel
theorem dX3_append_25 : decode cX3_append 25 = .ok (.iload_n 2, 1) := by decide +kernel
theorem dX3_append_26 : decode cX3_append 26 = .ok (.bipush 8, 2) := by decide +kernel
theorem dX3_append_28 : decode cX3_append 28 = .ok (.iload_n 3, 1) := by decide +kernel
theorem dX3_append_29 : decode cX3_append 29 = .ok (.imul, 1) := by decide +kernel
theorem dX3_append_30 : decode cX3_append 30 = .ok (.iushr, 1) := by decide +kernel
theorem dX3_append_31 : decode cX3_append 31 = .ok (.sipush 255, 3) := by decide +kernel
theorem dX3_append_34 : decode cX3_append 34 = .ok (.iand, 1) := by decide +kernel
theorem dX3_append_35 : decode cX3_append 35 = .ok (.iastore, 1) := by decide +kernel
theorem dX3_append_36 : decode cX3_append 36 = .ok (.aload_n 0, 1) := by decide +kernel
theorem dX3_append_37 : decode cX3_append 37 = .ok (.dup, 1) := by decide +kernel
theorem dX3_append_38 : decode cX3_append 38 = .ok (.getfield 15, 3) := by decide +kernel
theorem dX3_append_41 : decode cX3_append 41 = .ok (.iconst 1, 1) := by decide +kernel
theorem dX3_append_42 : decode cX3_append 42 = .ok (.iadd, 1) := by decide +kernel
theorem dX3_append_43 : decode cX3_append 43 = .ok (.putfield 15, 3) := by decide +kernel
theorem dX3_append_46 : decode cX3_append 46 = .ok (.iinc 3 1, 3) := by decide +kernel
theorem dX3_append_49 : decode cX3_append 49 = .ok (.goto (-47), 3) := by decide +kernel
theorem dX3_append_52 : decode cX3_append 52 = .ok (.return_, 1) := by decide +kernel
theorem dX3_at_0 : decode cX3_at 0 = .ok (.iload_n 1, 1) := by decide +kernel
theorem dX3_at_1 : decode cX3_at 1 = .ok (.iconst 0, 1) := by decide +kernel
theorem dX3_at_2 : decode cX3_at 2 = .ok (.aload_n 0, 1) := by decide +kernel
theorem dX3_at_3 : decode cX3_at 3 = .ok (.getfield 15, 3) := by decide +kernel
theorem dX3_at_6 : decode cX3_at 6 = .ok (.iconst 1, 1) := by decide +kernel
theorem dX3_at_7 : decode cX3_at 7 = .ok (.isub, 1) := by decide +kernel
theorem dX3_at_8 : decode cX3_at 8 = .ok (.invokestatic 19, 3) := by decide +kernel
theorem dX3_at_11 : decode cX3_at 11 = .ok (.ifCond .eq 12, 3) := by decide +kernel
theorem dX3_at_14 : decode cX3_at 14 = .ok (.aload_n 0, 1) := by decide +kernel
theorem dX3_at_15 : decode cX3_at 15 = .ok (.getfield 9, 3) := by decide +kernel
theorem dX3_at_18 : decode cX3_at 18 = .ok (.iload_n 1, 1) := by decide +kernel
theorem dX3_at_19 : decode cX3_at 19 = .ok (.iaload, 1) := by decide +kernel
theorem dX3_at_20 : decode cX3_at 20 = .ok (.goto 5, 3) := by decide +kernel
theorem dX3_at_23 : decode cX3_at 23 = .ok (.bipush 32, 2) := by decide +kernel
theorem dX3_at_25 : decode cX3_at 25 = .ok (.ireturn, 1) := by decide +kernel
theorem dX4_init_0 : decode cX4_init 0 = .ok (.aload_n 0, 1) := by decide +kernel
theorem dX4_init_1 : decode cX4_init 1 = .ok (.invokespecial 3, 3) := by decide +kernel
theorem dX4_init_4 : decode cX4_init 4 = .ok (.aload_n 0, 1) := by decide +kernel
theorem dX4_init_5 : decode cX4_init 5 = .ok (.bipush 13, 2) := by decide +kernel
theorem dX4_init_7 : decode cX4_init 7 = .ok (.newarray .int, 2) := by decide +kernel
theorem dX4_init_9 : decode cX4_init 9 = .ok (.putfield 11, 3) := by decide +kernel
theorem dX4_init_12 : decode cX4_init 12 = .ok (.aload_n 0, 1) := by decide +kernel
theorem dX4_init_13 : decode cX4_init 13 = .ok (.sipush 200, 3) := by decide +kernel
theorem dX4_init_16 : decode cX4_init 16 = .ok (.newarray .int, 2) := by decide +kernel
theorem dX4_init_18 : decode cX4_init 18 = .ok (.putfield 15, 3) := by decide +kernel
theorem dX4_init_21 : decode cX4_init 21 = .ok (.return_, 1) := by decide +kernel
theorem dX4_lookAtGalley_0 : decode cX4_lookAtGalley 0 = .ok (.aload_n 0, 1) := by decide +kernel
theorem dX4_lookAtGalley_1 : decode cX4_lookAtGalley 1 = .ok (.getfield 11, 3) := by decide +kernel
theorem dX4_lookAtGalley_4 : decode cX4_lookAtGalley 4 = .ok (.iconst 0, 1) := by decide +kernel
theorem dX4_lookAtGalley_5 : decode cX4_lookAtGalley 5 = .ok (.invokestatic 18, 3) := by decide +kernel
theorem dX4_lookAtGalley_8 : decode cX4_lookAtGalley 8 = .ok (.aload_n 0, 1) := by decide +kernel
theorem dX4_lookAtGalley_9 : decode cX4_lookAtGalley 9 = .ok (.getfield 11, 3) := by decide +kernel
theorem dX4_lookAtGalley_12 : decode cX4_lookAtGalley 12 = .ok (.iconst 0, 1) := by decide +kernel
theorem dX4_lookAtGalley_13 : decode cX4_lookAtGalley 13 = .ok (.aload_n 1, 1) := by decide +kernel
theorem dX4_lookAtGalley_14 : decode cX4_lookAtGalley 14 = .ok (.getfield 24, 3) := by decide +kernel
theorem dX4_lookAtGalley_17 : decode cX4_lookAtGalley 17 = .ok (.iastore, 1) := by decide +kernel
theorem dX4_lookAtGalley_18 : decode cX4_lookAtGalley 18 = .ok (.aload_n 0, 1) := by decide +kernel
theorem dX4_lookAtGalley_19 : decode cX4_lookAtGalley 19 = .ok (.getfield 11, 3) := by decide +kernel
theorem dX4_lookAtGalley_22 : decode cX4_lookAtGalley 22 = .ok (.iconst 1, 1) := by decide +kernel
theorem dX4_lookAtGalley_23 : decode cX4_lookAtGalley 23 = .ok (.iload_n 2, 1) := by decide +kernel
theorem dX4_lookAtGalley_24 : decode cX4_lookAtGalley 24 = .ok (.iastore, 1) := by decide +kernel
theorem dX4_lookAtGalley_25 : decode cX4_lookAtGalley 25 = .ok (.aload_n 0, 1) := by decide +kernel
theorem dX4_lookAtGalley_26 : decode cX4_lookAtGalley 26 = .ok (.getfield 11, 3) := by decide +kernel
theorem dX4_lookAtGalley_29 : decode cX4_lookAtGalley 29 = .ok (.iconst 2, 1) := by decide +kernel
theorem dX4_lookAtGalley_30 : decode cX4_lookAtGalley 30 = .ok (.aload_n 1, 1) := by decide +kernel
theorem dX4_lookAtGalley_31 : decode cX4_lookAtGalley 31 = .ok (.getfield 30, 3) := by decide +kernel
theorem dX4_lookAtGalley_34 : decode cX4_lookAtGalley 34 = .ok (.iastore, 1) := by decide +kernel
theorem dX4_lookAtGalley_35 : decode cX4_lookAtGalley 35 = .ok (.aload_n 0, 1) := by decide +kernel
theorem dX4_lookAtGalley_36 : decode cX4_lookAtGalley 36 = .ok (.getfield 11, 3) := by decide +kernel
theorem dX4_lookAtGalley_39 : decode cX4_lookAtGalley 39 = .ok (.iconst 3, 1) := by decide +kernel
theorem dX4_lookAtGalley_40 : decode cX4_lookAtGalley 40 = .ok (.iload_n 3, 1) := by decide +kernel
theorem dX4_lookAtGalley_41 : decode cX4_lookAtGalley 41 = .ok (.iastore, 1) := by decide +kernel
theorem dX4_lookAtGalley_42 : decode cX4_lookAtGalley 42 = .ok (.aload_n 0, 1) := by decide +kernel
theorem dX4_lookAtGalley_43 : decode cX4_lookAtGalley 43 = .ok (.getfield 11, 3) := by decide +kernel
theorem dX4_lookAtGalley_46 : decode cX4_lookAtGalley 46 = .ok (.iconst 5, 1) := by decide +kernel
theorem dX4_lookAtGalley_47 : decode cX4_lookAtGalley 47 = .ok (.iload_n 2, 1) := by decide +kernel
theorem dX4_lookAtGalley_48 : decode cX4_lookAtGalley 48 = .ok (.aload_n 1, 1) := by decide +kernel
theorem dX4_lookAtGalley_49 : decode cX4_lookAtGalley 49 = .ok (.getfield 33, 3) := by decide +kernel
theorem dX4_lookAtGalley_52 : decode cX4_lookAtGalley 52 = .ok (.isub, 1) := by decide +kernel
theorem dX4_lookAtGalley_53 : decode cX4_lookAtGalley 53 = .ok (.iastore, 1) := by decide +kernel
theorem dX4_lookAtGalley_54 : decode cX4_lookAtGalley 54 = .ok (.aload_n 0, 1) := by decide +kernel
theorem dX4_lookAtGalley_55 : decode cX4_lookAtGalley 55 = .ok (.getfield 11, 3) := by decide +kernel
theorem dX4_lookAtGalley_58 : decode cX4_lookAtGalley 58 = .ok (.bipush 6, 2) := by decide +kernel
theorem dX4_lookAtGalley_60 : decode cX4_lookAtGalley 60 = .ok (.aload_n 1, 1) := by decide +kernel
theorem dX4_lookAtGalley_61 : decode cX4_lookAtGalley 61 = .ok (.getfield 36, 3) := by decide +kernel
theorem dX4_lookAtGalley_64 : decode cX4_lookAtGalley 64 = .ok (.iastore, 1) := by decide +kernel
theorem dX4_lookAtGalley_65 : decode cX4_lookAtGalley 65 = .ok (.return_, 1) := by decide +kernel
theorem dX4_lookAtBale_0 : decode cX4_lookAtBale 0 = .ok (.aload_n 0, 1) := by decide +kernel
theorem dX4_lookAtBale_1 : decode cX4_lookAtBale 1 = .ok (.getfield 11, 3) := by decide +kernel
theorem dX4_lookAtBale_4 : decode cX4_lookAtBale 4 = .ok (.bipush 7, 2) := by decide +kernel
theorem dX4_lookAtBale_6 : decode cX4_lookAtBale 6 = .ok (.aload_n 1, 1) := by decide +kernel
theorem dX4_lookAtBale_7 : decode cX4_lookAtBale 7 = .ok (.getfield 39, 3) := by decide +kernel
theorem dX4_lookAtBale_10 : decode cX4_lookAtBale 10 = .ok (.iastore, 1) := by decide +kernel
theorem dX4_lookAtBale_11 : decode cX4_lookAtBale 11 = .ok (.aload_n 0, 1) := by decide +kernel
theorem dX4_lookAtBale_12 : decode cX4_lookAtBale 12 = .ok (.getfield 11, 3) := by decide +kernel
theorem dX4_lookAtBale_15 : decode cX4_lookAtBale 15 = .ok (.bipush 8, 2) := by decide +kernel
theorem dX4_lookAtBale_17 : decode cX4_lookAtBale 17 = .ok (.aload_n 1, 1) := by decide +kernel
theorem dX4_lookAtBale_18 : decode cX4_lookAtBale 18 = .ok (.getfield 44, 3) := by decide +kernel
theorem dX4_lookAtBale_21 : decode cX4_lookAtBale 21 = .ok (.iastore, 1) := by decide +kernel
theorem dX4_lookAtBale_22 : decode cX4_lookAtBale 22 = .ok (.aload_n 0, 1) := by decide +kernel
theorem dX4_lookAtBale_23 : decode cX4_lookAtBale 23 = .ok (.getfield 11, 3) := by decide +kernel
theorem dX4_lookAtBale_26 : decode cX4_lookAtBale 26 = .ok (.bipush 9, 2) := by decide +kernel
theorem dX4_lookAtBale_28 : decode cX4_lookAtBale 28 = .ok (.aload_n 1, 1) := by decide +kernel
theorem dX4_lookAtBale_29 : decode cX4_lookAtBale 29 = .ok (.getfield 47, 3) := by decide +kernel
theorem dX4_lookAtBale_32 : decode cX4_lookAtBale 32 = .ok (.iastore, 1) := by decide +kernel
theorem dX4_lookAtBale_33 : decode cX4_lookAtBale 33 = .ok (.aload_n 0, 1) := by decide +kernel
theorem dX4_lookAtBale_34 : decode cX4_lookAtBale 34 = .ok (.getfield 11, 3) := by decide +kernel
theorem dX4_lookAtBale_37 : decode cX4_lookAtBale 37 = .ok (.bipush 10, 2) := by decide +kernel
theorem dX4_lookAtBale_39 : decode cX4_lookAtBale 39 = .ok (.aload_n 1, 1) := by decide +kernel
theorem dX4_lookAtBale_40 : decode cX4_lookAtBale 40 = .ok (.getfield 50, 3) := by decide +kernel
theorem dX4_lookAtBale_43 : decode cX4_lookAtBale 43 = .ok (.iastore, 1) := by decide +kernel
theorem dX4_lookAtBale_44 : decode cX4_lookAtBale 44 = .ok (.aload_n 0, 1) := by decide +kernel
theorem dX4_lookAtBale_45 : decode cX4_lookAtBale 45 = .ok (.getfield 11, 3) := by decide +kernel
theorem dX4_lookAtBale_48 : decode cX4_lookAtBale 48 = .ok (.bipush 11, 2) := by decide +kernel
theorem dX4_lookAtBale_50 : decode cX4_lookAtBale 50 = .ok (.aload_n 1, 1) := by decide +kernel
theorem dX4_lookAtBale_51 : decode cX4_lookAtBale 51 = .ok (.getfield 53, 3) := by decide +kernel
theorem dX4_lookAtBale_54 : decode cX4_lookAtBale 54 = .ok (.iastore, 1) := by decide +kernel
theorem dX4_lookAtBale_55 : decode cX4_lookAtBale 55 = .ok (.aload_n 0, 1) := by decide +kernel
theorem dX4_lookAtBale_56 : decode cX4_lookAtBale 56 = .ok (.getfield 11, 3) := by decide +kernel
theorem dX4_lookAtBale_59 : decode cX4_lookAtBale 59 = .ok (.bipush 12, 2) := by decide +kernel
theorem dX4_lookAtBale_61 : decode cX4_lookAtBale 61 = .ok (.iload_n 2, 1) := by decide +kernel
theorem dX4_lookAtBale_62 : decode cX4_lookAtBale 62 = .ok (.aload_n 1, 1) := by decide +kernel
theorem dX4_lookAtBale_63 : decode cX4_lookAtBale 63 = .ok (.getfield 56, 3) := by decide +kernel
theorem dX4_lookAtBale_66 : decode cX4_lookAtBale 66 = .ok (.isub, 1) := by decide +kernel
theorem dX4_lookAtBale_67 : decode cX4_lookAtBale 67 = .ok (.iastore, 1) := by decide +kernel
theorem dX4_lookAtBale_68 : decode cX4_lookAtBale 68 = .ok (.return_, 1) := by decide +kernel
theorem dX4_lookAtOther_0 : decode cX4_lookAtOther 0 = .ok (.aload_n 0, 1) := by decide +kernel
theorem dX4_lookAtOther_1 : decode cX4_lookAtOther 1 = .ok (.getfield 11, 3) := by decide +kernel
theorem dX4_lookAtOther_4 : decode cX4_lookAtOther 4 = .ok (.iconst 2, 1) := by decide +kernel
theorem dX4_lookAtOther_5 : decode cX4_lookAtOther 5 = .ok (.aload_n 1, 1) := by decide +kernel
theorem dX4_lookAtOther_6 : decode cX4_lookAtOther 6 = .ok (.getfield 30, 3) := by decide +kernel
theorem dX4_lookAtOther_9 : decode cX4_lookAtOther 9 = .ok (.iastore, 1) := by decide +kernel
theorem dX4_lookAtOther_10 : decode cX4_lookAtOther 10 = .ok (.aload_n 0, 1) := by decide +kernel
theorem dX4_lookAtOther_11 : decode cX4_lookAtOther 11 = .ok (.getfield 11, 3) := by decide +kernel
theorem dX4_lookAtOther_14 : decode cX4_lookAtOther 14 = .ok (.iconst 4, 1) := by decide +kernel
theorem dX4_lookAtOther_15 : decode cX4_lookAtOther 15 = .ok (.aload_n 0, 1) := by decide +kernel
theorem dX4_lookAtOther_16 : decode cX4_lookAtOther 16 = .ok (.getfield 11, 3) := by decide +kernel
theorem dX4_lookAtOther_19 : decode cX4_lookAtOther 19 = .ok (.iconst 5, 1) := by decide +kernel
theorem dX4_lookAtOther_20 : decode cX4_lookAtOther 20 = .ok (.iaload, 1) := by decide +kernel
theorem dX4_lookAtOther_21 : decode cX4_lookAtOther 21 = .ok (.iastore, 1) := by decide +kernel
theorem dX4_lookAtOther_22 : decode cX4_lookAtOther 22 = .ok (.return_, 1) := by decide +kernel
theorem dX4_workOut_0 : decode cX4_workOut 0 = .ok (.iconst 0, 1) := by decide +kernel
theorem dX4_workOut_1 : decode cX4_workOut 1 = .ok (.istore_n 2, 1) := by decide +kernel
theorem dX4_workOut_2 : decode cX4_workOut 2 = .ok (.iconst 0, 1) := by decide +kernel
theorem dX4_workOut_3 : decode cX4_workOut 3 = .ok (.istore_n 3, 1) := by decide +kernel
theorem dX4_workOut_4 : decode cX4_workOut 4 = .ok (.iload_n 3, 1) := by decide +kernel
theorem dX4_workOut_5 : decode cX4_workOut 5 = .ok (.aload_n 1, 1) := by decide +kernel
theorem dX4_workOut_6 : decode cX4_workOut 6 = .ok (.arraylength, 1) := by decide +kernel
theorem dX4_workOut_7 : decode cX4_workOut 7 = .ok (.if_icmp .ge 142, 3) := by decide +kernel
theorem dX4_workOut_10 : decode cX4_workOut 10 = .ok (.aload_n 1, 1) := by decide +kernel
theorem dX4_workOut_11 : decode cX4_workOut 11 = .ok (.iload_n 3, 1) := by decide +kernel
theorem dX4_workOut_12 : decode cX4_workOut 12 = .ok (.iaload, 1) := by decide +kernel
theorem dX4_workOut_13 : decode cX4_workOut 13 = .ok (.istore 4, 2) := by decide +kernel
theorem dX4_workOut_15 : decode cX4_workOut 15 = .ok (.iload 4, 2) := by decide +kernel
theorem dX4_workOut_17 : decode cX4_workOut 17 = .ok (.bipush (-13), 2) := by decide +kernel
theorem dX4_workOut_19 : decode cX4_workOut 19 = .ok (.if_icmp .lt 43, 3) := by decide +kernel
theorem dX4_workOut_22 : decode cX4_workOut 22 = .ok (.iload_n 2, 1) := by decide +kernel
theorem dX4_workOut_23 : decode cX4_workOut 23 = .ok (.aload_n 0, 1) := by decide +kernel
theorem dX4_workOut_24 : decode cX4_workOut 24 = .ok (.getfield 15, 3) := by decide +kernel
theorem dX4_workOut_27 : decode cX4_workOut 27 = .ok (.arraylength, 1) := by decide +kernel
theorem dX4_workOut_28 : decode cX4_workOut 28 = .ok (.if_icmp .ge 115, 3) := by decide +kernel
theorem dX4_workOut_31 : decode cX4_workOut 31 = .ok (.aload_n 0, 1) := by decide +kernel
theorem dX4_workOut_32 : decode cX4_workOut 32 = .ok (.getfield 15, 3) := by decide +kernel
theorem dX4_workOut_35 : decode cX4_workOut 35 = .ok (.iload_n 2, 1) := by decide +kernel
theorem dX4_workOut_36 : decode cX4_workOut 36 = .ok (.iload 4, 2) := by decide +kernel
theorem dX4_workOut_38 : decode cX4_workOut 38 = .ok (.ifCond .lt 8, 3) := by decide +kernel
theorem dX4_workOut_41 : decode cX4_workOut 41 = .ok (.iload 4, 2) := by decide +kernel
theorem dX4_workOut_43 : decode cX4_workOut 43 = .ok (.goto 12, 3) := by decide +kernel
theorem dX4_workOut_46 : decode cX4_workOut 46 = .ok (.aload_n 0, 1) := by decide +kernel
theorem dX4_workOut_47 : decode cX4_workOut 47 = .ok (.getfield 11, 3) := by decide +kernel
theorem dX4_workOut_50 : decode cX4_workOut 50 = .ok (.iconst (-1), 1) := by decide +kernel
theorem dX4_workOut_51 : decode cX4_workOut 51 = .ok (.iload 4, 2) := by decide +kernel
theorem dX4_workOut_53 : decode cX4_workOut 53 = .ok (.isub, 1) := by decide +kernel
theorem dX4_workOut_54 : decode cX4_workOut 54 = .ok (.iaload, 1) := by decide +kernel
theorem dX4_workOut_55 : decode cX4_workOut 55 = .ok (.iastore, 1) := by decide +kernel
theorem dX4_workOut_56 : decode cX4_workOut 56 = .ok (.iinc 2 1, 3) := by decide +kernel
theorem dX4_workOut_59 : decode cX4_workOut 59 = .ok (.goto 84, 3) := by decide +kernel
theorem dX4_workOut_62 : decode cX4_workOut 62 = .ok (.iload 4, 2) := by decide +kernel
theorem dX4_workOut_64 : decode cX4_workOut 64 = .ok (.sipush (-263), 3) := by decide +kernel
theorem dX4_workOut_67 : decode cX4_workOut 67 = .ok (.if_icmp .eq 11, 3) := by decide +kernel
theorem dX4_workOut_70 : decode cX4_workOut 70 = .ok (.iload 4, 2) := by decide +kernel
theorem dX4_workOut_72 : decode cX4_workOut 72 = .ok (.sipush (-262), 3) := by decide +kernel
theorem dX4_workOut_75 : decode cX4_workOut 75 = .ok (.if_icmp .ne 32, 3) := by decide +kernel
theorem dX4_workOut_78 : decode cX4_workOut 78 = .ok (.iload_n 2, 1) := by decide +kernel
theorem dX4_workOut_79 : decode cX4_workOut 79 = .ok (.iconst 1, 1) := by decide +kernel
theorem dX4_workOut_80 : decode cX4_workOut 80 = .ok (.if_icmp .lt 63, 3) := by decide +kernel
theorem dX4_workOut_83 : decode cX4_workOut 83 = .ok (.aload_n 0, 1) := by decide +kernel
theorem dX4_workOut_84 : decode cX4_workOut 84 = .ok (.getfield 15, 3) := by decide +kernel
theorem dX4_workOut_87 : decode cX4_workOut 87 = .ok (.iload_n 2, 1) := by decide +kernel
theorem dX4_workOut_88 : decode cX4_workOut 88 = .ok (.iconst 1, 1) := by decide +kernel
theorem dX4_workOut_89 : decode cX4_workOut 89 = .ok (.isub, 1) := by decide +kernel
theorem dX4_workOut_90 : decode cX4_workOut 90 = .ok (.iload 4, 2) := by decide +kernel
theorem dX4_workOut_92 : decode cX4_workOut 92 = .ok (.aload_n 0, 1) := by decide +kernel
theorem dX4_workOut_93 : decode cX4_workOut 93 = .ok (.getfield 15, 3) := by decide +kernel
theorem dX4_workOut_96 : decode cX4_workOut 96 = .ok (.iload_n 2, 1) := by decide +kernel
theorem dX4_workOut_97 : decode cX4_workOut 97 = .ok (.iconst 1, 1) := by decide +kernel
theorem dX4_workOut_98 : decode cX4_workOut 98 = .ok (.isub, 1) := by decide +kernel
theorem dX4_workOut_99 : decode cX4_workOut 99 = .ok (.iaload, 1) := by decide +kernel
theorem dX4_workOut_100 : decode cX4_workOut 100 = .ok (.invokestatic 61, 3) := by decide +kernel
theorem dX4_workOut_103 : decode cX4_workOut 103 = .ok (.iastore, 1) := by decide +kernel
theorem dX4_workOut_104 : decode cX4_workOut 104 = .ok (.goto 39, 3) := by decide +kernel
theorem dX4_workOut_107 : decode cX4_workOut 107 = .ok (.iload_n 2, 1) := by decide +kernel
theorem dX4_workOut_108 : decode cX4_workOut 108 = .ok (.iconst 2, 1) := by decide +kernel
theorem dX4_workOut_109 : decode cX4_workOut 109 = .ok (.if_icmp .lt 34, 3) := by decide +kernel
theorem dX4_workOut_112 : decode cX4_workOut 112 = .ok (.iinc 2 (-1), 3) := by decide +kernel
theorem dX4_workOut_115 : decode cX4_workOut 115 = .ok (.aload_n 0, 1) := by decide +kernel
theorem dX4_workOut_116 : decode cX4_workOut 116 = .ok (.getfield 15, 3) := by decide +kernel
theorem dX4_workOut_119 : decode cX4_workOut 119 = .ok (.iload_n 2, 1) := by decide +kernel
theorem dX4_workOut_120 : decode cX4_workOut 120 = .ok (.iconst 1, 1) := by decide +kernel
theorem dX4_workOut_121 : decode cX4_workOut 121 = .ok (.isub, 1) := by decide +kernel
theorem dX4_workOut_122 : decode cX4_workOut 122 = .ok (.iload 4, 2) := by decide +kernel
theorem dX4_workOut_124 : decode cX4_workOut 124 = .ok (.ineg, 1) := by decide +kernel
theorem dX4_workOut_125 : decode cX4_workOut 125 = .ok (.aload_n 0, 1) := by decide +kernel
theorem dX4_workOut_126 : decode cX4_workOut 126 = .ok (.getfield 15, 3) := by decide +kernel
theorem dX4_workOut_129 : decode cX4_workOut 129 = .ok (.iload_n 2, 1) := by decide +kernel
theorem dX4_workOut_130 : decode cX4_workOut 130 = .ok (.iconst 1, 1) := by decide +kernel
theorem dX4_workOut_131 : decode cX4_workOut 131 = .ok (.isub, 1) := by decide +kernel
theorem dX4_workOut_132 : decode cX4_workOut 132 = .ok (.iaload, 1) := by decide +kernel
theorem dX4_workOut_133 : decode cX4_workOut 133 = .ok (.aload_n 0, 1) := by decide +kernel
theorem dX4_workOut_134 : decode cX4_workOut 134 = .ok (.getfield 15, 3) := by decide +kernel
theorem dX4_workOut_137 : decode cX4_workOut 137 = .ok (.iload_n 2, 1) := by decide +kernel
theorem dX4_workOut_138 : decode cX4_workOut 138 = .ok (.iaload, 1) := by decide +kernel
theorem dX4_workOut_139 : decode cX4_workOut 139 = .ok (.invokestatic 65, 3) := by decide +kernel
theorem dX4_workOut_142 : decode cX4_workOut 142 = .ok (.iastore, 1) := by decide +kernel
theorem dX4_workOut_143 : decode cX4_workOut 143 = .ok (.iinc 3 1, 3) := by decide +kernel
theorem dX4_workOut_146 : decode cX4_workOut 146 = .ok (.goto (-142), 3) := by decide +kernel
theorem dX4_workOut_149 : decode cX4_workOut 149 = .ok (.aload_n 0, 1) := by decide +kernel
theorem dX4_workOut_150 : decode cX4_workOut 150 = .ok (.getfield 15, 3) := by decide +kernel
theorem dX4_workOut_153 : decode cX4_workOut 153 = .ok (.iconst 0, 1) := by decide +kernel
theorem dX4_workOut_154 : decode cX4_workOut 154 = .ok (.iaload, 1) := by decide +kernel
theorem dX4_workOut_155 : decode cX4_workOut 155 = .ok (.ireturn, 1) := by decide +kernel
theorem dX4_turned_0 : decode cX4_turned 0 = .ok (.iload_n 0, 1) := by decide +kernel
theorem dX4_turned_1 : decode cX4_turned 1 = .ok (.sipush (-263), 3) := by decide +kernel
theorem dX4_turned_4 : decode cX4_turned 4 = .ok (.if_icmp .ne 6, 3) := by decide +kernel
theorem dX4_turned_7 : decode cX4_turned 7 = .ok (.iload_n 1, 1) := by decide +kernel
theorem dX4_turned_8 : decode cX4_turned 8 = .ok (.ineg, 1) := by decide +kernel
theorem dX4_turned_9 : decode cX4_turned 9 = .ok (.ireturn, 1) := by decide +kernel
theorem dX4_turned_10 : decode cX4_turned 10 = .ok (.iload_n 1, 1) := by decide +kernel
theorem dX4_turned_11 : decode cX4_turned 11 = .ok (.ifCond .ne 7, 3) := by decide +kernel
theorem dX4_turned_14 : decode cX4_turned 14 = .ok (.iconst 1, 1) := by decide +kernel
theorem dX4_turned_15 : decode cX4_turned 15 = .ok (.goto 4, 3) := by decide +kernel
theorem dX4_turned_18 : decode cX4_turned 18 = .ok (.iconst 0, 1) := by decide +kernel
theorem dX4_turned_19 : decode cX4_turned 19 = .ok (.ireturn, 1) := by decide +kernel
theorem dX4_joined_0 : decode cX4_joined 0 = .ok (.iload_n 0, 1) := by decide +kernel
theorem dX4_joined_1 : decode cX4_joined 1 = .ok (.lookupswitch 148 #[(42, 83), (43, 75), (45, 79), (60, 87), (61, 98), (62, 109), (260, 120), (261, 134)], 75) := by decide +kernel
theorem dX4_joined_76 : decode cX4_joined 76 = .ok (.iload_n 1, 1) := by decide +kernel
theorem dX4_joined_77 : decode cX4_joined 77 = .ok (.iload_n 2, 1) := by decide +kernel
theorem dX4_joined_78 : decode cX4_joined 78 = .ok (.iadd, 1) := by decide +kernel
theorem dX4_joined_79 : decode cX4_joined 79 = .ok (.ireturn, 1) := by decide +kernel
theorem dX4_joined_80 : decode cX4_joined 80 = .ok (.iload_n 1, 1) := by decide +kernel
theorem dX4_joined_81 : decode cX4_joined 81 = .ok (.iload_n 2, 1) := by decide +kernel
theorem dX4_joined_82 : decode cX4_joined 82 = .ok (.isub, 1) := by decide +kernel
theorem dX4_joined_83 : decode cX4_joined 83 = .ok (.ireturn, 1) := by decide +kernel
theorem dX4_joined_84 : decode cX4_joined 84 = .ok (.iload_n 1, 1) := by decide +kernel
theorem dX4_joined_85 : decode cX4_joined 85 = .ok (.iload_n 2, 1) := by decide +kernel
theorem dX4_joined_86 : decode cX4_joined 86 = .ok (.imul, 1) := by decide +kernel
theorem dX4_joined_87 : decode cX4_joined 87 = .ok (.ireturn, 1) := by decide +kernel
theorem dX4_joined_88 : decode cX4_joined 88 = .ok (.iload_n 1, 1) := by decide +kernel
theorem dX4_joined_89 : decode cX4_joined 89 = .ok (.iload_n 2, 1) := by decide +kernel
theorem dX4_joined_90 : decode cX4_joined 90 = .ok (.if_icmp .ge 7, 3) := by decide +kernel
theorem dX4_joined_93 : decode cX4_joined 93 = .ok (.iconst 1, 1) := by decide +kernel
theorem dX4_joined_94 : decode cX4_joined 94 = .ok (.goto 4, 3) := by decide +kernel
theorem dX4_joined_97 : decode cX4_joined 97 = .ok (.iconst 0, 1) := by decide +kernel
theorem dX4_joined_98 : decode cX4_joined 98 = .ok (.ireturn, 1) := by decide +kernel
theorem dX4_joined_99 : decode cX4_joined 99 = .ok (.iload_n 1, 1) := by decide +kernel
theorem dX4_joined_100 : decode cX4_joined 100 = .ok (.iload_n 2, 1) := by decide +kernel
theorem dX4_joined_101 : decode cX4_joined 101 = .ok (.if_icmp .ne 7, 3) := by decide +kernel
theorem dX4_joined_104 : decode cX4_joined 104 = .ok (.iconst 1, 1) := by decide +kernel
theorem dX4_joined_105 : decode cX4_joined 105 = .ok (.goto 4, 3) := by decide +kernel
theorem dX4_joined_108 : decode cX4_joined 108 = .ok (.iconst 0, 1) := by decide +kernel
theorem dX4_joined_109 : decode cX4_joined 109 = .ok (.ireturn, 1) := by decide +kernel
theorem dX4_joined_110 : decode cX4_joined 110 = .ok (.iload_n 1, 1) := by decide +kernel
theorem dX4_joined_111 : decode cX4_joined 111 = .ok (.iload_n 2, 1) := by decide +kernel
theorem dX4_joined_112 : decode cX4_joined 112 = .ok (.if_icmp .le 7, 3) := by decide +kernel
theorem dX4_joined_115 : decode cX4_joined 115 = .ok (.iconst 1, 1) := by decide +kernel
theorem dX4_joined_116 : decode cX4_joined 116 = .ok (.goto 4, 3) := by decide +kernel
theorem dX4_joined_119 : decode cX4_joined 119 = .ok (.iconst 0, 1) := by decide +kernel
theorem dX4_joined_120 : decode cX4_joined 120 = .ok (.ireturn, 1) := by decide +kernel
theorem dX4_joined_121 : decode cX4_joined 121 = .ok (.iload_n 1, 1) := by decide +kernel
theorem dX4_joined_122 : decode cX4_joined 122 = .ok (.ifCond .eq 11, 3) := by decide +kernel
theorem dX4_joined_125 : decode cX4_joined 125 = .ok (.iload_n 2, 1) := by decide +kernel
theorem dX4_joined_126 : decode cX4_joined 126 = .ok (.ifCond .eq 7, 3) := by decide +kernel
theorem dX4_joined_129 : decode cX4_joined 129 = .ok (.iconst 1, 1) := by decide +kernel
theorem dX4_joined_130 : decode cX4_joined 130 = .ok (.goto 4, 3) := by decide +kernel
theorem dX4_joined_133 : decode cX4_joined 133 = .ok (.iconst 0, 1) := by decide +kernel
theorem dX4_joined_134 : decode cX4_joined 134 = .ok (.ireturn, 1) := by decide +kernel
theorem dX4_joined_135 : decode cX4_joined 135 = .ok (.iload_n 1, 1) := by decide +kernel
theorem dX4_joined_136 : decode cX4_joined 136 = .ok (.ifCond .ne 7, 3) := by decide +kernel
theorem dX4_joined_139 : decode cX4_joined 139 = .ok (.iload_n 2, 1) := by decide +kernel
theorem dX4_joined_140 : decode cX4_joined 140 = .ok (.ifCond .eq 7, 3) := by decide +kernel
theorem dX4_joined_143 : decode cX4_joined 143 = .ok (.iconst 1, 1) := by decide +kernel
theorem dX4_joined_144 : decode cX4_joined 144 = .ok (.goto 4, 3) := by decide +kernel
theorem dX4_joined_147 : decode cX4_joined 147 = .ok (.iconst 0, 1) := by decide +kernel
theorem dX4_joined_148 : decode cX4_joined 148 = .ok (.ireturn, 1) := by decide +kernel
theorem dX4_joined_149 : decode cX4_joined 149 = .ok (.iconst 0, 1) := by decide +kernel
theorem dX4_joined_150 : decode cX4_joined 150 = .ok (.ireturn, 1) := by decide +kernel
theorem dX5_init_0 : decode cX5_init 0 = .ok (.aload_n 0, 1) := by decide +kernel
theorem dX5_init_1 : decode cX5_init 1 = .ok (.invokespecial 1, 3) := by decide +kernel
theorem dX5_init_4 : decode cX5_init 4 = .ok (.aload_n 0, 1) := by decide +kernel
theorem dX5_init_5 : decode cX5_init 5 = .ok (.iload_n 1, 1) := by decide +kernel
theorem dX5_init_6 : decode cX5_init 6 = .ok (.putfield 7, 3) := by decide +kernel
theorem dX5_init_9 : decode cX5_init 9 = .ok (.aload_n 0, 1) := by decide +kernel
theorem dX5_init_10 : decode cX5_init 10 = .ok (.iload_n 2, 1) := by decide +kernel
theorem dX5_init_11 : decode cX5_init 11 = .ok (.putfield 13, 3) := by decide +kernel
theorem dX5_init_14 : decode cX5_init 14 = .ok (.aload_n 0, 1) := by decide +kernel
theorem dX5_init_15 : decode cX5_init 15 = .ok (.aload_n 3, 1) := by decide +kernel
theorem dX5_init_16 : decode cX5_init 16 = .ok (.putfield 16, 3) := by decide +kernel
theorem dX5_init_19 : decode cX5_init 19 = .ok (.return_, 1) := by decide +kernel
theorem dJ9_max_7cf53_0 : decode cJ9_max_7cf53 0 = .ok (.iload_n 0, 1) := by decide +kernel
theorem dJ9_max_7cf53_1 : decode cJ9_max_7cf53 1 = .ok (.iload_n 1, 1) := by decide +kernel
theorem dJ9_max_7cf53_2 : decode cJ9_max_7cf53 2 = .ok (.if_icmp .lt 7, 3) := by decide +kernel
theorem dJ9_max_7cf53_5 : decode cJ9_max_7cf53 5 = .ok (.iload_n 0, 1) := by decide +kernel
theorem dJ9_max_7cf53_6 : decode cJ9_max_7cf53 6 = .ok (.goto 4, 3) := by decide +kernel
theorem dJ9_max_7cf53_9 : decode cJ9_max_7cf53 9 = .ok (.iload_n 1, 1) := by decide +kernel
theorem dJ9_max_7cf53_10 : decode cJ9_max_7cf53 10 = .ok (.ireturn, 1) := by decide +kernel
theorem dJ9_min_7cf53_0 : decode cJ9_min_7cf53 0 = .ok (.iload_n 0, 1) := by decide +kernel
theorem dJ9_min_7cf53_1 : decode cJ9_min_7cf53 1 = .ok (.iload_n 1, 1) := by decide +kernel
theorem dJ9_min_7cf53_2 : decode cJ9_min_7cf53 2 = .ok (.if_icmp .gt 7, 3) := by decide +kernel
theorem dJ9_min_7cf53_5 : decode cJ9_min_7cf53 5 = .ok (.iload_n 0, 1) := by decide +kernel
theorem dJ9_min_7cf53_6 : decode cJ9_min_7cf53 6 = .ok (.goto 4, 3) := by decide +kernel
theorem dJ9_min_7cf53_9 : decode cJ9_min_7cf53 9 = .ok (.iload_n 1, 1) := by decide +kernel
theorem dJ9_min_7cf53_10 : decode cJ9_min_7cf53 10 = .ok (.ireturn, 1) := by decide +kernel
theorem dJ0_charAt_5068e_0 : decode cJ0_charAt_5068e 0 = .ok (.aload_n 0, 1) := by decide +kernel
theorem dJ0_charAt_5068e_1 : decode cJ0_charAt_5068e 1 = .ok (.invokevirtual 492, 3) := by decide +kernel
theorem dJ0_charAt_5068e_4 : decode cJ0_charAt_5068e 4 = .ok (.ifCond .eq 12, 3) := by decide +kernel
theorem dJ0_charAt_5068e_7 : decode cJ0_charAt_5068e 7 = .ok (.aload_n 0, 1) := by decide +kernel
theorem dJ0_charAt_5068e_8 : decode cJ0_charAt_5068e 8 = .ok (.getfield 9, 3) := by decide +kernel
theorem dJ0_charAt_5068e_11 : decode cJ0_charAt_5068e 11 = .ok (.iload_n 1, 1) := by decide +kernel
theorem dJ0_charAt_5068e_12 : decode cJ0_charAt_5068e 12 = .ok (.invokestatic 495, 3) := by decide +kernel
theorem dJ0_charAt_5068e_15 : decode cJ0_charAt_5068e 15 = .ok (.ireturn, 1) := by decide +kernel
theorem dJ0_charAt_5068e_16 : decode cJ0_charAt_5068e 16 = .ok (.aload_n 0, 1) := by decide +kernel
theorem dJ0_charAt_5068e_17 : decode cJ0_charAt_5068e 17 = .ok (.getfield 9, 3) := by decide +kernel
theorem dJ0_charAt_5068e_20 : decode cJ0_charAt_5068e 20 = .ok (.iload_n 1, 1) := by decide +kernel
theorem dJ0_charAt_5068e_21 : decode cJ0_charAt_5068e 21 = .ok (.invokestatic 498, 3) := by decide +kernel
theorem dJ0_charAt_5068e_24 : decode cJ0_charAt_5068e 24 = .ok (.ireturn, 1) := by decide +kernel
theorem dJ0_isLatin1_aae02_0 : decode cJ0_isLatin1_aae02 0 = .ok (.getstatic 38, 3) := by decide +kernel
theorem dJ0_isLatin1_aae02_3 : decode cJ0_isLatin1_aae02 3 = .ok (.ifCond .eq 14, 3) := by decide +kernel
theorem dJ0_isLatin1_aae02_6 : decode cJ0_isLatin1_aae02 6 = .ok (.aload_n 0, 1) := by decide +kernel
theorem dJ0_isLatin1_aae02_7 : decode cJ0_isLatin1_aae02 7 = .ok (.getfield 15, 3) := by decide +kernel
theorem dJ0_isLatin1_aae02_10 : decode cJ0_isLatin1_aae02 10 = .ok (.ifCond .ne 7, 3) := by decide +kernel
theorem dJ0_isLatin1_aae02_13 : decode cJ0_isLatin1_aae02 13 = .ok (.iconst 1, 1) := by decide +kernel
theorem dJ0_isLatin1_aae02_14 : decode cJ0_isLatin1_aae02 14 = .ok (.goto 4, 3) := by decide +kernel
theorem dJ0_isLatin1_aae02_17 : decode cJ0_isLatin1_aae02 17 = .ok (.iconst 0, 1) := by decide +kernel
theorem dJ0_isLatin1_aae02_18 : decode cJ0_isLatin1_aae02 18 = .ok (.ireturn, 1) := by decide +kernel
theorem dJ0_checkIndex_df160_0 : decode cJ0_checkIndex_df160 0 = .ok (.iload_n 0, 1) := by decide +kernel
theorem dJ0_checkIndex_df160_1 : decode cJ0_checkIndex_df160 1 = .ok (.iload_n 1, 1) := by decide +kernel
theorem dJ0_checkIndex_df160_2 : decode cJ0_checkIndex_df160 2 = .ok (.getstatic 1053, 3) := by decide +kernel
theorem dJ0_checkIndex_df160_5 : decode cJ0_checkIndex_df160 5 = .ok (.invokestatic 1059, 3) := by decide +kernel
theorem dJ0_checkIndex_df160_8 : decode cJ0_checkIndex_df160 8 = .ok (.pop, 1) := by decide +kernel
theorem dJ0_checkIndex_df160_9 : decode cJ0_checkIndex_df160 9 = .ok (.return_, 1) := by decide +kernel
theorem dJ1_charAt_3b067_0 : decode cJ1_charAt_3b067 0 = .ok (.iload_n 1, 1) := by decide +kernel
theorem dJ1_charAt_3b067_1 : decode cJ1_charAt_3b067 1 = .ok (.aload_n 0, 1) := by decide +kernel
theorem dJ1_charAt_3b067_2 : decode cJ1_charAt_3b067 2 = .ok (.arraylength, 1) := by decide +kernel
theorem dJ1_charAt_3b067_3 : decode cJ1_charAt_3b067 3 = .ok (.invokestatic 9, 3) := by decide +kernel
theorem dJ1_charAt_3b067_6 : decode cJ1_charAt_3b067 6 = .ok (.aload_n 0, 1) := by decide +kernel
theorem dJ1_charAt_3b067_7 : decode cJ1_charAt_3b067 7 = .ok (.iload_n 1, 1) := by decide +kernel
theorem dJ1_charAt_3b067_8 : decode cJ1_charAt_3b067 8 = .ok (.baload, 1) := by decide +kernel
theorem dJ1_charAt_3b067_9 : decode cJ1_charAt_3b067 9 = .ok (.sipush 255, 3) := by decide +kernel
theorem dJ1_charAt_3b067_12 : decode cJ1_charAt_3b067 12 = .ok (.iand, 1) := by decide +kernel
theorem dJ1_charAt_3b067_13 : decode cJ1_charAt_3b067 13 = .ok (.i2c, 1) := by decide +kernel
theorem dJ1_charAt_3b067_14 : decode cJ1_charAt_3b067 14 = .ok (.ireturn, 1) := by decide +kernel
theorem dJ2_getChar_3b067_0 : decode cJ2_getChar_3b067 0 = .ok (.getstatic 44, 3) := by decide +kernel
theorem dJ2_getChar_3b067_3 : decode cJ2_getChar_3b067 3 = .ok (.ifCond .ne 25, 3) := by decide +kernel
theorem dJ2_getChar_3b067_6 : decode cJ2_getChar_3b067 6 = .ok (.iload_n 1, 1) := by decide +kernel
theorem dJ2_getChar_3b067_7 : decode cJ2_getChar_3b067 7 = .ok (.ifCond .lt 11, 3) := by decide +kernel
theorem dJ2_getChar_3b067_10 : decode cJ2_getChar_3b067 10 = .ok (.iload_n 1, 1) := by decide +kernel
theorem dJ2_getChar_3b067_11 : decode cJ2_getChar_3b067 11 = .ok (.aload_n 0, 1) := by decide +kernel
theorem dJ2_getChar_3b067_12 : decode cJ2_getChar_3b067 12 = .ok (.invokestatic 48, 3) := by decide +kernel
theorem dJ2_getChar_3b067_15 : decode cJ2_getChar_3b067 15 = .ok (.if_icmp .lt 13, 3) := by decide +kernel
theorem dJ2_getChar_3b067_18 : decode cJ2_getChar_3b067 18 = .ok (.new 52, 3) := by decide +kernel
theorem dJ2_getChar_3b067_21 : decode cJ2_getChar_3b067 21 = .ok (.dup, 1) := by decide +kernel
theorem dJ2_getChar_3b067_22 : decode cJ2_getChar_3b067 22 = .ok (.ldc 54, 2) := by decide +kernel
theorem dJ2_getChar_3b067_24 : decode cJ2_getChar_3b067 24 = .ok (.invokespecial 56, 3) := by decide +kernel
theorem dJ2_getChar_3b067_27 : decode cJ2_getChar_3b067 27 = .ok (.athrow, 1) := by decide +kernel
theorem dJ2_getChar_3b067_28 : decode cJ2_getChar_3b067 28 = .ok (.iload_n 1, 1) := by decide +kernel
theorem dJ2_getChar_3b067_29 : decode cJ2_getChar_3b067 29 = .ok (.iconst 1, 1) := by decide +kernel
theorem dJ2_getChar_3b067_30 : decode cJ2_getChar_3b067 30 = .ok (.ishl, 1) := by decide +kernel
theorem dJ2_getChar_3b067_31 : decode cJ2_getChar_3b067 31 = .ok (.istore_n 1, 1) := by decide +kernel
theorem dJ2_getChar_3b067_32 : decode cJ2_getChar_3b067 32 = .ok (.aload_n 0, 1) := by decide +kernel
theorem dJ2_getChar_3b067_33 : decode cJ2_getChar_3b067 33 = .ok (.iload_n 1, 1) := by decide +kernel
theorem dJ2_getChar_3b067_34 : decode cJ2_getChar_3b067 34 = .ok (.iinc 1 1, 3) := by decide +kernel
theorem dJ2_getChar_3b067_37 : decode cJ2_getChar_3b067 37 = .ok (.baload, 1) := by decide +kernel
theorem dJ2_getChar_3b067_38 : decode cJ2_getChar_3b067 38 = .ok (.sipush 255, 3) := by decide +kernel
theorem dJ2_getChar_3b067_41 : decode cJ2_getChar_3b067 41 = .ok (.iand, 1) := by decide +kernel
theorem dJ2_getChar_3b067_42 : decode cJ2_getChar_3b067 42 = .ok (.getstatic 59, 3) := by decide +kernel
theorem dJ2_getChar_3b067_45 : decode cJ2_getChar_3b067 45 = .ok (.ishl, 1) := by decide +kernel
theorem dJ2_getChar_3b067_46 : decode cJ2_getChar_3b067 46 = .ok (.aload_n 0, 1) := by decide +kernel
theorem dJ2_getChar_3b067_47 : decode cJ2_getChar_3b067 47 = .ok (.iload_n 1, 1) := by decide +kernel
theorem dJ2_getChar_3b067_48 : decode cJ2_getChar_3b067 48 = .ok (.baload, 1) := by decide +kernel
theorem dJ2_getChar_3b067_49 : decode cJ2_getChar_3b067 49 = .ok (.sipush 255, 3) := by decide +kernel
theorem dJ2_getChar_3b067_52 : decode cJ2_getChar_3b067 52 = .ok (.iand, 1) := by decide +kernel
theorem dJ2_getChar_3b067_53 : decode cJ2_getChar_3b067 53 = .ok (.getstatic 63, 3) := by decide +kernel
theorem dJ2_getChar_3b067_56 : decode cJ2_getChar_3b067 56 = .ok (.ishl, 1) := by decide +kernel
theorem dJ2_getChar_3b067_57 : decode cJ2_getChar_3b067 57 = .ok (.ior, 1) := by decide +kernel
theorem dJ2_getChar_3b067_58 : decode cJ2_getChar_3b067 58 = .ok (.i2c, 1) := by decide +kernel
theorem dJ2_getChar_3b067_59 : decode cJ2_getChar_3b067 59 = .ok (.ireturn, 1) := by decide +kernel
theorem dJ2_length_9d52b_0 : decode cJ2_length_9d52b 0 = .ok (.aload_n 0, 1) := by decide +kernel
theorem dJ2_length_9d52b_1 : decode cJ2_length_9d52b 1 = .ok (.arraylength, 1) := by decide +kernel
theorem dJ2_length_9d52b_2 : decode cJ2_length_9d52b 2 = .ok (.iconst 1, 1) := by decide +kernel
theorem dJ2_length_9d52b_3 : decode cJ2_length_9d52b 3 = .ok (.ishr, 1) := by decide +kernel
theorem dJ2_length_9d52b_4 : decode cJ2_length_9d52b 4 = .ok (.ireturn, 1) := by decide +kernel
theorem dJ2_charAt_3b067_0 : decode cJ2_charAt_3b067 0 = .ok (.iload_n 1, 1) := by decide +kernel
theorem dJ2_charAt_3b067_1 : decode cJ2_charAt_3b067 1 = .ok (.aload_n 0, 1) := by decide +kernel
theorem dJ2_charAt_3b067_2 : decode cJ2_charAt_3b067 2 = .ok (.invokestatic 67, 3) := by decide +kernel
theorem dJ2_charAt_3b067_5 : decode cJ2_charAt_3b067 5 = .ok (.aload_n 0, 1) := by decide +kernel
theorem dJ2_charAt_3b067_6 : decode cJ2_charAt_3b067 6 = .ok (.iload_n 1, 1) := by decide +kernel
theorem dJ2_charAt_3b067_7 : decode cJ2_charAt_3b067 7 = .ok (.invokestatic 71, 3) := by decide +kernel
theorem dJ2_charAt_3b067_10 : decode cJ2_charAt_3b067 10 = .ok (.ireturn, 1) := by decide +kernel
theorem dJ2_checkIndex_2214a_0 : decode cJ2_checkIndex_2214a 0 = .ok (.iload_n 0, 1) := by decide +kernel
theorem dJ2_checkIndex_2214a_1 : decode cJ2_checkIndex_2214a 1 = .ok (.aload_n 1, 1) := by decide +kernel
theorem dJ2_checkIndex_2214a_2 : decode cJ2_checkIndex_2214a 2 = .ok (.invokestatic 48, 3) := by decide +kernel
theorem dJ2_checkIndex_2214a_5 : decode cJ2_checkIndex_2214a 5 = .ok (.invokestatic 414, 3) := by decide +kernel
theorem dJ2_checkIndex_2214a_8 : decode cJ2_checkIndex_2214a 8 = .ok (.return_, 1) := by decide +kernel
theorem dJxa1e45_init_da8c8_0 : decode cJxa1e45_init_da8c8 0 = .ok (.aload_n 0, 1) := by decide +kernel
theorem dJxa1e45_init_da8c8_1 : decode cJxa1e45_init_da8c8 1 = .ok (.invokespecial 1, 3) := by decide +kernel
theorem dJxa1e45_init_da8c8_4 : decode cJxa1e45_init_da8c8 4 = .ok (.return_, 1) := by decide +kernel
theorem dJxc12de_init_da8c8_0 : decode cJxc12de_init_da8c8 0 = .ok (.aload_n 0, 1) := by decide +kernel
theorem dJxc12de_init_da8c8_1 : decode cJxc12de_init_da8c8 1 = .ok (.invokespecial 1, 3) := by decide +kernel
theorem dJxc12de_init_da8c8_4 : decode cJxc12de_init_da8c8 4 = .ok (.aload_n 0, 1) := by decide +kernel
theorem dJxc12de_init_da8c8_5 : decode cJxc12de_init_da8c8 5 = .ok (.iconst 0, 1) := by decide +kernel
theorem dJxc12de_init_da8c8_6 : decode cJxc12de_init_da8c8 6 = .ok (.putfield 7, 3) := by decide +kernel
theorem dJxc12de_init_da8c8_9 : decode cJxc12de_init_da8c8 9 = .ok (.return_, 1) := by decide +kernel
theorem dJx4a65c_init_da8c8_0 : decode cJx4a65c_init_da8c8 0 = .ok (.aload_n 0, 1) := by decide +kernel
theorem dJx4a65c_init_da8c8_1 : decode cJx4a65c_init_da8c8 1 = .ok (.invokespecial 1, 3) := by decide +kernel
theorem dJx4a65c_init_da8c8_4 : decode cJx4a65c_init_da8c8 4 = .ok (.aload_n 0, 1) := by decide +kernel
theorem dJx4a65c_init_da8c8_5 : decode cJx4a65c_init_da8c8 5 = .ok (.getstatic 39, 3) := by decide +kernel
theorem dJx4a65c_init_da8c8_8 : decode cJx4a65c_init_da8c8 8 = .ok (.putfield 9, 3) := by decide +kernel
theorem dJx4a65c_init_da8c8_11 : decode cJx4a65c_init_da8c8 11 = .ok (.return_, 1) := by decide +kernel
theorem dJx4a65c_grow_92f84_0 : decode cJx4a65c_grow_92f84 0 = .ok (.aload_n 0, 1) := by decide +kernel
theorem dJx4a65c_grow_92f84_1 : decode cJx4a65c_grow_92f84 1 = .ok (.getfield 9, 3) := by decide +kernel
theorem dJx4a65c_grow_92f84_4 : decode cJx4a65c_grow_92f84 4 = .ok (.arraylength, 1) := by decide +kernel
theorem dJx4a65c_grow_92f84_5 : decode cJx4a65c_grow_92f84 5 = .ok (.istore_n 2, 1) := by decide +kernel
theorem dJx4a65c_grow_92f84_6 : decode cJx4a65c_grow_92f84 6 = .ok (.iload_n 2, 1) := by decide +kernel
theorem dJx4a65c_grow_92f84_7 : decode cJx4a65c_grow_92f84 7 = .ok (.ifCond .gt 13, 3) := by decide +kernel
theorem dJx4a65c_grow_92f84_10 : decode cJx4a65c_grow_92f84 10 = .ok (.aload_n 0, 1) := by decide +kernel
theorem dJx4a65c_grow_92f84_11 : decode cJx4a65c_grow_92f84 11 = .ok (.getfield 9, 3) := by decide +kernel
theorem dJx4a65c_grow_92f84_14 : decode cJx4a65c_grow_92f84 14 = .ok (.getstatic 39, 3) := by decide +kernel
theorem dJx4a65c_grow_92f84_17 : decode cJx4a65c_grow_92f84 17 = .ok (.if_acmp .eq 28, 3) := by decide +kernel
theorem dJx4a65c_grow_92f84_20 : decode cJx4a65c_grow_92f84 20 = .ok (.iload_n 2, 1) := by decide +kernel
theorem dJx4a65c_grow_92f84_21 : decode cJx4a65c_grow_92f84 21 = .ok (.iload_n 1, 1) := by decide +kernel
theorem dJx4a65c_grow_92f84_22 : decode cJx4a65c_grow_92f84 22 = .ok (.iload_n 2, 1) := by decide +kernel
theorem dJx4a65c_grow_92f84_23 : decode cJx4a65c_grow_92f84 23 = .ok (.isub, 1) := by decide +kernel
theorem dJx4a65c_grow_92f84_24 : decode cJx4a65c_grow_92f84 24 = .ok (.iload_n 2, 1) := by decide +kernel
theorem dJx4a65c_grow_92f84_25 : decode cJx4a65c_grow_92f84 25 = .ok (.iconst 1, 1) := by decide +kernel
theorem dJx4a65c_grow_92f84_26 : decode cJx4a65c_grow_92f84 26 = .ok (.ishr, 1) := by decide +kernel
theorem dJx4a65c_grow_92f84_27 : decode cJx4a65c_grow_92f84 27 = .ok (.invokestatic 73, 3) := by decide +kernel
theorem dJx4a65c_grow_92f84_30 : decode cJx4a65c_grow_92f84 30 = .ok (.istore_n 3, 1) := by decide +kernel
theorem dJx4a65c_grow_92f84_31 : decode cJx4a65c_grow_92f84 31 = .ok (.aload_n 0, 1) := by decide +kernel
theorem dJx4a65c_grow_92f84_32 : decode cJx4a65c_grow_92f84 32 = .ok (.aload_n 0, 1) := by decide +kernel
theorem dJx4a65c_grow_92f84_33 : decode cJx4a65c_grow_92f84 33 = .ok (.getfield 9, 3) := by decide +kernel
theorem dJx4a65c_grow_92f84_36 : decode cJx4a65c_grow_92f84 36 = .ok (.iload_n 3, 1) := by decide +kernel
theorem dJx4a65c_grow_92f84_37 : decode cJx4a65c_grow_92f84 37 = .ok (.invokestatic 66, 3) := by decide +kernel
theorem dJx4a65c_grow_92f84_40 : decode cJx4a65c_grow_92f84 40 = .ok (.dup_x1, 1) := by decide +kernel
theorem dJx4a65c_grow_92f84_41 : decode cJx4a65c_grow_92f84 41 = .ok (.putfield 9, 3) := by decide +kernel
theorem dJx4a65c_grow_92f84_44 : decode cJx4a65c_grow_92f84 44 = .ok (.areturn, 1) := by decide +kernel
theorem dJx4a65c_grow_92f84_45 : decode cJx4a65c_grow_92f84 45 = .ok (.aload_n 0, 1) := by decide +kernel
theorem dJx4a65c_grow_92f84_46 : decode cJx4a65c_grow_92f84 46 = .ok (.bipush 10, 2) := by decide +kernel
theorem dJx4a65c_grow_92f84_48 : decode cJx4a65c_grow_92f84 48 = .ok (.iload_n 1, 1) := by decide +kernel
theorem dJx4a65c_grow_92f84_49 : decode cJx4a65c_grow_92f84 49 = .ok (.invokestatic 79, 3) := by decide +kernel
theorem dJx4a65c_grow_92f84_52 : decode cJx4a65c_grow_92f84 52 = .ok (.anewarray 7, 3) := by decide +kernel
theorem dJx4a65c_grow_92f84_55 : decode cJx4a65c_grow_92f84 55 = .ok (.dup_x1, 1) := by decide +kernel
theorem dJx4a65c_grow_92f84_56 : decode cJx4a65c_grow_92f84 56 = .ok (.putfield 9, 3) := by decide +kernel
theorem dJx4a65c_grow_92f84_59 : decode cJx4a65c_grow_92f84 59 = .ok (.areturn, 1) := by decide +kernel
theorem dJx4a65c_grow_d5877_0 : decode cJx4a65c_grow_d5877 0 = .ok (.aload_n 0, 1) := by decide +kernel
theorem dJx4a65c_grow_d5877_1 : decode cJx4a65c_grow_d5877 1 = .ok (.aload_n 0, 1) := by decide +kernel
theorem dJx4a65c_grow_d5877_2 : decode cJx4a65c_grow_d5877 2 = .ok (.getfield 48, 3) := by decide +kernel
theorem dJx4a65c_grow_d5877_5 : decode cJx4a65c_grow_d5877 5 = .ok (.iconst 1, 1) := by decide +kernel
theorem dJx4a65c_grow_d5877_6 : decode cJx4a65c_grow_d5877 6 = .ok (.iadd, 1) := by decide +kernel
theorem dJx4a65c_grow_d5877_7 : decode cJx4a65c_grow_d5877 7 = .ok (.invokevirtual 69, 3) := by decide +kernel
theorem dJx4a65c_grow_d5877_10 : decode cJx4a65c_grow_d5877 10 = .ok (.areturn, 1) := by decide +kernel
theorem dJx4a65c_size_8abf5_0 : decode cJx4a65c_size_8abf5 0 = .ok (.aload_n 0, 1) := by decide +kernel
theorem dJx4a65c_size_8abf5_1 : decode cJx4a65c_size_8abf5 1 = .ok (.getfield 48, 3) := by decide +kernel
theorem dJx4a65c_size_8abf5_4 : decode cJx4a65c_size_8abf5 4 = .ok (.ireturn, 1) := by decide +kernel
theorem dJx4a65c_elementData_915e3_0 : decode cJx4a65c_elementData_915e3 0 = .ok (.aload_n 0, 1) := by decide +kernel
theorem dJx4a65c_elementData_915e3_1 : decode cJx4a65c_elementData_915e3 1 = .ok (.getfield 9, 3) := by decide +kernel
theorem dJx4a65c_elementData_915e3_4 : decode cJx4a65c_elementData_915e3 4 = .ok (.iload_n 1, 1) := by decide +kernel
theorem dJx4a65c_elementData_915e3_5 : decode cJx4a65c_elementData_915e3 5 = .ok (.aaload, 1) := by decide +kernel
theorem dJx4a65c_elementData_915e3_6 : decode cJx4a65c_elementData_915e3 6 = .ok (.areturn, 1) := by decide +kernel
theorem dJx4a65c_get_915e3_0 : decode cJx4a65c_get_915e3 0 = .ok (.iload_n 1, 1) := by decide +kernel
theorem dJx4a65c_get_915e3_1 : decode cJx4a65c_get_915e3 1 = .ok (.aload_n 0, 1) := by decide +kernel
theorem dJx4a65c_get_915e3_2 : decode cJx4a65c_get_915e3 2 = .ok (.getfield 48, 3) := by decide +kernel
theorem dJx4a65c_get_915e3_5 : decode cJx4a65c_get_915e3 5 = .ok (.invokestatic 118, 3) := by decide +kernel
theorem dJx4a65c_get_915e3_8 : decode cJx4a65c_get_915e3 8 = .ok (.pop, 1) := by decide +kernel
theorem dJx4a65c_get_915e3_9 : decode cJx4a65c_get_915e3 9 = .ok (.aload_n 0, 1) := by decide +kernel
theorem dJx4a65c_get_915e3_10 : decode cJx4a65c_get_915e3 10 = .ok (.iload_n 1, 1) := by decide +kernel
theorem dJx4a65c_get_915e3_11 : decode cJx4a65c_get_915e3 11 = .ok (.invokevirtual 123, 3) := by decide +kernel
theorem dJx4a65c_get_915e3_14 : decode cJx4a65c_get_915e3 14 = .ok (.areturn, 1) := by decide +kernel
theorem dJx4a65c_add_72be8_0 : decode cJx4a65c_add_72be8 0 = .ok (.iload_n 3, 1) := by decide +kernel
theorem dJx4a65c_add_72be8_1 : decode cJx4a65c_add_72be8 1 = .ok (.aload_n 2, 1) := by decide +kernel
theorem dJx4a65c_add_72be8_2 : decode cJx4a65c_add_72be8 2 = .ok (.arraylength, 1) := by decide +kernel
theorem dJx4a65c_add_72be8_3 : decode cJx4a65c_add_72be8 3 = .ok (.if_icmp .ne 8, 3) := by decide +kernel
theorem dJx4a65c_add_72be8_6 : decode cJx4a65c_add_72be8 6 = .ok (.aload_n 0, 1) := by decide +kernel
theorem dJx4a65c_add_72be8_7 : decode cJx4a65c_add_72be8 7 = .ok (.invokevirtual 129, 3) := by decide +kernel
theorem dJx4a65c_add_72be8_10 : decode cJx4a65c_add_72be8 10 = .ok (.astore_n 2, 1) := by decide +kernel
theorem dJx4a65c_add_72be8_11 : decode cJx4a65c_add_72be8 11 = .ok (.aload_n 2, 1) := by decide +kernel
theorem dJx4a65c_add_72be8_12 : decode cJx4a65c_add_72be8 12 = .ok (.iload_n 3, 1) := by decide +kernel
theorem dJx4a65c_add_72be8_13 : decode cJx4a65c_add_72be8 13 = .ok (.aload_n 1, 1) := by decide +kernel
theorem dJx4a65c_add_72be8_14 : decode cJx4a65c_add_72be8 14 = .ok (.aastore, 1) := by decide +kernel
theorem dJx4a65c_add_72be8_15 : decode cJx4a65c_add_72be8 15 = .ok (.aload_n 0, 1) := by decide +kernel
theorem dJx4a65c_add_72be8_16 : decode cJx4a65c_add_72be8 16 = .ok (.iload_n 3, 1) := by decide +kernel
theorem dJx4a65c_add_72be8_17 : decode cJx4a65c_add_72be8 17 = .ok (.iconst 1, 1) := by decide +kernel
theorem dJx4a65c_add_72be8_18 : decode cJx4a65c_add_72be8 18 = .ok (.iadd, 1) := by decide +kernel
theorem dJx4a65c_add_72be8_19 : decode cJx4a65c_add_72be8 19 = .ok (.putfield 48, 3) := by decide +kernel
theorem dJx4a65c_add_72be8_22 : decode cJx4a65c_add_72be8 22 = .ok (.return_, 1) := by decide +kernel
theorem dJx4a65c_add_9ea2d_0 : decode cJx4a65c_add_9ea2d 0 = .ok (.aload_n 0, 1) := by decide +kernel
theorem dJx4a65c_add_9ea2d_1 : decode cJx4a65c_add_9ea2d 1 = .ok (.dup, 1) := by decide +kernel
theorem dJx4a65c_add_9ea2d_2 : decode cJx4a65c_add_9ea2d 2 = .ok (.getfield 63, 3) := by decide +kernel
theorem dJx4a65c_add_9ea2d_5 : decode cJx4a65c_add_9ea2d 5 = .ok (.iconst 1, 1) := by decide +kernel
theorem dJx4a65c_add_9ea2d_6 : decode cJx4a65c_add_9ea2d 6 = .ok (.iadd, 1) := by decide +kernel
theorem dJx4a65c_add_9ea2d_7 : decode cJx4a65c_add_9ea2d 7 = .ok (.putfield 63, 3) := by decide +kernel
theorem dJx4a65c_add_9ea2d_10 : decode cJx4a65c_add_9ea2d 10 = .ok (.aload_n 0, 1) := by decide +kernel
theorem dJx4a65c_add_9ea2d_11 : decode cJx4a65c_add_9ea2d 11 = .ok (.aload_n 1, 1) := by decide +kernel
theorem dJx4a65c_add_9ea2d_12 : decode cJx4a65c_add_9ea2d 12 = .ok (.aload_n 0, 1) := by decide +kernel
theorem dJx4a65c_add_9ea2d_13 : decode cJx4a65c_add_9ea2d 13 = .ok (.getfield 9, 3) := by decide +kernel
theorem dJx4a65c_add_9ea2d_16 : decode cJx4a65c_add_9ea2d 16 = .ok (.aload_n 0, 1) := by decide +kernel
theorem dJx4a65c_add_9ea2d_17 : decode cJx4a65c_add_9ea2d 17 = .ok (.getfield 48, 3) := by decide +kernel
theorem dJx4a65c_add_9ea2d_20 : decode cJx4a65c_add_9ea2d 20 = .ok (.invokevirtual 131, 3) := by decide +kernel
theorem dJx4a65c_add_9ea2d_23 : decode cJx4a65c_add_9ea2d 23 = .ok (.iconst 1, 1) := by decide +kernel
theorem dJx4a65c_add_9ea2d_24 : decode cJx4a65c_add_9ea2d 24 = .ok (.ireturn, 1) := by decide +kernel
theorem dJx4a65c_add_7a177_0 : decode cJx4a65c_add_7a177 0 = .ok (.aload_n 0, 1) := by decide +kernel
theorem dJx4a65c_add_7a177_1 : decode cJx4a65c_add_7a177 1 = .ok (.iload_n 1, 1) := by decide +kernel
theorem dJx4a65c_add_7a177_2 : decode cJx4a65c_add_7a177 2 = .ok (.invokevirtual 135, 3) := by decide +kernel
theorem dJx4a65c_add_7a177_5 : decode cJx4a65c_add_7a177 5 = .ok (.aload_n 0, 1) := by decide +kernel
theorem dJx4a65c_add_7a177_6 : decode cJx4a65c_add_7a177 6 = .ok (.dup, 1) := by decide +kernel
theorem dJx4a65c_add_7a177_7 : decode cJx4a65c_add_7a177 7 = .ok (.getfield 63, 3) := by decide +kernel
theorem dJx4a65c_add_7a177_10 : decode cJx4a65c_add_7a177 10 = .ok (.iconst 1, 1) := by decide +kernel
theorem dJx4a65c_add_7a177_11 : decode cJx4a65c_add_7a177 11 = .ok (.iadd, 1) := by decide +kernel
theorem dJx4a65c_add_7a177_12 : decode cJx4a65c_add_7a177 12 = .ok (.putfield 63, 3) := by decide +kernel
theorem dJx4a65c_add_7a177_15 : decode cJx4a65c_add_7a177 15 = .ok (.aload_n 0, 1) := by decide +kernel
theorem dJx4a65c_add_7a177_16 : decode cJx4a65c_add_7a177 16 = .ok (.getfield 48, 3) := by decide +kernel
theorem dJx4a65c_add_7a177_19 : decode cJx4a65c_add_7a177 19 = .ok (.dup, 1) := by decide +kernel
theorem dJx4a65c_add_7a177_20 : decode cJx4a65c_add_7a177 20 = .ok (.istore_n 3, 1) := by decide +kernel
theorem dJx4a65c_add_7a177_21 : decode cJx4a65c_add_7a177 21 = .ok (.aload_n 0, 1) := by decide +kernel
theorem dJx4a65c_add_7a177_22 : decode cJx4a65c_add_7a177 22 = .ok (.getfield 9, 3) := by decide +kernel
theorem dJx4a65c_add_7a177_25 : decode cJx4a65c_add_7a177 25 = .ok (.dup, 1) := by decide +kernel
theorem dJx4a65c_add_7a177_26 : decode cJx4a65c_add_7a177 26 = .ok (.astore 4, 2) := by decide +kernel
theorem dJx4a65c_add_7a177_28 : decode cJx4a65c_add_7a177 28 = .ok (.arraylength, 1) := by decide +kernel
theorem dJx4a65c_add_7a177_29 : decode cJx4a65c_add_7a177 29 = .ok (.if_icmp .ne 9, 3) := by decide +kernel
theorem dJx4a65c_add_7a177_32 : decode cJx4a65c_add_7a177 32 = .ok (.aload_n 0, 1) := by decide +kernel
theorem dJx4a65c_add_7a177_33 : decode cJx4a65c_add_7a177 33 = .ok (.invokevirtual 129, 3) := by decide +kernel
theorem dJx4a65c_add_7a177_36 : decode cJx4a65c_add_7a177 36 = .ok (.astore 4, 2) := by decide +kernel
theorem dJx4a65c_add_7a177_38 : decode cJx4a65c_add_7a177 38 = .ok (.aload 4, 2) := by decide +kernel
theorem dJx4a65c_add_7a177_40 : decode cJx4a65c_add_7a177 40 = .ok (.iload_n 1, 1) := by decide +kernel
theorem dJx4a65c_add_7a177_41 : decode cJx4a65c_add_7a177 41 = .ok (.aload 4, 2) := by decide +kernel
theorem dJx4a65c_add_7a177_43 : decode cJx4a65c_add_7a177 43 = .ok (.iload_n 1, 1) := by decide +kernel
theorem dJx4a65c_add_7a177_44 : decode cJx4a65c_add_7a177 44 = .ok (.iconst 1, 1) := by decide +kernel
theorem dJx4a65c_add_7a177_45 : decode cJx4a65c_add_7a177 45 = .ok (.iadd, 1) := by decide +kernel
theorem dJx4a65c_add_7a177_46 : decode cJx4a65c_add_7a177 46 = .ok (.iload_n 3, 1) := by decide +kernel
theorem dJx4a65c_add_7a177_47 : decode cJx4a65c_add_7a177 47 = .ok (.iload_n 1, 1) := by decide +kernel
theorem dJx4a65c_add_7a177_48 : decode cJx4a65c_add_7a177 48 = .ok (.isub, 1) := by decide +kernel
theorem dJx4a65c_add_7a177_49 : decode cJx4a65c_add_7a177 49 = .ok (.invokestatic 112, 3) := by decide +kernel
theorem dJx4a65c_add_7a177_52 : decode cJx4a65c_add_7a177 52 = .ok (.aload 4, 2) := by decide +kernel
theorem dJx4a65c_add_7a177_54 : decode cJx4a65c_add_7a177 54 = .ok (.iload_n 1, 1) := by decide +kernel
theorem dJx4a65c_add_7a177_55 : decode cJx4a65c_add_7a177 55 = .ok (.aload_n 2, 1) := by decide +kernel
theorem dJx4a65c_add_7a177_56 : decode cJx4a65c_add_7a177 56 = .ok (.aastore, 1) := by decide +kernel
theorem dJx4a65c_add_7a177_57 : decode cJx4a65c_add_7a177 57 = .ok (.aload_n 0, 1) := by decide +kernel
theorem dJx4a65c_add_7a177_58 : decode cJx4a65c_add_7a177 58 = .ok (.iload_n 3, 1) := by decide +kernel
theorem dJx4a65c_add_7a177_59 : decode cJx4a65c_add_7a177 59 = .ok (.iconst 1, 1) := by decide +kernel
theorem dJx4a65c_add_7a177_60 : decode cJx4a65c_add_7a177 60 = .ok (.iadd, 1) := by decide +kernel
theorem dJx4a65c_add_7a177_61 : decode cJx4a65c_add_7a177 61 = .ok (.putfield 48, 3) := by decide +kernel
theorem dJx4a65c_add_7a177_64 : decode cJx4a65c_add_7a177 64 = .ok (.return_, 1) := by decide +kernel
theorem dJx4a65c_clear_da8c8_0 : decode cJx4a65c_clear_da8c8 0 = .ok (.aload_n 0, 1) := by decide +kernel
theorem dJx4a65c_clear_da8c8_1 : decode cJx4a65c_clear_da8c8 1 = .ok (.dup, 1) := by decide +kernel
theorem dJx4a65c_clear_da8c8_2 : decode cJx4a65c_clear_da8c8 2 = .ok (.getfield 63, 3) := by decide +kernel
theorem dJx4a65c_clear_da8c8_5 : decode cJx4a65c_clear_da8c8 5 = .ok (.iconst 1, 1) := by decide +kernel
theorem dJx4a65c_clear_da8c8_6 : decode cJx4a65c_clear_da8c8 6 = .ok (.iadd, 1) := by decide +kernel
theorem dJx4a65c_clear_da8c8_7 : decode cJx4a65c_clear_da8c8 7 = .ok (.putfield 63, 3) := by decide +kernel
theorem dJx4a65c_clear_da8c8_10 : decode cJx4a65c_clear_da8c8 10 = .ok (.aload_n 0, 1) := by decide +kernel
theorem dJx4a65c_clear_da8c8_11 : decode cJx4a65c_clear_da8c8 11 = .ok (.getfield 9, 3) := by decide +kernel
theorem dJx4a65c_clear_da8c8_14 : decode cJx4a65c_clear_da8c8 14 = .ok (.astore_n 1, 1) := by decide +kernel
theorem dJx4a65c_clear_da8c8_15 : decode cJx4a65c_clear_da8c8 15 = .ok (.aload_n 0, 1) := by decide +kernel
theorem dJx4a65c_clear_da8c8_16 : decode cJx4a65c_clear_da8c8 16 = .ok (.getfield 48, 3) := by decide +kernel
theorem dJx4a65c_clear_da8c8_19 : decode cJx4a65c_clear_da8c8 19 = .ok (.istore_n 2, 1) := by decide +kernel
theorem dJx4a65c_clear_da8c8_20 : decode cJx4a65c_clear_da8c8 20 = .ok (.aload_n 0, 1) := by decide +kernel
theorem dJx4a65c_clear_da8c8_21 : decode cJx4a65c_clear_da8c8 21 = .ok (.iconst 0, 1) := by decide +kernel
theorem dJx4a65c_clear_da8c8_22 : decode cJx4a65c_clear_da8c8 22 = .ok (.dup_x1, 1) := by decide +kernel
theorem dJx4a65c_clear_da8c8_23 : decode cJx4a65c_clear_da8c8 23 = .ok (.putfield 48, 3) := by decide +kernel
theorem dJx4a65c_clear_da8c8_26 : decode cJx4a65c_clear_da8c8 26 = .ok (.istore_n 3, 1) := by decide +kernel
theorem dJx4a65c_clear_da8c8_27 : decode cJx4a65c_clear_da8c8 27 = .ok (.iload_n 3, 1) := by decide +kernel
theorem dJx4a65c_clear_da8c8_28 : decode cJx4a65c_clear_da8c8 28 = .ok (.iload_n 2, 1) := by decide +kernel
theorem dJx4a65c_clear_da8c8_29 : decode cJx4a65c_clear_da8c8 29 = .ok (.if_icmp .ge 13, 3) := by decide +kernel
theorem dJx4a65c_clear_da8c8_32 : decode cJx4a65c_clear_da8c8 32 = .ok (.aload_n 1, 1) := by decide +kernel
theorem dJx4a65c_clear_da8c8_33 : decode cJx4a65c_clear_da8c8 33 = .ok (.iload_n 3, 1) := by decide +kernel
theorem dJx4a65c_clear_da8c8_34 : decode cJx4a65c_clear_da8c8 34 = .ok (.aconst_null, 1) := by decide +kernel
theorem dJx4a65c_clear_da8c8_35 : decode cJx4a65c_clear_da8c8 35 = .ok (.aastore, 1) := by decide +kernel
theorem dJx4a65c_clear_da8c8_36 : decode cJx4a65c_clear_da8c8 36 = .ok (.iinc 3 1, 3) := by decide +kernel
theorem dJx4a65c_clear_da8c8_39 : decode cJx4a65c_clear_da8c8 39 = .ok (.goto (-12), 3) := by decide +kernel
theorem dJx4a65c_clear_da8c8_42 : decode cJx4a65c_clear_da8c8 42 = .ok (.return_, 1) := by decide +kernel
theorem dJx4a65c_rangeCheckForAdd_d00df_0 : decode cJx4a65c_rangeCheckForAdd_d00df 0 = .ok (.iload_n 1, 1) := by decide +kernel
theorem dJx4a65c_rangeCheckForAdd_d00df_1 : decode cJx4a65c_rangeCheckForAdd_d00df 1 = .ok (.aload_n 0, 1) := by decide +kernel
theorem dJx4a65c_rangeCheckForAdd_d00df_2 : decode cJx4a65c_rangeCheckForAdd_d00df 2 = .ok (.getfield 48, 3) := by decide +kernel
theorem dJx4a65c_rangeCheckForAdd_d00df_5 : decode cJx4a65c_rangeCheckForAdd_d00df 5 = .ok (.if_icmp .gt 7, 3) := by decide +kernel
theorem dJx4a65c_rangeCheckForAdd_d00df_8 : decode cJx4a65c_rangeCheckForAdd_d00df 8 = .ok (.iload_n 1, 1) := by decide +kernel
theorem dJx4a65c_rangeCheckForAdd_d00df_9 : decode cJx4a65c_rangeCheckForAdd_d00df 9 = .ok (.ifCond .ge 16, 3) := by decide +kernel
theorem dJx4a65c_rangeCheckForAdd_d00df_12 : decode cJx4a65c_rangeCheckForAdd_d00df 12 = .ok (.new 187, 3) := by decide +kernel
theorem dJx4a65c_rangeCheckForAdd_d00df_15 : decode cJx4a65c_rangeCheckForAdd_d00df 15 = .ok (.dup, 1) := by decide +kernel
theorem dJx4a65c_rangeCheckForAdd_d00df_16 : decode cJx4a65c_rangeCheckForAdd_d00df 16 = .ok (.aload_n 0, 1) := by decide +kernel
theorem dJx4a65c_rangeCheckForAdd_d00df_17 : decode cJx4a65c_rangeCheckForAdd_d00df 17 = .ok (.iload_n 1, 1) := by decide +kernel
theorem dJx4a65c_rangeCheckForAdd_d00df_18 : decode cJx4a65c_rangeCheckForAdd_d00df 18 = .ok (.invokevirtual 198, 3) := by decide +kernel
theorem dJx4a65c_rangeCheckForAdd_d00df_21 : decode cJx4a65c_rangeCheckForAdd_d00df 21 = .ok (.invokespecial 193, 3) := by decide +kernel
theorem dJx4a65c_rangeCheckForAdd_d00df_24 : decode cJx4a65c_rangeCheckForAdd_d00df 24 = .ok (.athrow, 1) := by decide +kernel
theorem dJx4a65c_rangeCheckForAdd_d00df_25 : decode cJx4a65c_rangeCheckForAdd_d00df 25 = .ok (.return_, 1) := by decide +kernel
theorem dJ7_fill_53178_0 : decode cJ7_fill_53178 0 = .ok (.iconst 0, 1) := by decide +kernel
theorem dJ7_fill_53178_1 : decode cJ7_fill_53178 1 = .ok (.istore_n 2, 1) := by decide +kernel
theorem dJ7_fill_53178_2 : decode cJ7_fill_53178 2 = .ok (.aload_n 0, 1) := by decide +kernel
theorem dJ7_fill_53178_3 : decode cJ7_fill_53178 3 = .ok (.arraylength, 1) := by decide +kernel
theorem dJ7_fill_53178_4 : decode cJ7_fill_53178 4 = .ok (.istore_n 3, 1) := by decide +kernel
theorem dJ7_fill_53178_5 : decode cJ7_fill_53178 5 = .ok (.iload_n 2, 1) := by decide +kernel
theorem dJ7_fill_53178_6 : decode cJ7_fill_53178 6 = .ok (.iload_n 3, 1) := by decide +kernel
theorem dJ7_fill_53178_7 : decode cJ7_fill_53178 7 = .ok (.if_icmp .ge 13, 3) := by decide +kernel
theorem dJ7_fill_53178_10 : decode cJ7_fill_53178 10 = .ok (.aload_n 0, 1) := by decide +kernel
theorem dJ7_fill_53178_11 : decode cJ7_fill_53178 11 = .ok (.iload_n 2, 1) := by decide +kernel
theorem dJ7_fill_53178_12 : decode cJ7_fill_53178 12 = .ok (.iload_n 1, 1) := by decide +kernel
theorem dJ7_fill_53178_13 : decode cJ7_fill_53178 13 = .ok (.iastore, 1) := by decide +kernel
theorem dJ7_fill_53178_14 : decode cJ7_fill_53178 14 = .ok (.iinc 2 1, 3) := by decide +kernel
theorem dJ7_fill_53178_17 : decode cJ7_fill_53178 17 = .ok (.goto (-12), 3) := by decide +kernel
theorem dJ7_fill_53178_20 : decode cJ7_fill_53178 20 = .ok (.return_, 1) := by decide +kernel
theorem dJ7_copyOf_1904c_0 : decode cJ7_copyOf_1904c 0 = .ok (.aload_n 0, 1) := by decide +kernel
theorem dJ7_copyOf_1904c_1 : decode cJ7_copyOf_1904c 1 = .ok (.iload_n 1, 1) := by decide +kernel
theorem dJ7_copyOf_1904c_2 : decode cJ7_copyOf_1904c 2 = .ok (.aload_n 0, 1) := by decide +kernel
theorem dJ7_copyOf_1904c_3 : decode cJ7_copyOf_1904c 3 = .ok (.invokevirtual 86, 3) := by decide +kernel
theorem dJ7_copyOf_1904c_6 : decode cJ7_copyOf_1904c 6 = .ok (.invokestatic 300, 3) := by decide +kernel
theorem dJ7_copyOf_1904c_9 : decode cJ7_copyOf_1904c 9 = .ok (.areturn, 1) := by decide +kernel
theorem dJ7_copyOf_6403c_0 : decode cJ7_copyOf_6403c 0 = .ok (.aload_n 2, 1) := by decide +kernel
theorem dJ7_copyOf_6403c_1 : decode cJ7_copyOf_6403c 1 = .ok (.ldc 110, 2) := by decide +kernel
theorem dJ7_copyOf_6403c_3 : decode cJ7_copyOf_6403c 3 = .ok (.if_acmp .ne 10, 3) := by decide +kernel
theorem dJ7_copyOf_6403c_6 : decode cJ7_copyOf_6403c 6 = .ok (.iload_n 1, 1) := by decide +kernel
theorem dJ7_copyOf_6403c_7 : decode cJ7_copyOf_6403c 7 = .ok (.anewarray 2, 3) := by decide +kernel
theorem dJ7_copyOf_6403c_10 : decode cJ7_copyOf_6403c 10 = .ok (.goto 14, 3) := by decide +kernel
theorem dJ7_copyOf_6403c_13 : decode cJ7_copyOf_6403c 13 = .ok (.aload_n 2, 1) := by decide +kernel
theorem dJ7_copyOf_6403c_14 : decode cJ7_copyOf_6403c 14 = .ok (.invokevirtual 90, 3) := by decide +kernel
theorem dJ7_copyOf_6403c_17 : decode cJ7_copyOf_6403c 17 = .ok (.iload_n 1, 1) := by decide +kernel
theorem dJ7_copyOf_6403c_18 : decode cJ7_copyOf_6403c 18 = .ok (.invokestatic 95, 3) := by decide +kernel
theorem dJ7_copyOf_6403c_21 : decode cJ7_copyOf_6403c 21 = .ok (.checkcast 110, 3) := by decide +kernel
theorem dJ7_copyOf_6403c_24 : decode cJ7_copyOf_6403c 24 = .ok (.astore_n 3, 1) := by decide +kernel
theorem dJ7_copyOf_6403c_25 : decode cJ7_copyOf_6403c 25 = .ok (.aload_n 0, 1) := by decide +kernel
theorem dJ7_copyOf_6403c_26 : decode cJ7_copyOf_6403c 26 = .ok (.iconst 0, 1) := by decide +kernel
theorem dJ7_copyOf_6403c_27 : decode cJ7_copyOf_6403c 27 = .ok (.aload_n 3, 1) := by decide +kernel
theorem dJ7_copyOf_6403c_28 : decode cJ7_copyOf_6403c 28 = .ok (.iconst 0, 1) := by decide +kernel
theorem dJ7_copyOf_6403c_29 : decode cJ7_copyOf_6403c 29 = .ok (.aload_n 0, 1) := by decide +kernel
theorem dJ7_copyOf_6403c_30 : decode cJ7_copyOf_6403c 30 = .ok (.arraylength, 1) := by decide +kernel
theorem dJ7_copyOf_6403c_31 : decode cJ7_copyOf_6403c 31 = .ok (.iload_n 1, 1) := by decide +kernel
theorem dJ7_copyOf_6403c_32 : decode cJ7_copyOf_6403c 32 = .ok (.invokestatic 304, 3) := by decide +kernel
theorem dJ7_copyOf_6403c_35 : decode cJ7_copyOf_6403c 35 = .ok (.invokestatic 150, 3) := by decide +kernel
theorem dJ7_copyOf_6403c_38 : decode cJ7_copyOf_6403c 38 = .ok (.aload_n 3, 1) := by decide +kernel
theorem dJ7_copyOf_6403c_39 : decode cJ7_copyOf_6403c 39 = .ok (.areturn, 1) := by decide +kernel
theorem dJ7_copyOf_59c91_0 : decode cJ7_copyOf_59c91 0 = .ok (.iload_n 1, 1) := by decide +kernel
theorem dJ7_copyOf_59c91_1 : decode cJ7_copyOf_59c91 1 = .ok (.aload_n 0, 1) := by decide +kernel
theorem dJ7_copyOf_59c91_2 : decode cJ7_copyOf_59c91 2 = .ok (.arraylength, 1) := by decide +kernel
theorem dJ7_copyOf_59c91_3 : decode cJ7_copyOf_59c91 3 = .ok (.if_icmp .ne 11, 3) := by decide +kernel
theorem dJ7_copyOf_59c91_6 : decode cJ7_copyOf_59c91 6 = .ok (.aload_n 0, 1) := by decide +kernel
theorem dJ7_copyOf_59c91_7 : decode cJ7_copyOf_59c91 7 = .ok (.invokevirtual 316, 3) := by decide +kernel
theorem dJ7_copyOf_59c91_10 : decode cJ7_copyOf_59c91 10 = .ok (.checkcast 317, 3) := by decide +kernel
theorem dJ7_copyOf_59c91_13 : decode cJ7_copyOf_59c91 13 = .ok (.areturn, 1) := by decide +kernel
theorem dJ7_copyOf_59c91_14 : decode cJ7_copyOf_59c91 14 = .ok (.iload_n 1, 1) := by decide +kernel
theorem dJ7_copyOf_59c91_15 : decode cJ7_copyOf_59c91 15 = .ok (.newarray .int, 2) := by decide +kernel
theorem dJ7_copyOf_59c91_17 : decode cJ7_copyOf_59c91 17 = .ok (.astore_n 2, 1) := by decide +kernel
theorem dJ7_copyOf_59c91_18 : decode cJ7_copyOf_59c91 18 = .ok (.aload_n 0, 1) := by decide +kernel
theorem dJ7_copyOf_59c91_19 : decode cJ7_copyOf_59c91 19 = .ok (.iconst 0, 1) := by decide +kernel
theorem dJ7_copyOf_59c91_20 : decode cJ7_copyOf_59c91 20 = .ok (.aload_n 2, 1) := by decide +kernel
theorem dJ7_copyOf_59c91_21 : decode cJ7_copyOf_59c91 21 = .ok (.iconst 0, 1) := by decide +kernel
theorem dJ7_copyOf_59c91_22 : decode cJ7_copyOf_59c91 22 = .ok (.aload_n 0, 1) := by decide +kernel
theorem dJ7_copyOf_59c91_23 : decode cJ7_copyOf_59c91 23 = .ok (.arraylength, 1) := by decide +kernel
theorem dJ7_copyOf_59c91_24 : decode cJ7_copyOf_59c91 24 = .ok (.iload_n 1, 1) := by decide +kernel
theorem dJ7_copyOf_59c91_25 : decode cJ7_copyOf_59c91 25 = .ok (.invokestatic 304, 3) := by decide +kernel
theorem dJ7_copyOf_59c91_28 : decode cJ7_copyOf_59c91 28 = .ok (.invokestatic 150, 3) := by decide +kernel
theorem dJ7_copyOf_59c91_31 : decode cJ7_copyOf_59c91 31 = .ok (.aload_n 2, 1) := by decide +kernel
theorem dJ7_copyOf_59c91_32 : decode cJ7_copyOf_59c91 32 = .ok (.areturn, 1) := by decide +kernel
theorem dJ15_checkIndex_7cf53_0 : decode cJ15_checkIndex_7cf53 0 = .ok (.iload_n 0, 1) := by decide +kernel
theorem dJ15_checkIndex_7cf53_1 : decode cJ15_checkIndex_7cf53 1 = .ok (.iload_n 1, 1) := by decide +kernel
theorem dJ15_checkIndex_7cf53_2 : decode cJ15_checkIndex_7cf53 2 = .ok (.aconst_null, 1) := by decide +kernel
theorem dJ15_checkIndex_7cf53_3 : decode cJ15_checkIndex_7cf53 3 = .ok (.invokestatic 105, 3) := by decide +kernel
theorem dJ15_checkIndex_7cf53_6 : decode cJ15_checkIndex_7cf53 6 = .ok (.ireturn, 1) := by decide +kernel
theorem dJ8_newLength_cabcc_0 : decode cJ8_newLength_cabcc 0 = .ok (.iload_n 0, 1) := by decide +kernel
theorem dJ8_newLength_cabcc_1 : decode cJ8_newLength_cabcc 1 = .ok (.iload_n 1, 1) := by decide +kernel
theorem dJ8_newLength_cabcc_2 : decode cJ8_newLength_cabcc 2 = .ok (.iload_n 2, 1) := by decide +kernel
theorem dJ8_newLength_cabcc_3 : decode cJ8_newLength_cabcc 3 = .ok (.invokestatic 194, 3) := by decide +kernel
theorem dJ8_newLength_cabcc_6 : decode cJ8_newLength_cabcc 6 = .ok (.iadd, 1) := by decide +kernel
theorem dJ8_newLength_cabcc_7 : decode cJ8_newLength_cabcc 7 = .ok (.istore_n 3, 1) := by decide +kernel
theorem dJ8_newLength_cabcc_8 : decode cJ8_newLength_cabcc 8 = .ok (.iconst 0, 1) := by decide +kernel
theorem dJ8_newLength_cabcc_9 : decode cJ8_newLength_cabcc 9 = .ok (.iload_n 3, 1) := by decide +kernel
theorem dJ8_newLength_cabcc_10 : decode cJ8_newLength_cabcc 10 = .ok (.if_icmp .ge 11, 3) := by decide +kernel
theorem dJ8_newLength_cabcc_13 : decode cJ8_newLength_cabcc 13 = .ok (.iload_n 3, 1) := by decide +kernel
theorem dJ8_newLength_cabcc_14 : decode cJ8_newLength_cabcc 14 = .ok (.ldc 200, 2) := by decide +kernel
theorem dJ8_newLength_cabcc_16 : decode cJ8_newLength_cabcc 16 = .ok (.if_icmp .gt 5, 3) := by decide +kernel
theorem dJ8_newLength_cabcc_19 : decode cJ8_newLength_cabcc 19 = .ok (.iload_n 3, 1) := by decide +kernel
theorem dJ8_newLength_cabcc_20 : decode cJ8_newLength_cabcc 20 = .ok (.ireturn, 1) := by decide +kernel
theorem dJ8_newLength_cabcc_21 : decode cJ8_newLength_cabcc 21 = .ok (.iload_n 0, 1) := by decide +kernel
theorem dJ8_newLength_cabcc_22 : decode cJ8_newLength_cabcc 22 = .ok (.iload_n 1, 1) := by decide +kernel
theorem dJ8_newLength_cabcc_23 : decode cJ8_newLength_cabcc 23 = .ok (.invokestatic 201, 3) := by decide +kernel
theorem dJ8_newLength_cabcc_26 : decode cJ8_newLength_cabcc 26 = .ok (.ireturn, 1) := by decide +kernel
theorem dJ8_hugeLength_7cf53_0 : decode cJ8_hugeLength_7cf53 0 = .ok (.iload_n 0, 1) := by decide +kernel
theorem dJ8_hugeLength_7cf53_1 : decode cJ8_hugeLength_7cf53 1 = .ok (.iload_n 1, 1) := by decide +kernel
theorem dJ8_hugeLength_7cf53_2 : decode cJ8_hugeLength_7cf53 2 = .ok (.iadd, 1) := by decide +kernel
theorem dJ8_hugeLength_7cf53_3 : decode cJ8_hugeLength_7cf53 3 = .ok (.istore_n 2, 1) := by decide +kernel
theorem dJ8_hugeLength_7cf53_4 : decode cJ8_hugeLength_7cf53 4 = .ok (.iload_n 2, 1) := by decide +kernel
theorem dJ8_hugeLength_7cf53_5 : decode cJ8_hugeLength_7cf53 5 = .ok (.ifCond .ge 44, 3) := by decide +kernel
theorem dJ8_hugeLength_7cf53_8 : decode cJ8_hugeLength_7cf53 8 = .ok (.new 204, 3) := by decide +kernel
theorem dJ8_hugeLength_7cf53_11 : decode cJ8_hugeLength_7cf53 11 = .ok (.dup, 1) := by decide +kernel
theorem dJ8_hugeLength_7cf53_12 : decode cJ8_hugeLength_7cf53 12 = .ok (.new 89, 3) := by decide +kernel
theorem dJ8_hugeLength_7cf53_15 : decode cJ8_hugeLength_7cf53 15 = .ok (.dup, 1) := by decide +kernel
theorem dJ8_hugeLength_7cf53_16 : decode cJ8_hugeLength_7cf53 16 = .ok (.invokespecial 91, 3) := by decide +kernel
theorem dJ8_hugeLength_7cf53_19 : decode cJ8_hugeLength_7cf53 19 = .ok (.ldc 206, 2) := by decide +kernel
theorem dJ8_hugeLength_7cf53_21 : decode cJ8_hugeLength_7cf53 21 = .ok (.invokevirtual 94, 3) := by decide +kernel
theorem dJ8_hugeLength_7cf53_24 : decode cJ8_hugeLength_7cf53 24 = .ok (.iload_n 0, 1) := by decide +kernel
theorem dJ8_hugeLength_7cf53_25 : decode cJ8_hugeLength_7cf53 25 = .ok (.invokevirtual 98, 3) := by decide +kernel
theorem dJ8_hugeLength_7cf53_28 : decode cJ8_hugeLength_7cf53 28 = .ok (.ldc 208, 2) := by decide +kernel
theorem dJ8_hugeLength_7cf53_30 : decode cJ8_hugeLength_7cf53 30 = .ok (.invokevirtual 94, 3) := by decide +kernel
theorem dJ8_hugeLength_7cf53_33 : decode cJ8_hugeLength_7cf53 33 = .ok (.iload_n 1, 1) := by decide +kernel
theorem dJ8_hugeLength_7cf53_34 : decode cJ8_hugeLength_7cf53 34 = .ok (.invokevirtual 98, 3) := by decide +kernel
theorem dJ8_hugeLength_7cf53_37 : decode cJ8_hugeLength_7cf53 37 = .ok (.ldc 210, 2) := by decide +kernel
theorem dJ8_hugeLength_7cf53_39 : decode cJ8_hugeLength_7cf53 39 = .ok (.invokevirtual 94, 3) := by decide +kernel
theorem dJ8_hugeLength_7cf53_42 : decode cJ8_hugeLength_7cf53 42 = .ok (.invokevirtual 101, 3) := by decide +kernel
theorem dJ8_hugeLength_7cf53_45 : decode cJ8_hugeLength_7cf53 45 = .ok (.invokespecial 212, 3) := by decide +kernel
theorem dJ8_hugeLength_7cf53_48 : decode cJ8_hugeLength_7cf53 48 = .ok (.athrow, 1) := by decide +kernel
theorem dJ8_hugeLength_7cf53_49 : decode cJ8_hugeLength_7cf53 49 = .ok (.iload_n 2, 1) := by decide +kernel
theorem dJ8_hugeLength_7cf53_50 : decode cJ8_hugeLength_7cf53 50 = .ok (.ldc 200, 2) := by decide +kernel
theorem dJ8_hugeLength_7cf53_52 : decode cJ8_hugeLength_7cf53 52 = .ok (.if_icmp .gt 6, 3) := by decide +kernel
theorem dJ8_hugeLength_7cf53_55 : decode cJ8_hugeLength_7cf53 55 = .ok (.ldc 200, 2) := by decide +kernel
theorem dJ8_hugeLength_7cf53_57 : decode cJ8_hugeLength_7cf53 57 = .ok (.ireturn, 1) := by decide +kernel
theorem dJ8_hugeLength_7cf53_58 : decode cJ8_hugeLength_7cf53 58 = .ok (.iload_n 2, 1) := by decide +kernel
theorem dJ8_hugeLength_7cf53_59 : decode cJ8_hugeLength_7cf53 59 = .ok (.ireturn, 1) := by decide +kernel
theorem dJ3_checkIndex_8e157_0 : decode cJ3_checkIndex_8e157 0 = .ok (.iload_n 0, 1) := by decide +kernel
theorem dJ3_checkIndex_8e157_1 : decode cJ3_checkIndex_8e157 1 = .ok (.ifCond .lt 8, 3) := by decide +kernel
theorem dJ3_checkIndex_8e157_4 : decode cJ3_checkIndex_8e157 4 = .ok (.iload_n 0, 1) := by decide +kernel
theorem dJ3_checkIndex_8e157_5 : decode cJ3_checkIndex_8e157 5 = .ok (.iload_n 1, 1) := by decide +kernel
theorem dJ3_checkIndex_8e157_6 : decode cJ3_checkIndex_8e157 6 = .ok (.if_icmp .lt 10, 3) := by decide +kernel
theorem dJ3_checkIndex_8e157_9 : decode cJ3_checkIndex_8e157 9 = .ok (.aload_n 2, 1) := by decide +kernel
theorem dJ3_checkIndex_8e157_10 : decode cJ3_checkIndex_8e157 10 = .ok (.iload_n 0, 1) := by decide +kernel
theorem dJ3_checkIndex_8e157_11 : decode cJ3_checkIndex_8e157 11 = .ok (.iload_n 1, 1) := by decide +kernel
theorem dJ3_checkIndex_8e157_12 : decode cJ3_checkIndex_8e157 12 = .ok (.invokestatic 95, 3) := by decide +kernel
theorem dJ3_checkIndex_8e157_15 : decode cJ3_checkIndex_8e157 15 = .ok (.athrow, 1) := by decide +kernel
theorem dJ3_checkIndex_8e157_16 : decode cJ3_checkIndex_8e157 16 = .ok (.iload_n 0, 1) := by decide +kernel
theorem dJ3_checkIndex_8e157_17 : decode cJ3_checkIndex_8e157 17 = .ok (.ireturn, 1) := by decide +kernel
