theorem dX6_init_0 : decode cX6_init 0 = .ok (.aload_n 0, 1) := by decide +kernel
theorem dX6_init_1 : decode cX6_init 1 = .ok (.invokespecial 1, 3) := by decide +kernel
theorem dX6_init_4 : decode cX6_init 4 = .ok (.aload_n 0, 1) := by decide +kernel
theorem dX6_init_5 : decode cX6_init 5 = .ok (.bipush 10, 2) := by decide +kernel
theorem dX6_init_7 : decode cX6_init 7 = .ok (.newarray .int, 2) := by decide +kernel
theorem dX6_init_9 : decode cX6_init 9 = .ok (.putfield 9, 3) := by decide +kernel
theorem dX6_init_12 : decode cX6_init 12 = .ok (.aload_n 0, 1) := by decide +kernel
theorem dX6_init_13 : decode cX6_init 13 = .ok (.bipush 12, 2) := by decide +kernel
theorem dX6_init_15 : decode cX6_init 15 = .ok (.newarray .int, 2) := by decide +kernel
theorem dX6_init_17 : decode cX6_init 17 = .ok (.putfield 13, 3) := by decide +kernel
theorem dX6_init_20 : decode cX6_init 20 = .ok (.aload_n 0, 1) := by decide +kernel
theorem dX6_init_21 : decode cX6_init 21 = .ok (.bipush 12, 2) := by decide +kernel
theorem dX6_init_23 : decode cX6_init 23 = .ok (.newarray .int, 2) := by decide +kernel
theorem dX6_init_25 : decode cX6_init 25 = .ok (.putfield 16, 3) := by decide +kernel
theorem dX6_init_28 : decode cX6_init 28 = .ok (.aload_n 0, 1) := by decide +kernel
theorem dX6_init_29 : decode cX6_init 29 = .ok (.bipush 30, 2) := by decide +kernel
theorem dX6_init_31 : decode cX6_init 31 = .ok (.newarray .int, 2) := by decide +kernel
theorem dX6_init_33 : decode cX6_init 33 = .ok (.putfield 19, 3) := by decide +kernel
theorem dX6_init_36 : decode cX6_init 36 = .ok (.aload_n 0, 1) := by decide +kernel
theorem dX6_init_37 : decode cX6_init 37 = .ok (.new 22, 3) := by decide +kernel
theorem dX6_init_40 : decode cX6_init 40 = .ok (.dup, 1) := by decide +kernel
theorem dX6_init_41 : decode cX6_init 41 = .ok (.invokespecial 24, 3) := by decide +kernel
theorem dX6_init_44 : decode cX6_init 44 = .ok (.putfield 25, 3) := by decide +kernel
theorem dX6_init_47 : decode cX6_init 47 = .ok (.aload_n 0, 1) := by decide +kernel
theorem dX6_init_48 : decode cX6_init 48 = .ok (.new 22, 3) := by decide +kernel
theorem dX6_init_51 : decode cX6_init 51 = .ok (.dup, 1) := by decide +kernel
theorem dX6_init_52 : decode cX6_init 52 = .ok (.invokespecial 24, 3) := by decide +kernel
theorem dX6_init_55 : decode cX6_init 55 = .ok (.putfield 29, 3) := by decide +kernel
theorem dX6_init_58 : decode cX6_init 58 = .ok (.aload_n 0, 1) := by decide +kernel
theorem dX6_init_59 : decode cX6_init 59 = .ok (.new 22, 3) := by decide +kernel
theorem dX6_init_62 : decode cX6_init 62 = .ok (.dup, 1) := by decide +kernel
theorem dX6_init_63 : decode cX6_init 63 = .ok (.invokespecial 24, 3) := by decide +kernel
theorem dX6_init_66 : decode cX6_init 66 = .ok (.putfield 32, 3) := by decide +kernel
theorem dX6_init_69 : decode cX6_init 69 = .ok (.aload_n 0, 1) := by decide +kernel
theorem dX6_init_70 : decode cX6_init 70 = .ok (.new 35, 3) := by decide +kernel
theorem dX6_init_73 : decode cX6_init 73 = .ok (.dup, 1) := by decide +kernel
theorem dX6_init_74 : decode cX6_init 74 = .ok (.invokespecial 37, 3) := by decide +kernel
theorem dX6_init_77 : decode cX6_init 77 = .ok (.putfield 38, 3) := by decide +kernel
theorem dX6_init_80 : decode cX6_init 80 = .ok (.aload_n 0, 1) := by decide +kernel
theorem dX6_init_81 : decode cX6_init 81 = .ok (.new 42, 3) := by decide +kernel
theorem dX6_init_84 : decode cX6_init 84 = .ok (.dup, 1) := by decide +kernel
theorem dX6_init_85 : decode cX6_init 85 = .ok (.invokespecial 44, 3) := by decide +kernel
theorem dX6_init_88 : decode cX6_init 88 = .ok (.putfield 45, 3) := by decide +kernel
theorem dX6_init_91 : decode cX6_init 91 = .ok (.aload_n 0, 1) := by decide +kernel
theorem dX6_init_92 : decode cX6_init 92 = .ok (.new 22, 3) := by decide +kernel
theorem dX6_init_95 : decode cX6_init 95 = .ok (.dup, 1) := by decide +kernel
theorem dX6_init_96 : decode cX6_init 96 = .ok (.invokespecial 24, 3) := by decide +kernel
theorem dX6_init_99 : decode cX6_init 99 = .ok (.putfield 49, 3) := by decide +kernel
theorem dX6_init_102 : decode cX6_init 102 = .ok (.return_, 1) := by decide +kernel
theorem dX6_purse_0 : decode cX6_purse 0 = .ok (.iload_n 1, 1) := by decide +kernel
theorem dX6_purse_1 : decode cX6_purse 1 = .ok (.invokestatic 52, 3) := by decide +kernel
theorem dX6_purse_4 : decode cX6_purse 4 = .ok (.ifCond .eq 13, 3) := by decide +kernel
theorem dX6_purse_7 : decode cX6_purse 7 = .ok (.iload_n 2, 1) := by decide +kernel
theorem dX6_purse_8 : decode cX6_purse 8 = .ok (.iconst 1, 1) := by decide +kernel
theorem dX6_purse_9 : decode cX6_purse 9 = .ok (.ldc 56, 2) := by decide +kernel
theorem dX6_purse_11 : decode cX6_purse 11 = .ok (.invokestatic 57, 3) := by decide +kernel
theorem dX6_purse_14 : decode cX6_purse 14 = .ok (.ifCond .ne 6, 3) := by decide +kernel
theorem dX6_purse_17 : decode cX6_purse 17 = .ok (.ldc 61, 2) := by decide +kernel
theorem dX6_purse_19 : decode cX6_purse 19 = .ok (.ireturn, 1) := by decide +kernel
theorem dX6_purse_20 : decode cX6_purse 20 = .ok (.aload_n 0, 1) := by decide +kernel
theorem dX6_purse_21 : decode cX6_purse 21 = .ok (.getfield 9, 3) := by decide +kernel
theorem dX6_purse_24 : decode cX6_purse 24 = .ok (.iload_n 1, 1) := by decide +kernel
theorem dX6_purse_25 : decode cX6_purse 25 = .ok (.dup2, 1) := by decide +kernel
theorem dX6_purse_26 : decode cX6_purse 26 = .ok (.iaload, 1) := by decide +kernel
theorem dX6_purse_27 : decode cX6_purse 27 = .ok (.iload_n 2, 1) := by decide +kernel
theorem dX6_purse_28 : decode cX6_purse 28 = .ok (.iadd, 1) := by decide +kernel
theorem dX6_purse_29 : decode cX6_purse 29 = .ok (.iastore, 1) := by decide +kernel
theorem dX6_purse_30 : decode cX6_purse 30 = .ok (.aload_n 0, 1) := by decide +kernel
theorem dX6_purse_31 : decode cX6_purse 31 = .ok (.dup, 1) := by decide +kernel
theorem dX6_purse_32 : decode cX6_purse 32 = .ok (.getfield 62, 3) := by decide +kernel
theorem dX6_purse_35 : decode cX6_purse 35 = .ok (.iload_n 2, 1) := by decide +kernel
theorem dX6_purse_36 : decode cX6_purse 36 = .ok (.iadd, 1) := by decide +kernel
theorem dX6_purse_37 : decode cX6_purse 37 = .ok (.putfield 62, 3) := by decide +kernel
theorem dX6_purse_40 : decode cX6_purse 40 = .ok (.aload_n 0, 1) := by decide +kernel
theorem dX6_purse_41 : decode cX6_purse 41 = .ok (.getfield 9, 3) := by decide +kernel
theorem dX6_purse_44 : decode cX6_purse 44 = .ok (.iload_n 1, 1) := by decide +kernel
theorem dX6_purse_45 : decode cX6_purse 45 = .ok (.iaload, 1) := by decide +kernel
theorem dX6_purse_46 : decode cX6_purse 46 = .ok (.ireturn, 1) := by decide +kernel
theorem dX6_port_0 : decode cX6_port 0 = .ok (.aload_n 0, 1) := by decide +kernel
theorem dX6_port_1 : decode cX6_port 1 = .ok (.getfield 66, 3) := by decide +kernel
theorem dX6_port_4 : decode cX6_port 4 = .ok (.ifCond .ne 7, 3) := by decide +kernel
theorem dX6_port_7 : decode cX6_port 7 = .ok (.iconst 1, 1) := by decide +kernel
theorem dX6_port_8 : decode cX6_port 8 = .ok (.goto 4, 3) := by decide +kernel
theorem dX6_port_11 : decode cX6_port 11 = .ok (.iconst 0, 1) := by decide +kernel
theorem dX6_port_12 : decode cX6_port 12 = .ok (.istore_n 2, 1) := by decide +kernel
theorem dX6_port_13 : decode cX6_port 13 = .ok (.iload_n 2, 1) := by decide +kernel
theorem dX6_port_14 : decode cX6_port 14 = .ok (.ifCond .eq 10, 3) := by decide +kernel
theorem dX6_port_17 : decode cX6_port 17 = .ok (.iload_n 1, 1) := by decide +kernel
theorem dX6_port_18 : decode cX6_port 18 = .ok (.ifCond .eq 18, 3) := by decide +kernel
theorem dX6_port_21 : decode cX6_port 21 = .ok (.goto 13, 3) := by decide +kernel
theorem dX6_port_24 : decode cX6_port 24 = .ok (.iload_n 1, 1) := by decide +kernel
theorem dX6_port_25 : decode cX6_port 25 = .ok (.iconst 1, 1) := by decide +kernel
theorem dX6_port_26 : decode cX6_port 26 = .ok (.bipush 9, 2) := by decide +kernel
theorem dX6_port_28 : decode cX6_port 28 = .ok (.invokestatic 57, 3) := by decide +kernel
theorem dX6_port_31 : decode cX6_port 31 = .ok (.ifCond .ne 5, 3) := by decide +kernel
theorem dX6_port_34 : decode cX6_port 34 = .ok (.iconst (-1), 1) := by decide +kernel
theorem dX6_port_35 : decode cX6_port 35 = .ok (.ireturn, 1) := by decide +kernel
theorem dX6_port_36 : decode cX6_port 36 = .ok (.aload_n 0, 1) := by decide +kernel
theorem dX6_port_37 : decode cX6_port 37 = .ok (.invokevirtual 69, 3) := by decide +kernel
theorem dX6_port_40 : decode cX6_port 40 = .ok (.ifCond .ne 6, 3) := by decide +kernel
theorem dX6_port_43 : decode cX6_port 43 = .ok (.bipush (-2), 2) := by decide +kernel
theorem dX6_port_45 : decode cX6_port 45 = .ok (.ireturn, 1) := by decide +kernel
theorem dX6_port_46 : decode cX6_port 46 = .ok (.aload_n 0, 1) := by decide +kernel
theorem dX6_port_47 : decode cX6_port 47 = .ok (.getfield 66, 3) := by decide +kernel
theorem dX6_port_50 : decode cX6_port 50 = .ok (.bipush 12, 2) := by decide +kernel
theorem dX6_port_52 : decode cX6_port 52 = .ok (.if_icmp .lt 6, 3) := by decide +kernel
theorem dX6_port_55 : decode cX6_port 55 = .ok (.bipush (-3), 2) := by decide +kernel
theorem dX6_port_57 : decode cX6_port 57 = .ok (.ireturn, 1) := by decide +kernel
theorem dX6_port_58 : decode cX6_port 58 = .ok (.aload_n 0, 1) := by decide +kernel
theorem dX6_port_59 : decode cX6_port 59 = .ok (.getfield 66, 3) := by decide +kernel
theorem dX6_port_62 : decode cX6_port 62 = .ok (.istore_n 3, 1) := by decide +kernel
theorem dX6_port_63 : decode cX6_port 63 = .ok (.aload_n 0, 1) := by decide +kernel
theorem dX6_port_64 : decode cX6_port 64 = .ok (.getfield 13, 3) := by decide +kernel
theorem dX6_port_67 : decode cX6_port 67 = .ok (.iload_n 3, 1) := by decide +kernel
theorem dX6_port_68 : decode cX6_port 68 = .ok (.iload_n 1, 1) := by decide +kernel
theorem dX6_port_69 : decode cX6_port 69 = .ok (.iastore, 1) := by decide +kernel
theorem dX6_port_70 : decode cX6_port 70 = .ok (.aload_n 0, 1) := by decide +kernel
theorem dX6_port_71 : decode cX6_port 71 = .ok (.getfield 16, 3) := by decide +kernel
theorem dX6_port_74 : decode cX6_port 74 = .ok (.iload_n 3, 1) := by decide +kernel
theorem dX6_port_75 : decode cX6_port 75 = .ok (.iload_n 2, 1) := by decide +kernel
theorem dX6_port_76 : decode cX6_port 76 = .ok (.ifCond .eq 7, 3) := by decide +kernel
theorem dX6_port_79 : decode cX6_port 79 = .ok (.iconst 0, 1) := by decide +kernel
theorem dX6_port_80 : decode cX6_port 80 = .ok (.goto 13, 3) := by decide +kernel
theorem dX6_port_83 : decode cX6_port 83 = .ok (.aload_n 0, 1) := by decide +kernel
theorem dX6_port_84 : decode cX6_port 84 = .ok (.getfield 16, 3) := by decide +kernel
theorem dX6_port_87 : decode cX6_port 87 = .ok (.iload_n 3, 1) := by decide +kernel
theorem dX6_port_88 : decode cX6_port 88 = .ok (.iconst 1, 1) := by decide +kernel
theorem dX6_port_89 : decode cX6_port 89 = .ok (.isub, 1) := by decide +kernel
theorem dX6_port_90 : decode cX6_port 90 = .ok (.iaload, 1) := by decide +kernel
theorem dX6_port_91 : decode cX6_port 91 = .ok (.iload_n 1, 1) := by decide +kernel
theorem dX6_port_92 : decode cX6_port 92 = .ok (.iadd, 1) := by decide +kernel
theorem dX6_port_93 : decode cX6_port 93 = .ok (.iastore, 1) := by decide +kernel
theorem dX6_port_94 : decode cX6_port 94 = .ok (.aload_n 0, 1) := by decide +kernel
theorem dX6_port_95 : decode cX6_port 95 = .ok (.dup, 1) := by decide +kernel
theorem dX6_port_96 : decode cX6_port 96 = .ok (.getfield 66, 3) := by decide +kernel
theorem dX6_port_99 : decode cX6_port 99 = .ok (.iconst 1, 1) := by decide +kernel
theorem dX6_port_100 : decode cX6_port 100 = .ok (.iadd, 1) := by decide +kernel
theorem dX6_port_101 : decode cX6_port 101 = .ok (.putfield 66, 3) := by decide +kernel
theorem dX6_port_104 : decode cX6_port 104 = .ok (.iload_n 3, 1) := by decide +kernel
theorem dX6_port_105 : decode cX6_port 105 = .ok (.ireturn, 1) := by decide +kernel
theorem dX6_wind_0 : decode cX6_wind 0 = .ok (.iload_n 1, 1) := by decide +kernel
theorem dX6_wind_1 : decode cX6_wind 1 = .ok (.iconst 0, 1) := by decide +kernel
theorem dX6_wind_2 : decode cX6_wind 2 = .ok (.bipush 29, 2) := by decide +kernel
theorem dX6_wind_4 : decode cX6_wind 4 = .ok (.invokestatic 57, 3) := by decide +kernel
theorem dX6_wind_7 : decode cX6_wind 7 = .ok (.ifCond .eq 14, 3) := by decide +kernel
theorem dX6_wind_10 : decode cX6_wind 10 = .ok (.iload_n 2, 1) := by decide +kernel
theorem dX6_wind_11 : decode cX6_wind 11 = .ok (.bipush (-9), 2) := by decide +kernel
theorem dX6_wind_13 : decode cX6_wind 13 = .ok (.bipush 9, 2) := by decide +kernel
theorem dX6_wind_15 : decode cX6_wind 15 = .ok (.invokestatic 57, 3) := by decide +kernel
theorem dX6_wind_18 : decode cX6_wind 18 = .ok (.ifCond .ne 6, 3) := by decide +kernel
theorem dX6_wind_21 : decode cX6_wind 21 = .ok (.bipush (-100), 2) := by decide +kernel
theorem dX6_wind_23 : decode cX6_wind 23 = .ok (.ireturn, 1) := by decide +kernel
theorem dX6_wind_24 : decode cX6_wind 24 = .ok (.aload_n 0, 1) := by decide +kernel
theorem dX6_wind_25 : decode cX6_wind 25 = .ok (.getfield 19, 3) := by decide +kernel
theorem dX6_wind_28 : decode cX6_wind 28 = .ok (.iload_n 1, 1) := by decide +kernel
theorem dX6_wind_29 : decode cX6_wind 29 = .ok (.iaload, 1) := by decide +kernel
theorem dX6_wind_30 : decode cX6_wind 30 = .ok (.istore_n 3, 1) := by decide +kernel
theorem dX6_wind_31 : decode cX6_wind 31 = .ok (.aload_n 0, 1) := by decide +kernel
theorem dX6_wind_32 : decode cX6_wind 32 = .ok (.getfield 19, 3) := by decide +kernel
theorem dX6_wind_35 : decode cX6_wind 35 = .ok (.iload_n 1, 1) := by decide +kernel
theorem dX6_wind_36 : decode cX6_wind 36 = .ok (.iload_n 2, 1) := by decide +kernel
theorem dX6_wind_37 : decode cX6_wind 37 = .ok (.iastore, 1) := by decide +kernel
theorem dX6_wind_38 : decode cX6_wind 38 = .ok (.iload_n 3, 1) := by decide +kernel
theorem dX6_wind_39 : decode cX6_wind 39 = .ok (.ireturn, 1) := by decide +kernel
theorem dX6_galley_0 : decode cX6_galley 0 = .ok (.iload_n 1, 1) := by decide +kernel
theorem dX6_galley_1 : decode cX6_galley 1 = .ok (.iconst 1, 1) := by decide +kernel
theorem dX6_galley_2 : decode cX6_galley 2 = .ok (.sipush 999, 3) := by decide +kernel
theorem dX6_galley_5 : decode cX6_galley 5 = .ok (.invokestatic 57, 3) := by decide +kernel
theorem dX6_galley_8 : decode cX6_galley 8 = .ok (.ifCond .eq 36, 3) := by decide +kernel
theorem dX6_galley_11 : decode cX6_galley 11 = .ok (.iload_n 2, 1) := by decide +kernel
theorem dX6_galley_12 : decode cX6_galley 12 = .ok (.iconst 1, 1) := by decide +kernel
theorem dX6_galley_13 : decode cX6_galley 13 = .ok (.sipush 9999, 3) := by decide +kernel
theorem dX6_galley_16 : decode cX6_galley 16 = .ok (.invokestatic 57, 3) := by decide +kernel
theorem dX6_galley_19 : decode cX6_galley 19 = .ok (.ifCond .eq 25, 3) := by decide +kernel
theorem dX6_galley_22 : decode cX6_galley 22 = .ok (.iload_n 3, 1) := by decide +kernel
theorem dX6_galley_23 : decode cX6_galley 23 = .ok (.iconst 1, 1) := by decide +kernel
theorem dX6_galley_24 : decode cX6_galley 24 = .ok (.bipush 9, 2) := by decide +kernel
theorem dX6_galley_26 : decode cX6_galley 26 = .ok (.invokestatic 57, 3) := by decide +kernel
theorem dX6_galley_29 : decode cX6_galley 29 = .ok (.ifCond .eq 15, 3) := by decide +kernel
theorem dX6_galley_32 : decode cX6_galley 32 = .ok (.iload 4, 2) := by decide +kernel
theorem dX6_galley_34 : decode cX6_galley 34 = .ok (.iconst 1, 1) := by decide +kernel
theorem dX6_galley_35 : decode cX6_galley 35 = .ok (.sipush 9999, 3) := by decide +kernel
theorem dX6_galley_38 : decode cX6_galley 38 = .ok (.invokestatic 57, 3) := by decide +kernel
theorem dX6_galley_41 : decode cX6_galley 41 = .ok (.ifCond .ne 5, 3) := by decide +kernel
theorem dX6_galley_44 : decode cX6_galley 44 = .ok (.iconst (-1), 1) := by decide +kernel
theorem dX6_galley_45 : decode cX6_galley 45 = .ok (.ireturn, 1) := by decide +kernel
theorem dX6_galley_46 : decode cX6_galley 46 = .ok (.aload_n 0, 1) := by decide +kernel
theorem dX6_galley_47 : decode cX6_galley 47 = .ok (.getfield 25, 3) := by decide +kernel
theorem dX6_galley_50 : decode cX6_galley 50 = .ok (.invokevirtual 73, 3) := by decide +kernel
theorem dX6_galley_53 : decode cX6_galley 53 = .ok (.istore 5, 2) := by decide +kernel
theorem dX6_galley_55 : decode cX6_galley 55 = .ok (.iload 5, 2) := by decide +kernel
theorem dX6_galley_57 : decode cX6_galley 57 = .ok (.bipush 8, 2) := by decide +kernel
theorem dX6_galley_59 : decode cX6_galley 59 = .ok (.if_icmp .lt 6, 3) := by decide +kernel
theorem dX6_galley_62 : decode cX6_galley 62 = .ok (.bipush (-3), 2) := by decide +kernel
theorem dX6_galley_64 : decode cX6_galley 64 = .ok (.ireturn, 1) := by decide +kernel
theorem dX6_galley_65 : decode cX6_galley 65 = .ok (.aload_n 0, 1) := by decide +kernel
theorem dX6_galley_66 : decode cX6_galley 66 = .ok (.getfield 25, 3) := by decide +kernel
theorem dX6_galley_69 : decode cX6_galley 69 = .ok (.new 77, 3) := by decide +kernel
theorem dX6_galley_72 : decode cX6_galley 72 = .ok (.dup, 1) := by decide +kernel
theorem dX6_galley_73 : decode cX6_galley 73 = .ok (.iload 5, 2) := by decide +kernel
theorem dX6_galley_75 : decode cX6_galley 75 = .ok (.iload_n 1, 1) := by decide +kernel
theorem dX6_galley_76 : decode cX6_galley 76 = .ok (.iload_n 2, 1) := by decide +kernel
theorem dX6_galley_77 : decode cX6_galley 77 = .ok (.iload_n 3, 1) := by decide +kernel
theorem dX6_galley_78 : decode cX6_galley 78 = .ok (.iload 4, 2) := by decide +kernel
theorem dX6_galley_80 : decode cX6_galley 80 = .ok (.invokespecial 79, 3) := by decide +kernel
theorem dX6_galley_83 : decode cX6_galley 83 = .ok (.invokevirtual 82, 3) := by decide +kernel
theorem dX6_galley_86 : decode cX6_galley 86 = .ok (.pop, 1) := by decide +kernel
theorem dX6_galley_87 : decode cX6_galley 87 = .ok (.iload 5, 2) := by decide +kernel
theorem dX6_galley_89 : decode cX6_galley 89 = .ok (.ireturn, 1) := by decide +kernel
theorem dX6_bid_0 : decode cX6_bid 0 = .ok (.aload_n 0, 1) := by decide +kernel
theorem dX6_bid_1 : decode cX6_bid 1 = .ok (.iload_n 1, 1) := by decide +kernel
theorem dX6_bid_2 : decode cX6_bid 2 = .ok (.invokevirtual 86, 3) := by decide +kernel
theorem dX6_bid_5 : decode cX6_bid 5 = .ok (.astore 4, 2) := by decide +kernel
theorem dX6_bid_7 : decode cX6_bid 7 = .ok (.aload 4, 2) := by decide +kernel
theorem dX6_bid_9 : decode cX6_bid 9 = .ok (.ifnull 20, 3) := by decide +kernel
theorem dX6_bid_12 : decode cX6_bid 12 = .ok (.iload_n 2, 1) := by decide +kernel
theorem dX6_bid_13 : decode cX6_bid 13 = .ok (.invokestatic 52, 3) := by decide +kernel
theorem dX6_bid_16 : decode cX6_bid 16 = .ok (.ifCond .eq 13, 3) := by decide +kernel
theorem dX6_bid_19 : decode cX6_bid 19 = .ok (.iload_n 3, 1) := by decide +kernel
theorem dX6_bid_20 : decode cX6_bid 20 = .ok (.iconst 1, 1) := by decide +kernel
theorem dX6_bid_21 : decode cX6_bid 21 = .ok (.ldc 90, 2) := by decide +kernel
theorem dX6_bid_23 : decode cX6_bid 23 = .ok (.invokestatic 57, 3) := by decide +kernel
theorem dX6_bid_26 : decode cX6_bid 26 = .ok (.ifCond .ne 5, 3) := by decide +kernel
theorem dX6_bid_29 : decode cX6_bid 29 = .ok (.iconst (-1), 1) := by decide +kernel
theorem dX6_bid_30 : decode cX6_bid 30 = .ok (.ireturn, 1) := by decide +kernel
theorem dX6_bid_31 : decode cX6_bid 31 = .ok (.aload 4, 2) := by decide +kernel
theorem dX6_bid_33 : decode cX6_bid 33 = .ok (.getfield 91, 3) := by decide +kernel
theorem dX6_bid_36 : decode cX6_bid 36 = .ok (.ifCond .ne 22, 3) := by decide +kernel
theorem dX6_bid_39 : decode cX6_bid 39 = .ok (.iload_n 3, 1) := by decide +kernel
theorem dX6_bid_40 : decode cX6_bid 40 = .ok (.aload 4, 2) := by decide +kernel
theorem dX6_bid_42 : decode cX6_bid 42 = .ok (.getfield 95, 3) := by decide +kernel
theorem dX6_bid_45 : decode cX6_bid 45 = .ok (.if_icmp .le 13, 3) := by decide +kernel
theorem dX6_bid_48 : decode cX6_bid 48 = .ok (.aload_n 0, 1) := by decide +kernel
theorem dX6_bid_49 : decode cX6_bid 49 = .ok (.getfield 9, 3) := by decide +kernel
theorem dX6_bid_52 : decode cX6_bid 52 = .ok (.iload_n 2, 1) := by decide +kernel
theorem dX6_bid_53 : decode cX6_bid 53 = .ok (.iaload, 1) := by decide +kernel
theorem dX6_bid_54 : decode cX6_bid 54 = .ok (.iload_n 3, 1) := by decide +kernel
theorem dX6_bid_55 : decode cX6_bid 55 = .ok (.if_icmp .ge 6, 3) := by decide +kernel
theorem dX6_bid_58 : decode cX6_bid 58 = .ok (.bipush (-2), 2) := by decide +kernel
theorem dX6_bid_60 : decode cX6_bid 60 = .ok (.ireturn, 1) := by decide +kernel
theorem dX6_bid_61 : decode cX6_bid 61 = .ok (.aload 4, 2) := by decide +kernel
theorem dX6_bid_63 : decode cX6_bid 63 = .ok (.iload_n 3, 1) := by decide +kernel
theorem dX6_bid_64 : decode cX6_bid 64 = .ok (.putfield 95, 3) := by decide +kernel
theorem dX6_bid_67 : decode cX6_bid 67 = .ok (.aload 4, 2) := by decide +kernel
theorem dX6_bid_69 : decode cX6_bid 69 = .ok (.iload_n 2, 1) := by decide +kernel
theorem dX6_bid_70 : decode cX6_bid 70 = .ok (.putfield 98, 3) := by decide +kernel
theorem dX6_bid_73 : decode cX6_bid 73 = .ok (.iconst 1, 1) := by decide +kernel
theorem dX6_bid_74 : decode cX6_bid 74 = .ok (.ireturn, 1) := by decide +kernel
theorem dX6_let_0 : decode cX6_let 0 = .ok (.aload_n 0, 1) := by decide +kernel
theorem dX6_let_1 : decode cX6_let 1 = .ok (.iload_n 1, 1) := by decide +kernel
theorem dX6_let_2 : decode cX6_let 2 = .ok (.invokevirtual 86, 3) := by decide +kernel
theorem dX6_let_5 : decode cX6_let 5 = .ok (.astore_n 2, 1) := by decide +kernel
theorem dX6_let_6 : decode cX6_let 6 = .ok (.aload_n 2, 1) := by decide +kernel
theorem dX6_let_7 : decode cX6_let 7 = .ok (.ifnonnull 5, 3) := by decide +kernel
theorem dX6_let_10 : decode cX6_let 10 = .ok (.iconst (-1), 1) := by decide +kernel
theorem dX6_let_11 : decode cX6_let 11 = .ok (.ireturn, 1) := by decide +kernel
theorem dX6_let_12 : decode cX6_let 12 = .ok (.aload_n 2, 1) := by decide +kernel
theorem dX6_let_13 : decode cX6_let 13 = .ok (.getfield 91, 3) := by decide +kernel
theorem dX6_let_16 : decode cX6_let 16 = .ok (.ifCond .ne 10, 3) := by decide +kernel
theorem dX6_let_19 : decode cX6_let 19 = .ok (.aload_n 2, 1) := by decide +kernel
theorem dX6_let_20 : decode cX6_let 20 = .ok (.getfield 95, 3) := by decide +kernel
theorem dX6_let_23 : decode cX6_let 23 = .ok (.ifCond .ne 6, 3) := by decide +kernel
theorem dX6_let_26 : decode cX6_let 26 = .ok (.bipush (-2), 2) := by decide +kernel
theorem dX6_let_28 : decode cX6_let 28 = .ok (.ireturn, 1) := by decide +kernel
theorem dX6_let_29 : decode cX6_let 29 = .ok (.aload_n 2, 1) := by decide +kernel
theorem dX6_let_30 : decode cX6_let 30 = .ok (.getfield 98, 3) := by decide +kernel
theorem dX6_let_33 : decode cX6_let 33 = .ok (.istore_n 3, 1) := by decide +kernel
theorem dX6_let_34 : decode cX6_let 34 = .ok (.aload_n 0, 1) := by decide +kernel
theorem dX6_let_35 : decode cX6_let 35 = .ok (.getfield 9, 3) := by decide +kernel
theorem dX6_let_38 : decode cX6_let 38 = .ok (.iload_n 3, 1) := by decide +kernel
theorem dX6_let_39 : decode cX6_let 39 = .ok (.iaload, 1) := by decide +kernel
theorem dX6_let_40 : decode cX6_let 40 = .ok (.aload_n 2, 1) := by decide +kernel
theorem dX6_let_41 : decode cX6_let 41 = .ok (.getfield 95, 3) := by decide +kernel
theorem dX6_let_44 : decode cX6_let 44 = .ok (.if_icmp .ge 11, 3) := by decide +kernel
theorem dX6_let_47 : decode cX6_let 47 = .ok (.aload_n 2, 1) := by decide +kernel
theorem dX6_let_48 : decode cX6_let 48 = .ok (.iconst 0, 1) := by decide +kernel
theorem dX6_let_49 : decode cX6_let 49 = .ok (.putfield 95, 3) := by decide +kernel
theorem dX6_let_52 : decode cX6_let 52 = .ok (.bipush (-2), 2) := by decide +kernel
theorem dX6_let_54 : decode cX6_let 54 = .ok (.ireturn, 1) := by decide +kernel
theorem dX6_let_55 : decode cX6_let 55 = .ok (.aload_n 0, 1) := by decide +kernel
theorem dX6_let_56 : decode cX6_let 56 = .ok (.getfield 9, 3) := by decide +kernel
theorem dX6_let_59 : decode cX6_let 59 = .ok (.iload_n 3, 1) := by decide +kernel
theorem dX6_let_60 : decode cX6_let 60 = .ok (.dup2, 1) := by decide +kernel
theorem dX6_let_61 : decode cX6_let 61 = .ok (.iaload, 1) := by decide +kernel
theorem dX6_let_62 : decode cX6_let 62 = .ok (.aload_n 2, 1) := by decide +kernel
theorem dX6_let_63 : decode cX6_let 63 = .ok (.getfield 95, 3) := by decide +kernel
theorem dX6_let_66 : decode cX6_let 66 = .ok (.isub, 1) := by decide +kernel
theorem dX6_let_67 : decode cX6_let 67 = .ok (.iastore, 1) := by decide +kernel
theorem dX6_let_68 : decode cX6_let 68 = .ok (.aload_n 0, 1) := by decide +kernel
theorem dX6_let_69 : decode cX6_let 69 = .ok (.dup, 1) := by decide +kernel
theorem dX6_let_70 : decode cX6_let 70 = .ok (.getfield 101, 3) := by decide +kernel
theorem dX6_let_73 : decode cX6_let 73 = .ok (.aload_n 2, 1) := by decide +kernel
theorem dX6_let_74 : decode cX6_let 74 = .ok (.getfield 95, 3) := by decide +kernel
theorem dX6_let_77 : decode cX6_let 77 = .ok (.iadd, 1) := by decide +kernel
theorem dX6_let_78 : decode cX6_let 78 = .ok (.putfield 101, 3) := by decide +kernel
theorem dX6_let_81 : decode cX6_let 81 = .ok (.aload_n 2, 1) := by decide +kernel
theorem dX6_let_82 : decode cX6_let 82 = .ok (.iload_n 3, 1) := by decide +kernel
theorem dX6_let_83 : decode cX6_let 83 = .ok (.invokevirtual 104, 3) := by decide +kernel
theorem dX6_let_86 : decode cX6_let 86 = .ok (.iload_n 3, 1) := by decide +kernel
theorem dX6_let_87 : decode cX6_let 87 = .ok (.ireturn, 1) := by decide +kernel
theorem dX6_part_0 : decode cX6_part 0 = .ok (.aload_n 0, 1) := by decide +kernel
theorem dX6_part_1 : decode cX6_part 1 = .ok (.iload_n 1, 1) := by decide +kernel
theorem dX6_part_2 : decode cX6_part 2 = .ok (.invokevirtual 86, 3) := by decide +kernel
theorem dX6_part_5 : decode cX6_part 5 = .ok (.astore 5, 2) := by decide +kernel
theorem dX6_part_7 : decode cX6_part 7 = .ok (.aload 5, 2) := by decide +kernel
theorem dX6_part_9 : decode cX6_part 9 = .ok (.ifnull 33, 3) := by decide +kernel
theorem dX6_part_12 : decode cX6_part 12 = .ok (.iload_n 2, 1) := by decide +kernel
theorem dX6_part_13 : decode cX6_part 13 = .ok (.invokestatic 52, 3) := by decide +kernel
theorem dX6_part_16 : decode cX6_part 16 = .ok (.ifCond .eq 26, 3) := by decide +kernel
theorem dX6_part_19 : decode cX6_part 19 = .ok (.iload_n 3, 1) := by decide +kernel
theorem dX6_part_20 : decode cX6_part 20 = .ok (.invokestatic 52, 3) := by decide +kernel
theorem dX6_part_23 : decode cX6_part 23 = .ok (.ifCond .eq 19, 3) := by decide +kernel
theorem dX6_part_26 : decode cX6_part 26 = .ok (.iload_n 2, 1) := by decide +kernel
theorem dX6_part_27 : decode cX6_part 27 = .ok (.iload_n 3, 1) := by decide +kernel
theorem dX6_part_28 : decode cX6_part 28 = .ok (.if_icmp .eq 14, 3) := by decide +kernel
theorem dX6_part_31 : decode cX6_part 31 = .ok (.iload 4, 2) := by decide +kernel
theorem dX6_part_33 : decode cX6_part 33 = .ok (.iconst 1, 1) := by decide +kernel
theorem dX6_part_34 : decode cX6_part 34 = .ok (.bipush 24, 2) := by decide +kernel
theorem dX6_part_36 : decode cX6_part 36 = .ok (.invokestatic 57, 3) := by decide +kernel
theorem dX6_part_39 : decode cX6_part 39 = .ok (.ifCond .ne 5, 3) := by decide +kernel
theorem dX6_part_42 : decode cX6_part 42 = .ok (.iconst (-1), 1) := by decide +kernel
theorem dX6_part_43 : decode cX6_part 43 = .ok (.ireturn, 1) := by decide +kernel
theorem dX6_part_44 : decode cX6_part 44 = .ok (.aload 5, 2) := by decide +kernel
theorem dX6_part_46 : decode cX6_part 46 = .ok (.getfield 108, 3) := by decide +kernel
theorem dX6_part_49 : decode cX6_part 49 = .ok (.iload_n 2, 1) := by decide +kernel
theorem dX6_part_50 : decode cX6_part 50 = .ok (.iaload, 1) := by decide +kernel
theorem dX6_part_51 : decode cX6_part 51 = .ok (.iload 4, 2) := by decide +kernel
theorem dX6_part_53 : decode cX6_part 53 = .ok (.if_icmp .ge 6, 3) := by decide +kernel
theorem dX6_part_56 : decode cX6_part 56 = .ok (.bipush (-2), 2) := by decide +kernel
theorem dX6_part_58 : decode cX6_part 58 = .ok (.ireturn, 1) := by decide +kernel
theorem dX6_part_59 : decode cX6_part 59 = .ok (.aload 5, 2) := by decide +kernel
theorem dX6_part_61 : decode cX6_part 61 = .ok (.getfield 108, 3) := by decide +kernel
theorem dX6_part_64 : decode cX6_part 64 = .ok (.iload_n 2, 1) := by decide +kernel
theorem dX6_part_65 : decode cX6_part 65 = .ok (.dup2, 1) := by decide +kernel
theorem dX6_part_66 : decode cX6_part 66 = .ok (.iaload, 1) := by decide +kernel
theorem dX6_part_67 : decode cX6_part 67 = .ok (.iload 4, 2) := by decide +kernel
theorem dX6_part_69 : decode cX6_part 69 = .ok (.isub, 1) := by decide +kernel
theorem dX6_part_70 : decode cX6_part 70 = .ok (.iastore, 1) := by decide +kernel
theorem dX6_part_71 : decode cX6_part 71 = .ok (.aload 5, 2) := by decide +kernel
theorem dX6_part_73 : decode cX6_part 73 = .ok (.getfield 108, 3) := by decide +kernel
theorem dX6_part_76 : decode cX6_part 76 = .ok (.iload_n 3, 1) := by decide +kernel
theorem dX6_part_77 : decode cX6_part 77 = .ok (.dup2, 1) := by decide +kernel
theorem dX6_part_78 : decode cX6_part 78 = .ok (.iaload, 1) := by decide +kernel
theorem dX6_part_79 : decode cX6_part 79 = .ok (.iload 4, 2) := by decide +kernel
theorem dX6_part_81 : decode cX6_part 81 = .ok (.iadd, 1) := by decide +kernel
theorem dX6_part_82 : decode cX6_part 82 = .ok (.iastore, 1) := by decide +kernel
theorem dX6_part_83 : decode cX6_part 83 = .ok (.aload 5, 2) := by decide +kernel
theorem dX6_part_85 : decode cX6_part 85 = .ok (.getfield 108, 3) := by decide +kernel
theorem dX6_part_88 : decode cX6_part 88 = .ok (.iload_n 3, 1) := by decide +kernel
theorem dX6_part_89 : decode cX6_part 89 = .ok (.iaload, 1) := by decide +kernel
theorem dX6_part_90 : decode cX6_part 90 = .ok (.ireturn, 1) := by decide +kernel
theorem dX6_parts_0 : decode cX6_parts 0 = .ok (.aload_n 0, 1) := by decide +kernel
theorem dX6_parts_1 : decode cX6_parts 1 = .ok (.iload_n 1, 1) := by decide +kernel
theorem dX6_parts_2 : decode cX6_parts 2 = .ok (.invokevirtual 86, 3) := by decide +kernel
theorem dX6_parts_5 : decode cX6_parts 5 = .ok (.astore_n 3, 1) := by decide +kernel
theorem dX6_parts_6 : decode cX6_parts 6 = .ok (.aload_n 3, 1) := by decide +kernel
theorem dX6_parts_7 : decode cX6_parts 7 = .ok (.ifnull 15, 3) := by decide +kernel
theorem dX6_parts_10 : decode cX6_parts 10 = .ok (.iload_n 2, 1) := by decide +kernel
theorem dX6_parts_11 : decode cX6_parts 11 = .ok (.iconst (-1), 1) := by decide +kernel
theorem dX6_parts_12 : decode cX6_parts 12 = .ok (.if_icmp .eq 12, 3) := by decide +kernel
theorem dX6_parts_15 : decode cX6_parts 15 = .ok (.iload_n 2, 1) := by decide +kernel
theorem dX6_parts_16 : decode cX6_parts 16 = .ok (.invokestatic 52, 3) := by decide +kernel
theorem dX6_parts_19 : decode cX6_parts 19 = .ok (.ifCond .ne 5, 3) := by decide +kernel
theorem dX6_parts_22 : decode cX6_parts 22 = .ok (.iconst (-1), 1) := by decide +kernel
theorem dX6_parts_23 : decode cX6_parts 23 = .ok (.ireturn, 1) := by decide +kernel
theorem dX6_parts_24 : decode cX6_parts 24 = .ok (.aload_n 3, 1) := by decide +kernel
theorem dX6_parts_25 : decode cX6_parts 25 = .ok (.getfield 108, 3) := by decide +kernel
theorem dX6_parts_28 : decode cX6_parts 28 = .ok (.iload_n 2, 1) := by decide +kernel
theorem dX6_parts_29 : decode cX6_parts 29 = .ok (.iconst (-1), 1) := by decide +kernel
theorem dX6_parts_30 : decode cX6_parts 30 = .ok (.if_icmp .ne 8, 3) := by decide +kernel
theorem dX6_parts_33 : decode cX6_parts 33 = .ok (.bipush 10, 2) := by decide +kernel
theorem dX6_parts_35 : decode cX6_parts 35 = .ok (.goto 4, 3) := by decide +kernel
theorem dX6_parts_38 : decode cX6_parts 38 = .ok (.iload_n 2, 1) := by decide +kernel
theorem dX6_parts_39 : decode cX6_parts 39 = .ok (.iaload, 1) := by decide +kernel
theorem dX6_parts_40 : decode cX6_parts 40 = .ok (.ireturn, 1) := by decide +kernel
theorem dX6_bale_0 : decode cX6_bale 0 = .ok (.iload_n 1, 1) := by decide +kernel
theorem dX6_bale_1 : decode cX6_bale 1 = .ok (.invokestatic 52, 3) := by decide +kernel
theorem dX6_bale_4 : decode cX6_bale 4 = .ok (.ifCond .eq 26, 3) := by decide +kernel
theorem dX6_bale_7 : decode cX6_bale 7 = .ok (.aload_n 0, 1) := by decide +kernel
theorem dX6_bale_8 : decode cX6_bale 8 = .ok (.iload_n 2, 1) := by decide +kernel
theorem dX6_bale_9 : decode cX6_bale 9 = .ok (.invokevirtual 111, 3) := by decide +kernel
theorem dX6_bale_12 : decode cX6_bale 12 = .ok (.ifCond .eq 18, 3) := by decide +kernel
theorem dX6_bale_15 : decode cX6_bale 15 = .ok (.iload_n 3, 1) := by decide +kernel
theorem dX6_bale_16 : decode cX6_bale 16 = .ok (.invokestatic 114, 3) := by decide +kernel
theorem dX6_bale_19 : decode cX6_bale 19 = .ok (.ifCond .eq 11, 3) := by decide +kernel
theorem dX6_bale_22 : decode cX6_bale 22 = .ok (.iload 4, 2) := by decide +kernel
theorem dX6_bale_24 : decode cX6_bale 24 = .ok (.invokestatic 117, 3) := by decide +kernel
theorem dX6_bale_27 : decode cX6_bale 27 = .ok (.ifCond .ne 5, 3) := by decide +kernel
theorem dX6_bale_30 : decode cX6_bale 30 = .ok (.iconst (-1), 1) := by decide +kernel
theorem dX6_bale_31 : decode cX6_bale 31 = .ok (.ireturn, 1) := by decide +kernel
theorem dX6_bale_32 : decode cX6_bale 32 = .ok (.aload_n 0, 1) := by decide +kernel
theorem dX6_bale_33 : decode cX6_bale 33 = .ok (.getfield 29, 3) := by decide +kernel
theorem dX6_bale_36 : decode cX6_bale 36 = .ok (.invokevirtual 73, 3) := by decide +kernel
theorem dX6_bale_39 : decode cX6_bale 39 = .ok (.istore 5, 2) := by decide +kernel
theorem dX6_bale_41 : decode cX6_bale 41 = .ok (.iload 5, 2) := by decide +kernel
theorem dX6_bale_43 : decode cX6_bale 43 = .ok (.sipush 300, 3) := by decide +kernel
theorem dX6_bale_46 : decode cX6_bale 46 = .ok (.if_icmp .lt 6, 3) := by decide +kernel
theorem dX6_bale_49 : decode cX6_bale 49 = .ok (.bipush (-3), 2) := by decide +kernel
theorem dX6_bale_51 : decode cX6_bale 51 = .ok (.ireturn, 1) := by decide +kernel
theorem dX6_bale_52 : decode cX6_bale 52 = .ok (.aload_n 0, 1) := by decide +kernel
theorem dX6_bale_53 : decode cX6_bale 53 = .ok (.getfield 29, 3) := by decide +kernel
theorem dX6_bale_56 : decode cX6_bale 56 = .ok (.new 120, 3) := by decide +kernel
theorem dX6_bale_59 : decode cX6_bale 59 = .ok (.dup, 1) := by decide +kernel
theorem dX6_bale_60 : decode cX6_bale 60 = .ok (.iload_n 1, 1) := by decide +kernel
theorem dX6_bale_61 : decode cX6_bale 61 = .ok (.iload_n 2, 1) := by decide +kernel
theorem dX6_bale_62 : decode cX6_bale 62 = .ok (.iload_n 3, 1) := by decide +kernel
theorem dX6_bale_63 : decode cX6_bale 63 = .ok (.iload 4, 2) := by decide +kernel
theorem dX6_bale_65 : decode cX6_bale 65 = .ok (.aload_n 0, 1) := by decide +kernel
theorem dX6_bale_66 : decode cX6_bale 66 = .ok (.getfield 122, 3) := by decide +kernel
theorem dX6_bale_69 : decode cX6_bale 69 = .ok (.invokespecial 125, 3) := by decide +kernel
theorem dX6_bale_72 : decode cX6_bale 72 = .ok (.invokevirtual 82, 3) := by decide +kernel
theorem dX6_bale_75 : decode cX6_bale 75 = .ok (.pop, 1) := by decide +kernel
theorem dX6_bale_76 : decode cX6_bale 76 = .ok (.iload 5, 2) := by decide +kernel
theorem dX6_bale_78 : decode cX6_bale 78 = .ok (.ireturn, 1) := by decide +kernel
theorem dX6_about_0 : decode cX6_about 0 = .ok (.aload_n 0, 1) := by decide +kernel
theorem dX6_about_1 : decode cX6_about 1 = .ok (.iload_n 1, 1) := by decide +kernel
theorem dX6_about_2 : decode cX6_about 2 = .ok (.invokevirtual 126, 3) := by decide +kernel
theorem dX6_about_5 : decode cX6_about 5 = .ok (.astore_n 3, 1) := by decide +kernel
theorem dX6_about_6 : decode cX6_about 6 = .ok (.aload_n 3, 1) := by decide +kernel
theorem dX6_about_7 : decode cX6_about 7 = .ok (.ifnonnull 7, 3) := by decide +kernel
theorem dX6_about_10 : decode cX6_about 10 = .ok (.iconst (-1), 1) := by decide +kernel
theorem dX6_about_11 : decode cX6_about 11 = .ok (.goto 8, 3) := by decide +kernel
theorem dX6_about_14 : decode cX6_about 14 = .ok (.aload_n 3, 1) := by decide +kernel
theorem dX6_about_15 : decode cX6_about 15 = .ok (.iload_n 2, 1) := by decide +kernel
theorem dX6_about_16 : decode cX6_about 16 = .ok (.invokevirtual 130, 3) := by decide +kernel
theorem dX6_about_19 : decode cX6_about 19 = .ok (.ireturn, 1) := by decide +kernel
theorem dX6_feed_0 : decode cX6_feed 0 = .ok (.iload_n 1, 1) := by decide +kernel
theorem dX6_feed_1 : decode cX6_feed 1 = .ok (.iconst 1, 1) := by decide +kernel
theorem dX6_feed_2 : decode cX6_feed 2 = .ok (.iconst 4, 1) := by decide +kernel
theorem dX6_feed_3 : decode cX6_feed 3 = .ok (.invokestatic 57, 3) := by decide +kernel
theorem dX6_feed_6 : decode cX6_feed 6 = .ok (.ifCond .ne 5, 3) := by decide +kernel
theorem dX6_feed_9 : decode cX6_feed 9 = .ok (.iconst (-1), 1) := by decide +kernel
theorem dX6_feed_10 : decode cX6_feed 10 = .ok (.ireturn, 1) := by decide +kernel
theorem dX6_feed_11 : decode cX6_feed 11 = .ok (.aload_n 0, 1) := by decide +kernel
theorem dX6_feed_12 : decode cX6_feed 12 = .ok (.getfield 38, 3) := by decide +kernel
theorem dX6_feed_15 : decode cX6_feed 15 = .ok (.getfield 134, 3) := by decide +kernel
theorem dX6_feed_18 : decode cX6_feed 18 = .ok (.getfield 138, 3) := by decide +kernel
theorem dX6_feed_21 : decode cX6_feed 21 = .ok (.iload_n 1, 1) := by decide +kernel
theorem dX6_feed_22 : decode cX6_feed 22 = .ok (.iadd, 1) := by decide +kernel
theorem dX6_feed_23 : decode cX6_feed 23 = .ok (.sipush 200, 3) := by decide +kernel
theorem dX6_feed_26 : decode cX6_feed 26 = .ok (.if_icmp .le 6, 3) := by decide +kernel
theorem dX6_feed_29 : decode cX6_feed 29 = .ok (.bipush (-3), 2) := by decide +kernel
theorem dX6_feed_31 : decode cX6_feed 31 = .ok (.ireturn, 1) := by decide +kernel
theorem dX6_feed_32 : decode cX6_feed 32 = .ok (.aload_n 0, 1) := by decide +kernel
theorem dX6_feed_33 : decode cX6_feed 33 = .ok (.getfield 38, 3) := by decide +kernel
theorem dX6_feed_36 : decode cX6_feed 36 = .ok (.getfield 134, 3) := by decide +kernel
theorem dX6_feed_39 : decode cX6_feed 39 = .ok (.iload_n 1, 1) := by decide +kernel
theorem dX6_feed_40 : decode cX6_feed 40 = .ok (.iload_n 2, 1) := by decide +kernel
theorem dX6_feed_41 : decode cX6_feed 41 = .ok (.invokevirtual 143, 3) := by decide +kernel
theorem dX6_feed_44 : decode cX6_feed 44 = .ok (.aload_n 0, 1) := by decide +kernel
theorem dX6_feed_45 : decode cX6_feed 45 = .ok (.getfield 38, 3) := by decide +kernel
theorem dX6_feed_48 : decode cX6_feed 48 = .ok (.getfield 134, 3) := by decide +kernel
theorem dX6_feed_51 : decode cX6_feed 51 = .ok (.getfield 138, 3) := by decide +kernel
theorem dX6_feed_54 : decode cX6_feed 54 = .ok (.ireturn, 1) := by decide +kernel
theorem dX6_vote_0 : decode cX6_vote 0 = .ok (.iload_n 1, 1) := by decide +kernel
theorem dX6_vote_1 : decode cX6_vote 1 = .ok (.invokestatic 147, 3) := by decide +kernel
theorem dX6_vote_4 : decode cX6_vote 4 = .ok (.ifCond .ne 5, 3) := by decide +kernel
theorem dX6_vote_7 : decode cX6_vote 7 = .ok (.iconst (-1), 1) := by decide +kernel
theorem dX6_vote_8 : decode cX6_vote 8 = .ok (.ireturn, 1) := by decide +kernel
theorem dX6_vote_9 : decode cX6_vote 9 = .ok (.aload_n 0, 1) := by decide +kernel
theorem dX6_vote_10 : decode cX6_vote 10 = .ok (.getfield 32, 3) := by decide +kernel
theorem dX6_vote_13 : decode cX6_vote 13 = .ok (.invokevirtual 73, 3) := by decide +kernel
theorem dX6_vote_16 : decode cX6_vote 16 = .ok (.bipush 30, 2) := by decide +kernel
theorem dX6_vote_18 : decode cX6_vote 18 = .ok (.if_icmp .lt 6, 3) := by decide +kernel
theorem dX6_vote_21 : decode cX6_vote 21 = .ok (.bipush (-3), 2) := by decide +kernel
theorem dX6_vote_23 : decode cX6_vote 23 = .ok (.ireturn, 1) := by decide +kernel
theorem dX6_vote_24 : decode cX6_vote 24 = .ok (.aload_n 0, 1) := by decide +kernel
theorem dX6_vote_25 : decode cX6_vote 25 = .ok (.getfield 38, 3) := by decide +kernel
theorem dX6_vote_28 : decode cX6_vote 28 = .ok (.invokevirtual 150, 3) := by decide +kernel
theorem dX6_vote_31 : decode cX6_vote 31 = .ok (.istore_n 2, 1) := by decide +kernel
theorem dX6_vote_32 : decode cX6_vote 32 = .ok (.aload_n 0, 1) := by decide +kernel
theorem dX6_vote_33 : decode cX6_vote 33 = .ok (.getfield 38, 3) := by decide +kernel
theorem dX6_vote_36 : decode cX6_vote 36 = .ok (.getfield 134, 3) := by decide +kernel
theorem dX6_vote_39 : decode cX6_vote 39 = .ok (.iconst 0, 1) := by decide +kernel
theorem dX6_vote_40 : decode cX6_vote 40 = .ok (.putfield 138, 3) := by decide +kernel
theorem dX6_vote_43 : decode cX6_vote 43 = .ok (.iload_n 2, 1) := by decide +kernel
theorem dX6_vote_44 : decode cX6_vote 44 = .ok (.iconst (-1), 1) := by decide +kernel
theorem dX6_vote_45 : decode cX6_vote 45 = .ok (.if_icmp .eq 8, 3) := by decide +kernel
theorem dX6_vote_48 : decode cX6_vote 48 = .ok (.bipush (-100), 2) := by decide +kernel
theorem dX6_vote_50 : decode cX6_vote 50 = .ok (.iload_n 2, 1) := by decide +kernel
theorem dX6_vote_51 : decode cX6_vote 51 = .ok (.isub, 1) := by decide +kernel
theorem dX6_vote_52 : decode cX6_vote 52 = .ok (.ireturn, 1) := by decide +kernel
theorem dX6_vote_53 : decode cX6_vote 53 = .ok (.aload_n 0, 1) := by decide +kernel
theorem dX6_vote_54 : decode cX6_vote 54 = .ok (.getfield 32, 3) := by decide +kernel
theorem dX6_vote_57 : decode cX6_vote 57 = .ok (.new 153, 3) := by decide +kernel
theorem dX6_vote_60 : decode cX6_vote 60 = .ok (.dup, 1) := by decide +kernel
theorem dX6_vote_61 : decode cX6_vote 61 = .ok (.iload_n 1, 1) := by decide +kernel
theorem dX6_vote_62 : decode cX6_vote 62 = .ok (.aload_n 0, 1) := by decide +kernel
theorem dX6_vote_63 : decode cX6_vote 63 = .ok (.getfield 122, 3) := by decide +kernel
theorem dX6_vote_66 : decode cX6_vote 66 = .ok (.aload_n 0, 1) := by decide +kernel
theorem dX6_vote_67 : decode cX6_vote 67 = .ok (.getfield 38, 3) := by decide +kernel
theorem dX6_vote_70 : decode cX6_vote 70 = .ok (.invokevirtual 155, 3) := by decide +kernel
theorem dX6_vote_73 : decode cX6_vote 73 = .ok (.invokespecial 159, 3) := by decide +kernel
theorem dX6_vote_76 : decode cX6_vote 76 = .ok (.invokevirtual 82, 3) := by decide +kernel
theorem dX6_vote_79 : decode cX6_vote 79 = .ok (.pop, 1) := by decide +kernel
theorem dX6_vote_80 : decode cX6_vote 80 = .ok (.aload_n 0, 1) := by decide +kernel
theorem dX6_vote_81 : decode cX6_vote 81 = .ok (.getfield 32, 3) := by decide +kernel
theorem dX6_vote_84 : decode cX6_vote 84 = .ok (.invokevirtual 73, 3) := by decide +kernel
theorem dX6_vote_87 : decode cX6_vote 87 = .ok (.ireturn, 1) := by decide +kernel
theorem dX6_known_0 : decode cX6_known 0 = .ok (.iload_n 1, 1) := by decide +kernel
theorem dX6_known_1 : decode cX6_known 1 = .ok (.invokestatic 147, 3) := by decide +kernel
theorem dX6_known_4 : decode cX6_known 4 = .ok (.ifCond .eq 17, 3) := by decide +kernel
theorem dX6_known_7 : decode cX6_known 7 = .ok (.iload_n 2, 1) := by decide +kernel
theorem dX6_known_8 : decode cX6_known 8 = .ok (.iconst 0, 1) := by decide +kernel
theorem dX6_known_9 : decode cX6_known 9 = .ok (.aload_n 0, 1) := by decide +kernel
theorem dX6_known_10 : decode cX6_known 10 = .ok (.getfield 66, 3) := by decide +kernel
theorem dX6_known_13 : decode cX6_known 13 = .ok (.iconst 1, 1) := by decide +kernel
theorem dX6_known_14 : decode cX6_known 14 = .ok (.isub, 1) := by decide +kernel
theorem dX6_known_15 : decode cX6_known 15 = .ok (.invokestatic 57, 3) := by decide +kernel
theorem dX6_known_18 : decode cX6_known 18 = .ok (.ifCond .ne 5, 3) := by decide +kernel
theorem dX6_known_21 : decode cX6_known 21 = .ok (.iconst (-1), 1) := by decide +kernel
theorem dX6_known_22 : decode cX6_known 22 = .ok (.ireturn, 1) := by decide +kernel
theorem dX6_known_23 : decode cX6_known 23 = .ok (.aload_n 0, 1) := by decide +kernel
theorem dX6_known_24 : decode cX6_known 24 = .ok (.iload_n 1, 1) := by decide +kernel
theorem dX6_known_25 : decode cX6_known 25 = .ok (.iload_n 2, 1) := by decide +kernel
theorem dX6_known_26 : decode cX6_known 26 = .ok (.invokevirtual 162, 3) := by decide +kernel
theorem dX6_known_29 : decode cX6_known 29 = .ok (.ireturn, 1) := by decide +kernel
theorem dX6_says_0 : decode cX6_says 0 = .ok (.aload_n 0, 1) := by decide +kernel
theorem dX6_says_1 : decode cX6_says 1 = .ok (.iload_n 2, 1) := by decide +kernel
theorem dX6_says_2 : decode cX6_says 2 = .ok (.invokevirtual 86, 3) := by decide +kernel
theorem dX6_says_5 : decode cX6_says 5 = .ok (.astore 4, 2) := by decide +kernel
theorem dX6_says_7 : decode cX6_says 7 = .ok (.iload_n 1, 1) := by decide +kernel
theorem dX6_says_8 : decode cX6_says 8 = .ok (.invokestatic 147, 3) := by decide +kernel
theorem dX6_says_11 : decode cX6_says 11 = .ok (.ifCond .eq 17, 3) := by decide +kernel
theorem dX6_says_14 : decode cX6_says 14 = .ok (.aload 4, 2) := by decide +kernel
theorem dX6_says_16 : decode cX6_says 16 = .ok (.ifnull 12, 3) := by decide +kernel
theorem dX6_says_19 : decode cX6_says 19 = .ok (.aload 4, 2) := by decide +kernel
theorem dX6_says_21 : decode cX6_says 21 = .ok (.getfield 166, 3) := by decide +kernel
theorem dX6_says_24 : decode cX6_says 24 = .ok (.iconst 1, 1) := by decide +kernel
theorem dX6_says_25 : decode cX6_says 25 = .ok (.if_icmp .eq 6, 3) := by decide +kernel
theorem dX6_says_28 : decode cX6_says 28 = .ok (.ldc 61, 2) := by decide +kernel
theorem dX6_says_30 : decode cX6_says 30 = .ok (.ireturn, 1) := by decide +kernel
theorem dX6_says_31 : decode cX6_says 31 = .ok (.aload_n 0, 1) := by decide +kernel
theorem dX6_says_32 : decode cX6_says 32 = .ok (.aload 4, 2) := by decide +kernel
theorem dX6_says_34 : decode cX6_says 34 = .ok (.invokevirtual 169, 3) := by decide +kernel
theorem dX6_says_37 : decode cX6_says 37 = .ok (.iload_n 1, 1) := by decide +kernel
theorem dX6_says_38 : decode cX6_says 38 = .ok (.iconst 1, 1) := by decide +kernel
theorem dX6_says_39 : decode cX6_says 39 = .ok (.if_icmp .ne 31, 3) := by decide +kernel
theorem dX6_says_42 : decode cX6_says 42 = .ok (.aload_n 0, 1) := by decide +kernel
theorem dX6_says_43 : decode cX6_says 43 = .ok (.iload_n 3, 1) := by decide +kernel
theorem dX6_says_44 : decode cX6_says 44 = .ok (.invokevirtual 126, 3) := by decide +kernel
theorem dX6_says_47 : decode cX6_says 47 = .ok (.astore 5, 2) := by decide +kernel
theorem dX6_says_49 : decode cX6_says 49 = .ok (.aload 5, 2) := by decide +kernel
theorem dX6_says_51 : decode cX6_says 51 = .ok (.ifnonnull 6, 3) := by decide +kernel
theorem dX6_says_54 : decode cX6_says 54 = .ok (.ldc 61, 2) := by decide +kernel
theorem dX6_says_56 : decode cX6_says 56 = .ok (.ireturn, 1) := by decide +kernel
theorem dX6_says_57 : decode cX6_says 57 = .ok (.aload_n 0, 1) := by decide +kernel
theorem dX6_says_58 : decode cX6_says 58 = .ok (.getfield 45, 3) := by decide +kernel
theorem dX6_says_61 : decode cX6_says 61 = .ok (.aload 5, 2) := by decide +kernel
theorem dX6_says_63 : decode cX6_says 63 = .ok (.aload_n 0, 1) := by decide +kernel
theorem dX6_says_64 : decode cX6_says 64 = .ok (.getfield 122, 3) := by decide +kernel
theorem dX6_says_67 : decode cX6_says 67 = .ok (.invokevirtual 173, 3) := by decide +kernel
theorem dX6_says_70 : decode cX6_says 70 = .ok (.iload_n 1, 1) := by decide +kernel
theorem dX6_says_71 : decode cX6_says 71 = .ok (.iconst 2, 1) := by decide +kernel
theorem dX6_says_72 : decode cX6_says 72 = .ok (.if_icmp .ne 32, 3) := by decide +kernel
theorem dX6_says_75 : decode cX6_says 75 = .ok (.aload_n 0, 1) := by decide +kernel
theorem dX6_says_76 : decode cX6_says 76 = .ok (.iload_n 3, 1) := by decide +kernel
theorem dX6_says_77 : decode cX6_says 77 = .ok (.invokevirtual 86, 3) := by decide +kernel
theorem dX6_says_80 : decode cX6_says 80 = .ok (.astore 5, 2) := by decide +kernel
theorem dX6_says_82 : decode cX6_says 82 = .ok (.aload 5, 2) := by decide +kernel
theorem dX6_says_84 : decode cX6_says 84 = .ok (.ifnull 8, 3) := by decide +kernel
theorem dX6_says_87 : decode cX6_says 87 = .ok (.iload_n 3, 1) := by decide +kernel
theorem dX6_says_88 : decode cX6_says 88 = .ok (.iload_n 2, 1) := by decide +kernel
theorem dX6_says_89 : decode cX6_says 89 = .ok (.if_icmp .ne 6, 3) := by decide +kernel
theorem dX6_says_92 : decode cX6_says 92 = .ok (.ldc 61, 2) := by decide +kernel
theorem dX6_says_94 : decode cX6_says 94 = .ok (.ireturn, 1) := by decide +kernel
theorem dX6_says_95 : decode cX6_says 95 = .ok (.aload_n 0, 1) := by decide +kernel
theorem dX6_says_96 : decode cX6_says 96 = .ok (.getfield 45, 3) := by decide +kernel
theorem dX6_says_99 : decode cX6_says 99 = .ok (.aload 5, 2) := by decide +kernel
theorem dX6_says_101 : decode cX6_says 101 = .ok (.invokevirtual 177, 3) := by decide +kernel
theorem dX6_says_104 : decode cX6_says 104 = .ok (.aload_n 0, 1) := by decide +kernel
theorem dX6_says_105 : decode cX6_says 105 = .ok (.iload_n 1, 1) := by decide +kernel
theorem dX6_says_106 : decode cX6_says 106 = .ok (.aload_n 0, 1) := by decide +kernel
theorem dX6_says_107 : decode cX6_says 107 = .ok (.iload_n 1, 1) := by decide +kernel
theorem dX6_says_108 : decode cX6_says 108 = .ok (.aload 4, 2) := by decide +kernel
theorem dX6_says_110 : decode cX6_says 110 = .ok (.getfield 180, 3) := by decide +kernel
theorem dX6_says_113 : decode cX6_says 113 = .ok (.invokevirtual 162, 3) := by decide +kernel
theorem dX6_says_116 : decode cX6_says 116 = .ok (.invokevirtual 183, 3) := by decide +kernel
theorem dX6_says_119 : decode cX6_says 119 = .ok (.ireturn, 1) := by decide +kernel
theorem dX6_start_0 : decode cX6_start 0 = .ok (.aload_n 0, 1) := by decide +kernel
theorem dX6_start_1 : decode cX6_start 1 = .ok (.iload_n 1, 1) := by decide +kernel
theorem dX6_start_2 : decode cX6_start 2 = .ok (.invokevirtual 86, 3) := by decide +kernel
theorem dX6_start_5 : decode cX6_start 5 = .ok (.astore_n 2, 1) := by decide +kernel
theorem dX6_start_6 : decode cX6_start 6 = .ok (.aload_n 2, 1) := by decide +kernel
theorem dX6_start_7 : decode cX6_start 7 = .ok (.ifnonnull 5, 3) := by decide +kernel
theorem dX6_start_10 : decode cX6_start 10 = .ok (.iconst (-1), 1) := by decide +kernel
theorem dX6_start_11 : decode cX6_start 11 = .ok (.ireturn, 1) := by decide +kernel
theorem dX6_start_12 : decode cX6_start 12 = .ok (.aload_n 2, 1) := by decide +kernel
theorem dX6_start_13 : decode cX6_start 13 = .ok (.getfield 166, 3) := by decide +kernel
theorem dX6_start_16 : decode cX6_start 16 = .ok (.ifCond .ne 11, 3) := by decide +kernel
theorem dX6_start_19 : decode cX6_start 19 = .ok (.aload_n 0, 1) := by decide +kernel
theorem dX6_start_20 : decode cX6_start 20 = .ok (.getfield 66, 3) := by decide +kernel
theorem dX6_start_23 : decode cX6_start 23 = .ok (.iconst 2, 1) := by decide +kernel
theorem dX6_start_24 : decode cX6_start 24 = .ok (.if_icmp .ge 6, 3) := by decide +kernel
theorem dX6_start_27 : decode cX6_start 27 = .ok (.bipush (-2), 2) := by decide +kernel
theorem dX6_start_29 : decode cX6_start 29 = .ok (.ireturn, 1) := by decide +kernel
theorem dX6_start_30 : decode cX6_start 30 = .ok (.aload_n 2, 1) := by decide +kernel
theorem dX6_start_31 : decode cX6_start 31 = .ok (.iconst 0, 1) := by decide +kernel
theorem dX6_start_32 : decode cX6_start 32 = .ok (.aload_n 0, 1) := by decide +kernel
theorem dX6_start_33 : decode cX6_start 33 = .ok (.getfield 122, 3) := by decide +kernel
theorem dX6_start_36 : decode cX6_start 36 = .ok (.invokevirtual 186, 3) := by decide +kernel
theorem dX6_start_39 : decode cX6_start 39 = .ok (.iconst 1, 1) := by decide +kernel
theorem dX6_start_40 : decode cX6_start 40 = .ok (.ireturn, 1) := by decide +kernel
theorem dX6_day_0 : decode cX6_day 0 = .ok (.iload_n 1, 1) := by decide +kernel
theorem dX6_day_1 : decode cX6_day 1 = .ok (.iconst 1, 1) := by decide +kernel
theorem dX6_day_2 : decode cX6_day 2 = .ok (.bipush 100, 2) := by decide +kernel
theorem dX6_day_4 : decode cX6_day 4 = .ok (.invokestatic 57, 3) := by decide +kernel
theorem dX6_day_7 : decode cX6_day 7 = .ok (.ifCond .eq 15, 3) := by decide +kernel
theorem dX6_day_10 : decode cX6_day 10 = .ok (.aload_n 0, 1) := by decide +kernel
theorem dX6_day_11 : decode cX6_day 11 = .ok (.getfield 122, 3) := by decide +kernel
theorem dX6_day_14 : decode cX6_day 14 = .ok (.iload_n 1, 1) := by decide +kernel
theorem dX6_day_15 : decode cX6_day 15 = .ok (.iadd, 1) := by decide +kernel
theorem dX6_day_16 : decode cX6_day 16 = .ok (.sipush 2000, 3) := by decide +kernel
theorem dX6_day_19 : decode cX6_day 19 = .ok (.if_icmp .le 5, 3) := by decide +kernel
theorem dX6_day_22 : decode cX6_day 22 = .ok (.iconst (-1), 1) := by decide +kernel
theorem dX6_day_23 : decode cX6_day 23 = .ok (.ireturn, 1) := by decide +kernel
theorem dX6_day_24 : decode cX6_day 24 = .ok (.iconst 0, 1) := by decide +kernel
theorem dX6_day_25 : decode cX6_day 25 = .ok (.istore_n 2, 1) := by decide +kernel
theorem dX6_day_26 : decode cX6_day 26 = .ok (.iload_n 2, 1) := by decide +kernel
theorem dX6_day_27 : decode cX6_day 27 = .ok (.iload_n 1, 1) := by decide +kernel
theorem dX6_day_28 : decode cX6_day 28 = .ok (.if_icmp .ge 13, 3) := by decide +kernel
theorem dX6_day_31 : decode cX6_day 31 = .ok (.aload_n 0, 1) := by decide +kernel
theorem dX6_day_32 : decode cX6_day 32 = .ok (.invokevirtual 189, 3) := by decide +kernel
theorem dX6_day_35 : decode cX6_day 35 = .ok (.iinc 2 1, 3) := by decide +kernel
theorem dX6_day_38 : decode cX6_day 38 = .ok (.goto (-12), 3) := by decide +kernel
theorem dX6_day_41 : decode cX6_day 41 = .ok (.aload_n 0, 1) := by decide +kernel
theorem dX6_day_42 : decode cX6_day 42 = .ok (.getfield 122, 3) := by decide +kernel
theorem dX6_day_45 : decode cX6_day 45 = .ok (.ireturn, 1) := by decide +kernel
theorem dX6_toss_0 : decode cX6_toss 0 = .ok (.aload_n 0, 1) := by decide +kernel
theorem dX6_toss_1 : decode cX6_toss 1 = .ok (.iload_n 1, 1) := by decide +kernel
theorem dX6_toss_2 : decode cX6_toss 2 = .ok (.invokevirtual 86, 3) := by decide +kernel
theorem dX6_toss_5 : decode cX6_toss 5 = .ok (.astore_n 3, 1) := by decide +kernel
theorem dX6_toss_6 : decode cX6_toss 6 = .ok (.aload_n 3, 1) := by decide +kernel
theorem dX6_toss_7 : decode cX6_toss 7 = .ok (.ifnull 13, 3) := by decide +kernel
theorem dX6_toss_10 : decode cX6_toss 10 = .ok (.iload_n 2, 1) := by decide +kernel
theorem dX6_toss_11 : decode cX6_toss 11 = .ok (.iconst 1, 1) := by decide +kernel
theorem dX6_toss_12 : decode cX6_toss 12 = .ok (.ldc 56, 2) := by decide +kernel
theorem dX6_toss_14 : decode cX6_toss 14 = .ok (.invokestatic 57, 3) := by decide +kernel
theorem dX6_toss_17 : decode cX6_toss 17 = .ok (.ifCond .ne 5, 3) := by decide +kernel
theorem dX6_toss_20 : decode cX6_toss 20 = .ok (.iconst (-1), 1) := by decide +kernel
theorem dX6_toss_21 : decode cX6_toss 21 = .ok (.ireturn, 1) := by decide +kernel
theorem dX6_toss_22 : decode cX6_toss 22 = .ok (.aload_n 3, 1) := by decide +kernel
theorem dX6_toss_23 : decode cX6_toss 23 = .ok (.getfield 166, 3) := by decide +kernel
theorem dX6_toss_26 : decode cX6_toss 26 = .ok (.iconst 2, 1) := by decide +kernel
theorem dX6_toss_27 : decode cX6_toss 27 = .ok (.if_icmp .ne 10, 3) := by decide +kernel
theorem dX6_toss_30 : decode cX6_toss 30 = .ok (.aload_n 3, 1) := by decide +kernel
theorem dX6_toss_31 : decode cX6_toss 31 = .ok (.getfield 192, 3) := by decide +kernel
theorem dX6_toss_34 : decode cX6_toss 34 = .ok (.ifCond .ne 6, 3) := by decide +kernel
theorem dX6_toss_37 : decode cX6_toss 37 = .ok (.bipush (-2), 2) := by decide +kernel
theorem dX6_toss_39 : decode cX6_toss 39 = .ok (.ireturn, 1) := by decide +kernel
theorem dX6_toss_40 : decode cX6_toss 40 = .ok (.aload_n 3, 1) := by decide +kernel
theorem dX6_toss_41 : decode cX6_toss 41 = .ok (.getfield 195, 3) := by decide +kernel
theorem dX6_toss_44 : decode cX6_toss 44 = .ok (.aload_n 0, 1) := by decide +kernel
theorem dX6_toss_45 : decode cX6_toss 45 = .ok (.aload_n 3, 1) := by decide +kernel
theorem dX6_toss_46 : decode cX6_toss 46 = .ok (.invokevirtual 198, 3) := by decide +kernel
theorem dX6_toss_49 : decode cX6_toss 49 = .ok (.iadd, 1) := by decide +kernel
theorem dX6_toss_50 : decode cX6_toss 50 = .ok (.istore 4, 2) := by decide +kernel
theorem dX6_toss_52 : decode cX6_toss 52 = .ok (.aload_n 0, 1) := by decide +kernel
theorem dX6_toss_53 : decode cX6_toss 53 = .ok (.aload_n 3, 1) := by decide +kernel
theorem dX6_toss_54 : decode cX6_toss 54 = .ok (.iload_n 2, 1) := by decide +kernel
theorem dX6_toss_55 : decode cX6_toss 55 = .ok (.invokevirtual 202, 3) := by decide +kernel
theorem dX6_toss_58 : decode cX6_toss 58 = .ok (.istore 5, 2) := by decide +kernel
theorem dX6_toss_60 : decode cX6_toss 60 = .ok (.aload_n 0, 1) := by decide +kernel
theorem dX6_toss_61 : decode cX6_toss 61 = .ok (.iload 5, 2) := by decide +kernel
theorem dX6_toss_63 : decode cX6_toss 63 = .ok (.iload 4, 2) := by decide +kernel
theorem dX6_toss_65 : decode cX6_toss 65 = .ok (.invokevirtual 206, 3) := by decide +kernel
theorem dX6_toss_68 : decode cX6_toss 68 = .ok (.iload 5, 2) := by decide +kernel
theorem dX6_toss_70 : decode cX6_toss 70 = .ok (.ireturn, 1) := by decide +kernel
theorem dX6_ship_0 : decode cX6_ship 0 = .ok (.aload_n 0, 1) := by decide +kernel
theorem dX6_ship_1 : decode cX6_ship 1 = .ok (.iload_n 1, 1) := by decide +kernel
theorem dX6_ship_2 : decode cX6_ship 2 = .ok (.invokevirtual 86, 3) := by decide +kernel
theorem dX6_ship_5 : decode cX6_ship 5 = .ok (.astore_n 3, 1) := by decide +kernel
theorem dX6_ship_6 : decode cX6_ship 6 = .ok (.aload_n 3, 1) := by decide +kernel
theorem dX6_ship_7 : decode cX6_ship 7 = .ok (.ifnonnull 8, 3) := by decide +kernel
theorem dX6_ship_10 : decode cX6_ship 10 = .ok (.bipush (-2), 2) := by decide +kernel
theorem dX6_ship_12 : decode cX6_ship 12 = .ok (.goto 8, 3) := by decide +kernel
theorem dX6_ship_15 : decode cX6_ship 15 = .ok (.aload_n 3, 1) := by decide +kernel
theorem dX6_ship_16 : decode cX6_ship 16 = .ok (.iload_n 2, 1) := by decide +kernel
theorem dX6_ship_17 : decode cX6_ship 17 = .ok (.invokevirtual 209, 3) := by decide +kernel
theorem dX6_ship_20 : decode cX6_ship 20 = .ok (.ireturn, 1) := by decide +kernel
theorem dX6_count_0 : decode cX6_count 0 = .ok (.iload_n 1, 1) := by decide +kernel
theorem dX6_count_1 : decode cX6_count 1 = .ok (.tableswitch 124 0 9 #[55, 60, 68, 76, 84, 89, 95, 101, 107, 113], 55) := by decide +kernel
theorem dX6_count_56 : decode cX6_count 56 = .ok (.aload_n 0, 1) := by decide +kernel
theorem dX6_count_57 : decode cX6_count 57 = .ok (.getfield 66, 3) := by decide +kernel
theorem dX6_count_60 : decode cX6_count 60 = .ok (.ireturn, 1) := by decide +kernel
theorem dX6_count_61 : decode cX6_count 61 = .ok (.aload_n 0, 1) := by decide +kernel
theorem dX6_count_62 : decode cX6_count 62 = .ok (.getfield 25, 3) := by decide +kernel
theorem dX6_count_65 : decode cX6_count 65 = .ok (.invokevirtual 73, 3) := by decide +kernel
theorem dX6_count_68 : decode cX6_count 68 = .ok (.ireturn, 1) := by decide +kernel
theorem dX6_count_69 : decode cX6_count 69 = .ok (.aload_n 0, 1) := by decide +kernel
theorem dX6_count_70 : decode cX6_count 70 = .ok (.getfield 29, 3) := by decide +kernel
theorem dX6_count_73 : decode cX6_count 73 = .ok (.invokevirtual 73, 3) := by decide +kernel
theorem dX6_count_76 : decode cX6_count 76 = .ok (.ireturn, 1) := by decide +kernel
theorem dX6_count_77 : decode cX6_count 77 = .ok (.aload_n 0, 1) := by decide +kernel
theorem dX6_count_78 : decode cX6_count 78 = .ok (.getfield 32, 3) := by decide +kernel
theorem dX6_count_81 : decode cX6_count 81 = .ok (.invokevirtual 73, 3) := by decide +kernel
theorem dX6_count_84 : decode cX6_count 84 = .ok (.ireturn, 1) := by decide +kernel
theorem dX6_count_85 : decode cX6_count 85 = .ok (.aload_n 0, 1) := by decide +kernel
theorem dX6_count_86 : decode cX6_count 86 = .ok (.getfield 122, 3) := by decide +kernel
theorem dX6_count_89 : decode cX6_count 89 = .ok (.ireturn, 1) := by decide +kernel
theorem dX6_count_90 : decode cX6_count 90 = .ok (.aload_n 0, 1) := by decide +kernel
theorem dX6_count_91 : decode cX6_count 91 = .ok (.iconst 0, 1) := by decide +kernel
theorem dX6_count_92 : decode cX6_count 92 = .ok (.invokevirtual 210, 3) := by decide +kernel
theorem dX6_count_95 : decode cX6_count 95 = .ok (.ireturn, 1) := by decide +kernel
theorem dX6_count_96 : decode cX6_count 96 = .ok (.aload_n 0, 1) := by decide +kernel
theorem dX6_count_97 : decode cX6_count 97 = .ok (.iconst 1, 1) := by decide +kernel
theorem dX6_count_98 : decode cX6_count 98 = .ok (.invokevirtual 210, 3) := by decide +kernel
theorem dX6_count_101 : decode cX6_count 101 = .ok (.ireturn, 1) := by decide +kernel
theorem dX6_count_102 : decode cX6_count 102 = .ok (.aload_n 0, 1) := by decide +kernel
theorem dX6_count_103 : decode cX6_count 103 = .ok (.iconst 2, 1) := by decide +kernel
theorem dX6_count_104 : decode cX6_count 104 = .ok (.invokevirtual 210, 3) := by decide +kernel
theorem dX6_count_107 : decode cX6_count 107 = .ok (.ireturn, 1) := by decide +kernel
theorem dX6_count_108 : decode cX6_count 108 = .ok (.aload_n 0, 1) := by decide +kernel
theorem dX6_count_109 : decode cX6_count 109 = .ok (.iconst 3, 1) := by decide +kernel
theorem dX6_count_110 : decode cX6_count 110 = .ok (.invokevirtual 210, 3) := by decide +kernel
theorem dX6_count_113 : decode cX6_count 113 = .ok (.ireturn, 1) := by decide +kernel
theorem dX6_count_114 : decode cX6_count 114 = .ok (.aload_n 0, 1) := by decide +kernel
theorem dX6_count_115 : decode cX6_count 115 = .ok (.getfield 38, 3) := by decide +kernel
theorem dX6_count_118 : decode cX6_count 118 = .ok (.getfield 134, 3) := by decide +kernel
theorem dX6_count_121 : decode cX6_count 121 = .ok (.getfield 138, 3) := by decide +kernel
theorem dX6_count_124 : decode cX6_count 124 = .ok (.ireturn, 1) := by decide +kernel
theorem dX6_count_125 : decode cX6_count 125 = .ok (.iconst (-1), 1) := by decide +kernel
theorem dX6_count_126 : decode cX6_count 126 = .ok (.ireturn, 1) := by decide +kernel
theorem dX6_coins_0 : decode cX6_coins 0 = .ok (.iload_n 1, 1) := by decide +kernel
theorem dX6_coins_1 : decode cX6_coins 1 = .ok (.invokestatic 52, 3) := by decide +kernel
theorem dX6_coins_4 : decode cX6_coins 4 = .ok (.ifCond .eq 10, 3) := by decide +kernel
theorem dX6_coins_7 : decode cX6_coins 7 = .ok (.aload_n 0, 1) := by decide +kernel
theorem dX6_coins_8 : decode cX6_coins 8 = .ok (.getfield 9, 3) := by decide +kernel
theorem dX6_coins_11 : decode cX6_coins 11 = .ok (.iload_n 1, 1) := by decide +kernel
theorem dX6_coins_12 : decode cX6_coins 12 = .ok (.iaload, 1) := by decide +kernel
theorem dX6_coins_13 : decode cX6_coins 13 = .ok (.ireturn, 1) := by decide +kernel
theorem dX6_coins_14 : decode cX6_coins 14 = .ok (.iload_n 1, 1) := by decide +kernel
theorem dX6_coins_15 : decode cX6_coins 15 = .ok (.bipush 10, 2) := by decide +kernel
theorem dX6_coins_17 : decode cX6_coins 17 = .ok (.if_icmp .ne 8, 3) := by decide +kernel
theorem dX6_coins_20 : decode cX6_coins 20 = .ok (.aload_n 0, 1) := by decide +kernel
theorem dX6_coins_21 : decode cX6_coins 21 = .ok (.getfield 101, 3) := by decide +kernel
theorem dX6_coins_24 : decode cX6_coins 24 = .ok (.ireturn, 1) := by decide +kernel
theorem dX6_coins_25 : decode cX6_coins 25 = .ok (.iload_n 1, 1) := by decide +kernel
theorem dX6_coins_26 : decode cX6_coins 26 = .ok (.bipush 11, 2) := by decide +kernel
theorem dX6_coins_28 : decode cX6_coins 28 = .ok (.if_icmp .ne 10, 3) := by decide +kernel
theorem dX6_coins_31 : decode cX6_coins 31 = .ok (.aload_n 0, 1) := by decide +kernel
theorem dX6_coins_32 : decode cX6_coins 32 = .ok (.getfield 62, 3) := by decide +kernel
theorem dX6_coins_35 : decode cX6_coins 35 = .ok (.goto 5, 3) := by decide +kernel
theorem dX6_coins_38 : decode cX6_coins 38 = .ok (.ldc 61, 2) := by decide +kernel
theorem dX6_coins_40 : decode cX6_coins 40 = .ok (.ireturn, 1) := by decide +kernel
theorem dX6_within_0 : decode cX6_within 0 = .ok (.iload_n 0, 1) := by decide +kernel
theorem dX6_within_1 : decode cX6_within 1 = .ok (.iload_n 1, 1) := by decide +kernel
theorem dX6_within_2 : decode cX6_within 2 = .ok (.if_icmp .lt 12, 3) := by decide +kernel
theorem dX6_within_5 : decode cX6_within 5 = .ok (.iload_n 0, 1) := by decide +kernel
theorem dX6_within_6 : decode cX6_within 6 = .ok (.iload_n 2, 1) := by decide +kernel
theorem dX6_within_7 : decode cX6_within 7 = .ok (.if_icmp .gt 7, 3) := by decide +kernel
theorem dX6_within_10 : decode cX6_within 10 = .ok (.iconst 1, 1) := by decide +kernel
theorem dX6_within_11 : decode cX6_within 11 = .ok (.goto 4, 3) := by decide +kernel
theorem dX6_within_14 : decode cX6_within 14 = .ok (.iconst 0, 1) := by decide +kernel
theorem dX6_within_15 : decode cX6_within 15 = .ok (.ireturn, 1) := by decide +kernel
theorem dX6_isPerson_0 : decode cX6_isPerson 0 = .ok (.iload_n 0, 1) := by decide +kernel
theorem dX6_isPerson_1 : decode cX6_isPerson 1 = .ok (.iconst 0, 1) := by decide +kernel
theorem dX6_isPerson_2 : decode cX6_isPerson 2 = .ok (.bipush 9, 2) := by decide +kernel
theorem dX6_isPerson_4 : decode cX6_isPerson 4 = .ok (.invokestatic 57, 3) := by decide +kernel
theorem dX6_isPerson_7 : decode cX6_isPerson 7 = .ok (.ireturn, 1) := by decide +kernel
theorem dX6_isVoteKind_0 : decode cX6_isVoteKind 0 = .ok (.iload_n 0, 1) := by decide +kernel
theorem dX6_isVoteKind_1 : decode cX6_isVoteKind 1 = .ok (.iconst 0, 1) := by decide +kernel
theorem dX6_isVoteKind_2 : decode cX6_isVoteKind 2 = .ok (.iconst 2, 1) := by decide +kernel
theorem dX6_isVoteKind_3 : decode cX6_isVoteKind 3 = .ok (.invokestatic 57, 3) := by decide +kernel
theorem dX6_isVoteKind_6 : decode cX6_isVoteKind 6 = .ok (.ireturn, 1) := by decide +kernel
theorem dX6_isRoute_0 : decode cX6_isRoute 0 = .ok (.iload_n 1, 1) := by decide +kernel
theorem dX6_isRoute_1 : decode cX6_isRoute 1 = .ok (.ifCond .lt 29, 3) := by decide +kernel
theorem dX6_isRoute_4 : decode cX6_isRoute 4 = .ok (.iload_n 1, 1) := by decide +kernel
theorem dX6_isRoute_5 : decode cX6_isRoute 5 = .ok (.bipush 100, 2) := by decide +kernel
theorem dX6_isRoute_7 : decode cX6_isRoute 7 = .ok (.idiv, 1) := by decide +kernel
theorem dX6_isRoute_8 : decode cX6_isRoute 8 = .ok (.iload_n 1, 1) := by decide +kernel
theorem dX6_isRoute_9 : decode cX6_isRoute 9 = .ok (.bipush 100, 2) := by decide +kernel
theorem dX6_isRoute_11 : decode cX6_isRoute 11 = .ok (.irem, 1) := by decide +kernel
theorem dX6_isRoute_12 : decode cX6_isRoute 12 = .ok (.if_icmp .ge 18, 3) := by decide +kernel
theorem dX6_isRoute_15 : decode cX6_isRoute 15 = .ok (.iload_n 1, 1) := by decide +kernel
theorem dX6_isRoute_16 : decode cX6_isRoute 16 = .ok (.bipush 100, 2) := by decide +kernel
theorem dX6_isRoute_18 : decode cX6_isRoute 18 = .ok (.irem, 1) := by decide +kernel
theorem dX6_isRoute_19 : decode cX6_isRoute 19 = .ok (.aload_n 0, 1) := by decide +kernel
theorem dX6_isRoute_20 : decode cX6_isRoute 20 = .ok (.getfield 66, 3) := by decide +kernel
theorem dX6_isRoute_23 : decode cX6_isRoute 23 = .ok (.if_icmp .ge 7, 3) := by decide +kernel
theorem dX6_isRoute_26 : decode cX6_isRoute 26 = .ok (.iconst 1, 1) := by decide +kernel
theorem dX6_isRoute_27 : decode cX6_isRoute 27 = .ok (.goto 4, 3) := by decide +kernel
theorem dX6_isRoute_30 : decode cX6_isRoute 30 = .ok (.iconst 0, 1) := by decide +kernel
theorem dX6_isRoute_31 : decode cX6_isRoute 31 = .ok (.ireturn, 1) := by decide +kernel
theorem dX6_isSize_0 : decode cX6_isSize 0 = .ok (.iload_n 0, 1) := by decide +kernel
theorem dX6_isSize_1 : decode cX6_isSize 1 = .ok (.ifCond .lt 48, 3) := by decide +kernel
theorem dX6_isSize_4 : decode cX6_isSize 4 = .ok (.iload_n 0, 1) := by decide +kernel
theorem dX6_isSize_5 : decode cX6_isSize 5 = .ok (.ldc 90, 2) := by decide +kernel
theorem dX6_isSize_7 : decode cX6_isSize 7 = .ok (.idiv, 1) := by decide +kernel
theorem dX6_isSize_8 : decode cX6_isSize 8 = .ok (.iconst 2, 1) := by decide +kernel
theorem dX6_isSize_9 : decode cX6_isSize 9 = .ok (.if_icmp .gt 40, 3) := by decide +kernel
theorem dX6_isSize_12 : decode cX6_isSize 12 = .ok (.iload_n 0, 1) := by decide +kernel
theorem dX6_isSize_13 : decode cX6_isSize 13 = .ok (.sipush 1000, 3) := by decide +kernel
theorem dX6_isSize_16 : decode cX6_isSize 16 = .ok (.idiv, 1) := by decide +kernel
theorem dX6_isSize_17 : decode cX6_isSize 17 = .ok (.sipush 1000, 3) := by decide +kernel
theorem dX6_isSize_20 : decode cX6_isSize 20 = .ok (.irem, 1) := by decide +kernel
theorem dX6_isSize_21 : decode cX6_isSize 21 = .ok (.iconst 1, 1) := by decide +kernel
theorem dX6_isSize_22 : decode cX6_isSize 22 = .ok (.bipush 99, 2) := by decide +kernel
theorem dX6_isSize_24 : decode cX6_isSize 24 = .ok (.invokestatic 57, 3) := by decide +kernel
theorem dX6_isSize_27 : decode cX6_isSize 27 = .ok (.ifCond .eq 22, 3) := by decide +kernel
theorem dX6_isSize_30 : decode cX6_isSize 30 = .ok (.iload_n 0, 1) := by decide +kernel
theorem dX6_isSize_31 : decode cX6_isSize 31 = .ok (.sipush 1000, 3) := by decide +kernel
theorem dX6_isSize_34 : decode cX6_isSize 34 = .ok (.irem, 1) := by decide +kernel
theorem dX6_isSize_35 : decode cX6_isSize 35 = .ok (.iconst 1, 1) := by decide +kernel
theorem dX6_isSize_36 : decode cX6_isSize 36 = .ok (.sipush 999, 3) := by decide +kernel
theorem dX6_isSize_39 : decode cX6_isSize 39 = .ok (.invokestatic 57, 3) := by decide +kernel
theorem dX6_isSize_42 : decode cX6_isSize 42 = .ok (.ifCond .eq 7, 3) := by decide +kernel
theorem dX6_isSize_45 : decode cX6_isSize 45 = .ok (.iconst 1, 1) := by decide +kernel
theorem dX6_isSize_46 : decode cX6_isSize 46 = .ok (.goto 4, 3) := by decide +kernel
theorem dX6_isSize_49 : decode cX6_isSize 49 = .ok (.iconst 0, 1) := by decide +kernel
theorem dX6_isSize_50 : decode cX6_isSize 50 = .ok (.ireturn, 1) := by decide +kernel
theorem dX6_isPrice_0 : decode cX6_isPrice 0 = .ok (.iload_n 0, 1) := by decide +kernel
theorem dX6_isPrice_1 : decode cX6_isPrice 1 = .ok (.ifCond .lt 22, 3) := by decide +kernel
theorem dX6_isPrice_4 : decode cX6_isPrice 4 = .ok (.iload_n 0, 1) := by decide +kernel
theorem dX6_isPrice_5 : decode cX6_isPrice 5 = .ok (.sipush 1000, 3) := by decide +kernel
theorem dX6_isPrice_8 : decode cX6_isPrice 8 = .ok (.idiv, 1) := by decide +kernel
theorem dX6_isPrice_9 : decode cX6_isPrice 9 = .ok (.iconst 1, 1) := by decide +kernel
theorem dX6_isPrice_10 : decode cX6_isPrice 10 = .ok (.sipush 9999, 3) := by decide +kernel
theorem dX6_isPrice_13 : decode cX6_isPrice 13 = .ok (.invokestatic 57, 3) := by decide +kernel
theorem dX6_isPrice_16 : decode cX6_isPrice 16 = .ok (.ifCond .eq 7, 3) := by decide +kernel
theorem dX6_isPrice_19 : decode cX6_isPrice 19 = .ok (.iconst 1, 1) := by decide +kernel
theorem dX6_isPrice_20 : decode cX6_isPrice 20 = .ok (.goto 4, 3) := by decide +kernel
theorem dX6_isPrice_23 : decode cX6_isPrice 23 = .ok (.iconst 0, 1) := by decide +kernel
theorem dX6_isPrice_24 : decode cX6_isPrice 24 = .ok (.ireturn, 1) := by decide +kernel
theorem dX6_galleyOf_0 : decode cX6_galleyOf 0 = .ok (.iload_n 1, 1) := by decide +kernel
theorem dX6_galleyOf_1 : decode cX6_galleyOf 1 = .ok (.iconst 0, 1) := by decide +kernel
theorem dX6_galleyOf_2 : decode cX6_galleyOf 2 = .ok (.aload_n 0, 1) := by decide +kernel
theorem dX6_galleyOf_3 : decode cX6_galleyOf 3 = .ok (.getfield 25, 3) := by decide +kernel
theorem dX6_galleyOf_6 : decode cX6_galleyOf 6 = .ok (.invokevirtual 73, 3) := by decide +kernel
theorem dX6_galleyOf_9 : decode cX6_galleyOf 9 = .ok (.iconst 1, 1) := by decide +kernel
theorem dX6_galleyOf_10 : decode cX6_galleyOf 10 = .ok (.isub, 1) := by decide +kernel
theorem dX6_galleyOf_11 : decode cX6_galleyOf 11 = .ok (.invokestatic 57, 3) := by decide +kernel
theorem dX6_galleyOf_14 : decode cX6_galleyOf 14 = .ok (.ifCond .eq 17, 3) := by decide +kernel
theorem dX6_galleyOf_17 : decode cX6_galleyOf 17 = .ok (.aload_n 0, 1) := by decide +kernel
theorem dX6_galleyOf_18 : decode cX6_galleyOf 18 = .ok (.getfield 25, 3) := by decide +kernel
theorem dX6_galleyOf_21 : decode cX6_galleyOf 21 = .ok (.iload_n 1, 1) := by decide +kernel
theorem dX6_galleyOf_22 : decode cX6_galleyOf 22 = .ok (.invokevirtual 213, 3) := by decide +kernel
theorem dX6_galleyOf_25 : decode cX6_galleyOf 25 = .ok (.checkcast 77, 3) := by decide +kernel
theorem dX6_galleyOf_28 : decode cX6_galleyOf 28 = .ok (.goto 4, 3) := by decide +kernel
theorem dX6_galleyOf_31 : decode cX6_galleyOf 31 = .ok (.aconst_null, 1) := by decide +kernel
theorem dX6_galleyOf_32 : decode cX6_galleyOf 32 = .ok (.areturn, 1) := by decide +kernel
theorem dX6_baleOf_0 : decode cX6_baleOf 0 = .ok (.iload_n 1, 1) := by decide +kernel
theorem dX6_baleOf_1 : decode cX6_baleOf 1 = .ok (.iconst 0, 1) := by decide +kernel
theorem dX6_baleOf_2 : decode cX6_baleOf 2 = .ok (.aload_n 0, 1) := by decide +kernel
theorem dX6_baleOf_3 : decode cX6_baleOf 3 = .ok (.getfield 29, 3) := by decide +kernel
theorem dX6_baleOf_6 : decode cX6_baleOf 6 = .ok (.invokevirtual 73, 3) := by decide +kernel
theorem dX6_baleOf_9 : decode cX6_baleOf 9 = .ok (.iconst 1, 1) := by decide +kernel
theorem dX6_baleOf_10 : decode cX6_baleOf 10 = .ok (.isub, 1) := by decide +kernel
theorem dX6_baleOf_11 : decode cX6_baleOf 11 = .ok (.invokestatic 57, 3) := by decide +kernel
theorem dX6_baleOf_14 : decode cX6_baleOf 14 = .ok (.ifCond .eq 17, 3) := by decide +kernel
theorem dX6_baleOf_17 : decode cX6_baleOf 17 = .ok (.aload_n 0, 1) := by decide +kernel
theorem dX6_baleOf_18 : decode cX6_baleOf 18 = .ok (.getfield 29, 3) := by decide +kernel
theorem dX6_baleOf_21 : decode cX6_baleOf 21 = .ok (.iload_n 1, 1) := by decide +kernel
theorem dX6_baleOf_22 : decode cX6_baleOf 22 = .ok (.invokevirtual 213, 3) := by decide +kernel
theorem dX6_baleOf_25 : decode cX6_baleOf 25 = .ok (.checkcast 120, 3) := by decide +kernel
theorem dX6_baleOf_28 : decode cX6_baleOf 28 = .ok (.goto 4, 3) := by decide +kernel
theorem dX6_baleOf_31 : decode cX6_baleOf 31 = .ok (.aconst_null, 1) := by decide +kernel
theorem dX6_baleOf_32 : decode cX6_baleOf 32 = .ok (.areturn, 1) := by decide +kernel
theorem dX6_allAreHome_0 : decode cX6_allAreHome 0 = .ok (.iconst 0, 1) := by decide +kernel
theorem dX6_allAreHome_1 : decode cX6_allAreHome 1 = .ok (.istore_n 1, 1) := by decide +kernel
theorem dX6_allAreHome_2 : decode cX6_allAreHome 2 = .ok (.iload_n 1, 1) := by decide +kernel
theorem dX6_allAreHome_3 : decode cX6_allAreHome 3 = .ok (.aload_n 0, 1) := by decide +kernel
theorem dX6_allAreHome_4 : decode cX6_allAreHome 4 = .ok (.getfield 25, 3) := by decide +kernel
theorem dX6_allAreHome_7 : decode cX6_allAreHome 7 = .ok (.invokevirtual 73, 3) := by decide +kernel
theorem dX6_allAreHome_10 : decode cX6_allAreHome 10 = .ok (.if_icmp .ge 28, 3) := by decide +kernel
theorem dX6_allAreHome_13 : decode cX6_allAreHome 13 = .ok (.aload_n 0, 1) := by decide +kernel
theorem dX6_allAreHome_14 : decode cX6_allAreHome 14 = .ok (.getfield 25, 3) := by decide +kernel
theorem dX6_allAreHome_17 : decode cX6_allAreHome 17 = .ok (.iload_n 1, 1) := by decide +kernel
theorem dX6_allAreHome_18 : decode cX6_allAreHome 18 = .ok (.invokevirtual 213, 3) := by decide +kernel
theorem dX6_allAreHome_21 : decode cX6_allAreHome 21 = .ok (.checkcast 77, 3) := by decide +kernel
theorem dX6_allAreHome_24 : decode cX6_allAreHome 24 = .ok (.getfield 166, 3) := by decide +kernel
theorem dX6_allAreHome_27 : decode cX6_allAreHome 27 = .ok (.ifCond .eq 5, 3) := by decide +kernel
theorem dX6_allAreHome_30 : decode cX6_allAreHome 30 = .ok (.iconst 0, 1) := by decide +kernel
theorem dX6_allAreHome_31 : decode cX6_allAreHome 31 = .ok (.ireturn, 1) := by decide +kernel
theorem dX6_allAreHome_32 : decode cX6_allAreHome 32 = .ok (.iinc 1 1, 3) := by decide +kernel
theorem dX6_allAreHome_35 : decode cX6_allAreHome 35 = .ok (.goto (-33), 3) := by decide +kernel
theorem dX6_allAreHome_38 : decode cX6_allAreHome 38 = .ok (.iconst 1, 1) := by decide +kernel
theorem dX6_allAreHome_39 : decode cX6_allAreHome 39 = .ok (.ireturn, 1) := by decide +kernel
theorem dX6_balesInState_0 : decode cX6_balesInState 0 = .ok (.iconst 0, 1) := by decide +kernel
theorem dX6_balesInState_1 : decode cX6_balesInState 1 = .ok (.istore_n 2, 1) := by decide +kernel
theorem dX6_balesInState_2 : decode cX6_balesInState 2 = .ok (.iconst 0, 1) := by decide +kernel
theorem dX6_balesInState_3 : decode cX6_balesInState 3 = .ok (.istore_n 3, 1) := by decide +kernel
theorem dX6_balesInState_4 : decode cX6_balesInState 4 = .ok (.iload_n 3, 1) := by decide +kernel
theorem dX6_balesInState_5 : decode cX6_balesInState 5 = .ok (.aload_n 0, 1) := by decide +kernel
theorem dX6_balesInState_6 : decode cX6_balesInState 6 = .ok (.getfield 29, 3) := by decide +kernel
theorem dX6_balesInState_9 : decode cX6_balesInState 9 = .ok (.invokevirtual 73, 3) := by decide +kernel
theorem dX6_balesInState_12 : decode cX6_balesInState 12 = .ok (.if_icmp .ge 30, 3) := by decide +kernel
theorem dX6_balesInState_15 : decode cX6_balesInState 15 = .ok (.aload_n 0, 1) := by decide +kernel
theorem dX6_balesInState_16 : decode cX6_balesInState 16 = .ok (.getfield 29, 3) := by decide +kernel
theorem dX6_balesInState_19 : decode cX6_balesInState 19 = .ok (.iload_n 3, 1) := by decide +kernel
theorem dX6_balesInState_20 : decode cX6_balesInState 20 = .ok (.invokevirtual 213, 3) := by decide +kernel
theorem dX6_balesInState_23 : decode cX6_balesInState 23 = .ok (.checkcast 120, 3) := by decide +kernel
theorem dX6_balesInState_26 : decode cX6_balesInState 26 = .ok (.getfield 217, 3) := by decide +kernel
theorem dX6_balesInState_29 : decode cX6_balesInState 29 = .ok (.iload_n 1, 1) := by decide +kernel
theorem dX6_balesInState_30 : decode cX6_balesInState 30 = .ok (.if_icmp .ne 6, 3) := by decide +kernel
theorem dX6_balesInState_33 : decode cX6_balesInState 33 = .ok (.iinc 2 1, 3) := by decide +kernel
theorem dX6_balesInState_36 : decode cX6_balesInState 36 = .ok (.iinc 3 1, 3) := by decide +kernel
theorem dX6_balesInState_39 : decode cX6_balesInState 39 = .ok (.goto (-35), 3) := by decide +kernel
theorem dX6_balesInState_42 : decode cX6_balesInState 42 = .ok (.iload_n 2, 1) := by decide +kernel
theorem dX6_balesInState_43 : decode cX6_balesInState 43 = .ok (.ireturn, 1) := by decide +kernel
theorem dX6_inForce_0 : decode cX6_inForce 0 = .ok (.aload_n 0, 1) := by decide +kernel
theorem dX6_inForce_1 : decode cX6_inForce 1 = .ok (.getfield 32, 3) := by decide +kernel
theorem dX6_inForce_4 : decode cX6_inForce 4 = .ok (.invokevirtual 73, 3) := by decide +kernel
theorem dX6_inForce_7 : decode cX6_inForce 7 = .ok (.iconst 1, 1) := by decide +kernel
theorem dX6_inForce_8 : decode cX6_inForce 8 = .ok (.isub, 1) := by decide +kernel
theorem dX6_inForce_9 : decode cX6_inForce 9 = .ok (.istore_n 3, 1) := by decide +kernel
theorem dX6_inForce_10 : decode cX6_inForce 10 = .ok (.iload_n 3, 1) := by decide +kernel
theorem dX6_inForce_11 : decode cX6_inForce 11 = .ok (.ifCond .lt 52, 3) := by decide +kernel
theorem dX6_inForce_14 : decode cX6_inForce 14 = .ok (.aload_n 0, 1) := by decide +kernel
theorem dX6_inForce_15 : decode cX6_inForce 15 = .ok (.getfield 32, 3) := by decide +kernel
theorem dX6_inForce_18 : decode cX6_inForce 18 = .ok (.iload_n 3, 1) := by decide +kernel
theorem dX6_inForce_19 : decode cX6_inForce 19 = .ok (.invokevirtual 213, 3) := by decide +kernel
theorem dX6_inForce_22 : decode cX6_inForce 22 = .ok (.checkcast 153, 3) := by decide +kernel
theorem dX6_inForce_25 : decode cX6_inForce 25 = .ok (.astore 4, 2) := by decide +kernel
theorem dX6_inForce_27 : decode cX6_inForce 27 = .ok (.aload 4, 2) := by decide +kernel
theorem dX6_inForce_29 : decode cX6_inForce 29 = .ok (.getfield 218, 3) := by decide +kernel
theorem dX6_inForce_32 : decode cX6_inForce 32 = .ok (.iload_n 1, 1) := by decide +kernel
theorem dX6_inForce_33 : decode cX6_inForce 33 = .ok (.if_icmp .ne 24, 3) := by decide +kernel
theorem dX6_inForce_36 : decode cX6_inForce 36 = .ok (.aload_n 0, 1) := by decide +kernel
theorem dX6_inForce_37 : decode cX6_inForce 37 = .ok (.getfield 122, 3) := by decide +kernel
theorem dX6_inForce_40 : decode cX6_inForce 40 = .ok (.aload 4, 2) := by decide +kernel
theorem dX6_inForce_42 : decode cX6_inForce 42 = .ok (.getfield 221, 3) := by decide +kernel
theorem dX6_inForce_45 : decode cX6_inForce 45 = .ok (.isub, 1) := by decide +kernel
theorem dX6_inForce_46 : decode cX6_inForce 46 = .ok (.aload_n 0, 1) := by decide +kernel
theorem dX6_inForce_47 : decode cX6_inForce 47 = .ok (.getfield 16, 3) := by decide +kernel
theorem dX6_inForce_50 : decode cX6_inForce 50 = .ok (.iload_n 2, 1) := by decide +kernel
theorem dX6_inForce_51 : decode cX6_inForce 51 = .ok (.iaload, 1) := by decide +kernel
theorem dX6_inForce_52 : decode cX6_inForce 52 = .ok (.if_icmp .lt 5, 3) := by decide +kernel
theorem dX6_inForce_55 : decode cX6_inForce 55 = .ok (.iload_n 3, 1) := by decide +kernel
theorem dX6_inForce_56 : decode cX6_inForce 56 = .ok (.ireturn, 1) := by decide +kernel
theorem dX6_inForce_57 : decode cX6_inForce 57 = .ok (.iinc 3 (-1), 3) := by decide +kernel
theorem dX6_inForce_60 : decode cX6_inForce 60 = .ok (.goto (-50), 3) := by decide +kernel
theorem dX6_inForce_63 : decode cX6_inForce 63 = .ok (.bipush (-2), 2) := by decide +kernel
theorem dX6_inForce_65 : decode cX6_inForce 65 = .ok (.ireturn, 1) := by decide +kernel
theorem dX6_workedOut_0 : decode cX6_workedOut 0 = .ok (.iload_n 2, 1) := by decide +kernel
theorem dX6_workedOut_1 : decode cX6_workedOut 1 = .ok (.iconst 0, 1) := by decide +kernel
theorem dX6_workedOut_2 : decode cX6_workedOut 2 = .ok (.aload_n 0, 1) := by decide +kernel
theorem dX6_workedOut_3 : decode cX6_workedOut 3 = .ok (.getfield 32, 3) := by decide +kernel
theorem dX6_workedOut_6 : decode cX6_workedOut 6 = .ok (.invokevirtual 73, 3) := by decide +kernel
theorem dX6_workedOut_9 : decode cX6_workedOut 9 = .ok (.iconst 1, 1) := by decide +kernel
theorem dX6_workedOut_10 : decode cX6_workedOut 10 = .ok (.isub, 1) := by decide +kernel
theorem dX6_workedOut_11 : decode cX6_workedOut 11 = .ok (.invokestatic 57, 3) := by decide +kernel
theorem dX6_workedOut_14 : decode cX6_workedOut 14 = .ok (.ifCond .ne 9, 3) := by decide +kernel
theorem dX6_workedOut_17 : decode cX6_workedOut 17 = .ok (.getstatic 224, 3) := by decide +kernel
theorem dX6_workedOut_20 : decode cX6_workedOut 20 = .ok (.iload_n 1, 1) := by decide +kernel
theorem dX6_workedOut_21 : decode cX6_workedOut 21 = .ok (.iaload, 1) := by decide +kernel
theorem dX6_workedOut_22 : decode cX6_workedOut 22 = .ok (.ireturn, 1) := by decide +kernel
theorem dX6_workedOut_23 : decode cX6_workedOut 23 = .ok (.aload_n 0, 1) := by decide +kernel
theorem dX6_workedOut_24 : decode cX6_workedOut 24 = .ok (.getfield 45, 3) := by decide +kernel
theorem dX6_workedOut_27 : decode cX6_workedOut 27 = .ok (.aload_n 0, 1) := by decide +kernel
theorem dX6_workedOut_28 : decode cX6_workedOut 28 = .ok (.getfield 32, 3) := by decide +kernel
theorem dX6_workedOut_31 : decode cX6_workedOut 31 = .ok (.iload_n 2, 1) := by decide +kernel
theorem dX6_workedOut_32 : decode cX6_workedOut 32 = .ok (.invokevirtual 213, 3) := by decide +kernel
theorem dX6_workedOut_35 : decode cX6_workedOut 35 = .ok (.checkcast 153, 3) := by decide +kernel
theorem dX6_workedOut_38 : decode cX6_workedOut 38 = .ok (.getfield 227, 3) := by decide +kernel
theorem dX6_workedOut_41 : decode cX6_workedOut 41 = .ok (.invokevirtual 230, 3) := by decide +kernel
theorem dX6_workedOut_44 : decode cX6_workedOut 44 = .ok (.ireturn, 1) := by decide +kernel
theorem dX6_lookAt_0 : decode cX6_lookAt 0 = .ok (.iconst 0, 1) := by decide +kernel
theorem dX6_lookAt_1 : decode cX6_lookAt 1 = .ok (.istore_n 2, 1) := by decide +kernel
theorem dX6_lookAt_2 : decode cX6_lookAt 2 = .ok (.iconst 0, 1) := by decide +kernel
theorem dX6_lookAt_3 : decode cX6_lookAt 3 = .ok (.istore_n 3, 1) := by decide +kernel
theorem dX6_lookAt_4 : decode cX6_lookAt 4 = .ok (.iload_n 3, 1) := by decide +kernel
theorem dX6_lookAt_5 : decode cX6_lookAt 5 = .ok (.aload_n 0, 1) := by decide +kernel
theorem dX6_lookAt_6 : decode cX6_lookAt 6 = .ok (.getfield 25, 3) := by decide +kernel
theorem dX6_lookAt_9 : decode cX6_lookAt 9 = .ok (.invokevirtual 73, 3) := by decide +kernel
theorem dX6_lookAt_12 : decode cX6_lookAt 12 = .ok (.if_icmp .ge 46, 3) := by decide +kernel
theorem dX6_lookAt_15 : decode cX6_lookAt 15 = .ok (.aload_n 0, 1) := by decide +kernel
theorem dX6_lookAt_16 : decode cX6_lookAt 16 = .ok (.getfield 25, 3) := by decide +kernel
theorem dX6_lookAt_19 : decode cX6_lookAt 19 = .ok (.iload_n 3, 1) := by decide +kernel
theorem dX6_lookAt_20 : decode cX6_lookAt 20 = .ok (.invokevirtual 213, 3) := by decide +kernel
theorem dX6_lookAt_23 : decode cX6_lookAt 23 = .ok (.checkcast 77, 3) := by decide +kernel
theorem dX6_lookAt_26 : decode cX6_lookAt 26 = .ok (.astore 4, 2) := by decide +kernel
theorem dX6_lookAt_28 : decode cX6_lookAt 28 = .ok (.aload 4, 2) := by decide +kernel
theorem dX6_lookAt_30 : decode cX6_lookAt 30 = .ok (.getfield 166, 3) := by decide +kernel
theorem dX6_lookAt_33 : decode cX6_lookAt 33 = .ok (.iconst 1, 1) := by decide +kernel
theorem dX6_lookAt_34 : decode cX6_lookAt 34 = .ok (.if_icmp .ne 18, 3) := by decide +kernel
theorem dX6_lookAt_37 : decode cX6_lookAt 37 = .ok (.aload 4, 2) := by decide +kernel
theorem dX6_lookAt_39 : decode cX6_lookAt 39 = .ok (.getfield 180, 3) := by decide +kernel
theorem dX6_lookAt_42 : decode cX6_lookAt 42 = .ok (.aload_n 1, 1) := by decide +kernel
theorem dX6_lookAt_43 : decode cX6_lookAt 43 = .ok (.getfield 180, 3) := by decide +kernel
theorem dX6_lookAt_46 : decode cX6_lookAt 46 = .ok (.if_icmp .ne 6, 3) := by decide +kernel
theorem dX6_lookAt_49 : decode cX6_lookAt 49 = .ok (.iinc 2 1, 3) := by decide +kernel
theorem dX6_lookAt_52 : decode cX6_lookAt 52 = .ok (.iinc 3 1, 3) := by decide +kernel
theorem dX6_lookAt_55 : decode cX6_lookAt 55 = .ok (.goto (-51), 3) := by decide +kernel
theorem dX6_lookAt_58 : decode cX6_lookAt 58 = .ok (.aload_n 0, 1) := by decide +kernel
theorem dX6_lookAt_59 : decode cX6_lookAt 59 = .ok (.getfield 45, 3) := by decide +kernel
theorem dX6_lookAt_62 : decode cX6_lookAt 62 = .ok (.aload_n 1, 1) := by decide +kernel
theorem dX6_lookAt_63 : decode cX6_lookAt 63 = .ok (.aload_n 0, 1) := by decide +kernel
theorem dX6_lookAt_64 : decode cX6_lookAt 64 = .ok (.getfield 122, 3) := by decide +kernel
theorem dX6_lookAt_67 : decode cX6_lookAt 67 = .ok (.iload_n 2, 1) := by decide +kernel
theorem dX6_lookAt_68 : decode cX6_lookAt 68 = .ok (.invokevirtual 234, 3) := by decide +kernel
theorem dX6_lookAt_71 : decode cX6_lookAt 71 = .ok (.return_, 1) := by decide +kernel
theorem dX6_goByOneDay_0 : decode cX6_goByOneDay 0 = .ok (.aload_n 0, 1) := by decide +kernel
theorem dX6_goByOneDay_1 : decode cX6_goByOneDay 1 = .ok (.dup, 1) := by decide +kernel
theorem dX6_goByOneDay_2 : decode cX6_goByOneDay 2 = .ok (.getfield 122, 3) := by decide +kernel
theorem dX6_goByOneDay_5 : decode cX6_goByOneDay 5 = .ok (.iconst 1, 1) := by decide +kernel
theorem dX6_goByOneDay_6 : decode cX6_goByOneDay 6 = .ok (.iadd, 1) := by decide +kernel
theorem dX6_goByOneDay_7 : decode cX6_goByOneDay 7 = .ok (.putfield 122, 3) := by decide +kernel
theorem dX6_goByOneDay_10 : decode cX6_goByOneDay 10 = .ok (.iconst 0, 1) := by decide +kernel
theorem dX6_goByOneDay_11 : decode cX6_goByOneDay 11 = .ok (.istore_n 1, 1) := by decide +kernel
theorem dX6_goByOneDay_12 : decode cX6_goByOneDay 12 = .ok (.iload_n 1, 1) := by decide +kernel
theorem dX6_goByOneDay_13 : decode cX6_goByOneDay 13 = .ok (.aload_n 0, 1) := by decide +kernel
theorem dX6_goByOneDay_14 : decode cX6_goByOneDay 14 = .ok (.getfield 25, 3) := by decide +kernel
theorem dX6_goByOneDay_17 : decode cX6_goByOneDay 17 = .ok (.invokevirtual 73, 3) := by decide +kernel
theorem dX6_goByOneDay_20 : decode cX6_goByOneDay 20 = .ok (.if_icmp .ge 66, 3) := by decide +kernel
theorem dX6_goByOneDay_23 : decode cX6_goByOneDay 23 = .ok (.aload_n 0, 1) := by decide +kernel
theorem dX6_goByOneDay_24 : decode cX6_goByOneDay 24 = .ok (.getfield 25, 3) := by decide +kernel
theorem dX6_goByOneDay_27 : decode cX6_goByOneDay 27 = .ok (.iload_n 1, 1) := by decide +kernel
theorem dX6_goByOneDay_28 : decode cX6_goByOneDay 28 = .ok (.invokevirtual 213, 3) := by decide +kernel
theorem dX6_goByOneDay_31 : decode cX6_goByOneDay 31 = .ok (.checkcast 77, 3) := by decide +kernel
theorem dX6_goByOneDay_34 : decode cX6_goByOneDay 34 = .ok (.astore_n 2, 1) := by decide +kernel
theorem dX6_goByOneDay_35 : decode cX6_goByOneDay 35 = .ok (.aload_n 2, 1) := by decide +kernel
theorem dX6_goByOneDay_36 : decode cX6_goByOneDay 36 = .ok (.getfield 166, 3) := by decide +kernel
theorem dX6_goByOneDay_39 : decode cX6_goByOneDay 39 = .ok (.iconst 2, 1) := by decide +kernel
theorem dX6_goByOneDay_40 : decode cX6_goByOneDay 40 = .ok (.if_icmp .ne 11, 3) := by decide +kernel
theorem dX6_goByOneDay_43 : decode cX6_goByOneDay 43 = .ok (.aload_n 0, 1) := by decide +kernel
theorem dX6_goByOneDay_44 : decode cX6_goByOneDay 44 = .ok (.aload_n 2, 1) := by decide +kernel
theorem dX6_goByOneDay_45 : decode cX6_goByOneDay 45 = .ok (.invokevirtual 238, 3) := by decide +kernel
theorem dX6_goByOneDay_48 : decode cX6_goByOneDay 48 = .ok (.goto 32, 3) := by decide +kernel
theorem dX6_goByOneDay_51 : decode cX6_goByOneDay 51 = .ok (.aload_n 2, 1) := by decide +kernel
theorem dX6_goByOneDay_52 : decode cX6_goByOneDay 52 = .ok (.getfield 166, 3) := by decide +kernel
theorem dX6_goByOneDay_55 : decode cX6_goByOneDay 55 = .ok (.iconst 1, 1) := by decide +kernel
theorem dX6_goByOneDay_56 : decode cX6_goByOneDay 56 = .ok (.if_icmp .ne 24, 3) := by decide +kernel
theorem dX6_goByOneDay_59 : decode cX6_goByOneDay 59 = .ok (.aload_n 0, 1) := by decide +kernel
theorem dX6_goByOneDay_60 : decode cX6_goByOneDay 60 = .ok (.aload_n 2, 1) := by decide +kernel
theorem dX6_goByOneDay_61 : decode cX6_goByOneDay 61 = .ok (.invokevirtual 241, 3) := by decide +kernel
theorem dX6_goByOneDay_64 : decode cX6_goByOneDay 64 = .ok (.ifCond .eq 16, 3) := by decide +kernel
theorem dX6_goByOneDay_67 : decode cX6_goByOneDay 67 = .ok (.aload_n 0, 1) := by decide +kernel
theorem dX6_goByOneDay_68 : decode cX6_goByOneDay 68 = .ok (.aload_n 2, 1) := by decide +kernel
theorem dX6_goByOneDay_69 : decode cX6_goByOneDay 69 = .ok (.invokevirtual 245, 3) := by decide +kernel
theorem dX6_goByOneDay_72 : decode cX6_goByOneDay 72 = .ok (.ifCond .ne 8, 3) := by decide +kernel
theorem dX6_goByOneDay_75 : decode cX6_goByOneDay 75 = .ok (.aload_n 0, 1) := by decide +kernel
theorem dX6_goByOneDay_76 : decode cX6_goByOneDay 76 = .ok (.aload_n 2, 1) := by decide +kernel
theorem dX6_goByOneDay_77 : decode cX6_goByOneDay 77 = .ok (.invokevirtual 248, 3) := by decide +kernel
theorem dX6_goByOneDay_80 : decode cX6_goByOneDay 80 = .ok (.iinc 1 1, 3) := by decide +kernel
theorem dX6_goByOneDay_83 : decode cX6_goByOneDay 83 = .ok (.goto (-71), 3) := by decide +kernel
theorem dX6_goByOneDay_86 : decode cX6_goByOneDay 86 = .ok (.return_, 1) := by decide +kernel
theorem dX6_sailOn_0 : decode cX6_sailOn 0 = .ok (.aload_n 1, 1) := by decide +kernel
theorem dX6_sailOn_1 : decode cX6_sailOn 1 = .ok (.dup, 1) := by decide +kernel
theorem dX6_sailOn_2 : decode cX6_sailOn 2 = .ok (.getfield 251, 3) := by decide +kernel
theorem dX6_sailOn_5 : decode cX6_sailOn 5 = .ok (.iconst 1, 1) := by decide +kernel
theorem dX6_sailOn_6 : decode cX6_sailOn 6 = .ok (.aload_n 1, 1) := by decide +kernel
theorem dX6_sailOn_7 : decode cX6_sailOn 7 = .ok (.getfield 254, 3) := by decide +kernel
theorem dX6_sailOn_10 : decode cX6_sailOn 10 = .ok (.aload_n 0, 1) := by decide +kernel
theorem dX6_sailOn_11 : decode cX6_sailOn 11 = .ok (.getfield 19, 3) := by decide +kernel
theorem dX6_sailOn_14 : decode cX6_sailOn 14 = .ok (.aload_n 0, 1) := by decide +kernel
theorem dX6_sailOn_15 : decode cX6_sailOn 15 = .ok (.getfield 122, 3) := by decide +kernel
theorem dX6_sailOn_18 : decode cX6_sailOn 18 = .ok (.bipush 30, 2) := by decide +kernel
theorem dX6_sailOn_20 : decode cX6_sailOn 20 = .ok (.irem, 1) := by decide +kernel
theorem dX6_sailOn_21 : decode cX6_sailOn 21 = .ok (.iaload, 1) := by decide +kernel
theorem dX6_sailOn_22 : decode cX6_sailOn 22 = .ok (.iadd, 1) := by decide +kernel
theorem dX6_sailOn_23 : decode cX6_sailOn 23 = .ok (.invokestatic 257, 3) := by decide +kernel
theorem dX6_sailOn_26 : decode cX6_sailOn 26 = .ok (.iadd, 1) := by decide +kernel
theorem dX6_sailOn_27 : decode cX6_sailOn 27 = .ok (.putfield 251, 3) := by decide +kernel
theorem dX6_sailOn_30 : decode cX6_sailOn 30 = .ok (.aload_n 1, 1) := by decide +kernel
theorem dX6_sailOn_31 : decode cX6_sailOn 31 = .ok (.getfield 251, 3) := by decide +kernel
theorem dX6_sailOn_34 : decode cX6_sailOn 34 = .ok (.bipush 10, 2) := by decide +kernel
theorem dX6_sailOn_36 : decode cX6_sailOn 36 = .ok (.aload_n 0, 1) := by decide +kernel
theorem dX6_sailOn_37 : decode cX6_sailOn 37 = .ok (.getfield 13, 3) := by decide +kernel
theorem dX6_sailOn_40 : decode cX6_sailOn 40 = .ok (.aload_n 1, 1) := by decide +kernel
theorem dX6_sailOn_41 : decode cX6_sailOn 41 = .ok (.getfield 180, 3) := by decide +kernel
theorem dX6_sailOn_44 : decode cX6_sailOn 44 = .ok (.iaload, 1) := by decide +kernel
theorem dX6_sailOn_45 : decode cX6_sailOn 45 = .ok (.imul, 1) := by decide +kernel
theorem dX6_sailOn_46 : decode cX6_sailOn 46 = .ok (.if_icmp .ge 4, 3) := by decide +kernel
theorem dX6_sailOn_49 : decode cX6_sailOn 49 = .ok (.return_, 1) := by decide +kernel
theorem dX6_sailOn_50 : decode cX6_sailOn 50 = .ok (.aload_n 1, 1) := by decide +kernel
theorem dX6_sailOn_51 : decode cX6_sailOn 51 = .ok (.aload_n 1, 1) := by decide +kernel
theorem dX6_sailOn_52 : decode cX6_sailOn 52 = .ok (.getfield 180, 3) := by decide +kernel
theorem dX6_sailOn_55 : decode cX6_sailOn 55 = .ok (.aload_n 0, 1) := by decide +kernel
theorem dX6_sailOn_56 : decode cX6_sailOn 56 = .ok (.getfield 122, 3) := by decide +kernel
theorem dX6_sailOn_59 : decode cX6_sailOn 59 = .ok (.invokevirtual 186, 3) := by decide +kernel
theorem dX6_sailOn_62 : decode cX6_sailOn 62 = .ok (.iconst 0, 1) := by decide +kernel
theorem dX6_sailOn_63 : decode cX6_sailOn 63 = .ok (.istore_n 2, 1) := by decide +kernel
theorem dX6_sailOn_64 : decode cX6_sailOn 64 = .ok (.iload_n 2, 1) := by decide +kernel
theorem dX6_sailOn_65 : decode cX6_sailOn 65 = .ok (.aload_n 0, 1) := by decide +kernel
theorem dX6_sailOn_66 : decode cX6_sailOn 66 = .ok (.getfield 29, 3) := by decide +kernel
theorem dX6_sailOn_69 : decode cX6_sailOn 69 = .ok (.invokevirtual 73, 3) := by decide +kernel
theorem dX6_sailOn_72 : decode cX6_sailOn 72 = .ok (.if_icmp .ge 46, 3) := by decide +kernel
theorem dX6_sailOn_75 : decode cX6_sailOn 75 = .ok (.aload_n 0, 1) := by decide +kernel
theorem dX6_sailOn_76 : decode cX6_sailOn 76 = .ok (.getfield 29, 3) := by decide +kernel
theorem dX6_sailOn_79 : decode cX6_sailOn 79 = .ok (.iload_n 2, 1) := by decide +kernel
theorem dX6_sailOn_80 : decode cX6_sailOn 80 = .ok (.invokevirtual 213, 3) := by decide +kernel
theorem dX6_sailOn_83 : decode cX6_sailOn 83 = .ok (.checkcast 120, 3) := by decide +kernel
theorem dX6_sailOn_86 : decode cX6_sailOn 86 = .ok (.astore_n 3, 1) := by decide +kernel
theorem dX6_sailOn_87 : decode cX6_sailOn 87 = .ok (.aload_n 3, 1) := by decide +kernel
theorem dX6_sailOn_88 : decode cX6_sailOn 88 = .ok (.aload_n 1, 1) := by decide +kernel
theorem dX6_sailOn_89 : decode cX6_sailOn 89 = .ok (.invokevirtual 262, 3) := by decide +kernel
theorem dX6_sailOn_92 : decode cX6_sailOn 92 = .ok (.ifCond .eq 20, 3) := by decide +kernel
theorem dX6_sailOn_95 : decode cX6_sailOn 95 = .ok (.aload_n 3, 1) := by decide +kernel
theorem dX6_sailOn_96 : decode cX6_sailOn 96 = .ok (.getfield 265, 3) := by decide +kernel
theorem dX6_sailOn_99 : decode cX6_sailOn 99 = .ok (.aload_n 1, 1) := by decide +kernel
theorem dX6_sailOn_100 : decode cX6_sailOn 100 = .ok (.getfield 180, 3) := by decide +kernel
theorem dX6_sailOn_103 : decode cX6_sailOn 103 = .ok (.if_icmp .ne 9, 3) := by decide +kernel
theorem dX6_sailOn_106 : decode cX6_sailOn 106 = .ok (.aload_n 0, 1) := by decide +kernel
theorem dX6_sailOn_107 : decode cX6_sailOn 107 = .ok (.aload_n 3, 1) := by decide +kernel
theorem dX6_sailOn_108 : decode cX6_sailOn 108 = .ok (.aload_n 1, 1) := by decide +kernel
theorem dX6_sailOn_109 : decode cX6_sailOn 109 = .ok (.invokevirtual 268, 3) := by decide +kernel
theorem dX6_sailOn_112 : decode cX6_sailOn 112 = .ok (.iinc 2 1, 3) := by decide +kernel
theorem dX6_sailOn_115 : decode cX6_sailOn 115 = .ok (.goto (-51), 3) := by decide +kernel
theorem dX6_sailOn_118 : decode cX6_sailOn 118 = .ok (.return_, 1) := by decide +kernel
theorem dX6_giveOut_0 : decode cX6_giveOut 0 = .ok (.aload_n 2, 1) := by decide +kernel
theorem dX6_giveOut_1 : decode cX6_giveOut 1 = .ok (.aload_n 1, 1) := by decide +kernel
theorem dX6_giveOut_2 : decode cX6_giveOut 2 = .ok (.invokevirtual 272, 3) := by decide +kernel
theorem dX6_giveOut_5 : decode cX6_giveOut 5 = .ok (.aload_n 1, 1) := by decide +kernel
theorem dX6_giveOut_6 : decode cX6_giveOut 6 = .ok (.iconst 2, 1) := by decide +kernel
theorem dX6_giveOut_7 : decode cX6_giveOut 7 = .ok (.aload_n 0, 1) := by decide +kernel
theorem dX6_giveOut_8 : decode cX6_giveOut 8 = .ok (.getfield 122, 3) := by decide +kernel
theorem dX6_giveOut_11 : decode cX6_giveOut 11 = .ok (.invokevirtual 276, 3) := by decide +kernel
theorem dX6_giveOut_14 : decode cX6_giveOut 14 = .ok (.aload_n 2, 1) := by decide +kernel
theorem dX6_giveOut_15 : decode cX6_giveOut 15 = .ok (.dup, 1) := by decide +kernel
theorem dX6_giveOut_16 : decode cX6_giveOut 16 = .ok (.getfield 279, 3) := by decide +kernel
theorem dX6_giveOut_19 : decode cX6_giveOut 19 = .ok (.aload_n 1, 1) := by decide +kernel
theorem dX6_giveOut_20 : decode cX6_giveOut 20 = .ok (.getfield 282, 3) := by decide +kernel
theorem dX6_giveOut_23 : decode cX6_giveOut 23 = .ok (.iadd, 1) := by decide +kernel
theorem dX6_giveOut_24 : decode cX6_giveOut 24 = .ok (.putfield 279, 3) := by decide +kernel
theorem dX6_giveOut_27 : decode cX6_giveOut 27 = .ok (.aload_n 0, 1) := by decide +kernel
theorem dX6_giveOut_28 : decode cX6_giveOut 28 = .ok (.getfield 9, 3) := by decide +kernel
theorem dX6_giveOut_31 : decode cX6_giveOut 31 = .ok (.aload_n 1, 1) := by decide +kernel
theorem dX6_giveOut_32 : decode cX6_giveOut 32 = .ok (.getfield 285, 3) := by decide +kernel
theorem dX6_giveOut_35 : decode cX6_giveOut 35 = .ok (.dup2, 1) := by decide +kernel
theorem dX6_giveOut_36 : decode cX6_giveOut 36 = .ok (.iaload, 1) := by decide +kernel
theorem dX6_giveOut_37 : decode cX6_giveOut 37 = .ok (.aload_n 1, 1) := by decide +kernel
theorem dX6_giveOut_38 : decode cX6_giveOut 38 = .ok (.getfield 282, 3) := by decide +kernel
theorem dX6_giveOut_41 : decode cX6_giveOut 41 = .ok (.isub, 1) := by decide +kernel
theorem dX6_giveOut_42 : decode cX6_giveOut 42 = .ok (.iastore, 1) := by decide +kernel
theorem dX6_giveOut_43 : decode cX6_giveOut 43 = .ok (.aload_n 1, 1) := by decide +kernel
theorem dX6_giveOut_44 : decode cX6_giveOut 44 = .ok (.getfield 282, 3) := by decide +kernel
theorem dX6_giveOut_47 : decode cX6_giveOut 47 = .ok (.istore_n 3, 1) := by decide +kernel
theorem dX6_giveOut_48 : decode cX6_giveOut 48 = .ok (.iconst 0, 1) := by decide +kernel
theorem dX6_giveOut_49 : decode cX6_giveOut 49 = .ok (.istore 4, 2) := by decide +kernel
theorem dX6_giveOut_51 : decode cX6_giveOut 51 = .ok (.iload 4, 2) := by decide +kernel
theorem dX6_giveOut_53 : decode cX6_giveOut 53 = .ok (.bipush 10, 2) := by decide +kernel
theorem dX6_giveOut_55 : decode cX6_giveOut 55 = .ok (.if_icmp .ge 43, 3) := by decide +kernel
theorem dX6_giveOut_58 : decode cX6_giveOut 58 = .ok (.aload_n 1, 1) := by decide +kernel
theorem dX6_giveOut_59 : decode cX6_giveOut 59 = .ok (.getfield 282, 3) := by decide +kernel
theorem dX6_giveOut_62 : decode cX6_giveOut 62 = .ok (.aload_n 2, 1) := by decide +kernel
theorem dX6_giveOut_63 : decode cX6_giveOut 63 = .ok (.getfield 108, 3) := by decide +kernel
theorem dX6_giveOut_66 : decode cX6_giveOut 66 = .ok (.iload 4, 2) := by decide +kernel
theorem dX6_giveOut_68 : decode cX6_giveOut 68 = .ok (.iaload, 1) := by decide +kernel
theorem dX6_giveOut_69 : decode cX6_giveOut 69 = .ok (.imul, 1) := by decide +kernel
theorem dX6_giveOut_70 : decode cX6_giveOut 70 = .ok (.bipush 24, 2) := by decide +kernel
theorem dX6_giveOut_72 : decode cX6_giveOut 72 = .ok (.idiv, 1) := by decide +kernel
theorem dX6_giveOut_73 : decode cX6_giveOut 73 = .ok (.istore 5, 2) := by decide +kernel
theorem dX6_giveOut_75 : decode cX6_giveOut 75 = .ok (.aload_n 0, 1) := by decide +kernel
theorem dX6_giveOut_76 : decode cX6_giveOut 76 = .ok (.getfield 9, 3) := by decide +kernel
theorem dX6_giveOut_79 : decode cX6_giveOut 79 = .ok (.iload 4, 2) := by decide +kernel
theorem dX6_giveOut_81 : decode cX6_giveOut 81 = .ok (.dup2, 1) := by decide +kernel
theorem dX6_giveOut_82 : decode cX6_giveOut 82 = .ok (.iaload, 1) := by decide +kernel
theorem dX6_giveOut_83 : decode cX6_giveOut 83 = .ok (.iload 5, 2) := by decide +kernel
theorem dX6_giveOut_85 : decode cX6_giveOut 85 = .ok (.iadd, 1) := by decide +kernel
theorem dX6_giveOut_86 : decode cX6_giveOut 86 = .ok (.iastore, 1) := by decide +kernel
theorem dX6_giveOut_87 : decode cX6_giveOut 87 = .ok (.iload_n 3, 1) := by decide +kernel
theorem dX6_giveOut_88 : decode cX6_giveOut 88 = .ok (.iload 5, 2) := by decide +kernel
theorem dX6_giveOut_90 : decode cX6_giveOut 90 = .ok (.isub, 1) := by decide +kernel
theorem dX6_giveOut_91 : decode cX6_giveOut 91 = .ok (.istore_n 3, 1) := by decide +kernel
theorem dX6_giveOut_92 : decode cX6_giveOut 92 = .ok (.iinc 4 1, 3) := by decide +kernel
theorem dX6_giveOut_95 : decode cX6_giveOut 95 = .ok (.goto (-44), 3) := by decide +kernel
theorem dX6_giveOut_98 : decode cX6_giveOut 98 = .ok (.aload_n 0, 1) := by decide +kernel
theorem dX6_giveOut_99 : decode cX6_giveOut 99 = .ok (.dup, 1) := by decide +kernel
theorem dX6_giveOut_100 : decode cX6_giveOut 100 = .ok (.getfield 101, 3) := by decide +kernel
theorem dX6_giveOut_103 : decode cX6_giveOut 103 = .ok (.iload_n 3, 1) := by decide +kernel
theorem dX6_giveOut_104 : decode cX6_giveOut 104 = .ok (.iadd, 1) := by decide +kernel
theorem dX6_giveOut_105 : decode cX6_giveOut 105 = .ok (.putfield 101, 3) := by decide +kernel
theorem dX6_giveOut_108 : decode cX6_giveOut 108 = .ok (.return_, 1) := by decide +kernel
theorem dX6_hasStayed_0 : decode cX6_hasStayed 0 = .ok (.aload_n 0, 1) := by decide +kernel
theorem dX6_hasStayed_1 : decode cX6_hasStayed 1 = .ok (.aload_n 1, 1) := by decide +kernel
theorem dX6_hasStayed_2 : decode cX6_hasStayed 2 = .ok (.invokevirtual 169, 3) := by decide +kernel
theorem dX6_hasStayed_5 : decode cX6_hasStayed 5 = .ok (.aload_n 0, 1) := by decide +kernel
theorem dX6_hasStayed_6 : decode cX6_hasStayed 6 = .ok (.iconst 0, 1) := by decide +kernel
theorem dX6_hasStayed_7 : decode cX6_hasStayed 7 = .ok (.aload_n 0, 1) := by decide +kernel
theorem dX6_hasStayed_8 : decode cX6_hasStayed 8 = .ok (.iconst 0, 1) := by decide +kernel
theorem dX6_hasStayed_9 : decode cX6_hasStayed 9 = .ok (.aload_n 1, 1) := by decide +kernel
theorem dX6_hasStayed_10 : decode cX6_hasStayed 10 = .ok (.getfield 180, 3) := by decide +kernel
theorem dX6_hasStayed_13 : decode cX6_hasStayed 13 = .ok (.invokevirtual 162, 3) := by decide +kernel
theorem dX6_hasStayed_16 : decode cX6_hasStayed 16 = .ok (.invokevirtual 183, 3) := by decide +kernel
theorem dX6_hasStayed_19 : decode cX6_hasStayed 19 = .ok (.istore_n 2, 1) := by decide +kernel
theorem dX6_hasStayed_20 : decode cX6_hasStayed 20 = .ok (.aload_n 0, 1) := by decide +kernel
theorem dX6_hasStayed_21 : decode cX6_hasStayed 21 = .ok (.getfield 122, 3) := by decide +kernel
theorem dX6_hasStayed_24 : decode cX6_hasStayed 24 = .ok (.aload_n 1, 1) := by decide +kernel
theorem dX6_hasStayed_25 : decode cX6_hasStayed 25 = .ok (.getfield 288, 3) := by decide +kernel
theorem dX6_hasStayed_28 : decode cX6_hasStayed 28 = .ok (.isub, 1) := by decide +kernel
theorem dX6_hasStayed_29 : decode cX6_hasStayed 29 = .ok (.iconst 0, 1) := by decide +kernel
theorem dX6_hasStayed_30 : decode cX6_hasStayed 30 = .ok (.bipush 30, 2) := by decide +kernel
theorem dX6_hasStayed_32 : decode cX6_hasStayed 32 = .ok (.iload_n 2, 1) := by decide +kernel
theorem dX6_hasStayed_33 : decode cX6_hasStayed 33 = .ok (.invokestatic 291, 3) := by decide +kernel
theorem dX6_hasStayed_36 : decode cX6_hasStayed 36 = .ok (.invokestatic 257, 3) := by decide +kernel
theorem dX6_hasStayed_39 : decode cX6_hasStayed 39 = .ok (.if_icmp .lt 7, 3) := by decide +kernel
theorem dX6_hasStayed_42 : decode cX6_hasStayed 42 = .ok (.iconst 1, 1) := by decide +kernel
theorem dX6_hasStayed_43 : decode cX6_hasStayed 43 = .ok (.goto 4, 3) := by decide +kernel
theorem dX6_hasStayed_46 : decode cX6_hasStayed 46 = .ok (.iconst 0, 1) := by decide +kernel
theorem dX6_hasStayed_47 : decode cX6_hasStayed 47 = .ok (.ireturn, 1) := by decide +kernel
theorem dX6_waitsForAnother_0 : decode cX6_waitsForAnother 0 = .ok (.aload_n 0, 1) := by decide +kernel
theorem dX6_waitsForAnother_1 : decode cX6_waitsForAnother 1 = .ok (.aload_n 1, 1) := by decide +kernel
theorem dX6_waitsForAnother_2 : decode cX6_waitsForAnother 2 = .ok (.invokevirtual 169, 3) := by decide +kernel
theorem dX6_waitsForAnother_5 : decode cX6_waitsForAnother 5 = .ok (.aload_n 0, 1) := by decide +kernel
theorem dX6_waitsForAnother_6 : decode cX6_waitsForAnother 6 = .ok (.iconst 2, 1) := by decide +kernel
theorem dX6_waitsForAnother_7 : decode cX6_waitsForAnother 7 = .ok (.aload_n 1, 1) := by decide +kernel
theorem dX6_waitsForAnother_8 : decode cX6_waitsForAnother 8 = .ok (.getfield 180, 3) := by decide +kernel
theorem dX6_waitsForAnother_11 : decode cX6_waitsForAnother 11 = .ok (.invokevirtual 162, 3) := by decide +kernel
theorem dX6_waitsForAnother_14 : decode cX6_waitsForAnother 14 = .ok (.istore_n 2, 1) := by decide +kernel
theorem dX6_waitsForAnother_15 : decode cX6_waitsForAnother 15 = .ok (.iconst 0, 1) := by decide +kernel
theorem dX6_waitsForAnother_16 : decode cX6_waitsForAnother 16 = .ok (.istore_n 3, 1) := by decide +kernel
theorem dX6_waitsForAnother_17 : decode cX6_waitsForAnother 17 = .ok (.iload_n 3, 1) := by decide +kernel
theorem dX6_waitsForAnother_18 : decode cX6_waitsForAnother 18 = .ok (.aload_n 0, 1) := by decide +kernel
theorem dX6_waitsForAnother_19 : decode cX6_waitsForAnother 19 = .ok (.getfield 25, 3) := by decide +kernel
theorem dX6_waitsForAnother_22 : decode cX6_waitsForAnother 22 = .ok (.invokevirtual 73, 3) := by decide +kernel
theorem dX6_waitsForAnother_25 : decode cX6_waitsForAnother 25 = .ok (.if_icmp .ge 63, 3) := by decide +kernel
theorem dX6_waitsForAnother_28 : decode cX6_waitsForAnother 28 = .ok (.aload_n 0, 1) := by decide +kernel
theorem dX6_waitsForAnother_29 : decode cX6_waitsForAnother 29 = .ok (.getfield 25, 3) := by decide +kernel
theorem dX6_waitsForAnother_32 : decode cX6_waitsForAnother 32 = .ok (.iload_n 3, 1) := by decide +kernel
theorem dX6_waitsForAnother_33 : decode cX6_waitsForAnother 33 = .ok (.invokevirtual 213, 3) := by decide +kernel
theorem dX6_waitsForAnother_36 : decode cX6_waitsForAnother 36 = .ok (.checkcast 77, 3) := by decide +kernel
theorem dX6_waitsForAnother_39 : decode cX6_waitsForAnother 39 = .ok (.astore 4, 2) := by decide +kernel
theorem dX6_waitsForAnother_41 : decode cX6_waitsForAnother 41 = .ok (.aload 4, 2) := by decide +kernel
theorem dX6_waitsForAnother_43 : decode cX6_waitsForAnother 43 = .ok (.getfield 166, 3) := by decide +kernel
theorem dX6_waitsForAnother_46 : decode cX6_waitsForAnother 46 = .ok (.iconst 2, 1) := by decide +kernel
theorem dX6_waitsForAnother_47 : decode cX6_waitsForAnother 47 = .ok (.if_icmp .ne 35, 3) := by decide +kernel
theorem dX6_waitsForAnother_50 : decode cX6_waitsForAnother 50 = .ok (.aload 4, 2) := by decide +kernel
theorem dX6_waitsForAnother_52 : decode cX6_waitsForAnother 52 = .ok (.getfield 180, 3) := by decide +kernel
theorem dX6_waitsForAnother_55 : decode cX6_waitsForAnother 55 = .ok (.aload_n 1, 1) := by decide +kernel
theorem dX6_waitsForAnother_56 : decode cX6_waitsForAnother 56 = .ok (.getfield 180, 3) := by decide +kernel
theorem dX6_waitsForAnother_59 : decode cX6_waitsForAnother 59 = .ok (.if_icmp .ne 23, 3) := by decide +kernel
theorem dX6_waitsForAnother_62 : decode cX6_waitsForAnother 62 = .ok (.aload_n 0, 1) := by decide +kernel
theorem dX6_waitsForAnother_63 : decode cX6_waitsForAnother 63 = .ok (.getfield 45, 3) := by decide +kernel
theorem dX6_waitsForAnother_66 : decode cX6_waitsForAnother 66 = .ok (.aload 4, 2) := by decide +kernel
theorem dX6_waitsForAnother_68 : decode cX6_waitsForAnother 68 = .ok (.invokevirtual 177, 3) := by decide +kernel
theorem dX6_waitsForAnother_71 : decode cX6_waitsForAnother 71 = .ok (.aload_n 0, 1) := by decide +kernel
theorem dX6_waitsForAnother_72 : decode cX6_waitsForAnother 72 = .ok (.iconst 2, 1) := by decide +kernel
theorem dX6_waitsForAnother_73 : decode cX6_waitsForAnother 73 = .ok (.iload_n 2, 1) := by decide +kernel
theorem dX6_waitsForAnother_74 : decode cX6_waitsForAnother 74 = .ok (.invokevirtual 183, 3) := by decide +kernel
theorem dX6_waitsForAnother_77 : decode cX6_waitsForAnother 77 = .ok (.ifCond .le 5, 3) := by decide +kernel
theorem dX6_waitsForAnother_80 : decode cX6_waitsForAnother 80 = .ok (.iconst 1, 1) := by decide +kernel
theorem dX6_waitsForAnother_81 : decode cX6_waitsForAnother 81 = .ok (.ireturn, 1) := by decide +kernel
theorem dX6_waitsForAnother_82 : decode cX6_waitsForAnother 82 = .ok (.iinc 3 1, 3) := by decide +kernel
theorem dX6_waitsForAnother_85 : decode cX6_waitsForAnother 85 = .ok (.goto (-68), 3) := by decide +kernel
theorem dX6_waitsForAnother_88 : decode cX6_waitsForAnother 88 = .ok (.iconst 0, 1) := by decide +kernel
theorem dX6_waitsForAnother_89 : decode cX6_waitsForAnother 89 = .ok (.ireturn, 1) := by decide +kernel
theorem dX6_leave_0 : decode cX6_leave 0 = .ok (.aload_n 1, 1) := by decide +kernel
theorem dX6_leave_1 : decode cX6_leave 1 = .ok (.getfield 180, 3) := by decide +kernel
theorem dX6_leave_4 : decode cX6_leave 4 = .ok (.aload_n 0, 1) := by decide +kernel
theorem dX6_leave_5 : decode cX6_leave 5 = .ok (.getfield 66, 3) := by decide +kernel
theorem dX6_leave_8 : decode cX6_leave 8 = .ok (.iconst 1, 1) := by decide +kernel
theorem dX6_leave_9 : decode cX6_leave 9 = .ok (.isub, 1) := by decide +kernel
theorem dX6_leave_10 : decode cX6_leave 10 = .ok (.if_icmp .lt 9, 3) := by decide +kernel
theorem dX6_leave_13 : decode cX6_leave 13 = .ok (.aload_n 1, 1) := by decide +kernel
theorem dX6_leave_14 : decode cX6_leave 14 = .ok (.iconst 3, 1) := by decide +kernel
theorem dX6_leave_15 : decode cX6_leave 15 = .ok (.putfield 166, 3) := by decide +kernel
theorem dX6_leave_18 : decode cX6_leave 18 = .ok (.return_, 1) := by decide +kernel
theorem dX6_leave_19 : decode cX6_leave 19 = .ok (.aload_n 0, 1) := by decide +kernel
theorem dX6_leave_20 : decode cX6_leave 20 = .ok (.aload_n 1, 1) := by decide +kernel
theorem dX6_leave_21 : decode cX6_leave 21 = .ok (.invokevirtual 294, 3) := by decide +kernel
theorem dX6_leave_24 : decode cX6_leave 24 = .ok (.iconst 0, 1) := by decide +kernel
theorem dX6_leave_25 : decode cX6_leave 25 = .ok (.istore_n 2, 1) := by decide +kernel
theorem dX6_leave_26 : decode cX6_leave 26 = .ok (.iload_n 2, 1) := by decide +kernel
theorem dX6_leave_27 : decode cX6_leave 27 = .ok (.aload_n 0, 1) := by decide +kernel
theorem dX6_leave_28 : decode cX6_leave 28 = .ok (.getfield 49, 3) := by decide +kernel
theorem dX6_leave_31 : decode cX6_leave 31 = .ok (.invokevirtual 73, 3) := by decide +kernel
theorem dX6_leave_34 : decode cX6_leave 34 = .ok (.if_icmp .ge 51, 3) := by decide +kernel
theorem dX6_leave_37 : decode cX6_leave 37 = .ok (.aload_n 0, 1) := by decide +kernel
theorem dX6_leave_38 : decode cX6_leave 38 = .ok (.getfield 49, 3) := by decide +kernel
theorem dX6_leave_41 : decode cX6_leave 41 = .ok (.iload_n 2, 1) := by decide +kernel
theorem dX6_leave_42 : decode cX6_leave 42 = .ok (.invokevirtual 213, 3) := by decide +kernel
theorem dX6_leave_45 : decode cX6_leave 45 = .ok (.checkcast 120, 3) := by decide +kernel
theorem dX6_leave_48 : decode cX6_leave 48 = .ok (.astore_n 3, 1) := by decide +kernel
theorem dX6_leave_49 : decode cX6_leave 49 = .ok (.aload_n 1, 1) := by decide +kernel
theorem dX6_leave_50 : decode cX6_leave 50 = .ok (.aload_n 3, 1) := by decide +kernel
theorem dX6_leave_51 : decode cX6_leave 51 = .ok (.invokevirtual 297, 3) := by decide +kernel
theorem dX6_leave_54 : decode cX6_leave 54 = .ok (.ifCond .eq 25, 3) := by decide +kernel
theorem dX6_leave_57 : decode cX6_leave 57 = .ok (.aload_n 1, 1) := by decide +kernel
theorem dX6_leave_58 : decode cX6_leave 58 = .ok (.aload_n 3, 1) := by decide +kernel
theorem dX6_leave_59 : decode cX6_leave 59 = .ok (.invokevirtual 301, 3) := by decide +kernel
theorem dX6_leave_62 : decode cX6_leave 62 = .ok (.aload_n 3, 1) := by decide +kernel
theorem dX6_leave_63 : decode cX6_leave 63 = .ok (.aload_n 1, 1) := by decide +kernel
theorem dX6_leave_64 : decode cX6_leave 64 = .ok (.getfield 304, 3) := by decide +kernel
theorem dX6_leave_67 : decode cX6_leave 67 = .ok (.putfield 307, 3) := by decide +kernel
theorem dX6_leave_70 : decode cX6_leave 70 = .ok (.aload_n 3, 1) := by decide +kernel
theorem dX6_leave_71 : decode cX6_leave 71 = .ok (.iconst 1, 1) := by decide +kernel
theorem dX6_leave_72 : decode cX6_leave 72 = .ok (.aload_n 0, 1) := by decide +kernel
theorem dX6_leave_73 : decode cX6_leave 73 = .ok (.getfield 122, 3) := by decide +kernel
theorem dX6_leave_76 : decode cX6_leave 76 = .ok (.invokevirtual 276, 3) := by decide +kernel
theorem dX6_leave_79 : decode cX6_leave 79 = .ok (.iinc 2 1, 3) := by decide +kernel
theorem dX6_leave_82 : decode cX6_leave 82 = .ok (.goto (-56), 3) := by decide +kernel
theorem dX6_leave_85 : decode cX6_leave 85 = .ok (.aload_n 1, 1) := by decide +kernel
theorem dX6_leave_86 : decode cX6_leave 86 = .ok (.aload_n 0, 1) := by decide +kernel
theorem dX6_leave_87 : decode cX6_leave 87 = .ok (.getfield 122, 3) := by decide +kernel
theorem dX6_leave_90 : decode cX6_leave 90 = .ok (.invokevirtual 310, 3) := by decide +kernel
theorem dX6_leave_93 : decode cX6_leave 93 = .ok (.return_, 1) := by decide +kernel
theorem dX6_rankForLading_0 : decode cX6_rankForLading 0 = .ok (.aload_n 0, 1) := by decide +kernel
theorem dX6_rankForLading_1 : decode cX6_rankForLading 1 = .ok (.getfield 49, 3) := by decide +kernel
theorem dX6_rankForLading_4 : decode cX6_rankForLading 4 = .ok (.invokevirtual 313, 3) := by decide +kernel
theorem dX6_rankForLading_7 : decode cX6_rankForLading 7 = .ok (.aload_n 0, 1) := by decide +kernel
theorem dX6_rankForLading_8 : decode cX6_rankForLading 8 = .ok (.aload_n 1, 1) := by decide +kernel
theorem dX6_rankForLading_9 : decode cX6_rankForLading 9 = .ok (.invokevirtual 169, 3) := by decide +kernel
theorem dX6_rankForLading_12 : decode cX6_rankForLading 12 = .ok (.aload_n 0, 1) := by decide +kernel
theorem dX6_rankForLading_13 : decode cX6_rankForLading 13 = .ok (.iconst 1, 1) := by decide +kernel
theorem dX6_rankForLading_14 : decode cX6_rankForLading 14 = .ok (.aload_n 1, 1) := by decide +kernel
theorem dX6_rankForLading_15 : decode cX6_rankForLading 15 = .ok (.getfield 180, 3) := by decide +kernel
theorem dX6_rankForLading_18 : decode cX6_rankForLading 18 = .ok (.invokevirtual 162, 3) := by decide +kernel
theorem dX6_rankForLading_21 : decode cX6_rankForLading 21 = .ok (.istore_n 2, 1) := by decide +kernel
theorem dX6_rankForLading_22 : decode cX6_rankForLading 22 = .ok (.iconst 0, 1) := by decide +kernel
theorem dX6_rankForLading_23 : decode cX6_rankForLading 23 = .ok (.istore_n 3, 1) := by decide +kernel
theorem dX6_rankForLading_24 : decode cX6_rankForLading 24 = .ok (.iload_n 3, 1) := by decide +kernel
theorem dX6_rankForLading_25 : decode cX6_rankForLading 25 = .ok (.aload_n 0, 1) := by decide +kernel
theorem dX6_rankForLading_26 : decode cX6_rankForLading 26 = .ok (.getfield 29, 3) := by decide +kernel
theorem dX6_rankForLading_29 : decode cX6_rankForLading 29 = .ok (.invokevirtual 73, 3) := by decide +kernel
theorem dX6_rankForLading_32 : decode cX6_rankForLading 32 = .ok (.if_icmp .ge 76, 3) := by decide +kernel
theorem dX6_rankForLading_35 : decode cX6_rankForLading 35 = .ok (.aload_n 0, 1) := by decide +kernel
theorem dX6_rankForLading_36 : decode cX6_rankForLading 36 = .ok (.getfield 29, 3) := by decide +kernel
theorem dX6_rankForLading_39 : decode cX6_rankForLading 39 = .ok (.iload_n 3, 1) := by decide +kernel
theorem dX6_rankForLading_40 : decode cX6_rankForLading 40 = .ok (.invokevirtual 213, 3) := by decide +kernel
theorem dX6_rankForLading_43 : decode cX6_rankForLading 43 = .ok (.checkcast 120, 3) := by decide +kernel
theorem dX6_rankForLading_46 : decode cX6_rankForLading 46 = .ok (.astore 4, 2) := by decide +kernel
theorem dX6_rankForLading_48 : decode cX6_rankForLading 48 = .ok (.aload 4, 2) := by decide +kernel
theorem dX6_rankForLading_50 : decode cX6_rankForLading 50 = .ok (.getfield 217, 3) := by decide +kernel
theorem dX6_rankForLading_53 : decode cX6_rankForLading 53 = .ok (.ifCond .ne 49, 3) := by decide +kernel
theorem dX6_rankForLading_56 : decode cX6_rankForLading 56 = .ok (.aload 4, 2) := by decide +kernel
theorem dX6_rankForLading_58 : decode cX6_rankForLading 58 = .ok (.getfield 316, 3) := by decide +kernel
theorem dX6_rankForLading_61 : decode cX6_rankForLading 61 = .ok (.aload_n 1, 1) := by decide +kernel
theorem dX6_rankForLading_62 : decode cX6_rankForLading 62 = .ok (.getfield 180, 3) := by decide +kernel
theorem dX6_rankForLading_65 : decode cX6_rankForLading 65 = .ok (.if_icmp .ne 37, 3) := by decide +kernel
theorem dX6_rankForLading_68 : decode cX6_rankForLading 68 = .ok (.aload_n 0, 1) := by decide +kernel
theorem dX6_rankForLading_69 : decode cX6_rankForLading 69 = .ok (.getfield 45, 3) := by decide +kernel
theorem dX6_rankForLading_72 : decode cX6_rankForLading 72 = .ok (.aload 4, 2) := by decide +kernel
theorem dX6_rankForLading_74 : decode cX6_rankForLading 74 = .ok (.aload_n 0, 1) := by decide +kernel
theorem dX6_rankForLading_75 : decode cX6_rankForLading 75 = .ok (.getfield 122, 3) := by decide +kernel
theorem dX6_rankForLading_78 : decode cX6_rankForLading 78 = .ok (.invokevirtual 173, 3) := by decide +kernel
theorem dX6_rankForLading_81 : decode cX6_rankForLading 81 = .ok (.aload_n 0, 1) := by decide +kernel
theorem dX6_rankForLading_82 : decode cX6_rankForLading 82 = .ok (.iconst 1, 1) := by decide +kernel
theorem dX6_rankForLading_83 : decode cX6_rankForLading 83 = .ok (.iload_n 2, 1) := by decide +kernel
theorem dX6_rankForLading_84 : decode cX6_rankForLading 84 = .ok (.invokevirtual 183, 3) := by decide +kernel
theorem dX6_rankForLading_87 : decode cX6_rankForLading 87 = .ok (.istore 5, 2) := by decide +kernel
theorem dX6_rankForLading_89 : decode cX6_rankForLading 89 = .ok (.iload 5, 2) := by decide +kernel
theorem dX6_rankForLading_91 : decode cX6_rankForLading 91 = .ok (.ifCond .le 11, 3) := by decide +kernel
theorem dX6_rankForLading_94 : decode cX6_rankForLading 94 = .ok (.aload_n 0, 1) := by decide +kernel
theorem dX6_rankForLading_95 : decode cX6_rankForLading 95 = .ok (.aload 4, 2) := by decide +kernel
theorem dX6_rankForLading_97 : decode cX6_rankForLading 97 = .ok (.iload 5, 2) := by decide +kernel
theorem dX6_rankForLading_99 : decode cX6_rankForLading 99 = .ok (.invokevirtual 319, 3) := by decide +kernel
theorem dX6_rankForLading_102 : decode cX6_rankForLading 102 = .ok (.iinc 3 1, 3) := by decide +kernel
theorem dX6_rankForLading_105 : decode cX6_rankForLading 105 = .ok (.goto (-81), 3) := by decide +kernel
theorem dX6_rankForLading_108 : decode cX6_rankForLading 108 = .ok (.return_, 1) := by decide +kernel
theorem dX6_rank_0 : decode cX6_rank 0 = .ok (.aload_n 1, 1) := by decide +kernel
theorem dX6_rank_1 : decode cX6_rank 1 = .ok (.iload_n 2, 1) := by decide +kernel
theorem dX6_rank_2 : decode cX6_rank 2 = .ok (.putfield 322, 3) := by decide +kernel
theorem dX6_rank_5 : decode cX6_rank 5 = .ok (.aload_n 0, 1) := by decide +kernel
theorem dX6_rank_6 : decode cX6_rank 6 = .ok (.getfield 49, 3) := by decide +kernel
theorem dX6_rank_9 : decode cX6_rank 9 = .ok (.invokevirtual 73, 3) := by decide +kernel
theorem dX6_rank_12 : decode cX6_rank 12 = .ok (.istore_n 3, 1) := by decide +kernel
theorem dX6_rank_13 : decode cX6_rank 13 = .ok (.aload_n 0, 1) := by decide +kernel
theorem dX6_rank_14 : decode cX6_rank 14 = .ok (.getfield 49, 3) := by decide +kernel
theorem dX6_rank_17 : decode cX6_rank 17 = .ok (.invokevirtual 73, 3) := by decide +kernel
theorem dX6_rank_20 : decode cX6_rank 20 = .ok (.iconst 1, 1) := by decide +kernel
theorem dX6_rank_21 : decode cX6_rank 21 = .ok (.isub, 1) := by decide +kernel
theorem dX6_rank_22 : decode cX6_rank 22 = .ok (.istore 4, 2) := by decide +kernel
theorem dX6_rank_24 : decode cX6_rank 24 = .ok (.iload 4, 2) := by decide +kernel
theorem dX6_rank_26 : decode cX6_rank 26 = .ok (.ifCond .lt 31, 3) := by decide +kernel
theorem dX6_rank_29 : decode cX6_rank 29 = .ok (.aload_n 0, 1) := by decide +kernel
theorem dX6_rank_30 : decode cX6_rank 30 = .ok (.getfield 49, 3) := by decide +kernel
theorem dX6_rank_33 : decode cX6_rank 33 = .ok (.iload 4, 2) := by decide +kernel
theorem dX6_rank_35 : decode cX6_rank 35 = .ok (.invokevirtual 213, 3) := by decide +kernel
theorem dX6_rank_38 : decode cX6_rank 38 = .ok (.checkcast 120, 3) := by decide +kernel
theorem dX6_rank_41 : decode cX6_rank 41 = .ok (.getfield 322, 3) := by decide +kernel
theorem dX6_rank_44 : decode cX6_rank 44 = .ok (.iload_n 2, 1) := by decide +kernel
theorem dX6_rank_45 : decode cX6_rank 45 = .ok (.if_icmp .ge 12, 3) := by decide +kernel
theorem dX6_rank_48 : decode cX6_rank 48 = .ok (.iload 4, 2) := by decide +kernel
theorem dX6_rank_50 : decode cX6_rank 50 = .ok (.istore_n 3, 1) := by decide +kernel
theorem dX6_rank_51 : decode cX6_rank 51 = .ok (.iinc 4 (-1), 3) := by decide +kernel
theorem dX6_rank_54 : decode cX6_rank 54 = .ok (.goto (-30), 3) := by decide +kernel
theorem dX6_rank_57 : decode cX6_rank 57 = .ok (.aload_n 0, 1) := by decide +kernel
theorem dX6_rank_58 : decode cX6_rank 58 = .ok (.getfield 49, 3) := by decide +kernel
theorem dX6_rank_61 : decode cX6_rank 61 = .ok (.iload_n 3, 1) := by decide +kernel
theorem dX6_rank_62 : decode cX6_rank 62 = .ok (.aload_n 1, 1) := by decide +kernel
theorem dX6_rank_63 : decode cX6_rank 63 = .ok (.invokevirtual 324, 3) := by decide +kernel
theorem dX6_rank_66 : decode cX6_rank 66 = .ok (.return_, 1) := by decide +kernel
theorem dX6_rankAboard_0 : decode cX6_rankAboard 0 = .ok (.aload_n 0, 1) := by decide +kernel
theorem dX6_rankAboard_1 : decode cX6_rankAboard 1 = .ok (.getfield 49, 3) := by decide +kernel
theorem dX6_rankAboard_4 : decode cX6_rankAboard 4 = .ok (.invokevirtual 313, 3) := by decide +kernel
theorem dX6_rankAboard_7 : decode cX6_rankAboard 7 = .ok (.iconst 0, 1) := by decide +kernel
theorem dX6_rankAboard_8 : decode cX6_rankAboard 8 = .ok (.istore_n 2, 1) := by decide +kernel
theorem dX6_rankAboard_9 : decode cX6_rankAboard 9 = .ok (.iconst 0, 1) := by decide +kernel
theorem dX6_rankAboard_10 : decode cX6_rankAboard 10 = .ok (.istore_n 3, 1) := by decide +kernel
theorem dX6_rankAboard_11 : decode cX6_rankAboard 11 = .ok (.iload_n 3, 1) := by decide +kernel
theorem dX6_rankAboard_12 : decode cX6_rankAboard 12 = .ok (.aload_n 0, 1) := by decide +kernel
theorem dX6_rankAboard_13 : decode cX6_rankAboard 13 = .ok (.getfield 29, 3) := by decide +kernel
theorem dX6_rankAboard_16 : decode cX6_rankAboard 16 = .ok (.invokevirtual 73, 3) := by decide +kernel
theorem dX6_rankAboard_19 : decode cX6_rankAboard 19 = .ok (.if_icmp .ge 50, 3) := by decide +kernel
theorem dX6_rankAboard_22 : decode cX6_rankAboard 22 = .ok (.aload_n 0, 1) := by decide +kernel
theorem dX6_rankAboard_23 : decode cX6_rankAboard 23 = .ok (.getfield 29, 3) := by decide +kernel
theorem dX6_rankAboard_26 : decode cX6_rankAboard 26 = .ok (.iload_n 3, 1) := by decide +kernel
theorem dX6_rankAboard_27 : decode cX6_rankAboard 27 = .ok (.invokevirtual 213, 3) := by decide +kernel
theorem dX6_rankAboard_30 : decode cX6_rankAboard 30 = .ok (.checkcast 120, 3) := by decide +kernel
theorem dX6_rankAboard_33 : decode cX6_rankAboard 33 = .ok (.astore 4, 2) := by decide +kernel
theorem dX6_rankAboard_35 : decode cX6_rankAboard 35 = .ok (.aload 4, 2) := by decide +kernel
theorem dX6_rankAboard_37 : decode cX6_rankAboard 37 = .ok (.aload_n 1, 1) := by decide +kernel
theorem dX6_rankAboard_38 : decode cX6_rankAboard 38 = .ok (.invokevirtual 262, 3) := by decide +kernel
theorem dX6_rankAboard_41 : decode cX6_rankAboard 41 = .ok (.ifCond .eq 22, 3) := by decide +kernel
theorem dX6_rankAboard_44 : decode cX6_rankAboard 44 = .ok (.aload_n 0, 1) := by decide +kernel
theorem dX6_rankAboard_45 : decode cX6_rankAboard 45 = .ok (.aload 4, 2) := by decide +kernel
theorem dX6_rankAboard_47 : decode cX6_rankAboard 47 = .ok (.aload 4, 2) := by decide +kernel
theorem dX6_rankAboard_49 : decode cX6_rankAboard 49 = .ok (.getfield 327, 3) := by decide +kernel
theorem dX6_rankAboard_52 : decode cX6_rankAboard 52 = .ok (.invokevirtual 319, 3) := by decide +kernel
theorem dX6_rankAboard_55 : decode cX6_rankAboard 55 = .ok (.iload_n 2, 1) := by decide +kernel
theorem dX6_rankAboard_56 : decode cX6_rankAboard 56 = .ok (.aload 4, 2) := by decide +kernel
theorem dX6_rankAboard_58 : decode cX6_rankAboard 58 = .ok (.getfield 330, 3) := by decide +kernel
theorem dX6_rankAboard_61 : decode cX6_rankAboard 61 = .ok (.iadd, 1) := by decide +kernel
theorem dX6_rankAboard_62 : decode cX6_rankAboard 62 = .ok (.istore_n 2, 1) := by decide +kernel
theorem dX6_rankAboard_63 : decode cX6_rankAboard 63 = .ok (.iinc 3 1, 3) := by decide +kernel
theorem dX6_rankAboard_66 : decode cX6_rankAboard 66 = .ok (.goto (-55), 3) := by decide +kernel
theorem dX6_rankAboard_69 : decode cX6_rankAboard 69 = .ok (.iload_n 2, 1) := by decide +kernel
theorem dX6_rankAboard_70 : decode cX6_rankAboard 70 = .ok (.ireturn, 1) := by decide +kernel
theorem dX6_throwOut_0 : decode cX6_throwOut 0 = .ok (.iconst 0, 1) := by decide +kernel
theorem dX6_throwOut_1 : decode cX6_throwOut 1 = .ok (.istore_n 3, 1) := by decide +kernel
theorem dX6_throwOut_2 : decode cX6_throwOut 2 = .ok (.iconst 0, 1) := by decide +kernel
theorem dX6_throwOut_3 : decode cX6_throwOut 3 = .ok (.istore 4, 2) := by decide +kernel
theorem dX6_throwOut_5 : decode cX6_throwOut 5 = .ok (.iconst 0, 1) := by decide +kernel
theorem dX6_throwOut_6 : decode cX6_throwOut 6 = .ok (.istore 5, 2) := by decide +kernel
theorem dX6_throwOut_8 : decode cX6_throwOut 8 = .ok (.iload 5, 2) := by decide +kernel
theorem dX6_throwOut_10 : decode cX6_throwOut 10 = .ok (.aload_n 0, 1) := by decide +kernel
theorem dX6_throwOut_11 : decode cX6_throwOut 11 = .ok (.getfield 49, 3) := by decide +kernel
theorem dX6_throwOut_14 : decode cX6_throwOut 14 = .ok (.invokevirtual 73, 3) := by decide +kernel
theorem dX6_throwOut_17 : decode cX6_throwOut 17 = .ok (.if_icmp .ge 81, 3) := by decide +kernel
theorem dX6_throwOut_20 : decode cX6_throwOut 20 = .ok (.iload 4, 2) := by decide +kernel
theorem dX6_throwOut_22 : decode cX6_throwOut 22 = .ok (.iload_n 2, 1) := by decide +kernel
theorem dX6_throwOut_23 : decode cX6_throwOut 23 = .ok (.if_icmp .ge 75, 3) := by decide +kernel
theorem dX6_throwOut_26 : decode cX6_throwOut 26 = .ok (.aload_n 0, 1) := by decide +kernel
theorem dX6_throwOut_27 : decode cX6_throwOut 27 = .ok (.getfield 49, 3) := by decide +kernel
theorem dX6_throwOut_30 : decode cX6_throwOut 30 = .ok (.iload 5, 2) := by decide +kernel
theorem dX6_throwOut_32 : decode cX6_throwOut 32 = .ok (.invokevirtual 213, 3) := by decide +kernel
theorem dX6_throwOut_35 : decode cX6_throwOut 35 = .ok (.checkcast 120, 3) := by decide +kernel
theorem dX6_throwOut_38 : decode cX6_throwOut 38 = .ok (.astore 6, 2) := by decide +kernel
theorem dX6_throwOut_40 : decode cX6_throwOut 40 = .ok (.aload_n 1, 1) := by decide +kernel
theorem dX6_throwOut_41 : decode cX6_throwOut 41 = .ok (.aload 6, 2) := by decide +kernel
theorem dX6_throwOut_43 : decode cX6_throwOut 43 = .ok (.invokevirtual 272, 3) := by decide +kernel
theorem dX6_throwOut_46 : decode cX6_throwOut 46 = .ok (.aload 6, 2) := by decide +kernel
theorem dX6_throwOut_48 : decode cX6_throwOut 48 = .ok (.iconst 3, 1) := by decide +kernel
theorem dX6_throwOut_49 : decode cX6_throwOut 49 = .ok (.aload_n 0, 1) := by decide +kernel
theorem dX6_throwOut_50 : decode cX6_throwOut 50 = .ok (.getfield 122, 3) := by decide +kernel
theorem dX6_throwOut_53 : decode cX6_throwOut 53 = .ok (.invokevirtual 276, 3) := by decide +kernel
theorem dX6_throwOut_56 : decode cX6_throwOut 56 = .ok (.aload_n 0, 1) := by decide +kernel
theorem dX6_throwOut_57 : decode cX6_throwOut 57 = .ok (.getfield 9, 3) := by decide +kernel
theorem dX6_throwOut_60 : decode cX6_throwOut 60 = .ok (.aload 6, 2) := by decide +kernel
theorem dX6_throwOut_62 : decode cX6_throwOut 62 = .ok (.getfield 285, 3) := by decide +kernel
theorem dX6_throwOut_65 : decode cX6_throwOut 65 = .ok (.dup2, 1) := by decide +kernel
theorem dX6_throwOut_66 : decode cX6_throwOut 66 = .ok (.iaload, 1) := by decide +kernel
theorem dX6_throwOut_67 : decode cX6_throwOut 67 = .ok (.aload 6, 2) := by decide +kernel
theorem dX6_throwOut_69 : decode cX6_throwOut 69 = .ok (.getfield 330, 3) := by decide +kernel
theorem dX6_throwOut_72 : decode cX6_throwOut 72 = .ok (.iadd, 1) := by decide +kernel
theorem dX6_throwOut_73 : decode cX6_throwOut 73 = .ok (.iastore, 1) := by decide +kernel
theorem dX6_throwOut_74 : decode cX6_throwOut 74 = .ok (.iload 4, 2) := by decide +kernel
theorem dX6_throwOut_76 : decode cX6_throwOut 76 = .ok (.aload 6, 2) := by decide +kernel
theorem dX6_throwOut_78 : decode cX6_throwOut 78 = .ok (.getfield 327, 3) := by decide +kernel
theorem dX6_throwOut_81 : decode cX6_throwOut 81 = .ok (.iadd, 1) := by decide +kernel
theorem dX6_throwOut_82 : decode cX6_throwOut 82 = .ok (.istore 4, 2) := by decide +kernel
theorem dX6_throwOut_84 : decode cX6_throwOut 84 = .ok (.iload_n 3, 1) := by decide +kernel
theorem dX6_throwOut_85 : decode cX6_throwOut 85 = .ok (.aload 6, 2) := by decide +kernel
theorem dX6_throwOut_87 : decode cX6_throwOut 87 = .ok (.getfield 330, 3) := by decide +kernel
theorem dX6_throwOut_90 : decode cX6_throwOut 90 = .ok (.iadd, 1) := by decide +kernel
theorem dX6_throwOut_91 : decode cX6_throwOut 91 = .ok (.istore_n 3, 1) := by decide +kernel
theorem dX6_throwOut_92 : decode cX6_throwOut 92 = .ok (.iinc 5 1, 3) := by decide +kernel
theorem dX6_throwOut_95 : decode cX6_throwOut 95 = .ok (.goto (-87), 3) := by decide +kernel
theorem dX6_throwOut_98 : decode cX6_throwOut 98 = .ok (.iload_n 3, 1) := by decide +kernel
theorem dX6_throwOut_99 : decode cX6_throwOut 99 = .ok (.ireturn, 1) := by decide +kernel
theorem dX6_shareLoss_0 : decode cX6_shareLoss 0 = .ok (.iload_n 2, 1) := by decide +kernel
theorem dX6_shareLoss_1 : decode cX6_shareLoss 1 = .ok (.iconst 1, 1) := by decide +kernel
theorem dX6_shareLoss_2 : decode cX6_shareLoss 2 = .ok (.if_icmp .ge 4, 3) := by decide +kernel
theorem dX6_shareLoss_5 : decode cX6_shareLoss 5 = .ok (.return_, 1) := by decide +kernel
theorem dX6_shareLoss_6 : decode cX6_shareLoss 6 = .ok (.iload_n 1, 1) := by decide +kernel
theorem dX6_shareLoss_7 : decode cX6_shareLoss 7 = .ok (.istore_n 3, 1) := by decide +kernel
theorem dX6_shareLoss_8 : decode cX6_shareLoss 8 = .ok (.iconst 0, 1) := by decide +kernel
theorem dX6_shareLoss_9 : decode cX6_shareLoss 9 = .ok (.istore 4, 2) := by decide +kernel
theorem dX6_shareLoss_11 : decode cX6_shareLoss 11 = .ok (.iload 4, 2) := by decide +kernel
theorem dX6_shareLoss_13 : decode cX6_shareLoss 13 = .ok (.aload_n 0, 1) := by decide +kernel
theorem dX6_shareLoss_14 : decode cX6_shareLoss 14 = .ok (.getfield 49, 3) := by decide +kernel
theorem dX6_shareLoss_17 : decode cX6_shareLoss 17 = .ok (.invokevirtual 73, 3) := by decide +kernel
theorem dX6_shareLoss_20 : decode cX6_shareLoss 20 = .ok (.if_icmp .ge 58, 3) := by decide +kernel
theorem dX6_shareLoss_23 : decode cX6_shareLoss 23 = .ok (.aload_n 0, 1) := by decide +kernel
theorem dX6_shareLoss_24 : decode cX6_shareLoss 24 = .ok (.getfield 49, 3) := by decide +kernel
theorem dX6_shareLoss_27 : decode cX6_shareLoss 27 = .ok (.iload 4, 2) := by decide +kernel
theorem dX6_shareLoss_29 : decode cX6_shareLoss 29 = .ok (.invokevirtual 213, 3) := by decide +kernel
theorem dX6_shareLoss_32 : decode cX6_shareLoss 32 = .ok (.checkcast 120, 3) := by decide +kernel
theorem dX6_shareLoss_35 : decode cX6_shareLoss 35 = .ok (.astore 5, 2) := by decide +kernel
theorem dX6_shareLoss_37 : decode cX6_shareLoss 37 = .ok (.iload_n 1, 1) := by decide +kernel
theorem dX6_shareLoss_38 : decode cX6_shareLoss 38 = .ok (.i2l, 1) := by decide +kernel
theorem dX6_shareLoss_39 : decode cX6_shareLoss 39 = .ok (.aload 5, 2) := by decide +kernel
theorem dX6_shareLoss_41 : decode cX6_shareLoss 41 = .ok (.getfield 330, 3) := by decide +kernel
theorem dX6_shareLoss_44 : decode cX6_shareLoss 44 = .ok (.i2l, 1) := by decide +kernel
theorem dX6_shareLoss_45 : decode cX6_shareLoss 45 = .ok (.lmul, 1) := by decide +kernel
theorem dX6_shareLoss_46 : decode cX6_shareLoss 46 = .ok (.iload_n 2, 1) := by decide +kernel
theorem dX6_shareLoss_47 : decode cX6_shareLoss 47 = .ok (.i2l, 1) := by decide +kernel
theorem dX6_shareLoss_48 : decode cX6_shareLoss 48 = .ok (.ldiv, 1) := by decide +kernel
theorem dX6_shareLoss_49 : decode cX6_shareLoss 49 = .ok (.l2i, 1) := by decide +kernel
theorem dX6_shareLoss_50 : decode cX6_shareLoss 50 = .ok (.istore 6, 2) := by decide +kernel
theorem dX6_shareLoss_52 : decode cX6_shareLoss 52 = .ok (.aload_n 0, 1) := by decide +kernel
theorem dX6_shareLoss_53 : decode cX6_shareLoss 53 = .ok (.getfield 9, 3) := by decide +kernel
theorem dX6_shareLoss_56 : decode cX6_shareLoss 56 = .ok (.aload 5, 2) := by decide +kernel
theorem dX6_shareLoss_58 : decode cX6_shareLoss 58 = .ok (.getfield 285, 3) := by decide +kernel
theorem dX6_shareLoss_61 : decode cX6_shareLoss 61 = .ok (.dup2, 1) := by decide +kernel
theorem dX6_shareLoss_62 : decode cX6_shareLoss 62 = .ok (.iaload, 1) := by decide +kernel
theorem dX6_shareLoss_63 : decode cX6_shareLoss 63 = .ok (.iload 6, 2) := by decide +kernel
theorem dX6_shareLoss_65 : decode cX6_shareLoss 65 = .ok (.isub, 1) := by decide +kernel
theorem dX6_shareLoss_66 : decode cX6_shareLoss 66 = .ok (.iastore, 1) := by decide +kernel
theorem dX6_shareLoss_67 : decode cX6_shareLoss 67 = .ok (.iload_n 3, 1) := by decide +kernel
theorem dX6_shareLoss_68 : decode cX6_shareLoss 68 = .ok (.iload 6, 2) := by decide +kernel
theorem dX6_shareLoss_70 : decode cX6_shareLoss 70 = .ok (.isub, 1) := by decide +kernel
theorem dX6_shareLoss_71 : decode cX6_shareLoss 71 = .ok (.istore_n 3, 1) := by decide +kernel
theorem dX6_shareLoss_72 : decode cX6_shareLoss 72 = .ok (.iinc 4 1, 3) := by decide +kernel
theorem dX6_shareLoss_75 : decode cX6_shareLoss 75 = .ok (.goto (-64), 3) := by decide +kernel
theorem dX6_shareLoss_78 : decode cX6_shareLoss 78 = .ok (.aload_n 0, 1) := by decide +kernel
theorem dX6_shareLoss_79 : decode cX6_shareLoss 79 = .ok (.dup, 1) := by decide +kernel
theorem dX6_shareLoss_80 : decode cX6_shareLoss 80 = .ok (.getfield 101, 3) := by decide +kernel
theorem dX6_shareLoss_83 : decode cX6_shareLoss 83 = .ok (.iload_n 3, 1) := by decide +kernel
theorem dX6_shareLoss_84 : decode cX6_shareLoss 84 = .ok (.isub, 1) := by decide +kernel
theorem dX6_shareLoss_85 : decode cX6_shareLoss 85 = .ok (.putfield 101, 3) := by decide +kernel
theorem dX6_shareLoss_88 : decode cX6_shareLoss 88 = .ok (.return_, 1) := by decide +kernel
