theorem dX6_init_0 : decode cX6_init 0 = .ok (.aload_n 0, 1) := by decide +kernel
theorem dX6_init_1 : decode cX6_init 1 = .ok (.invokespecial 3, 3) := by decide +kernel
theorem dX6_init_4 : decode cX6_init 4 = .ok (.aload_n 0, 1) := by decide +kernel
theorem dX6_init_5 : decode cX6_init 5 = .ok (.aload_n 1, 1) := by decide +kernel
theorem dX6_init_6 : decode cX6_init 6 = .ok (.putfield 9, 3) := by decide +kernel
theorem dX6_init_9 : decode cX6_init 9 = .ok (.return_, 1) := by decide +kernel
theorem dX6_blow_0 : decode cX6_blow 0 = .ok (.aload_n 0, 1) := by decide +kernel
theorem dX6_blow_1 : decode cX6_blow 1 = .ok (.iconst 0, 1) := by decide +kernel
theorem dX6_blow_2 : decode cX6_blow 2 = .ok (.putfield 15, 3) := by decide +kernel
theorem dX6_blow_5 : decode cX6_blow 5 = .ok (.aload_n 0, 1) := by decide +kernel
theorem dX6_blow_6 : decode cX6_blow 6 = .ok (.iconst 0, 1) := by decide +kernel
theorem dX6_blow_7 : decode cX6_blow 7 = .ok (.putfield 19, 3) := by decide +kernel
theorem dX6_blow_10 : decode cX6_blow 10 = .ok (.aload_n 0, 1) := by decide +kernel
theorem dX6_blow_11 : decode cX6_blow 11 = .ok (.iconst 0, 1) := by decide +kernel
theorem dX6_blow_12 : decode cX6_blow 12 = .ok (.putfield 22, 3) := by decide +kernel
theorem dX6_blow_15 : decode cX6_blow 15 = .ok (.iload_n 2, 1) := by decide +kernel
theorem dX6_blow_16 : decode cX6_blow 16 = .ok (.istore 4, 2) := by decide +kernel
theorem dX6_blow_18 : decode cX6_blow 18 = .ok (.aload_n 0, 1) := by decide +kernel
theorem dX6_blow_19 : decode cX6_blow 19 = .ok (.aload_n 1, 1) := by decide +kernel
theorem dX6_blow_20 : decode cX6_blow 20 = .ok (.invokevirtual 25, 3) := by decide +kernel
theorem dX6_blow_23 : decode cX6_blow 23 = .ok (.istore 5, 2) := by decide +kernel
theorem dX6_blow_25 : decode cX6_blow 25 = .ok (.iconst 0, 1) := by decide +kernel
theorem dX6_blow_26 : decode cX6_blow 26 = .ok (.istore 6, 2) := by decide +kernel
theorem dX6_blow_28 : decode cX6_blow 28 = .ok (.iload 6, 2) := by decide +kernel
theorem dX6_blow_30 : decode cX6_blow 30 = .ok (.iload_n 3, 1) := by decide +kernel
theorem dX6_blow_31 : decode cX6_blow 31 = .ok (.if_icmp .ge 81, 3) := by decide +kernel
theorem dX6_blow_34 : decode cX6_blow 34 = .ok (.iload 4, 2) := by decide +kernel
theorem dX6_blow_36 : decode cX6_blow 36 = .ok (.invokestatic 29, 3) := by decide +kernel
theorem dX6_blow_39 : decode cX6_blow 39 = .ok (.istore 4, 2) := by decide +kernel
theorem dX6_blow_41 : decode cX6_blow 41 = .ok (.iload 4, 2) := by decide +kernel
theorem dX6_blow_43 : decode cX6_blow 43 = .ok (.iconst 4, 1) := by decide +kernel
theorem dX6_blow_44 : decode cX6_blow 44 = .ok (.irem, 1) := by decide +kernel
theorem dX6_blow_45 : decode cX6_blow 45 = .ok (.ifCond .ne 20, 3) := by decide +kernel
theorem dX6_blow_48 : decode cX6_blow 48 = .ok (.aload_n 0, 1) := by decide +kernel
theorem dX6_blow_49 : decode cX6_blow 49 = .ok (.dup, 1) := by decide +kernel
theorem dX6_blow_50 : decode cX6_blow 50 = .ok (.getfield 15, 3) := by decide +kernel
theorem dX6_blow_53 : decode cX6_blow 53 = .ok (.aload_n 1, 1) := by decide +kernel
theorem dX6_blow_54 : decode cX6_blow 54 = .ok (.iconst 1, 1) := by decide +kernel
theorem dX6_blow_55 : decode cX6_blow 55 = .ok (.invokevirtual 33, 3) := by decide +kernel
theorem dX6_blow_58 : decode cX6_blow 58 = .ok (.iadd, 1) := by decide +kernel
theorem dX6_blow_59 : decode cX6_blow 59 = .ok (.putfield 15, 3) := by decide +kernel
theorem dX6_blow_62 : decode cX6_blow 62 = .ok (.goto 29, 3) := by decide +kernel
theorem dX6_blow_65 : decode cX6_blow 65 = .ok (.iload 4, 2) := by decide +kernel
theorem dX6_blow_67 : decode cX6_blow 67 = .ok (.invokestatic 29, 3) := by decide +kernel
theorem dX6_blow_70 : decode cX6_blow 70 = .ok (.istore 4, 2) := by decide +kernel
theorem dX6_blow_72 : decode cX6_blow 72 = .ok (.aload_n 0, 1) := by decide +kernel
theorem dX6_blow_73 : decode cX6_blow 73 = .ok (.aload_n 1, 1) := by decide +kernel
theorem dX6_blow_74 : decode cX6_blow 74 = .ok (.iload 5, 2) := by decide +kernel
theorem dX6_blow_76 : decode cX6_blow 76 = .ok (.ifCond .le 11, 3) := by decide +kernel
theorem dX6_blow_79 : decode cX6_blow 79 = .ok (.iload 4, 2) := by decide +kernel
theorem dX6_blow_81 : decode cX6_blow 81 = .ok (.iload 5, 2) := by decide +kernel
theorem dX6_blow_83 : decode cX6_blow 83 = .ok (.irem, 1) := by decide +kernel
theorem dX6_blow_84 : decode cX6_blow 84 = .ok (.goto 4, 3) := by decide +kernel
theorem dX6_blow_87 : decode cX6_blow 87 = .ok (.iconst (-1), 1) := by decide +kernel
theorem dX6_blow_88 : decode cX6_blow 88 = .ok (.invokevirtual 38, 3) := by decide +kernel
theorem dX6_blow_91 : decode cX6_blow 91 = .ok (.aload_n 0, 1) := by decide +kernel
theorem dX6_blow_92 : decode cX6_blow 92 = .ok (.aload_n 0, 1) := by decide +kernel
theorem dX6_blow_93 : decode cX6_blow 93 = .ok (.getfield 22, 3) := by decide +kernel
theorem dX6_blow_96 : decode cX6_blow 96 = .ok (.aload_n 1, 1) := by decide +kernel
theorem dX6_blow_97 : decode cX6_blow 97 = .ok (.invokevirtual 42, 3) := by decide +kernel
theorem dX6_blow_100 : decode cX6_blow 100 = .ok (.invokestatic 46, 3) := by decide +kernel
theorem dX6_blow_103 : decode cX6_blow 103 = .ok (.putfield 22, 3) := by decide +kernel
theorem dX6_blow_106 : decode cX6_blow 106 = .ok (.iinc 6 1, 3) := by decide +kernel
theorem dX6_blow_109 : decode cX6_blow 109 = .ok (.goto (-81), 3) := by decide +kernel
theorem dX6_blow_112 : decode cX6_blow 112 = .ok (.return_, 1) := by decide +kernel
theorem dX6_nextSeed_0 : decode cX6_nextSeed 0 = .ok (.iload_n 0, 1) := by decide +kernel
theorem dX6_nextSeed_1 : decode cX6_nextSeed 1 = .ok (.sipush 137, 3) := by decide +kernel
theorem dX6_nextSeed_4 : decode cX6_nextSeed 4 = .ok (.imul, 1) := by decide +kernel
theorem dX6_nextSeed_5 : decode cX6_nextSeed 5 = .ok (.bipush 71, 2) := by decide +kernel
theorem dX6_nextSeed_7 : decode cX6_nextSeed 7 = .ok (.iadd, 1) := by decide +kernel
theorem dX6_nextSeed_8 : decode cX6_nextSeed 8 = .ok (.sipush 10007, 3) := by decide +kernel
theorem dX6_nextSeed_11 : decode cX6_nextSeed 11 = .ok (.irem, 1) := by decide +kernel
theorem dX6_nextSeed_12 : decode cX6_nextSeed 12 = .ok (.ireturn, 1) := by decide +kernel
theorem dX6_startedLines_0 : decode cX6_startedLines 0 = .ok (.iconst 0, 1) := by decide +kernel
theorem dX6_startedLines_1 : decode cX6_startedLines 1 = .ok (.istore_n 2, 1) := by decide +kernel
theorem dX6_startedLines_2 : decode cX6_startedLines 2 = .ok (.iconst 0, 1) := by decide +kernel
theorem dX6_startedLines_3 : decode cX6_startedLines 3 = .ok (.istore_n 3, 1) := by decide +kernel
theorem dX6_startedLines_4 : decode cX6_startedLines 4 = .ok (.iload_n 3, 1) := by decide +kernel
theorem dX6_startedLines_5 : decode cX6_startedLines 5 = .ok (.aload_n 0, 1) := by decide +kernel
theorem dX6_startedLines_6 : decode cX6_startedLines 6 = .ok (.getfield 9, 3) := by decide +kernel
theorem dX6_startedLines_9 : decode cX6_startedLines 9 = .ok (.getfield 52, 3) := by decide +kernel
theorem dX6_startedLines_12 : decode cX6_startedLines 12 = .ok (.if_icmp .ge 33, 3) := by decide +kernel
theorem dX6_startedLines_15 : decode cX6_startedLines 15 = .ok (.iload_n 2, 1) := by decide +kernel
theorem dX6_startedLines_16 : decode cX6_startedLines 16 = .ok (.aload_n 1, 1) := by decide +kernel
theorem dX6_startedLines_17 : decode cX6_startedLines 17 = .ok (.iload_n 3, 1) := by decide +kernel
theorem dX6_startedLines_18 : decode cX6_startedLines 18 = .ok (.invokevirtual 57, 3) := by decide +kernel
theorem dX6_startedLines_21 : decode cX6_startedLines 21 = .ok (.ifCond .eq 15, 3) := by decide +kernel
theorem dX6_startedLines_24 : decode cX6_startedLines 24 = .ok (.aload_n 0, 1) := by decide +kernel
theorem dX6_startedLines_25 : decode cX6_startedLines 25 = .ok (.getfield 9, 3) := by decide +kernel
theorem dX6_startedLines_28 : decode cX6_startedLines 28 = .ok (.getfield 61, 3) := by decide +kernel
theorem dX6_startedLines_31 : decode cX6_startedLines 31 = .ok (.iload_n 3, 1) := by decide +kernel
theorem dX6_startedLines_32 : decode cX6_startedLines 32 = .ok (.iaload, 1) := by decide +kernel
theorem dX6_startedLines_33 : decode cX6_startedLines 33 = .ok (.goto 4, 3) := by decide +kernel
theorem dX6_startedLines_36 : decode cX6_startedLines 36 = .ok (.iconst 0, 1) := by decide +kernel
theorem dX6_startedLines_37 : decode cX6_startedLines 37 = .ok (.iadd, 1) := by decide +kernel
theorem dX6_startedLines_38 : decode cX6_startedLines 38 = .ok (.istore_n 2, 1) := by decide +kernel
theorem dX6_startedLines_39 : decode cX6_startedLines 39 = .ok (.iinc 3 1, 3) := by decide +kernel
theorem dX6_startedLines_42 : decode cX6_startedLines 42 = .ok (.goto (-38), 3) := by decide +kernel
theorem dX6_startedLines_45 : decode cX6_startedLines 45 = .ok (.iload_n 2, 1) := by decide +kernel
theorem dX6_startedLines_46 : decode cX6_startedLines 46 = .ok (.ireturn, 1) := by decide +kernel
theorem dX6_strike_0 : decode cX6_strike 0 = .ok (.iload_n 2, 1) := by decide +kernel
theorem dX6_strike_1 : decode cX6_strike 1 = .ok (.istore_n 3, 1) := by decide +kernel
theorem dX6_strike_2 : decode cX6_strike 2 = .ok (.iconst 0, 1) := by decide +kernel
theorem dX6_strike_3 : decode cX6_strike 3 = .ok (.istore 4, 2) := by decide +kernel
theorem dX6_strike_5 : decode cX6_strike 5 = .ok (.iload 4, 2) := by decide +kernel
theorem dX6_strike_7 : decode cX6_strike 7 = .ok (.aload_n 0, 1) := by decide +kernel
theorem dX6_strike_8 : decode cX6_strike 8 = .ok (.getfield 9, 3) := by decide +kernel
theorem dX6_strike_11 : decode cX6_strike 11 = .ok (.getfield 52, 3) := by decide +kernel
theorem dX6_strike_14 : decode cX6_strike 14 = .ok (.if_icmp .ge 74, 3) := by decide +kernel
theorem dX6_strike_17 : decode cX6_strike 17 = .ok (.iload_n 3, 1) := by decide +kernel
theorem dX6_strike_18 : decode cX6_strike 18 = .ok (.ifCond .lt 70, 3) := by decide +kernel
theorem dX6_strike_21 : decode cX6_strike 21 = .ok (.aload_n 1, 1) := by decide +kernel
theorem dX6_strike_22 : decode cX6_strike 22 = .ok (.iload 4, 2) := by decide +kernel
theorem dX6_strike_24 : decode cX6_strike 24 = .ok (.invokevirtual 57, 3) := by decide +kernel
theorem dX6_strike_27 : decode cX6_strike 27 = .ok (.ifCond .eq 16, 3) := by decide +kernel
theorem dX6_strike_30 : decode cX6_strike 30 = .ok (.aload_n 0, 1) := by decide +kernel
theorem dX6_strike_31 : decode cX6_strike 31 = .ok (.getfield 9, 3) := by decide +kernel
theorem dX6_strike_34 : decode cX6_strike 34 = .ok (.getfield 61, 3) := by decide +kernel
theorem dX6_strike_37 : decode cX6_strike 37 = .ok (.iload 4, 2) := by decide +kernel
theorem dX6_strike_39 : decode cX6_strike 39 = .ok (.iaload, 1) := by decide +kernel
theorem dX6_strike_40 : decode cX6_strike 40 = .ok (.goto 4, 3) := by decide +kernel
theorem dX6_strike_43 : decode cX6_strike 43 = .ok (.iconst 0, 1) := by decide +kernel
theorem dX6_strike_44 : decode cX6_strike 44 = .ok (.istore 5, 2) := by decide +kernel
theorem dX6_strike_46 : decode cX6_strike 46 = .ok (.iload_n 3, 1) := by decide +kernel
theorem dX6_strike_47 : decode cX6_strike 47 = .ok (.iload 5, 2) := by decide +kernel
theorem dX6_strike_49 : decode cX6_strike 49 = .ok (.if_icmp .ge 28, 3) := by decide +kernel
theorem dX6_strike_52 : decode cX6_strike 52 = .ok (.aload_n 0, 1) := by decide +kernel
theorem dX6_strike_53 : decode cX6_strike 53 = .ok (.dup, 1) := by decide +kernel
theorem dX6_strike_54 : decode cX6_strike 54 = .ok (.getfield 19, 3) := by decide +kernel
theorem dX6_strike_57 : decode cX6_strike 57 = .ok (.aload_n 1, 1) := by decide +kernel
theorem dX6_strike_58 : decode cX6_strike 58 = .ok (.iload 4, 2) := by decide +kernel
theorem dX6_strike_60 : decode cX6_strike 60 = .ok (.iload_n 3, 1) := by decide +kernel
theorem dX6_strike_61 : decode cX6_strike 61 = .ok (.iconst 0, 1) := by decide +kernel
theorem dX6_strike_62 : decode cX6_strike 62 = .ok (.invokevirtual 65, 3) := by decide +kernel
theorem dX6_strike_65 : decode cX6_strike 65 = .ok (.ifCond .ne 7, 3) := by decide +kernel
theorem dX6_strike_68 : decode cX6_strike 68 = .ok (.iconst 1, 1) := by decide +kernel
theorem dX6_strike_69 : decode cX6_strike 69 = .ok (.goto 4, 3) := by decide +kernel
theorem dX6_strike_72 : decode cX6_strike 72 = .ok (.iconst 0, 1) := by decide +kernel
theorem dX6_strike_73 : decode cX6_strike 73 = .ok (.iadd, 1) := by decide +kernel
theorem dX6_strike_74 : decode cX6_strike 74 = .ok (.putfield 19, 3) := by decide +kernel
theorem dX6_strike_77 : decode cX6_strike 77 = .ok (.iload_n 3, 1) := by decide +kernel
theorem dX6_strike_78 : decode cX6_strike 78 = .ok (.iload 5, 2) := by decide +kernel
theorem dX6_strike_80 : decode cX6_strike 80 = .ok (.isub, 1) := by decide +kernel
theorem dX6_strike_81 : decode cX6_strike 81 = .ok (.istore_n 3, 1) := by decide +kernel
theorem dX6_strike_82 : decode cX6_strike 82 = .ok (.iinc 4 1, 3) := by decide +kernel
theorem dX6_strike_85 : decode cX6_strike 85 = .ok (.goto (-80), 3) := by decide +kernel
theorem dX6_strike_88 : decode cX6_strike 88 = .ok (.return_, 1) := by decide +kernel
