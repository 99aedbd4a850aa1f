theorem dX4_init_0 : decode cX4_init 0 = .ok (.aload_n 0, 1) := by decide +kernel
theorem dX4_init_1 : decode cX4_init 1 = .ok (.invokespecial 3, 3) := by decide +kernel
theorem dX4_init_4 : decode cX4_init 4 = .ok (.aload_n 0, 1) := by decide +kernel
theorem dX4_init_5 : decode cX4_init 5 = .ok (.iconst 5, 1) := by decide +kernel
theorem dX4_init_6 : decode cX4_init 6 = .ok (.bipush 8, 2) := by decide +kernel
theorem dX4_init_8 : decode cX4_init 8 = .ok (.multianewarray 9 2, 4) := by decide +kernel
theorem dX4_init_12 : decode cX4_init 12 = .ok (.putfield 11, 3) := by decide +kernel
theorem dX4_init_15 : decode cX4_init 15 = .ok (.aload_n 0, 1) := by decide +kernel
theorem dX4_init_16 : decode cX4_init 16 = .ok (.bipush 8, 2) := by decide +kernel
theorem dX4_init_18 : decode cX4_init 18 = .ok (.newarray .int, 2) := by decide +kernel
theorem dX4_init_20 : decode cX4_init 20 = .ok (.putfield 16, 3) := by decide +kernel
theorem dX4_init_23 : decode cX4_init 23 = .ok (.aload_n 0, 1) := by decide +kernel
theorem dX4_init_24 : decode cX4_init 24 = .ok (.sipush 256, 3) := by decide +kernel
theorem dX4_init_27 : decode cX4_init 27 = .ok (.newarray .int, 2) := by decide +kernel
theorem dX4_init_29 : decode cX4_init 29 = .ok (.putfield 20, 3) := by decide +kernel
theorem dX4_init_32 : decode cX4_init 32 = .ok (.aload_n 0, 1) := by decide +kernel
theorem dX4_init_33 : decode cX4_init 33 = .ok (.aload_n 1, 1) := by decide +kernel
theorem dX4_init_34 : decode cX4_init 34 = .ok (.putfield 23, 3) := by decide +kernel
theorem dX4_init_37 : decode cX4_init 37 = .ok (.return_, 1) := by decide +kernel
theorem dX4_empty_0 : decode cX4_empty 0 = .ok (.iconst 0, 1) := by decide +kernel
theorem dX4_empty_1 : decode cX4_empty 1 = .ok (.istore_n 1, 1) := by decide +kernel
theorem dX4_empty_2 : decode cX4_empty 2 = .ok (.iload_n 1, 1) := by decide +kernel
theorem dX4_empty_3 : decode cX4_empty 3 = .ok (.bipush 8, 2) := by decide +kernel
theorem dX4_empty_5 : decode cX4_empty 5 = .ok (.if_icmp .ge 83, 3) := by decide +kernel
theorem dX4_empty_8 : decode cX4_empty 8 = .ok (.aload_n 0, 1) := by decide +kernel
theorem dX4_empty_9 : decode cX4_empty 9 = .ok (.getfield 11, 3) := by decide +kernel
theorem dX4_empty_12 : decode cX4_empty 12 = .ok (.iconst 0, 1) := by decide +kernel
theorem dX4_empty_13 : decode cX4_empty 13 = .ok (.aaload, 1) := by decide +kernel
theorem dX4_empty_14 : decode cX4_empty 14 = .ok (.iload_n 1, 1) := by decide +kernel
theorem dX4_empty_15 : decode cX4_empty 15 = .ok (.aload_n 0, 1) := by decide +kernel
theorem dX4_empty_16 : decode cX4_empty 16 = .ok (.getfield 23, 3) := by decide +kernel
theorem dX4_empty_19 : decode cX4_empty 19 = .ok (.invokevirtual 27, 3) := by decide +kernel
theorem dX4_empty_22 : decode cX4_empty 22 = .ok (.aload_n 0, 1) := by decide +kernel
theorem dX4_empty_23 : decode cX4_empty 23 = .ok (.getfield 23, 3) := by decide +kernel
theorem dX4_empty_26 : decode cX4_empty 26 = .ok (.getfield 33, 3) := by decide +kernel
theorem dX4_empty_29 : decode cX4_empty 29 = .ok (.iconst (-1), 1) := by decide +kernel
theorem dX4_empty_30 : decode cX4_empty 30 = .ok (.ixor, 1) := by decide +kernel
theorem dX4_empty_31 : decode cX4_empty 31 = .ok (.iand, 1) := by decide +kernel
theorem dX4_empty_32 : decode cX4_empty 32 = .ok (.iastore, 1) := by decide +kernel
theorem dX4_empty_33 : decode cX4_empty 33 = .ok (.aload_n 0, 1) := by decide +kernel
theorem dX4_empty_34 : decode cX4_empty 34 = .ok (.getfield 11, 3) := by decide +kernel
theorem dX4_empty_37 : decode cX4_empty 37 = .ok (.iconst 1, 1) := by decide +kernel
theorem dX4_empty_38 : decode cX4_empty 38 = .ok (.aaload, 1) := by decide +kernel
theorem dX4_empty_39 : decode cX4_empty 39 = .ok (.iload_n 1, 1) := by decide +kernel
theorem dX4_empty_40 : decode cX4_empty 40 = .ok (.aload_n 0, 1) := by decide +kernel
theorem dX4_empty_41 : decode cX4_empty 41 = .ok (.getfield 23, 3) := by decide +kernel
theorem dX4_empty_44 : decode cX4_empty 44 = .ok (.getfield 33, 3) := by decide +kernel
theorem dX4_empty_47 : decode cX4_empty 47 = .ok (.iastore, 1) := by decide +kernel
theorem dX4_empty_48 : decode cX4_empty 48 = .ok (.aload_n 0, 1) := by decide +kernel
theorem dX4_empty_49 : decode cX4_empty 49 = .ok (.getfield 11, 3) := by decide +kernel
theorem dX4_empty_52 : decode cX4_empty 52 = .ok (.iconst 2, 1) := by decide +kernel
theorem dX4_empty_53 : decode cX4_empty 53 = .ok (.aaload, 1) := by decide +kernel
theorem dX4_empty_54 : decode cX4_empty 54 = .ok (.iload_n 1, 1) := by decide +kernel
theorem dX4_empty_55 : decode cX4_empty 55 = .ok (.iconst 0, 1) := by decide +kernel
theorem dX4_empty_56 : decode cX4_empty 56 = .ok (.iastore, 1) := by decide +kernel
theorem dX4_empty_57 : decode cX4_empty 57 = .ok (.aload_n 0, 1) := by decide +kernel
theorem dX4_empty_58 : decode cX4_empty 58 = .ok (.getfield 11, 3) := by decide +kernel
theorem dX4_empty_61 : decode cX4_empty 61 = .ok (.iconst 3, 1) := by decide +kernel
theorem dX4_empty_62 : decode cX4_empty 62 = .ok (.aaload, 1) := by decide +kernel
theorem dX4_empty_63 : decode cX4_empty 63 = .ok (.iload_n 1, 1) := by decide +kernel
theorem dX4_empty_64 : decode cX4_empty 64 = .ok (.iconst 0, 1) := by decide +kernel
theorem dX4_empty_65 : decode cX4_empty 65 = .ok (.iastore, 1) := by decide +kernel
theorem dX4_empty_66 : decode cX4_empty 66 = .ok (.aload_n 0, 1) := by decide +kernel
theorem dX4_empty_67 : decode cX4_empty 67 = .ok (.getfield 11, 3) := by decide +kernel
theorem dX4_empty_70 : decode cX4_empty 70 = .ok (.iconst 4, 1) := by decide +kernel
theorem dX4_empty_71 : decode cX4_empty 71 = .ok (.aaload, 1) := by decide +kernel
theorem dX4_empty_72 : decode cX4_empty 72 = .ok (.iload_n 1, 1) := by decide +kernel
theorem dX4_empty_73 : decode cX4_empty 73 = .ok (.iconst 0, 1) := by decide +kernel
theorem dX4_empty_74 : decode cX4_empty 74 = .ok (.iastore, 1) := by decide +kernel
theorem dX4_empty_75 : decode cX4_empty 75 = .ok (.aload_n 0, 1) := by decide +kernel
theorem dX4_empty_76 : decode cX4_empty 76 = .ok (.getfield 16, 3) := by decide +kernel
theorem dX4_empty_79 : decode cX4_empty 79 = .ok (.iload_n 1, 1) := by decide +kernel
theorem dX4_empty_80 : decode cX4_empty 80 = .ok (.iconst 0, 1) := by decide +kernel
theorem dX4_empty_81 : decode cX4_empty 81 = .ok (.iastore, 1) := by decide +kernel
theorem dX4_empty_82 : decode cX4_empty 82 = .ok (.iinc 1 1, 3) := by decide +kernel
theorem dX4_empty_85 : decode cX4_empty 85 = .ok (.goto (-83), 3) := by decide +kernel
theorem dX4_empty_88 : decode cX4_empty 88 = .ok (.aload_n 0, 1) := by decide +kernel
theorem dX4_empty_89 : decode cX4_empty 89 = .ok (.getfield 20, 3) := by decide +kernel
theorem dX4_empty_92 : decode cX4_empty 92 = .ok (.iconst (-1), 1) := by decide +kernel
theorem dX4_empty_93 : decode cX4_empty 93 = .ok (.invokestatic 37, 3) := by decide +kernel
theorem dX4_empty_96 : decode cX4_empty 96 = .ok (.aload_n 0, 1) := by decide +kernel
theorem dX4_empty_97 : decode cX4_empty 97 = .ok (.aload_n 0, 1) := by decide +kernel
theorem dX4_empty_98 : decode cX4_empty 98 = .ok (.getfield 23, 3) := by decide +kernel
theorem dX4_empty_101 : decode cX4_empty 101 = .ok (.invokevirtual 43, 3) := by decide +kernel
theorem dX4_empty_104 : decode cX4_empty 104 = .ok (.aload_n 0, 1) := by decide +kernel
theorem dX4_empty_105 : decode cX4_empty 105 = .ok (.getfield 23, 3) := by decide +kernel
theorem dX4_empty_108 : decode cX4_empty 108 = .ok (.getfield 46, 3) := by decide +kernel
theorem dX4_empty_111 : decode cX4_empty 111 = .ok (.iconst (-1), 1) := by decide +kernel
theorem dX4_empty_112 : decode cX4_empty 112 = .ok (.ixor, 1) := by decide +kernel
theorem dX4_empty_113 : decode cX4_empty 113 = .ok (.iand, 1) := by decide +kernel
theorem dX4_empty_114 : decode cX4_empty 114 = .ok (.putfield 49, 3) := by decide +kernel
theorem dX4_empty_117 : decode cX4_empty 117 = .ok (.return_, 1) := by decide +kernel
theorem dX4_copyFrom_0 : decode cX4_copyFrom 0 = .ok (.aload_n 0, 1) := by decide +kernel
theorem dX4_copyFrom_1 : decode cX4_copyFrom 1 = .ok (.aload_n 1, 1) := by decide +kernel
theorem dX4_copyFrom_2 : decode cX4_copyFrom 2 = .ok (.getfield 49, 3) := by decide +kernel
theorem dX4_copyFrom_5 : decode cX4_copyFrom 5 = .ok (.putfield 49, 3) := by decide +kernel
theorem dX4_copyFrom_8 : decode cX4_copyFrom 8 = .ok (.iconst 0, 1) := by decide +kernel
theorem dX4_copyFrom_9 : decode cX4_copyFrom 9 = .ok (.istore_n 2, 1) := by decide +kernel
theorem dX4_copyFrom_10 : decode cX4_copyFrom 10 = .ok (.iload_n 2, 1) := by decide +kernel
theorem dX4_copyFrom_11 : decode cX4_copyFrom 11 = .ok (.iconst 5, 1) := by decide +kernel
theorem dX4_copyFrom_12 : decode cX4_copyFrom 12 = .ok (.if_icmp .ge 28, 3) := by decide +kernel
theorem dX4_copyFrom_15 : decode cX4_copyFrom 15 = .ok (.aload_n 1, 1) := by decide +kernel
theorem dX4_copyFrom_16 : decode cX4_copyFrom 16 = .ok (.getfield 11, 3) := by decide +kernel
theorem dX4_copyFrom_19 : decode cX4_copyFrom 19 = .ok (.iload_n 2, 1) := by decide +kernel
theorem dX4_copyFrom_20 : decode cX4_copyFrom 20 = .ok (.aaload, 1) := by decide +kernel
theorem dX4_copyFrom_21 : decode cX4_copyFrom 21 = .ok (.iconst 0, 1) := by decide +kernel
theorem dX4_copyFrom_22 : decode cX4_copyFrom 22 = .ok (.aload_n 0, 1) := by decide +kernel
theorem dX4_copyFrom_23 : decode cX4_copyFrom 23 = .ok (.getfield 11, 3) := by decide +kernel
theorem dX4_copyFrom_26 : decode cX4_copyFrom 26 = .ok (.iload_n 2, 1) := by decide +kernel
theorem dX4_copyFrom_27 : decode cX4_copyFrom 27 = .ok (.aaload, 1) := by decide +kernel
theorem dX4_copyFrom_28 : decode cX4_copyFrom 28 = .ok (.iconst 0, 1) := by decide +kernel
theorem dX4_copyFrom_29 : decode cX4_copyFrom 29 = .ok (.bipush 8, 2) := by decide +kernel
theorem dX4_copyFrom_31 : decode cX4_copyFrom 31 = .ok (.invokestatic 52, 3) := by decide +kernel
theorem dX4_copyFrom_34 : decode cX4_copyFrom 34 = .ok (.iinc 2 1, 3) := by decide +kernel
theorem dX4_copyFrom_37 : decode cX4_copyFrom 37 = .ok (.goto (-27), 3) := by decide +kernel
theorem dX4_copyFrom_40 : decode cX4_copyFrom 40 = .ok (.aload_n 1, 1) := by decide +kernel
theorem dX4_copyFrom_41 : decode cX4_copyFrom 41 = .ok (.getfield 16, 3) := by decide +kernel
theorem dX4_copyFrom_44 : decode cX4_copyFrom 44 = .ok (.iconst 0, 1) := by decide +kernel
theorem dX4_copyFrom_45 : decode cX4_copyFrom 45 = .ok (.aload_n 0, 1) := by decide +kernel
theorem dX4_copyFrom_46 : decode cX4_copyFrom 46 = .ok (.getfield 16, 3) := by decide +kernel
theorem dX4_copyFrom_49 : decode cX4_copyFrom 49 = .ok (.iconst 0, 1) := by decide +kernel
theorem dX4_copyFrom_50 : decode cX4_copyFrom 50 = .ok (.bipush 8, 2) := by decide +kernel
theorem dX4_copyFrom_52 : decode cX4_copyFrom 52 = .ok (.invokestatic 52, 3) := by decide +kernel
theorem dX4_copyFrom_55 : decode cX4_copyFrom 55 = .ok (.aload_n 1, 1) := by decide +kernel
theorem dX4_copyFrom_56 : decode cX4_copyFrom 56 = .ok (.getfield 20, 3) := by decide +kernel
theorem dX4_copyFrom_59 : decode cX4_copyFrom 59 = .ok (.iconst 0, 1) := by decide +kernel
theorem dX4_copyFrom_60 : decode cX4_copyFrom 60 = .ok (.aload_n 0, 1) := by decide +kernel
theorem dX4_copyFrom_61 : decode cX4_copyFrom 61 = .ok (.getfield 20, 3) := by decide +kernel
theorem dX4_copyFrom_64 : decode cX4_copyFrom 64 = .ok (.iconst 0, 1) := by decide +kernel
theorem dX4_copyFrom_65 : decode cX4_copyFrom 65 = .ok (.sipush 256, 3) := by decide +kernel
theorem dX4_copyFrom_68 : decode cX4_copyFrom 68 = .ok (.invokestatic 52, 3) := by decide +kernel
theorem dX4_copyFrom_71 : decode cX4_copyFrom 71 = .ok (.return_, 1) := by decide +kernel
theorem dX4_isOnline_0 : decode cX4_isOnline 0 = .ok (.aload_n 0, 1) := by decide +kernel
theorem dX4_isOnline_1 : decode cX4_isOnline 1 = .ok (.getfield 49, 3) := by decide +kernel
theorem dX4_isOnline_4 : decode cX4_isOnline 4 = .ok (.iload_n 1, 1) := by decide +kernel
theorem dX4_isOnline_5 : decode cX4_isOnline 5 = .ok (.iushr, 1) := by decide +kernel
theorem dX4_isOnline_6 : decode cX4_isOnline 6 = .ok (.iconst 1, 1) := by decide +kernel
theorem dX4_isOnline_7 : decode cX4_isOnline 7 = .ok (.iand, 1) := by decide +kernel
theorem dX4_isOnline_8 : decode cX4_isOnline 8 = .ok (.iconst 1, 1) := by decide +kernel
theorem dX4_isOnline_9 : decode cX4_isOnline 9 = .ok (.if_icmp .ne 7, 3) := by decide +kernel
theorem dX4_isOnline_12 : decode cX4_isOnline 12 = .ok (.iconst 1, 1) := by decide +kernel
theorem dX4_isOnline_13 : decode cX4_isOnline 13 = .ok (.goto 4, 3) := by decide +kernel
theorem dX4_isOnline_16 : decode cX4_isOnline 16 = .ok (.iconst 0, 1) := by decide +kernel
theorem dX4_isOnline_17 : decode cX4_isOnline 17 = .ok (.ireturn, 1) := by decide +kernel
theorem dX4_howMany_0 : decode cX4_howMany 0 = .ok (.aload_n 0, 1) := by decide +kernel
theorem dX4_howMany_1 : decode cX4_howMany 1 = .ok (.getfield 11, 3) := by decide +kernel
theorem dX4_howMany_4 : decode cX4_howMany 4 = .ok (.iload_n 1, 1) := by decide +kernel
theorem dX4_howMany_5 : decode cX4_howMany 5 = .ok (.aaload, 1) := by decide +kernel
theorem dX4_howMany_6 : decode cX4_howMany 6 = .ok (.iload_n 2, 1) := by decide +kernel
theorem dX4_howMany_7 : decode cX4_howMany 7 = .ok (.iaload, 1) := by decide +kernel
theorem dX4_howMany_8 : decode cX4_howMany 8 = .ok (.invokestatic 58, 3) := by decide +kernel
theorem dX4_howMany_11 : decode cX4_howMany 11 = .ok (.ireturn, 1) := by decide +kernel
theorem dX4_loadOf_0 : decode cX4_loadOf 0 = .ok (.aload_n 0, 1) := by decide +kernel
theorem dX4_loadOf_1 : decode cX4_loadOf 1 = .ok (.getfield 11, 3) := by decide +kernel
theorem dX4_loadOf_4 : decode cX4_loadOf 4 = .ok (.iconst 2, 1) := by decide +kernel
theorem dX4_loadOf_5 : decode cX4_loadOf 5 = .ok (.aaload, 1) := by decide +kernel
theorem dX4_loadOf_6 : decode cX4_loadOf 6 = .ok (.iload_n 1, 1) := by decide +kernel
theorem dX4_loadOf_7 : decode cX4_loadOf 7 = .ok (.iaload, 1) := by decide +kernel
theorem dX4_loadOf_8 : decode cX4_loadOf 8 = .ok (.aload_n 0, 1) := by decide +kernel
theorem dX4_loadOf_9 : decode cX4_loadOf 9 = .ok (.getfield 11, 3) := by decide +kernel
theorem dX4_loadOf_12 : decode cX4_loadOf 12 = .ok (.iconst 3, 1) := by decide +kernel
theorem dX4_loadOf_13 : decode cX4_loadOf 13 = .ok (.aaload, 1) := by decide +kernel
theorem dX4_loadOf_14 : decode cX4_loadOf 14 = .ok (.iload_n 1, 1) := by decide +kernel
theorem dX4_loadOf_15 : decode cX4_loadOf 15 = .ok (.iaload, 1) := by decide +kernel
theorem dX4_loadOf_16 : decode cX4_loadOf 16 = .ok (.ior, 1) := by decide +kernel
theorem dX4_loadOf_17 : decode cX4_loadOf 17 = .ok (.invokestatic 58, 3) := by decide +kernel
theorem dX4_loadOf_20 : decode cX4_loadOf 20 = .ok (.ireturn, 1) := by decide +kernel
theorem dX4_freeOnline_0 : decode cX4_freeOnline 0 = .ok (.iconst 0, 1) := by decide +kernel
theorem dX4_freeOnline_1 : decode cX4_freeOnline 1 = .ok (.istore_n 1, 1) := by decide +kernel
theorem dX4_freeOnline_2 : decode cX4_freeOnline 2 = .ok (.iconst 0, 1) := by decide +kernel
theorem dX4_freeOnline_3 : decode cX4_freeOnline 3 = .ok (.istore_n 2, 1) := by decide +kernel
theorem dX4_freeOnline_4 : decode cX4_freeOnline 4 = .ok (.iload_n 2, 1) := by decide +kernel
theorem dX4_freeOnline_5 : decode cX4_freeOnline 5 = .ok (.aload_n 0, 1) := by decide +kernel
theorem dX4_freeOnline_6 : decode cX4_freeOnline 6 = .ok (.getfield 23, 3) := by decide +kernel
theorem dX4_freeOnline_9 : decode cX4_freeOnline 9 = .ok (.getfield 64, 3) := by decide +kernel
theorem dX4_freeOnline_12 : decode cX4_freeOnline 12 = .ok (.if_icmp .ge 30, 3) := by decide +kernel
theorem dX4_freeOnline_15 : decode cX4_freeOnline 15 = .ok (.iload_n 1, 1) := by decide +kernel
theorem dX4_freeOnline_16 : decode cX4_freeOnline 16 = .ok (.aload_n 0, 1) := by decide +kernel
theorem dX4_freeOnline_17 : decode cX4_freeOnline 17 = .ok (.iload_n 2, 1) := by decide +kernel
theorem dX4_freeOnline_18 : decode cX4_freeOnline 18 = .ok (.invokevirtual 67, 3) := by decide +kernel
theorem dX4_freeOnline_21 : decode cX4_freeOnline 21 = .ok (.ifCond .eq 12, 3) := by decide +kernel
theorem dX4_freeOnline_24 : decode cX4_freeOnline 24 = .ok (.aload_n 0, 1) := by decide +kernel
theorem dX4_freeOnline_25 : decode cX4_freeOnline 25 = .ok (.iconst 0, 1) := by decide +kernel
theorem dX4_freeOnline_26 : decode cX4_freeOnline 26 = .ok (.iload_n 2, 1) := by decide +kernel
theorem dX4_freeOnline_27 : decode cX4_freeOnline 27 = .ok (.invokevirtual 71, 3) := by decide +kernel
theorem dX4_freeOnline_30 : decode cX4_freeOnline 30 = .ok (.goto 4, 3) := by decide +kernel
theorem dX4_freeOnline_33 : decode cX4_freeOnline 33 = .ok (.iconst 0, 1) := by decide +kernel
theorem dX4_freeOnline_34 : decode cX4_freeOnline 34 = .ok (.iadd, 1) := by decide +kernel
theorem dX4_freeOnline_35 : decode cX4_freeOnline 35 = .ok (.istore_n 1, 1) := by decide +kernel
theorem dX4_freeOnline_36 : decode cX4_freeOnline 36 = .ok (.iinc 2 1, 3) := by decide +kernel
theorem dX4_freeOnline_39 : decode cX4_freeOnline 39 = .ok (.goto (-35), 3) := by decide +kernel
theorem dX4_freeOnline_42 : decode cX4_freeOnline 42 = .ok (.iload_n 1, 1) := by decide +kernel
theorem dX4_freeOnline_43 : decode cX4_freeOnline 43 = .ok (.ireturn, 1) := by decide +kernel
theorem dX4_kindAt_0 : decode cX4_kindAt 0 = .ok (.iload_n 1, 1) := by decide +kernel
theorem dX4_kindAt_1 : decode cX4_kindAt 1 = .ok (.ifCond .lt 10, 3) := by decide +kernel
theorem dX4_kindAt_4 : decode cX4_kindAt 4 = .ok (.iload_n 1, 1) := by decide +kernel
theorem dX4_kindAt_5 : decode cX4_kindAt 5 = .ok (.sipush 256, 3) := by decide +kernel
theorem dX4_kindAt_8 : decode cX4_kindAt 8 = .ok (.if_icmp .lt 5, 3) := by decide +kernel
theorem dX4_kindAt_11 : decode cX4_kindAt 11 = .ok (.iconst (-1), 1) := by decide +kernel
theorem dX4_kindAt_12 : decode cX4_kindAt 12 = .ok (.ireturn, 1) := by decide +kernel
theorem dX4_kindAt_13 : decode cX4_kindAt 13 = .ok (.iload_n 1, 1) := by decide +kernel
theorem dX4_kindAt_14 : decode cX4_kindAt 14 = .ok (.bipush 32, 2) := by decide +kernel
theorem dX4_kindAt_16 : decode cX4_kindAt 16 = .ok (.idiv, 1) := by decide +kernel
theorem dX4_kindAt_17 : decode cX4_kindAt 17 = .ok (.istore_n 2, 1) := by decide +kernel
theorem dX4_kindAt_18 : decode cX4_kindAt 18 = .ok (.iload_n 1, 1) := by decide +kernel
theorem dX4_kindAt_19 : decode cX4_kindAt 19 = .ok (.bipush 32, 2) := by decide +kernel
theorem dX4_kindAt_21 : decode cX4_kindAt 21 = .ok (.irem, 1) := by decide +kernel
theorem dX4_kindAt_22 : decode cX4_kindAt 22 = .ok (.istore_n 3, 1) := by decide +kernel
theorem dX4_kindAt_23 : decode cX4_kindAt 23 = .ok (.iconst 1, 1) := by decide +kernel
theorem dX4_kindAt_24 : decode cX4_kindAt 24 = .ok (.istore 4, 2) := by decide +kernel
theorem dX4_kindAt_26 : decode cX4_kindAt 26 = .ok (.iload 4, 2) := by decide +kernel
theorem dX4_kindAt_28 : decode cX4_kindAt 28 = .ok (.iconst 5, 1) := by decide +kernel
theorem dX4_kindAt_29 : decode cX4_kindAt 29 = .ok (.if_icmp .ge 29, 3) := by decide +kernel
theorem dX4_kindAt_32 : decode cX4_kindAt 32 = .ok (.aload_n 0, 1) := by decide +kernel
theorem dX4_kindAt_33 : decode cX4_kindAt 33 = .ok (.getfield 11, 3) := by decide +kernel
theorem dX4_kindAt_36 : decode cX4_kindAt 36 = .ok (.iload 4, 2) := by decide +kernel
theorem dX4_kindAt_38 : decode cX4_kindAt 38 = .ok (.aaload, 1) := by decide +kernel
theorem dX4_kindAt_39 : decode cX4_kindAt 39 = .ok (.iload_n 2, 1) := by decide +kernel
theorem dX4_kindAt_40 : decode cX4_kindAt 40 = .ok (.iaload, 1) := by decide +kernel
theorem dX4_kindAt_41 : decode cX4_kindAt 41 = .ok (.iload_n 3, 1) := by decide +kernel
theorem dX4_kindAt_42 : decode cX4_kindAt 42 = .ok (.iushr, 1) := by decide +kernel
theorem dX4_kindAt_43 : decode cX4_kindAt 43 = .ok (.iconst 1, 1) := by decide +kernel
theorem dX4_kindAt_44 : decode cX4_kindAt 44 = .ok (.iand, 1) := by decide +kernel
theorem dX4_kindAt_45 : decode cX4_kindAt 45 = .ok (.iconst 1, 1) := by decide +kernel
theorem dX4_kindAt_46 : decode cX4_kindAt 46 = .ok (.if_icmp .ne 6, 3) := by decide +kernel
theorem dX4_kindAt_49 : decode cX4_kindAt 49 = .ok (.iload 4, 2) := by decide +kernel
theorem dX4_kindAt_51 : decode cX4_kindAt 51 = .ok (.ireturn, 1) := by decide +kernel
theorem dX4_kindAt_52 : decode cX4_kindAt 52 = .ok (.iinc 4 1, 3) := by decide +kernel
theorem dX4_kindAt_55 : decode cX4_kindAt 55 = .ok (.goto (-29), 3) := by decide +kernel
theorem dX4_kindAt_58 : decode cX4_kindAt 58 = .ok (.iconst 0, 1) := by decide +kernel
theorem dX4_kindAt_59 : decode cX4_kindAt 59 = .ok (.ireturn, 1) := by decide +kernel
theorem dX4_put_0 : decode cX4_put 0 = .ok (.iload_n 1, 1) := by decide +kernel
theorem dX4_put_1 : decode cX4_put 1 = .ok (.ifCond .lt 10, 3) := by decide +kernel
theorem dX4_put_4 : decode cX4_put 4 = .ok (.iload_n 1, 1) := by decide +kernel
theorem dX4_put_5 : decode cX4_put 5 = .ok (.sipush 256, 3) := by decide +kernel
theorem dX4_put_8 : decode cX4_put 8 = .ok (.if_icmp .lt 4, 3) := by decide +kernel
theorem dX4_put_11 : decode cX4_put 11 = .ok (.return_, 1) := by decide +kernel
theorem dX4_put_12 : decode cX4_put 12 = .ok (.iload_n 1, 1) := by decide +kernel
theorem dX4_put_13 : decode cX4_put 13 = .ok (.bipush 32, 2) := by decide +kernel
theorem dX4_put_15 : decode cX4_put 15 = .ok (.idiv, 1) := by decide +kernel
theorem dX4_put_16 : decode cX4_put 16 = .ok (.istore 4, 2) := by decide +kernel
theorem dX4_put_18 : decode cX4_put 18 = .ok (.iconst 1, 1) := by decide +kernel
theorem dX4_put_19 : decode cX4_put 19 = .ok (.iload_n 1, 1) := by decide +kernel
theorem dX4_put_20 : decode cX4_put 20 = .ok (.bipush 32, 2) := by decide +kernel
theorem dX4_put_22 : decode cX4_put 22 = .ok (.irem, 1) := by decide +kernel
theorem dX4_put_23 : decode cX4_put 23 = .ok (.ishl, 1) := by decide +kernel
theorem dX4_put_24 : decode cX4_put 24 = .ok (.istore 5, 2) := by decide +kernel
theorem dX4_put_26 : decode cX4_put 26 = .ok (.iconst 0, 1) := by decide +kernel
theorem dX4_put_27 : decode cX4_put 27 = .ok (.istore 6, 2) := by decide +kernel
theorem dX4_put_29 : decode cX4_put 29 = .ok (.iload 6, 2) := by decide +kernel
theorem dX4_put_31 : decode cX4_put 31 = .ok (.iconst 5, 1) := by decide +kernel
theorem dX4_put_32 : decode cX4_put 32 = .ok (.if_icmp .ge 26, 3) := by decide +kernel
theorem dX4_put_35 : decode cX4_put 35 = .ok (.aload_n 0, 1) := by decide +kernel
theorem dX4_put_36 : decode cX4_put 36 = .ok (.getfield 11, 3) := by decide +kernel
theorem dX4_put_39 : decode cX4_put 39 = .ok (.iload 6, 2) := by decide +kernel
theorem dX4_put_41 : decode cX4_put 41 = .ok (.aaload, 1) := by decide +kernel
theorem dX4_put_42 : decode cX4_put 42 = .ok (.iload 4, 2) := by decide +kernel
theorem dX4_put_44 : decode cX4_put 44 = .ok (.dup2, 1) := by decide +kernel
theorem dX4_put_45 : decode cX4_put 45 = .ok (.iaload, 1) := by decide +kernel
theorem dX4_put_46 : decode cX4_put 46 = .ok (.iload 5, 2) := by decide +kernel
theorem dX4_put_48 : decode cX4_put 48 = .ok (.iconst (-1), 1) := by decide +kernel
theorem dX4_put_49 : decode cX4_put 49 = .ok (.ixor, 1) := by decide +kernel
theorem dX4_put_50 : decode cX4_put 50 = .ok (.iand, 1) := by decide +kernel
theorem dX4_put_51 : decode cX4_put 51 = .ok (.iastore, 1) := by decide +kernel
theorem dX4_put_52 : decode cX4_put 52 = .ok (.iinc 6 1, 3) := by decide +kernel
theorem dX4_put_55 : decode cX4_put 55 = .ok (.goto (-26), 3) := by decide +kernel
theorem dX4_put_58 : decode cX4_put 58 = .ok (.aload_n 0, 1) := by decide +kernel
theorem dX4_put_59 : decode cX4_put 59 = .ok (.getfield 11, 3) := by decide +kernel
theorem dX4_put_62 : decode cX4_put 62 = .ok (.iload_n 2, 1) := by decide +kernel
theorem dX4_put_63 : decode cX4_put 63 = .ok (.aaload, 1) := by decide +kernel
theorem dX4_put_64 : decode cX4_put 64 = .ok (.iload 4, 2) := by decide +kernel
theorem dX4_put_66 : decode cX4_put 66 = .ok (.dup2, 1) := by decide +kernel
theorem dX4_put_67 : decode cX4_put 67 = .ok (.iaload, 1) := by decide +kernel
theorem dX4_put_68 : decode cX4_put 68 = .ok (.iload 5, 2) := by decide +kernel
theorem dX4_put_70 : decode cX4_put 70 = .ok (.ior, 1) := by decide +kernel
theorem dX4_put_71 : decode cX4_put 71 = .ok (.iastore, 1) := by decide +kernel
theorem dX4_put_72 : decode cX4_put 72 = .ok (.aload_n 0, 1) := by decide +kernel
theorem dX4_put_73 : decode cX4_put 73 = .ok (.getfield 20, 3) := by decide +kernel
theorem dX4_put_76 : decode cX4_put 76 = .ok (.iload_n 1, 1) := by decide +kernel
theorem dX4_put_77 : decode cX4_put 77 = .ok (.iload_n 3, 1) := by decide +kernel
theorem dX4_put_78 : decode cX4_put 78 = .ok (.iastore, 1) := by decide +kernel
theorem dX4_put_79 : decode cX4_put 79 = .ok (.return_, 1) := by decide +kernel
theorem dX4_isPending_0 : decode cX4_isPending 0 = .ok (.iload_n 1, 1) := by decide +kernel
theorem dX4_isPending_1 : decode cX4_isPending 1 = .ok (.ifCond .lt 34, 3) := by decide +kernel
theorem dX4_isPending_4 : decode cX4_isPending 4 = .ok (.iload_n 1, 1) := by decide +kernel
theorem dX4_isPending_5 : decode cX4_isPending 5 = .ok (.sipush 256, 3) := by decide +kernel
theorem dX4_isPending_8 : decode cX4_isPending 8 = .ok (.if_icmp .ge 27, 3) := by decide +kernel
theorem dX4_isPending_11 : decode cX4_isPending 11 = .ok (.aload_n 0, 1) := by decide +kernel
theorem dX4_isPending_12 : decode cX4_isPending 12 = .ok (.getfield 16, 3) := by decide +kernel
theorem dX4_isPending_15 : decode cX4_isPending 15 = .ok (.iload_n 1, 1) := by decide +kernel
theorem dX4_isPending_16 : decode cX4_isPending 16 = .ok (.bipush 32, 2) := by decide +kernel
theorem dX4_isPending_18 : decode cX4_isPending 18 = .ok (.idiv, 1) := by decide +kernel
theorem dX4_isPending_19 : decode cX4_isPending 19 = .ok (.iaload, 1) := by decide +kernel
theorem dX4_isPending_20 : decode cX4_isPending 20 = .ok (.iload_n 1, 1) := by decide +kernel
theorem dX4_isPending_21 : decode cX4_isPending 21 = .ok (.bipush 32, 2) := by decide +kernel
theorem dX4_isPending_23 : decode cX4_isPending 23 = .ok (.irem, 1) := by decide +kernel
theorem dX4_isPending_24 : decode cX4_isPending 24 = .ok (.iushr, 1) := by decide +kernel
theorem dX4_isPending_25 : decode cX4_isPending 25 = .ok (.iconst 1, 1) := by decide +kernel
theorem dX4_isPending_26 : decode cX4_isPending 26 = .ok (.iand, 1) := by decide +kernel
theorem dX4_isPending_27 : decode cX4_isPending 27 = .ok (.iconst 1, 1) := by decide +kernel
theorem dX4_isPending_28 : decode cX4_isPending 28 = .ok (.if_icmp .ne 7, 3) := by decide +kernel
theorem dX4_isPending_31 : decode cX4_isPending 31 = .ok (.iconst 1, 1) := by decide +kernel
theorem dX4_isPending_32 : decode cX4_isPending 32 = .ok (.goto 4, 3) := by decide +kernel
theorem dX4_isPending_35 : decode cX4_isPending 35 = .ok (.iconst 0, 1) := by decide +kernel
theorem dX4_isPending_36 : decode cX4_isPending 36 = .ok (.ireturn, 1) := by decide +kernel
theorem dX4_pend_0 : decode cX4_pend 0 = .ok (.iload_n 1, 1) := by decide +kernel
theorem dX4_pend_1 : decode cX4_pend 1 = .ok (.ifCond .lt 28, 3) := by decide +kernel
theorem dX4_pend_4 : decode cX4_pend 4 = .ok (.iload_n 1, 1) := by decide +kernel
theorem dX4_pend_5 : decode cX4_pend 5 = .ok (.sipush 256, 3) := by decide +kernel
theorem dX4_pend_8 : decode cX4_pend 8 = .ok (.if_icmp .ge 21, 3) := by decide +kernel
theorem dX4_pend_11 : decode cX4_pend 11 = .ok (.aload_n 0, 1) := by decide +kernel
theorem dX4_pend_12 : decode cX4_pend 12 = .ok (.getfield 16, 3) := by decide +kernel
theorem dX4_pend_15 : decode cX4_pend 15 = .ok (.iload_n 1, 1) := by decide +kernel
theorem dX4_pend_16 : decode cX4_pend 16 = .ok (.bipush 32, 2) := by decide +kernel
theorem dX4_pend_18 : decode cX4_pend 18 = .ok (.idiv, 1) := by decide +kernel
theorem dX4_pend_19 : decode cX4_pend 19 = .ok (.dup2, 1) := by decide +kernel
theorem dX4_pend_20 : decode cX4_pend 20 = .ok (.iaload, 1) := by decide +kernel
theorem dX4_pend_21 : decode cX4_pend 21 = .ok (.iconst 1, 1) := by decide +kernel
theorem dX4_pend_22 : decode cX4_pend 22 = .ok (.iload_n 1, 1) := by decide +kernel
theorem dX4_pend_23 : decode cX4_pend 23 = .ok (.bipush 32, 2) := by decide +kernel
theorem dX4_pend_25 : decode cX4_pend 25 = .ok (.irem, 1) := by decide +kernel
theorem dX4_pend_26 : decode cX4_pend 26 = .ok (.ishl, 1) := by decide +kernel
theorem dX4_pend_27 : decode cX4_pend 27 = .ok (.ior, 1) := by decide +kernel
theorem dX4_pend_28 : decode cX4_pend 28 = .ok (.iastore, 1) := by decide +kernel
theorem dX4_pend_29 : decode cX4_pend 29 = .ok (.return_, 1) := by decide +kernel
theorem dX4_unpend_0 : decode cX4_unpend 0 = .ok (.aload_n 0, 1) := by decide +kernel
theorem dX4_unpend_1 : decode cX4_unpend 1 = .ok (.iload_n 1, 1) := by decide +kernel
theorem dX4_unpend_2 : decode cX4_unpend 2 = .ok (.invokevirtual 75, 3) := by decide +kernel
theorem dX4_unpend_5 : decode cX4_unpend 5 = .ok (.istore_n 2, 1) := by decide +kernel
theorem dX4_unpend_6 : decode cX4_unpend 6 = .ok (.iload_n 2, 1) := by decide +kernel
theorem dX4_unpend_7 : decode cX4_unpend 7 = .ok (.ifCond .eq 23, 3) := by decide +kernel
theorem dX4_unpend_10 : decode cX4_unpend 10 = .ok (.aload_n 0, 1) := by decide +kernel
theorem dX4_unpend_11 : decode cX4_unpend 11 = .ok (.getfield 16, 3) := by decide +kernel
theorem dX4_unpend_14 : decode cX4_unpend 14 = .ok (.iload_n 1, 1) := by decide +kernel
theorem dX4_unpend_15 : decode cX4_unpend 15 = .ok (.bipush 32, 2) := by decide +kernel
theorem dX4_unpend_17 : decode cX4_unpend 17 = .ok (.idiv, 1) := by decide +kernel
theorem dX4_unpend_18 : decode cX4_unpend 18 = .ok (.dup2, 1) := by decide +kernel
theorem dX4_unpend_19 : decode cX4_unpend 19 = .ok (.iaload, 1) := by decide +kernel
theorem dX4_unpend_20 : decode cX4_unpend 20 = .ok (.iconst 1, 1) := by decide +kernel
theorem dX4_unpend_21 : decode cX4_unpend 21 = .ok (.iload_n 1, 1) := by decide +kernel
theorem dX4_unpend_22 : decode cX4_unpend 22 = .ok (.bipush 32, 2) := by decide +kernel
theorem dX4_unpend_24 : decode cX4_unpend 24 = .ok (.irem, 1) := by decide +kernel
theorem dX4_unpend_25 : decode cX4_unpend 25 = .ok (.ishl, 1) := by decide +kernel
theorem dX4_unpend_26 : decode cX4_unpend 26 = .ok (.iconst (-1), 1) := by decide +kernel
theorem dX4_unpend_27 : decode cX4_unpend 27 = .ok (.ixor, 1) := by decide +kernel
theorem dX4_unpend_28 : decode cX4_unpend 28 = .ok (.iand, 1) := by decide +kernel
theorem dX4_unpend_29 : decode cX4_unpend 29 = .ok (.iastore, 1) := by decide +kernel
theorem dX4_unpend_30 : decode cX4_unpend 30 = .ok (.iload_n 2, 1) := by decide +kernel
theorem dX4_unpend_31 : decode cX4_unpend 31 = .ok (.ireturn, 1) := by decide +kernel
theorem dX4_greatestPending_0 : decode cX4_greatestPending 0 = .ok (.aload_n 0, 1) := by decide +kernel
theorem dX4_greatestPending_1 : decode cX4_greatestPending 1 = .ok (.getfield 16, 3) := by decide +kernel
theorem dX4_greatestPending_4 : decode cX4_greatestPending 4 = .ok (.iload_n 1, 1) := by decide +kernel
theorem dX4_greatestPending_5 : decode cX4_greatestPending 5 = .ok (.iaload, 1) := by decide +kernel
theorem dX4_greatestPending_6 : decode cX4_greatestPending 6 = .ok (.ifCond .ne 5, 3) := by decide +kernel
theorem dX4_greatestPending_9 : decode cX4_greatestPending 9 = .ok (.iconst (-1), 1) := by decide +kernel
theorem dX4_greatestPending_10 : decode cX4_greatestPending 10 = .ok (.ireturn, 1) := by decide +kernel
theorem dX4_greatestPending_11 : decode cX4_greatestPending 11 = .ok (.aload_n 0, 1) := by decide +kernel
theorem dX4_greatestPending_12 : decode cX4_greatestPending 12 = .ok (.getfield 23, 3) := by decide +kernel
theorem dX4_greatestPending_15 : decode cX4_greatestPending 15 = .ok (.getfield 78, 3) := by decide +kernel
theorem dX4_greatestPending_18 : decode cX4_greatestPending 18 = .ok (.iconst 1, 1) := by decide +kernel
theorem dX4_greatestPending_19 : decode cX4_greatestPending 19 = .ok (.isub, 1) := by decide +kernel
theorem dX4_greatestPending_20 : decode cX4_greatestPending 20 = .ok (.istore_n 2, 1) := by decide +kernel
theorem dX4_greatestPending_21 : decode cX4_greatestPending 21 = .ok (.iload_n 2, 1) := by decide +kernel
theorem dX4_greatestPending_22 : decode cX4_greatestPending 22 = .ok (.ifCond .lt 25, 3) := by decide +kernel
theorem dX4_greatestPending_25 : decode cX4_greatestPending 25 = .ok (.aload_n 0, 1) := by decide +kernel
theorem dX4_greatestPending_26 : decode cX4_greatestPending 26 = .ok (.getfield 16, 3) := by decide +kernel
theorem dX4_greatestPending_29 : decode cX4_greatestPending 29 = .ok (.iload_n 1, 1) := by decide +kernel
theorem dX4_greatestPending_30 : decode cX4_greatestPending 30 = .ok (.iaload, 1) := by decide +kernel
theorem dX4_greatestPending_31 : decode cX4_greatestPending 31 = .ok (.iload_n 2, 1) := by decide +kernel
theorem dX4_greatestPending_32 : decode cX4_greatestPending 32 = .ok (.iushr, 1) := by decide +kernel
theorem dX4_greatestPending_33 : decode cX4_greatestPending 33 = .ok (.iconst 1, 1) := by decide +kernel
theorem dX4_greatestPending_34 : decode cX4_greatestPending 34 = .ok (.iand, 1) := by decide +kernel
theorem dX4_greatestPending_35 : decode cX4_greatestPending 35 = .ok (.iconst 1, 1) := by decide +kernel
theorem dX4_greatestPending_36 : decode cX4_greatestPending 36 = .ok (.if_icmp .ne 5, 3) := by decide +kernel
theorem dX4_greatestPending_39 : decode cX4_greatestPending 39 = .ok (.iload_n 2, 1) := by decide +kernel
theorem dX4_greatestPending_40 : decode cX4_greatestPending 40 = .ok (.ireturn, 1) := by decide +kernel
theorem dX4_greatestPending_41 : decode cX4_greatestPending 41 = .ok (.iinc 2 (-1), 3) := by decide +kernel
theorem dX4_greatestPending_44 : decode cX4_greatestPending 44 = .ok (.goto (-23), 3) := by decide +kernel
theorem dX4_greatestPending_47 : decode cX4_greatestPending 47 = .ok (.iconst (-1), 1) := by decide +kernel
theorem dX4_greatestPending_48 : decode cX4_greatestPending 48 = .ok (.ireturn, 1) := by decide +kernel
theorem dX4_isFreeBlock_0 : decode cX4_isFreeBlock 0 = .ok (.iconst 1, 1) := by decide +kernel
theorem dX4_isFreeBlock_1 : decode cX4_isFreeBlock 1 = .ok (.iload_n 3, 1) := by decide +kernel
theorem dX4_isFreeBlock_2 : decode cX4_isFreeBlock 2 = .ok (.ishl, 1) := by decide +kernel
theorem dX4_isFreeBlock_3 : decode cX4_isFreeBlock 3 = .ok (.iconst 1, 1) := by decide +kernel
theorem dX4_isFreeBlock_4 : decode cX4_isFreeBlock 4 = .ok (.isub, 1) := by decide +kernel
theorem dX4_isFreeBlock_5 : decode cX4_isFreeBlock 5 = .ok (.istore 4, 2) := by decide +kernel
theorem dX4_isFreeBlock_7 : decode cX4_isFreeBlock 7 = .ok (.aload_n 0, 1) := by decide +kernel
theorem dX4_isFreeBlock_8 : decode cX4_isFreeBlock 8 = .ok (.getfield 11, 3) := by decide +kernel
theorem dX4_isFreeBlock_11 : decode cX4_isFreeBlock 11 = .ok (.iconst 0, 1) := by decide +kernel
theorem dX4_isFreeBlock_12 : decode cX4_isFreeBlock 12 = .ok (.aaload, 1) := by decide +kernel
theorem dX4_isFreeBlock_13 : decode cX4_isFreeBlock 13 = .ok (.iload_n 1, 1) := by decide +kernel
theorem dX4_isFreeBlock_14 : decode cX4_isFreeBlock 14 = .ok (.iaload, 1) := by decide +kernel
theorem dX4_isFreeBlock_15 : decode cX4_isFreeBlock 15 = .ok (.iload_n 2, 1) := by decide +kernel
theorem dX4_isFreeBlock_16 : decode cX4_isFreeBlock 16 = .ok (.iushr, 1) := by decide +kernel
theorem dX4_isFreeBlock_17 : decode cX4_isFreeBlock 17 = .ok (.iload 4, 2) := by decide +kernel
theorem dX4_isFreeBlock_19 : decode cX4_isFreeBlock 19 = .ok (.iand, 1) := by decide +kernel
theorem dX4_isFreeBlock_20 : decode cX4_isFreeBlock 20 = .ok (.iload 4, 2) := by decide +kernel
theorem dX4_isFreeBlock_22 : decode cX4_isFreeBlock 22 = .ok (.if_icmp .ne 7, 3) := by decide +kernel
theorem dX4_isFreeBlock_25 : decode cX4_isFreeBlock 25 = .ok (.iconst 1, 1) := by decide +kernel
theorem dX4_isFreeBlock_26 : decode cX4_isFreeBlock 26 = .ok (.goto 4, 3) := by decide +kernel
theorem dX4_isFreeBlock_29 : decode cX4_isFreeBlock 29 = .ok (.iconst 0, 1) := by decide +kernel
theorem dX4_isFreeBlock_30 : decode cX4_isFreeBlock 30 = .ok (.ireturn, 1) := by decide +kernel
theorem dX4_firstBlock_0 : decode cX4_firstBlock 0 = .ok (.iconst 0, 1) := by decide +kernel
theorem dX4_firstBlock_1 : decode cX4_firstBlock 1 = .ok (.istore_n 3, 1) := by decide +kernel
theorem dX4_firstBlock_2 : decode cX4_firstBlock 2 = .ok (.iload_n 2, 1) := by decide +kernel
theorem dX4_firstBlock_3 : decode cX4_firstBlock 3 = .ok (.ifCond .le 35, 3) := by decide +kernel
theorem dX4_firstBlock_6 : decode cX4_firstBlock 6 = .ok (.iload_n 3, 1) := by decide +kernel
theorem dX4_firstBlock_7 : decode cX4_firstBlock 7 = .ok (.iload_n 2, 1) := by decide +kernel
theorem dX4_firstBlock_8 : decode cX4_firstBlock 8 = .ok (.iadd, 1) := by decide +kernel
theorem dX4_firstBlock_9 : decode cX4_firstBlock 9 = .ok (.aload_n 0, 1) := by decide +kernel
theorem dX4_firstBlock_10 : decode cX4_firstBlock 10 = .ok (.getfield 23, 3) := by decide +kernel
theorem dX4_firstBlock_13 : decode cX4_firstBlock 13 = .ok (.getfield 78, 3) := by decide +kernel
theorem dX4_firstBlock_16 : decode cX4_firstBlock 16 = .ok (.if_icmp .gt 22, 3) := by decide +kernel
theorem dX4_firstBlock_19 : decode cX4_firstBlock 19 = .ok (.aload_n 0, 1) := by decide +kernel
theorem dX4_firstBlock_20 : decode cX4_firstBlock 20 = .ok (.iload_n 1, 1) := by decide +kernel
theorem dX4_firstBlock_21 : decode cX4_firstBlock 21 = .ok (.iload_n 3, 1) := by decide +kernel
theorem dX4_firstBlock_22 : decode cX4_firstBlock 22 = .ok (.iload_n 2, 1) := by decide +kernel
theorem dX4_firstBlock_23 : decode cX4_firstBlock 23 = .ok (.invokevirtual 81, 3) := by decide +kernel
theorem dX4_firstBlock_26 : decode cX4_firstBlock 26 = .ok (.ifCond .eq 5, 3) := by decide +kernel
theorem dX4_firstBlock_29 : decode cX4_firstBlock 29 = .ok (.iload_n 3, 1) := by decide +kernel
theorem dX4_firstBlock_30 : decode cX4_firstBlock 30 = .ok (.ireturn, 1) := by decide +kernel
theorem dX4_firstBlock_31 : decode cX4_firstBlock 31 = .ok (.iload_n 3, 1) := by decide +kernel
theorem dX4_firstBlock_32 : decode cX4_firstBlock 32 = .ok (.iload_n 2, 1) := by decide +kernel
theorem dX4_firstBlock_33 : decode cX4_firstBlock 33 = .ok (.iadd, 1) := by decide +kernel
theorem dX4_firstBlock_34 : decode cX4_firstBlock 34 = .ok (.istore_n 3, 1) := by decide +kernel
theorem dX4_firstBlock_35 : decode cX4_firstBlock 35 = .ok (.goto (-33), 3) := by decide +kernel
theorem dX4_firstBlock_38 : decode cX4_firstBlock 38 = .ok (.iconst (-1), 1) := by decide +kernel
theorem dX4_firstBlock_39 : decode cX4_firstBlock 39 = .ok (.ireturn, 1) := by decide +kernel
theorem dX4_countBlocks_0 : decode cX4_countBlocks 0 = .ok (.iconst 0, 1) := by decide +kernel
theorem dX4_countBlocks_1 : decode cX4_countBlocks 1 = .ok (.istore_n 3, 1) := by decide +kernel
theorem dX4_countBlocks_2 : decode cX4_countBlocks 2 = .ok (.iconst 0, 1) := by decide +kernel
theorem dX4_countBlocks_3 : decode cX4_countBlocks 3 = .ok (.istore 4, 2) := by decide +kernel
theorem dX4_countBlocks_5 : decode cX4_countBlocks 5 = .ok (.iload_n 2, 1) := by decide +kernel
theorem dX4_countBlocks_6 : decode cX4_countBlocks 6 = .ok (.ifCond .le 45, 3) := by decide +kernel
theorem dX4_countBlocks_9 : decode cX4_countBlocks 9 = .ok (.iload 4, 2) := by decide +kernel
theorem dX4_countBlocks_11 : decode cX4_countBlocks 11 = .ok (.iload_n 2, 1) := by decide +kernel
theorem dX4_countBlocks_12 : decode cX4_countBlocks 12 = .ok (.iadd, 1) := by decide +kernel
theorem dX4_countBlocks_13 : decode cX4_countBlocks 13 = .ok (.aload_n 0, 1) := by decide +kernel
theorem dX4_countBlocks_14 : decode cX4_countBlocks 14 = .ok (.getfield 23, 3) := by decide +kernel
theorem dX4_countBlocks_17 : decode cX4_countBlocks 17 = .ok (.getfield 78, 3) := by decide +kernel
theorem dX4_countBlocks_20 : decode cX4_countBlocks 20 = .ok (.if_icmp .gt 31, 3) := by decide +kernel
theorem dX4_countBlocks_23 : decode cX4_countBlocks 23 = .ok (.iload_n 3, 1) := by decide +kernel
theorem dX4_countBlocks_24 : decode cX4_countBlocks 24 = .ok (.aload_n 0, 1) := by decide +kernel
theorem dX4_countBlocks_25 : decode cX4_countBlocks 25 = .ok (.iload_n 1, 1) := by decide +kernel
theorem dX4_countBlocks_26 : decode cX4_countBlocks 26 = .ok (.iload 4, 2) := by decide +kernel
theorem dX4_countBlocks_28 : decode cX4_countBlocks 28 = .ok (.iload_n 2, 1) := by decide +kernel
theorem dX4_countBlocks_29 : decode cX4_countBlocks 29 = .ok (.invokevirtual 81, 3) := by decide +kernel
theorem dX4_countBlocks_32 : decode cX4_countBlocks 32 = .ok (.ifCond .eq 7, 3) := by decide +kernel
theorem dX4_countBlocks_35 : decode cX4_countBlocks 35 = .ok (.iconst 1, 1) := by decide +kernel
theorem dX4_countBlocks_36 : decode cX4_countBlocks 36 = .ok (.goto 4, 3) := by decide +kernel
theorem dX4_countBlocks_39 : decode cX4_countBlocks 39 = .ok (.iconst 0, 1) := by decide +kernel
theorem dX4_countBlocks_40 : decode cX4_countBlocks 40 = .ok (.iadd, 1) := by decide +kernel
theorem dX4_countBlocks_41 : decode cX4_countBlocks 41 = .ok (.istore_n 3, 1) := by decide +kernel
theorem dX4_countBlocks_42 : decode cX4_countBlocks 42 = .ok (.iload 4, 2) := by decide +kernel
theorem dX4_countBlocks_44 : decode cX4_countBlocks 44 = .ok (.iload_n 2, 1) := by decide +kernel
theorem dX4_countBlocks_45 : decode cX4_countBlocks 45 = .ok (.iadd, 1) := by decide +kernel
theorem dX4_countBlocks_46 : decode cX4_countBlocks 46 = .ok (.istore 4, 2) := by decide +kernel
theorem dX4_countBlocks_48 : decode cX4_countBlocks 48 = .ok (.goto (-43), 3) := by decide +kernel
theorem dX4_countBlocks_51 : decode cX4_countBlocks 51 = .ok (.iload_n 3, 1) := by decide +kernel
theorem dX4_countBlocks_52 : decode cX4_countBlocks 52 = .ok (.ireturn, 1) := by decide +kernel
theorem dX4_greatestBlock_0 : decode cX4_greatestBlock 0 = .ok (.bipush 8, 2) := by decide +kernel
theorem dX4_greatestBlock_2 : decode cX4_greatestBlock 2 = .ok (.istore_n 2, 1) := by decide +kernel
theorem dX4_greatestBlock_3 : decode cX4_greatestBlock 3 = .ok (.iload_n 2, 1) := by decide +kernel
theorem dX4_greatestBlock_4 : decode cX4_greatestBlock 4 = .ok (.iconst 1, 1) := by decide +kernel
theorem dX4_greatestBlock_5 : decode cX4_greatestBlock 5 = .ok (.if_icmp .lt 22, 3) := by decide +kernel
theorem dX4_greatestBlock_8 : decode cX4_greatestBlock 8 = .ok (.aload_n 0, 1) := by decide +kernel
theorem dX4_greatestBlock_9 : decode cX4_greatestBlock 9 = .ok (.iload_n 1, 1) := by decide +kernel
theorem dX4_greatestBlock_10 : decode cX4_greatestBlock 10 = .ok (.iload_n 2, 1) := by decide +kernel
theorem dX4_greatestBlock_11 : decode cX4_greatestBlock 11 = .ok (.invokevirtual 85, 3) := by decide +kernel
theorem dX4_greatestBlock_14 : decode cX4_greatestBlock 14 = .ok (.iconst (-1), 1) := by decide +kernel
theorem dX4_greatestBlock_15 : decode cX4_greatestBlock 15 = .ok (.if_icmp .eq 5, 3) := by decide +kernel
theorem dX4_greatestBlock_18 : decode cX4_greatestBlock 18 = .ok (.iload_n 2, 1) := by decide +kernel
theorem dX4_greatestBlock_19 : decode cX4_greatestBlock 19 = .ok (.ireturn, 1) := by decide +kernel
theorem dX4_greatestBlock_20 : decode cX4_greatestBlock 20 = .ok (.iload_n 2, 1) := by decide +kernel
theorem dX4_greatestBlock_21 : decode cX4_greatestBlock 21 = .ok (.iconst 2, 1) := by decide +kernel
theorem dX4_greatestBlock_22 : decode cX4_greatestBlock 22 = .ok (.idiv, 1) := by decide +kernel
theorem dX4_greatestBlock_23 : decode cX4_greatestBlock 23 = .ok (.istore_n 2, 1) := by decide +kernel
theorem dX4_greatestBlock_24 : decode cX4_greatestBlock 24 = .ok (.goto (-21), 3) := by decide +kernel
theorem dX4_greatestBlock_27 : decode cX4_greatestBlock 27 = .ok (.iconst 0, 1) := by decide +kernel
theorem dX4_greatestBlock_28 : decode cX4_greatestBlock 28 = .ok (.ireturn, 1) := by decide +kernel
theorem dX4_leastLoaded_0 : decode cX4_leastLoaded 0 = .ok (.iconst (-1), 1) := by decide +kernel
theorem dX4_leastLoaded_1 : decode cX4_leastLoaded 1 = .ok (.istore_n 2, 1) := by decide +kernel
theorem dX4_leastLoaded_2 : decode cX4_leastLoaded 2 = .ok (.iconst (-1), 1) := by decide +kernel
theorem dX4_leastLoaded_3 : decode cX4_leastLoaded 3 = .ok (.istore_n 3, 1) := by decide +kernel
theorem dX4_leastLoaded_4 : decode cX4_leastLoaded 4 = .ok (.iconst 0, 1) := by decide +kernel
theorem dX4_leastLoaded_5 : decode cX4_leastLoaded 5 = .ok (.istore 4, 2) := by decide +kernel
theorem dX4_leastLoaded_7 : decode cX4_leastLoaded 7 = .ok (.iload 4, 2) := by decide +kernel
theorem dX4_leastLoaded_9 : decode cX4_leastLoaded 9 = .ok (.aload_n 0, 1) := by decide +kernel
theorem dX4_leastLoaded_10 : decode cX4_leastLoaded 10 = .ok (.getfield 23, 3) := by decide +kernel
theorem dX4_leastLoaded_13 : decode cX4_leastLoaded 13 = .ok (.getfield 64, 3) := by decide +kernel
theorem dX4_leastLoaded_16 : decode cX4_leastLoaded 16 = .ok (.if_icmp .ge 77, 3) := by decide +kernel
theorem dX4_leastLoaded_19 : decode cX4_leastLoaded 19 = .ok (.aload_n 0, 1) := by decide +kernel
theorem dX4_leastLoaded_20 : decode cX4_leastLoaded 20 = .ok (.getfield 11, 3) := by decide +kernel
theorem dX4_leastLoaded_23 : decode cX4_leastLoaded 23 = .ok (.iconst 2, 1) := by decide +kernel
theorem dX4_leastLoaded_24 : decode cX4_leastLoaded 24 = .ok (.aaload, 1) := by decide +kernel
theorem dX4_leastLoaded_25 : decode cX4_leastLoaded 25 = .ok (.iload 4, 2) := by decide +kernel
theorem dX4_leastLoaded_27 : decode cX4_leastLoaded 27 = .ok (.iaload, 1) := by decide +kernel
theorem dX4_leastLoaded_28 : decode cX4_leastLoaded 28 = .ok (.aload_n 0, 1) := by decide +kernel
theorem dX4_leastLoaded_29 : decode cX4_leastLoaded 29 = .ok (.getfield 11, 3) := by decide +kernel
theorem dX4_leastLoaded_32 : decode cX4_leastLoaded 32 = .ok (.iconst 3, 1) := by decide +kernel
theorem dX4_leastLoaded_33 : decode cX4_leastLoaded 33 = .ok (.aaload, 1) := by decide +kernel
theorem dX4_leastLoaded_34 : decode cX4_leastLoaded 34 = .ok (.iload 4, 2) := by decide +kernel
theorem dX4_leastLoaded_36 : decode cX4_leastLoaded 36 = .ok (.iaload, 1) := by decide +kernel
theorem dX4_leastLoaded_37 : decode cX4_leastLoaded 37 = .ok (.ior, 1) := by decide +kernel
theorem dX4_leastLoaded_38 : decode cX4_leastLoaded 38 = .ok (.invokestatic 58, 3) := by decide +kernel
theorem dX4_leastLoaded_41 : decode cX4_leastLoaded 41 = .ok (.istore 5, 2) := by decide +kernel
theorem dX4_leastLoaded_43 : decode cX4_leastLoaded 43 = .ok (.iload_n 1, 1) := by decide +kernel
theorem dX4_leastLoaded_44 : decode cX4_leastLoaded 44 = .ok (.aload_n 0, 1) := by decide +kernel
theorem dX4_leastLoaded_45 : decode cX4_leastLoaded 45 = .ok (.getfield 49, 3) := by decide +kernel
theorem dX4_leastLoaded_48 : decode cX4_leastLoaded 48 = .ok (.iand, 1) := by decide +kernel
theorem dX4_leastLoaded_49 : decode cX4_leastLoaded 49 = .ok (.iload 4, 2) := by decide +kernel
theorem dX4_leastLoaded_51 : decode cX4_leastLoaded 51 = .ok (.iushr, 1) := by decide +kernel
theorem dX4_leastLoaded_52 : decode cX4_leastLoaded 52 = .ok (.iconst 1, 1) := by decide +kernel
theorem dX4_leastLoaded_53 : decode cX4_leastLoaded 53 = .ok (.iand, 1) := by decide +kernel
theorem dX4_leastLoaded_54 : decode cX4_leastLoaded 54 = .ok (.iconst 1, 1) := by decide +kernel
theorem dX4_leastLoaded_55 : decode cX4_leastLoaded 55 = .ok (.if_icmp .ne 7, 3) := by decide +kernel
theorem dX4_leastLoaded_58 : decode cX4_leastLoaded 58 = .ok (.iconst 1, 1) := by decide +kernel
theorem dX4_leastLoaded_59 : decode cX4_leastLoaded 59 = .ok (.goto 4, 3) := by decide +kernel
theorem dX4_leastLoaded_62 : decode cX4_leastLoaded 62 = .ok (.iconst 0, 1) := by decide +kernel
theorem dX4_leastLoaded_63 : decode cX4_leastLoaded 63 = .ok (.istore 6, 2) := by decide +kernel
theorem dX4_leastLoaded_65 : decode cX4_leastLoaded 65 = .ok (.iload 6, 2) := by decide +kernel
theorem dX4_leastLoaded_67 : decode cX4_leastLoaded 67 = .ok (.ifCond .eq 20, 3) := by decide +kernel
theorem dX4_leastLoaded_70 : decode cX4_leastLoaded 70 = .ok (.iload_n 2, 1) := by decide +kernel
theorem dX4_leastLoaded_71 : decode cX4_leastLoaded 71 = .ok (.iconst (-1), 1) := by decide +kernel
theorem dX4_leastLoaded_72 : decode cX4_leastLoaded 72 = .ok (.if_icmp .eq 9, 3) := by decide +kernel
theorem dX4_leastLoaded_75 : decode cX4_leastLoaded 75 = .ok (.iload 5, 2) := by decide +kernel
theorem dX4_leastLoaded_77 : decode cX4_leastLoaded 77 = .ok (.iload_n 3, 1) := by decide +kernel
theorem dX4_leastLoaded_78 : decode cX4_leastLoaded 78 = .ok (.if_icmp .ge 9, 3) := by decide +kernel
theorem dX4_leastLoaded_81 : decode cX4_leastLoaded 81 = .ok (.iload 4, 2) := by decide +kernel
theorem dX4_leastLoaded_83 : decode cX4_leastLoaded 83 = .ok (.istore_n 2, 1) := by decide +kernel
theorem dX4_leastLoaded_84 : decode cX4_leastLoaded 84 = .ok (.iload 5, 2) := by decide +kernel
theorem dX4_leastLoaded_86 : decode cX4_leastLoaded 86 = .ok (.istore_n 3, 1) := by decide +kernel
theorem dX4_leastLoaded_87 : decode cX4_leastLoaded 87 = .ok (.iinc 4 1, 3) := by decide +kernel
theorem dX4_leastLoaded_90 : decode cX4_leastLoaded 90 = .ok (.goto (-83), 3) := by decide +kernel
theorem dX4_leastLoaded_93 : decode cX4_leastLoaded 93 = .ok (.iload_n 2, 1) := by decide +kernel
theorem dX4_leastLoaded_94 : decode cX4_leastLoaded 94 = .ok (.ireturn, 1) := by decide +kernel
theorem dX4_deal_0 : decode cX4_deal 0 = .ok (.iconst 0, 1) := by decide +kernel
theorem dX4_deal_1 : decode cX4_deal 1 = .ok (.istore_n 3, 1) := by decide +kernel
theorem dX4_deal_2 : decode cX4_deal 2 = .ok (.iconst 0, 1) := by decide +kernel
theorem dX4_deal_3 : decode cX4_deal 3 = .ok (.istore 4, 2) := by decide +kernel
theorem dX4_deal_5 : decode cX4_deal 5 = .ok (.iload 4, 2) := by decide +kernel
theorem dX4_deal_7 : decode cX4_deal 7 = .ok (.aload_n 0, 1) := by decide +kernel
theorem dX4_deal_8 : decode cX4_deal 8 = .ok (.getfield 23, 3) := by decide +kernel
theorem dX4_deal_11 : decode cX4_deal 11 = .ok (.getfield 64, 3) := by decide +kernel
theorem dX4_deal_14 : decode cX4_deal 14 = .ok (.if_icmp .ge 31, 3) := by decide +kernel
theorem dX4_deal_17 : decode cX4_deal 17 = .ok (.iload_n 3, 1) := by decide +kernel
theorem dX4_deal_18 : decode cX4_deal 18 = .ok (.aload_n 0, 1) := by decide +kernel
theorem dX4_deal_19 : decode cX4_deal 19 = .ok (.iload 4, 2) := by decide +kernel
theorem dX4_deal_21 : decode cX4_deal 21 = .ok (.iload_n 2, 1) := by decide +kernel
theorem dX4_deal_22 : decode cX4_deal 22 = .ok (.invokevirtual 85, 3) := by decide +kernel
theorem dX4_deal_25 : decode cX4_deal 25 = .ok (.iconst (-1), 1) := by decide +kernel
theorem dX4_deal_26 : decode cX4_deal 26 = .ok (.if_icmp .eq 10, 3) := by decide +kernel
theorem dX4_deal_29 : decode cX4_deal 29 = .ok (.iconst 1, 1) := by decide +kernel
theorem dX4_deal_30 : decode cX4_deal 30 = .ok (.iload 4, 2) := by decide +kernel
theorem dX4_deal_32 : decode cX4_deal 32 = .ok (.ishl, 1) := by decide +kernel
theorem dX4_deal_33 : decode cX4_deal 33 = .ok (.goto 4, 3) := by decide +kernel
theorem dX4_deal_36 : decode cX4_deal 36 = .ok (.iconst 0, 1) := by decide +kernel
theorem dX4_deal_37 : decode cX4_deal 37 = .ok (.ior, 1) := by decide +kernel
theorem dX4_deal_38 : decode cX4_deal 38 = .ok (.istore_n 3, 1) := by decide +kernel
theorem dX4_deal_39 : decode cX4_deal 39 = .ok (.iinc 4 1, 3) := by decide +kernel
theorem dX4_deal_42 : decode cX4_deal 42 = .ok (.goto (-37), 3) := by decide +kernel
theorem dX4_deal_45 : decode cX4_deal 45 = .ok (.aload_n 0, 1) := by decide +kernel
theorem dX4_deal_46 : decode cX4_deal 46 = .ok (.iload_n 1, 1) := by decide +kernel
theorem dX4_deal_47 : decode cX4_deal 47 = .ok (.iload_n 3, 1) := by decide +kernel
theorem dX4_deal_48 : decode cX4_deal 48 = .ok (.iand, 1) := by decide +kernel
theorem dX4_deal_49 : decode cX4_deal 49 = .ok (.invokevirtual 88, 3) := by decide +kernel
theorem dX4_deal_52 : decode cX4_deal 52 = .ok (.istore 4, 2) := by decide +kernel
theorem dX4_deal_54 : decode cX4_deal 54 = .ok (.iload 4, 2) := by decide +kernel
theorem dX4_deal_56 : decode cX4_deal 56 = .ok (.iconst (-1), 1) := by decide +kernel
theorem dX4_deal_57 : decode cX4_deal 57 = .ok (.if_icmp .ne 7, 3) := by decide +kernel
theorem dX4_deal_60 : decode cX4_deal 60 = .ok (.iconst (-1), 1) := by decide +kernel
theorem dX4_deal_61 : decode cX4_deal 61 = .ok (.goto 16, 3) := by decide +kernel
theorem dX4_deal_64 : decode cX4_deal 64 = .ok (.iload 4, 2) := by decide +kernel
theorem dX4_deal_66 : decode cX4_deal 66 = .ok (.bipush 32, 2) := by decide +kernel
theorem dX4_deal_68 : decode cX4_deal 68 = .ok (.imul, 1) := by decide +kernel
theorem dX4_deal_69 : decode cX4_deal 69 = .ok (.aload_n 0, 1) := by decide +kernel
theorem dX4_deal_70 : decode cX4_deal 70 = .ok (.iload 4, 2) := by decide +kernel
theorem dX4_deal_72 : decode cX4_deal 72 = .ok (.iload_n 2, 1) := by decide +kernel
theorem dX4_deal_73 : decode cX4_deal 73 = .ok (.invokevirtual 85, 3) := by decide +kernel
theorem dX4_deal_76 : decode cX4_deal 76 = .ok (.iadd, 1) := by decide +kernel
theorem dX4_deal_77 : decode cX4_deal 77 = .ok (.ireturn, 1) := by decide +kernel
theorem dX4_reservedPlace_0 : decode cX4_reservedPlace 0 = .ok (.iconst 0, 1) := by decide +kernel
theorem dX4_reservedPlace_1 : decode cX4_reservedPlace 1 = .ok (.istore_n 3, 1) := by decide +kernel
theorem dX4_reservedPlace_2 : decode cX4_reservedPlace 2 = .ok (.iload_n 3, 1) := by decide +kernel
theorem dX4_reservedPlace_3 : decode cX4_reservedPlace 3 = .ok (.aload_n 0, 1) := by decide +kernel
theorem dX4_reservedPlace_4 : decode cX4_reservedPlace 4 = .ok (.getfield 23, 3) := by decide +kernel
theorem dX4_reservedPlace_7 : decode cX4_reservedPlace 7 = .ok (.getfield 78, 3) := by decide +kernel
theorem dX4_reservedPlace_10 : decode cX4_reservedPlace 10 = .ok (.if_icmp .ge 47, 3) := by decide +kernel
theorem dX4_reservedPlace_13 : decode cX4_reservedPlace 13 = .ok (.iload_n 1, 1) := by decide +kernel
theorem dX4_reservedPlace_14 : decode cX4_reservedPlace 14 = .ok (.bipush 32, 2) := by decide +kernel
theorem dX4_reservedPlace_16 : decode cX4_reservedPlace 16 = .ok (.imul, 1) := by decide +kernel
theorem dX4_reservedPlace_17 : decode cX4_reservedPlace 17 = .ok (.iload_n 3, 1) := by decide +kernel
theorem dX4_reservedPlace_18 : decode cX4_reservedPlace 18 = .ok (.iadd, 1) := by decide +kernel
theorem dX4_reservedPlace_19 : decode cX4_reservedPlace 19 = .ok (.istore 4, 2) := by decide +kernel
theorem dX4_reservedPlace_21 : decode cX4_reservedPlace 21 = .ok (.aload_n 0, 1) := by decide +kernel
theorem dX4_reservedPlace_22 : decode cX4_reservedPlace 22 = .ok (.getfield 20, 3) := by decide +kernel
theorem dX4_reservedPlace_25 : decode cX4_reservedPlace 25 = .ok (.iload 4, 2) := by decide +kernel
theorem dX4_reservedPlace_27 : decode cX4_reservedPlace 27 = .ok (.iaload, 1) := by decide +kernel
theorem dX4_reservedPlace_28 : decode cX4_reservedPlace 28 = .ok (.iload_n 2, 1) := by decide +kernel
theorem dX4_reservedPlace_29 : decode cX4_reservedPlace 29 = .ok (.if_icmp .ne 22, 3) := by decide +kernel
theorem dX4_reservedPlace_32 : decode cX4_reservedPlace 32 = .ok (.aload_n 0, 1) := by decide +kernel
theorem dX4_reservedPlace_33 : decode cX4_reservedPlace 33 = .ok (.getfield 11, 3) := by decide +kernel
theorem dX4_reservedPlace_36 : decode cX4_reservedPlace 36 = .ok (.iconst 4, 1) := by decide +kernel
theorem dX4_reservedPlace_37 : decode cX4_reservedPlace 37 = .ok (.aaload, 1) := by decide +kernel
theorem dX4_reservedPlace_38 : decode cX4_reservedPlace 38 = .ok (.iload_n 1, 1) := by decide +kernel
theorem dX4_reservedPlace_39 : decode cX4_reservedPlace 39 = .ok (.iaload, 1) := by decide +kernel
theorem dX4_reservedPlace_40 : decode cX4_reservedPlace 40 = .ok (.iload_n 3, 1) := by decide +kernel
theorem dX4_reservedPlace_41 : decode cX4_reservedPlace 41 = .ok (.iushr, 1) := by decide +kernel
theorem dX4_reservedPlace_42 : decode cX4_reservedPlace 42 = .ok (.iconst 1, 1) := by decide +kernel
theorem dX4_reservedPlace_43 : decode cX4_reservedPlace 43 = .ok (.iand, 1) := by decide +kernel
theorem dX4_reservedPlace_44 : decode cX4_reservedPlace 44 = .ok (.iconst 1, 1) := by decide +kernel
theorem dX4_reservedPlace_45 : decode cX4_reservedPlace 45 = .ok (.if_icmp .ne 6, 3) := by decide +kernel
theorem dX4_reservedPlace_48 : decode cX4_reservedPlace 48 = .ok (.iload 4, 2) := by decide +kernel
theorem dX4_reservedPlace_50 : decode cX4_reservedPlace 50 = .ok (.ireturn, 1) := by decide +kernel
theorem dX4_reservedPlace_51 : decode cX4_reservedPlace 51 = .ok (.iinc 3 1, 3) := by decide +kernel
theorem dX4_reservedPlace_54 : decode cX4_reservedPlace 54 = .ok (.goto (-52), 3) := by decide +kernel
theorem dX4_reservedPlace_57 : decode cX4_reservedPlace 57 = .ok (.iconst (-1), 1) := by decide +kernel
theorem dX4_reservedPlace_58 : decode cX4_reservedPlace 58 = .ok (.ireturn, 1) := by decide +kernel
