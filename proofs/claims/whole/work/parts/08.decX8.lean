theorem dX8_init_0 : decode cX8_init 0 = .ok (.aload_n 0, 1) := by decide +kernel
theorem dX8_init_1 : decode cX8_init 1 = .ok (.invokespecial 3, 3) := by decide +kernel
theorem dX8_init_4 : decode cX8_init 4 = .ok (.aload_n 0, 1) := by decide +kernel
theorem dX8_init_5 : decode cX8_init 5 = .ok (.bipush 10, 2) := by decide +kernel
theorem dX8_init_7 : decode cX8_init 7 = .ok (.newarray .int, 2) := by decide +kernel
theorem dX8_init_9 : decode cX8_init 9 = .ok (.putfield 9, 3) := by decide +kernel
theorem dX8_init_12 : decode cX8_init 12 = .ok (.aload_n 0, 1) := by decide +kernel
theorem dX8_init_13 : decode cX8_init 13 = .ok (.bipush 10, 2) := by decide +kernel
theorem dX8_init_15 : decode cX8_init 15 = .ok (.newarray .int, 2) := by decide +kernel
theorem dX8_init_17 : decode cX8_init 17 = .ok (.putfield 15, 3) := by decide +kernel
theorem dX8_init_20 : decode cX8_init 20 = .ok (.aload_n 0, 1) := by decide +kernel
theorem dX8_init_21 : decode cX8_init 21 = .ok (.bipush 10, 2) := by decide +kernel
theorem dX8_init_23 : decode cX8_init 23 = .ok (.newarray .int, 2) := by decide +kernel
theorem dX8_init_25 : decode cX8_init 25 = .ok (.putfield 18, 3) := by decide +kernel
theorem dX8_init_28 : decode cX8_init 28 = .ok (.aload_n 0, 1) := by decide +kernel
theorem dX8_init_29 : decode cX8_init 29 = .ok (.bipush 8, 2) := by decide +kernel
theorem dX8_init_31 : decode cX8_init 31 = .ok (.newarray .int, 2) := by decide +kernel
theorem dX8_init_33 : decode cX8_init 33 = .ok (.putfield 21, 3) := by decide +kernel
theorem dX8_init_36 : decode cX8_init 36 = .ok (.aload_n 0, 1) := by decide +kernel
theorem dX8_init_37 : decode cX8_init 37 = .ok (.bipush 40, 2) := by decide +kernel
theorem dX8_init_39 : decode cX8_init 39 = .ok (.newarray .int, 2) := by decide +kernel
theorem dX8_init_41 : decode cX8_init 41 = .ok (.putfield 24, 3) := by decide +kernel
theorem dX8_init_44 : decode cX8_init 44 = .ok (.return_, 1) := by decide +kernel
theorem dX8_empty_0 : decode cX8_empty 0 = .ok (.aload_n 0, 1) := by decide +kernel
theorem dX8_empty_1 : decode cX8_empty 1 = .ok (.iconst 0, 1) := by decide +kernel
theorem dX8_empty_2 : decode cX8_empty 2 = .ok (.putfield 27, 3) := by decide +kernel
theorem dX8_empty_5 : decode cX8_empty 5 = .ok (.aload_n 0, 1) := by decide +kernel
theorem dX8_empty_6 : decode cX8_empty 6 = .ok (.iconst 0, 1) := by decide +kernel
theorem dX8_empty_7 : decode cX8_empty 7 = .ok (.putfield 31, 3) := by decide +kernel
theorem dX8_empty_10 : decode cX8_empty 10 = .ok (.aload_n 0, 1) := by decide +kernel
theorem dX8_empty_11 : decode cX8_empty 11 = .ok (.getfield 9, 3) := by decide +kernel
theorem dX8_empty_14 : decode cX8_empty 14 = .ok (.iconst 0, 1) := by decide +kernel
theorem dX8_empty_15 : decode cX8_empty 15 = .ok (.invokestatic 34, 3) := by decide +kernel
theorem dX8_empty_18 : decode cX8_empty 18 = .ok (.aload_n 0, 1) := by decide +kernel
theorem dX8_empty_19 : decode cX8_empty 19 = .ok (.getfield 15, 3) := by decide +kernel
theorem dX8_empty_22 : decode cX8_empty 22 = .ok (.iconst 0, 1) := by decide +kernel
theorem dX8_empty_23 : decode cX8_empty 23 = .ok (.invokestatic 34, 3) := by decide +kernel
theorem dX8_empty_26 : decode cX8_empty 26 = .ok (.aload_n 0, 1) := by decide +kernel
theorem dX8_empty_27 : decode cX8_empty 27 = .ok (.getfield 18, 3) := by decide +kernel
theorem dX8_empty_30 : decode cX8_empty 30 = .ok (.iconst 0, 1) := by decide +kernel
theorem dX8_empty_31 : decode cX8_empty 31 = .ok (.invokestatic 34, 3) := by decide +kernel
theorem dX8_empty_34 : decode cX8_empty 34 = .ok (.aload_n 0, 1) := by decide +kernel
theorem dX8_empty_35 : decode cX8_empty 35 = .ok (.getfield 21, 3) := by decide +kernel
theorem dX8_empty_38 : decode cX8_empty 38 = .ok (.iconst 0, 1) := by decide +kernel
theorem dX8_empty_39 : decode cX8_empty 39 = .ok (.invokestatic 34, 3) := by decide +kernel
theorem dX8_empty_42 : decode cX8_empty 42 = .ok (.return_, 1) := by decide +kernel
theorem dX8_copyFrom_0 : decode cX8_copyFrom 0 = .ok (.aload_n 0, 1) := by decide +kernel
theorem dX8_copyFrom_1 : decode cX8_copyFrom 1 = .ok (.aload_n 1, 1) := by decide +kernel
theorem dX8_copyFrom_2 : decode cX8_copyFrom 2 = .ok (.getfield 27, 3) := by decide +kernel
theorem dX8_copyFrom_5 : decode cX8_copyFrom 5 = .ok (.putfield 27, 3) := by decide +kernel
theorem dX8_copyFrom_8 : decode cX8_copyFrom 8 = .ok (.aload_n 0, 1) := by decide +kernel
theorem dX8_copyFrom_9 : decode cX8_copyFrom 9 = .ok (.aload_n 1, 1) := by decide +kernel
theorem dX8_copyFrom_10 : decode cX8_copyFrom 10 = .ok (.getfield 31, 3) := by decide +kernel
theorem dX8_copyFrom_13 : decode cX8_copyFrom 13 = .ok (.putfield 31, 3) := by decide +kernel
theorem dX8_copyFrom_16 : decode cX8_copyFrom 16 = .ok (.aload_n 1, 1) := by decide +kernel
theorem dX8_copyFrom_17 : decode cX8_copyFrom 17 = .ok (.getfield 9, 3) := by decide +kernel
theorem dX8_copyFrom_20 : decode cX8_copyFrom 20 = .ok (.iconst 0, 1) := by decide +kernel
theorem dX8_copyFrom_21 : decode cX8_copyFrom 21 = .ok (.aload_n 0, 1) := by decide +kernel
theorem dX8_copyFrom_22 : decode cX8_copyFrom 22 = .ok (.getfield 9, 3) := by decide +kernel
theorem dX8_copyFrom_25 : decode cX8_copyFrom 25 = .ok (.iconst 0, 1) := by decide +kernel
theorem dX8_copyFrom_26 : decode cX8_copyFrom 26 = .ok (.bipush 10, 2) := by decide +kernel
theorem dX8_copyFrom_28 : decode cX8_copyFrom 28 = .ok (.invokestatic 40, 3) := by decide +kernel
theorem dX8_copyFrom_31 : decode cX8_copyFrom 31 = .ok (.aload_n 1, 1) := by decide +kernel
theorem dX8_copyFrom_32 : decode cX8_copyFrom 32 = .ok (.getfield 15, 3) := by decide +kernel
theorem dX8_copyFrom_35 : decode cX8_copyFrom 35 = .ok (.iconst 0, 1) := by decide +kernel
theorem dX8_copyFrom_36 : decode cX8_copyFrom 36 = .ok (.aload_n 0, 1) := by decide +kernel
theorem dX8_copyFrom_37 : decode cX8_copyFrom 37 = .ok (.getfield 15, 3) := by decide +kernel
theorem dX8_copyFrom_40 : decode cX8_copyFrom 40 = .ok (.iconst 0, 1) := by decide +kernel
theorem dX8_copyFrom_41 : decode cX8_copyFrom 41 = .ok (.bipush 10, 2) := by decide +kernel
theorem dX8_copyFrom_43 : decode cX8_copyFrom 43 = .ok (.invokestatic 40, 3) := by decide +kernel
theorem dX8_copyFrom_46 : decode cX8_copyFrom 46 = .ok (.aload_n 1, 1) := by decide +kernel
theorem dX8_copyFrom_47 : decode cX8_copyFrom 47 = .ok (.getfield 18, 3) := by decide +kernel
theorem dX8_copyFrom_50 : decode cX8_copyFrom 50 = .ok (.iconst 0, 1) := by decide +kernel
theorem dX8_copyFrom_51 : decode cX8_copyFrom 51 = .ok (.aload_n 0, 1) := by decide +kernel
theorem dX8_copyFrom_52 : decode cX8_copyFrom 52 = .ok (.getfield 18, 3) := by decide +kernel
theorem dX8_copyFrom_55 : decode cX8_copyFrom 55 = .ok (.iconst 0, 1) := by decide +kernel
theorem dX8_copyFrom_56 : decode cX8_copyFrom 56 = .ok (.bipush 10, 2) := by decide +kernel
theorem dX8_copyFrom_58 : decode cX8_copyFrom 58 = .ok (.invokestatic 40, 3) := by decide +kernel
theorem dX8_copyFrom_61 : decode cX8_copyFrom 61 = .ok (.aload_n 1, 1) := by decide +kernel
theorem dX8_copyFrom_62 : decode cX8_copyFrom 62 = .ok (.getfield 21, 3) := by decide +kernel
theorem dX8_copyFrom_65 : decode cX8_copyFrom 65 = .ok (.iconst 0, 1) := by decide +kernel
theorem dX8_copyFrom_66 : decode cX8_copyFrom 66 = .ok (.aload_n 0, 1) := by decide +kernel
theorem dX8_copyFrom_67 : decode cX8_copyFrom 67 = .ok (.getfield 21, 3) := by decide +kernel
theorem dX8_copyFrom_70 : decode cX8_copyFrom 70 = .ok (.iconst 0, 1) := by decide +kernel
theorem dX8_copyFrom_71 : decode cX8_copyFrom 71 = .ok (.bipush 8, 2) := by decide +kernel
theorem dX8_copyFrom_73 : decode cX8_copyFrom 73 = .ok (.invokestatic 40, 3) := by decide +kernel
theorem dX8_copyFrom_76 : decode cX8_copyFrom 76 = .ok (.aload_n 1, 1) := by decide +kernel
theorem dX8_copyFrom_77 : decode cX8_copyFrom 77 = .ok (.getfield 24, 3) := by decide +kernel
theorem dX8_copyFrom_80 : decode cX8_copyFrom 80 = .ok (.iconst 0, 1) := by decide +kernel
theorem dX8_copyFrom_81 : decode cX8_copyFrom 81 = .ok (.aload_n 0, 1) := by decide +kernel
theorem dX8_copyFrom_82 : decode cX8_copyFrom 82 = .ok (.getfield 24, 3) := by decide +kernel
theorem dX8_copyFrom_85 : decode cX8_copyFrom 85 = .ok (.iconst 0, 1) := by decide +kernel
theorem dX8_copyFrom_86 : decode cX8_copyFrom 86 = .ok (.bipush 40, 2) := by decide +kernel
theorem dX8_copyFrom_88 : decode cX8_copyFrom 88 = .ok (.invokestatic 40, 3) := by decide +kernel
theorem dX8_copyFrom_91 : decode cX8_copyFrom 91 = .ok (.return_, 1) := by decide +kernel
theorem dX8_note_0 : decode cX8_note 0 = .ok (.aload_n 0, 1) := by decide +kernel
theorem dX8_note_1 : decode cX8_note 1 = .ok (.getfield 9, 3) := by decide +kernel
theorem dX8_note_4 : decode cX8_note 4 = .ok (.iload_n 1, 1) := by decide +kernel
theorem dX8_note_5 : decode cX8_note 5 = .ok (.bipush 8, 2) := by decide +kernel
theorem dX8_note_7 : decode cX8_note 7 = .ok (.idiv, 1) := by decide +kernel
theorem dX8_note_8 : decode cX8_note 8 = .ok (.dup2, 1) := by decide +kernel
theorem dX8_note_9 : decode cX8_note 9 = .ok (.iaload, 1) := by decide +kernel
theorem dX8_note_10 : decode cX8_note 10 = .ok (.iconst 1, 1) := by decide +kernel
theorem dX8_note_11 : decode cX8_note 11 = .ok (.iadd, 1) := by decide +kernel
theorem dX8_note_12 : decode cX8_note 12 = .ok (.iastore, 1) := by decide +kernel
theorem dX8_note_13 : decode cX8_note 13 = .ok (.aload_n 0, 1) := by decide +kernel
theorem dX8_note_14 : decode cX8_note 14 = .ok (.getfield 21, 3) := by decide +kernel
theorem dX8_note_17 : decode cX8_note 17 = .ok (.iload_n 2, 1) := by decide +kernel
theorem dX8_note_18 : decode cX8_note 18 = .ok (.bipush 32, 2) := by decide +kernel
theorem dX8_note_20 : decode cX8_note 20 = .ok (.idiv, 1) := by decide +kernel
theorem dX8_note_21 : decode cX8_note 21 = .ok (.dup2, 1) := by decide +kernel
theorem dX8_note_22 : decode cX8_note 22 = .ok (.iaload, 1) := by decide +kernel
theorem dX8_note_23 : decode cX8_note 23 = .ok (.iconst 1, 1) := by decide +kernel
theorem dX8_note_24 : decode cX8_note 24 = .ok (.iadd, 1) := by decide +kernel
theorem dX8_note_25 : decode cX8_note 25 = .ok (.iastore, 1) := by decide +kernel
theorem dX8_note_26 : decode cX8_note 26 = .ok (.aload_n 0, 1) := by decide +kernel
theorem dX8_note_27 : decode cX8_note 27 = .ok (.getfield 24, 3) := by decide +kernel
theorem dX8_note_30 : decode cX8_note 30 = .ok (.aload_n 0, 1) := by decide +kernel
theorem dX8_note_31 : decode cX8_note 31 = .ok (.getfield 31, 3) := by decide +kernel
theorem dX8_note_34 : decode cX8_note 34 = .ok (.bipush 40, 2) := by decide +kernel
theorem dX8_note_36 : decode cX8_note 36 = .ok (.irem, 1) := by decide +kernel
theorem dX8_note_37 : decode cX8_note 37 = .ok (.iload_n 1, 1) := by decide +kernel
theorem dX8_note_38 : decode cX8_note 38 = .ok (.sipush 512, 3) := by decide +kernel
theorem dX8_note_41 : decode cX8_note 41 = .ok (.imul, 1) := by decide +kernel
theorem dX8_note_42 : decode cX8_note 42 = .ok (.iload_n 2, 1) := by decide +kernel
theorem dX8_note_43 : decode cX8_note 43 = .ok (.iconst 2, 1) := by decide +kernel
theorem dX8_note_44 : decode cX8_note 44 = .ok (.imul, 1) := by decide +kernel
theorem dX8_note_45 : decode cX8_note 45 = .ok (.iadd, 1) := by decide +kernel
theorem dX8_note_46 : decode cX8_note 46 = .ok (.iload_n 3, 1) := by decide +kernel
theorem dX8_note_47 : decode cX8_note 47 = .ok (.ifCond .eq 7, 3) := by decide +kernel
theorem dX8_note_50 : decode cX8_note 50 = .ok (.iconst 1, 1) := by decide +kernel
theorem dX8_note_51 : decode cX8_note 51 = .ok (.goto 4, 3) := by decide +kernel
theorem dX8_note_54 : decode cX8_note 54 = .ok (.iconst 0, 1) := by decide +kernel
theorem dX8_note_55 : decode cX8_note 55 = .ok (.iadd, 1) := by decide +kernel
theorem dX8_note_56 : decode cX8_note 56 = .ok (.iastore, 1) := by decide +kernel
theorem dX8_note_57 : decode cX8_note 57 = .ok (.aload_n 0, 1) := by decide +kernel
theorem dX8_note_58 : decode cX8_note 58 = .ok (.dup, 1) := by decide +kernel
theorem dX8_note_59 : decode cX8_note 59 = .ok (.getfield 31, 3) := by decide +kernel
theorem dX8_note_62 : decode cX8_note 62 = .ok (.iconst 1, 1) := by decide +kernel
theorem dX8_note_63 : decode cX8_note 63 = .ok (.iadd, 1) := by decide +kernel
theorem dX8_note_64 : decode cX8_note 64 = .ok (.putfield 31, 3) := by decide +kernel
theorem dX8_note_67 : decode cX8_note 67 = .ok (.return_, 1) := by decide +kernel
theorem dX8_kept_0 : decode cX8_kept 0 = .ok (.aload_n 0, 1) := by decide +kernel
theorem dX8_kept_1 : decode cX8_kept 1 = .ok (.getfield 31, 3) := by decide +kernel
theorem dX8_kept_4 : decode cX8_kept 4 = .ok (.bipush 40, 2) := by decide +kernel
theorem dX8_kept_6 : decode cX8_kept 6 = .ok (.invokestatic 46, 3) := by decide +kernel
theorem dX8_kept_9 : decode cX8_kept 9 = .ok (.ireturn, 1) := by decide +kernel
theorem dX8_latest_0 : decode cX8_latest 0 = .ok (.aload_n 0, 1) := by decide +kernel
theorem dX8_latest_1 : decode cX8_latest 1 = .ok (.getfield 24, 3) := by decide +kernel
theorem dX8_latest_4 : decode cX8_latest 4 = .ok (.aload_n 0, 1) := by decide +kernel
theorem dX8_latest_5 : decode cX8_latest 5 = .ok (.getfield 31, 3) := by decide +kernel
theorem dX8_latest_8 : decode cX8_latest 8 = .ok (.iconst 1, 1) := by decide +kernel
theorem dX8_latest_9 : decode cX8_latest 9 = .ok (.isub, 1) := by decide +kernel
theorem dX8_latest_10 : decode cX8_latest 10 = .ok (.iload_n 1, 1) := by decide +kernel
theorem dX8_latest_11 : decode cX8_latest 11 = .ok (.isub, 1) := by decide +kernel
theorem dX8_latest_12 : decode cX8_latest 12 = .ok (.bipush 40, 2) := by decide +kernel
theorem dX8_latest_14 : decode cX8_latest 14 = .ok (.invokestatic 52, 3) := by decide +kernel
theorem dX8_latest_17 : decode cX8_latest 17 = .ok (.iaload, 1) := by decide +kernel
theorem dX8_latest_18 : decode cX8_latest 18 = .ok (.ireturn, 1) := by decide +kernel
theorem dX8_latestId_0 : decode cX8_latestId 0 = .ok (.aload_n 0, 1) := by decide +kernel
theorem dX8_latestId_1 : decode cX8_latestId 1 = .ok (.iload_n 1, 1) := by decide +kernel
theorem dX8_latestId_2 : decode cX8_latestId 2 = .ok (.invokevirtual 55, 3) := by decide +kernel
theorem dX8_latestId_5 : decode cX8_latestId 5 = .ok (.sipush 512, 3) := by decide +kernel
theorem dX8_latestId_8 : decode cX8_latestId 8 = .ok (.idiv, 1) := by decide +kernel
theorem dX8_latestId_9 : decode cX8_latestId 9 = .ok (.ireturn, 1) := by decide +kernel
theorem dX8_latestPlace_0 : decode cX8_latestPlace 0 = .ok (.aload_n 0, 1) := by decide +kernel
theorem dX8_latestPlace_1 : decode cX8_latestPlace 1 = .ok (.iload_n 1, 1) := by decide +kernel
theorem dX8_latestPlace_2 : decode cX8_latestPlace 2 = .ok (.invokevirtual 55, 3) := by decide +kernel
theorem dX8_latestPlace_5 : decode cX8_latestPlace 5 = .ok (.iconst 2, 1) := by decide +kernel
theorem dX8_latestPlace_6 : decode cX8_latestPlace 6 = .ok (.idiv, 1) := by decide +kernel
theorem dX8_latestPlace_7 : decode cX8_latestPlace 7 = .ok (.sipush 256, 3) := by decide +kernel
theorem dX8_latestPlace_10 : decode cX8_latestPlace 10 = .ok (.irem, 1) := by decide +kernel
theorem dX8_latestPlace_11 : decode cX8_latestPlace 11 = .ok (.ireturn, 1) := by decide +kernel
theorem dX8_latestByOld_0 : decode cX8_latestByOld 0 = .ok (.aload_n 0, 1) := by decide +kernel
theorem dX8_latestByOld_1 : decode cX8_latestByOld 1 = .ok (.iload_n 1, 1) := by decide +kernel
theorem dX8_latestByOld_2 : decode cX8_latestByOld 2 = .ok (.invokevirtual 55, 3) := by decide +kernel
theorem dX8_latestByOld_5 : decode cX8_latestByOld 5 = .ok (.iconst 2, 1) := by decide +kernel
theorem dX8_latestByOld_6 : decode cX8_latestByOld 6 = .ok (.irem, 1) := by decide +kernel
theorem dX8_latestByOld_7 : decode cX8_latestByOld 7 = .ok (.ireturn, 1) := by decide +kernel
theorem dX8_sum_0 : decode cX8_sum 0 = .ok (.iconst 0, 1) := by decide +kernel
theorem dX8_sum_1 : decode cX8_sum 1 = .ok (.istore_n 1, 1) := by decide +kernel
theorem dX8_sum_2 : decode cX8_sum 2 = .ok (.aload_n 0, 1) := by decide +kernel
theorem dX8_sum_3 : decode cX8_sum 3 = .ok (.astore_n 2, 1) := by decide +kernel
theorem dX8_sum_4 : decode cX8_sum 4 = .ok (.aload_n 2, 1) := by decide +kernel
theorem dX8_sum_5 : decode cX8_sum 5 = .ok (.arraylength, 1) := by decide +kernel
theorem dX8_sum_6 : decode cX8_sum 6 = .ok (.istore_n 3, 1) := by decide +kernel
theorem dX8_sum_7 : decode cX8_sum 7 = .ok (.iconst 0, 1) := by decide +kernel
theorem dX8_sum_8 : decode cX8_sum 8 = .ok (.istore 4, 2) := by decide +kernel
theorem dX8_sum_10 : decode cX8_sum 10 = .ok (.iload 4, 2) := by decide +kernel
theorem dX8_sum_12 : decode cX8_sum 12 = .ok (.iload_n 3, 1) := by decide +kernel
theorem dX8_sum_13 : decode cX8_sum 13 = .ok (.if_icmp .ge 20, 3) := by decide +kernel
theorem dX8_sum_16 : decode cX8_sum 16 = .ok (.aload_n 2, 1) := by decide +kernel
theorem dX8_sum_17 : decode cX8_sum 17 = .ok (.iload 4, 2) := by decide +kernel
theorem dX8_sum_19 : decode cX8_sum 19 = .ok (.iaload, 1) := by decide +kernel
theorem dX8_sum_20 : decode cX8_sum 20 = .ok (.istore 5, 2) := by decide +kernel
theorem dX8_sum_22 : decode cX8_sum 22 = .ok (.iload_n 1, 1) := by decide +kernel
theorem dX8_sum_23 : decode cX8_sum 23 = .ok (.iload 5, 2) := by decide +kernel
theorem dX8_sum_25 : decode cX8_sum 25 = .ok (.iadd, 1) := by decide +kernel
theorem dX8_sum_26 : decode cX8_sum 26 = .ok (.istore_n 1, 1) := by decide +kernel
theorem dX8_sum_27 : decode cX8_sum 27 = .ok (.iinc 4 1, 3) := by decide +kernel
theorem dX8_sum_30 : decode cX8_sum 30 = .ok (.goto (-20), 3) := by decide +kernel
theorem dX8_sum_33 : decode cX8_sum 33 = .ok (.iload_n 1, 1) := by decide +kernel
theorem dX8_sum_34 : decode cX8_sum 34 = .ok (.ireturn, 1) := by decide +kernel
