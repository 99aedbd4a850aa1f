theorem dX2_init_0 : decode cX2_init 0 = .ok (.aload_n 0, 1) := by decide +kernel
theorem dX2_init_1 : decode cX2_init 1 = .ok (.invokespecial 3, 3) := by decide +kernel
theorem dX2_init_4 : decode cX2_init 4 = .ok (.aload_n 0, 1) := by decide +kernel
theorem dX2_init_5 : decode cX2_init 5 = .ok (.bipush 16, 2) := by decide +kernel
theorem dX2_init_7 : decode cX2_init 7 = .ok (.anewarray 9, 3) := by decide +kernel
theorem dX2_init_10 : decode cX2_init 10 = .ok (.putfield 11, 3) := by decide +kernel
theorem dX2_init_13 : decode cX2_init 13 = .ok (.aload_n 0, 1) := by decide +kernel
theorem dX2_init_14 : decode cX2_init 14 = .ok (.new 9, 3) := by decide +kernel
theorem dX2_init_17 : decode cX2_init 17 = .ok (.dup, 1) := by decide +kernel
theorem dX2_init_18 : decode cX2_init 18 = .ok (.aload_n 1, 1) := by decide +kernel
theorem dX2_init_19 : decode cX2_init 19 = .ok (.invokespecial 17, 3) := by decide +kernel
theorem dX2_init_22 : decode cX2_init 22 = .ok (.putfield 20, 3) := by decide +kernel
theorem dX2_init_25 : decode cX2_init 25 = .ok (.aload_n 0, 1) := by decide +kernel
theorem dX2_init_26 : decode cX2_init 26 = .ok (.new 9, 3) := by decide +kernel
theorem dX2_init_29 : decode cX2_init 29 = .ok (.dup, 1) := by decide +kernel
theorem dX2_init_30 : decode cX2_init 30 = .ok (.aload_n 1, 1) := by decide +kernel
theorem dX2_init_31 : decode cX2_init 31 = .ok (.invokespecial 17, 3) := by decide +kernel
theorem dX2_init_34 : decode cX2_init 34 = .ok (.putfield 24, 3) := by decide +kernel
theorem dX2_init_37 : decode cX2_init 37 = .ok (.iconst 0, 1) := by decide +kernel
theorem dX2_init_38 : decode cX2_init 38 = .ok (.istore_n 2, 1) := by decide +kernel
theorem dX2_init_39 : decode cX2_init 39 = .ok (.iload_n 2, 1) := by decide +kernel
theorem dX2_init_40 : decode cX2_init 40 = .ok (.bipush 16, 2) := by decide +kernel
theorem dX2_init_42 : decode cX2_init 42 = .ok (.if_icmp .ge 23, 3) := by decide +kernel
theorem dX2_init_45 : decode cX2_init 45 = .ok (.aload_n 0, 1) := by decide +kernel
theorem dX2_init_46 : decode cX2_init 46 = .ok (.getfield 11, 3) := by decide +kernel
theorem dX2_init_49 : decode cX2_init 49 = .ok (.iload_n 2, 1) := by decide +kernel
theorem dX2_init_50 : decode cX2_init 50 = .ok (.new 9, 3) := by decide +kernel
theorem dX2_init_53 : decode cX2_init 53 = .ok (.dup, 1) := by decide +kernel
theorem dX2_init_54 : decode cX2_init 54 = .ok (.aload_n 1, 1) := by decide +kernel
theorem dX2_init_55 : decode cX2_init 55 = .ok (.invokespecial 17, 3) := by decide +kernel
theorem dX2_init_58 : decode cX2_init 58 = .ok (.aastore, 1) := by decide +kernel
theorem dX2_init_59 : decode cX2_init 59 = .ok (.iinc 2 1, 3) := by decide +kernel
theorem dX2_init_62 : decode cX2_init 62 = .ok (.goto (-23), 3) := by decide +kernel
theorem dX2_init_65 : decode cX2_init 65 = .ok (.return_, 1) := by decide +kernel
theorem dX2_draft_0 : decode cX2_draft 0 = .ok (.aload_n 0, 1) := by decide +kernel
theorem dX2_draft_1 : decode cX2_draft 1 = .ok (.getfield 24, 3) := by decide +kernel
theorem dX2_draft_4 : decode cX2_draft 4 = .ok (.aload_n 0, 1) := by decide +kernel
theorem dX2_draft_5 : decode cX2_draft 5 = .ok (.getfield 20, 3) := by decide +kernel
theorem dX2_draft_8 : decode cX2_draft 8 = .ok (.invokevirtual 27, 3) := by decide +kernel
theorem dX2_draft_11 : decode cX2_draft 11 = .ok (.aload_n 0, 1) := by decide +kernel
theorem dX2_draft_12 : decode cX2_draft 12 = .ok (.getfield 24, 3) := by decide +kernel
theorem dX2_draft_15 : decode cX2_draft 15 = .ok (.areturn, 1) := by decide +kernel
theorem dX2_keep_0 : decode cX2_keep 0 = .ok (.aload_n 0, 1) := by decide +kernel
theorem dX2_keep_1 : decode cX2_keep 1 = .ok (.getfield 31, 3) := by decide +kernel
theorem dX2_keep_4 : decode cX2_keep 4 = .ok (.bipush 16, 2) := by decide +kernel
theorem dX2_keep_6 : decode cX2_keep 6 = .ok (.if_icmp .ne 26, 3) := by decide +kernel
theorem dX2_keep_9 : decode cX2_keep 9 = .ok (.aload_n 0, 1) := by decide +kernel
theorem dX2_keep_10 : decode cX2_keep 10 = .ok (.aload_n 0, 1) := by decide +kernel
theorem dX2_keep_11 : decode cX2_keep 11 = .ok (.getfield 35, 3) := by decide +kernel
theorem dX2_keep_14 : decode cX2_keep 14 = .ok (.iconst 1, 1) := by decide +kernel
theorem dX2_keep_15 : decode cX2_keep 15 = .ok (.iadd, 1) := by decide +kernel
theorem dX2_keep_16 : decode cX2_keep 16 = .ok (.bipush 16, 2) := by decide +kernel
theorem dX2_keep_18 : decode cX2_keep 18 = .ok (.irem, 1) := by decide +kernel
theorem dX2_keep_19 : decode cX2_keep 19 = .ok (.putfield 35, 3) := by decide +kernel
theorem dX2_keep_22 : decode cX2_keep 22 = .ok (.aload_n 0, 1) := by decide +kernel
theorem dX2_keep_23 : decode cX2_keep 23 = .ok (.dup, 1) := by decide +kernel
theorem dX2_keep_24 : decode cX2_keep 24 = .ok (.getfield 31, 3) := by decide +kernel
theorem dX2_keep_27 : decode cX2_keep 27 = .ok (.iconst 1, 1) := by decide +kernel
theorem dX2_keep_28 : decode cX2_keep 28 = .ok (.isub, 1) := by decide +kernel
theorem dX2_keep_29 : decode cX2_keep 29 = .ok (.putfield 31, 3) := by decide +kernel
theorem dX2_keep_32 : decode cX2_keep 32 = .ok (.aload_n 0, 1) := by decide +kernel
theorem dX2_keep_33 : decode cX2_keep 33 = .ok (.getfield 35, 3) := by decide +kernel
theorem dX2_keep_36 : decode cX2_keep 36 = .ok (.aload_n 0, 1) := by decide +kernel
theorem dX2_keep_37 : decode cX2_keep 37 = .ok (.getfield 31, 3) := by decide +kernel
theorem dX2_keep_40 : decode cX2_keep 40 = .ok (.iadd, 1) := by decide +kernel
theorem dX2_keep_41 : decode cX2_keep 41 = .ok (.bipush 16, 2) := by decide +kernel
theorem dX2_keep_43 : decode cX2_keep 43 = .ok (.irem, 1) := by decide +kernel
theorem dX2_keep_44 : decode cX2_keep 44 = .ok (.istore_n 1, 1) := by decide +kernel
theorem dX2_keep_45 : decode cX2_keep 45 = .ok (.aload_n 0, 1) := by decide +kernel
theorem dX2_keep_46 : decode cX2_keep 46 = .ok (.getfield 11, 3) := by decide +kernel
theorem dX2_keep_49 : decode cX2_keep 49 = .ok (.iload_n 1, 1) := by decide +kernel
theorem dX2_keep_50 : decode cX2_keep 50 = .ok (.aaload, 1) := by decide +kernel
theorem dX2_keep_51 : decode cX2_keep 51 = .ok (.astore_n 2, 1) := by decide +kernel
theorem dX2_keep_52 : decode cX2_keep 52 = .ok (.aload_n 0, 1) := by decide +kernel
theorem dX2_keep_53 : decode cX2_keep 53 = .ok (.getfield 11, 3) := by decide +kernel
theorem dX2_keep_56 : decode cX2_keep 56 = .ok (.iload_n 1, 1) := by decide +kernel
theorem dX2_keep_57 : decode cX2_keep 57 = .ok (.aload_n 0, 1) := by decide +kernel
theorem dX2_keep_58 : decode cX2_keep 58 = .ok (.getfield 20, 3) := by decide +kernel
theorem dX2_keep_61 : decode cX2_keep 61 = .ok (.aastore, 1) := by decide +kernel
theorem dX2_keep_62 : decode cX2_keep 62 = .ok (.aload_n 0, 1) := by decide +kernel
theorem dX2_keep_63 : decode cX2_keep 63 = .ok (.aload_n 0, 1) := by decide +kernel
theorem dX2_keep_64 : decode cX2_keep 64 = .ok (.getfield 24, 3) := by decide +kernel
theorem dX2_keep_67 : decode cX2_keep 67 = .ok (.putfield 20, 3) := by decide +kernel
theorem dX2_keep_70 : decode cX2_keep 70 = .ok (.aload_n 0, 1) := by decide +kernel
theorem dX2_keep_71 : decode cX2_keep 71 = .ok (.aload_n 2, 1) := by decide +kernel
theorem dX2_keep_72 : decode cX2_keep 72 = .ok (.putfield 24, 3) := by decide +kernel
theorem dX2_keep_75 : decode cX2_keep 75 = .ok (.aload_n 0, 1) := by decide +kernel
theorem dX2_keep_76 : decode cX2_keep 76 = .ok (.dup, 1) := by decide +kernel
theorem dX2_keep_77 : decode cX2_keep 77 = .ok (.getfield 31, 3) := by decide +kernel
theorem dX2_keep_80 : decode cX2_keep 80 = .ok (.iconst 1, 1) := by decide +kernel
theorem dX2_keep_81 : decode cX2_keep 81 = .ok (.iadd, 1) := by decide +kernel
theorem dX2_keep_82 : decode cX2_keep 82 = .ok (.putfield 31, 3) := by decide +kernel
theorem dX2_keep_85 : decode cX2_keep 85 = .ok (.aload_n 0, 1) := by decide +kernel
theorem dX2_keep_86 : decode cX2_keep 86 = .ok (.iconst 0, 1) := by decide +kernel
theorem dX2_keep_87 : decode cX2_keep 87 = .ok (.putfield 38, 3) := by decide +kernel
theorem dX2_keep_90 : decode cX2_keep 90 = .ok (.return_, 1) := by decide +kernel
theorem dX2_takeBack_0 : decode cX2_takeBack 0 = .ok (.aload_n 0, 1) := by decide +kernel
theorem dX2_takeBack_1 : decode cX2_takeBack 1 = .ok (.getfield 31, 3) := by decide +kernel
theorem dX2_takeBack_4 : decode cX2_takeBack 4 = .ok (.ifCond .ne 5, 3) := by decide +kernel
theorem dX2_takeBack_7 : decode cX2_takeBack 7 = .ok (.iconst 0, 1) := by decide +kernel
theorem dX2_takeBack_8 : decode cX2_takeBack 8 = .ok (.ireturn, 1) := by decide +kernel
theorem dX2_takeBack_9 : decode cX2_takeBack 9 = .ok (.aload_n 0, 1) := by decide +kernel
theorem dX2_takeBack_10 : decode cX2_takeBack 10 = .ok (.dup, 1) := by decide +kernel
theorem dX2_takeBack_11 : decode cX2_takeBack 11 = .ok (.getfield 31, 3) := by decide +kernel
theorem dX2_takeBack_14 : decode cX2_takeBack 14 = .ok (.iconst 1, 1) := by decide +kernel
theorem dX2_takeBack_15 : decode cX2_takeBack 15 = .ok (.isub, 1) := by decide +kernel
theorem dX2_takeBack_16 : decode cX2_takeBack 16 = .ok (.putfield 31, 3) := by decide +kernel
theorem dX2_takeBack_19 : decode cX2_takeBack 19 = .ok (.aload_n 0, 1) := by decide +kernel
theorem dX2_takeBack_20 : decode cX2_takeBack 20 = .ok (.dup, 1) := by decide +kernel
theorem dX2_takeBack_21 : decode cX2_takeBack 21 = .ok (.getfield 38, 3) := by decide +kernel
theorem dX2_takeBack_24 : decode cX2_takeBack 24 = .ok (.iconst 1, 1) := by decide +kernel
theorem dX2_takeBack_25 : decode cX2_takeBack 25 = .ok (.iadd, 1) := by decide +kernel
theorem dX2_takeBack_26 : decode cX2_takeBack 26 = .ok (.putfield 38, 3) := by decide +kernel
theorem dX2_takeBack_29 : decode cX2_takeBack 29 = .ok (.aload_n 0, 1) := by decide +kernel
theorem dX2_takeBack_30 : decode cX2_takeBack 30 = .ok (.aload_n 0, 1) := by decide +kernel
theorem dX2_takeBack_31 : decode cX2_takeBack 31 = .ok (.getfield 35, 3) := by decide +kernel
theorem dX2_takeBack_34 : decode cX2_takeBack 34 = .ok (.aload_n 0, 1) := by decide +kernel
theorem dX2_takeBack_35 : decode cX2_takeBack 35 = .ok (.getfield 31, 3) := by decide +kernel
theorem dX2_takeBack_38 : decode cX2_takeBack 38 = .ok (.iadd, 1) := by decide +kernel
theorem dX2_takeBack_39 : decode cX2_takeBack 39 = .ok (.bipush 16, 2) := by decide +kernel
theorem dX2_takeBack_41 : decode cX2_takeBack 41 = .ok (.irem, 1) := by decide +kernel
theorem dX2_takeBack_42 : decode cX2_takeBack 42 = .ok (.invokevirtual 41, 3) := by decide +kernel
theorem dX2_takeBack_45 : decode cX2_takeBack 45 = .ok (.iconst 1, 1) := by decide +kernel
theorem dX2_takeBack_46 : decode cX2_takeBack 46 = .ok (.ireturn, 1) := by decide +kernel
theorem dX2_doAgain_0 : decode cX2_doAgain 0 = .ok (.aload_n 0, 1) := by decide +kernel
theorem dX2_doAgain_1 : decode cX2_doAgain 1 = .ok (.getfield 38, 3) := by decide +kernel
theorem dX2_doAgain_4 : decode cX2_doAgain 4 = .ok (.ifCond .ne 5, 3) := by decide +kernel
theorem dX2_doAgain_7 : decode cX2_doAgain 7 = .ok (.iconst 0, 1) := by decide +kernel
theorem dX2_doAgain_8 : decode cX2_doAgain 8 = .ok (.ireturn, 1) := by decide +kernel
theorem dX2_doAgain_9 : decode cX2_doAgain 9 = .ok (.aload_n 0, 1) := by decide +kernel
theorem dX2_doAgain_10 : decode cX2_doAgain 10 = .ok (.aload_n 0, 1) := by decide +kernel
theorem dX2_doAgain_11 : decode cX2_doAgain 11 = .ok (.getfield 35, 3) := by decide +kernel
theorem dX2_doAgain_14 : decode cX2_doAgain 14 = .ok (.aload_n 0, 1) := by decide +kernel
theorem dX2_doAgain_15 : decode cX2_doAgain 15 = .ok (.getfield 31, 3) := by decide +kernel
theorem dX2_doAgain_18 : decode cX2_doAgain 18 = .ok (.iadd, 1) := by decide +kernel
theorem dX2_doAgain_19 : decode cX2_doAgain 19 = .ok (.bipush 16, 2) := by decide +kernel
theorem dX2_doAgain_21 : decode cX2_doAgain 21 = .ok (.irem, 1) := by decide +kernel
theorem dX2_doAgain_22 : decode cX2_doAgain 22 = .ok (.invokevirtual 41, 3) := by decide +kernel
theorem dX2_doAgain_25 : decode cX2_doAgain 25 = .ok (.aload_n 0, 1) := by decide +kernel
theorem dX2_doAgain_26 : decode cX2_doAgain 26 = .ok (.dup, 1) := by decide +kernel
theorem dX2_doAgain_27 : decode cX2_doAgain 27 = .ok (.getfield 31, 3) := by decide +kernel
theorem dX2_doAgain_30 : decode cX2_doAgain 30 = .ok (.iconst 1, 1) := by decide +kernel
theorem dX2_doAgain_31 : decode cX2_doAgain 31 = .ok (.iadd, 1) := by decide +kernel
theorem dX2_doAgain_32 : decode cX2_doAgain 32 = .ok (.putfield 31, 3) := by decide +kernel
theorem dX2_doAgain_35 : decode cX2_doAgain 35 = .ok (.aload_n 0, 1) := by decide +kernel
theorem dX2_doAgain_36 : decode cX2_doAgain 36 = .ok (.dup, 1) := by decide +kernel
theorem dX2_doAgain_37 : decode cX2_doAgain 37 = .ok (.getfield 38, 3) := by decide +kernel
theorem dX2_doAgain_40 : decode cX2_doAgain 40 = .ok (.iconst 1, 1) := by decide +kernel
theorem dX2_doAgain_41 : decode cX2_doAgain 41 = .ok (.isub, 1) := by decide +kernel
theorem dX2_doAgain_42 : decode cX2_doAgain 42 = .ok (.putfield 38, 3) := by decide +kernel
theorem dX2_doAgain_45 : decode cX2_doAgain 45 = .ok (.iconst 1, 1) := by decide +kernel
theorem dX2_doAgain_46 : decode cX2_doAgain 46 = .ok (.ireturn, 1) := by decide +kernel
theorem dX2_exchange_0 : decode cX2_exchange 0 = .ok (.aload_n 0, 1) := by decide +kernel
theorem dX2_exchange_1 : decode cX2_exchange 1 = .ok (.getfield 11, 3) := by decide +kernel
theorem dX2_exchange_4 : decode cX2_exchange 4 = .ok (.iload_n 1, 1) := by decide +kernel
theorem dX2_exchange_5 : decode cX2_exchange 5 = .ok (.aaload, 1) := by decide +kernel
theorem dX2_exchange_6 : decode cX2_exchange 6 = .ok (.astore_n 2, 1) := by decide +kernel
theorem dX2_exchange_7 : decode cX2_exchange 7 = .ok (.aload_n 0, 1) := by decide +kernel
theorem dX2_exchange_8 : decode cX2_exchange 8 = .ok (.getfield 11, 3) := by decide +kernel
theorem dX2_exchange_11 : decode cX2_exchange 11 = .ok (.iload_n 1, 1) := by decide +kernel
theorem dX2_exchange_12 : decode cX2_exchange 12 = .ok (.aload_n 0, 1) := by decide +kernel
theorem dX2_exchange_13 : decode cX2_exchange 13 = .ok (.getfield 20, 3) := by decide +kernel
theorem dX2_exchange_16 : decode cX2_exchange 16 = .ok (.aastore, 1) := by decide +kernel
theorem dX2_exchange_17 : decode cX2_exchange 17 = .ok (.aload_n 0, 1) := by decide +kernel
theorem dX2_exchange_18 : decode cX2_exchange 18 = .ok (.aload_n 2, 1) := by decide +kernel
theorem dX2_exchange_19 : decode cX2_exchange 19 = .ok (.putfield 20, 3) := by decide +kernel
theorem dX2_exchange_22 : decode cX2_exchange 22 = .ok (.return_, 1) := by decide +kernel
theorem dX2_forget_0 : decode cX2_forget 0 = .ok (.aload_n 0, 1) := by decide +kernel
theorem dX2_forget_1 : decode cX2_forget 1 = .ok (.iconst 0, 1) := by decide +kernel
theorem dX2_forget_2 : decode cX2_forget 2 = .ok (.putfield 31, 3) := by decide +kernel
theorem dX2_forget_5 : decode cX2_forget 5 = .ok (.aload_n 0, 1) := by decide +kernel
theorem dX2_forget_6 : decode cX2_forget 6 = .ok (.iconst 0, 1) := by decide +kernel
theorem dX2_forget_7 : decode cX2_forget 7 = .ok (.putfield 38, 3) := by decide +kernel
theorem dX2_forget_10 : decode cX2_forget 10 = .ok (.return_, 1) := by decide +kernel
