theorem dX5_init_0 : decode cX5_init 0 = .ok (.aload_n 0, 1) := by decide +kernel
theorem dX5_init_1 : decode cX5_init 1 = .ok (.invokespecial 3, 3) := by decide +kernel
theorem dX5_init_4 : decode cX5_init 4 = .ok (.aload_n 0, 1) := by decide +kernel
theorem dX5_init_5 : decode cX5_init 5 = .ok (.new 9, 3) := by decide +kernel
theorem dX5_init_8 : decode cX5_init 8 = .ok (.dup, 1) := by decide +kernel
theorem dX5_init_9 : decode cX5_init 9 = .ok (.invokespecial 11, 3) := by decide +kernel
theorem dX5_init_12 : decode cX5_init 12 = .ok (.putfield 12, 3) := by decide +kernel
theorem dX5_init_15 : decode cX5_init 15 = .ok (.aload_n 0, 1) := by decide +kernel
theorem dX5_init_16 : decode cX5_init 16 = .ok (.bipush 80, 2) := by decide +kernel
theorem dX5_init_18 : decode cX5_init 18 = .ok (.newarray .int, 2) := by decide +kernel
theorem dX5_init_20 : decode cX5_init 20 = .ok (.putfield 18, 3) := by decide +kernel
theorem dX5_init_23 : decode cX5_init 23 = .ok (.aload_n 0, 1) := by decide +kernel
theorem dX5_init_24 : decode cX5_init 24 = .ok (.bipush 80, 2) := by decide +kernel
theorem dX5_init_26 : decode cX5_init 26 = .ok (.newarray .int, 2) := by decide +kernel
theorem dX5_init_28 : decode cX5_init 28 = .ok (.putfield 22, 3) := by decide +kernel
theorem dX5_init_31 : decode cX5_init 31 = .ok (.aload_n 0, 1) := by decide +kernel
theorem dX5_init_32 : decode cX5_init 32 = .ok (.bipush 80, 2) := by decide +kernel
theorem dX5_init_34 : decode cX5_init 34 = .ok (.newarray .boolean, 2) := by decide +kernel
theorem dX5_init_36 : decode cX5_init 36 = .ok (.putfield 25, 3) := by decide +kernel
theorem dX5_init_39 : decode cX5_init 39 = .ok (.aload_n 0, 1) := by decide +kernel
theorem dX5_init_40 : decode cX5_init 40 = .ok (.bipush 80, 2) := by decide +kernel
theorem dX5_init_42 : decode cX5_init 42 = .ok (.newarray .boolean, 2) := by decide +kernel
theorem dX5_init_44 : decode cX5_init 44 = .ok (.putfield 29, 3) := by decide +kernel
theorem dX5_init_47 : decode cX5_init 47 = .ok (.aload_n 0, 1) := by decide +kernel
theorem dX5_init_48 : decode cX5_init 48 = .ok (.aload_n 1, 1) := by decide +kernel
theorem dX5_init_49 : decode cX5_init 49 = .ok (.putfield 32, 3) := by decide +kernel
theorem dX5_init_52 : decode cX5_init 52 = .ok (.aload_n 0, 1) := by decide +kernel
theorem dX5_init_53 : decode cX5_init 53 = .ok (.new 36, 3) := by decide +kernel
theorem dX5_init_56 : decode cX5_init 56 = .ok (.dup, 1) := by decide +kernel
theorem dX5_init_57 : decode cX5_init 57 = .ok (.aload_n 1, 1) := by decide +kernel
theorem dX5_init_58 : decode cX5_init 58 = .ok (.invokespecial 38, 3) := by decide +kernel
theorem dX5_init_61 : decode cX5_init 61 = .ok (.putfield 41, 3) := by decide +kernel
theorem dX5_init_64 : decode cX5_init 64 = .ok (.aload_n 0, 1) := by decide +kernel
theorem dX5_init_65 : decode cX5_init 65 = .ok (.invokevirtual 45, 3) := by decide +kernel
theorem dX5_init_68 : decode cX5_init 68 = .ok (.return_, 1) := by decide +kernel
theorem dX5_empty_0 : decode cX5_empty 0 = .ok (.aload_n 0, 1) := by decide +kernel
theorem dX5_empty_1 : decode cX5_empty 1 = .ok (.getfield 41, 3) := by decide +kernel
theorem dX5_empty_4 : decode cX5_empty 4 = .ok (.invokevirtual 48, 3) := by decide +kernel
theorem dX5_empty_7 : decode cX5_empty 7 = .ok (.aload_n 0, 1) := by decide +kernel
theorem dX5_empty_8 : decode cX5_empty 8 = .ok (.getfield 12, 3) := by decide +kernel
theorem dX5_empty_11 : decode cX5_empty 11 = .ok (.invokevirtual 49, 3) := by decide +kernel
theorem dX5_empty_14 : decode cX5_empty 14 = .ok (.aload_n 0, 1) := by decide +kernel
theorem dX5_empty_15 : decode cX5_empty 15 = .ok (.iconst 0, 1) := by decide +kernel
theorem dX5_empty_16 : decode cX5_empty 16 = .ok (.putfield 50, 3) := by decide +kernel
theorem dX5_empty_19 : decode cX5_empty 19 = .ok (.aload_n 0, 1) := by decide +kernel
theorem dX5_empty_20 : decode cX5_empty 20 = .ok (.iconst 0, 1) := by decide +kernel
theorem dX5_empty_21 : decode cX5_empty 21 = .ok (.putfield 54, 3) := by decide +kernel
theorem dX5_empty_24 : decode cX5_empty 24 = .ok (.iconst 0, 1) := by decide +kernel
theorem dX5_empty_25 : decode cX5_empty 25 = .ok (.istore_n 1, 1) := by decide +kernel
theorem dX5_empty_26 : decode cX5_empty 26 = .ok (.iload_n 1, 1) := by decide +kernel
theorem dX5_empty_27 : decode cX5_empty 27 = .ok (.bipush 80, 2) := by decide +kernel
theorem dX5_empty_29 : decode cX5_empty 29 = .ok (.if_icmp .ge 15, 3) := by decide +kernel
theorem dX5_empty_32 : decode cX5_empty 32 = .ok (.aload_n 0, 1) := by decide +kernel
theorem dX5_empty_33 : decode cX5_empty 33 = .ok (.iload_n 1, 1) := by decide +kernel
theorem dX5_empty_34 : decode cX5_empty 34 = .ok (.invokevirtual 57, 3) := by decide +kernel
theorem dX5_empty_37 : decode cX5_empty 37 = .ok (.pop, 1) := by decide +kernel
theorem dX5_empty_38 : decode cX5_empty 38 = .ok (.iinc 1 1, 3) := by decide +kernel
theorem dX5_empty_41 : decode cX5_empty 41 = .ok (.goto (-15), 3) := by decide +kernel
theorem dX5_empty_44 : decode cX5_empty 44 = .ok (.return_, 1) := by decide +kernel
theorem dX5_copyFrom_0 : decode cX5_copyFrom 0 = .ok (.aload_n 0, 1) := by decide +kernel
theorem dX5_copyFrom_1 : decode cX5_copyFrom 1 = .ok (.getfield 41, 3) := by decide +kernel
theorem dX5_copyFrom_4 : decode cX5_copyFrom 4 = .ok (.aload_n 1, 1) := by decide +kernel
theorem dX5_copyFrom_5 : decode cX5_copyFrom 5 = .ok (.getfield 41, 3) := by decide +kernel
theorem dX5_copyFrom_8 : decode cX5_copyFrom 8 = .ok (.invokevirtual 61, 3) := by decide +kernel
theorem dX5_copyFrom_11 : decode cX5_copyFrom 11 = .ok (.aload_n 0, 1) := by decide +kernel
theorem dX5_copyFrom_12 : decode cX5_copyFrom 12 = .ok (.getfield 12, 3) := by decide +kernel
theorem dX5_copyFrom_15 : decode cX5_copyFrom 15 = .ok (.aload_n 1, 1) := by decide +kernel
theorem dX5_copyFrom_16 : decode cX5_copyFrom 16 = .ok (.getfield 12, 3) := by decide +kernel
theorem dX5_copyFrom_19 : decode cX5_copyFrom 19 = .ok (.invokevirtual 65, 3) := by decide +kernel
theorem dX5_copyFrom_22 : decode cX5_copyFrom 22 = .ok (.aload_n 0, 1) := by decide +kernel
theorem dX5_copyFrom_23 : decode cX5_copyFrom 23 = .ok (.aload_n 1, 1) := by decide +kernel
theorem dX5_copyFrom_24 : decode cX5_copyFrom 24 = .ok (.getfield 50, 3) := by decide +kernel
theorem dX5_copyFrom_27 : decode cX5_copyFrom 27 = .ok (.putfield 50, 3) := by decide +kernel
theorem dX5_copyFrom_30 : decode cX5_copyFrom 30 = .ok (.aload_n 0, 1) := by decide +kernel
theorem dX5_copyFrom_31 : decode cX5_copyFrom 31 = .ok (.aload_n 1, 1) := by decide +kernel
theorem dX5_copyFrom_32 : decode cX5_copyFrom 32 = .ok (.getfield 54, 3) := by decide +kernel
theorem dX5_copyFrom_35 : decode cX5_copyFrom 35 = .ok (.putfield 54, 3) := by decide +kernel
theorem dX5_copyFrom_38 : decode cX5_copyFrom 38 = .ok (.aload_n 1, 1) := by decide +kernel
theorem dX5_copyFrom_39 : decode cX5_copyFrom 39 = .ok (.getfield 18, 3) := by decide +kernel
theorem dX5_copyFrom_42 : decode cX5_copyFrom 42 = .ok (.iconst 0, 1) := by decide +kernel
theorem dX5_copyFrom_43 : decode cX5_copyFrom 43 = .ok (.aload_n 0, 1) := by decide +kernel
theorem dX5_copyFrom_44 : decode cX5_copyFrom 44 = .ok (.getfield 18, 3) := by decide +kernel
theorem dX5_copyFrom_47 : decode cX5_copyFrom 47 = .ok (.iconst 0, 1) := by decide +kernel
theorem dX5_copyFrom_48 : decode cX5_copyFrom 48 = .ok (.bipush 80, 2) := by decide +kernel
theorem dX5_copyFrom_50 : decode cX5_copyFrom 50 = .ok (.invokestatic 68, 3) := by decide +kernel
theorem dX5_copyFrom_53 : decode cX5_copyFrom 53 = .ok (.aload_n 1, 1) := by decide +kernel
theorem dX5_copyFrom_54 : decode cX5_copyFrom 54 = .ok (.getfield 22, 3) := by decide +kernel
theorem dX5_copyFrom_57 : decode cX5_copyFrom 57 = .ok (.iconst 0, 1) := by decide +kernel
theorem dX5_copyFrom_58 : decode cX5_copyFrom 58 = .ok (.aload_n 0, 1) := by decide +kernel
theorem dX5_copyFrom_59 : decode cX5_copyFrom 59 = .ok (.getfield 22, 3) := by decide +kernel
theorem dX5_copyFrom_62 : decode cX5_copyFrom 62 = .ok (.iconst 0, 1) := by decide +kernel
theorem dX5_copyFrom_63 : decode cX5_copyFrom 63 = .ok (.bipush 80, 2) := by decide +kernel
theorem dX5_copyFrom_65 : decode cX5_copyFrom 65 = .ok (.invokestatic 68, 3) := by decide +kernel
theorem dX5_copyFrom_68 : decode cX5_copyFrom 68 = .ok (.iconst 0, 1) := by decide +kernel
theorem dX5_copyFrom_69 : decode cX5_copyFrom 69 = .ok (.istore_n 2, 1) := by decide +kernel
theorem dX5_copyFrom_70 : decode cX5_copyFrom 70 = .ok (.iload_n 2, 1) := by decide +kernel
theorem dX5_copyFrom_71 : decode cX5_copyFrom 71 = .ok (.bipush 80, 2) := by decide +kernel
theorem dX5_copyFrom_73 : decode cX5_copyFrom 73 = .ok (.if_icmp .ge 33, 3) := by decide +kernel
theorem dX5_copyFrom_76 : decode cX5_copyFrom 76 = .ok (.aload_n 0, 1) := by decide +kernel
theorem dX5_copyFrom_77 : decode cX5_copyFrom 77 = .ok (.getfield 25, 3) := by decide +kernel
theorem dX5_copyFrom_80 : decode cX5_copyFrom 80 = .ok (.iload_n 2, 1) := by decide +kernel
theorem dX5_copyFrom_81 : decode cX5_copyFrom 81 = .ok (.aload_n 1, 1) := by decide +kernel
theorem dX5_copyFrom_82 : decode cX5_copyFrom 82 = .ok (.getfield 25, 3) := by decide +kernel
theorem dX5_copyFrom_85 : decode cX5_copyFrom 85 = .ok (.iload_n 2, 1) := by decide +kernel
theorem dX5_copyFrom_86 : decode cX5_copyFrom 86 = .ok (.baload, 1) := by decide +kernel
theorem dX5_copyFrom_87 : decode cX5_copyFrom 87 = .ok (.bastore, 1) := by decide +kernel
theorem dX5_copyFrom_88 : decode cX5_copyFrom 88 = .ok (.aload_n 0, 1) := by decide +kernel
theorem dX5_copyFrom_89 : decode cX5_copyFrom 89 = .ok (.getfield 29, 3) := by decide +kernel
theorem dX5_copyFrom_92 : decode cX5_copyFrom 92 = .ok (.iload_n 2, 1) := by decide +kernel
theorem dX5_copyFrom_93 : decode cX5_copyFrom 93 = .ok (.aload_n 1, 1) := by decide +kernel
theorem dX5_copyFrom_94 : decode cX5_copyFrom 94 = .ok (.getfield 29, 3) := by decide +kernel
theorem dX5_copyFrom_97 : decode cX5_copyFrom 97 = .ok (.iload_n 2, 1) := by decide +kernel
theorem dX5_copyFrom_98 : decode cX5_copyFrom 98 = .ok (.baload, 1) := by decide +kernel
theorem dX5_copyFrom_99 : decode cX5_copyFrom 99 = .ok (.bastore, 1) := by decide +kernel
theorem dX5_copyFrom_100 : decode cX5_copyFrom 100 = .ok (.iinc 2 1, 3) := by decide +kernel
theorem dX5_copyFrom_103 : decode cX5_copyFrom 103 = .ok (.goto (-33), 3) := by decide +kernel
theorem dX5_copyFrom_106 : decode cX5_copyFrom 106 = .ok (.return_, 1) := by decide +kernel
theorem dX5_isStarted_0 : decode cX5_isStarted 0 = .ok (.aload_n 0, 1) := by decide +kernel
theorem dX5_isStarted_1 : decode cX5_isStarted 1 = .ok (.getfield 50, 3) := by decide +kernel
theorem dX5_isStarted_4 : decode cX5_isStarted 4 = .ok (.iload_n 1, 1) := by decide +kernel
theorem dX5_isStarted_5 : decode cX5_isStarted 5 = .ok (.iushr, 1) := by decide +kernel
theorem dX5_isStarted_6 : decode cX5_isStarted 6 = .ok (.iconst 1, 1) := by decide +kernel
theorem dX5_isStarted_7 : decode cX5_isStarted 7 = .ok (.iand, 1) := by decide +kernel
theorem dX5_isStarted_8 : decode cX5_isStarted 8 = .ok (.iconst 1, 1) := by decide +kernel
theorem dX5_isStarted_9 : decode cX5_isStarted 9 = .ok (.if_icmp .ne 7, 3) := by decide +kernel
theorem dX5_isStarted_12 : decode cX5_isStarted 12 = .ok (.iconst 1, 1) := by decide +kernel
theorem dX5_isStarted_13 : decode cX5_isStarted 13 = .ok (.goto 4, 3) := by decide +kernel
theorem dX5_isStarted_16 : decode cX5_isStarted 16 = .ok (.iconst 0, 1) := by decide +kernel
theorem dX5_isStarted_17 : decode cX5_isStarted 17 = .ok (.ireturn, 1) := by decide +kernel
theorem dX5_isPromised_0 : decode cX5_isPromised 0 = .ok (.aload_n 0, 1) := by decide +kernel
theorem dX5_isPromised_1 : decode cX5_isPromised 1 = .ok (.getfield 54, 3) := by decide +kernel
theorem dX5_isPromised_4 : decode cX5_isPromised 4 = .ok (.iload_n 1, 1) := by decide +kernel
theorem dX5_isPromised_5 : decode cX5_isPromised 5 = .ok (.iushr, 1) := by decide +kernel
theorem dX5_isPromised_6 : decode cX5_isPromised 6 = .ok (.iconst 1, 1) := by decide +kernel
theorem dX5_isPromised_7 : decode cX5_isPromised 7 = .ok (.iand, 1) := by decide +kernel
theorem dX5_isPromised_8 : decode cX5_isPromised 8 = .ok (.iconst 1, 1) := by decide +kernel
theorem dX5_isPromised_9 : decode cX5_isPromised 9 = .ok (.if_icmp .ne 7, 3) := by decide +kernel
theorem dX5_isPromised_12 : decode cX5_isPromised 12 = .ok (.iconst 1, 1) := by decide +kernel
theorem dX5_isPromised_13 : decode cX5_isPromised 13 = .ok (.goto 4, 3) := by decide +kernel
theorem dX5_isPromised_16 : decode cX5_isPromised 16 = .ok (.iconst 0, 1) := by decide +kernel
theorem dX5_isPromised_17 : decode cX5_isPromised 17 = .ok (.ireturn, 1) := by decide +kernel
theorem dX5_isManaged_0 : decode cX5_isManaged 0 = .ok (.aload_n 0, 1) := by decide +kernel
theorem dX5_isManaged_1 : decode cX5_isManaged 1 = .ok (.getfield 32, 3) := by decide +kernel
theorem dX5_isManaged_4 : decode cX5_isManaged 4 = .ok (.getfield 74, 3) := by decide +kernel
theorem dX5_isManaged_7 : decode cX5_isManaged 7 = .ok (.iload_n 1, 1) := by decide +kernel
theorem dX5_isManaged_8 : decode cX5_isManaged 8 = .ok (.iaload, 1) := by decide +kernel
theorem dX5_isManaged_9 : decode cX5_isManaged 9 = .ok (.iconst 3, 1) := by decide +kernel
theorem dX5_isManaged_10 : decode cX5_isManaged 10 = .ok (.if_icmp .ne 7, 3) := by decide +kernel
theorem dX5_isManaged_13 : decode cX5_isManaged 13 = .ok (.iconst 1, 1) := by decide +kernel
theorem dX5_isManaged_14 : decode cX5_isManaged 14 = .ok (.goto 4, 3) := by decide +kernel
theorem dX5_isManaged_17 : decode cX5_isManaged 17 = .ok (.iconst 0, 1) := by decide +kernel
theorem dX5_isManaged_18 : decode cX5_isManaged 18 = .ok (.ireturn, 1) := by decide +kernel
theorem dX5_promisedVectors_0 : decode cX5_promisedVectors 0 = .ok (.iconst 0, 1) := by decide +kernel
theorem dX5_promisedVectors_1 : decode cX5_promisedVectors 1 = .ok (.istore_n 1, 1) := by decide +kernel
theorem dX5_promisedVectors_2 : decode cX5_promisedVectors 2 = .ok (.iconst 0, 1) := by decide +kernel
theorem dX5_promisedVectors_3 : decode cX5_promisedVectors 3 = .ok (.istore_n 2, 1) := by decide +kernel
theorem dX5_promisedVectors_4 : decode cX5_promisedVectors 4 = .ok (.iload_n 2, 1) := by decide +kernel
theorem dX5_promisedVectors_5 : decode cX5_promisedVectors 5 = .ok (.aload_n 0, 1) := by decide +kernel
theorem dX5_promisedVectors_6 : decode cX5_promisedVectors 6 = .ok (.getfield 32, 3) := by decide +kernel
theorem dX5_promisedVectors_9 : decode cX5_promisedVectors 9 = .ok (.getfield 79, 3) := by decide +kernel
theorem dX5_promisedVectors_12 : decode cX5_promisedVectors 12 = .ok (.if_icmp .ge 33, 3) := by decide +kernel
theorem dX5_promisedVectors_15 : decode cX5_promisedVectors 15 = .ok (.iload_n 1, 1) := by decide +kernel
theorem dX5_promisedVectors_16 : decode cX5_promisedVectors 16 = .ok (.aload_n 0, 1) := by decide +kernel
theorem dX5_promisedVectors_17 : decode cX5_promisedVectors 17 = .ok (.iload_n 2, 1) := by decide +kernel
theorem dX5_promisedVectors_18 : decode cX5_promisedVectors 18 = .ok (.invokevirtual 82, 3) := by decide +kernel
theorem dX5_promisedVectors_21 : decode cX5_promisedVectors 21 = .ok (.ifCond .eq 15, 3) := by decide +kernel
theorem dX5_promisedVectors_24 : decode cX5_promisedVectors 24 = .ok (.aload_n 0, 1) := by decide +kernel
theorem dX5_promisedVectors_25 : decode cX5_promisedVectors 25 = .ok (.getfield 32, 3) := by decide +kernel
theorem dX5_promisedVectors_28 : decode cX5_promisedVectors 28 = .ok (.getfield 85, 3) := by decide +kernel
theorem dX5_promisedVectors_31 : decode cX5_promisedVectors 31 = .ok (.iload_n 2, 1) := by decide +kernel
theorem dX5_promisedVectors_32 : decode cX5_promisedVectors 32 = .ok (.iaload, 1) := by decide +kernel
theorem dX5_promisedVectors_33 : decode cX5_promisedVectors 33 = .ok (.goto 4, 3) := by decide +kernel
theorem dX5_promisedVectors_36 : decode cX5_promisedVectors 36 = .ok (.iconst 0, 1) := by decide +kernel
theorem dX5_promisedVectors_37 : decode cX5_promisedVectors 37 = .ok (.iadd, 1) := by decide +kernel
theorem dX5_promisedVectors_38 : decode cX5_promisedVectors 38 = .ok (.istore_n 1, 1) := by decide +kernel
theorem dX5_promisedVectors_39 : decode cX5_promisedVectors 39 = .ok (.iinc 2 1, 3) := by decide +kernel
theorem dX5_promisedVectors_42 : decode cX5_promisedVectors 42 = .ok (.goto (-38), 3) := by decide +kernel
theorem dX5_promisedVectors_45 : decode cX5_promisedVectors 45 = .ok (.iload_n 1, 1) := by decide +kernel
theorem dX5_promisedVectors_46 : decode cX5_promisedVectors 46 = .ok (.ireturn, 1) := by decide +kernel
theorem dX5_unheard_0 : decode cX5_unheard 0 = .ok (.iconst 0, 1) := by decide +kernel
theorem dX5_unheard_1 : decode cX5_unheard 1 = .ok (.istore_n 1, 1) := by decide +kernel
theorem dX5_unheard_2 : decode cX5_unheard 2 = .ok (.iconst 0, 1) := by decide +kernel
theorem dX5_unheard_3 : decode cX5_unheard 3 = .ok (.istore_n 2, 1) := by decide +kernel
theorem dX5_unheard_4 : decode cX5_unheard 4 = .ok (.iload_n 2, 1) := by decide +kernel
theorem dX5_unheard_5 : decode cX5_unheard 5 = .ok (.aload_n 0, 1) := by decide +kernel
theorem dX5_unheard_6 : decode cX5_unheard 6 = .ok (.getfield 32, 3) := by decide +kernel
theorem dX5_unheard_9 : decode cX5_unheard 9 = .ok (.getfield 88, 3) := by decide +kernel
theorem dX5_unheard_12 : decode cX5_unheard 12 = .ok (.if_icmp .ge 24, 3) := by decide +kernel
theorem dX5_unheard_15 : decode cX5_unheard 15 = .ok (.iload_n 1, 1) := by decide +kernel
theorem dX5_unheard_16 : decode cX5_unheard 16 = .ok (.aload_n 0, 1) := by decide +kernel
theorem dX5_unheard_17 : decode cX5_unheard 17 = .ok (.getfield 41, 3) := by decide +kernel
theorem dX5_unheard_20 : decode cX5_unheard 20 = .ok (.getfield 91, 3) := by decide +kernel
theorem dX5_unheard_23 : decode cX5_unheard 23 = .ok (.iload_n 2, 1) := by decide +kernel
theorem dX5_unheard_24 : decode cX5_unheard 24 = .ok (.iaload, 1) := by decide +kernel
theorem dX5_unheard_25 : decode cX5_unheard 25 = .ok (.invokestatic 94, 3) := by decide +kernel
theorem dX5_unheard_28 : decode cX5_unheard 28 = .ok (.iadd, 1) := by decide +kernel
theorem dX5_unheard_29 : decode cX5_unheard 29 = .ok (.istore_n 1, 1) := by decide +kernel
theorem dX5_unheard_30 : decode cX5_unheard 30 = .ok (.iinc 2 1, 3) := by decide +kernel
theorem dX5_unheard_33 : decode cX5_unheard 33 = .ok (.goto (-29), 3) := by decide +kernel
theorem dX5_unheard_36 : decode cX5_unheard 36 = .ok (.iconst 0, 1) := by decide +kernel
theorem dX5_unheard_37 : decode cX5_unheard 37 = .ok (.istore_n 2, 1) := by decide +kernel
theorem dX5_unheard_38 : decode cX5_unheard 38 = .ok (.iload_n 2, 1) := by decide +kernel
theorem dX5_unheard_39 : decode cX5_unheard 39 = .ok (.aload_n 0, 1) := by decide +kernel
theorem dX5_unheard_40 : decode cX5_unheard 40 = .ok (.getfield 32, 3) := by decide +kernel
theorem dX5_unheard_43 : decode cX5_unheard 43 = .ok (.getfield 79, 3) := by decide +kernel
theorem dX5_unheard_46 : decode cX5_unheard 46 = .ok (.bipush 8, 2) := by decide +kernel
theorem dX5_unheard_48 : decode cX5_unheard 48 = .ok (.imul, 1) := by decide +kernel
theorem dX5_unheard_49 : decode cX5_unheard 49 = .ok (.if_icmp .ge 26, 3) := by decide +kernel
theorem dX5_unheard_52 : decode cX5_unheard 52 = .ok (.iload_n 1, 1) := by decide +kernel
theorem dX5_unheard_53 : decode cX5_unheard 53 = .ok (.aload_n 0, 1) := by decide +kernel
theorem dX5_unheard_54 : decode cX5_unheard 54 = .ok (.getfield 29, 3) := by decide +kernel
theorem dX5_unheard_57 : decode cX5_unheard 57 = .ok (.iload_n 2, 1) := by decide +kernel
theorem dX5_unheard_58 : decode cX5_unheard 58 = .ok (.baload, 1) := by decide +kernel
theorem dX5_unheard_59 : decode cX5_unheard 59 = .ok (.ifCond .eq 7, 3) := by decide +kernel
theorem dX5_unheard_62 : decode cX5_unheard 62 = .ok (.iconst 1, 1) := by decide +kernel
theorem dX5_unheard_63 : decode cX5_unheard 63 = .ok (.goto 4, 3) := by decide +kernel
theorem dX5_unheard_66 : decode cX5_unheard 66 = .ok (.iconst 0, 1) := by decide +kernel
theorem dX5_unheard_67 : decode cX5_unheard 67 = .ok (.iadd, 1) := by decide +kernel
theorem dX5_unheard_68 : decode cX5_unheard 68 = .ok (.istore_n 1, 1) := by decide +kernel
theorem dX5_unheard_69 : decode cX5_unheard 69 = .ok (.iinc 2 1, 3) := by decide +kernel
theorem dX5_unheard_72 : decode cX5_unheard 72 = .ok (.goto (-34), 3) := by decide +kernel
theorem dX5_unheard_75 : decode cX5_unheard 75 = .ok (.iload_n 1, 1) := by decide +kernel
theorem dX5_unheard_76 : decode cX5_unheard 76 = .ok (.ireturn, 1) := by decide +kernel
theorem dX5_hold_0 : decode cX5_hold 0 = .ok (.aload_n 0, 1) := by decide +kernel
theorem dX5_hold_1 : decode cX5_hold 1 = .ok (.getfield 41, 3) := by decide +kernel
theorem dX5_hold_4 : decode cX5_hold 4 = .ok (.iload_n 2, 1) := by decide +kernel
theorem dX5_hold_5 : decode cX5_hold 5 = .ok (.iconst 2, 1) := by decide +kernel
theorem dX5_hold_6 : decode cX5_hold 6 = .ok (.iload_n 1, 1) := by decide +kernel
theorem dX5_hold_7 : decode cX5_hold 7 = .ok (.invokevirtual 100, 3) := by decide +kernel
theorem dX5_hold_10 : decode cX5_hold 10 = .ok (.aload_n 0, 1) := by decide +kernel
theorem dX5_hold_11 : decode cX5_hold 11 = .ok (.getfield 18, 3) := by decide +kernel
theorem dX5_hold_14 : decode cX5_hold 14 = .ok (.iload_n 1, 1) := by decide +kernel
theorem dX5_hold_15 : decode cX5_hold 15 = .ok (.iload_n 2, 1) := by decide +kernel
theorem dX5_hold_16 : decode cX5_hold 16 = .ok (.iastore, 1) := by decide +kernel
theorem dX5_hold_17 : decode cX5_hold 17 = .ok (.return_, 1) := by decide +kernel
theorem dX5_release_0 : decode cX5_release 0 = .ok (.aload_n 0, 1) := by decide +kernel
theorem dX5_release_1 : decode cX5_release 1 = .ok (.iload_n 1, 1) := by decide +kernel
theorem dX5_release_2 : decode cX5_release 2 = .ok (.bipush 8, 2) := by decide +kernel
theorem dX5_release_4 : decode cX5_release 4 = .ok (.idiv, 1) := by decide +kernel
theorem dX5_release_5 : decode cX5_release 5 = .ok (.invokevirtual 104, 3) := by decide +kernel
theorem dX5_release_8 : decode cX5_release 8 = .ok (.istore_n 3, 1) := by decide +kernel
theorem dX5_release_9 : decode cX5_release 9 = .ok (.aload_n 0, 1) := by decide +kernel
theorem dX5_release_10 : decode cX5_release 10 = .ok (.getfield 41, 3) := by decide +kernel
theorem dX5_release_13 : decode cX5_release 13 = .ok (.iload_n 2, 1) := by decide +kernel
theorem dX5_release_14 : decode cX5_release 14 = .ok (.iload_n 3, 1) := by decide +kernel
theorem dX5_release_15 : decode cX5_release 15 = .ok (.ifCond .eq 7, 3) := by decide +kernel
theorem dX5_release_18 : decode cX5_release 18 = .ok (.iconst 4, 1) := by decide +kernel
theorem dX5_release_19 : decode cX5_release 19 = .ok (.goto 4, 3) := by decide +kernel
theorem dX5_release_22 : decode cX5_release 22 = .ok (.iconst 0, 1) := by decide +kernel
theorem dX5_release_23 : decode cX5_release 23 = .ok (.iload_n 3, 1) := by decide +kernel
theorem dX5_release_24 : decode cX5_release 24 = .ok (.ifCond .eq 7, 3) := by decide +kernel
theorem dX5_release_27 : decode cX5_release 27 = .ok (.iload_n 1, 1) := by decide +kernel
theorem dX5_release_28 : decode cX5_release 28 = .ok (.goto 4, 3) := by decide +kernel
theorem dX5_release_31 : decode cX5_release 31 = .ok (.iconst (-1), 1) := by decide +kernel
theorem dX5_release_32 : decode cX5_release 32 = .ok (.invokevirtual 100, 3) := by decide +kernel
theorem dX5_release_35 : decode cX5_release 35 = .ok (.return_, 1) := by decide +kernel
theorem dX5_releaseOld_0 : decode cX5_releaseOld 0 = .ok (.aload_n 0, 1) := by decide +kernel
theorem dX5_releaseOld_1 : decode cX5_releaseOld 1 = .ok (.iload_n 1, 1) := by decide +kernel
theorem dX5_releaseOld_2 : decode cX5_releaseOld 2 = .ok (.aload_n 0, 1) := by decide +kernel
theorem dX5_releaseOld_3 : decode cX5_releaseOld 3 = .ok (.getfield 22, 3) := by decide +kernel
theorem dX5_releaseOld_6 : decode cX5_releaseOld 6 = .ok (.iload_n 1, 1) := by decide +kernel
theorem dX5_releaseOld_7 : decode cX5_releaseOld 7 = .ok (.iaload, 1) := by decide +kernel
theorem dX5_releaseOld_8 : decode cX5_releaseOld 8 = .ok (.invokevirtual 107, 3) := by decide +kernel
theorem dX5_releaseOld_11 : decode cX5_releaseOld 11 = .ok (.aload_n 0, 1) := by decide +kernel
theorem dX5_releaseOld_12 : decode cX5_releaseOld 12 = .ok (.getfield 22, 3) := by decide +kernel
theorem dX5_releaseOld_15 : decode cX5_releaseOld 15 = .ok (.iload_n 1, 1) := by decide +kernel
theorem dX5_releaseOld_16 : decode cX5_releaseOld 16 = .ok (.iconst (-1), 1) := by decide +kernel
theorem dX5_releaseOld_17 : decode cX5_releaseOld 17 = .ok (.iastore, 1) := by decide +kernel
theorem dX5_releaseOld_18 : decode cX5_releaseOld 18 = .ok (.aload_n 0, 1) := by decide +kernel
theorem dX5_releaseOld_19 : decode cX5_releaseOld 19 = .ok (.getfield 25, 3) := by decide +kernel
theorem dX5_releaseOld_22 : decode cX5_releaseOld 22 = .ok (.iload_n 1, 1) := by decide +kernel
theorem dX5_releaseOld_23 : decode cX5_releaseOld 23 = .ok (.iconst 0, 1) := by decide +kernel
theorem dX5_releaseOld_24 : decode cX5_releaseOld 24 = .ok (.bastore, 1) := by decide +kernel
theorem dX5_releaseOld_25 : decode cX5_releaseOld 25 = .ok (.return_, 1) := by decide +kernel
theorem dX5_pendAt_0 : decode cX5_pendAt 0 = .ok (.aload_n 0, 1) := by decide +kernel
theorem dX5_pendAt_1 : decode cX5_pendAt 1 = .ok (.getfield 41, 3) := by decide +kernel
theorem dX5_pendAt_4 : decode cX5_pendAt 4 = .ok (.iload_n 2, 1) := by decide +kernel
theorem dX5_pendAt_5 : decode cX5_pendAt 5 = .ok (.invokevirtual 111, 3) := by decide +kernel
theorem dX5_pendAt_8 : decode cX5_pendAt 8 = .ok (.ifCond .eq 21, 3) := by decide +kernel
theorem dX5_pendAt_11 : decode cX5_pendAt 11 = .ok (.aload_n 0, 1) := by decide +kernel
theorem dX5_pendAt_12 : decode cX5_pendAt 12 = .ok (.getfield 12, 3) := by decide +kernel
theorem dX5_pendAt_15 : decode cX5_pendAt 15 = .ok (.getfield 114, 3) := by decide +kernel
theorem dX5_pendAt_18 : decode cX5_pendAt 18 = .ok (.iload_n 1, 1) := by decide +kernel
theorem dX5_pendAt_19 : decode cX5_pendAt 19 = .ok (.bipush 8, 2) := by decide +kernel
theorem dX5_pendAt_21 : decode cX5_pendAt 21 = .ok (.idiv, 1) := by decide +kernel
theorem dX5_pendAt_22 : decode cX5_pendAt 22 = .ok (.dup2, 1) := by decide +kernel
theorem dX5_pendAt_23 : decode cX5_pendAt 23 = .ok (.iaload, 1) := by decide +kernel
theorem dX5_pendAt_24 : decode cX5_pendAt 24 = .ok (.iconst 1, 1) := by decide +kernel
theorem dX5_pendAt_25 : decode cX5_pendAt 25 = .ok (.iadd, 1) := by decide +kernel
theorem dX5_pendAt_26 : decode cX5_pendAt 26 = .ok (.iastore, 1) := by decide +kernel
theorem dX5_pendAt_27 : decode cX5_pendAt 27 = .ok (.iconst 0, 1) := by decide +kernel
theorem dX5_pendAt_28 : decode cX5_pendAt 28 = .ok (.ireturn, 1) := by decide +kernel
theorem dX5_pendAt_29 : decode cX5_pendAt 29 = .ok (.aload_n 0, 1) := by decide +kernel
theorem dX5_pendAt_30 : decode cX5_pendAt 30 = .ok (.getfield 41, 3) := by decide +kernel
theorem dX5_pendAt_33 : decode cX5_pendAt 33 = .ok (.iload_n 2, 1) := by decide +kernel
theorem dX5_pendAt_34 : decode cX5_pendAt 34 = .ok (.invokevirtual 117, 3) := by decide +kernel
theorem dX5_pendAt_37 : decode cX5_pendAt 37 = .ok (.iconst 1, 1) := by decide +kernel
theorem dX5_pendAt_38 : decode cX5_pendAt 38 = .ok (.ireturn, 1) := by decide +kernel
theorem dX5_begin_0 : decode cX5_begin 0 = .ok (.aload_n 0, 1) := by decide +kernel
theorem dX5_begin_1 : decode cX5_begin 1 = .ok (.iload_n 1, 1) := by decide +kernel
theorem dX5_begin_2 : decode cX5_begin 2 = .ok (.invokevirtual 121, 3) := by decide +kernel
theorem dX5_begin_5 : decode cX5_begin 5 = .ok (.ifCond .eq 5, 3) := by decide +kernel
theorem dX5_begin_8 : decode cX5_begin 8 = .ok (.iconst 4, 1) := by decide +kernel
theorem dX5_begin_9 : decode cX5_begin 9 = .ok (.ireturn, 1) := by decide +kernel
theorem dX5_begin_10 : decode cX5_begin 10 = .ok (.aload_n 0, 1) := by decide +kernel
theorem dX5_begin_11 : decode cX5_begin 11 = .ok (.iload_n 1, 1) := by decide +kernel
theorem dX5_begin_12 : decode cX5_begin 12 = .ok (.invokevirtual 104, 3) := by decide +kernel
theorem dX5_begin_15 : decode cX5_begin 15 = .ok (.ifCond .eq 11, 3) := by decide +kernel
theorem dX5_begin_18 : decode cX5_begin 18 = .ok (.aload_n 0, 1) := by decide +kernel
theorem dX5_begin_19 : decode cX5_begin 19 = .ok (.iload_n 1, 1) := by decide +kernel
theorem dX5_begin_20 : decode cX5_begin 20 = .ok (.invokevirtual 124, 3) := by decide +kernel
theorem dX5_begin_23 : decode cX5_begin 23 = .ok (.goto 8, 3) := by decide +kernel
theorem dX5_begin_26 : decode cX5_begin 26 = .ok (.aload_n 0, 1) := by decide +kernel
theorem dX5_begin_27 : decode cX5_begin 27 = .ok (.iload_n 1, 1) := by decide +kernel
theorem dX5_begin_28 : decode cX5_begin 28 = .ok (.invokevirtual 127, 3) := by decide +kernel
theorem dX5_begin_31 : decode cX5_begin 31 = .ok (.istore_n 2, 1) := by decide +kernel
theorem dX5_begin_32 : decode cX5_begin 32 = .ok (.iload_n 2, 1) := by decide +kernel
theorem dX5_begin_33 : decode cX5_begin 33 = .ok (.ifCond .ne 29, 3) := by decide +kernel
theorem dX5_begin_36 : decode cX5_begin 36 = .ok (.aload_n 0, 1) := by decide +kernel
theorem dX5_begin_37 : decode cX5_begin 37 = .ok (.dup, 1) := by decide +kernel
theorem dX5_begin_38 : decode cX5_begin 38 = .ok (.getfield 50, 3) := by decide +kernel
theorem dX5_begin_41 : decode cX5_begin 41 = .ok (.iconst 1, 1) := by decide +kernel
theorem dX5_begin_42 : decode cX5_begin 42 = .ok (.iload_n 1, 1) := by decide +kernel
theorem dX5_begin_43 : decode cX5_begin 43 = .ok (.ishl, 1) := by decide +kernel
theorem dX5_begin_44 : decode cX5_begin 44 = .ok (.ior, 1) := by decide +kernel
theorem dX5_begin_45 : decode cX5_begin 45 = .ok (.putfield 50, 3) := by decide +kernel
theorem dX5_begin_48 : decode cX5_begin 48 = .ok (.aload_n 0, 1) := by decide +kernel
theorem dX5_begin_49 : decode cX5_begin 49 = .ok (.dup, 1) := by decide +kernel
theorem dX5_begin_50 : decode cX5_begin 50 = .ok (.getfield 54, 3) := by decide +kernel
theorem dX5_begin_53 : decode cX5_begin 53 = .ok (.iconst 1, 1) := by decide +kernel
theorem dX5_begin_54 : decode cX5_begin 54 = .ok (.iload_n 1, 1) := by decide +kernel
theorem dX5_begin_55 : decode cX5_begin 55 = .ok (.ishl, 1) := by decide +kernel
theorem dX5_begin_56 : decode cX5_begin 56 = .ok (.iconst (-1), 1) := by decide +kernel
theorem dX5_begin_57 : decode cX5_begin 57 = .ok (.ixor, 1) := by decide +kernel
theorem dX5_begin_58 : decode cX5_begin 58 = .ok (.iand, 1) := by decide +kernel
theorem dX5_begin_59 : decode cX5_begin 59 = .ok (.putfield 54, 3) := by decide +kernel
theorem dX5_begin_62 : decode cX5_begin 62 = .ok (.iload_n 2, 1) := by decide +kernel
theorem dX5_begin_63 : decode cX5_begin 63 = .ok (.ireturn, 1) := by decide +kernel
theorem dX5_beginDealt_0 : decode cX5_beginDealt 0 = .ok (.aload_n 0, 1) := by decide +kernel
theorem dX5_beginDealt_1 : decode cX5_beginDealt 1 = .ok (.getfield 32, 3) := by decide +kernel
theorem dX5_beginDealt_4 : decode cX5_beginDealt 4 = .ok (.getfield 85, 3) := by decide +kernel
theorem dX5_beginDealt_7 : decode cX5_beginDealt 7 = .ok (.iload_n 1, 1) := by decide +kernel
theorem dX5_beginDealt_8 : decode cX5_beginDealt 8 = .ok (.iaload, 1) := by decide +kernel
theorem dX5_beginDealt_9 : decode cX5_beginDealt 9 = .ok (.istore_n 2, 1) := by decide +kernel
theorem dX5_beginDealt_10 : decode cX5_beginDealt 10 = .ok (.aload_n 0, 1) := by decide +kernel
theorem dX5_beginDealt_11 : decode cX5_beginDealt 11 = .ok (.getfield 41, 3) := by decide +kernel
theorem dX5_beginDealt_14 : decode cX5_beginDealt 14 = .ok (.aload_n 0, 1) := by decide +kernel
theorem dX5_beginDealt_15 : decode cX5_beginDealt 15 = .ok (.getfield 32, 3) := by decide +kernel
theorem dX5_beginDealt_18 : decode cX5_beginDealt 18 = .ok (.getfield 130, 3) := by decide +kernel
theorem dX5_beginDealt_21 : decode cX5_beginDealt 21 = .ok (.iload_n 1, 1) := by decide +kernel
theorem dX5_beginDealt_22 : decode cX5_beginDealt 22 = .ok (.iaload, 1) := by decide +kernel
theorem dX5_beginDealt_23 : decode cX5_beginDealt 23 = .ok (.iload_n 2, 1) := by decide +kernel
theorem dX5_beginDealt_24 : decode cX5_beginDealt 24 = .ok (.invokevirtual 133, 3) := by decide +kernel
theorem dX5_beginDealt_27 : decode cX5_beginDealt 27 = .ok (.istore_n 3, 1) := by decide +kernel
theorem dX5_beginDealt_28 : decode cX5_beginDealt 28 = .ok (.iload_n 3, 1) := by decide +kernel
theorem dX5_beginDealt_29 : decode cX5_beginDealt 29 = .ok (.iconst (-1), 1) := by decide +kernel
theorem dX5_beginDealt_30 : decode cX5_beginDealt 30 = .ok (.if_icmp .ne 5, 3) := by decide +kernel
theorem dX5_beginDealt_33 : decode cX5_beginDealt 33 = .ok (.iconst 1, 1) := by decide +kernel
theorem dX5_beginDealt_34 : decode cX5_beginDealt 34 = .ok (.ireturn, 1) := by decide +kernel
theorem dX5_beginDealt_35 : decode cX5_beginDealt 35 = .ok (.aload_n 0, 1) := by decide +kernel
theorem dX5_beginDealt_36 : decode cX5_beginDealt 36 = .ok (.iload_n 1, 1) := by decide +kernel
theorem dX5_beginDealt_37 : decode cX5_beginDealt 37 = .ok (.invokevirtual 82, 3) := by decide +kernel
theorem dX5_beginDealt_40 : decode cX5_beginDealt 40 = .ok (.ifCond .eq 7, 3) := by decide +kernel
theorem dX5_beginDealt_43 : decode cX5_beginDealt 43 = .ok (.iload_n 2, 1) := by decide +kernel
theorem dX5_beginDealt_44 : decode cX5_beginDealt 44 = .ok (.goto 4, 3) := by decide +kernel
theorem dX5_beginDealt_47 : decode cX5_beginDealt 47 = .ok (.iconst 0, 1) := by decide +kernel
theorem dX5_beginDealt_48 : decode cX5_beginDealt 48 = .ok (.istore 4, 2) := by decide +kernel
theorem dX5_beginDealt_50 : decode cX5_beginDealt 50 = .ok (.aload_n 0, 1) := by decide +kernel
theorem dX5_beginDealt_51 : decode cX5_beginDealt 51 = .ok (.getfield 41, 3) := by decide +kernel
theorem dX5_beginDealt_54 : decode cX5_beginDealt 54 = .ok (.invokevirtual 137, 3) := by decide +kernel
theorem dX5_beginDealt_57 : decode cX5_beginDealt 57 = .ok (.iload_n 2, 1) := by decide +kernel
theorem dX5_beginDealt_58 : decode cX5_beginDealt 58 = .ok (.isub, 1) := by decide +kernel
theorem dX5_beginDealt_59 : decode cX5_beginDealt 59 = .ok (.aload_n 0, 1) := by decide +kernel
theorem dX5_beginDealt_60 : decode cX5_beginDealt 60 = .ok (.invokevirtual 141, 3) := by decide +kernel
theorem dX5_beginDealt_63 : decode cX5_beginDealt 63 = .ok (.iload 4, 2) := by decide +kernel
theorem dX5_beginDealt_65 : decode cX5_beginDealt 65 = .ok (.isub, 1) := by decide +kernel
theorem dX5_beginDealt_66 : decode cX5_beginDealt 66 = .ok (.if_icmp .ge 5, 3) := by decide +kernel
theorem dX5_beginDealt_69 : decode cX5_beginDealt 69 = .ok (.iconst 2, 1) := by decide +kernel
theorem dX5_beginDealt_70 : decode cX5_beginDealt 70 = .ok (.ireturn, 1) := by decide +kernel
theorem dX5_beginDealt_71 : decode cX5_beginDealt 71 = .ok (.iconst 0, 1) := by decide +kernel
theorem dX5_beginDealt_72 : decode cX5_beginDealt 72 = .ok (.istore 5, 2) := by decide +kernel
theorem dX5_beginDealt_74 : decode cX5_beginDealt 74 = .ok (.iload 5, 2) := by decide +kernel
theorem dX5_beginDealt_76 : decode cX5_beginDealt 76 = .ok (.iload_n 2, 1) := by decide +kernel
theorem dX5_beginDealt_77 : decode cX5_beginDealt 77 = .ok (.if_icmp .ge 24, 3) := by decide +kernel
theorem dX5_beginDealt_80 : decode cX5_beginDealt 80 = .ok (.aload_n 0, 1) := by decide +kernel
theorem dX5_beginDealt_81 : decode cX5_beginDealt 81 = .ok (.iload_n 1, 1) := by decide +kernel
theorem dX5_beginDealt_82 : decode cX5_beginDealt 82 = .ok (.bipush 8, 2) := by decide +kernel
theorem dX5_beginDealt_84 : decode cX5_beginDealt 84 = .ok (.imul, 1) := by decide +kernel
theorem dX5_beginDealt_85 : decode cX5_beginDealt 85 = .ok (.iload 5, 2) := by decide +kernel
theorem dX5_beginDealt_87 : decode cX5_beginDealt 87 = .ok (.iadd, 1) := by decide +kernel
theorem dX5_beginDealt_88 : decode cX5_beginDealt 88 = .ok (.iload_n 3, 1) := by decide +kernel
theorem dX5_beginDealt_89 : decode cX5_beginDealt 89 = .ok (.iload 5, 2) := by decide +kernel
theorem dX5_beginDealt_91 : decode cX5_beginDealt 91 = .ok (.iadd, 1) := by decide +kernel
theorem dX5_beginDealt_92 : decode cX5_beginDealt 92 = .ok (.invokevirtual 144, 3) := by decide +kernel
theorem dX5_beginDealt_95 : decode cX5_beginDealt 95 = .ok (.iinc 5 1, 3) := by decide +kernel
theorem dX5_beginDealt_98 : decode cX5_beginDealt 98 = .ok (.goto (-24), 3) := by decide +kernel
theorem dX5_beginDealt_101 : decode cX5_beginDealt 101 = .ok (.iconst 0, 1) := by decide +kernel
theorem dX5_beginDealt_102 : decode cX5_beginDealt 102 = .ok (.ireturn, 1) := by decide +kernel
theorem dX5_beginQueues_0 : decode cX5_beginQueues 0 = .ok (.iconst 0, 1) := by decide +kernel
theorem dX5_beginQueues_1 : decode cX5_beginQueues 1 = .ok (.istore_n 2, 1) := by decide +kernel
theorem dX5_beginQueues_2 : decode cX5_beginQueues 2 = .ok (.iconst 0, 1) := by decide +kernel
theorem dX5_beginQueues_3 : decode cX5_beginQueues 3 = .ok (.istore_n 3, 1) := by decide +kernel
theorem dX5_beginQueues_4 : decode cX5_beginQueues 4 = .ok (.iload_n 3, 1) := by decide +kernel
theorem dX5_beginQueues_5 : decode cX5_beginQueues 5 = .ok (.aload_n 0, 1) := by decide +kernel
theorem dX5_beginQueues_6 : decode cX5_beginQueues 6 = .ok (.getfield 32, 3) := by decide +kernel
theorem dX5_beginQueues_9 : decode cX5_beginQueues 9 = .ok (.getfield 88, 3) := by decide +kernel
theorem dX5_beginQueues_12 : decode cX5_beginQueues 12 = .ok (.if_icmp .ge 53, 3) := by decide +kernel
theorem dX5_beginQueues_15 : decode cX5_beginQueues 15 = .ok (.aload_n 0, 1) := by decide +kernel
theorem dX5_beginQueues_16 : decode cX5_beginQueues 16 = .ok (.iload_n 1, 1) := by decide +kernel
theorem dX5_beginQueues_17 : decode cX5_beginQueues 17 = .ok (.iload_n 3, 1) := by decide +kernel
theorem dX5_beginQueues_18 : decode cX5_beginQueues 18 = .ok (.invokevirtual 147, 3) := by decide +kernel
theorem dX5_beginQueues_21 : decode cX5_beginQueues 21 = .ok (.istore 4, 2) := by decide +kernel
theorem dX5_beginQueues_23 : decode cX5_beginQueues 23 = .ok (.iload 4, 2) := by decide +kernel
theorem dX5_beginQueues_25 : decode cX5_beginQueues 25 = .ok (.aload_n 0, 1) := by decide +kernel
theorem dX5_beginQueues_26 : decode cX5_beginQueues 26 = .ok (.getfield 41, 3) := by decide +kernel
theorem dX5_beginQueues_29 : decode cX5_beginQueues 29 = .ok (.iconst 0, 1) := by decide +kernel
theorem dX5_beginQueues_30 : decode cX5_beginQueues 30 = .ok (.iload_n 3, 1) := by decide +kernel
theorem dX5_beginQueues_31 : decode cX5_beginQueues 31 = .ok (.invokevirtual 150, 3) := by decide +kernel
theorem dX5_beginQueues_34 : decode cX5_beginQueues 34 = .ok (.if_icmp .le 5, 3) := by decide +kernel
theorem dX5_beginQueues_37 : decode cX5_beginQueues 37 = .ok (.iconst 1, 1) := by decide +kernel
theorem dX5_beginQueues_38 : decode cX5_beginQueues 38 = .ok (.ireturn, 1) := by decide +kernel
theorem dX5_beginQueues_39 : decode cX5_beginQueues 39 = .ok (.iload_n 2, 1) := by decide +kernel
theorem dX5_beginQueues_40 : decode cX5_beginQueues 40 = .ok (.aload_n 0, 1) := by decide +kernel
theorem dX5_beginQueues_41 : decode cX5_beginQueues 41 = .ok (.getfield 41, 3) := by decide +kernel
theorem dX5_beginQueues_44 : decode cX5_beginQueues 44 = .ok (.iload_n 3, 1) := by decide +kernel
theorem dX5_beginQueues_45 : decode cX5_beginQueues 45 = .ok (.invokevirtual 153, 3) := by decide +kernel
theorem dX5_beginQueues_48 : decode cX5_beginQueues 48 = .ok (.ifCond .eq 8, 3) := by decide +kernel
theorem dX5_beginQueues_51 : decode cX5_beginQueues 51 = .ok (.iload 4, 2) := by decide +kernel
theorem dX5_beginQueues_53 : decode cX5_beginQueues 53 = .ok (.goto 4, 3) := by decide +kernel
theorem dX5_beginQueues_56 : decode cX5_beginQueues 56 = .ok (.iconst 0, 1) := by decide +kernel
theorem dX5_beginQueues_57 : decode cX5_beginQueues 57 = .ok (.iadd, 1) := by decide +kernel
theorem dX5_beginQueues_58 : decode cX5_beginQueues 58 = .ok (.istore_n 2, 1) := by decide +kernel
theorem dX5_beginQueues_59 : decode cX5_beginQueues 59 = .ok (.iinc 3 1, 3) := by decide +kernel
theorem dX5_beginQueues_62 : decode cX5_beginQueues 62 = .ok (.goto (-58), 3) := by decide +kernel
theorem dX5_beginQueues_65 : decode cX5_beginQueues 65 = .ok (.aload_n 0, 1) := by decide +kernel
theorem dX5_beginQueues_66 : decode cX5_beginQueues 66 = .ok (.getfield 41, 3) := by decide +kernel
theorem dX5_beginQueues_69 : decode cX5_beginQueues 69 = .ok (.invokevirtual 137, 3) := by decide +kernel
theorem dX5_beginQueues_72 : decode cX5_beginQueues 72 = .ok (.iload_n 2, 1) := by decide +kernel
theorem dX5_beginQueues_73 : decode cX5_beginQueues 73 = .ok (.isub, 1) := by decide +kernel
theorem dX5_beginQueues_74 : decode cX5_beginQueues 74 = .ok (.aload_n 0, 1) := by decide +kernel
theorem dX5_beginQueues_75 : decode cX5_beginQueues 75 = .ok (.invokevirtual 141, 3) := by decide +kernel
theorem dX5_beginQueues_78 : decode cX5_beginQueues 78 = .ok (.if_icmp .ge 5, 3) := by decide +kernel
theorem dX5_beginQueues_81 : decode cX5_beginQueues 81 = .ok (.iconst 2, 1) := by decide +kernel
theorem dX5_beginQueues_82 : decode cX5_beginQueues 82 = .ok (.ireturn, 1) := by decide +kernel
theorem dX5_beginQueues_83 : decode cX5_beginQueues 83 = .ok (.iconst 0, 1) := by decide +kernel
theorem dX5_beginQueues_84 : decode cX5_beginQueues 84 = .ok (.istore_n 3, 1) := by decide +kernel
theorem dX5_beginQueues_85 : decode cX5_beginQueues 85 = .ok (.iload_n 3, 1) := by decide +kernel
theorem dX5_beginQueues_86 : decode cX5_beginQueues 86 = .ok (.aload_n 0, 1) := by decide +kernel
theorem dX5_beginQueues_87 : decode cX5_beginQueues 87 = .ok (.getfield 32, 3) := by decide +kernel
theorem dX5_beginQueues_90 : decode cX5_beginQueues 90 = .ok (.getfield 85, 3) := by decide +kernel
theorem dX5_beginQueues_93 : decode cX5_beginQueues 93 = .ok (.iload_n 1, 1) := by decide +kernel
theorem dX5_beginQueues_94 : decode cX5_beginQueues 94 = .ok (.iaload, 1) := by decide +kernel
theorem dX5_beginQueues_95 : decode cX5_beginQueues 95 = .ok (.if_icmp .ge 15, 3) := by decide +kernel
theorem dX5_beginQueues_98 : decode cX5_beginQueues 98 = .ok (.aload_n 0, 1) := by decide +kernel
theorem dX5_beginQueues_99 : decode cX5_beginQueues 99 = .ok (.iload_n 1, 1) := by decide +kernel
theorem dX5_beginQueues_100 : decode cX5_beginQueues 100 = .ok (.iload_n 3, 1) := by decide +kernel
theorem dX5_beginQueues_101 : decode cX5_beginQueues 101 = .ok (.invokevirtual 156, 3) := by decide +kernel
theorem dX5_beginQueues_104 : decode cX5_beginQueues 104 = .ok (.iinc 3 1, 3) := by decide +kernel
theorem dX5_beginQueues_107 : decode cX5_beginQueues 107 = .ok (.goto (-22), 3) := by decide +kernel
theorem dX5_beginQueues_110 : decode cX5_beginQueues 110 = .ok (.iconst 0, 1) := by decide +kernel
theorem dX5_beginQueues_111 : decode cX5_beginQueues 111 = .ok (.istore_n 3, 1) := by decide +kernel
theorem dX5_beginQueues_112 : decode cX5_beginQueues 112 = .ok (.iload_n 3, 1) := by decide +kernel
theorem dX5_beginQueues_113 : decode cX5_beginQueues 113 = .ok (.aload_n 0, 1) := by decide +kernel
theorem dX5_beginQueues_114 : decode cX5_beginQueues 114 = .ok (.getfield 32, 3) := by decide +kernel
theorem dX5_beginQueues_117 : decode cX5_beginQueues 117 = .ok (.getfield 85, 3) := by decide +kernel
theorem dX5_beginQueues_120 : decode cX5_beginQueues 120 = .ok (.iload_n 1, 1) := by decide +kernel
theorem dX5_beginQueues_121 : decode cX5_beginQueues 121 = .ok (.iaload, 1) := by decide +kernel
theorem dX5_beginQueues_122 : decode cX5_beginQueues 122 = .ok (.if_icmp .ge 46, 3) := by decide +kernel
theorem dX5_beginQueues_125 : decode cX5_beginQueues 125 = .ok (.iload_n 1, 1) := by decide +kernel
theorem dX5_beginQueues_126 : decode cX5_beginQueues 126 = .ok (.bipush 8, 2) := by decide +kernel
theorem dX5_beginQueues_128 : decode cX5_beginQueues 128 = .ok (.imul, 1) := by decide +kernel
theorem dX5_beginQueues_129 : decode cX5_beginQueues 129 = .ok (.iload_n 3, 1) := by decide +kernel
theorem dX5_beginQueues_130 : decode cX5_beginQueues 130 = .ok (.iadd, 1) := by decide +kernel
theorem dX5_beginQueues_131 : decode cX5_beginQueues 131 = .ok (.istore 4, 2) := by decide +kernel
theorem dX5_beginQueues_133 : decode cX5_beginQueues 133 = .ok (.aload_n 0, 1) := by decide +kernel
theorem dX5_beginQueues_134 : decode cX5_beginQueues 134 = .ok (.iload 4, 2) := by decide +kernel
theorem dX5_beginQueues_136 : decode cX5_beginQueues 136 = .ok (.aload_n 0, 1) := by decide +kernel
theorem dX5_beginQueues_137 : decode cX5_beginQueues 137 = .ok (.getfield 32, 3) := by decide +kernel
theorem dX5_beginQueues_140 : decode cX5_beginQueues 140 = .ok (.invokevirtual 159, 3) := by decide +kernel
theorem dX5_beginQueues_143 : decode cX5_beginQueues 143 = .ok (.invokevirtual 162, 3) := by decide +kernel
theorem dX5_beginQueues_146 : decode cX5_beginQueues 146 = .ok (.istore 5, 2) := by decide +kernel
theorem dX5_beginQueues_148 : decode cX5_beginQueues 148 = .ok (.iload 5, 2) := by decide +kernel
theorem dX5_beginQueues_150 : decode cX5_beginQueues 150 = .ok (.iconst (-1), 1) := by decide +kernel
theorem dX5_beginQueues_151 : decode cX5_beginQueues 151 = .ok (.if_icmp .eq 11, 3) := by decide +kernel
theorem dX5_beginQueues_154 : decode cX5_beginQueues 154 = .ok (.aload_n 0, 1) := by decide +kernel
theorem dX5_beginQueues_155 : decode cX5_beginQueues 155 = .ok (.iload 4, 2) := by decide +kernel
theorem dX5_beginQueues_157 : decode cX5_beginQueues 157 = .ok (.iload 5, 2) := by decide +kernel
theorem dX5_beginQueues_159 : decode cX5_beginQueues 159 = .ok (.invokevirtual 144, 3) := by decide +kernel
theorem dX5_beginQueues_162 : decode cX5_beginQueues 162 = .ok (.iinc 3 1, 3) := by decide +kernel
theorem dX5_beginQueues_165 : decode cX5_beginQueues 165 = .ok (.goto (-53), 3) := by decide +kernel
theorem dX5_beginQueues_168 : decode cX5_beginQueues 168 = .ok (.iconst 0, 1) := by decide +kernel
theorem dX5_beginQueues_169 : decode cX5_beginQueues 169 = .ok (.ireturn, 1) := by decide +kernel
theorem dX5_queuesAt_0 : decode cX5_queuesAt 0 = .ok (.iconst 0, 1) := by decide +kernel
theorem dX5_queuesAt_1 : decode cX5_queuesAt 1 = .ok (.istore_n 3, 1) := by decide +kernel
theorem dX5_queuesAt_2 : decode cX5_queuesAt 2 = .ok (.iconst 0, 1) := by decide +kernel
theorem dX5_queuesAt_3 : decode cX5_queuesAt 3 = .ok (.istore 4, 2) := by decide +kernel
theorem dX5_queuesAt_5 : decode cX5_queuesAt 5 = .ok (.iload 4, 2) := by decide +kernel
theorem dX5_queuesAt_7 : decode cX5_queuesAt 7 = .ok (.aload_n 0, 1) := by decide +kernel
theorem dX5_queuesAt_8 : decode cX5_queuesAt 8 = .ok (.getfield 32, 3) := by decide +kernel
theorem dX5_queuesAt_11 : decode cX5_queuesAt 11 = .ok (.getfield 85, 3) := by decide +kernel
theorem dX5_queuesAt_14 : decode cX5_queuesAt 14 = .ok (.iload_n 1, 1) := by decide +kernel
theorem dX5_queuesAt_15 : decode cX5_queuesAt 15 = .ok (.iaload, 1) := by decide +kernel
theorem dX5_queuesAt_16 : decode cX5_queuesAt 16 = .ok (.if_icmp .ge 26, 3) := by decide +kernel
theorem dX5_queuesAt_19 : decode cX5_queuesAt 19 = .ok (.iload_n 3, 1) := by decide +kernel
theorem dX5_queuesAt_20 : decode cX5_queuesAt 20 = .ok (.aload_n 0, 1) := by decide +kernel
theorem dX5_queuesAt_21 : decode cX5_queuesAt 21 = .ok (.getfield 32, 3) := by decide +kernel
theorem dX5_queuesAt_24 : decode cX5_queuesAt 24 = .ok (.iload_n 1, 1) := by decide +kernel
theorem dX5_queuesAt_25 : decode cX5_queuesAt 25 = .ok (.iload 4, 2) := by decide +kernel
theorem dX5_queuesAt_27 : decode cX5_queuesAt 27 = .ok (.invokevirtual 165, 3) := by decide +kernel
theorem dX5_queuesAt_30 : decode cX5_queuesAt 30 = .ok (.iload_n 2, 1) := by decide +kernel
theorem dX5_queuesAt_31 : decode cX5_queuesAt 31 = .ok (.iushr, 1) := by decide +kernel
theorem dX5_queuesAt_32 : decode cX5_queuesAt 32 = .ok (.iconst 1, 1) := by decide +kernel
theorem dX5_queuesAt_33 : decode cX5_queuesAt 33 = .ok (.iand, 1) := by decide +kernel
theorem dX5_queuesAt_34 : decode cX5_queuesAt 34 = .ok (.iadd, 1) := by decide +kernel
theorem dX5_queuesAt_35 : decode cX5_queuesAt 35 = .ok (.istore_n 3, 1) := by decide +kernel
theorem dX5_queuesAt_36 : decode cX5_queuesAt 36 = .ok (.iinc 4 1, 3) := by decide +kernel
theorem dX5_queuesAt_39 : decode cX5_queuesAt 39 = .ok (.goto (-34), 3) := by decide +kernel
theorem dX5_queuesAt_42 : decode cX5_queuesAt 42 = .ok (.iload_n 3, 1) := by decide +kernel
theorem dX5_queuesAt_43 : decode cX5_queuesAt 43 = .ok (.ireturn, 1) := by decide +kernel
theorem dX5_reserve_0 : decode cX5_reserve 0 = .ok (.aload_n 0, 1) := by decide +kernel
theorem dX5_reserve_1 : decode cX5_reserve 1 = .ok (.getfield 32, 3) := by decide +kernel
theorem dX5_reserve_4 : decode cX5_reserve 4 = .ok (.iload_n 1, 1) := by decide +kernel
theorem dX5_reserve_5 : decode cX5_reserve 5 = .ok (.iload_n 2, 1) := by decide +kernel
theorem dX5_reserve_6 : decode cX5_reserve 6 = .ok (.invokevirtual 165, 3) := by decide +kernel
theorem dX5_reserve_9 : decode cX5_reserve 9 = .ok (.istore_n 3, 1) := by decide +kernel
theorem dX5_reserve_10 : decode cX5_reserve 10 = .ok (.iconst 0, 1) := by decide +kernel
theorem dX5_reserve_11 : decode cX5_reserve 11 = .ok (.istore 4, 2) := by decide +kernel
theorem dX5_reserve_13 : decode cX5_reserve 13 = .ok (.iload 4, 2) := by decide +kernel
theorem dX5_reserve_15 : decode cX5_reserve 15 = .ok (.aload_n 0, 1) := by decide +kernel
theorem dX5_reserve_16 : decode cX5_reserve 16 = .ok (.getfield 32, 3) := by decide +kernel
theorem dX5_reserve_19 : decode cX5_reserve 19 = .ok (.getfield 88, 3) := by decide +kernel
theorem dX5_reserve_22 : decode cX5_reserve 22 = .ok (.if_icmp .ge 59, 3) := by decide +kernel
theorem dX5_reserve_25 : decode cX5_reserve 25 = .ok (.aload_n 0, 1) := by decide +kernel
theorem dX5_reserve_26 : decode cX5_reserve 26 = .ok (.getfield 41, 3) := by decide +kernel
theorem dX5_reserve_29 : decode cX5_reserve 29 = .ok (.iload 4, 2) := by decide +kernel
theorem dX5_reserve_31 : decode cX5_reserve 31 = .ok (.iconst 1, 1) := by decide +kernel
theorem dX5_reserve_32 : decode cX5_reserve 32 = .ok (.invokevirtual 168, 3) := by decide +kernel
theorem dX5_reserve_35 : decode cX5_reserve 35 = .ok (.istore 5, 2) := by decide +kernel
theorem dX5_reserve_37 : decode cX5_reserve 37 = .ok (.iload_n 3, 1) := by decide +kernel
theorem dX5_reserve_38 : decode cX5_reserve 38 = .ok (.iload 4, 2) := by decide +kernel
theorem dX5_reserve_40 : decode cX5_reserve 40 = .ok (.iushr, 1) := by decide +kernel
theorem dX5_reserve_41 : decode cX5_reserve 41 = .ok (.iconst 1, 1) := by decide +kernel
theorem dX5_reserve_42 : decode cX5_reserve 42 = .ok (.iand, 1) := by decide +kernel
theorem dX5_reserve_43 : decode cX5_reserve 43 = .ok (.iconst 1, 1) := by decide +kernel
theorem dX5_reserve_44 : decode cX5_reserve 44 = .ok (.if_icmp .ne 31, 3) := by decide +kernel
theorem dX5_reserve_47 : decode cX5_reserve 47 = .ok (.iload 5, 2) := by decide +kernel
theorem dX5_reserve_49 : decode cX5_reserve 49 = .ok (.iconst (-1), 1) := by decide +kernel
theorem dX5_reserve_50 : decode cX5_reserve 50 = .ok (.if_icmp .eq 25, 3) := by decide +kernel
theorem dX5_reserve_53 : decode cX5_reserve 53 = .ok (.aload_n 0, 1) := by decide +kernel
theorem dX5_reserve_54 : decode cX5_reserve 54 = .ok (.getfield 41, 3) := by decide +kernel
theorem dX5_reserve_57 : decode cX5_reserve 57 = .ok (.iload 4, 2) := by decide +kernel
theorem dX5_reserve_59 : decode cX5_reserve 59 = .ok (.bipush 32, 2) := by decide +kernel
theorem dX5_reserve_61 : decode cX5_reserve 61 = .ok (.imul, 1) := by decide +kernel
theorem dX5_reserve_62 : decode cX5_reserve 62 = .ok (.iload 5, 2) := by decide +kernel
theorem dX5_reserve_64 : decode cX5_reserve 64 = .ok (.iadd, 1) := by decide +kernel
theorem dX5_reserve_65 : decode cX5_reserve 65 = .ok (.iconst 4, 1) := by decide +kernel
theorem dX5_reserve_66 : decode cX5_reserve 66 = .ok (.iload_n 1, 1) := by decide +kernel
theorem dX5_reserve_67 : decode cX5_reserve 67 = .ok (.bipush 8, 2) := by decide +kernel
theorem dX5_reserve_69 : decode cX5_reserve 69 = .ok (.imul, 1) := by decide +kernel
theorem dX5_reserve_70 : decode cX5_reserve 70 = .ok (.iload_n 2, 1) := by decide +kernel
theorem dX5_reserve_71 : decode cX5_reserve 71 = .ok (.iadd, 1) := by decide +kernel
theorem dX5_reserve_72 : decode cX5_reserve 72 = .ok (.invokevirtual 100, 3) := by decide +kernel
theorem dX5_reserve_75 : decode cX5_reserve 75 = .ok (.iinc 4 1, 3) := by decide +kernel
theorem dX5_reserve_78 : decode cX5_reserve 78 = .ok (.goto (-65), 3) := by decide +kernel
theorem dX5_reserve_81 : decode cX5_reserve 81 = .ok (.return_, 1) := by decide +kernel
theorem dX5_leastLoadedPlace_0 : decode cX5_leastLoadedPlace 0 = .ok (.aload_n 0, 1) := by decide +kernel
theorem dX5_leastLoadedPlace_1 : decode cX5_leastLoadedPlace 1 = .ok (.getfield 32, 3) := by decide +kernel
theorem dX5_leastLoadedPlace_4 : decode cX5_leastLoadedPlace 4 = .ok (.iload_n 1, 1) := by decide +kernel
theorem dX5_leastLoadedPlace_5 : decode cX5_leastLoadedPlace 5 = .ok (.bipush 8, 2) := by decide +kernel
theorem dX5_leastLoadedPlace_7 : decode cX5_leastLoadedPlace 7 = .ok (.idiv, 1) := by decide +kernel
theorem dX5_leastLoadedPlace_8 : decode cX5_leastLoadedPlace 8 = .ok (.iload_n 1, 1) := by decide +kernel
theorem dX5_leastLoadedPlace_9 : decode cX5_leastLoadedPlace 9 = .ok (.bipush 8, 2) := by decide +kernel
theorem dX5_leastLoadedPlace_11 : decode cX5_leastLoadedPlace 11 = .ok (.irem, 1) := by decide +kernel
theorem dX5_leastLoadedPlace_12 : decode cX5_leastLoadedPlace 12 = .ok (.invokevirtual 165, 3) := by decide +kernel
theorem dX5_leastLoadedPlace_15 : decode cX5_leastLoadedPlace 15 = .ok (.istore_n 3, 1) := by decide +kernel
theorem dX5_leastLoadedPlace_16 : decode cX5_leastLoadedPlace 16 = .ok (.aload_n 0, 1) := by decide +kernel
theorem dX5_leastLoadedPlace_17 : decode cX5_leastLoadedPlace 17 = .ok (.getfield 41, 3) := by decide +kernel
theorem dX5_leastLoadedPlace_20 : decode cX5_leastLoadedPlace 20 = .ok (.iload_n 3, 1) := by decide +kernel
theorem dX5_leastLoadedPlace_21 : decode cX5_leastLoadedPlace 21 = .ok (.iload_n 2, 1) := by decide +kernel
theorem dX5_leastLoadedPlace_22 : decode cX5_leastLoadedPlace 22 = .ok (.iand, 1) := by decide +kernel
theorem dX5_leastLoadedPlace_23 : decode cX5_leastLoadedPlace 23 = .ok (.invokevirtual 171, 3) := by decide +kernel
theorem dX5_leastLoadedPlace_26 : decode cX5_leastLoadedPlace 26 = .ok (.istore 4, 2) := by decide +kernel
theorem dX5_leastLoadedPlace_28 : decode cX5_leastLoadedPlace 28 = .ok (.iload 4, 2) := by decide +kernel
theorem dX5_leastLoadedPlace_30 : decode cX5_leastLoadedPlace 30 = .ok (.iconst (-1), 1) := by decide +kernel
theorem dX5_leastLoadedPlace_31 : decode cX5_leastLoadedPlace 31 = .ok (.if_icmp .ne 5, 3) := by decide +kernel
theorem dX5_leastLoadedPlace_34 : decode cX5_leastLoadedPlace 34 = .ok (.iconst (-1), 1) := by decide +kernel
theorem dX5_leastLoadedPlace_35 : decode cX5_leastLoadedPlace 35 = .ok (.ireturn, 1) := by decide +kernel
theorem dX5_leastLoadedPlace_36 : decode cX5_leastLoadedPlace 36 = .ok (.aload_n 0, 1) := by decide +kernel
theorem dX5_leastLoadedPlace_37 : decode cX5_leastLoadedPlace 37 = .ok (.getfield 22, 3) := by decide +kernel
theorem dX5_leastLoadedPlace_40 : decode cX5_leastLoadedPlace 40 = .ok (.iload_n 1, 1) := by decide +kernel
theorem dX5_leastLoadedPlace_41 : decode cX5_leastLoadedPlace 41 = .ok (.iaload, 1) := by decide +kernel
theorem dX5_leastLoadedPlace_42 : decode cX5_leastLoadedPlace 42 = .ok (.iload 4, 2) := by decide +kernel
theorem dX5_leastLoadedPlace_44 : decode cX5_leastLoadedPlace 44 = .ok (.invokestatic 174, 3) := by decide +kernel
theorem dX5_leastLoadedPlace_47 : decode cX5_leastLoadedPlace 47 = .ok (.ifCond .eq 12, 3) := by decide +kernel
theorem dX5_leastLoadedPlace_50 : decode cX5_leastLoadedPlace 50 = .ok (.aload_n 0, 1) := by decide +kernel
theorem dX5_leastLoadedPlace_51 : decode cX5_leastLoadedPlace 51 = .ok (.getfield 22, 3) := by decide +kernel
theorem dX5_leastLoadedPlace_54 : decode cX5_leastLoadedPlace 54 = .ok (.iload_n 1, 1) := by decide +kernel
theorem dX5_leastLoadedPlace_55 : decode cX5_leastLoadedPlace 55 = .ok (.iaload, 1) := by decide +kernel
theorem dX5_leastLoadedPlace_56 : decode cX5_leastLoadedPlace 56 = .ok (.goto 13, 3) := by decide +kernel
theorem dX5_leastLoadedPlace_59 : decode cX5_leastLoadedPlace 59 = .ok (.aload_n 0, 1) := by decide +kernel
theorem dX5_leastLoadedPlace_60 : decode cX5_leastLoadedPlace 60 = .ok (.getfield 41, 3) := by decide +kernel
theorem dX5_leastLoadedPlace_63 : decode cX5_leastLoadedPlace 63 = .ok (.iload 4, 2) := by decide +kernel
theorem dX5_leastLoadedPlace_65 : decode cX5_leastLoadedPlace 65 = .ok (.iload_n 1, 1) := by decide +kernel
theorem dX5_leastLoadedPlace_66 : decode cX5_leastLoadedPlace 66 = .ok (.invokevirtual 178, 3) := by decide +kernel
theorem dX5_leastLoadedPlace_69 : decode cX5_leastLoadedPlace 69 = .ok (.ireturn, 1) := by decide +kernel
theorem dX5_halt_0 : decode cX5_halt 0 = .ok (.aload_n 0, 1) := by decide +kernel
theorem dX5_halt_1 : decode cX5_halt 1 = .ok (.iload_n 1, 1) := by decide +kernel
theorem dX5_halt_2 : decode cX5_halt 2 = .ok (.invokevirtual 121, 3) := by decide +kernel
theorem dX5_halt_5 : decode cX5_halt 5 = .ok (.ifCond .ne 5, 3) := by decide +kernel
theorem dX5_halt_8 : decode cX5_halt 8 = .ok (.iconst (-1), 1) := by decide +kernel
theorem dX5_halt_9 : decode cX5_halt 9 = .ok (.ireturn, 1) := by decide +kernel
theorem dX5_halt_10 : decode cX5_halt 10 = .ok (.iconst 0, 1) := by decide +kernel
theorem dX5_halt_11 : decode cX5_halt 11 = .ok (.istore_n 2, 1) := by decide +kernel
theorem dX5_halt_12 : decode cX5_halt 12 = .ok (.iconst 0, 1) := by decide +kernel
theorem dX5_halt_13 : decode cX5_halt 13 = .ok (.istore_n 3, 1) := by decide +kernel
theorem dX5_halt_14 : decode cX5_halt 14 = .ok (.iload_n 3, 1) := by decide +kernel
theorem dX5_halt_15 : decode cX5_halt 15 = .ok (.aload_n 0, 1) := by decide +kernel
theorem dX5_halt_16 : decode cX5_halt 16 = .ok (.getfield 32, 3) := by decide +kernel
theorem dX5_halt_19 : decode cX5_halt 19 = .ok (.getfield 88, 3) := by decide +kernel
theorem dX5_halt_22 : decode cX5_halt 22 = .ok (.if_icmp .ge 97, 3) := by decide +kernel
theorem dX5_halt_25 : decode cX5_halt 25 = .ok (.iconst 0, 1) := by decide +kernel
theorem dX5_halt_26 : decode cX5_halt 26 = .ok (.istore 4, 2) := by decide +kernel
theorem dX5_halt_28 : decode cX5_halt 28 = .ok (.iload 4, 2) := by decide +kernel
theorem dX5_halt_30 : decode cX5_halt 30 = .ok (.aload_n 0, 1) := by decide +kernel
theorem dX5_halt_31 : decode cX5_halt 31 = .ok (.getfield 32, 3) := by decide +kernel
theorem dX5_halt_34 : decode cX5_halt 34 = .ok (.getfield 181, 3) := by decide +kernel
theorem dX5_halt_37 : decode cX5_halt 37 = .ok (.if_icmp .ge 76, 3) := by decide +kernel
theorem dX5_halt_40 : decode cX5_halt 40 = .ok (.iload_n 3, 1) := by decide +kernel
theorem dX5_halt_41 : decode cX5_halt 41 = .ok (.bipush 32, 2) := by decide +kernel
theorem dX5_halt_43 : decode cX5_halt 43 = .ok (.imul, 1) := by decide +kernel
theorem dX5_halt_44 : decode cX5_halt 44 = .ok (.iload 4, 2) := by decide +kernel
theorem dX5_halt_46 : decode cX5_halt 46 = .ok (.iadd, 1) := by decide +kernel
theorem dX5_halt_47 : decode cX5_halt 47 = .ok (.istore 5, 2) := by decide +kernel
theorem dX5_halt_49 : decode cX5_halt 49 = .ok (.aload_n 0, 1) := by decide +kernel
theorem dX5_halt_50 : decode cX5_halt 50 = .ok (.getfield 41, 3) := by decide +kernel
theorem dX5_halt_53 : decode cX5_halt 53 = .ok (.getfield 184, 3) := by decide +kernel
theorem dX5_halt_56 : decode cX5_halt 56 = .ok (.iload 5, 2) := by decide +kernel
theorem dX5_halt_58 : decode cX5_halt 58 = .ok (.iaload, 1) := by decide +kernel
theorem dX5_halt_59 : decode cX5_halt 59 = .ok (.istore 6, 2) := by decide +kernel
theorem dX5_halt_61 : decode cX5_halt 61 = .ok (.iload 6, 2) := by decide +kernel
theorem dX5_halt_63 : decode cX5_halt 63 = .ok (.iconst (-1), 1) := by decide +kernel
theorem dX5_halt_64 : decode cX5_halt 64 = .ok (.if_icmp .eq 43, 3) := by decide +kernel
theorem dX5_halt_67 : decode cX5_halt 67 = .ok (.iload 6, 2) := by decide +kernel
theorem dX5_halt_69 : decode cX5_halt 69 = .ok (.bipush 8, 2) := by decide +kernel
theorem dX5_halt_71 : decode cX5_halt 71 = .ok (.idiv, 1) := by decide +kernel
theorem dX5_halt_72 : decode cX5_halt 72 = .ok (.iload_n 1, 1) := by decide +kernel
theorem dX5_halt_73 : decode cX5_halt 73 = .ok (.if_icmp .ne 34, 3) := by decide +kernel
theorem dX5_halt_76 : decode cX5_halt 76 = .ok (.iload_n 2, 1) := by decide +kernel
theorem dX5_halt_77 : decode cX5_halt 77 = .ok (.aload_n 0, 1) := by decide +kernel
theorem dX5_halt_78 : decode cX5_halt 78 = .ok (.getfield 41, 3) := by decide +kernel
theorem dX5_halt_81 : decode cX5_halt 81 = .ok (.iload 5, 2) := by decide +kernel
theorem dX5_halt_83 : decode cX5_halt 83 = .ok (.invokevirtual 187, 3) := by decide +kernel
theorem dX5_halt_86 : decode cX5_halt 86 = .ok (.ifCond .eq 7, 3) := by decide +kernel
theorem dX5_halt_89 : decode cX5_halt 89 = .ok (.iconst 1, 1) := by decide +kernel
theorem dX5_halt_90 : decode cX5_halt 90 = .ok (.goto 4, 3) := by decide +kernel
theorem dX5_halt_93 : decode cX5_halt 93 = .ok (.iconst 0, 1) := by decide +kernel
theorem dX5_halt_94 : decode cX5_halt 94 = .ok (.iadd, 1) := by decide +kernel
theorem dX5_halt_95 : decode cX5_halt 95 = .ok (.istore_n 2, 1) := by decide +kernel
theorem dX5_halt_96 : decode cX5_halt 96 = .ok (.aload_n 0, 1) := by decide +kernel
theorem dX5_halt_97 : decode cX5_halt 97 = .ok (.getfield 41, 3) := by decide +kernel
theorem dX5_halt_100 : decode cX5_halt 100 = .ok (.iload 5, 2) := by decide +kernel
theorem dX5_halt_102 : decode cX5_halt 102 = .ok (.iconst 0, 1) := by decide +kernel
theorem dX5_halt_103 : decode cX5_halt 103 = .ok (.iconst (-1), 1) := by decide +kernel
theorem dX5_halt_104 : decode cX5_halt 104 = .ok (.invokevirtual 100, 3) := by decide +kernel
theorem dX5_halt_107 : decode cX5_halt 107 = .ok (.iinc 4 1, 3) := by decide +kernel
theorem dX5_halt_110 : decode cX5_halt 110 = .ok (.goto (-82), 3) := by decide +kernel
theorem dX5_halt_113 : decode cX5_halt 113 = .ok (.iinc 3 1, 3) := by decide +kernel
theorem dX5_halt_116 : decode cX5_halt 116 = .ok (.goto (-102), 3) := by decide +kernel
theorem dX5_halt_119 : decode cX5_halt 119 = .ok (.iconst 0, 1) := by decide +kernel
theorem dX5_halt_120 : decode cX5_halt 120 = .ok (.istore_n 3, 1) := by decide +kernel
theorem dX5_halt_121 : decode cX5_halt 121 = .ok (.iload_n 3, 1) := by decide +kernel
theorem dX5_halt_122 : decode cX5_halt 122 = .ok (.aload_n 0, 1) := by decide +kernel
theorem dX5_halt_123 : decode cX5_halt 123 = .ok (.getfield 32, 3) := by decide +kernel
theorem dX5_halt_126 : decode cX5_halt 126 = .ok (.getfield 85, 3) := by decide +kernel
theorem dX5_halt_129 : decode cX5_halt 129 = .ok (.iload_n 1, 1) := by decide +kernel
theorem dX5_halt_130 : decode cX5_halt 130 = .ok (.iaload, 1) := by decide +kernel
theorem dX5_halt_131 : decode cX5_halt 131 = .ok (.if_icmp .ge 30, 3) := by decide +kernel
theorem dX5_halt_134 : decode cX5_halt 134 = .ok (.iload_n 2, 1) := by decide +kernel
theorem dX5_halt_135 : decode cX5_halt 135 = .ok (.aload_n 0, 1) := by decide +kernel
theorem dX5_halt_136 : decode cX5_halt 136 = .ok (.iload_n 1, 1) := by decide +kernel
theorem dX5_halt_137 : decode cX5_halt 137 = .ok (.bipush 8, 2) := by decide +kernel
theorem dX5_halt_139 : decode cX5_halt 139 = .ok (.imul, 1) := by decide +kernel
theorem dX5_halt_140 : decode cX5_halt 140 = .ok (.iload_n 3, 1) := by decide +kernel
theorem dX5_halt_141 : decode cX5_halt 141 = .ok (.iadd, 1) := by decide +kernel
theorem dX5_halt_142 : decode cX5_halt 142 = .ok (.invokevirtual 57, 3) := by decide +kernel
theorem dX5_halt_145 : decode cX5_halt 145 = .ok (.ifCond .eq 7, 3) := by decide +kernel
theorem dX5_halt_148 : decode cX5_halt 148 = .ok (.iconst 1, 1) := by decide +kernel
theorem dX5_halt_149 : decode cX5_halt 149 = .ok (.goto 4, 3) := by decide +kernel
theorem dX5_halt_152 : decode cX5_halt 152 = .ok (.iconst 0, 1) := by decide +kernel
theorem dX5_halt_153 : decode cX5_halt 153 = .ok (.iadd, 1) := by decide +kernel
theorem dX5_halt_154 : decode cX5_halt 154 = .ok (.istore_n 2, 1) := by decide +kernel
theorem dX5_halt_155 : decode cX5_halt 155 = .ok (.iinc 3 1, 3) := by decide +kernel
theorem dX5_halt_158 : decode cX5_halt 158 = .ok (.goto (-37), 3) := by decide +kernel
theorem dX5_halt_161 : decode cX5_halt 161 = .ok (.aload_n 0, 1) := by decide +kernel
theorem dX5_halt_162 : decode cX5_halt 162 = .ok (.dup, 1) := by decide +kernel
theorem dX5_halt_163 : decode cX5_halt 163 = .ok (.getfield 50, 3) := by decide +kernel
theorem dX5_halt_166 : decode cX5_halt 166 = .ok (.iconst 1, 1) := by decide +kernel
theorem dX5_halt_167 : decode cX5_halt 167 = .ok (.iload_n 1, 1) := by decide +kernel
theorem dX5_halt_168 : decode cX5_halt 168 = .ok (.ishl, 1) := by decide +kernel
theorem dX5_halt_169 : decode cX5_halt 169 = .ok (.iconst (-1), 1) := by decide +kernel
theorem dX5_halt_170 : decode cX5_halt 170 = .ok (.ixor, 1) := by decide +kernel
theorem dX5_halt_171 : decode cX5_halt 171 = .ok (.iand, 1) := by decide +kernel
theorem dX5_halt_172 : decode cX5_halt 172 = .ok (.putfield 50, 3) := by decide +kernel
theorem dX5_halt_175 : decode cX5_halt 175 = .ok (.aload_n 0, 1) := by decide +kernel
theorem dX5_halt_176 : decode cX5_halt 176 = .ok (.getfield 12, 3) := by decide +kernel
theorem dX5_halt_179 : decode cX5_halt 179 = .ok (.getfield 190, 3) := by decide +kernel
theorem dX5_halt_182 : decode cX5_halt 182 = .ok (.iload_n 1, 1) := by decide +kernel
theorem dX5_halt_183 : decode cX5_halt 183 = .ok (.dup2, 1) := by decide +kernel
theorem dX5_halt_184 : decode cX5_halt 184 = .ok (.iaload, 1) := by decide +kernel
theorem dX5_halt_185 : decode cX5_halt 185 = .ok (.iload_n 2, 1) := by decide +kernel
theorem dX5_halt_186 : decode cX5_halt 186 = .ok (.iadd, 1) := by decide +kernel
theorem dX5_halt_187 : decode cX5_halt 187 = .ok (.iastore, 1) := by decide +kernel
theorem dX5_halt_188 : decode cX5_halt 188 = .ok (.iload_n 2, 1) := by decide +kernel
theorem dX5_halt_189 : decode cX5_halt 189 = .ok (.ireturn, 1) := by decide +kernel
theorem dX5_forgetLine_0 : decode cX5_forgetLine 0 = .ok (.aload_n 0, 1) := by decide +kernel
theorem dX5_forgetLine_1 : decode cX5_forgetLine 1 = .ok (.getfield 29, 3) := by decide +kernel
theorem dX5_forgetLine_4 : decode cX5_forgetLine 4 = .ok (.iload_n 1, 1) := by decide +kernel
theorem dX5_forgetLine_5 : decode cX5_forgetLine 5 = .ok (.baload, 1) := by decide +kernel
theorem dX5_forgetLine_6 : decode cX5_forgetLine 6 = .ok (.istore_n 2, 1) := by decide +kernel
theorem dX5_forgetLine_7 : decode cX5_forgetLine 7 = .ok (.aload_n 0, 1) := by decide +kernel
theorem dX5_forgetLine_8 : decode cX5_forgetLine 8 = .ok (.getfield 18, 3) := by decide +kernel
theorem dX5_forgetLine_11 : decode cX5_forgetLine 11 = .ok (.iload_n 1, 1) := by decide +kernel
theorem dX5_forgetLine_12 : decode cX5_forgetLine 12 = .ok (.iconst (-1), 1) := by decide +kernel
theorem dX5_forgetLine_13 : decode cX5_forgetLine 13 = .ok (.iastore, 1) := by decide +kernel
theorem dX5_forgetLine_14 : decode cX5_forgetLine 14 = .ok (.aload_n 0, 1) := by decide +kernel
theorem dX5_forgetLine_15 : decode cX5_forgetLine 15 = .ok (.getfield 22, 3) := by decide +kernel
theorem dX5_forgetLine_18 : decode cX5_forgetLine 18 = .ok (.iload_n 1, 1) := by decide +kernel
theorem dX5_forgetLine_19 : decode cX5_forgetLine 19 = .ok (.iconst (-1), 1) := by decide +kernel
theorem dX5_forgetLine_20 : decode cX5_forgetLine 20 = .ok (.iastore, 1) := by decide +kernel
theorem dX5_forgetLine_21 : decode cX5_forgetLine 21 = .ok (.aload_n 0, 1) := by decide +kernel
theorem dX5_forgetLine_22 : decode cX5_forgetLine 22 = .ok (.getfield 25, 3) := by decide +kernel
theorem dX5_forgetLine_25 : decode cX5_forgetLine 25 = .ok (.iload_n 1, 1) := by decide +kernel
theorem dX5_forgetLine_26 : decode cX5_forgetLine 26 = .ok (.iconst 0, 1) := by decide +kernel
theorem dX5_forgetLine_27 : decode cX5_forgetLine 27 = .ok (.bastore, 1) := by decide +kernel
theorem dX5_forgetLine_28 : decode cX5_forgetLine 28 = .ok (.aload_n 0, 1) := by decide +kernel
theorem dX5_forgetLine_29 : decode cX5_forgetLine 29 = .ok (.getfield 29, 3) := by decide +kernel
theorem dX5_forgetLine_32 : decode cX5_forgetLine 32 = .ok (.iload_n 1, 1) := by decide +kernel
theorem dX5_forgetLine_33 : decode cX5_forgetLine 33 = .ok (.iconst 0, 1) := by decide +kernel
theorem dX5_forgetLine_34 : decode cX5_forgetLine 34 = .ok (.bastore, 1) := by decide +kernel
theorem dX5_forgetLine_35 : decode cX5_forgetLine 35 = .ok (.iload_n 2, 1) := by decide +kernel
theorem dX5_forgetLine_36 : decode cX5_forgetLine 36 = .ok (.ireturn, 1) := by decide +kernel
theorem dX5_promise_0 : decode cX5_promise 0 = .ok (.aload_n 0, 1) := by decide +kernel
theorem dX5_promise_1 : decode cX5_promise 1 = .ok (.iload_n 1, 1) := by decide +kernel
theorem dX5_promise_2 : decode cX5_promise 2 = .ok (.invokevirtual 121, 3) := by decide +kernel
theorem dX5_promise_5 : decode cX5_promise 5 = .ok (.ifCond .ne 19, 3) := by decide +kernel
theorem dX5_promise_8 : decode cX5_promise 8 = .ok (.aload_n 0, 1) := by decide +kernel
theorem dX5_promise_9 : decode cX5_promise 9 = .ok (.iload_n 1, 1) := by decide +kernel
theorem dX5_promise_10 : decode cX5_promise 10 = .ok (.invokevirtual 82, 3) := by decide +kernel
theorem dX5_promise_13 : decode cX5_promise 13 = .ok (.ifCond .ne 11, 3) := by decide +kernel
theorem dX5_promise_16 : decode cX5_promise 16 = .ok (.aload_n 0, 1) := by decide +kernel
theorem dX5_promise_17 : decode cX5_promise 17 = .ok (.iload_n 1, 1) := by decide +kernel
theorem dX5_promise_18 : decode cX5_promise 18 = .ok (.invokevirtual 104, 3) := by decide +kernel
theorem dX5_promise_21 : decode cX5_promise 21 = .ok (.ifCond .eq 5, 3) := by decide +kernel
theorem dX5_promise_24 : decode cX5_promise 24 = .ok (.iconst 4, 1) := by decide +kernel
theorem dX5_promise_25 : decode cX5_promise 25 = .ok (.ireturn, 1) := by decide +kernel
theorem dX5_promise_26 : decode cX5_promise 26 = .ok (.aload_n 0, 1) := by decide +kernel
theorem dX5_promise_27 : decode cX5_promise 27 = .ok (.getfield 41, 3) := by decide +kernel
theorem dX5_promise_30 : decode cX5_promise 30 = .ok (.invokevirtual 137, 3) := by decide +kernel
theorem dX5_promise_33 : decode cX5_promise 33 = .ok (.aload_n 0, 1) := by decide +kernel
theorem dX5_promise_34 : decode cX5_promise 34 = .ok (.invokevirtual 141, 3) := by decide +kernel
theorem dX5_promise_37 : decode cX5_promise 37 = .ok (.aload_n 0, 1) := by decide +kernel
theorem dX5_promise_38 : decode cX5_promise 38 = .ok (.getfield 32, 3) := by decide +kernel
theorem dX5_promise_41 : decode cX5_promise 41 = .ok (.getfield 85, 3) := by decide +kernel
theorem dX5_promise_44 : decode cX5_promise 44 = .ok (.iload_n 1, 1) := by decide +kernel
theorem dX5_promise_45 : decode cX5_promise 45 = .ok (.iaload, 1) := by decide +kernel
theorem dX5_promise_46 : decode cX5_promise 46 = .ok (.iadd, 1) := by decide +kernel
theorem dX5_promise_47 : decode cX5_promise 47 = .ok (.if_icmp .ge 5, 3) := by decide +kernel
theorem dX5_promise_50 : decode cX5_promise 50 = .ok (.iconst 2, 1) := by decide +kernel
theorem dX5_promise_51 : decode cX5_promise 51 = .ok (.ireturn, 1) := by decide +kernel
theorem dX5_promise_52 : decode cX5_promise 52 = .ok (.aload_n 0, 1) := by decide +kernel
theorem dX5_promise_53 : decode cX5_promise 53 = .ok (.dup, 1) := by decide +kernel
theorem dX5_promise_54 : decode cX5_promise 54 = .ok (.getfield 54, 3) := by decide +kernel
theorem dX5_promise_57 : decode cX5_promise 57 = .ok (.iconst 1, 1) := by decide +kernel
theorem dX5_promise_58 : decode cX5_promise 58 = .ok (.iload_n 1, 1) := by decide +kernel
theorem dX5_promise_59 : decode cX5_promise 59 = .ok (.ishl, 1) := by decide +kernel
theorem dX5_promise_60 : decode cX5_promise 60 = .ok (.ior, 1) := by decide +kernel
theorem dX5_promise_61 : decode cX5_promise 61 = .ok (.putfield 54, 3) := by decide +kernel
theorem dX5_promise_64 : decode cX5_promise 64 = .ok (.iconst 0, 1) := by decide +kernel
theorem dX5_promise_65 : decode cX5_promise 65 = .ok (.ireturn, 1) := by decide +kernel
theorem dX5_signal_0 : decode cX5_signal 0 = .ok (.aload_n 0, 1) := by decide +kernel
theorem dX5_signal_1 : decode cX5_signal 1 = .ok (.getfield 32, 3) := by decide +kernel
theorem dX5_signal_4 : decode cX5_signal 4 = .ok (.iload_n 1, 1) := by decide +kernel
theorem dX5_signal_5 : decode cX5_signal 5 = .ok (.iload_n 2, 1) := by decide +kernel
theorem dX5_signal_6 : decode cX5_signal 6 = .ok (.invokevirtual 193, 3) := by decide +kernel
theorem dX5_signal_9 : decode cX5_signal 9 = .ok (.ifCond .eq 11, 3) := by decide +kernel
theorem dX5_signal_12 : decode cX5_signal 12 = .ok (.aload_n 0, 1) := by decide +kernel
theorem dX5_signal_13 : decode cX5_signal 13 = .ok (.iload_n 1, 1) := by decide +kernel
theorem dX5_signal_14 : decode cX5_signal 14 = .ok (.invokevirtual 121, 3) := by decide +kernel
theorem dX5_signal_17 : decode cX5_signal 17 = .ok (.ifCond .ne 5, 3) := by decide +kernel
theorem dX5_signal_20 : decode cX5_signal 20 = .ok (.iconst (-1), 1) := by decide +kernel
theorem dX5_signal_21 : decode cX5_signal 21 = .ok (.ireturn, 1) := by decide +kernel
theorem dX5_signal_22 : decode cX5_signal 22 = .ok (.iload_n 1, 1) := by decide +kernel
theorem dX5_signal_23 : decode cX5_signal 23 = .ok (.bipush 8, 2) := by decide +kernel
theorem dX5_signal_25 : decode cX5_signal 25 = .ok (.imul, 1) := by decide +kernel
theorem dX5_signal_26 : decode cX5_signal 26 = .ok (.iload_n 2, 1) := by decide +kernel
theorem dX5_signal_27 : decode cX5_signal 27 = .ok (.iadd, 1) := by decide +kernel
theorem dX5_signal_28 : decode cX5_signal 28 = .ok (.istore 4, 2) := by decide +kernel
theorem dX5_signal_30 : decode cX5_signal 30 = .ok (.iload_n 3, 1) := by decide +kernel
theorem dX5_signal_31 : decode cX5_signal 31 = .ok (.ifCond .eq 24, 3) := by decide +kernel
theorem dX5_signal_34 : decode cX5_signal 34 = .ok (.aload_n 0, 1) := by decide +kernel
theorem dX5_signal_35 : decode cX5_signal 35 = .ok (.getfield 22, 3) := by decide +kernel
theorem dX5_signal_38 : decode cX5_signal 38 = .ok (.iload 4, 2) := by decide +kernel
theorem dX5_signal_40 : decode cX5_signal 40 = .ok (.iaload, 1) := by decide +kernel
theorem dX5_signal_41 : decode cX5_signal 41 = .ok (.iconst (-1), 1) := by decide +kernel
theorem dX5_signal_42 : decode cX5_signal 42 = .ok (.if_icmp .eq 13, 3) := by decide +kernel
theorem dX5_signal_45 : decode cX5_signal 45 = .ok (.aload_n 0, 1) := by decide +kernel
theorem dX5_signal_46 : decode cX5_signal 46 = .ok (.getfield 22, 3) := by decide +kernel
theorem dX5_signal_49 : decode cX5_signal 49 = .ok (.iload 4, 2) := by decide +kernel
theorem dX5_signal_51 : decode cX5_signal 51 = .ok (.iaload, 1) := by decide +kernel
theorem dX5_signal_52 : decode cX5_signal 52 = .ok (.goto 10, 3) := by decide +kernel
theorem dX5_signal_55 : decode cX5_signal 55 = .ok (.aload_n 0, 1) := by decide +kernel
theorem dX5_signal_56 : decode cX5_signal 56 = .ok (.getfield 18, 3) := by decide +kernel
theorem dX5_signal_59 : decode cX5_signal 59 = .ok (.iload 4, 2) := by decide +kernel
theorem dX5_signal_61 : decode cX5_signal 61 = .ok (.iaload, 1) := by decide +kernel
theorem dX5_signal_62 : decode cX5_signal 62 = .ok (.istore 5, 2) := by decide +kernel
theorem dX5_signal_64 : decode cX5_signal 64 = .ok (.iload 5, 2) := by decide +kernel
theorem dX5_signal_66 : decode cX5_signal 66 = .ok (.iconst (-1), 1) := by decide +kernel
theorem dX5_signal_67 : decode cX5_signal 67 = .ok (.if_icmp .eq 20, 3) := by decide +kernel
theorem dX5_signal_70 : decode cX5_signal 70 = .ok (.aload_n 0, 1) := by decide +kernel
theorem dX5_signal_71 : decode cX5_signal 71 = .ok (.iload 4, 2) := by decide +kernel
theorem dX5_signal_73 : decode cX5_signal 73 = .ok (.iload 5, 2) := by decide +kernel
theorem dX5_signal_75 : decode cX5_signal 75 = .ok (.invokevirtual 196, 3) := by decide +kernel
theorem dX5_signal_78 : decode cX5_signal 78 = .ok (.ifCond .eq 7, 3) := by decide +kernel
theorem dX5_signal_81 : decode cX5_signal 81 = .ok (.iconst 1, 1) := by decide +kernel
theorem dX5_signal_82 : decode cX5_signal 82 = .ok (.goto 4, 3) := by decide +kernel
theorem dX5_signal_85 : decode cX5_signal 85 = .ok (.iconst 0, 1) := by decide +kernel
theorem dX5_signal_86 : decode cX5_signal 86 = .ok (.ireturn, 1) := by decide +kernel
theorem dX5_signal_87 : decode cX5_signal 87 = .ok (.aload_n 0, 1) := by decide +kernel
theorem dX5_signal_88 : decode cX5_signal 88 = .ok (.getfield 29, 3) := by decide +kernel
theorem dX5_signal_91 : decode cX5_signal 91 = .ok (.iload 4, 2) := by decide +kernel
theorem dX5_signal_93 : decode cX5_signal 93 = .ok (.baload, 1) := by decide +kernel
theorem dX5_signal_94 : decode cX5_signal 94 = .ok (.ifCond .eq 18, 3) := by decide +kernel
theorem dX5_signal_97 : decode cX5_signal 97 = .ok (.aload_n 0, 1) := by decide +kernel
theorem dX5_signal_98 : decode cX5_signal 98 = .ok (.getfield 12, 3) := by decide +kernel
theorem dX5_signal_101 : decode cX5_signal 101 = .ok (.getfield 114, 3) := by decide +kernel
theorem dX5_signal_104 : decode cX5_signal 104 = .ok (.iload_n 1, 1) := by decide +kernel
theorem dX5_signal_105 : decode cX5_signal 105 = .ok (.dup2, 1) := by decide +kernel
theorem dX5_signal_106 : decode cX5_signal 106 = .ok (.iaload, 1) := by decide +kernel
theorem dX5_signal_107 : decode cX5_signal 107 = .ok (.iconst 1, 1) := by decide +kernel
theorem dX5_signal_108 : decode cX5_signal 108 = .ok (.iadd, 1) := by decide +kernel
theorem dX5_signal_109 : decode cX5_signal 109 = .ok (.iastore, 1) := by decide +kernel
theorem dX5_signal_110 : decode cX5_signal 110 = .ok (.iconst 0, 1) := by decide +kernel
theorem dX5_signal_111 : decode cX5_signal 111 = .ok (.ireturn, 1) := by decide +kernel
theorem dX5_signal_112 : decode cX5_signal 112 = .ok (.aload_n 0, 1) := by decide +kernel
theorem dX5_signal_113 : decode cX5_signal 113 = .ok (.getfield 29, 3) := by decide +kernel
theorem dX5_signal_116 : decode cX5_signal 116 = .ok (.iload 4, 2) := by decide +kernel
theorem dX5_signal_118 : decode cX5_signal 118 = .ok (.iconst 1, 1) := by decide +kernel
theorem dX5_signal_119 : decode cX5_signal 119 = .ok (.bastore, 1) := by decide +kernel
theorem dX5_signal_120 : decode cX5_signal 120 = .ok (.iconst 1, 1) := by decide +kernel
theorem dX5_signal_121 : decode cX5_signal 121 = .ok (.ireturn, 1) := by decide +kernel
theorem dX5_pass_0 : decode cX5_pass 0 = .ok (.iconst 0, 1) := by decide +kernel
theorem dX5_pass_1 : decode cX5_pass 1 = .ok (.istore_n 2, 1) := by decide +kernel
theorem dX5_pass_2 : decode cX5_pass 2 = .ok (.iconst 0, 1) := by decide +kernel
theorem dX5_pass_3 : decode cX5_pass 3 = .ok (.istore_n 3, 1) := by decide +kernel
theorem dX5_pass_4 : decode cX5_pass 4 = .ok (.iload_n 3, 1) := by decide +kernel
theorem dX5_pass_5 : decode cX5_pass 5 = .ok (.iload_n 1, 1) := by decide +kernel
theorem dX5_pass_6 : decode cX5_pass 6 = .ok (.if_icmp .ge 16, 3) := by decide +kernel
theorem dX5_pass_9 : decode cX5_pass 9 = .ok (.iload_n 2, 1) := by decide +kernel
theorem dX5_pass_10 : decode cX5_pass 10 = .ok (.aload_n 0, 1) := by decide +kernel
theorem dX5_pass_11 : decode cX5_pass 11 = .ok (.invokevirtual 199, 3) := by decide +kernel
theorem dX5_pass_14 : decode cX5_pass 14 = .ok (.iadd, 1) := by decide +kernel
theorem dX5_pass_15 : decode cX5_pass 15 = .ok (.istore_n 2, 1) := by decide +kernel
theorem dX5_pass_16 : decode cX5_pass 16 = .ok (.iinc 3 1, 3) := by decide +kernel
theorem dX5_pass_19 : decode cX5_pass 19 = .ok (.goto (-15), 3) := by decide +kernel
theorem dX5_pass_22 : decode cX5_pass 22 = .ok (.iload_n 2, 1) := by decide +kernel
theorem dX5_pass_23 : decode cX5_pass 23 = .ok (.ireturn, 1) := by decide +kernel
theorem dX5_passOne_0 : decode cX5_passOne 0 = .ok (.iconst 0, 1) := by decide +kernel
theorem dX5_passOne_1 : decode cX5_passOne 1 = .ok (.istore_n 1, 1) := by decide +kernel
theorem dX5_passOne_2 : decode cX5_passOne 2 = .ok (.iconst 0, 1) := by decide +kernel
theorem dX5_passOne_3 : decode cX5_passOne 3 = .ok (.istore_n 2, 1) := by decide +kernel
theorem dX5_passOne_4 : decode cX5_passOne 4 = .ok (.iload_n 2, 1) := by decide +kernel
theorem dX5_passOne_5 : decode cX5_passOne 5 = .ok (.aload_n 0, 1) := by decide +kernel
theorem dX5_passOne_6 : decode cX5_passOne 6 = .ok (.getfield 32, 3) := by decide +kernel
theorem dX5_passOne_9 : decode cX5_passOne 9 = .ok (.getfield 88, 3) := by decide +kernel
theorem dX5_passOne_12 : decode cX5_passOne 12 = .ok (.if_icmp .ge 51, 3) := by decide +kernel
theorem dX5_passOne_15 : decode cX5_passOne 15 = .ok (.aload_n 0, 1) := by decide +kernel
theorem dX5_passOne_16 : decode cX5_passOne 16 = .ok (.getfield 41, 3) := by decide +kernel
theorem dX5_passOne_19 : decode cX5_passOne 19 = .ok (.iload_n 2, 1) := by decide +kernel
theorem dX5_passOne_20 : decode cX5_passOne 20 = .ok (.invokevirtual 153, 3) := by decide +kernel
theorem dX5_passOne_23 : decode cX5_passOne 23 = .ok (.ifCond .eq 14, 3) := by decide +kernel
theorem dX5_passOne_26 : decode cX5_passOne 26 = .ok (.aload_n 0, 1) := by decide +kernel
theorem dX5_passOne_27 : decode cX5_passOne 27 = .ok (.getfield 41, 3) := by decide +kernel
theorem dX5_passOne_30 : decode cX5_passOne 30 = .ok (.iload_n 2, 1) := by decide +kernel
theorem dX5_passOne_31 : decode cX5_passOne 31 = .ok (.invokevirtual 202, 3) := by decide +kernel
theorem dX5_passOne_34 : decode cX5_passOne 34 = .ok (.goto 4, 3) := by decide +kernel
theorem dX5_passOne_37 : decode cX5_passOne 37 = .ok (.iconst (-1), 1) := by decide +kernel
theorem dX5_passOne_38 : decode cX5_passOne 38 = .ok (.istore_n 3, 1) := by decide +kernel
theorem dX5_passOne_39 : decode cX5_passOne 39 = .ok (.iload_n 3, 1) := by decide +kernel
theorem dX5_passOne_40 : decode cX5_passOne 40 = .ok (.iconst (-1), 1) := by decide +kernel
theorem dX5_passOne_41 : decode cX5_passOne 41 = .ok (.if_icmp .eq 16, 3) := by decide +kernel
theorem dX5_passOne_44 : decode cX5_passOne 44 = .ok (.aload_n 0, 1) := by decide +kernel
theorem dX5_passOne_45 : decode cX5_passOne 45 = .ok (.iload_n 2, 1) := by decide +kernel
theorem dX5_passOne_46 : decode cX5_passOne 46 = .ok (.bipush 32, 2) := by decide +kernel
theorem dX5_passOne_48 : decode cX5_passOne 48 = .ok (.imul, 1) := by decide +kernel
theorem dX5_passOne_49 : decode cX5_passOne 49 = .ok (.iload_n 3, 1) := by decide +kernel
theorem dX5_passOne_50 : decode cX5_passOne 50 = .ok (.iadd, 1) := by decide +kernel
theorem dX5_passOne_51 : decode cX5_passOne 51 = .ok (.invokevirtual 205, 3) := by decide +kernel
theorem dX5_passOne_54 : decode cX5_passOne 54 = .ok (.iinc 1 1, 3) := by decide +kernel
theorem dX5_passOne_57 : decode cX5_passOne 57 = .ok (.iinc 2 1, 3) := by decide +kernel
theorem dX5_passOne_60 : decode cX5_passOne 60 = .ok (.goto (-56), 3) := by decide +kernel
theorem dX5_passOne_63 : decode cX5_passOne 63 = .ok (.aload_n 0, 1) := by decide +kernel
theorem dX5_passOne_64 : decode cX5_passOne 64 = .ok (.getfield 12, 3) := by decide +kernel
theorem dX5_passOne_67 : decode cX5_passOne 67 = .ok (.dup, 1) := by decide +kernel
theorem dX5_passOne_68 : decode cX5_passOne 68 = .ok (.getfield 208, 3) := by decide +kernel
theorem dX5_passOne_71 : decode cX5_passOne 71 = .ok (.iconst 1, 1) := by decide +kernel
theorem dX5_passOne_72 : decode cX5_passOne 72 = .ok (.iadd, 1) := by decide +kernel
theorem dX5_passOne_73 : decode cX5_passOne 73 = .ok (.putfield 208, 3) := by decide +kernel
theorem dX5_passOne_76 : decode cX5_passOne 76 = .ok (.iload_n 1, 1) := by decide +kernel
theorem dX5_passOne_77 : decode cX5_passOne 77 = .ok (.ifCond .le 7, 3) := by decide +kernel
theorem dX5_passOne_80 : decode cX5_passOne 80 = .ok (.aload_n 0, 1) := by decide +kernel
theorem dX5_passOne_81 : decode cX5_passOne 81 = .ok (.invokevirtual 211, 3) := by decide +kernel
theorem dX5_passOne_84 : decode cX5_passOne 84 = .ok (.iload_n 1, 1) := by decide +kernel
theorem dX5_passOne_85 : decode cX5_passOne 85 = .ok (.ireturn, 1) := by decide +kernel
theorem dX5_deliver_0 : decode cX5_deliver 0 = .ok (.aload_n 0, 1) := by decide +kernel
theorem dX5_deliver_1 : decode cX5_deliver 1 = .ok (.getfield 41, 3) := by decide +kernel
theorem dX5_deliver_4 : decode cX5_deliver 4 = .ok (.iload_n 1, 1) := by decide +kernel
theorem dX5_deliver_5 : decode cX5_deliver 5 = .ok (.invokevirtual 187, 3) := by decide +kernel
theorem dX5_deliver_8 : decode cX5_deliver 8 = .ok (.pop, 1) := by decide +kernel
theorem dX5_deliver_9 : decode cX5_deliver 9 = .ok (.aload_n 0, 1) := by decide +kernel
theorem dX5_deliver_10 : decode cX5_deliver 10 = .ok (.getfield 41, 3) := by decide +kernel
theorem dX5_deliver_13 : decode cX5_deliver 13 = .ok (.getfield 184, 3) := by decide +kernel
theorem dX5_deliver_16 : decode cX5_deliver 16 = .ok (.iload_n 1, 1) := by decide +kernel
theorem dX5_deliver_17 : decode cX5_deliver 17 = .ok (.iaload, 1) := by decide +kernel
theorem dX5_deliver_18 : decode cX5_deliver 18 = .ok (.istore_n 2, 1) := by decide +kernel
theorem dX5_deliver_19 : decode cX5_deliver 19 = .ok (.iload_n 2, 1) := by decide +kernel
theorem dX5_deliver_20 : decode cX5_deliver 20 = .ok (.ifCond .ge 4, 3) := by decide +kernel
theorem dX5_deliver_23 : decode cX5_deliver 23 = .ok (.return_, 1) := by decide +kernel
theorem dX5_deliver_24 : decode cX5_deliver 24 = .ok (.aload_n 0, 1) := by decide +kernel
theorem dX5_deliver_25 : decode cX5_deliver 25 = .ok (.getfield 22, 3) := by decide +kernel
theorem dX5_deliver_28 : decode cX5_deliver 28 = .ok (.iload_n 2, 1) := by decide +kernel
theorem dX5_deliver_29 : decode cX5_deliver 29 = .ok (.iaload, 1) := by decide +kernel
theorem dX5_deliver_30 : decode cX5_deliver 30 = .ok (.iload_n 1, 1) := by decide +kernel
theorem dX5_deliver_31 : decode cX5_deliver 31 = .ok (.if_icmp .ne 7, 3) := by decide +kernel
theorem dX5_deliver_34 : decode cX5_deliver 34 = .ok (.iconst 1, 1) := by decide +kernel
theorem dX5_deliver_35 : decode cX5_deliver 35 = .ok (.goto 4, 3) := by decide +kernel
theorem dX5_deliver_38 : decode cX5_deliver 38 = .ok (.iconst 0, 1) := by decide +kernel
theorem dX5_deliver_39 : decode cX5_deliver 39 = .ok (.istore_n 3, 1) := by decide +kernel
theorem dX5_deliver_40 : decode cX5_deliver 40 = .ok (.iload_n 3, 1) := by decide +kernel
theorem dX5_deliver_41 : decode cX5_deliver 41 = .ok (.ifCond .ne 20, 3) := by decide +kernel
theorem dX5_deliver_44 : decode cX5_deliver 44 = .ok (.aload_n 0, 1) := by decide +kernel
theorem dX5_deliver_45 : decode cX5_deliver 45 = .ok (.getfield 22, 3) := by decide +kernel
theorem dX5_deliver_48 : decode cX5_deliver 48 = .ok (.iload_n 2, 1) := by decide +kernel
theorem dX5_deliver_49 : decode cX5_deliver 49 = .ok (.iaload, 1) := by decide +kernel
theorem dX5_deliver_50 : decode cX5_deliver 50 = .ok (.iconst (-1), 1) := by decide +kernel
theorem dX5_deliver_51 : decode cX5_deliver 51 = .ok (.if_icmp .eq 10, 3) := by decide +kernel
theorem dX5_deliver_54 : decode cX5_deliver 54 = .ok (.aload_n 0, 1) := by decide +kernel
theorem dX5_deliver_55 : decode cX5_deliver 55 = .ok (.getfield 25, 3) := by decide +kernel
theorem dX5_deliver_58 : decode cX5_deliver 58 = .ok (.iload_n 2, 1) := by decide +kernel
theorem dX5_deliver_59 : decode cX5_deliver 59 = .ok (.iconst 1, 1) := by decide +kernel
theorem dX5_deliver_60 : decode cX5_deliver 60 = .ok (.bastore, 1) := by decide +kernel
theorem dX5_deliver_61 : decode cX5_deliver 61 = .ok (.aload_n 0, 1) := by decide +kernel
theorem dX5_deliver_62 : decode cX5_deliver 62 = .ok (.getfield 12, 3) := by decide +kernel
theorem dX5_deliver_65 : decode cX5_deliver 65 = .ok (.iload_n 2, 1) := by decide +kernel
theorem dX5_deliver_66 : decode cX5_deliver 66 = .ok (.iload_n 1, 1) := by decide +kernel
theorem dX5_deliver_67 : decode cX5_deliver 67 = .ok (.iload_n 3, 1) := by decide +kernel
theorem dX5_deliver_68 : decode cX5_deliver 68 = .ok (.invokevirtual 214, 3) := by decide +kernel
theorem dX5_deliver_71 : decode cX5_deliver 71 = .ok (.return_, 1) := by decide +kernel
theorem dX5_releaseDrained_0 : decode cX5_releaseDrained 0 = .ok (.iconst 0, 1) := by decide +kernel
theorem dX5_releaseDrained_1 : decode cX5_releaseDrained 1 = .ok (.istore_n 1, 1) := by decide +kernel
theorem dX5_releaseDrained_2 : decode cX5_releaseDrained 2 = .ok (.iload_n 1, 1) := by decide +kernel
theorem dX5_releaseDrained_3 : decode cX5_releaseDrained 3 = .ok (.aload_n 0, 1) := by decide +kernel
theorem dX5_releaseDrained_4 : decode cX5_releaseDrained 4 = .ok (.getfield 32, 3) := by decide +kernel
theorem dX5_releaseDrained_7 : decode cX5_releaseDrained 7 = .ok (.getfield 79, 3) := by decide +kernel
theorem dX5_releaseDrained_10 : decode cX5_releaseDrained 10 = .ok (.bipush 8, 2) := by decide +kernel
theorem dX5_releaseDrained_12 : decode cX5_releaseDrained 12 = .ok (.imul, 1) := by decide +kernel
theorem dX5_releaseDrained_13 : decode cX5_releaseDrained 13 = .ok (.if_icmp .ge 49, 3) := by decide +kernel
theorem dX5_releaseDrained_16 : decode cX5_releaseDrained 16 = .ok (.aload_n 0, 1) := by decide +kernel
theorem dX5_releaseDrained_17 : decode cX5_releaseDrained 17 = .ok (.getfield 25, 3) := by decide +kernel
theorem dX5_releaseDrained_20 : decode cX5_releaseDrained 20 = .ok (.iload_n 1, 1) := by decide +kernel
theorem dX5_releaseDrained_21 : decode cX5_releaseDrained 21 = .ok (.baload, 1) := by decide +kernel
theorem dX5_releaseDrained_22 : decode cX5_releaseDrained 22 = .ok (.ifCond .eq 34, 3) := by decide +kernel
theorem dX5_releaseDrained_25 : decode cX5_releaseDrained 25 = .ok (.aload_n 0, 1) := by decide +kernel
theorem dX5_releaseDrained_26 : decode cX5_releaseDrained 26 = .ok (.getfield 22, 3) := by decide +kernel
theorem dX5_releaseDrained_29 : decode cX5_releaseDrained 29 = .ok (.iload_n 1, 1) := by decide +kernel
theorem dX5_releaseDrained_30 : decode cX5_releaseDrained 30 = .ok (.iaload, 1) := by decide +kernel
theorem dX5_releaseDrained_31 : decode cX5_releaseDrained 31 = .ok (.iconst (-1), 1) := by decide +kernel
theorem dX5_releaseDrained_32 : decode cX5_releaseDrained 32 = .ok (.if_icmp .eq 24, 3) := by decide +kernel
theorem dX5_releaseDrained_35 : decode cX5_releaseDrained 35 = .ok (.aload_n 0, 1) := by decide +kernel
theorem dX5_releaseDrained_36 : decode cX5_releaseDrained 36 = .ok (.getfield 41, 3) := by decide +kernel
theorem dX5_releaseDrained_39 : decode cX5_releaseDrained 39 = .ok (.aload_n 0, 1) := by decide +kernel
theorem dX5_releaseDrained_40 : decode cX5_releaseDrained 40 = .ok (.getfield 22, 3) := by decide +kernel
theorem dX5_releaseDrained_43 : decode cX5_releaseDrained 43 = .ok (.iload_n 1, 1) := by decide +kernel
theorem dX5_releaseDrained_44 : decode cX5_releaseDrained 44 = .ok (.iaload, 1) := by decide +kernel
theorem dX5_releaseDrained_45 : decode cX5_releaseDrained 45 = .ok (.invokevirtual 111, 3) := by decide +kernel
theorem dX5_releaseDrained_48 : decode cX5_releaseDrained 48 = .ok (.ifCond .ne 8, 3) := by decide +kernel
theorem dX5_releaseDrained_51 : decode cX5_releaseDrained 51 = .ok (.aload_n 0, 1) := by decide +kernel
theorem dX5_releaseDrained_52 : decode cX5_releaseDrained 52 = .ok (.iload_n 1, 1) := by decide +kernel
theorem dX5_releaseDrained_53 : decode cX5_releaseDrained 53 = .ok (.invokevirtual 218, 3) := by decide +kernel
theorem dX5_releaseDrained_56 : decode cX5_releaseDrained 56 = .ok (.iinc 1 1, 3) := by decide +kernel
theorem dX5_releaseDrained_59 : decode cX5_releaseDrained 59 = .ok (.goto (-57), 3) := by decide +kernel
theorem dX5_releaseDrained_62 : decode cX5_releaseDrained 62 = .ok (.return_, 1) := by decide +kernel
theorem dX5_shift_0 : decode cX5_shift 0 = .ok (.aload_n 0, 1) := by decide +kernel
theorem dX5_shift_1 : decode cX5_shift 1 = .ok (.getfield 32, 3) := by decide +kernel
theorem dX5_shift_4 : decode cX5_shift 4 = .ok (.iload_n 1, 1) := by decide +kernel
theorem dX5_shift_5 : decode cX5_shift 5 = .ok (.iload_n 2, 1) := by decide +kernel
theorem dX5_shift_6 : decode cX5_shift 6 = .ok (.invokevirtual 193, 3) := by decide +kernel
theorem dX5_shift_9 : decode cX5_shift 9 = .ok (.ifCond .eq 11, 3) := by decide +kernel
theorem dX5_shift_12 : decode cX5_shift 12 = .ok (.aload_n 0, 1) := by decide +kernel
theorem dX5_shift_13 : decode cX5_shift 13 = .ok (.iload_n 1, 1) := by decide +kernel
theorem dX5_shift_14 : decode cX5_shift 14 = .ok (.invokevirtual 121, 3) := by decide +kernel
theorem dX5_shift_17 : decode cX5_shift 17 = .ok (.ifCond .ne 5, 3) := by decide +kernel
theorem dX5_shift_20 : decode cX5_shift 20 = .ok (.iconst 4, 1) := by decide +kernel
theorem dX5_shift_21 : decode cX5_shift 21 = .ok (.ireturn, 1) := by decide +kernel
theorem dX5_shift_22 : decode cX5_shift 22 = .ok (.iload_n 1, 1) := by decide +kernel
theorem dX5_shift_23 : decode cX5_shift 23 = .ok (.bipush 8, 2) := by decide +kernel
theorem dX5_shift_25 : decode cX5_shift 25 = .ok (.imul, 1) := by decide +kernel
theorem dX5_shift_26 : decode cX5_shift 26 = .ok (.iload_n 2, 1) := by decide +kernel
theorem dX5_shift_27 : decode cX5_shift 27 = .ok (.iadd, 1) := by decide +kernel
theorem dX5_shift_28 : decode cX5_shift 28 = .ok (.istore 4, 2) := by decide +kernel
theorem dX5_shift_30 : decode cX5_shift 30 = .ok (.aload_n 0, 1) := by decide +kernel
theorem dX5_shift_31 : decode cX5_shift 31 = .ok (.getfield 18, 3) := by decide +kernel
theorem dX5_shift_34 : decode cX5_shift 34 = .ok (.iload 4, 2) := by decide +kernel
theorem dX5_shift_36 : decode cX5_shift 36 = .ok (.iaload, 1) := by decide +kernel
theorem dX5_shift_37 : decode cX5_shift 37 = .ok (.iconst (-1), 1) := by decide +kernel
theorem dX5_shift_38 : decode cX5_shift 38 = .ok (.if_icmp .ne 5, 3) := by decide +kernel
theorem dX5_shift_41 : decode cX5_shift 41 = .ok (.iconst 4, 1) := by decide +kernel
theorem dX5_shift_42 : decode cX5_shift 42 = .ok (.ireturn, 1) := by decide +kernel
theorem dX5_shift_43 : decode cX5_shift 43 = .ok (.aload_n 0, 1) := by decide +kernel
theorem dX5_shift_44 : decode cX5_shift 44 = .ok (.iload_n 1, 1) := by decide +kernel
theorem dX5_shift_45 : decode cX5_shift 45 = .ok (.invokevirtual 104, 3) := by decide +kernel
theorem dX5_shift_48 : decode cX5_shift 48 = .ok (.ifCond .eq 8, 3) := by decide +kernel
theorem dX5_shift_51 : decode cX5_shift 51 = .ok (.iload 4, 2) := by decide +kernel
theorem dX5_shift_53 : decode cX5_shift 53 = .ok (.goto 7, 3) := by decide +kernel
theorem dX5_shift_56 : decode cX5_shift 56 = .ok (.iload_n 1, 1) := by decide +kernel
theorem dX5_shift_57 : decode cX5_shift 57 = .ok (.bipush 8, 2) := by decide +kernel
theorem dX5_shift_59 : decode cX5_shift 59 = .ok (.imul, 1) := by decide +kernel
theorem dX5_shift_60 : decode cX5_shift 60 = .ok (.istore 5, 2) := by decide +kernel
theorem dX5_shift_62 : decode cX5_shift 62 = .ok (.aload_n 0, 1) := by decide +kernel
theorem dX5_shift_63 : decode cX5_shift 63 = .ok (.iload_n 1, 1) := by decide +kernel
theorem dX5_shift_64 : decode cX5_shift 64 = .ok (.invokevirtual 104, 3) := by decide +kernel
theorem dX5_shift_67 : decode cX5_shift 67 = .ok (.ifCond .eq 7, 3) := by decide +kernel
theorem dX5_shift_70 : decode cX5_shift 70 = .ok (.iconst 1, 1) := by decide +kernel
theorem dX5_shift_71 : decode cX5_shift 71 = .ok (.goto 12, 3) := by decide +kernel
theorem dX5_shift_74 : decode cX5_shift 74 = .ok (.aload_n 0, 1) := by decide +kernel
theorem dX5_shift_75 : decode cX5_shift 75 = .ok (.getfield 32, 3) := by decide +kernel
theorem dX5_shift_78 : decode cX5_shift 78 = .ok (.getfield 85, 3) := by decide +kernel
theorem dX5_shift_81 : decode cX5_shift 81 = .ok (.iload_n 1, 1) := by decide +kernel
theorem dX5_shift_82 : decode cX5_shift 82 = .ok (.iaload, 1) := by decide +kernel
theorem dX5_shift_83 : decode cX5_shift 83 = .ok (.istore 6, 2) := by decide +kernel
theorem dX5_shift_85 : decode cX5_shift 85 = .ok (.aload_n 0, 1) := by decide +kernel
theorem dX5_shift_86 : decode cX5_shift 86 = .ok (.iload 5, 2) := by decide +kernel
theorem dX5_shift_88 : decode cX5_shift 88 = .ok (.iload 6, 2) := by decide +kernel
theorem dX5_shift_90 : decode cX5_shift 90 = .ok (.invokevirtual 221, 3) := by decide +kernel
theorem dX5_shift_93 : decode cX5_shift 93 = .ok (.ifCond .eq 5, 3) := by decide +kernel
theorem dX5_shift_96 : decode cX5_shift 96 = .ok (.iconst 3, 1) := by decide +kernel
theorem dX5_shift_97 : decode cX5_shift 97 = .ok (.ireturn, 1) := by decide +kernel
theorem dX5_shift_98 : decode cX5_shift 98 = .ok (.iload_n 3, 1) := by decide +kernel
theorem dX5_shift_99 : decode cX5_shift 99 = .ok (.iconst 1, 1) := by decide +kernel
theorem dX5_shift_100 : decode cX5_shift 100 = .ok (.aload_n 0, 1) := by decide +kernel
theorem dX5_shift_101 : decode cX5_shift 101 = .ok (.getfield 18, 3) := by decide +kernel
theorem dX5_shift_104 : decode cX5_shift 104 = .ok (.iload 4, 2) := by decide +kernel
theorem dX5_shift_106 : decode cX5_shift 106 = .ok (.iaload, 1) := by decide +kernel
theorem dX5_shift_107 : decode cX5_shift 107 = .ok (.bipush 32, 2) := by decide +kernel
theorem dX5_shift_109 : decode cX5_shift 109 = .ok (.idiv, 1) := by decide +kernel
theorem dX5_shift_110 : decode cX5_shift 110 = .ok (.ishl, 1) := by decide +kernel
theorem dX5_shift_111 : decode cX5_shift 111 = .ok (.iconst (-1), 1) := by decide +kernel
theorem dX5_shift_112 : decode cX5_shift 112 = .ok (.ixor, 1) := by decide +kernel
theorem dX5_shift_113 : decode cX5_shift 113 = .ok (.iand, 1) := by decide +kernel
theorem dX5_shift_114 : decode cX5_shift 114 = .ok (.istore 7, 2) := by decide +kernel
theorem dX5_shift_116 : decode cX5_shift 116 = .ok (.aload_n 0, 1) := by decide +kernel
theorem dX5_shift_117 : decode cX5_shift 117 = .ok (.iload_n 1, 1) := by decide +kernel
theorem dX5_shift_118 : decode cX5_shift 118 = .ok (.invokevirtual 104, 3) := by decide +kernel
theorem dX5_shift_121 : decode cX5_shift 121 = .ok (.ifCond .eq 14, 3) := by decide +kernel
theorem dX5_shift_124 : decode cX5_shift 124 = .ok (.aload_n 0, 1) := by decide +kernel
theorem dX5_shift_125 : decode cX5_shift 125 = .ok (.iload 4, 2) := by decide +kernel
theorem dX5_shift_127 : decode cX5_shift 127 = .ok (.iload 7, 2) := by decide +kernel
theorem dX5_shift_129 : decode cX5_shift 129 = .ok (.invokevirtual 162, 3) := by decide +kernel
theorem dX5_shift_132 : decode cX5_shift 132 = .ok (.goto 14, 3) := by decide +kernel
theorem dX5_shift_135 : decode cX5_shift 135 = .ok (.aload_n 0, 1) := by decide +kernel
theorem dX5_shift_136 : decode cX5_shift 136 = .ok (.getfield 41, 3) := by decide +kernel
theorem dX5_shift_139 : decode cX5_shift 139 = .ok (.iload 7, 2) := by decide +kernel
theorem dX5_shift_141 : decode cX5_shift 141 = .ok (.iload 6, 2) := by decide +kernel
theorem dX5_shift_143 : decode cX5_shift 143 = .ok (.invokevirtual 133, 3) := by decide +kernel
theorem dX5_shift_146 : decode cX5_shift 146 = .ok (.istore 8, 2) := by decide +kernel
theorem dX5_shift_148 : decode cX5_shift 148 = .ok (.iload 8, 2) := by decide +kernel
theorem dX5_shift_150 : decode cX5_shift 150 = .ok (.iconst (-1), 1) := by decide +kernel
theorem dX5_shift_151 : decode cX5_shift 151 = .ok (.if_icmp .ne 5, 3) := by decide +kernel
theorem dX5_shift_154 : decode cX5_shift 154 = .ok (.iconst 1, 1) := by decide +kernel
theorem dX5_shift_155 : decode cX5_shift 155 = .ok (.ireturn, 1) := by decide +kernel
theorem dX5_shift_156 : decode cX5_shift 156 = .ok (.iconst 0, 1) := by decide +kernel
theorem dX5_shift_157 : decode cX5_shift 157 = .ok (.istore 9, 2) := by decide +kernel
theorem dX5_shift_159 : decode cX5_shift 159 = .ok (.iload 9, 2) := by decide +kernel
theorem dX5_shift_161 : decode cX5_shift 161 = .ok (.iload 6, 2) := by decide +kernel
theorem dX5_shift_163 : decode cX5_shift 163 = .ok (.if_icmp .ge 23, 3) := by decide +kernel
theorem dX5_shift_166 : decode cX5_shift 166 = .ok (.aload_n 0, 1) := by decide +kernel
theorem dX5_shift_167 : decode cX5_shift 167 = .ok (.iload 5, 2) := by decide +kernel
theorem dX5_shift_169 : decode cX5_shift 169 = .ok (.iload 9, 2) := by decide +kernel
theorem dX5_shift_171 : decode cX5_shift 171 = .ok (.iadd, 1) := by decide +kernel
theorem dX5_shift_172 : decode cX5_shift 172 = .ok (.iload 8, 2) := by decide +kernel
theorem dX5_shift_174 : decode cX5_shift 174 = .ok (.iload 9, 2) := by decide +kernel
theorem dX5_shift_176 : decode cX5_shift 176 = .ok (.iadd, 1) := by decide +kernel
theorem dX5_shift_177 : decode cX5_shift 177 = .ok (.invokevirtual 224, 3) := by decide +kernel
theorem dX5_shift_180 : decode cX5_shift 180 = .ok (.iinc 9 1, 3) := by decide +kernel
theorem dX5_shift_183 : decode cX5_shift 183 = .ok (.goto (-24), 3) := by decide +kernel
theorem dX5_shift_186 : decode cX5_shift 186 = .ok (.iconst 0, 1) := by decide +kernel
theorem dX5_shift_187 : decode cX5_shift 187 = .ok (.ireturn, 1) := by decide +kernel
theorem dX5_hasOld_0 : decode cX5_hasOld 0 = .ok (.iload_n 1, 1) := by decide +kernel
theorem dX5_hasOld_1 : decode cX5_hasOld 1 = .ok (.istore_n 3, 1) := by decide +kernel
theorem dX5_hasOld_2 : decode cX5_hasOld 2 = .ok (.iload_n 3, 1) := by decide +kernel
theorem dX5_hasOld_3 : decode cX5_hasOld 3 = .ok (.iload_n 1, 1) := by decide +kernel
theorem dX5_hasOld_4 : decode cX5_hasOld 4 = .ok (.iload_n 2, 1) := by decide +kernel
theorem dX5_hasOld_5 : decode cX5_hasOld 5 = .ok (.iadd, 1) := by decide +kernel
theorem dX5_hasOld_6 : decode cX5_hasOld 6 = .ok (.if_icmp .ge 21, 3) := by decide +kernel
theorem dX5_hasOld_9 : decode cX5_hasOld 9 = .ok (.aload_n 0, 1) := by decide +kernel
theorem dX5_hasOld_10 : decode cX5_hasOld 10 = .ok (.getfield 22, 3) := by decide +kernel
theorem dX5_hasOld_13 : decode cX5_hasOld 13 = .ok (.iload_n 3, 1) := by decide +kernel
theorem dX5_hasOld_14 : decode cX5_hasOld 14 = .ok (.iaload, 1) := by decide +kernel
theorem dX5_hasOld_15 : decode cX5_hasOld 15 = .ok (.iconst (-1), 1) := by decide +kernel
theorem dX5_hasOld_16 : decode cX5_hasOld 16 = .ok (.if_icmp .eq 5, 3) := by decide +kernel
theorem dX5_hasOld_19 : decode cX5_hasOld 19 = .ok (.iconst 1, 1) := by decide +kernel
theorem dX5_hasOld_20 : decode cX5_hasOld 20 = .ok (.ireturn, 1) := by decide +kernel
theorem dX5_hasOld_21 : decode cX5_hasOld 21 = .ok (.iinc 3 1, 3) := by decide +kernel
theorem dX5_hasOld_24 : decode cX5_hasOld 24 = .ok (.goto (-22), 3) := by decide +kernel
theorem dX5_hasOld_27 : decode cX5_hasOld 27 = .ok (.iconst 0, 1) := by decide +kernel
theorem dX5_hasOld_28 : decode cX5_hasOld 28 = .ok (.ireturn, 1) := by decide +kernel
theorem dX5_replace_0 : decode cX5_replace 0 = .ok (.aload_n 0, 1) := by decide +kernel
theorem dX5_replace_1 : decode cX5_replace 1 = .ok (.getfield 41, 3) := by decide +kernel
theorem dX5_replace_4 : decode cX5_replace 4 = .ok (.aload_n 0, 1) := by decide +kernel
theorem dX5_replace_5 : decode cX5_replace 5 = .ok (.getfield 18, 3) := by decide +kernel
theorem dX5_replace_8 : decode cX5_replace 8 = .ok (.iload_n 1, 1) := by decide +kernel
theorem dX5_replace_9 : decode cX5_replace 9 = .ok (.iaload, 1) := by decide +kernel
theorem dX5_replace_10 : decode cX5_replace 10 = .ok (.iconst 3, 1) := by decide +kernel
theorem dX5_replace_11 : decode cX5_replace 11 = .ok (.iload_n 1, 1) := by decide +kernel
theorem dX5_replace_12 : decode cX5_replace 12 = .ok (.invokevirtual 100, 3) := by decide +kernel
theorem dX5_replace_15 : decode cX5_replace 15 = .ok (.aload_n 0, 1) := by decide +kernel
theorem dX5_replace_16 : decode cX5_replace 16 = .ok (.getfield 22, 3) := by decide +kernel
theorem dX5_replace_19 : decode cX5_replace 19 = .ok (.iload_n 1, 1) := by decide +kernel
theorem dX5_replace_20 : decode cX5_replace 20 = .ok (.aload_n 0, 1) := by decide +kernel
theorem dX5_replace_21 : decode cX5_replace 21 = .ok (.getfield 18, 3) := by decide +kernel
theorem dX5_replace_24 : decode cX5_replace 24 = .ok (.iload_n 1, 1) := by decide +kernel
theorem dX5_replace_25 : decode cX5_replace 25 = .ok (.iaload, 1) := by decide +kernel
theorem dX5_replace_26 : decode cX5_replace 26 = .ok (.iastore, 1) := by decide +kernel
theorem dX5_replace_27 : decode cX5_replace 27 = .ok (.aload_n 0, 1) := by decide +kernel
theorem dX5_replace_28 : decode cX5_replace 28 = .ok (.iload_n 1, 1) := by decide +kernel
theorem dX5_replace_29 : decode cX5_replace 29 = .ok (.iload_n 2, 1) := by decide +kernel
theorem dX5_replace_30 : decode cX5_replace 30 = .ok (.invokevirtual 144, 3) := by decide +kernel
theorem dX5_replace_33 : decode cX5_replace 33 = .ok (.return_, 1) := by decide +kernel
theorem dX5_leave_0 : decode cX5_leave 0 = .ok (.aload_n 0, 1) := by decide +kernel
theorem dX5_leave_1 : decode cX5_leave 1 = .ok (.getfield 41, 3) := by decide +kernel
theorem dX5_leave_4 : decode cX5_leave 4 = .ok (.iload_n 1, 1) := by decide +kernel
theorem dX5_leave_5 : decode cX5_leave 5 = .ok (.invokevirtual 153, 3) := by decide +kernel
theorem dX5_leave_8 : decode cX5_leave 8 = .ok (.ifCond .ne 5, 3) := by decide +kernel
theorem dX5_leave_11 : decode cX5_leave 11 = .ok (.iconst 4, 1) := by decide +kernel
theorem dX5_leave_12 : decode cX5_leave 12 = .ok (.ireturn, 1) := by decide +kernel
theorem dX5_leave_13 : decode cX5_leave 13 = .ok (.aload_n 0, 1) := by decide +kernel
theorem dX5_leave_14 : decode cX5_leave 14 = .ok (.getfield 41, 3) := by decide +kernel
theorem dX5_leave_17 : decode cX5_leave 17 = .ok (.getfield 227, 3) := by decide +kernel
theorem dX5_leave_20 : decode cX5_leave 20 = .ok (.iconst 1, 1) := by decide +kernel
theorem dX5_leave_21 : decode cX5_leave 21 = .ok (.iload_n 1, 1) := by decide +kernel
theorem dX5_leave_22 : decode cX5_leave 22 = .ok (.ishl, 1) := by decide +kernel
theorem dX5_leave_23 : decode cX5_leave 23 = .ok (.if_icmp .ne 5, 3) := by decide +kernel
theorem dX5_leave_26 : decode cX5_leave 26 = .ok (.iconst 5, 1) := by decide +kernel
theorem dX5_leave_27 : decode cX5_leave 27 = .ok (.ireturn, 1) := by decide +kernel
theorem dX5_leave_28 : decode cX5_leave 28 = .ok (.aload_n 0, 1) := by decide +kernel
theorem dX5_leave_29 : decode cX5_leave 29 = .ok (.getfield 41, 3) := by decide +kernel
theorem dX5_leave_32 : decode cX5_leave 32 = .ok (.dup, 1) := by decide +kernel
theorem dX5_leave_33 : decode cX5_leave 33 = .ok (.getfield 227, 3) := by decide +kernel
theorem dX5_leave_36 : decode cX5_leave 36 = .ok (.iconst 1, 1) := by decide +kernel
theorem dX5_leave_37 : decode cX5_leave 37 = .ok (.iload_n 1, 1) := by decide +kernel
theorem dX5_leave_38 : decode cX5_leave 38 = .ok (.ishl, 1) := by decide +kernel
theorem dX5_leave_39 : decode cX5_leave 39 = .ok (.iconst (-1), 1) := by decide +kernel
theorem dX5_leave_40 : decode cX5_leave 40 = .ok (.ixor, 1) := by decide +kernel
theorem dX5_leave_41 : decode cX5_leave 41 = .ok (.iand, 1) := by decide +kernel
theorem dX5_leave_42 : decode cX5_leave 42 = .ok (.putfield 227, 3) := by decide +kernel
theorem dX5_leave_45 : decode cX5_leave 45 = .ok (.iconst 0, 1) := by decide +kernel
theorem dX5_leave_46 : decode cX5_leave 46 = .ok (.istore_n 2, 1) := by decide +kernel
theorem dX5_leave_47 : decode cX5_leave 47 = .ok (.iload_n 2, 1) := by decide +kernel
theorem dX5_leave_48 : decode cX5_leave 48 = .ok (.aload_n 0, 1) := by decide +kernel
theorem dX5_leave_49 : decode cX5_leave 49 = .ok (.getfield 32, 3) := by decide +kernel
theorem dX5_leave_52 : decode cX5_leave 52 = .ok (.getfield 79, 3) := by decide +kernel
theorem dX5_leave_55 : decode cX5_leave 55 = .ok (.if_icmp .ge 53, 3) := by decide +kernel
theorem dX5_leave_58 : decode cX5_leave 58 = .ok (.aload_n 0, 1) := by decide +kernel
theorem dX5_leave_59 : decode cX5_leave 59 = .ok (.iload_n 2, 1) := by decide +kernel
theorem dX5_leave_60 : decode cX5_leave 60 = .ok (.invokevirtual 121, 3) := by decide +kernel
theorem dX5_leave_63 : decode cX5_leave 63 = .ok (.ifCond .eq 20, 3) := by decide +kernel
theorem dX5_leave_66 : decode cX5_leave 66 = .ok (.aload_n 0, 1) := by decide +kernel
theorem dX5_leave_67 : decode cX5_leave 67 = .ok (.iload_n 2, 1) := by decide +kernel
theorem dX5_leave_68 : decode cX5_leave 68 = .ok (.invokevirtual 104, 3) := by decide +kernel
theorem dX5_leave_71 : decode cX5_leave 71 = .ok (.ifCond .eq 12, 3) := by decide +kernel
theorem dX5_leave_74 : decode cX5_leave 74 = .ok (.aload_n 0, 1) := by decide +kernel
theorem dX5_leave_75 : decode cX5_leave 75 = .ok (.iload_n 2, 1) := by decide +kernel
theorem dX5_leave_76 : decode cX5_leave 76 = .ok (.iload_n 1, 1) := by decide +kernel
theorem dX5_leave_77 : decode cX5_leave 77 = .ok (.invokevirtual 230, 3) := by decide +kernel
theorem dX5_leave_80 : decode cX5_leave 80 = .ok (.goto 22, 3) := by decide +kernel
theorem dX5_leave_83 : decode cX5_leave 83 = .ok (.aload_n 0, 1) := by decide +kernel
theorem dX5_leave_84 : decode cX5_leave 84 = .ok (.iload_n 2, 1) := by decide +kernel
theorem dX5_leave_85 : decode cX5_leave 85 = .ok (.invokevirtual 121, 3) := by decide +kernel
theorem dX5_leave_88 : decode cX5_leave 88 = .ok (.ifCond .eq 14, 3) := by decide +kernel
theorem dX5_leave_91 : decode cX5_leave 91 = .ok (.aload_n 0, 1) := by decide +kernel
theorem dX5_leave_92 : decode cX5_leave 92 = .ok (.iload_n 2, 1) := by decide +kernel
theorem dX5_leave_93 : decode cX5_leave 93 = .ok (.iload_n 1, 1) := by decide +kernel
theorem dX5_leave_94 : decode cX5_leave 94 = .ok (.invokevirtual 233, 3) := by decide +kernel
theorem dX5_leave_97 : decode cX5_leave 97 = .ok (.ifCond .ne 5, 3) := by decide +kernel
theorem dX5_leave_100 : decode cX5_leave 100 = .ok (.iconst 1, 1) := by decide +kernel
theorem dX5_leave_101 : decode cX5_leave 101 = .ok (.ireturn, 1) := by decide +kernel
theorem dX5_leave_102 : decode cX5_leave 102 = .ok (.iinc 2 1, 3) := by decide +kernel
theorem dX5_leave_105 : decode cX5_leave 105 = .ok (.goto (-58), 3) := by decide +kernel
theorem dX5_leave_108 : decode cX5_leave 108 = .ok (.aload_n 0, 1) := by decide +kernel
theorem dX5_leave_109 : decode cX5_leave 109 = .ok (.getfield 41, 3) := by decide +kernel
theorem dX5_leave_112 : decode cX5_leave 112 = .ok (.invokevirtual 137, 3) := by decide +kernel
theorem dX5_leave_115 : decode cX5_leave 115 = .ok (.aload_n 0, 1) := by decide +kernel
theorem dX5_leave_116 : decode cX5_leave 116 = .ok (.invokevirtual 141, 3) := by decide +kernel
theorem dX5_leave_119 : decode cX5_leave 119 = .ok (.if_icmp .ge 7, 3) := by decide +kernel
theorem dX5_leave_122 : decode cX5_leave 122 = .ok (.iconst 2, 1) := by decide +kernel
theorem dX5_leave_123 : decode cX5_leave 123 = .ok (.goto 4, 3) := by decide +kernel
theorem dX5_leave_126 : decode cX5_leave 126 = .ok (.iconst 0, 1) := by decide +kernel
theorem dX5_leave_127 : decode cX5_leave 127 = .ok (.ireturn, 1) := by decide +kernel
theorem dX5_isAt_0 : decode cX5_isAt 0 = .ok (.iload_n 0, 1) := by decide +kernel
theorem dX5_isAt_1 : decode cX5_isAt 1 = .ok (.iconst (-1), 1) := by decide +kernel
theorem dX5_isAt_2 : decode cX5_isAt 2 = .ok (.if_icmp .eq 15, 3) := by decide +kernel
theorem dX5_isAt_5 : decode cX5_isAt 5 = .ok (.iload_n 0, 1) := by decide +kernel
theorem dX5_isAt_6 : decode cX5_isAt 6 = .ok (.bipush 32, 2) := by decide +kernel
theorem dX5_isAt_8 : decode cX5_isAt 8 = .ok (.idiv, 1) := by decide +kernel
theorem dX5_isAt_9 : decode cX5_isAt 9 = .ok (.iload_n 1, 1) := by decide +kernel
theorem dX5_isAt_10 : decode cX5_isAt 10 = .ok (.if_icmp .ne 7, 3) := by decide +kernel
theorem dX5_isAt_13 : decode cX5_isAt 13 = .ok (.iconst 1, 1) := by decide +kernel
theorem dX5_isAt_14 : decode cX5_isAt 14 = .ok (.goto 4, 3) := by decide +kernel
theorem dX5_isAt_17 : decode cX5_isAt 17 = .ok (.iconst 0, 1) := by decide +kernel
theorem dX5_isAt_18 : decode cX5_isAt 18 = .ok (.ireturn, 1) := by decide +kernel
theorem dX5_bringOldAway_0 : decode cX5_bringOldAway 0 = .ok (.aload_n 0, 1) := by decide +kernel
theorem dX5_bringOldAway_1 : decode cX5_bringOldAway 1 = .ok (.getfield 22, 3) := by decide +kernel
theorem dX5_bringOldAway_4 : decode cX5_bringOldAway 4 = .ok (.iload_n 1, 1) := by decide +kernel
theorem dX5_bringOldAway_5 : decode cX5_bringOldAway 5 = .ok (.iaload, 1) := by decide +kernel
theorem dX5_bringOldAway_6 : decode cX5_bringOldAway 6 = .ok (.iload_n 2, 1) := by decide +kernel
theorem dX5_bringOldAway_7 : decode cX5_bringOldAway 7 = .ok (.invokestatic 174, 3) := by decide +kernel
theorem dX5_bringOldAway_10 : decode cX5_bringOldAway 10 = .ok (.ifCond .ne 4, 3) := by decide +kernel
theorem dX5_bringOldAway_13 : decode cX5_bringOldAway 13 = .ok (.return_, 1) := by decide +kernel
theorem dX5_bringOldAway_14 : decode cX5_bringOldAway 14 = .ok (.aload_n 0, 1) := by decide +kernel
theorem dX5_bringOldAway_15 : decode cX5_bringOldAway 15 = .ok (.getfield 41, 3) := by decide +kernel
theorem dX5_bringOldAway_18 : decode cX5_bringOldAway 18 = .ok (.aload_n 0, 1) := by decide +kernel
theorem dX5_bringOldAway_19 : decode cX5_bringOldAway 19 = .ok (.getfield 22, 3) := by decide +kernel
theorem dX5_bringOldAway_22 : decode cX5_bringOldAway 22 = .ok (.iload_n 1, 1) := by decide +kernel
theorem dX5_bringOldAway_23 : decode cX5_bringOldAway 23 = .ok (.iaload, 1) := by decide +kernel
theorem dX5_bringOldAway_24 : decode cX5_bringOldAway 24 = .ok (.invokevirtual 187, 3) := by decide +kernel
theorem dX5_bringOldAway_27 : decode cX5_bringOldAway 27 = .ok (.istore_n 3, 1) := by decide +kernel
theorem dX5_bringOldAway_28 : decode cX5_bringOldAway 28 = .ok (.aload_n 0, 1) := by decide +kernel
theorem dX5_bringOldAway_29 : decode cX5_bringOldAway 29 = .ok (.iload_n 1, 1) := by decide +kernel
theorem dX5_bringOldAway_30 : decode cX5_bringOldAway 30 = .ok (.invokevirtual 218, 3) := by decide +kernel
theorem dX5_bringOldAway_33 : decode cX5_bringOldAway 33 = .ok (.iload_n 3, 1) := by decide +kernel
theorem dX5_bringOldAway_34 : decode cX5_bringOldAway 34 = .ok (.ifCond .eq 25, 3) := by decide +kernel
theorem dX5_bringOldAway_37 : decode cX5_bringOldAway 37 = .ok (.aload_n 0, 1) := by decide +kernel
theorem dX5_bringOldAway_38 : decode cX5_bringOldAway 38 = .ok (.getfield 18, 3) := by decide +kernel
theorem dX5_bringOldAway_41 : decode cX5_bringOldAway 41 = .ok (.iload_n 1, 1) := by decide +kernel
theorem dX5_bringOldAway_42 : decode cX5_bringOldAway 42 = .ok (.iaload, 1) := by decide +kernel
theorem dX5_bringOldAway_43 : decode cX5_bringOldAway 43 = .ok (.iconst (-1), 1) := by decide +kernel
theorem dX5_bringOldAway_44 : decode cX5_bringOldAway 44 = .ok (.if_icmp .eq 15, 3) := by decide +kernel
theorem dX5_bringOldAway_47 : decode cX5_bringOldAway 47 = .ok (.aload_n 0, 1) := by decide +kernel
theorem dX5_bringOldAway_48 : decode cX5_bringOldAway 48 = .ok (.iload_n 1, 1) := by decide +kernel
theorem dX5_bringOldAway_49 : decode cX5_bringOldAway 49 = .ok (.aload_n 0, 1) := by decide +kernel
theorem dX5_bringOldAway_50 : decode cX5_bringOldAway 50 = .ok (.getfield 18, 3) := by decide +kernel
theorem dX5_bringOldAway_53 : decode cX5_bringOldAway 53 = .ok (.iload_n 1, 1) := by decide +kernel
theorem dX5_bringOldAway_54 : decode cX5_bringOldAway 54 = .ok (.iaload, 1) := by decide +kernel
theorem dX5_bringOldAway_55 : decode cX5_bringOldAway 55 = .ok (.invokevirtual 196, 3) := by decide +kernel
theorem dX5_bringOldAway_58 : decode cX5_bringOldAway 58 = .ok (.pop, 1) := by decide +kernel
theorem dX5_bringOldAway_59 : decode cX5_bringOldAway 59 = .ok (.return_, 1) := by decide +kernel
theorem dX5_bringDealtAway_0 : decode cX5_bringDealtAway 0 = .ok (.aload_n 0, 1) := by decide +kernel
theorem dX5_bringDealtAway_1 : decode cX5_bringDealtAway 1 = .ok (.getfield 32, 3) := by decide +kernel
theorem dX5_bringDealtAway_4 : decode cX5_bringDealtAway 4 = .ok (.getfield 85, 3) := by decide +kernel
theorem dX5_bringDealtAway_7 : decode cX5_bringDealtAway 7 = .ok (.iload_n 1, 1) := by decide +kernel
theorem dX5_bringDealtAway_8 : decode cX5_bringDealtAway 8 = .ok (.iaload, 1) := by decide +kernel
theorem dX5_bringDealtAway_9 : decode cX5_bringDealtAway 9 = .ok (.istore_n 3, 1) := by decide +kernel
theorem dX5_bringDealtAway_10 : decode cX5_bringDealtAway 10 = .ok (.iload_n 1, 1) := by decide +kernel
theorem dX5_bringDealtAway_11 : decode cX5_bringDealtAway 11 = .ok (.bipush 8, 2) := by decide +kernel
theorem dX5_bringDealtAway_13 : decode cX5_bringDealtAway 13 = .ok (.imul, 1) := by decide +kernel
theorem dX5_bringDealtAway_14 : decode cX5_bringDealtAway 14 = .ok (.istore 4, 2) := by decide +kernel
theorem dX5_bringDealtAway_16 : decode cX5_bringDealtAway 16 = .ok (.iconst 0, 1) := by decide +kernel
theorem dX5_bringDealtAway_17 : decode cX5_bringDealtAway 17 = .ok (.istore 5, 2) := by decide +kernel
theorem dX5_bringDealtAway_19 : decode cX5_bringDealtAway 19 = .ok (.iload 5, 2) := by decide +kernel
theorem dX5_bringDealtAway_21 : decode cX5_bringDealtAway 21 = .ok (.iload_n 3, 1) := by decide +kernel
theorem dX5_bringDealtAway_22 : decode cX5_bringDealtAway 22 = .ok (.if_icmp .ge 19, 3) := by decide +kernel
theorem dX5_bringDealtAway_25 : decode cX5_bringDealtAway 25 = .ok (.aload_n 0, 1) := by decide +kernel
theorem dX5_bringDealtAway_26 : decode cX5_bringDealtAway 26 = .ok (.iload 4, 2) := by decide +kernel
theorem dX5_bringDealtAway_28 : decode cX5_bringDealtAway 28 = .ok (.iload 5, 2) := by decide +kernel
theorem dX5_bringDealtAway_30 : decode cX5_bringDealtAway 30 = .ok (.iadd, 1) := by decide +kernel
theorem dX5_bringDealtAway_31 : decode cX5_bringDealtAway 31 = .ok (.iload_n 2, 1) := by decide +kernel
theorem dX5_bringDealtAway_32 : decode cX5_bringDealtAway 32 = .ok (.invokevirtual 236, 3) := by decide +kernel
theorem dX5_bringDealtAway_35 : decode cX5_bringDealtAway 35 = .ok (.iinc 5 1, 3) := by decide +kernel
theorem dX5_bringDealtAway_38 : decode cX5_bringDealtAway 38 = .ok (.goto (-19), 3) := by decide +kernel
theorem dX5_bringDealtAway_41 : decode cX5_bringDealtAway 41 = .ok (.aload_n 0, 1) := by decide +kernel
theorem dX5_bringDealtAway_42 : decode cX5_bringDealtAway 42 = .ok (.getfield 18, 3) := by decide +kernel
theorem dX5_bringDealtAway_45 : decode cX5_bringDealtAway 45 = .ok (.iload 4, 2) := by decide +kernel
theorem dX5_bringDealtAway_47 : decode cX5_bringDealtAway 47 = .ok (.iaload, 1) := by decide +kernel
theorem dX5_bringDealtAway_48 : decode cX5_bringDealtAway 48 = .ok (.iload_n 2, 1) := by decide +kernel
theorem dX5_bringDealtAway_49 : decode cX5_bringDealtAway 49 = .ok (.invokestatic 174, 3) := by decide +kernel
theorem dX5_bringDealtAway_52 : decode cX5_bringDealtAway 52 = .ok (.ifCond .ne 5, 3) := by decide +kernel
theorem dX5_bringDealtAway_55 : decode cX5_bringDealtAway 55 = .ok (.iconst 1, 1) := by decide +kernel
theorem dX5_bringDealtAway_56 : decode cX5_bringDealtAway 56 = .ok (.ireturn, 1) := by decide +kernel
theorem dX5_bringDealtAway_57 : decode cX5_bringDealtAway 57 = .ok (.aload_n 0, 1) := by decide +kernel
theorem dX5_bringDealtAway_58 : decode cX5_bringDealtAway 58 = .ok (.getfield 41, 3) := by decide +kernel
theorem dX5_bringDealtAway_61 : decode cX5_bringDealtAway 61 = .ok (.aload_n 0, 1) := by decide +kernel
theorem dX5_bringDealtAway_62 : decode cX5_bringDealtAway 62 = .ok (.getfield 32, 3) := by decide +kernel
theorem dX5_bringDealtAway_65 : decode cX5_bringDealtAway 65 = .ok (.getfield 130, 3) := by decide +kernel
theorem dX5_bringDealtAway_68 : decode cX5_bringDealtAway 68 = .ok (.iload_n 1, 1) := by decide +kernel
theorem dX5_bringDealtAway_69 : decode cX5_bringDealtAway 69 = .ok (.iaload, 1) := by decide +kernel
theorem dX5_bringDealtAway_70 : decode cX5_bringDealtAway 70 = .ok (.iload_n 3, 1) := by decide +kernel
theorem dX5_bringDealtAway_71 : decode cX5_bringDealtAway 71 = .ok (.invokevirtual 133, 3) := by decide +kernel
theorem dX5_bringDealtAway_74 : decode cX5_bringDealtAway 74 = .ok (.istore 5, 2) := by decide +kernel
theorem dX5_bringDealtAway_76 : decode cX5_bringDealtAway 76 = .ok (.iload 5, 2) := by decide +kernel
theorem dX5_bringDealtAway_78 : decode cX5_bringDealtAway 78 = .ok (.iconst (-1), 1) := by decide +kernel
theorem dX5_bringDealtAway_79 : decode cX5_bringDealtAway 79 = .ok (.if_icmp .ne 20, 3) := by decide +kernel
theorem dX5_bringDealtAway_82 : decode cX5_bringDealtAway 82 = .ok (.aload_n 0, 1) := by decide +kernel
theorem dX5_bringDealtAway_83 : decode cX5_bringDealtAway 83 = .ok (.getfield 41, 3) := by decide +kernel
theorem dX5_bringDealtAway_86 : decode cX5_bringDealtAway 86 = .ok (.aload_n 0, 1) := by decide +kernel
theorem dX5_bringDealtAway_87 : decode cX5_bringDealtAway 87 = .ok (.getfield 32, 3) := by decide +kernel
theorem dX5_bringDealtAway_90 : decode cX5_bringDealtAway 90 = .ok (.invokevirtual 159, 3) := by decide +kernel
theorem dX5_bringDealtAway_93 : decode cX5_bringDealtAway 93 = .ok (.iload_n 3, 1) := by decide +kernel
theorem dX5_bringDealtAway_94 : decode cX5_bringDealtAway 94 = .ok (.invokevirtual 133, 3) := by decide +kernel
theorem dX5_bringDealtAway_97 : decode cX5_bringDealtAway 97 = .ok (.istore 5, 2) := by decide +kernel
theorem dX5_bringDealtAway_99 : decode cX5_bringDealtAway 99 = .ok (.iload 5, 2) := by decide +kernel
theorem dX5_bringDealtAway_101 : decode cX5_bringDealtAway 101 = .ok (.iconst (-1), 1) := by decide +kernel
theorem dX5_bringDealtAway_102 : decode cX5_bringDealtAway 102 = .ok (.if_icmp .ne 5, 3) := by decide +kernel
theorem dX5_bringDealtAway_105 : decode cX5_bringDealtAway 105 = .ok (.iconst 0, 1) := by decide +kernel
theorem dX5_bringDealtAway_106 : decode cX5_bringDealtAway 106 = .ok (.ireturn, 1) := by decide +kernel
theorem dX5_bringDealtAway_107 : decode cX5_bringDealtAway 107 = .ok (.iconst 0, 1) := by decide +kernel
theorem dX5_bringDealtAway_108 : decode cX5_bringDealtAway 108 = .ok (.istore 6, 2) := by decide +kernel
theorem dX5_bringDealtAway_110 : decode cX5_bringDealtAway 110 = .ok (.iload 6, 2) := by decide +kernel
theorem dX5_bringDealtAway_112 : decode cX5_bringDealtAway 112 = .ok (.iload_n 3, 1) := by decide +kernel
theorem dX5_bringDealtAway_113 : decode cX5_bringDealtAway 113 = .ok (.if_icmp .ge 23, 3) := by decide +kernel
theorem dX5_bringDealtAway_116 : decode cX5_bringDealtAway 116 = .ok (.aload_n 0, 1) := by decide +kernel
theorem dX5_bringDealtAway_117 : decode cX5_bringDealtAway 117 = .ok (.iload 4, 2) := by decide +kernel
theorem dX5_bringDealtAway_119 : decode cX5_bringDealtAway 119 = .ok (.iload 6, 2) := by decide +kernel
theorem dX5_bringDealtAway_121 : decode cX5_bringDealtAway 121 = .ok (.iadd, 1) := by decide +kernel
theorem dX5_bringDealtAway_122 : decode cX5_bringDealtAway 122 = .ok (.iload 5, 2) := by decide +kernel
theorem dX5_bringDealtAway_124 : decode cX5_bringDealtAway 124 = .ok (.iload 6, 2) := by decide +kernel
theorem dX5_bringDealtAway_126 : decode cX5_bringDealtAway 126 = .ok (.iadd, 1) := by decide +kernel
theorem dX5_bringDealtAway_127 : decode cX5_bringDealtAway 127 = .ok (.invokevirtual 239, 3) := by decide +kernel
theorem dX5_bringDealtAway_130 : decode cX5_bringDealtAway 130 = .ok (.iinc 6 1, 3) := by decide +kernel
theorem dX5_bringDealtAway_133 : decode cX5_bringDealtAway 133 = .ok (.goto (-23), 3) := by decide +kernel
theorem dX5_bringDealtAway_136 : decode cX5_bringDealtAway 136 = .ok (.iconst 1, 1) := by decide +kernel
theorem dX5_bringDealtAway_137 : decode cX5_bringDealtAway 137 = .ok (.ireturn, 1) := by decide +kernel
theorem dX5_bringQueuesAway_0 : decode cX5_bringQueuesAway 0 = .ok (.iconst 0, 1) := by decide +kernel
theorem dX5_bringQueuesAway_1 : decode cX5_bringQueuesAway 1 = .ok (.istore_n 3, 1) := by decide +kernel
theorem dX5_bringQueuesAway_2 : decode cX5_bringQueuesAway 2 = .ok (.iload_n 3, 1) := by decide +kernel
theorem dX5_bringQueuesAway_3 : decode cX5_bringQueuesAway 3 = .ok (.aload_n 0, 1) := by decide +kernel
theorem dX5_bringQueuesAway_4 : decode cX5_bringQueuesAway 4 = .ok (.getfield 32, 3) := by decide +kernel
theorem dX5_bringQueuesAway_7 : decode cX5_bringQueuesAway 7 = .ok (.getfield 85, 3) := by decide +kernel
theorem dX5_bringQueuesAway_10 : decode cX5_bringQueuesAway 10 = .ok (.iload_n 1, 1) := by decide +kernel
theorem dX5_bringQueuesAway_11 : decode cX5_bringQueuesAway 11 = .ok (.iaload, 1) := by decide +kernel
theorem dX5_bringQueuesAway_12 : decode cX5_bringQueuesAway 12 = .ok (.if_icmp .ge 44, 3) := by decide +kernel
theorem dX5_bringQueuesAway_15 : decode cX5_bringQueuesAway 15 = .ok (.iload_n 1, 1) := by decide +kernel
theorem dX5_bringQueuesAway_16 : decode cX5_bringQueuesAway 16 = .ok (.bipush 8, 2) := by decide +kernel
theorem dX5_bringQueuesAway_18 : decode cX5_bringQueuesAway 18 = .ok (.imul, 1) := by decide +kernel
theorem dX5_bringQueuesAway_19 : decode cX5_bringQueuesAway 19 = .ok (.iload_n 3, 1) := by decide +kernel
theorem dX5_bringQueuesAway_20 : decode cX5_bringQueuesAway 20 = .ok (.iadd, 1) := by decide +kernel
theorem dX5_bringQueuesAway_21 : decode cX5_bringQueuesAway 21 = .ok (.istore 4, 2) := by decide +kernel
theorem dX5_bringQueuesAway_23 : decode cX5_bringQueuesAway 23 = .ok (.aload_n 0, 1) := by decide +kernel
theorem dX5_bringQueuesAway_24 : decode cX5_bringQueuesAway 24 = .ok (.iload 4, 2) := by decide +kernel
theorem dX5_bringQueuesAway_26 : decode cX5_bringQueuesAway 26 = .ok (.iload_n 2, 1) := by decide +kernel
theorem dX5_bringQueuesAway_27 : decode cX5_bringQueuesAway 27 = .ok (.invokevirtual 236, 3) := by decide +kernel
theorem dX5_bringQueuesAway_30 : decode cX5_bringQueuesAway 30 = .ok (.aload_n 0, 1) := by decide +kernel
theorem dX5_bringQueuesAway_31 : decode cX5_bringQueuesAway 31 = .ok (.getfield 18, 3) := by decide +kernel
theorem dX5_bringQueuesAway_34 : decode cX5_bringQueuesAway 34 = .ok (.iload 4, 2) := by decide +kernel
theorem dX5_bringQueuesAway_36 : decode cX5_bringQueuesAway 36 = .ok (.iaload, 1) := by decide +kernel
theorem dX5_bringQueuesAway_37 : decode cX5_bringQueuesAway 37 = .ok (.iload_n 2, 1) := by decide +kernel
theorem dX5_bringQueuesAway_38 : decode cX5_bringQueuesAway 38 = .ok (.invokestatic 174, 3) := by decide +kernel
theorem dX5_bringQueuesAway_41 : decode cX5_bringQueuesAway 41 = .ok (.ifCond .eq 9, 3) := by decide +kernel
theorem dX5_bringQueuesAway_44 : decode cX5_bringQueuesAway 44 = .ok (.aload_n 0, 1) := by decide +kernel
theorem dX5_bringQueuesAway_45 : decode cX5_bringQueuesAway 45 = .ok (.iload 4, 2) := by decide +kernel
theorem dX5_bringQueuesAway_47 : decode cX5_bringQueuesAway 47 = .ok (.invokevirtual 242, 3) := by decide +kernel
theorem dX5_bringQueuesAway_50 : decode cX5_bringQueuesAway 50 = .ok (.iinc 3 1, 3) := by decide +kernel
theorem dX5_bringQueuesAway_53 : decode cX5_bringQueuesAway 53 = .ok (.goto (-51), 3) := by decide +kernel
theorem dX5_bringQueuesAway_56 : decode cX5_bringQueuesAway 56 = .ok (.return_, 1) := by decide +kernel
theorem dX5_bringQueueAway_0 : decode cX5_bringQueueAway 0 = .ok (.aload_n 0, 1) := by decide +kernel
theorem dX5_bringQueueAway_1 : decode cX5_bringQueueAway 1 = .ok (.iload_n 1, 1) := by decide +kernel
theorem dX5_bringQueueAway_2 : decode cX5_bringQueueAway 2 = .ok (.aload_n 0, 1) := by decide +kernel
theorem dX5_bringQueueAway_3 : decode cX5_bringQueueAway 3 = .ok (.getfield 32, 3) := by decide +kernel
theorem dX5_bringQueueAway_6 : decode cX5_bringQueueAway 6 = .ok (.invokevirtual 159, 3) := by decide +kernel
theorem dX5_bringQueueAway_9 : decode cX5_bringQueueAway 9 = .ok (.invokevirtual 162, 3) := by decide +kernel
theorem dX5_bringQueueAway_12 : decode cX5_bringQueueAway 12 = .ok (.istore_n 2, 1) := by decide +kernel
theorem dX5_bringQueueAway_13 : decode cX5_bringQueueAway 13 = .ok (.iload_n 2, 1) := by decide +kernel
theorem dX5_bringQueueAway_14 : decode cX5_bringQueueAway 14 = .ok (.aload_n 0, 1) := by decide +kernel
theorem dX5_bringQueueAway_15 : decode cX5_bringQueueAway 15 = .ok (.getfield 22, 3) := by decide +kernel
theorem dX5_bringQueueAway_18 : decode cX5_bringQueueAway 18 = .ok (.iload_n 1, 1) := by decide +kernel
theorem dX5_bringQueueAway_19 : decode cX5_bringQueueAway 19 = .ok (.iaload, 1) := by decide +kernel
theorem dX5_bringQueueAway_20 : decode cX5_bringQueueAway 20 = .ok (.if_icmp .ne 17, 3) := by decide +kernel
theorem dX5_bringQueueAway_23 : decode cX5_bringQueueAway 23 = .ok (.aload_n 0, 1) := by decide +kernel
theorem dX5_bringQueueAway_24 : decode cX5_bringQueueAway 24 = .ok (.getfield 22, 3) := by decide +kernel
theorem dX5_bringQueueAway_27 : decode cX5_bringQueueAway 27 = .ok (.iload_n 1, 1) := by decide +kernel
theorem dX5_bringQueueAway_28 : decode cX5_bringQueueAway 28 = .ok (.iconst (-1), 1) := by decide +kernel
theorem dX5_bringQueueAway_29 : decode cX5_bringQueueAway 29 = .ok (.iastore, 1) := by decide +kernel
theorem dX5_bringQueueAway_30 : decode cX5_bringQueueAway 30 = .ok (.aload_n 0, 1) := by decide +kernel
theorem dX5_bringQueueAway_31 : decode cX5_bringQueueAway 31 = .ok (.getfield 25, 3) := by decide +kernel
theorem dX5_bringQueueAway_34 : decode cX5_bringQueueAway 34 = .ok (.iload_n 1, 1) := by decide +kernel
theorem dX5_bringQueueAway_35 : decode cX5_bringQueueAway 35 = .ok (.iconst 0, 1) := by decide +kernel
theorem dX5_bringQueueAway_36 : decode cX5_bringQueueAway 36 = .ok (.bastore, 1) := by decide +kernel
theorem dX5_bringQueueAway_37 : decode cX5_bringQueueAway 37 = .ok (.iload_n 2, 1) := by decide +kernel
theorem dX5_bringQueueAway_38 : decode cX5_bringQueueAway 38 = .ok (.iconst (-1), 1) := by decide +kernel
theorem dX5_bringQueueAway_39 : decode cX5_bringQueueAway 39 = .ok (.if_icmp .eq 10, 3) := by decide +kernel
theorem dX5_bringQueueAway_42 : decode cX5_bringQueueAway 42 = .ok (.aload_n 0, 1) := by decide +kernel
theorem dX5_bringQueueAway_43 : decode cX5_bringQueueAway 43 = .ok (.iload_n 1, 1) := by decide +kernel
theorem dX5_bringQueueAway_44 : decode cX5_bringQueueAway 44 = .ok (.iload_n 2, 1) := by decide +kernel
theorem dX5_bringQueueAway_45 : decode cX5_bringQueueAway 45 = .ok (.invokevirtual 239, 3) := by decide +kernel
theorem dX5_bringQueueAway_48 : decode cX5_bringQueueAway 48 = .ok (.return_, 1) := by decide +kernel
theorem dX5_bringQueueAway_49 : decode cX5_bringQueueAway 49 = .ok (.aload_n 0, 1) := by decide +kernel
theorem dX5_bringQueueAway_50 : decode cX5_bringQueueAway 50 = .ok (.getfield 29, 3) := by decide +kernel
theorem dX5_bringQueueAway_53 : decode cX5_bringQueueAway 53 = .ok (.iload_n 1, 1) := by decide +kernel
theorem dX5_bringQueueAway_54 : decode cX5_bringQueueAway 54 = .ok (.aload_n 0, 1) := by decide +kernel
theorem dX5_bringQueueAway_55 : decode cX5_bringQueueAway 55 = .ok (.getfield 41, 3) := by decide +kernel
theorem dX5_bringQueueAway_58 : decode cX5_bringQueueAway 58 = .ok (.aload_n 0, 1) := by decide +kernel
theorem dX5_bringQueueAway_59 : decode cX5_bringQueueAway 59 = .ok (.getfield 18, 3) := by decide +kernel
theorem dX5_bringQueueAway_62 : decode cX5_bringQueueAway 62 = .ok (.iload_n 1, 1) := by decide +kernel
theorem dX5_bringQueueAway_63 : decode cX5_bringQueueAway 63 = .ok (.iaload, 1) := by decide +kernel
theorem dX5_bringQueueAway_64 : decode cX5_bringQueueAway 64 = .ok (.invokevirtual 187, 3) := by decide +kernel
theorem dX5_bringQueueAway_67 : decode cX5_bringQueueAway 67 = .ok (.bastore, 1) := by decide +kernel
theorem dX5_bringQueueAway_68 : decode cX5_bringQueueAway 68 = .ok (.aload_n 0, 1) := by decide +kernel
theorem dX5_bringQueueAway_69 : decode cX5_bringQueueAway 69 = .ok (.iload_n 1, 1) := by decide +kernel
theorem dX5_bringQueueAway_70 : decode cX5_bringQueueAway 70 = .ok (.aload_n 0, 1) := by decide +kernel
theorem dX5_bringQueueAway_71 : decode cX5_bringQueueAway 71 = .ok (.getfield 18, 3) := by decide +kernel
theorem dX5_bringQueueAway_74 : decode cX5_bringQueueAway 74 = .ok (.iload_n 1, 1) := by decide +kernel
theorem dX5_bringQueueAway_75 : decode cX5_bringQueueAway 75 = .ok (.iaload, 1) := by decide +kernel
theorem dX5_bringQueueAway_76 : decode cX5_bringQueueAway 76 = .ok (.invokevirtual 107, 3) := by decide +kernel
theorem dX5_bringQueueAway_79 : decode cX5_bringQueueAway 79 = .ok (.aload_n 0, 1) := by decide +kernel
theorem dX5_bringQueueAway_80 : decode cX5_bringQueueAway 80 = .ok (.getfield 18, 3) := by decide +kernel
theorem dX5_bringQueueAway_83 : decode cX5_bringQueueAway 83 = .ok (.iload_n 1, 1) := by decide +kernel
theorem dX5_bringQueueAway_84 : decode cX5_bringQueueAway 84 = .ok (.iconst (-1), 1) := by decide +kernel
theorem dX5_bringQueueAway_85 : decode cX5_bringQueueAway 85 = .ok (.iastore, 1) := by decide +kernel
theorem dX5_bringQueueAway_86 : decode cX5_bringQueueAway 86 = .ok (.return_, 1) := by decide +kernel
theorem dX5_carry_0 : decode cX5_carry 0 = .ok (.aload_n 0, 1) := by decide +kernel
theorem dX5_carry_1 : decode cX5_carry 1 = .ok (.getfield 41, 3) := by decide +kernel
theorem dX5_carry_4 : decode cX5_carry 4 = .ok (.aload_n 0, 1) := by decide +kernel
theorem dX5_carry_5 : decode cX5_carry 5 = .ok (.getfield 18, 3) := by decide +kernel
theorem dX5_carry_8 : decode cX5_carry 8 = .ok (.iload_n 1, 1) := by decide +kernel
theorem dX5_carry_9 : decode cX5_carry 9 = .ok (.iaload, 1) := by decide +kernel
theorem dX5_carry_10 : decode cX5_carry 10 = .ok (.invokevirtual 187, 3) := by decide +kernel
theorem dX5_carry_13 : decode cX5_carry 13 = .ok (.istore_n 3, 1) := by decide +kernel
theorem dX5_carry_14 : decode cX5_carry 14 = .ok (.aload_n 0, 1) := by decide +kernel
theorem dX5_carry_15 : decode cX5_carry 15 = .ok (.iload_n 1, 1) := by decide +kernel
theorem dX5_carry_16 : decode cX5_carry 16 = .ok (.aload_n 0, 1) := by decide +kernel
theorem dX5_carry_17 : decode cX5_carry 17 = .ok (.getfield 18, 3) := by decide +kernel
theorem dX5_carry_20 : decode cX5_carry 20 = .ok (.iload_n 1, 1) := by decide +kernel
theorem dX5_carry_21 : decode cX5_carry 21 = .ok (.iaload, 1) := by decide +kernel
theorem dX5_carry_22 : decode cX5_carry 22 = .ok (.invokevirtual 107, 3) := by decide +kernel
theorem dX5_carry_25 : decode cX5_carry 25 = .ok (.aload_n 0, 1) := by decide +kernel
theorem dX5_carry_26 : decode cX5_carry 26 = .ok (.iload_n 1, 1) := by decide +kernel
theorem dX5_carry_27 : decode cX5_carry 27 = .ok (.iload_n 2, 1) := by decide +kernel
theorem dX5_carry_28 : decode cX5_carry 28 = .ok (.invokevirtual 144, 3) := by decide +kernel
theorem dX5_carry_31 : decode cX5_carry 31 = .ok (.iload_n 3, 1) := by decide +kernel
theorem dX5_carry_32 : decode cX5_carry 32 = .ok (.ifCond .eq 10, 3) := by decide +kernel
theorem dX5_carry_35 : decode cX5_carry 35 = .ok (.aload_n 0, 1) := by decide +kernel
theorem dX5_carry_36 : decode cX5_carry 36 = .ok (.iload_n 1, 1) := by decide +kernel
theorem dX5_carry_37 : decode cX5_carry 37 = .ok (.iload_n 2, 1) := by decide +kernel
theorem dX5_carry_38 : decode cX5_carry 38 = .ok (.invokevirtual 196, 3) := by decide +kernel
theorem dX5_carry_41 : decode cX5_carry 41 = .ok (.pop, 1) := by decide +kernel
theorem dX5_carry_42 : decode cX5_carry 42 = .ok (.return_, 1) := by decide +kernel
theorem dX5_comeBack_0 : decode cX5_comeBack 0 = .ok (.aload_n 0, 1) := by decide +kernel
theorem dX5_comeBack_1 : decode cX5_comeBack 1 = .ok (.getfield 41, 3) := by decide +kernel
theorem dX5_comeBack_4 : decode cX5_comeBack 4 = .ok (.iload_n 1, 1) := by decide +kernel
theorem dX5_comeBack_5 : decode cX5_comeBack 5 = .ok (.invokevirtual 153, 3) := by decide +kernel
theorem dX5_comeBack_8 : decode cX5_comeBack 8 = .ok (.ifCond .eq 5, 3) := by decide +kernel
theorem dX5_comeBack_11 : decode cX5_comeBack 11 = .ok (.iconst 4, 1) := by decide +kernel
theorem dX5_comeBack_12 : decode cX5_comeBack 12 = .ok (.ireturn, 1) := by decide +kernel
theorem dX5_comeBack_13 : decode cX5_comeBack 13 = .ok (.aload_n 0, 1) := by decide +kernel
theorem dX5_comeBack_14 : decode cX5_comeBack 14 = .ok (.getfield 41, 3) := by decide +kernel
theorem dX5_comeBack_17 : decode cX5_comeBack 17 = .ok (.dup, 1) := by decide +kernel
theorem dX5_comeBack_18 : decode cX5_comeBack 18 = .ok (.getfield 227, 3) := by decide +kernel
theorem dX5_comeBack_21 : decode cX5_comeBack 21 = .ok (.iconst 1, 1) := by decide +kernel
theorem dX5_comeBack_22 : decode cX5_comeBack 22 = .ok (.iload_n 1, 1) := by decide +kernel
theorem dX5_comeBack_23 : decode cX5_comeBack 23 = .ok (.ishl, 1) := by decide +kernel
theorem dX5_comeBack_24 : decode cX5_comeBack 24 = .ok (.ior, 1) := by decide +kernel
theorem dX5_comeBack_25 : decode cX5_comeBack 25 = .ok (.putfield 227, 3) := by decide +kernel
theorem dX5_comeBack_28 : decode cX5_comeBack 28 = .ok (.iconst 0, 1) := by decide +kernel
theorem dX5_comeBack_29 : decode cX5_comeBack 29 = .ok (.istore_n 2, 1) := by decide +kernel
theorem dX5_comeBack_30 : decode cX5_comeBack 30 = .ok (.iload_n 2, 1) := by decide +kernel
theorem dX5_comeBack_31 : decode cX5_comeBack 31 = .ok (.aload_n 0, 1) := by decide +kernel
theorem dX5_comeBack_32 : decode cX5_comeBack 32 = .ok (.getfield 32, 3) := by decide +kernel
theorem dX5_comeBack_35 : decode cX5_comeBack 35 = .ok (.getfield 79, 3) := by decide +kernel
theorem dX5_comeBack_38 : decode cX5_comeBack 38 = .ok (.if_icmp .ge 57, 3) := by decide +kernel
theorem dX5_comeBack_41 : decode cX5_comeBack 41 = .ok (.iconst 0, 1) := by decide +kernel
theorem dX5_comeBack_42 : decode cX5_comeBack 42 = .ok (.istore_n 3, 1) := by decide +kernel
theorem dX5_comeBack_43 : decode cX5_comeBack 43 = .ok (.aload_n 0, 1) := by decide +kernel
theorem dX5_comeBack_44 : decode cX5_comeBack 44 = .ok (.iload_n 2, 1) := by decide +kernel
theorem dX5_comeBack_45 : decode cX5_comeBack 45 = .ok (.invokevirtual 121, 3) := by decide +kernel
theorem dX5_comeBack_48 : decode cX5_comeBack 48 = .ok (.ifCond .eq 41, 3) := by decide +kernel
theorem dX5_comeBack_51 : decode cX5_comeBack 51 = .ok (.aload_n 0, 1) := by decide +kernel
theorem dX5_comeBack_52 : decode cX5_comeBack 52 = .ok (.iload_n 2, 1) := by decide +kernel
theorem dX5_comeBack_53 : decode cX5_comeBack 53 = .ok (.invokevirtual 104, 3) := by decide +kernel
theorem dX5_comeBack_56 : decode cX5_comeBack 56 = .ok (.ifCond .eq 33, 3) := by decide +kernel
theorem dX5_comeBack_59 : decode cX5_comeBack 59 = .ok (.iload_n 3, 1) := by decide +kernel
theorem dX5_comeBack_60 : decode cX5_comeBack 60 = .ok (.aload_n 0, 1) := by decide +kernel
theorem dX5_comeBack_61 : decode cX5_comeBack 61 = .ok (.getfield 32, 3) := by decide +kernel
theorem dX5_comeBack_64 : decode cX5_comeBack 64 = .ok (.getfield 85, 3) := by decide +kernel
theorem dX5_comeBack_67 : decode cX5_comeBack 67 = .ok (.iload_n 2, 1) := by decide +kernel
theorem dX5_comeBack_68 : decode cX5_comeBack 68 = .ok (.iaload, 1) := by decide +kernel
theorem dX5_comeBack_69 : decode cX5_comeBack 69 = .ok (.if_icmp .ge 20, 3) := by decide +kernel
theorem dX5_comeBack_72 : decode cX5_comeBack 72 = .ok (.aload_n 0, 1) := by decide +kernel
theorem dX5_comeBack_73 : decode cX5_comeBack 73 = .ok (.iload_n 2, 1) := by decide +kernel
theorem dX5_comeBack_74 : decode cX5_comeBack 74 = .ok (.bipush 8, 2) := by decide +kernel
theorem dX5_comeBack_76 : decode cX5_comeBack 76 = .ok (.imul, 1) := by decide +kernel
theorem dX5_comeBack_77 : decode cX5_comeBack 77 = .ok (.iload_n 3, 1) := by decide +kernel
theorem dX5_comeBack_78 : decode cX5_comeBack 78 = .ok (.iadd, 1) := by decide +kernel
theorem dX5_comeBack_79 : decode cX5_comeBack 79 = .ok (.iload_n 1, 1) := by decide +kernel
theorem dX5_comeBack_80 : decode cX5_comeBack 80 = .ok (.invokevirtual 245, 3) := by decide +kernel
theorem dX5_comeBack_83 : decode cX5_comeBack 83 = .ok (.iinc 3 1, 3) := by decide +kernel
theorem dX5_comeBack_86 : decode cX5_comeBack 86 = .ok (.goto (-43), 3) := by decide +kernel
theorem dX5_comeBack_89 : decode cX5_comeBack 89 = .ok (.iinc 2 1, 3) := by decide +kernel
theorem dX5_comeBack_92 : decode cX5_comeBack 92 = .ok (.goto (-62), 3) := by decide +kernel
theorem dX5_comeBack_95 : decode cX5_comeBack 95 = .ok (.iconst 0, 1) := by decide +kernel
theorem dX5_comeBack_96 : decode cX5_comeBack 96 = .ok (.ireturn, 1) := by decide +kernel
theorem dX5_openQueue_0 : decode cX5_openQueue 0 = .ok (.aload_n 0, 1) := by decide +kernel
theorem dX5_openQueue_1 : decode cX5_openQueue 1 = .ok (.getfield 18, 3) := by decide +kernel
theorem dX5_openQueue_4 : decode cX5_openQueue 4 = .ok (.iload_n 1, 1) := by decide +kernel
theorem dX5_openQueue_5 : decode cX5_openQueue 5 = .ok (.iaload, 1) := by decide +kernel
theorem dX5_openQueue_6 : decode cX5_openQueue 6 = .ok (.iconst (-1), 1) := by decide +kernel
theorem dX5_openQueue_7 : decode cX5_openQueue 7 = .ok (.if_icmp .ne 15, 3) := by decide +kernel
theorem dX5_openQueue_10 : decode cX5_openQueue 10 = .ok (.aload_n 0, 1) := by decide +kernel
theorem dX5_openQueue_11 : decode cX5_openQueue 11 = .ok (.getfield 41, 3) := by decide +kernel
theorem dX5_openQueue_14 : decode cX5_openQueue 14 = .ok (.iload_n 2, 1) := by decide +kernel
theorem dX5_openQueue_15 : decode cX5_openQueue 15 = .ok (.iload_n 1, 1) := by decide +kernel
theorem dX5_openQueue_16 : decode cX5_openQueue 16 = .ok (.invokevirtual 178, 3) := by decide +kernel
theorem dX5_openQueue_19 : decode cX5_openQueue 19 = .ok (.goto 4, 3) := by decide +kernel
theorem dX5_openQueue_22 : decode cX5_openQueue 22 = .ok (.iconst (-1), 1) := by decide +kernel
theorem dX5_openQueue_23 : decode cX5_openQueue 23 = .ok (.istore_n 3, 1) := by decide +kernel
theorem dX5_openQueue_24 : decode cX5_openQueue 24 = .ok (.iload_n 3, 1) := by decide +kernel
theorem dX5_openQueue_25 : decode cX5_openQueue 25 = .ok (.iconst (-1), 1) := by decide +kernel
theorem dX5_openQueue_26 : decode cX5_openQueue 26 = .ok (.if_icmp .ne 4, 3) := by decide +kernel
theorem dX5_openQueue_29 : decode cX5_openQueue 29 = .ok (.return_, 1) := by decide +kernel
theorem dX5_openQueue_30 : decode cX5_openQueue 30 = .ok (.aload_n 0, 1) := by decide +kernel
theorem dX5_openQueue_31 : decode cX5_openQueue 31 = .ok (.iload_n 1, 1) := by decide +kernel
theorem dX5_openQueue_32 : decode cX5_openQueue 32 = .ok (.iload_n 3, 1) := by decide +kernel
theorem dX5_openQueue_33 : decode cX5_openQueue 33 = .ok (.invokevirtual 144, 3) := by decide +kernel
theorem dX5_openQueue_36 : decode cX5_openQueue 36 = .ok (.aload_n 0, 1) := by decide +kernel
theorem dX5_openQueue_37 : decode cX5_openQueue 37 = .ok (.getfield 29, 3) := by decide +kernel
theorem dX5_openQueue_40 : decode cX5_openQueue 40 = .ok (.iload_n 1, 1) := by decide +kernel
theorem dX5_openQueue_41 : decode cX5_openQueue 41 = .ok (.baload, 1) := by decide +kernel
theorem dX5_openQueue_42 : decode cX5_openQueue 42 = .ok (.ifCond .eq 18, 3) := by decide +kernel
theorem dX5_openQueue_45 : decode cX5_openQueue 45 = .ok (.aload_n 0, 1) := by decide +kernel
theorem dX5_openQueue_46 : decode cX5_openQueue 46 = .ok (.getfield 29, 3) := by decide +kernel
theorem dX5_openQueue_49 : decode cX5_openQueue 49 = .ok (.iload_n 1, 1) := by decide +kernel
theorem dX5_openQueue_50 : decode cX5_openQueue 50 = .ok (.iconst 0, 1) := by decide +kernel
theorem dX5_openQueue_51 : decode cX5_openQueue 51 = .ok (.bastore, 1) := by decide +kernel
theorem dX5_openQueue_52 : decode cX5_openQueue 52 = .ok (.aload_n 0, 1) := by decide +kernel
theorem dX5_openQueue_53 : decode cX5_openQueue 53 = .ok (.getfield 41, 3) := by decide +kernel
theorem dX5_openQueue_56 : decode cX5_openQueue 56 = .ok (.iload_n 3, 1) := by decide +kernel
theorem dX5_openQueue_57 : decode cX5_openQueue 57 = .ok (.invokevirtual 117, 3) := by decide +kernel
theorem dX5_openQueue_60 : decode cX5_openQueue 60 = .ok (.return_, 1) := by decide +kernel
