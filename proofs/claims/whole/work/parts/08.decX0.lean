theorem dX0_init_0 : decode cX0_init 0 = .ok (.aload_n 0, 1) := by decide +kernel
theorem dX0_init_1 : decode cX0_init 1 = .ok (.invokespecial 3, 3) := by decide +kernel
theorem dX0_init_4 : decode cX0_init 4 = .ok (.aload_n 0, 1) := by decide +kernel
theorem dX0_init_5 : decode cX0_init 5 = .ok (.bipush 10, 2) := by decide +kernel
theorem dX0_init_7 : decode cX0_init 7 = .ok (.newarray .long, 2) := by decide +kernel
theorem dX0_init_9 : decode cX0_init 9 = .ok (.putfield 9, 3) := by decide +kernel
theorem dX0_init_12 : decode cX0_init 12 = .ok (.aload_n 0, 1) := by decide +kernel
theorem dX0_init_13 : decode cX0_init 13 = .ok (.bipush 10, 2) := by decide +kernel
theorem dX0_init_15 : decode cX0_init 15 = .ok (.newarray .int, 2) := by decide +kernel
theorem dX0_init_17 : decode cX0_init 17 = .ok (.putfield 15, 3) := by decide +kernel
theorem dX0_init_20 : decode cX0_init 20 = .ok (.aload_n 0, 1) := by decide +kernel
theorem dX0_init_21 : decode cX0_init 21 = .ok (.bipush 10, 2) := by decide +kernel
theorem dX0_init_23 : decode cX0_init 23 = .ok (.newarray .int, 2) := by decide +kernel
theorem dX0_init_25 : decode cX0_init 25 = .ok (.putfield 19, 3) := by decide +kernel
theorem dX0_init_28 : decode cX0_init 28 = .ok (.aload_n 0, 1) := by decide +kernel
theorem dX0_init_29 : decode cX0_init 29 = .ok (.bipush 10, 2) := by decide +kernel
theorem dX0_init_31 : decode cX0_init 31 = .ok (.newarray .int, 2) := by decide +kernel
theorem dX0_init_33 : decode cX0_init 33 = .ok (.putfield 22, 3) := by decide +kernel
theorem dX0_init_36 : decode cX0_init 36 = .ok (.aload_n 0, 1) := by decide +kernel
theorem dX0_init_37 : decode cX0_init 37 = .ok (.bipush 10, 2) := by decide +kernel
theorem dX0_init_39 : decode cX0_init 39 = .ok (.newarray .int, 2) := by decide +kernel
theorem dX0_init_41 : decode cX0_init 41 = .ok (.putfield 25, 3) := by decide +kernel
theorem dX0_init_44 : decode cX0_init 44 = .ok (.aload_n 0, 1) := by decide +kernel
theorem dX0_init_45 : decode cX0_init 45 = .ok (.invokevirtual 28, 3) := by decide +kernel
theorem dX0_init_48 : decode cX0_init 48 = .ok (.return_, 1) := by decide +kernel
theorem dX0_empty_0 : decode cX0_empty 0 = .ok (.aload_n 0, 1) := by decide +kernel
theorem dX0_empty_1 : decode cX0_empty 1 = .ok (.iconst 4, 1) := by decide +kernel
theorem dX0_empty_2 : decode cX0_empty 2 = .ok (.putfield 31, 3) := by decide +kernel
theorem dX0_empty_5 : decode cX0_empty 5 = .ok (.aload_n 0, 1) := by decide +kernel
theorem dX0_empty_6 : decode cX0_empty 6 = .ok (.bipush 16, 2) := by decide +kernel
theorem dX0_empty_8 : decode cX0_empty 8 = .ok (.putfield 35, 3) := by decide +kernel
theorem dX0_empty_11 : decode cX0_empty 11 = .ok (.aload_n 0, 1) := by decide +kernel
theorem dX0_empty_12 : decode cX0_empty 12 = .ok (.iconst 0, 1) := by decide +kernel
theorem dX0_empty_13 : decode cX0_empty 13 = .ok (.putfield 38, 3) := by decide +kernel
theorem dX0_empty_16 : decode cX0_empty 16 = .ok (.aload_n 0, 1) := by decide +kernel
theorem dX0_empty_17 : decode cX0_empty 17 = .ok (.iconst 0, 1) := by decide +kernel
theorem dX0_empty_18 : decode cX0_empty 18 = .ok (.putfield 41, 3) := by decide +kernel
theorem dX0_empty_21 : decode cX0_empty 21 = .ok (.aload_n 0, 1) := by decide +kernel
theorem dX0_empty_22 : decode cX0_empty 22 = .ok (.iconst 0, 1) := by decide +kernel
theorem dX0_empty_23 : decode cX0_empty 23 = .ok (.putfield 44, 3) := by decide +kernel
theorem dX0_empty_26 : decode cX0_empty 26 = .ok (.return_, 1) := by decide +kernel
theorem dX0_copyFrom_0 : decode cX0_copyFrom 0 = .ok (.aload_n 0, 1) := by decide +kernel
theorem dX0_copyFrom_1 : decode cX0_copyFrom 1 = .ok (.aload_n 1, 1) := by decide +kernel
theorem dX0_copyFrom_2 : decode cX0_copyFrom 2 = .ok (.getfield 31, 3) := by decide +kernel
theorem dX0_copyFrom_5 : decode cX0_copyFrom 5 = .ok (.putfield 31, 3) := by decide +kernel
theorem dX0_copyFrom_8 : decode cX0_copyFrom 8 = .ok (.aload_n 0, 1) := by decide +kernel
theorem dX0_copyFrom_9 : decode cX0_copyFrom 9 = .ok (.aload_n 1, 1) := by decide +kernel
theorem dX0_copyFrom_10 : decode cX0_copyFrom 10 = .ok (.getfield 35, 3) := by decide +kernel
theorem dX0_copyFrom_13 : decode cX0_copyFrom 13 = .ok (.putfield 35, 3) := by decide +kernel
theorem dX0_copyFrom_16 : decode cX0_copyFrom 16 = .ok (.aload_n 0, 1) := by decide +kernel
theorem dX0_copyFrom_17 : decode cX0_copyFrom 17 = .ok (.aload_n 1, 1) := by decide +kernel
theorem dX0_copyFrom_18 : decode cX0_copyFrom 18 = .ok (.getfield 38, 3) := by decide +kernel
theorem dX0_copyFrom_21 : decode cX0_copyFrom 21 = .ok (.putfield 38, 3) := by decide +kernel
theorem dX0_copyFrom_24 : decode cX0_copyFrom 24 = .ok (.aload_n 0, 1) := by decide +kernel
theorem dX0_copyFrom_25 : decode cX0_copyFrom 25 = .ok (.aload_n 1, 1) := by decide +kernel
theorem dX0_copyFrom_26 : decode cX0_copyFrom 26 = .ok (.getfield 41, 3) := by decide +kernel
theorem dX0_copyFrom_29 : decode cX0_copyFrom 29 = .ok (.putfield 41, 3) := by decide +kernel
theorem dX0_copyFrom_32 : decode cX0_copyFrom 32 = .ok (.aload_n 0, 1) := by decide +kernel
theorem dX0_copyFrom_33 : decode cX0_copyFrom 33 = .ok (.aload_n 1, 1) := by decide +kernel
theorem dX0_copyFrom_34 : decode cX0_copyFrom 34 = .ok (.getfield 44, 3) := by decide +kernel
theorem dX0_copyFrom_37 : decode cX0_copyFrom 37 = .ok (.putfield 44, 3) := by decide +kernel
theorem dX0_copyFrom_40 : decode cX0_copyFrom 40 = .ok (.aload_n 1, 1) := by decide +kernel
theorem dX0_copyFrom_41 : decode cX0_copyFrom 41 = .ok (.getfield 9, 3) := by decide +kernel
theorem dX0_copyFrom_44 : decode cX0_copyFrom 44 = .ok (.iconst 0, 1) := by decide +kernel
theorem dX0_copyFrom_45 : decode cX0_copyFrom 45 = .ok (.aload_n 0, 1) := by decide +kernel
theorem dX0_copyFrom_46 : decode cX0_copyFrom 46 = .ok (.getfield 9, 3) := by decide +kernel
theorem dX0_copyFrom_49 : decode cX0_copyFrom 49 = .ok (.iconst 0, 1) := by decide +kernel
theorem dX0_copyFrom_50 : decode cX0_copyFrom 50 = .ok (.bipush 10, 2) := by decide +kernel
theorem dX0_copyFrom_52 : decode cX0_copyFrom 52 = .ok (.invokestatic 47, 3) := by decide +kernel
theorem dX0_copyFrom_55 : decode cX0_copyFrom 55 = .ok (.aload_n 1, 1) := by decide +kernel
theorem dX0_copyFrom_56 : decode cX0_copyFrom 56 = .ok (.getfield 15, 3) := by decide +kernel
theorem dX0_copyFrom_59 : decode cX0_copyFrom 59 = .ok (.iconst 0, 1) := by decide +kernel
theorem dX0_copyFrom_60 : decode cX0_copyFrom 60 = .ok (.aload_n 0, 1) := by decide +kernel
theorem dX0_copyFrom_61 : decode cX0_copyFrom 61 = .ok (.getfield 15, 3) := by decide +kernel
theorem dX0_copyFrom_64 : decode cX0_copyFrom 64 = .ok (.iconst 0, 1) := by decide +kernel
theorem dX0_copyFrom_65 : decode cX0_copyFrom 65 = .ok (.bipush 10, 2) := by decide +kernel
theorem dX0_copyFrom_67 : decode cX0_copyFrom 67 = .ok (.invokestatic 47, 3) := by decide +kernel
theorem dX0_copyFrom_70 : decode cX0_copyFrom 70 = .ok (.aload_n 1, 1) := by decide +kernel
theorem dX0_copyFrom_71 : decode cX0_copyFrom 71 = .ok (.getfield 19, 3) := by decide +kernel
theorem dX0_copyFrom_74 : decode cX0_copyFrom 74 = .ok (.iconst 0, 1) := by decide +kernel
theorem dX0_copyFrom_75 : decode cX0_copyFrom 75 = .ok (.aload_n 0, 1) := by decide +kernel
theorem dX0_copyFrom_76 : decode cX0_copyFrom 76 = .ok (.getfield 19, 3) := by decide +kernel
theorem dX0_copyFrom_79 : decode cX0_copyFrom 79 = .ok (.iconst 0, 1) := by decide +kernel
theorem dX0_copyFrom_80 : decode cX0_copyFrom 80 = .ok (.bipush 10, 2) := by decide +kernel
theorem dX0_copyFrom_82 : decode cX0_copyFrom 82 = .ok (.invokestatic 47, 3) := by decide +kernel
theorem dX0_copyFrom_85 : decode cX0_copyFrom 85 = .ok (.aload_n 1, 1) := by decide +kernel
theorem dX0_copyFrom_86 : decode cX0_copyFrom 86 = .ok (.getfield 22, 3) := by decide +kernel
theorem dX0_copyFrom_89 : decode cX0_copyFrom 89 = .ok (.iconst 0, 1) := by decide +kernel
theorem dX0_copyFrom_90 : decode cX0_copyFrom 90 = .ok (.aload_n 0, 1) := by decide +kernel
theorem dX0_copyFrom_91 : decode cX0_copyFrom 91 = .ok (.getfield 22, 3) := by decide +kernel
theorem dX0_copyFrom_94 : decode cX0_copyFrom 94 = .ok (.iconst 0, 1) := by decide +kernel
theorem dX0_copyFrom_95 : decode cX0_copyFrom 95 = .ok (.bipush 10, 2) := by decide +kernel
theorem dX0_copyFrom_97 : decode cX0_copyFrom 97 = .ok (.invokestatic 47, 3) := by decide +kernel
theorem dX0_copyFrom_100 : decode cX0_copyFrom 100 = .ok (.aload_n 1, 1) := by decide +kernel
theorem dX0_copyFrom_101 : decode cX0_copyFrom 101 = .ok (.getfield 25, 3) := by decide +kernel
theorem dX0_copyFrom_104 : decode cX0_copyFrom 104 = .ok (.iconst 0, 1) := by decide +kernel
theorem dX0_copyFrom_105 : decode cX0_copyFrom 105 = .ok (.aload_n 0, 1) := by decide +kernel
theorem dX0_copyFrom_106 : decode cX0_copyFrom 106 = .ok (.getfield 25, 3) := by decide +kernel
theorem dX0_copyFrom_109 : decode cX0_copyFrom 109 = .ok (.iconst 0, 1) := by decide +kernel
theorem dX0_copyFrom_110 : decode cX0_copyFrom 110 = .ok (.bipush 10, 2) := by decide +kernel
theorem dX0_copyFrom_112 : decode cX0_copyFrom 112 = .ok (.invokestatic 47, 3) := by decide +kernel
theorem dX0_copyFrom_115 : decode cX0_copyFrom 115 = .ok (.return_, 1) := by decide +kernel
theorem dX0_hasCpu_0 : decode cX0_hasCpu 0 = .ok (.iload_n 1, 1) := by decide +kernel
theorem dX0_hasCpu_1 : decode cX0_hasCpu 1 = .ok (.ifCond .lt 15, 3) := by decide +kernel
theorem dX0_hasCpu_4 : decode cX0_hasCpu 4 = .ok (.iload_n 1, 1) := by decide +kernel
theorem dX0_hasCpu_5 : decode cX0_hasCpu 5 = .ok (.aload_n 0, 1) := by decide +kernel
theorem dX0_hasCpu_6 : decode cX0_hasCpu 6 = .ok (.getfield 31, 3) := by decide +kernel
theorem dX0_hasCpu_9 : decode cX0_hasCpu 9 = .ok (.if_icmp .ge 7, 3) := by decide +kernel
theorem dX0_hasCpu_12 : decode cX0_hasCpu 12 = .ok (.iconst 1, 1) := by decide +kernel
theorem dX0_hasCpu_13 : decode cX0_hasCpu 13 = .ok (.goto 4, 3) := by decide +kernel
theorem dX0_hasCpu_16 : decode cX0_hasCpu 16 = .ok (.iconst 0, 1) := by decide +kernel
theorem dX0_hasCpu_17 : decode cX0_hasCpu 17 = .ok (.ireturn, 1) := by decide +kernel
theorem dX0_hasVector_0 : decode cX0_hasVector 0 = .ok (.iload_n 1, 1) := by decide +kernel
theorem dX0_hasVector_1 : decode cX0_hasVector 1 = .ok (.ifCond .lt 15, 3) := by decide +kernel
theorem dX0_hasVector_4 : decode cX0_hasVector 4 = .ok (.iload_n 1, 1) := by decide +kernel
theorem dX0_hasVector_5 : decode cX0_hasVector 5 = .ok (.aload_n 0, 1) := by decide +kernel
theorem dX0_hasVector_6 : decode cX0_hasVector 6 = .ok (.getfield 35, 3) := by decide +kernel
theorem dX0_hasVector_9 : decode cX0_hasVector 9 = .ok (.if_icmp .ge 7, 3) := by decide +kernel
theorem dX0_hasVector_12 : decode cX0_hasVector 12 = .ok (.iconst 1, 1) := by decide +kernel
theorem dX0_hasVector_13 : decode cX0_hasVector 13 = .ok (.goto 4, 3) := by decide +kernel
theorem dX0_hasVector_16 : decode cX0_hasVector 16 = .ok (.iconst 0, 1) := by decide +kernel
theorem dX0_hasVector_17 : decode cX0_hasVector 17 = .ok (.ireturn, 1) := by decide +kernel
theorem dX0_hasDevice_0 : decode cX0_hasDevice 0 = .ok (.iload_n 1, 1) := by decide +kernel
theorem dX0_hasDevice_1 : decode cX0_hasDevice 1 = .ok (.ifCond .lt 15, 3) := by decide +kernel
theorem dX0_hasDevice_4 : decode cX0_hasDevice 4 = .ok (.iload_n 1, 1) := by decide +kernel
theorem dX0_hasDevice_5 : decode cX0_hasDevice 5 = .ok (.aload_n 0, 1) := by decide +kernel
theorem dX0_hasDevice_6 : decode cX0_hasDevice 6 = .ok (.getfield 44, 3) := by decide +kernel
theorem dX0_hasDevice_9 : decode cX0_hasDevice 9 = .ok (.if_icmp .ge 7, 3) := by decide +kernel
theorem dX0_hasDevice_12 : decode cX0_hasDevice 12 = .ok (.iconst 1, 1) := by decide +kernel
theorem dX0_hasDevice_13 : decode cX0_hasDevice 13 = .ok (.goto 4, 3) := by decide +kernel
theorem dX0_hasDevice_16 : decode cX0_hasDevice 16 = .ok (.iconst 0, 1) := by decide +kernel
theorem dX0_hasDevice_17 : decode cX0_hasDevice 17 = .ok (.ireturn, 1) := by decide +kernel
theorem dX0_hasLine_0 : decode cX0_hasLine 0 = .ok (.aload_n 0, 1) := by decide +kernel
theorem dX0_hasLine_1 : decode cX0_hasLine 1 = .ok (.iload_n 1, 1) := by decide +kernel
theorem dX0_hasLine_2 : decode cX0_hasLine 2 = .ok (.invokevirtual 53, 3) := by decide +kernel
theorem dX0_hasLine_5 : decode cX0_hasLine 5 = .ok (.ifCond .eq 21, 3) := by decide +kernel
theorem dX0_hasLine_8 : decode cX0_hasLine 8 = .ok (.iload_n 2, 1) := by decide +kernel
theorem dX0_hasLine_9 : decode cX0_hasLine 9 = .ok (.ifCond .lt 17, 3) := by decide +kernel
theorem dX0_hasLine_12 : decode cX0_hasLine 12 = .ok (.iload_n 2, 1) := by decide +kernel
theorem dX0_hasLine_13 : decode cX0_hasLine 13 = .ok (.aload_n 0, 1) := by decide +kernel
theorem dX0_hasLine_14 : decode cX0_hasLine 14 = .ok (.getfield 22, 3) := by decide +kernel
theorem dX0_hasLine_17 : decode cX0_hasLine 17 = .ok (.iload_n 1, 1) := by decide +kernel
theorem dX0_hasLine_18 : decode cX0_hasLine 18 = .ok (.iaload, 1) := by decide +kernel
theorem dX0_hasLine_19 : decode cX0_hasLine 19 = .ok (.if_icmp .ge 7, 3) := by decide +kernel
theorem dX0_hasLine_22 : decode cX0_hasLine 22 = .ok (.iconst 1, 1) := by decide +kernel
theorem dX0_hasLine_23 : decode cX0_hasLine 23 = .ok (.goto 4, 3) := by decide +kernel
theorem dX0_hasLine_26 : decode cX0_hasLine 26 = .ok (.iconst 0, 1) := by decide +kernel
theorem dX0_hasLine_27 : decode cX0_hasLine 27 = .ok (.ireturn, 1) := by decide +kernel
theorem dX0_allCpus_0 : decode cX0_allCpus 0 = .ok (.iconst 1, 1) := by decide +kernel
theorem dX0_allCpus_1 : decode cX0_allCpus 1 = .ok (.aload_n 0, 1) := by decide +kernel
theorem dX0_allCpus_2 : decode cX0_allCpus 2 = .ok (.getfield 31, 3) := by decide +kernel
theorem dX0_allCpus_5 : decode cX0_allCpus 5 = .ok (.ishl, 1) := by decide +kernel
theorem dX0_allCpus_6 : decode cX0_allCpus 6 = .ok (.iconst 1, 1) := by decide +kernel
theorem dX0_allCpus_7 : decode cX0_allCpus 7 = .ok (.isub, 1) := by decide +kernel
theorem dX0_allCpus_8 : decode cX0_allCpus 8 = .ok (.ireturn, 1) := by decide +kernel
theorem dX0_allVectors_0 : decode cX0_allVectors 0 = .ok (.aload_n 0, 1) := by decide +kernel
theorem dX0_allVectors_1 : decode cX0_allVectors 1 = .ok (.getfield 35, 3) := by decide +kernel
theorem dX0_allVectors_4 : decode cX0_allVectors 4 = .ok (.bipush 32, 2) := by decide +kernel
theorem dX0_allVectors_6 : decode cX0_allVectors 6 = .ok (.if_icmp .lt 7, 3) := by decide +kernel
theorem dX0_allVectors_9 : decode cX0_allVectors 9 = .ok (.iconst (-1), 1) := by decide +kernel
theorem dX0_allVectors_10 : decode cX0_allVectors 10 = .ok (.goto 11, 3) := by decide +kernel
theorem dX0_allVectors_13 : decode cX0_allVectors 13 = .ok (.iconst 1, 1) := by decide +kernel
theorem dX0_allVectors_14 : decode cX0_allVectors 14 = .ok (.aload_n 0, 1) := by decide +kernel
theorem dX0_allVectors_15 : decode cX0_allVectors 15 = .ok (.getfield 35, 3) := by decide +kernel
theorem dX0_allVectors_18 : decode cX0_allVectors 18 = .ok (.ishl, 1) := by decide +kernel
theorem dX0_allVectors_19 : decode cX0_allVectors 19 = .ok (.iconst 1, 1) := by decide +kernel
theorem dX0_allVectors_20 : decode cX0_allVectors 20 = .ok (.isub, 1) := by decide +kernel
theorem dX0_allVectors_21 : decode cX0_allVectors 21 = .ok (.ireturn, 1) := by decide +kernel
theorem dX0_deviceNamed_0 : decode cX0_deviceNamed 0 = .ok (.iconst 0, 1) := by decide +kernel
theorem dX0_deviceNamed_1 : decode cX0_deviceNamed 1 = .ok (.istore_n 3, 1) := by decide +kernel
theorem dX0_deviceNamed_2 : decode cX0_deviceNamed 2 = .ok (.iload_n 3, 1) := by decide +kernel
theorem dX0_deviceNamed_3 : decode cX0_deviceNamed 3 = .ok (.aload_n 0, 1) := by decide +kernel
theorem dX0_deviceNamed_4 : decode cX0_deviceNamed 4 = .ok (.getfield 44, 3) := by decide +kernel
theorem dX0_deviceNamed_7 : decode cX0_deviceNamed 7 = .ok (.if_icmp .ge 22, 3) := by decide +kernel
theorem dX0_deviceNamed_10 : decode cX0_deviceNamed 10 = .ok (.aload_n 0, 1) := by decide +kernel
theorem dX0_deviceNamed_11 : decode cX0_deviceNamed 11 = .ok (.getfield 9, 3) := by decide +kernel
theorem dX0_deviceNamed_14 : decode cX0_deviceNamed 14 = .ok (.iload_n 3, 1) := by decide +kernel
theorem dX0_deviceNamed_15 : decode cX0_deviceNamed 15 = .ok (.laload, 1) := by decide +kernel
theorem dX0_deviceNamed_16 : decode cX0_deviceNamed 16 = .ok (.lload_n 1, 1) := by decide +kernel
theorem dX0_deviceNamed_17 : decode cX0_deviceNamed 17 = .ok (.lcmp, 1) := by decide +kernel
theorem dX0_deviceNamed_18 : decode cX0_deviceNamed 18 = .ok (.ifCond .ne 5, 3) := by decide +kernel
theorem dX0_deviceNamed_21 : decode cX0_deviceNamed 21 = .ok (.iload_n 3, 1) := by decide +kernel
theorem dX0_deviceNamed_22 : decode cX0_deviceNamed 22 = .ok (.ireturn, 1) := by decide +kernel
theorem dX0_deviceNamed_23 : decode cX0_deviceNamed 23 = .ok (.iinc 3 1, 3) := by decide +kernel
theorem dX0_deviceNamed_26 : decode cX0_deviceNamed 26 = .ok (.goto (-24), 3) := by decide +kernel
theorem dX0_deviceNamed_29 : decode cX0_deviceNamed 29 = .ok (.iconst (-1), 1) := by decide +kernel
theorem dX0_deviceNamed_30 : decode cX0_deviceNamed 30 = .ok (.ireturn, 1) := by decide +kernel
theorem dX0_beginsLike_0 : decode cX0_beginsLike 0 = .ok (.iload_n 3, 1) := by decide +kernel
theorem dX0_beginsLike_1 : decode cX0_beginsLike 1 = .ok (.aload_n 0, 1) := by decide +kernel
theorem dX0_beginsLike_2 : decode cX0_beginsLike 2 = .ok (.getfield 15, 3) := by decide +kernel
theorem dX0_beginsLike_5 : decode cX0_beginsLike 5 = .ok (.iload_n 2, 1) := by decide +kernel
theorem dX0_beginsLike_6 : decode cX0_beginsLike 6 = .ok (.iaload, 1) := by decide +kernel
theorem dX0_beginsLike_7 : decode cX0_beginsLike 7 = .ok (.invokestatic 57, 3) := by decide +kernel
theorem dX0_beginsLike_10 : decode cX0_beginsLike 10 = .ok (.istore 4, 2) := by decide +kernel
theorem dX0_beginsLike_12 : decode cX0_beginsLike 12 = .ok (.iconst 5, 1) := by decide +kernel
theorem dX0_beginsLike_13 : decode cX0_beginsLike 13 = .ok (.bipush 7, 2) := by decide +kernel
theorem dX0_beginsLike_15 : decode cX0_beginsLike 15 = .ok (.iload 4, 2) := by decide +kernel
theorem dX0_beginsLike_17 : decode cX0_beginsLike 17 = .ok (.isub, 1) := by decide +kernel
theorem dX0_beginsLike_18 : decode cX0_beginsLike 18 = .ok (.imul, 1) := by decide +kernel
theorem dX0_beginsLike_19 : decode cX0_beginsLike 19 = .ok (.istore 5, 2) := by decide +kernel
theorem dX0_beginsLike_21 : decode cX0_beginsLike 21 = .ok (.aload_n 0, 1) := by decide +kernel
theorem dX0_beginsLike_22 : decode cX0_beginsLike 22 = .ok (.getfield 9, 3) := by decide +kernel
theorem dX0_beginsLike_25 : decode cX0_beginsLike 25 = .ok (.iload_n 1, 1) := by decide +kernel
theorem dX0_beginsLike_26 : decode cX0_beginsLike 26 = .ok (.laload, 1) := by decide +kernel
theorem dX0_beginsLike_27 : decode cX0_beginsLike 27 = .ok (.iload 5, 2) := by decide +kernel
theorem dX0_beginsLike_29 : decode cX0_beginsLike 29 = .ok (.lushr, 1) := by decide +kernel
theorem dX0_beginsLike_30 : decode cX0_beginsLike 30 = .ok (.aload_n 0, 1) := by decide +kernel
theorem dX0_beginsLike_31 : decode cX0_beginsLike 31 = .ok (.getfield 9, 3) := by decide +kernel
theorem dX0_beginsLike_34 : decode cX0_beginsLike 34 = .ok (.iload_n 2, 1) := by decide +kernel
theorem dX0_beginsLike_35 : decode cX0_beginsLike 35 = .ok (.laload, 1) := by decide +kernel
theorem dX0_beginsLike_36 : decode cX0_beginsLike 36 = .ok (.iload 5, 2) := by decide +kernel
theorem dX0_beginsLike_38 : decode cX0_beginsLike 38 = .ok (.lushr, 1) := by decide +kernel
theorem dX0_beginsLike_39 : decode cX0_beginsLike 39 = .ok (.lcmp, 1) := by decide +kernel
theorem dX0_beginsLike_40 : decode cX0_beginsLike 40 = .ok (.ifCond .ne 7, 3) := by decide +kernel
theorem dX0_beginsLike_43 : decode cX0_beginsLike 43 = .ok (.iconst 1, 1) := by decide +kernel
theorem dX0_beginsLike_44 : decode cX0_beginsLike 44 = .ok (.goto 4, 3) := by decide +kernel
theorem dX0_beginsLike_47 : decode cX0_beginsLike 47 = .ok (.iconst 0, 1) := by decide +kernel
theorem dX0_beginsLike_48 : decode cX0_beginsLike 48 = .ok (.ireturn, 1) := by decide +kernel
theorem dX0_queueCpus_0 : decode cX0_queueCpus 0 = .ok (.aload_n 0, 1) := by decide +kernel
theorem dX0_queueCpus_1 : decode cX0_queueCpus 1 = .ok (.getfield 25, 3) := by decide +kernel
theorem dX0_queueCpus_4 : decode cX0_queueCpus 4 = .ok (.iload_n 1, 1) := by decide +kernel
theorem dX0_queueCpus_5 : decode cX0_queueCpus 5 = .ok (.iaload, 1) := by decide +kernel
theorem dX0_queueCpus_6 : decode cX0_queueCpus 6 = .ok (.invokestatic 63, 3) := by decide +kernel
theorem dX0_queueCpus_9 : decode cX0_queueCpus 9 = .ok (.istore_n 3, 1) := by decide +kernel
theorem dX0_queueCpus_10 : decode cX0_queueCpus 10 = .ok (.aload_n 0, 1) := by decide +kernel
theorem dX0_queueCpus_11 : decode cX0_queueCpus 11 = .ok (.getfield 19, 3) := by decide +kernel
theorem dX0_queueCpus_14 : decode cX0_queueCpus 14 = .ok (.iload_n 1, 1) := by decide +kernel
theorem dX0_queueCpus_15 : decode cX0_queueCpus 15 = .ok (.iaload, 1) := by decide +kernel
theorem dX0_queueCpus_16 : decode cX0_queueCpus 16 = .ok (.iconst 3, 1) := by decide +kernel
theorem dX0_queueCpus_17 : decode cX0_queueCpus 17 = .ok (.if_icmp .ne 7, 3) := by decide +kernel
theorem dX0_queueCpus_20 : decode cX0_queueCpus 20 = .ok (.iload_n 3, 1) := by decide +kernel
theorem dX0_queueCpus_21 : decode cX0_queueCpus 21 = .ok (.ifCond .ne 5, 3) := by decide +kernel
theorem dX0_queueCpus_24 : decode cX0_queueCpus 24 = .ok (.iconst 0, 1) := by decide +kernel
theorem dX0_queueCpus_25 : decode cX0_queueCpus 25 = .ok (.ireturn, 1) := by decide +kernel
theorem dX0_queueCpus_26 : decode cX0_queueCpus 26 = .ok (.aload_n 0, 1) := by decide +kernel
theorem dX0_queueCpus_27 : decode cX0_queueCpus 27 = .ok (.getfield 22, 3) := by decide +kernel
theorem dX0_queueCpus_30 : decode cX0_queueCpus 30 = .ok (.iload_n 1, 1) := by decide +kernel
theorem dX0_queueCpus_31 : decode cX0_queueCpus 31 = .ok (.iaload, 1) := by decide +kernel
theorem dX0_queueCpus_32 : decode cX0_queueCpus 32 = .ok (.istore 4, 2) := by decide +kernel
theorem dX0_queueCpus_34 : decode cX0_queueCpus 34 = .ok (.iconst 0, 1) := by decide +kernel
theorem dX0_queueCpus_35 : decode cX0_queueCpus 35 = .ok (.istore 5, 2) := by decide +kernel
theorem dX0_queueCpus_37 : decode cX0_queueCpus 37 = .ok (.iconst 0, 1) := by decide +kernel
theorem dX0_queueCpus_38 : decode cX0_queueCpus 38 = .ok (.istore 6, 2) := by decide +kernel
theorem dX0_queueCpus_40 : decode cX0_queueCpus 40 = .ok (.iconst 0, 1) := by decide +kernel
theorem dX0_queueCpus_41 : decode cX0_queueCpus 41 = .ok (.istore 7, 2) := by decide +kernel
theorem dX0_queueCpus_43 : decode cX0_queueCpus 43 = .ok (.iload 7, 2) := by decide +kernel
theorem dX0_queueCpus_45 : decode cX0_queueCpus 45 = .ok (.aload_n 0, 1) := by decide +kernel
theorem dX0_queueCpus_46 : decode cX0_queueCpus 46 = .ok (.getfield 31, 3) := by decide +kernel
theorem dX0_queueCpus_49 : decode cX0_queueCpus 49 = .ok (.if_icmp .ge 82, 3) := by decide +kernel
theorem dX0_queueCpus_52 : decode cX0_queueCpus 52 = .ok (.aload_n 0, 1) := by decide +kernel
theorem dX0_queueCpus_53 : decode cX0_queueCpus 53 = .ok (.getfield 25, 3) := by decide +kernel
theorem dX0_queueCpus_56 : decode cX0_queueCpus 56 = .ok (.iload_n 1, 1) := by decide +kernel
theorem dX0_queueCpus_57 : decode cX0_queueCpus 57 = .ok (.iaload, 1) := by decide +kernel
theorem dX0_queueCpus_58 : decode cX0_queueCpus 58 = .ok (.iload 7, 2) := by decide +kernel
theorem dX0_queueCpus_60 : decode cX0_queueCpus 60 = .ok (.iushr, 1) := by decide +kernel
theorem dX0_queueCpus_61 : decode cX0_queueCpus 61 = .ok (.iconst 1, 1) := by decide +kernel
theorem dX0_queueCpus_62 : decode cX0_queueCpus 62 = .ok (.iand, 1) := by decide +kernel
theorem dX0_queueCpus_63 : decode cX0_queueCpus 63 = .ok (.iconst 1, 1) := by decide +kernel
theorem dX0_queueCpus_64 : decode cX0_queueCpus 64 = .ok (.if_icmp .ne 61, 3) := by decide +kernel
theorem dX0_queueCpus_67 : decode cX0_queueCpus 67 = .ok (.iload_n 3, 1) := by decide +kernel
theorem dX0_queueCpus_68 : decode cX0_queueCpus 68 = .ok (.iload 4, 2) := by decide +kernel
theorem dX0_queueCpus_70 : decode cX0_queueCpus 70 = .ok (.if_icmp .lt 13, 3) := by decide +kernel
theorem dX0_queueCpus_73 : decode cX0_queueCpus 73 = .ok (.iload 6, 2) := by decide +kernel
theorem dX0_queueCpus_75 : decode cX0_queueCpus 75 = .ok (.iload 4, 2) := by decide +kernel
theorem dX0_queueCpus_77 : decode cX0_queueCpus 77 = .ok (.imul, 1) := by decide +kernel
theorem dX0_queueCpus_78 : decode cX0_queueCpus 78 = .ok (.iload_n 3, 1) := by decide +kernel
theorem dX0_queueCpus_79 : decode cX0_queueCpus 79 = .ok (.idiv, 1) := by decide +kernel
theorem dX0_queueCpus_80 : decode cX0_queueCpus 80 = .ok (.goto 5, 3) := by decide +kernel
theorem dX0_queueCpus_83 : decode cX0_queueCpus 83 = .ok (.iload 6, 2) := by decide +kernel
theorem dX0_queueCpus_85 : decode cX0_queueCpus 85 = .ok (.istore 8, 2) := by decide +kernel
theorem dX0_queueCpus_87 : decode cX0_queueCpus 87 = .ok (.iload_n 3, 1) := by decide +kernel
theorem dX0_queueCpus_88 : decode cX0_queueCpus 88 = .ok (.iload 4, 2) := by decide +kernel
theorem dX0_queueCpus_90 : decode cX0_queueCpus 90 = .ok (.if_icmp .lt 7, 3) := by decide +kernel
theorem dX0_queueCpus_93 : decode cX0_queueCpus 93 = .ok (.iload_n 2, 1) := by decide +kernel
theorem dX0_queueCpus_94 : decode cX0_queueCpus 94 = .ok (.goto 6, 3) := by decide +kernel
theorem dX0_queueCpus_97 : decode cX0_queueCpus 97 = .ok (.iload_n 2, 1) := by decide +kernel
theorem dX0_queueCpus_98 : decode cX0_queueCpus 98 = .ok (.iload_n 3, 1) := by decide +kernel
theorem dX0_queueCpus_99 : decode cX0_queueCpus 99 = .ok (.irem, 1) := by decide +kernel
theorem dX0_queueCpus_100 : decode cX0_queueCpus 100 = .ok (.istore 9, 2) := by decide +kernel
theorem dX0_queueCpus_102 : decode cX0_queueCpus 102 = .ok (.iload 5, 2) := by decide +kernel
theorem dX0_queueCpus_104 : decode cX0_queueCpus 104 = .ok (.iload 8, 2) := by decide +kernel
theorem dX0_queueCpus_106 : decode cX0_queueCpus 106 = .ok (.iload 9, 2) := by decide +kernel
theorem dX0_queueCpus_108 : decode cX0_queueCpus 108 = .ok (.if_icmp .ne 10, 3) := by decide +kernel
theorem dX0_queueCpus_111 : decode cX0_queueCpus 111 = .ok (.iconst 1, 1) := by decide +kernel
theorem dX0_queueCpus_112 : decode cX0_queueCpus 112 = .ok (.iload 7, 2) := by decide +kernel
theorem dX0_queueCpus_114 : decode cX0_queueCpus 114 = .ok (.ishl, 1) := by decide +kernel
theorem dX0_queueCpus_115 : decode cX0_queueCpus 115 = .ok (.goto 4, 3) := by decide +kernel
theorem dX0_queueCpus_118 : decode cX0_queueCpus 118 = .ok (.iconst 0, 1) := by decide +kernel
theorem dX0_queueCpus_119 : decode cX0_queueCpus 119 = .ok (.ior, 1) := by decide +kernel
theorem dX0_queueCpus_120 : decode cX0_queueCpus 120 = .ok (.istore 5, 2) := by decide +kernel
theorem dX0_queueCpus_122 : decode cX0_queueCpus 122 = .ok (.iinc 6 1, 3) := by decide +kernel
theorem dX0_queueCpus_125 : decode cX0_queueCpus 125 = .ok (.iinc 7 1, 3) := by decide +kernel
theorem dX0_queueCpus_128 : decode cX0_queueCpus 128 = .ok (.goto (-85), 3) := by decide +kernel
theorem dX0_queueCpus_131 : decode cX0_queueCpus 131 = .ok (.iload 5, 2) := by decide +kernel
theorem dX0_queueCpus_133 : decode cX0_queueCpus 133 = .ok (.ireturn, 1) := by decide +kernel
