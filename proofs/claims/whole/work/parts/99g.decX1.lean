theorem dX1_init_0 : decode cX1_init 0 = .ok (.aload_n 0, 1) := by decide +kernel
theorem dX1_init_1 : decode cX1_init 1 = .ok (.invokespecial 3, 3) := by decide +kernel
theorem dX1_init_4 : decode cX1_init 4 = .ok (.aload_n 0, 1) := by decide +kernel
theorem dX1_init_5 : decode cX1_init 5 = .ok (.new 9, 3) := by decide +kernel
theorem dX1_init_8 : decode cX1_init 8 = .ok (.dup, 1) := by decide +kernel
theorem dX1_init_9 : decode cX1_init 9 = .ok (.invokespecial 11, 3) := by decide +kernel
theorem dX1_init_12 : decode cX1_init 12 = .ok (.putfield 12, 3) := by decide +kernel
theorem dX1_init_15 : decode cX1_init 15 = .ok (.aload_n 0, 1) := by decide +kernel
theorem dX1_init_16 : decode cX1_init 16 = .ok (.aload_n 1, 1) := by decide +kernel
theorem dX1_init_17 : decode cX1_init 17 = .ok (.putfield 18, 3) := by decide +kernel
theorem dX1_init_20 : decode cX1_init 20 = .ok (.return_, 1) := by decide +kernel
theorem dX1_read_0 : decode cX1_read 0 = .ok (.aload_n 0, 1) := by decide +kernel
theorem dX1_read_1 : decode cX1_read 1 = .ok (.getfield 12, 3) := by decide +kernel
theorem dX1_read_4 : decode cX1_read 4 = .ok (.invokevirtual 22, 3) := by decide +kernel
theorem dX1_read_7 : decode cX1_read 7 = .ok (.aload_n 0, 1) := by decide +kernel
theorem dX1_read_8 : decode cX1_read 8 = .ok (.iconst 0, 1) := by decide +kernel
theorem dX1_read_9 : decode cX1_read 9 = .ok (.putfield 25, 3) := by decide +kernel
theorem dX1_read_12 : decode cX1_read 12 = .ok (.aload_n 0, 1) := by decide +kernel
theorem dX1_read_13 : decode cX1_read 13 = .ok (.iconst 0, 1) := by decide +kernel
theorem dX1_read_14 : decode cX1_read 14 = .ok (.putfield 29, 3) := by decide +kernel
theorem dX1_read_17 : decode cX1_read 17 = .ok (.aload_n 0, 1) := by decide +kernel
theorem dX1_read_18 : decode cX1_read 18 = .ok (.iconst 0, 1) := by decide +kernel
theorem dX1_read_19 : decode cX1_read 19 = .ok (.putfield 32, 3) := by decide +kernel
theorem dX1_read_22 : decode cX1_read 22 = .ok (.iconst 0, 1) := by decide +kernel
theorem dX1_read_23 : decode cX1_read 23 = .ok (.istore_n 1, 1) := by decide +kernel
theorem dX1_read_24 : decode cX1_read 24 = .ok (.iload_n 1, 1) := by decide +kernel
theorem dX1_read_25 : decode cX1_read 25 = .ok (.sipush 800, 3) := by decide +kernel
theorem dX1_read_28 : decode cX1_read 28 = .ok (.if_icmp .ge 28, 3) := by decide +kernel
theorem dX1_read_31 : decode cX1_read 31 = .ok (.aload_n 0, 1) := by decide +kernel
theorem dX1_read_32 : decode cX1_read 32 = .ok (.getfield 18, 3) := by decide +kernel
theorem dX1_read_35 : decode cX1_read 35 = .ok (.getfield 35, 3) := by decide +kernel
theorem dX1_read_38 : decode cX1_read 38 = .ok (.ifCond .eq 18, 3) := by decide +kernel
theorem dX1_read_41 : decode cX1_read 41 = .ok (.aload_n 0, 1) := by decide +kernel
theorem dX1_read_42 : decode cX1_read 42 = .ok (.invokevirtual 41, 3) := by decide +kernel
theorem dX1_read_45 : decode cX1_read 45 = .ok (.ifCond .ne 5, 3) := by decide +kernel
theorem dX1_read_48 : decode cX1_read 48 = .ok (.iconst 0, 1) := by decide +kernel
theorem dX1_read_49 : decode cX1_read 49 = .ok (.ireturn, 1) := by decide +kernel
theorem dX1_read_50 : decode cX1_read 50 = .ok (.iinc 1 1, 3) := by decide +kernel
theorem dX1_read_53 : decode cX1_read 53 = .ok (.goto (-29), 3) := by decide +kernel
theorem dX1_read_56 : decode cX1_read 56 = .ok (.iconst 1, 1) := by decide +kernel
theorem dX1_read_57 : decode cX1_read 57 = .ok (.ireturn, 1) := by decide +kernel
theorem dX1_readLine_0 : decode cX1_readLine 0 = .ok (.aload_n 0, 1) := by decide +kernel
theorem dX1_readLine_1 : decode cX1_readLine 1 = .ok (.getfield 18, 3) := by decide +kernel
theorem dX1_readLine_4 : decode cX1_readLine 4 = .ok (.getfield 45, 3) := by decide +kernel
theorem dX1_readLine_7 : decode cX1_readLine 7 = .ok (.tableswitch 58 0 4 #[33, 38, 43, 48, 53], 33) := by decide +kernel
theorem dX1_readLine_40 : decode cX1_readLine 40 = .ok (.aload_n 0, 1) := by decide +kernel
theorem dX1_readLine_41 : decode cX1_readLine 41 = .ok (.invokevirtual 48, 3) := by decide +kernel
theorem dX1_readLine_44 : decode cX1_readLine 44 = .ok (.ireturn, 1) := by decide +kernel
theorem dX1_readLine_45 : decode cX1_readLine 45 = .ok (.aload_n 0, 1) := by decide +kernel
theorem dX1_readLine_46 : decode cX1_readLine 46 = .ok (.invokevirtual 51, 3) := by decide +kernel
theorem dX1_readLine_49 : decode cX1_readLine 49 = .ok (.ireturn, 1) := by decide +kernel
theorem dX1_readLine_50 : decode cX1_readLine 50 = .ok (.aload_n 0, 1) := by decide +kernel
theorem dX1_readLine_51 : decode cX1_readLine 51 = .ok (.invokevirtual 54, 3) := by decide +kernel
theorem dX1_readLine_54 : decode cX1_readLine 54 = .ok (.ireturn, 1) := by decide +kernel
theorem dX1_readLine_55 : decode cX1_readLine 55 = .ok (.aload_n 0, 1) := by decide +kernel
theorem dX1_readLine_56 : decode cX1_readLine 56 = .ok (.invokevirtual 57, 3) := by decide +kernel
theorem dX1_readLine_59 : decode cX1_readLine 59 = .ok (.ireturn, 1) := by decide +kernel
theorem dX1_readLine_60 : decode cX1_readLine 60 = .ok (.aload_n 0, 1) := by decide +kernel
theorem dX1_readLine_61 : decode cX1_readLine 61 = .ok (.invokevirtual 60, 3) := by decide +kernel
theorem dX1_readLine_64 : decode cX1_readLine 64 = .ok (.ireturn, 1) := by decide +kernel
theorem dX1_readLine_65 : decode cX1_readLine 65 = .ok (.aload_n 0, 1) := by decide +kernel
theorem dX1_readLine_66 : decode cX1_readLine 66 = .ok (.getfield 18, 3) := by decide +kernel
theorem dX1_readLine_69 : decode cX1_readLine 69 = .ok (.invokevirtual 63, 3) := by decide +kernel
theorem dX1_readLine_72 : decode cX1_readLine 72 = .ok (.ireturn, 1) := by decide +kernel
theorem dX1_readCpus_0 : decode cX1_readCpus 0 = .ok (.aload_n 0, 1) := by decide +kernel
theorem dX1_readCpus_1 : decode cX1_readCpus 1 = .ok (.aload_n 0, 1) := by decide +kernel
theorem dX1_readCpus_2 : decode cX1_readCpus 2 = .ok (.getfield 25, 3) := by decide +kernel
theorem dX1_readCpus_5 : decode cX1_readCpus 5 = .ok (.iconst 1, 1) := by decide +kernel
theorem dX1_readCpus_6 : decode cX1_readCpus 6 = .ok (.bipush 8, 2) := by decide +kernel
theorem dX1_readCpus_8 : decode cX1_readCpus 8 = .ok (.invokevirtual 66, 3) := by decide +kernel
theorem dX1_readCpus_11 : decode cX1_readCpus 11 = .ok (.ifCond .ne 5, 3) := by decide +kernel
theorem dX1_readCpus_14 : decode cX1_readCpus 14 = .ok (.iconst 0, 1) := by decide +kernel
theorem dX1_readCpus_15 : decode cX1_readCpus 15 = .ok (.ireturn, 1) := by decide +kernel
theorem dX1_readCpus_16 : decode cX1_readCpus 16 = .ok (.aload_n 0, 1) := by decide +kernel
theorem dX1_readCpus_17 : decode cX1_readCpus 17 = .ok (.iconst 1, 1) := by decide +kernel
theorem dX1_readCpus_18 : decode cX1_readCpus 18 = .ok (.putfield 25, 3) := by decide +kernel
theorem dX1_readCpus_21 : decode cX1_readCpus 21 = .ok (.aload_n 0, 1) := by decide +kernel
theorem dX1_readCpus_22 : decode cX1_readCpus 22 = .ok (.getfield 12, 3) := by decide +kernel
theorem dX1_readCpus_25 : decode cX1_readCpus 25 = .ok (.aload_n 0, 1) := by decide +kernel
theorem dX1_readCpus_26 : decode cX1_readCpus 26 = .ok (.getfield 18, 3) := by decide +kernel
theorem dX1_readCpus_29 : decode cX1_readCpus 29 = .ok (.getfield 70, 3) := by decide +kernel
theorem dX1_readCpus_32 : decode cX1_readCpus 32 = .ok (.putfield 73, 3) := by decide +kernel
theorem dX1_readCpus_35 : decode cX1_readCpus 35 = .ok (.aload_n 0, 1) := by decide +kernel
theorem dX1_readCpus_36 : decode cX1_readCpus 36 = .ok (.getfield 18, 3) := by decide +kernel
theorem dX1_readCpus_39 : decode cX1_readCpus 39 = .ok (.invokevirtual 76, 3) := by decide +kernel
theorem dX1_readCpus_42 : decode cX1_readCpus 42 = .ok (.aload_n 0, 1) := by decide +kernel
theorem dX1_readCpus_43 : decode cX1_readCpus 43 = .ok (.getfield 18, 3) := by decide +kernel
theorem dX1_readCpus_46 : decode cX1_readCpus 46 = .ok (.invokevirtual 79, 3) := by decide +kernel
theorem dX1_readCpus_49 : decode cX1_readCpus 49 = .ok (.ireturn, 1) := by decide +kernel
theorem dX1_readVectors_0 : decode cX1_readVectors 0 = .ok (.aload_n 0, 1) := by decide +kernel
theorem dX1_readVectors_1 : decode cX1_readVectors 1 = .ok (.aload_n 0, 1) := by decide +kernel
theorem dX1_readVectors_2 : decode cX1_readVectors 2 = .ok (.getfield 29, 3) := by decide +kernel
theorem dX1_readVectors_5 : decode cX1_readVectors 5 = .ok (.bipush 8, 2) := by decide +kernel
theorem dX1_readVectors_7 : decode cX1_readVectors 7 = .ok (.bipush 32, 2) := by decide +kernel
theorem dX1_readVectors_9 : decode cX1_readVectors 9 = .ok (.invokevirtual 66, 3) := by decide +kernel
theorem dX1_readVectors_12 : decode cX1_readVectors 12 = .ok (.ifCond .ne 5, 3) := by decide +kernel
theorem dX1_readVectors_15 : decode cX1_readVectors 15 = .ok (.iconst 0, 1) := by decide +kernel
theorem dX1_readVectors_16 : decode cX1_readVectors 16 = .ok (.ireturn, 1) := by decide +kernel
theorem dX1_readVectors_17 : decode cX1_readVectors 17 = .ok (.aload_n 0, 1) := by decide +kernel
theorem dX1_readVectors_18 : decode cX1_readVectors 18 = .ok (.iconst 1, 1) := by decide +kernel
theorem dX1_readVectors_19 : decode cX1_readVectors 19 = .ok (.putfield 29, 3) := by decide +kernel
theorem dX1_readVectors_22 : decode cX1_readVectors 22 = .ok (.aload_n 0, 1) := by decide +kernel
theorem dX1_readVectors_23 : decode cX1_readVectors 23 = .ok (.getfield 12, 3) := by decide +kernel
theorem dX1_readVectors_26 : decode cX1_readVectors 26 = .ok (.aload_n 0, 1) := by decide +kernel
theorem dX1_readVectors_27 : decode cX1_readVectors 27 = .ok (.getfield 18, 3) := by decide +kernel
theorem dX1_readVectors_30 : decode cX1_readVectors 30 = .ok (.getfield 70, 3) := by decide +kernel
theorem dX1_readVectors_33 : decode cX1_readVectors 33 = .ok (.putfield 82, 3) := by decide +kernel
theorem dX1_readVectors_36 : decode cX1_readVectors 36 = .ok (.aload_n 0, 1) := by decide +kernel
theorem dX1_readVectors_37 : decode cX1_readVectors 37 = .ok (.getfield 18, 3) := by decide +kernel
theorem dX1_readVectors_40 : decode cX1_readVectors 40 = .ok (.invokevirtual 76, 3) := by decide +kernel
theorem dX1_readVectors_43 : decode cX1_readVectors 43 = .ok (.aload_n 0, 1) := by decide +kernel
theorem dX1_readVectors_44 : decode cX1_readVectors 44 = .ok (.getfield 18, 3) := by decide +kernel
theorem dX1_readVectors_47 : decode cX1_readVectors 47 = .ok (.invokevirtual 79, 3) := by decide +kernel
theorem dX1_readVectors_50 : decode cX1_readVectors 50 = .ok (.ireturn, 1) := by decide +kernel
theorem dX1_readSize_0 : decode cX1_readSize 0 = .ok (.aload_n 0, 1) := by decide +kernel
theorem dX1_readSize_1 : decode cX1_readSize 1 = .ok (.getfield 32, 3) := by decide +kernel
theorem dX1_readSize_4 : decode cX1_readSize 4 = .ok (.ifCond .eq 12, 3) := by decide +kernel
theorem dX1_readSize_7 : decode cX1_readSize 7 = .ok (.aload_n 0, 1) := by decide +kernel
theorem dX1_readSize_8 : decode cX1_readSize 8 = .ok (.getfield 18, 3) := by decide +kernel
theorem dX1_readSize_11 : decode cX1_readSize 11 = .ok (.iconst 2, 1) := by decide +kernel
theorem dX1_readSize_12 : decode cX1_readSize 12 = .ok (.invokevirtual 85, 3) := by decide +kernel
theorem dX1_readSize_15 : decode cX1_readSize 15 = .ok (.ireturn, 1) := by decide +kernel
theorem dX1_readSize_16 : decode cX1_readSize 16 = .ok (.iload_n 1, 1) := by decide +kernel
theorem dX1_readSize_17 : decode cX1_readSize 17 = .ok (.ifCond .eq 12, 3) := by decide +kernel
theorem dX1_readSize_20 : decode cX1_readSize 20 = .ok (.aload_n 0, 1) := by decide +kernel
theorem dX1_readSize_21 : decode cX1_readSize 21 = .ok (.getfield 18, 3) := by decide +kernel
theorem dX1_readSize_24 : decode cX1_readSize 24 = .ok (.iconst 3, 1) := by decide +kernel
theorem dX1_readSize_25 : decode cX1_readSize 25 = .ok (.invokevirtual 85, 3) := by decide +kernel
theorem dX1_readSize_28 : decode cX1_readSize 28 = .ok (.ireturn, 1) := by decide +kernel
theorem dX1_readSize_29 : decode cX1_readSize 29 = .ok (.aload_n 0, 1) := by decide +kernel
theorem dX1_readSize_30 : decode cX1_readSize 30 = .ok (.getfield 18, 3) := by decide +kernel
theorem dX1_readSize_33 : decode cX1_readSize 33 = .ok (.invokevirtual 76, 3) := by decide +kernel
theorem dX1_readSize_36 : decode cX1_readSize 36 = .ok (.aload_n 0, 1) := by decide +kernel
theorem dX1_readSize_37 : decode cX1_readSize 37 = .ok (.getfield 18, 3) := by decide +kernel
theorem dX1_readSize_40 : decode cX1_readSize 40 = .ok (.iload_n 2, 1) := by decide +kernel
theorem dX1_readSize_41 : decode cX1_readSize 41 = .ok (.iload_n 3, 1) := by decide +kernel
theorem dX1_readSize_42 : decode cX1_readSize 42 = .ok (.invokevirtual 89, 3) := by decide +kernel
theorem dX1_readSize_45 : decode cX1_readSize 45 = .ok (.ireturn, 1) := by decide +kernel
theorem dX1_readKept_0 : decode cX1_readKept 0 = .ok (.aload_n 0, 1) := by decide +kernel
theorem dX1_readKept_1 : decode cX1_readKept 1 = .ok (.iconst 1, 1) := by decide +kernel
theorem dX1_readKept_2 : decode cX1_readKept 2 = .ok (.putfield 32, 3) := by decide +kernel
theorem dX1_readKept_5 : decode cX1_readKept 5 = .ok (.aload_n 0, 1) := by decide +kernel
theorem dX1_readKept_6 : decode cX1_readKept 6 = .ok (.getfield 18, 3) := by decide +kernel
theorem dX1_readKept_9 : decode cX1_readKept 9 = .ok (.invokevirtual 76, 3) := by decide +kernel
theorem dX1_readKept_12 : decode cX1_readKept 12 = .ok (.aload_n 0, 1) := by decide +kernel
theorem dX1_readKept_13 : decode cX1_readKept 13 = .ok (.getfield 18, 3) := by decide +kernel
theorem dX1_readKept_16 : decode cX1_readKept 16 = .ok (.aload_n 0, 1) := by decide +kernel
theorem dX1_readKept_17 : decode cX1_readKept 17 = .ok (.getfield 12, 3) := by decide +kernel
theorem dX1_readKept_20 : decode cX1_readKept 20 = .ok (.getfield 93, 3) := by decide +kernel
theorem dX1_readKept_23 : decode cX1_readKept 23 = .ok (.aload_n 0, 1) := by decide +kernel
theorem dX1_readKept_24 : decode cX1_readKept 24 = .ok (.getfield 12, 3) := by decide +kernel
theorem dX1_readKept_27 : decode cX1_readKept 27 = .ok (.getfield 82, 3) := by decide +kernel
theorem dX1_readKept_30 : decode cX1_readKept 30 = .ok (.invokevirtual 96, 3) := by decide +kernel
theorem dX1_readKept_33 : decode cX1_readKept 33 = .ok (.ifCond .ne 5, 3) := by decide +kernel
theorem dX1_readKept_36 : decode cX1_readKept 36 = .ok (.iconst 0, 1) := by decide +kernel
theorem dX1_readKept_37 : decode cX1_readKept 37 = .ok (.ireturn, 1) := by decide +kernel
theorem dX1_readKept_38 : decode cX1_readKept 38 = .ok (.aload_n 0, 1) := by decide +kernel
theorem dX1_readKept_39 : decode cX1_readKept 39 = .ok (.getfield 12, 3) := by decide +kernel
theorem dX1_readKept_42 : decode cX1_readKept 42 = .ok (.aload_n 0, 1) := by decide +kernel
theorem dX1_readKept_43 : decode cX1_readKept 43 = .ok (.getfield 18, 3) := by decide +kernel
theorem dX1_readKept_46 : decode cX1_readKept 46 = .ok (.getfield 99, 3) := by decide +kernel
theorem dX1_readKept_49 : decode cX1_readKept 49 = .ok (.putfield 93, 3) := by decide +kernel
theorem dX1_readKept_52 : decode cX1_readKept 52 = .ok (.aload_n 0, 1) := by decide +kernel
theorem dX1_readKept_53 : decode cX1_readKept 53 = .ok (.getfield 18, 3) := by decide +kernel
theorem dX1_readKept_56 : decode cX1_readKept 56 = .ok (.invokevirtual 79, 3) := by decide +kernel
theorem dX1_readKept_59 : decode cX1_readKept 59 = .ok (.ireturn, 1) := by decide +kernel
theorem dX1_readOff_0 : decode cX1_readOff 0 = .ok (.aload_n 0, 1) := by decide +kernel
theorem dX1_readOff_1 : decode cX1_readOff 1 = .ok (.iconst 1, 1) := by decide +kernel
theorem dX1_readOff_2 : decode cX1_readOff 2 = .ok (.putfield 32, 3) := by decide +kernel
theorem dX1_readOff_5 : decode cX1_readOff 5 = .ok (.aload_n 0, 1) := by decide +kernel
theorem dX1_readOff_6 : decode cX1_readOff 6 = .ok (.getfield 18, 3) := by decide +kernel
theorem dX1_readOff_9 : decode cX1_readOff 9 = .ok (.invokevirtual 76, 3) := by decide +kernel
theorem dX1_readOff_12 : decode cX1_readOff 12 = .ok (.aload_n 0, 1) := by decide +kernel
theorem dX1_readOff_13 : decode cX1_readOff 13 = .ok (.getfield 18, 3) := by decide +kernel
theorem dX1_readOff_16 : decode cX1_readOff 16 = .ok (.aload_n 0, 1) := by decide +kernel
theorem dX1_readOff_17 : decode cX1_readOff 17 = .ok (.getfield 12, 3) := by decide +kernel
theorem dX1_readOff_20 : decode cX1_readOff 20 = .ok (.getfield 102, 3) := by decide +kernel
theorem dX1_readOff_23 : decode cX1_readOff 23 = .ok (.aload_n 0, 1) := by decide +kernel
theorem dX1_readOff_24 : decode cX1_readOff 24 = .ok (.getfield 12, 3) := by decide +kernel
theorem dX1_readOff_27 : decode cX1_readOff 27 = .ok (.getfield 73, 3) := by decide +kernel
theorem dX1_readOff_30 : decode cX1_readOff 30 = .ok (.invokevirtual 96, 3) := by decide +kernel
theorem dX1_readOff_33 : decode cX1_readOff 33 = .ok (.ifCond .ne 5, 3) := by decide +kernel
theorem dX1_readOff_36 : decode cX1_readOff 36 = .ok (.iconst 0, 1) := by decide +kernel
theorem dX1_readOff_37 : decode cX1_readOff 37 = .ok (.ireturn, 1) := by decide +kernel
theorem dX1_readOff_38 : decode cX1_readOff 38 = .ok (.aload_n 0, 1) := by decide +kernel
theorem dX1_readOff_39 : decode cX1_readOff 39 = .ok (.getfield 12, 3) := by decide +kernel
theorem dX1_readOff_42 : decode cX1_readOff 42 = .ok (.aload_n 0, 1) := by decide +kernel
theorem dX1_readOff_43 : decode cX1_readOff 43 = .ok (.getfield 18, 3) := by decide +kernel
theorem dX1_readOff_46 : decode cX1_readOff 46 = .ok (.getfield 99, 3) := by decide +kernel
theorem dX1_readOff_49 : decode cX1_readOff 49 = .ok (.putfield 102, 3) := by decide +kernel
theorem dX1_readOff_52 : decode cX1_readOff 52 = .ok (.aload_n 0, 1) := by decide +kernel
theorem dX1_readOff_53 : decode cX1_readOff 53 = .ok (.getfield 18, 3) := by decide +kernel
theorem dX1_readOff_56 : decode cX1_readOff 56 = .ok (.invokevirtual 79, 3) := by decide +kernel
theorem dX1_readOff_59 : decode cX1_readOff 59 = .ok (.ireturn, 1) := by decide +kernel
theorem dX1_readDevice_0 : decode cX1_readDevice 0 = .ok (.aload_n 0, 1) := by decide +kernel
theorem dX1_readDevice_1 : decode cX1_readDevice 1 = .ok (.iconst 1, 1) := by decide +kernel
theorem dX1_readDevice_2 : decode cX1_readDevice 2 = .ok (.putfield 32, 3) := by decide +kernel
theorem dX1_readDevice_5 : decode cX1_readDevice 5 = .ok (.aload_n 0, 1) := by decide +kernel
theorem dX1_readDevice_6 : decode cX1_readDevice 6 = .ok (.getfield 12, 3) := by decide +kernel
theorem dX1_readDevice_9 : decode cX1_readDevice 9 = .ok (.getfield 105, 3) := by decide +kernel
theorem dX1_readDevice_12 : decode cX1_readDevice 12 = .ok (.istore_n 1, 1) := by decide +kernel
theorem dX1_readDevice_13 : decode cX1_readDevice 13 = .ok (.iload_n 1, 1) := by decide +kernel
theorem dX1_readDevice_14 : decode cX1_readDevice 14 = .ok (.bipush 10, 2) := by decide +kernel
theorem dX1_readDevice_16 : decode cX1_readDevice 16 = .ok (.if_icmp .lt 12, 3) := by decide +kernel
theorem dX1_readDevice_19 : decode cX1_readDevice 19 = .ok (.aload_n 0, 1) := by decide +kernel
theorem dX1_readDevice_20 : decode cX1_readDevice 20 = .ok (.getfield 18, 3) := by decide +kernel
theorem dX1_readDevice_23 : decode cX1_readDevice 23 = .ok (.iconst 2, 1) := by decide +kernel
theorem dX1_readDevice_24 : decode cX1_readDevice 24 = .ok (.invokevirtual 85, 3) := by decide +kernel
theorem dX1_readDevice_27 : decode cX1_readDevice 27 = .ok (.ireturn, 1) := by decide +kernel
theorem dX1_readDevice_28 : decode cX1_readDevice 28 = .ok (.aload_n 0, 1) := by decide +kernel
theorem dX1_readDevice_29 : decode cX1_readDevice 29 = .ok (.getfield 18, 3) := by decide +kernel
theorem dX1_readDevice_32 : decode cX1_readDevice 32 = .ok (.invokevirtual 76, 3) := by decide +kernel
theorem dX1_readDevice_35 : decode cX1_readDevice 35 = .ok (.aload_n 0, 1) := by decide +kernel
theorem dX1_readDevice_36 : decode cX1_readDevice 36 = .ok (.getfield 18, 3) := by decide +kernel
theorem dX1_readDevice_39 : decode cX1_readDevice 39 = .ok (.invokevirtual 108, 3) := by decide +kernel
theorem dX1_readDevice_42 : decode cX1_readDevice 42 = .ok (.ifCond .ne 5, 3) := by decide +kernel
theorem dX1_readDevice_45 : decode cX1_readDevice 45 = .ok (.iconst 0, 1) := by decide +kernel
theorem dX1_readDevice_46 : decode cX1_readDevice 46 = .ok (.ireturn, 1) := by decide +kernel
theorem dX1_readDevice_47 : decode cX1_readDevice 47 = .ok (.aload_n 0, 1) := by decide +kernel
theorem dX1_readDevice_48 : decode cX1_readDevice 48 = .ok (.getfield 12, 3) := by decide +kernel
theorem dX1_readDevice_51 : decode cX1_readDevice 51 = .ok (.aload_n 0, 1) := by decide +kernel
theorem dX1_readDevice_52 : decode cX1_readDevice 52 = .ok (.getfield 18, 3) := by decide +kernel
theorem dX1_readDevice_55 : decode cX1_readDevice 55 = .ok (.getfield 111, 3) := by decide +kernel
theorem dX1_readDevice_58 : decode cX1_readDevice 58 = .ok (.invokevirtual 115, 3) := by decide +kernel
theorem dX1_readDevice_61 : decode cX1_readDevice 61 = .ok (.iconst (-1), 1) := by decide +kernel
theorem dX1_readDevice_62 : decode cX1_readDevice 62 = .ok (.if_icmp .eq 12, 3) := by decide +kernel
theorem dX1_readDevice_65 : decode cX1_readDevice 65 = .ok (.aload_n 0, 1) := by decide +kernel
theorem dX1_readDevice_66 : decode cX1_readDevice 66 = .ok (.getfield 18, 3) := by decide +kernel
theorem dX1_readDevice_69 : decode cX1_readDevice 69 = .ok (.iconst 3, 1) := by decide +kernel
theorem dX1_readDevice_70 : decode cX1_readDevice 70 = .ok (.invokevirtual 85, 3) := by decide +kernel
theorem dX1_readDevice_73 : decode cX1_readDevice 73 = .ok (.ireturn, 1) := by decide +kernel
theorem dX1_readDevice_74 : decode cX1_readDevice 74 = .ok (.aload_n 0, 1) := by decide +kernel
theorem dX1_readDevice_75 : decode cX1_readDevice 75 = .ok (.getfield 12, 3) := by decide +kernel
theorem dX1_readDevice_78 : decode cX1_readDevice 78 = .ok (.getfield 119, 3) := by decide +kernel
theorem dX1_readDevice_81 : decode cX1_readDevice 81 = .ok (.iload_n 1, 1) := by decide +kernel
theorem dX1_readDevice_82 : decode cX1_readDevice 82 = .ok (.aload_n 0, 1) := by decide +kernel
theorem dX1_readDevice_83 : decode cX1_readDevice 83 = .ok (.getfield 18, 3) := by decide +kernel
theorem dX1_readDevice_86 : decode cX1_readDevice 86 = .ok (.getfield 111, 3) := by decide +kernel
theorem dX1_readDevice_89 : decode cX1_readDevice 89 = .ok (.lastore, 1) := by decide +kernel
theorem dX1_readDevice_90 : decode cX1_readDevice 90 = .ok (.aload_n 0, 1) := by decide +kernel
theorem dX1_readDevice_91 : decode cX1_readDevice 91 = .ok (.getfield 12, 3) := by decide +kernel
theorem dX1_readDevice_94 : decode cX1_readDevice 94 = .ok (.getfield 122, 3) := by decide +kernel
theorem dX1_readDevice_97 : decode cX1_readDevice 97 = .ok (.iload_n 1, 1) := by decide +kernel
theorem dX1_readDevice_98 : decode cX1_readDevice 98 = .ok (.aload_n 0, 1) := by decide +kernel
theorem dX1_readDevice_99 : decode cX1_readDevice 99 = .ok (.getfield 18, 3) := by decide +kernel
theorem dX1_readDevice_102 : decode cX1_readDevice 102 = .ok (.getfield 126, 3) := by decide +kernel
theorem dX1_readDevice_105 : decode cX1_readDevice 105 = .ok (.iastore, 1) := by decide +kernel
theorem dX1_readDevice_106 : decode cX1_readDevice 106 = .ok (.aload_n 0, 1) := by decide +kernel
theorem dX1_readDevice_107 : decode cX1_readDevice 107 = .ok (.getfield 18, 3) := by decide +kernel
theorem dX1_readDevice_110 : decode cX1_readDevice 110 = .ok (.invokevirtual 76, 3) := by decide +kernel
theorem dX1_readDevice_113 : decode cX1_readDevice 113 = .ok (.aload_n 0, 1) := by decide +kernel
theorem dX1_readDevice_114 : decode cX1_readDevice 114 = .ok (.iload_n 1, 1) := by decide +kernel
theorem dX1_readDevice_115 : decode cX1_readDevice 115 = .ok (.invokevirtual 128, 3) := by decide +kernel
theorem dX1_readDevice_118 : decode cX1_readDevice 118 = .ok (.ifCond .eq 11, 3) := by decide +kernel
theorem dX1_readDevice_121 : decode cX1_readDevice 121 = .ok (.aload_n 0, 1) := by decide +kernel
theorem dX1_readDevice_122 : decode cX1_readDevice 122 = .ok (.iload_n 1, 1) := by decide +kernel
theorem dX1_readDevice_123 : decode cX1_readDevice 123 = .ok (.invokevirtual 131, 3) := by decide +kernel
theorem dX1_readDevice_126 : decode cX1_readDevice 126 = .ok (.ifCond .ne 5, 3) := by decide +kernel
theorem dX1_readDevice_129 : decode cX1_readDevice 129 = .ok (.iconst 0, 1) := by decide +kernel
theorem dX1_readDevice_130 : decode cX1_readDevice 130 = .ok (.ireturn, 1) := by decide +kernel
theorem dX1_readDevice_131 : decode cX1_readDevice 131 = .ok (.aload_n 0, 1) := by decide +kernel
theorem dX1_readDevice_132 : decode cX1_readDevice 132 = .ok (.getfield 12, 3) := by decide +kernel
theorem dX1_readDevice_135 : decode cX1_readDevice 135 = .ok (.dup, 1) := by decide +kernel
theorem dX1_readDevice_136 : decode cX1_readDevice 136 = .ok (.getfield 105, 3) := by decide +kernel
theorem dX1_readDevice_139 : decode cX1_readDevice 139 = .ok (.iconst 1, 1) := by decide +kernel
theorem dX1_readDevice_140 : decode cX1_readDevice 140 = .ok (.iadd, 1) := by decide +kernel
theorem dX1_readDevice_141 : decode cX1_readDevice 141 = .ok (.putfield 105, 3) := by decide +kernel
theorem dX1_readDevice_144 : decode cX1_readDevice 144 = .ok (.aload_n 0, 1) := by decide +kernel
theorem dX1_readDevice_145 : decode cX1_readDevice 145 = .ok (.getfield 18, 3) := by decide +kernel
theorem dX1_readDevice_148 : decode cX1_readDevice 148 = .ok (.invokevirtual 79, 3) := by decide +kernel
theorem dX1_readDevice_151 : decode cX1_readDevice 151 = .ok (.ireturn, 1) := by decide +kernel
theorem dX1_readWants_0 : decode cX1_readWants 0 = .ok (.aload_n 0, 1) := by decide +kernel
theorem dX1_readWants_1 : decode cX1_readWants 1 = .ok (.getfield 18, 3) := by decide +kernel
theorem dX1_readWants_4 : decode cX1_readWants 4 = .ok (.getfield 45, 3) := by decide +kernel
theorem dX1_readWants_7 : decode cX1_readWants 7 = .ok (.tableswitch 86 5 7 #[25, 54, 70], 25) := by decide +kernel
theorem dX1_readWants_32 : decode cX1_readWants 32 = .ok (.aload_n 0, 1) := by decide +kernel
theorem dX1_readWants_33 : decode cX1_readWants 33 = .ok (.getfield 12, 3) := by decide +kernel
theorem dX1_readWants_36 : decode cX1_readWants 36 = .ok (.getfield 134, 3) := by decide +kernel
theorem dX1_readWants_39 : decode cX1_readWants 39 = .ok (.iload_n 1, 1) := by decide +kernel
theorem dX1_readWants_40 : decode cX1_readWants 40 = .ok (.iconst 1, 1) := by decide +kernel
theorem dX1_readWants_41 : decode cX1_readWants 41 = .ok (.iastore, 1) := by decide +kernel
theorem dX1_readWants_42 : decode cX1_readWants 42 = .ok (.aload_n 0, 1) := by decide +kernel
theorem dX1_readWants_43 : decode cX1_readWants 43 = .ok (.getfield 12, 3) := by decide +kernel
theorem dX1_readWants_46 : decode cX1_readWants 46 = .ok (.getfield 136, 3) := by decide +kernel
theorem dX1_readWants_49 : decode cX1_readWants 49 = .ok (.iload_n 1, 1) := by decide +kernel
theorem dX1_readWants_50 : decode cX1_readWants 50 = .ok (.iconst 1, 1) := by decide +kernel
theorem dX1_readWants_51 : decode cX1_readWants 51 = .ok (.iastore, 1) := by decide +kernel
theorem dX1_readWants_52 : decode cX1_readWants 52 = .ok (.aload_n 0, 1) := by decide +kernel
theorem dX1_readWants_53 : decode cX1_readWants 53 = .ok (.getfield 18, 3) := by decide +kernel
theorem dX1_readWants_56 : decode cX1_readWants 56 = .ok (.invokevirtual 76, 3) := by decide +kernel
theorem dX1_readWants_59 : decode cX1_readWants 59 = .ok (.iconst 1, 1) := by decide +kernel
theorem dX1_readWants_60 : decode cX1_readWants 60 = .ok (.ireturn, 1) := by decide +kernel
theorem dX1_readWants_61 : decode cX1_readWants 61 = .ok (.aload_n 0, 1) := by decide +kernel
theorem dX1_readWants_62 : decode cX1_readWants 62 = .ok (.getfield 12, 3) := by decide +kernel
theorem dX1_readWants_65 : decode cX1_readWants 65 = .ok (.getfield 134, 3) := by decide +kernel
theorem dX1_readWants_68 : decode cX1_readWants 68 = .ok (.iload_n 1, 1) := by decide +kernel
theorem dX1_readWants_69 : decode cX1_readWants 69 = .ok (.iconst 2, 1) := by decide +kernel
theorem dX1_readWants_70 : decode cX1_readWants 70 = .ok (.iastore, 1) := by decide +kernel
theorem dX1_readWants_71 : decode cX1_readWants 71 = .ok (.aload_n 0, 1) := by decide +kernel
theorem dX1_readWants_72 : decode cX1_readWants 72 = .ok (.iload_n 1, 1) := by decide +kernel
theorem dX1_readWants_73 : decode cX1_readWants 73 = .ok (.invokevirtual 139, 3) := by decide +kernel
theorem dX1_readWants_76 : decode cX1_readWants 76 = .ok (.ireturn, 1) := by decide +kernel
theorem dX1_readWants_77 : decode cX1_readWants 77 = .ok (.aload_n 0, 1) := by decide +kernel
theorem dX1_readWants_78 : decode cX1_readWants 78 = .ok (.getfield 12, 3) := by decide +kernel
theorem dX1_readWants_81 : decode cX1_readWants 81 = .ok (.getfield 134, 3) := by decide +kernel
theorem dX1_readWants_84 : decode cX1_readWants 84 = .ok (.iload_n 1, 1) := by decide +kernel
theorem dX1_readWants_85 : decode cX1_readWants 85 = .ok (.iconst 3, 1) := by decide +kernel
theorem dX1_readWants_86 : decode cX1_readWants 86 = .ok (.iastore, 1) := by decide +kernel
theorem dX1_readWants_87 : decode cX1_readWants 87 = .ok (.aload_n 0, 1) := by decide +kernel
theorem dX1_readWants_88 : decode cX1_readWants 88 = .ok (.iload_n 1, 1) := by decide +kernel
theorem dX1_readWants_89 : decode cX1_readWants 89 = .ok (.invokevirtual 139, 3) := by decide +kernel
theorem dX1_readWants_92 : decode cX1_readWants 92 = .ok (.ireturn, 1) := by decide +kernel
theorem dX1_readWants_93 : decode cX1_readWants 93 = .ok (.aload_n 0, 1) := by decide +kernel
theorem dX1_readWants_94 : decode cX1_readWants 94 = .ok (.getfield 18, 3) := by decide +kernel
theorem dX1_readWants_97 : decode cX1_readWants 97 = .ok (.invokevirtual 63, 3) := by decide +kernel
theorem dX1_readWants_100 : decode cX1_readWants 100 = .ok (.ireturn, 1) := by decide +kernel
theorem dX1_readLines_0 : decode cX1_readLines 0 = .ok (.aload_n 0, 1) := by decide +kernel
theorem dX1_readLines_1 : decode cX1_readLines 1 = .ok (.getfield 18, 3) := by decide +kernel
theorem dX1_readLines_4 : decode cX1_readLines 4 = .ok (.invokevirtual 76, 3) := by decide +kernel
theorem dX1_readLines_7 : decode cX1_readLines 7 = .ok (.aload_n 0, 1) := by decide +kernel
theorem dX1_readLines_8 : decode cX1_readLines 8 = .ok (.getfield 18, 3) := by decide +kernel
theorem dX1_readLines_11 : decode cX1_readLines 11 = .ok (.iconst 1, 1) := by decide +kernel
theorem dX1_readLines_12 : decode cX1_readLines 12 = .ok (.bipush 8, 2) := by decide +kernel
theorem dX1_readLines_14 : decode cX1_readLines 14 = .ok (.invokevirtual 89, 3) := by decide +kernel
theorem dX1_readLines_17 : decode cX1_readLines 17 = .ok (.ifCond .ne 5, 3) := by decide +kernel
theorem dX1_readLines_20 : decode cX1_readLines 20 = .ok (.iconst 0, 1) := by decide +kernel
theorem dX1_readLines_21 : decode cX1_readLines 21 = .ok (.ireturn, 1) := by decide +kernel
theorem dX1_readLines_22 : decode cX1_readLines 22 = .ok (.aload_n 0, 1) := by decide +kernel
theorem dX1_readLines_23 : decode cX1_readLines 23 = .ok (.getfield 12, 3) := by decide +kernel
theorem dX1_readLines_26 : decode cX1_readLines 26 = .ok (.getfield 134, 3) := by decide +kernel
theorem dX1_readLines_29 : decode cX1_readLines 29 = .ok (.iload_n 1, 1) := by decide +kernel
theorem dX1_readLines_30 : decode cX1_readLines 30 = .ok (.iaload, 1) := by decide +kernel
theorem dX1_readLines_31 : decode cX1_readLines 31 = .ok (.iconst 2, 1) := by decide +kernel
theorem dX1_readLines_32 : decode cX1_readLines 32 = .ok (.if_icmp .ne 25, 3) := by decide +kernel
theorem dX1_readLines_35 : decode cX1_readLines 35 = .ok (.aload_n 0, 1) := by decide +kernel
theorem dX1_readLines_36 : decode cX1_readLines 36 = .ok (.getfield 18, 3) := by decide +kernel
theorem dX1_readLines_39 : decode cX1_readLines 39 = .ok (.getfield 70, 3) := by decide +kernel
theorem dX1_readLines_42 : decode cX1_readLines 42 = .ok (.invokestatic 142, 3) := by decide +kernel
theorem dX1_readLines_45 : decode cX1_readLines 45 = .ok (.ifCond .ne 12, 3) := by decide +kernel
theorem dX1_readLines_48 : decode cX1_readLines 48 = .ok (.aload_n 0, 1) := by decide +kernel
theorem dX1_readLines_49 : decode cX1_readLines 49 = .ok (.getfield 18, 3) := by decide +kernel
theorem dX1_readLines_52 : decode cX1_readLines 52 = .ok (.iconst 4, 1) := by decide +kernel
theorem dX1_readLines_53 : decode cX1_readLines 53 = .ok (.invokevirtual 85, 3) := by decide +kernel
theorem dX1_readLines_56 : decode cX1_readLines 56 = .ok (.ireturn, 1) := by decide +kernel
theorem dX1_readLines_57 : decode cX1_readLines 57 = .ok (.aload_n 0, 1) := by decide +kernel
theorem dX1_readLines_58 : decode cX1_readLines 58 = .ok (.getfield 12, 3) := by decide +kernel
theorem dX1_readLines_61 : decode cX1_readLines 61 = .ok (.getfield 136, 3) := by decide +kernel
theorem dX1_readLines_64 : decode cX1_readLines 64 = .ok (.iload_n 1, 1) := by decide +kernel
theorem dX1_readLines_65 : decode cX1_readLines 65 = .ok (.aload_n 0, 1) := by decide +kernel
theorem dX1_readLines_66 : decode cX1_readLines 66 = .ok (.getfield 18, 3) := by decide +kernel
theorem dX1_readLines_69 : decode cX1_readLines 69 = .ok (.getfield 70, 3) := by decide +kernel
theorem dX1_readLines_72 : decode cX1_readLines 72 = .ok (.iastore, 1) := by decide +kernel
theorem dX1_readLines_73 : decode cX1_readLines 73 = .ok (.aload_n 0, 1) := by decide +kernel
theorem dX1_readLines_74 : decode cX1_readLines 74 = .ok (.getfield 18, 3) := by decide +kernel
theorem dX1_readLines_77 : decode cX1_readLines 77 = .ok (.invokevirtual 76, 3) := by decide +kernel
theorem dX1_readLines_80 : decode cX1_readLines 80 = .ok (.iconst 1, 1) := by decide +kernel
theorem dX1_readLines_81 : decode cX1_readLines 81 = .ok (.ireturn, 1) := by decide +kernel
theorem dX1_readOn_0 : decode cX1_readOn 0 = .ok (.aload_n 0, 1) := by decide +kernel
theorem dX1_readOn_1 : decode cX1_readOn 1 = .ok (.getfield 12, 3) := by decide +kernel
theorem dX1_readOn_4 : decode cX1_readOn 4 = .ok (.getfield 145, 3) := by decide +kernel
theorem dX1_readOn_7 : decode cX1_readOn 7 = .ok (.iload_n 1, 1) := by decide +kernel
theorem dX1_readOn_8 : decode cX1_readOn 8 = .ok (.aload_n 0, 1) := by decide +kernel
theorem dX1_readOn_9 : decode cX1_readOn 9 = .ok (.getfield 12, 3) := by decide +kernel
theorem dX1_readOn_12 : decode cX1_readOn 12 = .ok (.invokevirtual 148, 3) := by decide +kernel
theorem dX1_readOn_15 : decode cX1_readOn 15 = .ok (.iastore, 1) := by decide +kernel
theorem dX1_readOn_16 : decode cX1_readOn 16 = .ok (.aload_n 0, 1) := by decide +kernel
theorem dX1_readOn_17 : decode cX1_readOn 17 = .ok (.getfield 18, 3) := by decide +kernel
theorem dX1_readOn_20 : decode cX1_readOn 20 = .ok (.getfield 45, 3) := by decide +kernel
theorem dX1_readOn_23 : decode cX1_readOn 23 = .ok (.bipush 8, 2) := by decide +kernel
theorem dX1_readOn_25 : decode cX1_readOn 25 = .ok (.if_icmp .eq 5, 3) := by decide +kernel
theorem dX1_readOn_28 : decode cX1_readOn 28 = .ok (.iconst 1, 1) := by decide +kernel
theorem dX1_readOn_29 : decode cX1_readOn 29 = .ok (.ireturn, 1) := by decide +kernel
theorem dX1_readOn_30 : decode cX1_readOn 30 = .ok (.aload_n 0, 1) := by decide +kernel
theorem dX1_readOn_31 : decode cX1_readOn 31 = .ok (.getfield 18, 3) := by decide +kernel
theorem dX1_readOn_34 : decode cX1_readOn 34 = .ok (.invokevirtual 76, 3) := by decide +kernel
theorem dX1_readOn_37 : decode cX1_readOn 37 = .ok (.aload_n 0, 1) := by decide +kernel
theorem dX1_readOn_38 : decode cX1_readOn 38 = .ok (.getfield 18, 3) := by decide +kernel
theorem dX1_readOn_41 : decode cX1_readOn 41 = .ok (.iconst 0, 1) := by decide +kernel
theorem dX1_readOn_42 : decode cX1_readOn 42 = .ok (.aload_n 0, 1) := by decide +kernel
theorem dX1_readOn_43 : decode cX1_readOn 43 = .ok (.getfield 12, 3) := by decide +kernel
theorem dX1_readOn_46 : decode cX1_readOn 46 = .ok (.getfield 73, 3) := by decide +kernel
theorem dX1_readOn_49 : decode cX1_readOn 49 = .ok (.invokevirtual 96, 3) := by decide +kernel
theorem dX1_readOn_52 : decode cX1_readOn 52 = .ok (.ifCond .ne 5, 3) := by decide +kernel
theorem dX1_readOn_55 : decode cX1_readOn 55 = .ok (.iconst 0, 1) := by decide +kernel
theorem dX1_readOn_56 : decode cX1_readOn 56 = .ok (.ireturn, 1) := by decide +kernel
theorem dX1_readOn_57 : decode cX1_readOn 57 = .ok (.aload_n 0, 1) := by decide +kernel
theorem dX1_readOn_58 : decode cX1_readOn 58 = .ok (.getfield 12, 3) := by decide +kernel
theorem dX1_readOn_61 : decode cX1_readOn 61 = .ok (.getfield 145, 3) := by decide +kernel
theorem dX1_readOn_64 : decode cX1_readOn 64 = .ok (.iload_n 1, 1) := by decide +kernel
theorem dX1_readOn_65 : decode cX1_readOn 65 = .ok (.aload_n 0, 1) := by decide +kernel
theorem dX1_readOn_66 : decode cX1_readOn 66 = .ok (.getfield 18, 3) := by decide +kernel
theorem dX1_readOn_69 : decode cX1_readOn 69 = .ok (.getfield 99, 3) := by decide +kernel
theorem dX1_readOn_72 : decode cX1_readOn 72 = .ok (.iastore, 1) := by decide +kernel
theorem dX1_readOn_73 : decode cX1_readOn 73 = .ok (.iconst 1, 1) := by decide +kernel
theorem dX1_readOn_74 : decode cX1_readOn 74 = .ok (.ireturn, 1) := by decide +kernel
