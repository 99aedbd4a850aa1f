theorem dX7_init_0 : decode cX7_init 0 = .ok (.aload_n 0, 1) := by decide +kernel
theorem dX7_init_1 : decode cX7_init 1 = .ok (.invokespecial 3, 3) := by decide +kernel
theorem dX7_init_4 : decode cX7_init 4 = .ok (.aload_n 0, 1) := by decide +kernel
theorem dX7_init_5 : decode cX7_init 5 = .ok (.iconst (-1), 1) := by decide +kernel
theorem dX7_init_6 : decode cX7_init 6 = .ok (.putfield 9, 3) := by decide +kernel
theorem dX7_init_9 : decode cX7_init 9 = .ok (.aload_n 0, 1) := by decide +kernel
theorem dX7_init_10 : decode cX7_init 10 = .ok (.iconst (-1), 1) := by decide +kernel
theorem dX7_init_11 : decode cX7_init 11 = .ok (.putfield 15, 3) := by decide +kernel
theorem dX7_init_14 : decode cX7_init 14 = .ok (.aload_n 0, 1) := by decide +kernel
theorem dX7_init_15 : decode cX7_init 15 = .ok (.aload_n 1, 1) := by decide +kernel
theorem dX7_init_16 : decode cX7_init 16 = .ok (.putfield 18, 3) := by decide +kernel
theorem dX7_init_19 : decode cX7_init 19 = .ok (.return_, 1) := by decide +kernel
theorem dX7_roomFor_0 : decode cX7_roomFor 0 = .ok (.iconst 0, 1) := by decide +kernel
theorem dX7_roomFor_1 : decode cX7_roomFor 1 = .ok (.istore_n 3, 1) := by decide +kernel
theorem dX7_roomFor_2 : decode cX7_roomFor 2 = .ok (.iconst 0, 1) := by decide +kernel
theorem dX7_roomFor_3 : decode cX7_roomFor 3 = .ok (.istore 4, 2) := by decide +kernel
theorem dX7_roomFor_5 : decode cX7_roomFor 5 = .ok (.iload 4, 2) := by decide +kernel
theorem dX7_roomFor_7 : decode cX7_roomFor 7 = .ok (.aload_n 0, 1) := by decide +kernel
theorem dX7_roomFor_8 : decode cX7_roomFor 8 = .ok (.getfield 18, 3) := by decide +kernel
theorem dX7_roomFor_11 : decode cX7_roomFor 11 = .ok (.getfield 22, 3) := by decide +kernel
theorem dX7_roomFor_14 : decode cX7_roomFor 14 = .ok (.if_icmp .ge 38, 3) := by decide +kernel
theorem dX7_roomFor_17 : decode cX7_roomFor 17 = .ok (.iload_n 3, 1) := by decide +kernel
theorem dX7_roomFor_18 : decode cX7_roomFor 18 = .ok (.aload_n 1, 1) := by decide +kernel
theorem dX7_roomFor_19 : decode cX7_roomFor 19 = .ok (.getfield 27, 3) := by decide +kernel
theorem dX7_roomFor_22 : decode cX7_roomFor 22 = .ok (.iload 4, 2) := by decide +kernel
theorem dX7_roomFor_24 : decode cX7_roomFor 24 = .ok (.invokevirtual 33, 3) := by decide +kernel
theorem dX7_roomFor_27 : decode cX7_roomFor 27 = .ok (.ifCond .eq 16, 3) := by decide +kernel
theorem dX7_roomFor_30 : decode cX7_roomFor 30 = .ok (.aload_n 1, 1) := by decide +kernel
theorem dX7_roomFor_31 : decode cX7_roomFor 31 = .ok (.getfield 27, 3) := by decide +kernel
theorem dX7_roomFor_34 : decode cX7_roomFor 34 = .ok (.iload 4, 2) := by decide +kernel
theorem dX7_roomFor_36 : decode cX7_roomFor 36 = .ok (.iload_n 2, 1) := by decide +kernel
theorem dX7_roomFor_37 : decode cX7_roomFor 37 = .ok (.invokevirtual 39, 3) := by decide +kernel
theorem dX7_roomFor_40 : decode cX7_roomFor 40 = .ok (.goto 4, 3) := by decide +kernel
theorem dX7_roomFor_43 : decode cX7_roomFor 43 = .ok (.iconst 0, 1) := by decide +kernel
theorem dX7_roomFor_44 : decode cX7_roomFor 44 = .ok (.iadd, 1) := by decide +kernel
theorem dX7_roomFor_45 : decode cX7_roomFor 45 = .ok (.istore_n 3, 1) := by decide +kernel
theorem dX7_roomFor_46 : decode cX7_roomFor 46 = .ok (.iinc 4 1, 3) := by decide +kernel
theorem dX7_roomFor_49 : decode cX7_roomFor 49 = .ok (.goto (-44), 3) := by decide +kernel
theorem dX7_roomFor_52 : decode cX7_roomFor 52 = .ok (.aload_n 1, 1) := by decide +kernel
theorem dX7_roomFor_53 : decode cX7_roomFor 53 = .ok (.getfield 27, 3) := by decide +kernel
theorem dX7_roomFor_56 : decode cX7_roomFor 56 = .ok (.invokevirtual 43, 3) := by decide +kernel
theorem dX7_roomFor_59 : decode cX7_roomFor 59 = .ok (.aload_n 1, 1) := by decide +kernel
theorem dX7_roomFor_60 : decode cX7_roomFor 60 = .ok (.invokevirtual 47, 3) := by decide +kernel
theorem dX7_roomFor_63 : decode cX7_roomFor 63 = .ok (.isub, 1) := by decide +kernel
theorem dX7_roomFor_64 : decode cX7_roomFor 64 = .ok (.iconst 0, 1) := by decide +kernel
theorem dX7_roomFor_65 : decode cX7_roomFor 65 = .ok (.invokestatic 50, 3) := by decide +kernel
theorem dX7_roomFor_68 : decode cX7_roomFor 68 = .ok (.istore 4, 2) := by decide +kernel
theorem dX7_roomFor_70 : decode cX7_roomFor 70 = .ok (.iload_n 2, 1) := by decide +kernel
theorem dX7_roomFor_71 : decode cX7_roomFor 71 = .ok (.iconst 1, 1) := by decide +kernel
theorem dX7_roomFor_72 : decode cX7_roomFor 72 = .ok (.if_icmp .ge 7, 3) := by decide +kernel
theorem dX7_roomFor_75 : decode cX7_roomFor 75 = .ok (.iconst 0, 1) := by decide +kernel
theorem dX7_roomFor_76 : decode cX7_roomFor 76 = .ok (.goto 11, 3) := by decide +kernel
theorem dX7_roomFor_79 : decode cX7_roomFor 79 = .ok (.iload_n 3, 1) := by decide +kernel
theorem dX7_roomFor_80 : decode cX7_roomFor 80 = .ok (.iload 4, 2) := by decide +kernel
theorem dX7_roomFor_82 : decode cX7_roomFor 82 = .ok (.iload_n 2, 1) := by decide +kernel
theorem dX7_roomFor_83 : decode cX7_roomFor 83 = .ok (.idiv, 1) := by decide +kernel
theorem dX7_roomFor_84 : decode cX7_roomFor 84 = .ok (.invokestatic 55, 3) := by decide +kernel
theorem dX7_roomFor_87 : decode cX7_roomFor 87 = .ok (.ireturn, 1) := by decide +kernel
theorem dX7_loadGap_0 : decode cX7_loadGap 0 = .ok (.bipush 32, 2) := by decide +kernel
theorem dX7_loadGap_2 : decode cX7_loadGap 2 = .ok (.istore_n 2, 1) := by decide +kernel
theorem dX7_loadGap_3 : decode cX7_loadGap 3 = .ok (.iconst 0, 1) := by decide +kernel
theorem dX7_loadGap_4 : decode cX7_loadGap 4 = .ok (.istore_n 3, 1) := by decide +kernel
theorem dX7_loadGap_5 : decode cX7_loadGap 5 = .ok (.iconst 0, 1) := by decide +kernel
theorem dX7_loadGap_6 : decode cX7_loadGap 6 = .ok (.istore 4, 2) := by decide +kernel
theorem dX7_loadGap_8 : decode cX7_loadGap 8 = .ok (.iload 4, 2) := by decide +kernel
theorem dX7_loadGap_10 : decode cX7_loadGap 10 = .ok (.aload_n 0, 1) := by decide +kernel
theorem dX7_loadGap_11 : decode cX7_loadGap 11 = .ok (.getfield 18, 3) := by decide +kernel
theorem dX7_loadGap_14 : decode cX7_loadGap 14 = .ok (.getfield 22, 3) := by decide +kernel
theorem dX7_loadGap_17 : decode cX7_loadGap 17 = .ok (.if_icmp .ge 40, 3) := by decide +kernel
theorem dX7_loadGap_20 : decode cX7_loadGap 20 = .ok (.aload_n 1, 1) := by decide +kernel
theorem dX7_loadGap_21 : decode cX7_loadGap 21 = .ok (.iload 4, 2) := by decide +kernel
theorem dX7_loadGap_23 : decode cX7_loadGap 23 = .ok (.invokevirtual 33, 3) := by decide +kernel
theorem dX7_loadGap_26 : decode cX7_loadGap 26 = .ok (.ifCond .eq 25, 3) := by decide +kernel
theorem dX7_loadGap_29 : decode cX7_loadGap 29 = .ok (.iload_n 2, 1) := by decide +kernel
theorem dX7_loadGap_30 : decode cX7_loadGap 30 = .ok (.aload_n 1, 1) := by decide +kernel
theorem dX7_loadGap_31 : decode cX7_loadGap 31 = .ok (.iload 4, 2) := by decide +kernel
theorem dX7_loadGap_33 : decode cX7_loadGap 33 = .ok (.invokevirtual 58, 3) := by decide +kernel
theorem dX7_loadGap_36 : decode cX7_loadGap 36 = .ok (.invokestatic 55, 3) := by decide +kernel
theorem dX7_loadGap_39 : decode cX7_loadGap 39 = .ok (.istore_n 2, 1) := by decide +kernel
theorem dX7_loadGap_40 : decode cX7_loadGap 40 = .ok (.iload_n 3, 1) := by decide +kernel
theorem dX7_loadGap_41 : decode cX7_loadGap 41 = .ok (.aload_n 1, 1) := by decide +kernel
theorem dX7_loadGap_42 : decode cX7_loadGap 42 = .ok (.iload 4, 2) := by decide +kernel
theorem dX7_loadGap_44 : decode cX7_loadGap 44 = .ok (.invokevirtual 58, 3) := by decide +kernel
theorem dX7_loadGap_47 : decode cX7_loadGap 47 = .ok (.invokestatic 50, 3) := by decide +kernel
theorem dX7_loadGap_50 : decode cX7_loadGap 50 = .ok (.istore_n 3, 1) := by decide +kernel
theorem dX7_loadGap_51 : decode cX7_loadGap 51 = .ok (.iinc 4 1, 3) := by decide +kernel
theorem dX7_loadGap_54 : decode cX7_loadGap 54 = .ok (.goto (-46), 3) := by decide +kernel
theorem dX7_loadGap_57 : decode cX7_loadGap 57 = .ok (.iload_n 3, 1) := by decide +kernel
theorem dX7_loadGap_58 : decode cX7_loadGap 58 = .ok (.iload_n 2, 1) := by decide +kernel
theorem dX7_loadGap_59 : decode cX7_loadGap 59 = .ok (.isub, 1) := by decide +kernel
theorem dX7_loadGap_60 : decode cX7_loadGap 60 = .ok (.iconst 0, 1) := by decide +kernel
theorem dX7_loadGap_61 : decode cX7_loadGap 61 = .ok (.invokestatic 50, 3) := by decide +kernel
theorem dX7_loadGap_64 : decode cX7_loadGap 64 = .ok (.ireturn, 1) := by decide +kernel
theorem dX7_ticksUntilQuiet_0 : decode cX7_ticksUntilQuiet 0 = .ok (.iconst 0, 1) := by decide +kernel
theorem dX7_ticksUntilQuiet_1 : decode cX7_ticksUntilQuiet 1 = .ok (.istore_n 2, 1) := by decide +kernel
theorem dX7_ticksUntilQuiet_2 : decode cX7_ticksUntilQuiet 2 = .ok (.iconst 0, 1) := by decide +kernel
theorem dX7_ticksUntilQuiet_3 : decode cX7_ticksUntilQuiet 3 = .ok (.istore_n 3, 1) := by decide +kernel
theorem dX7_ticksUntilQuiet_4 : decode cX7_ticksUntilQuiet 4 = .ok (.iload_n 3, 1) := by decide +kernel
theorem dX7_ticksUntilQuiet_5 : decode cX7_ticksUntilQuiet 5 = .ok (.aload_n 0, 1) := by decide +kernel
theorem dX7_ticksUntilQuiet_6 : decode cX7_ticksUntilQuiet 6 = .ok (.getfield 18, 3) := by decide +kernel
theorem dX7_ticksUntilQuiet_9 : decode cX7_ticksUntilQuiet 9 = .ok (.getfield 22, 3) := by decide +kernel
theorem dX7_ticksUntilQuiet_12 : decode cX7_ticksUntilQuiet 12 = .ok (.if_icmp .ge 35, 3) := by decide +kernel
theorem dX7_ticksUntilQuiet_15 : decode cX7_ticksUntilQuiet 15 = .ok (.iload_n 2, 1) := by decide +kernel
theorem dX7_ticksUntilQuiet_16 : decode cX7_ticksUntilQuiet 16 = .ok (.aload_n 1, 1) := by decide +kernel
theorem dX7_ticksUntilQuiet_17 : decode cX7_ticksUntilQuiet 17 = .ok (.iload_n 3, 1) := by decide +kernel
theorem dX7_ticksUntilQuiet_18 : decode cX7_ticksUntilQuiet 18 = .ok (.invokevirtual 33, 3) := by decide +kernel
theorem dX7_ticksUntilQuiet_21 : decode cX7_ticksUntilQuiet 21 = .ok (.ifCond .eq 15, 3) := by decide +kernel
theorem dX7_ticksUntilQuiet_24 : decode cX7_ticksUntilQuiet 24 = .ok (.aload_n 1, 1) := by decide +kernel
theorem dX7_ticksUntilQuiet_25 : decode cX7_ticksUntilQuiet 25 = .ok (.getfield 62, 3) := by decide +kernel
theorem dX7_ticksUntilQuiet_28 : decode cX7_ticksUntilQuiet 28 = .ok (.iload_n 3, 1) := by decide +kernel
theorem dX7_ticksUntilQuiet_29 : decode cX7_ticksUntilQuiet 29 = .ok (.iaload, 1) := by decide +kernel
theorem dX7_ticksUntilQuiet_30 : decode cX7_ticksUntilQuiet 30 = .ok (.invokestatic 66, 3) := by decide +kernel
theorem dX7_ticksUntilQuiet_33 : decode cX7_ticksUntilQuiet 33 = .ok (.goto 4, 3) := by decide +kernel
theorem dX7_ticksUntilQuiet_36 : decode cX7_ticksUntilQuiet 36 = .ok (.iconst 0, 1) := by decide +kernel
theorem dX7_ticksUntilQuiet_37 : decode cX7_ticksUntilQuiet 37 = .ok (.invokestatic 50, 3) := by decide +kernel
theorem dX7_ticksUntilQuiet_40 : decode cX7_ticksUntilQuiet 40 = .ok (.istore_n 2, 1) := by decide +kernel
theorem dX7_ticksUntilQuiet_41 : decode cX7_ticksUntilQuiet 41 = .ok (.iinc 3 1, 3) := by decide +kernel
theorem dX7_ticksUntilQuiet_44 : decode cX7_ticksUntilQuiet 44 = .ok (.goto (-40), 3) := by decide +kernel
theorem dX7_ticksUntilQuiet_47 : decode cX7_ticksUntilQuiet 47 = .ok (.iload_n 2, 1) := by decide +kernel
theorem dX7_ticksUntilQuiet_48 : decode cX7_ticksUntilQuiet 48 = .ok (.ireturn, 1) := by decide +kernel
theorem dX7_heldLines_0 : decode cX7_heldLines 0 = .ok (.iconst 0, 1) := by decide +kernel
theorem dX7_heldLines_1 : decode cX7_heldLines 1 = .ok (.istore_n 2, 1) := by decide +kernel
theorem dX7_heldLines_2 : decode cX7_heldLines 2 = .ok (.iconst 0, 1) := by decide +kernel
theorem dX7_heldLines_3 : decode cX7_heldLines 3 = .ok (.istore_n 3, 1) := by decide +kernel
theorem dX7_heldLines_4 : decode cX7_heldLines 4 = .ok (.iload_n 3, 1) := by decide +kernel
theorem dX7_heldLines_5 : decode cX7_heldLines 5 = .ok (.aload_n 0, 1) := by decide +kernel
theorem dX7_heldLines_6 : decode cX7_heldLines 6 = .ok (.getfield 18, 3) := by decide +kernel
theorem dX7_heldLines_9 : decode cX7_heldLines 9 = .ok (.getfield 22, 3) := by decide +kernel
theorem dX7_heldLines_12 : decode cX7_heldLines 12 = .ok (.if_icmp .ge 18, 3) := by decide +kernel
theorem dX7_heldLines_15 : decode cX7_heldLines 15 = .ok (.iload_n 2, 1) := by decide +kernel
theorem dX7_heldLines_16 : decode cX7_heldLines 16 = .ok (.aload_n 1, 1) := by decide +kernel
theorem dX7_heldLines_17 : decode cX7_heldLines 17 = .ok (.iconst 2, 1) := by decide +kernel
theorem dX7_heldLines_18 : decode cX7_heldLines 18 = .ok (.iload_n 3, 1) := by decide +kernel
theorem dX7_heldLines_19 : decode cX7_heldLines 19 = .ok (.invokevirtual 71, 3) := by decide +kernel
theorem dX7_heldLines_22 : decode cX7_heldLines 22 = .ok (.iadd, 1) := by decide +kernel
theorem dX7_heldLines_23 : decode cX7_heldLines 23 = .ok (.istore_n 2, 1) := by decide +kernel
theorem dX7_heldLines_24 : decode cX7_heldLines 24 = .ok (.iinc 3 1, 3) := by decide +kernel
theorem dX7_heldLines_27 : decode cX7_heldLines 27 = .ok (.goto (-23), 3) := by decide +kernel
theorem dX7_heldLines_30 : decode cX7_heldLines 30 = .ok (.iload_n 2, 1) := by decide +kernel
theorem dX7_heldLines_31 : decode cX7_heldLines 31 = .ok (.ireturn, 1) := by decide +kernel
theorem dX7_seekBlock_0 : decode cX7_seekBlock 0 = .ok (.aload_n 0, 1) := by decide +kernel
theorem dX7_seekBlock_1 : decode cX7_seekBlock 1 = .ok (.iconst (-1), 1) := by decide +kernel
theorem dX7_seekBlock_2 : decode cX7_seekBlock 2 = .ok (.putfield 9, 3) := by decide +kernel
theorem dX7_seekBlock_5 : decode cX7_seekBlock 5 = .ok (.aload_n 0, 1) := by decide +kernel
theorem dX7_seekBlock_6 : decode cX7_seekBlock 6 = .ok (.iconst (-1), 1) := by decide +kernel
theorem dX7_seekBlock_7 : decode cX7_seekBlock 7 = .ok (.putfield 15, 3) := by decide +kernel
theorem dX7_seekBlock_10 : decode cX7_seekBlock 10 = .ok (.iconst 0, 1) := by decide +kernel
theorem dX7_seekBlock_11 : decode cX7_seekBlock 11 = .ok (.istore_n 3, 1) := by decide +kernel
theorem dX7_seekBlock_12 : decode cX7_seekBlock 12 = .ok (.iload_n 3, 1) := by decide +kernel
theorem dX7_seekBlock_13 : decode cX7_seekBlock 13 = .ok (.aload_n 0, 1) := by decide +kernel
theorem dX7_seekBlock_14 : decode cX7_seekBlock 14 = .ok (.getfield 18, 3) := by decide +kernel
theorem dX7_seekBlock_17 : decode cX7_seekBlock 17 = .ok (.getfield 22, 3) := by decide +kernel
theorem dX7_seekBlock_20 : decode cX7_seekBlock 20 = .ok (.if_icmp .ge 105, 3) := by decide +kernel
theorem dX7_seekBlock_23 : decode cX7_seekBlock 23 = .ok (.iconst 0, 1) := by decide +kernel
theorem dX7_seekBlock_24 : decode cX7_seekBlock 24 = .ok (.istore 4, 2) := by decide +kernel
theorem dX7_seekBlock_26 : decode cX7_seekBlock 26 = .ok (.iload_n 2, 1) := by decide +kernel
theorem dX7_seekBlock_27 : decode cX7_seekBlock 27 = .ok (.ifCond .le 92, 3) := by decide +kernel
theorem dX7_seekBlock_30 : decode cX7_seekBlock 30 = .ok (.aload_n 1, 1) := by decide +kernel
theorem dX7_seekBlock_31 : decode cX7_seekBlock 31 = .ok (.getfield 27, 3) := by decide +kernel
theorem dX7_seekBlock_34 : decode cX7_seekBlock 34 = .ok (.iload_n 3, 1) := by decide +kernel
theorem dX7_seekBlock_35 : decode cX7_seekBlock 35 = .ok (.invokevirtual 33, 3) := by decide +kernel
theorem dX7_seekBlock_38 : decode cX7_seekBlock 38 = .ok (.ifCond .eq 81, 3) := by decide +kernel
theorem dX7_seekBlock_41 : decode cX7_seekBlock 41 = .ok (.iload 4, 2) := by decide +kernel
theorem dX7_seekBlock_43 : decode cX7_seekBlock 43 = .ok (.iload_n 2, 1) := by decide +kernel
theorem dX7_seekBlock_44 : decode cX7_seekBlock 44 = .ok (.iadd, 1) := by decide +kernel
theorem dX7_seekBlock_45 : decode cX7_seekBlock 45 = .ok (.aload_n 0, 1) := by decide +kernel
theorem dX7_seekBlock_46 : decode cX7_seekBlock 46 = .ok (.getfield 18, 3) := by decide +kernel
theorem dX7_seekBlock_49 : decode cX7_seekBlock 49 = .ok (.getfield 74, 3) := by decide +kernel
theorem dX7_seekBlock_52 : decode cX7_seekBlock 52 = .ok (.if_icmp .gt 67, 3) := by decide +kernel
theorem dX7_seekBlock_55 : decode cX7_seekBlock 55 = .ok (.aload_n 0, 1) := by decide +kernel
theorem dX7_seekBlock_56 : decode cX7_seekBlock 56 = .ok (.aload_n 1, 1) := by decide +kernel
theorem dX7_seekBlock_57 : decode cX7_seekBlock 57 = .ok (.iload_n 3, 1) := by decide +kernel
theorem dX7_seekBlock_58 : decode cX7_seekBlock 58 = .ok (.bipush 32, 2) := by decide +kernel
theorem dX7_seekBlock_60 : decode cX7_seekBlock 60 = .ok (.imul, 1) := by decide +kernel
theorem dX7_seekBlock_61 : decode cX7_seekBlock 61 = .ok (.iload 4, 2) := by decide +kernel
theorem dX7_seekBlock_63 : decode cX7_seekBlock 63 = .ok (.iadd, 1) := by decide +kernel
theorem dX7_seekBlock_64 : decode cX7_seekBlock 64 = .ok (.iload_n 2, 1) := by decide +kernel
theorem dX7_seekBlock_65 : decode cX7_seekBlock 65 = .ok (.invokevirtual 77, 3) := by decide +kernel
theorem dX7_seekBlock_68 : decode cX7_seekBlock 68 = .ok (.istore 5, 2) := by decide +kernel
theorem dX7_seekBlock_70 : decode cX7_seekBlock 70 = .ok (.iload 5, 2) := by decide +kernel
theorem dX7_seekBlock_72 : decode cX7_seekBlock 72 = .ok (.iconst (-1), 1) := by decide +kernel
theorem dX7_seekBlock_73 : decode cX7_seekBlock 73 = .ok (.if_icmp .eq 37, 3) := by decide +kernel
theorem dX7_seekBlock_76 : decode cX7_seekBlock 76 = .ok (.aload_n 0, 1) := by decide +kernel
theorem dX7_seekBlock_77 : decode cX7_seekBlock 77 = .ok (.getfield 9, 3) := by decide +kernel
theorem dX7_seekBlock_80 : decode cX7_seekBlock 80 = .ok (.iconst (-1), 1) := by decide +kernel
theorem dX7_seekBlock_81 : decode cX7_seekBlock 81 = .ok (.if_icmp .eq 12, 3) := by decide +kernel
theorem dX7_seekBlock_84 : decode cX7_seekBlock 84 = .ok (.iload 5, 2) := by decide +kernel
theorem dX7_seekBlock_86 : decode cX7_seekBlock 86 = .ok (.aload_n 0, 1) := by decide +kernel
theorem dX7_seekBlock_87 : decode cX7_seekBlock 87 = .ok (.getfield 9, 3) := by decide +kernel
theorem dX7_seekBlock_90 : decode cX7_seekBlock 90 = .ok (.if_icmp .ge 20, 3) := by decide +kernel
theorem dX7_seekBlock_93 : decode cX7_seekBlock 93 = .ok (.aload_n 0, 1) := by decide +kernel
theorem dX7_seekBlock_94 : decode cX7_seekBlock 94 = .ok (.iload 5, 2) := by decide +kernel
theorem dX7_seekBlock_96 : decode cX7_seekBlock 96 = .ok (.putfield 9, 3) := by decide +kernel
theorem dX7_seekBlock_99 : decode cX7_seekBlock 99 = .ok (.aload_n 0, 1) := by decide +kernel
theorem dX7_seekBlock_100 : decode cX7_seekBlock 100 = .ok (.iload_n 3, 1) := by decide +kernel
theorem dX7_seekBlock_101 : decode cX7_seekBlock 101 = .ok (.bipush 32, 2) := by decide +kernel
theorem dX7_seekBlock_103 : decode cX7_seekBlock 103 = .ok (.imul, 1) := by decide +kernel
theorem dX7_seekBlock_104 : decode cX7_seekBlock 104 = .ok (.iload 4, 2) := by decide +kernel
theorem dX7_seekBlock_106 : decode cX7_seekBlock 106 = .ok (.iadd, 1) := by decide +kernel
theorem dX7_seekBlock_107 : decode cX7_seekBlock 107 = .ok (.putfield 15, 3) := by decide +kernel
theorem dX7_seekBlock_110 : decode cX7_seekBlock 110 = .ok (.iload 4, 2) := by decide +kernel
theorem dX7_seekBlock_112 : decode cX7_seekBlock 112 = .ok (.iload_n 2, 1) := by decide +kernel
theorem dX7_seekBlock_113 : decode cX7_seekBlock 113 = .ok (.iadd, 1) := by decide +kernel
theorem dX7_seekBlock_114 : decode cX7_seekBlock 114 = .ok (.istore 4, 2) := by decide +kernel
theorem dX7_seekBlock_116 : decode cX7_seekBlock 116 = .ok (.goto (-90), 3) := by decide +kernel
theorem dX7_seekBlock_119 : decode cX7_seekBlock 119 = .ok (.iinc 3 1, 3) := by decide +kernel
theorem dX7_seekBlock_122 : decode cX7_seekBlock 122 = .ok (.goto (-110), 3) := by decide +kernel
theorem dX7_seekBlock_125 : decode cX7_seekBlock 125 = .ok (.return_, 1) := by decide +kernel
theorem dX7_costOfBlock_0 : decode cX7_costOfBlock 0 = .ok (.iconst 0, 1) := by decide +kernel
theorem dX7_costOfBlock_1 : decode cX7_costOfBlock 1 = .ok (.istore 4, 2) := by decide +kernel
theorem dX7_costOfBlock_3 : decode cX7_costOfBlock 3 = .ok (.iload_n 2, 1) := by decide +kernel
theorem dX7_costOfBlock_4 : decode cX7_costOfBlock 4 = .ok (.istore 5, 2) := by decide +kernel
theorem dX7_costOfBlock_6 : decode cX7_costOfBlock 6 = .ok (.iload 5, 2) := by decide +kernel
theorem dX7_costOfBlock_8 : decode cX7_costOfBlock 8 = .ok (.iload_n 2, 1) := by decide +kernel
theorem dX7_costOfBlock_9 : decode cX7_costOfBlock 9 = .ok (.iload_n 3, 1) := by decide +kernel
theorem dX7_costOfBlock_10 : decode cX7_costOfBlock 10 = .ok (.iadd, 1) := by decide +kernel
theorem dX7_costOfBlock_11 : decode cX7_costOfBlock 11 = .ok (.if_icmp .ge 57, 3) := by decide +kernel
theorem dX7_costOfBlock_14 : decode cX7_costOfBlock 14 = .ok (.aload_n 1, 1) := by decide +kernel
theorem dX7_costOfBlock_15 : decode cX7_costOfBlock 15 = .ok (.getfield 27, 3) := by decide +kernel
theorem dX7_costOfBlock_18 : decode cX7_costOfBlock 18 = .ok (.iload 5, 2) := by decide +kernel
theorem dX7_costOfBlock_20 : decode cX7_costOfBlock 20 = .ok (.invokevirtual 81, 3) := by decide +kernel
theorem dX7_costOfBlock_23 : decode cX7_costOfBlock 23 = .ok (.istore 6, 2) := by decide +kernel
theorem dX7_costOfBlock_25 : decode cX7_costOfBlock 25 = .ok (.iload 6, 2) := by decide +kernel
theorem dX7_costOfBlock_27 : decode cX7_costOfBlock 27 = .ok (.iconst 2, 1) := by decide +kernel
theorem dX7_costOfBlock_28 : decode cX7_costOfBlock 28 = .ok (.if_icmp .ne 27, 3) := by decide +kernel
theorem dX7_costOfBlock_31 : decode cX7_costOfBlock 31 = .ok (.aload_n 0, 1) := by decide +kernel
theorem dX7_costOfBlock_32 : decode cX7_costOfBlock 32 = .ok (.aload_n 1, 1) := by decide +kernel
theorem dX7_costOfBlock_33 : decode cX7_costOfBlock 33 = .ok (.aload_n 1, 1) := by decide +kernel
theorem dX7_costOfBlock_34 : decode cX7_costOfBlock 34 = .ok (.getfield 27, 3) := by decide +kernel
theorem dX7_costOfBlock_37 : decode cX7_costOfBlock 37 = .ok (.getfield 84, 3) := by decide +kernel
theorem dX7_costOfBlock_40 : decode cX7_costOfBlock 40 = .ok (.iload 5, 2) := by decide +kernel
theorem dX7_costOfBlock_42 : decode cX7_costOfBlock 42 = .ok (.iaload, 1) := by decide +kernel
theorem dX7_costOfBlock_43 : decode cX7_costOfBlock 43 = .ok (.invokevirtual 87, 3) := by decide +kernel
theorem dX7_costOfBlock_46 : decode cX7_costOfBlock 46 = .ok (.ifCond .eq 9, 3) := by decide +kernel
theorem dX7_costOfBlock_49 : decode cX7_costOfBlock 49 = .ok (.iinc 4 1, 3) := by decide +kernel
theorem dX7_costOfBlock_52 : decode cX7_costOfBlock 52 = .ok (.goto 10, 3) := by decide +kernel
theorem dX7_costOfBlock_55 : decode cX7_costOfBlock 55 = .ok (.iload 6, 2) := by decide +kernel
theorem dX7_costOfBlock_57 : decode cX7_costOfBlock 57 = .ok (.ifCond .eq 5, 3) := by decide +kernel
theorem dX7_costOfBlock_60 : decode cX7_costOfBlock 60 = .ok (.iconst (-1), 1) := by decide +kernel
theorem dX7_costOfBlock_61 : decode cX7_costOfBlock 61 = .ok (.ireturn, 1) := by decide +kernel
theorem dX7_costOfBlock_62 : decode cX7_costOfBlock 62 = .ok (.iinc 5 1, 3) := by decide +kernel
theorem dX7_costOfBlock_65 : decode cX7_costOfBlock 65 = .ok (.goto (-59), 3) := by decide +kernel
theorem dX7_costOfBlock_68 : decode cX7_costOfBlock 68 = .ok (.iload 4, 2) := by decide +kernel
theorem dX7_costOfBlock_70 : decode cX7_costOfBlock 70 = .ok (.ireturn, 1) := by decide +kernel
theorem dX7_canGo_0 : decode cX7_canGo 0 = .ok (.iload_n 2, 1) := by decide +kernel
theorem dX7_canGo_1 : decode cX7_canGo 1 = .ok (.iconst (-1), 1) := by decide +kernel
theorem dX7_canGo_2 : decode cX7_canGo 2 = .ok (.if_icmp .eq 33, 3) := by decide +kernel
theorem dX7_canGo_5 : decode cX7_canGo 5 = .ok (.aload_n 0, 1) := by decide +kernel
theorem dX7_canGo_6 : decode cX7_canGo 6 = .ok (.getfield 18, 3) := by decide +kernel
theorem dX7_canGo_9 : decode cX7_canGo 9 = .ok (.getfield 91, 3) := by decide +kernel
theorem dX7_canGo_12 : decode cX7_canGo 12 = .ok (.iload_n 2, 1) := by decide +kernel
theorem dX7_canGo_13 : decode cX7_canGo 13 = .ok (.bipush 8, 2) := by decide +kernel
theorem dX7_canGo_15 : decode cX7_canGo 15 = .ok (.idiv, 1) := by decide +kernel
theorem dX7_canGo_16 : decode cX7_canGo 16 = .ok (.iaload, 1) := by decide +kernel
theorem dX7_canGo_17 : decode cX7_canGo 17 = .ok (.iconst 1, 1) := by decide +kernel
theorem dX7_canGo_18 : decode cX7_canGo 18 = .ok (.if_icmp .ne 17, 3) := by decide +kernel
theorem dX7_canGo_21 : decode cX7_canGo 21 = .ok (.aload_n 1, 1) := by decide +kernel
theorem dX7_canGo_22 : decode cX7_canGo 22 = .ok (.getfield 94, 3) := by decide +kernel
theorem dX7_canGo_25 : decode cX7_canGo 25 = .ok (.iload_n 2, 1) := by decide +kernel
theorem dX7_canGo_26 : decode cX7_canGo 26 = .ok (.iaload, 1) := by decide +kernel
theorem dX7_canGo_27 : decode cX7_canGo 27 = .ok (.iconst (-1), 1) := by decide +kernel
theorem dX7_canGo_28 : decode cX7_canGo 28 = .ok (.if_icmp .ne 7, 3) := by decide +kernel
theorem dX7_canGo_31 : decode cX7_canGo 31 = .ok (.iconst 1, 1) := by decide +kernel
theorem dX7_canGo_32 : decode cX7_canGo 32 = .ok (.goto 4, 3) := by decide +kernel
theorem dX7_canGo_35 : decode cX7_canGo 35 = .ok (.iconst 0, 1) := by decide +kernel
theorem dX7_canGo_36 : decode cX7_canGo 36 = .ok (.ireturn, 1) := by decide +kernel
theorem dX7_nearestGroup_0 : decode cX7_nearestGroup 0 = .ok (.iconst (-1), 1) := by decide +kernel
theorem dX7_nearestGroup_1 : decode cX7_nearestGroup 1 = .ok (.istore_n 2, 1) := by decide +kernel
theorem dX7_nearestGroup_2 : decode cX7_nearestGroup 2 = .ok (.iconst (-1), 1) := by decide +kernel
theorem dX7_nearestGroup_3 : decode cX7_nearestGroup 3 = .ok (.istore_n 3, 1) := by decide +kernel
theorem dX7_nearestGroup_4 : decode cX7_nearestGroup 4 = .ok (.iconst 0, 1) := by decide +kernel
theorem dX7_nearestGroup_5 : decode cX7_nearestGroup 5 = .ok (.istore 4, 2) := by decide +kernel
theorem dX7_nearestGroup_7 : decode cX7_nearestGroup 7 = .ok (.iload 4, 2) := by decide +kernel
theorem dX7_nearestGroup_9 : decode cX7_nearestGroup 9 = .ok (.aload_n 0, 1) := by decide +kernel
theorem dX7_nearestGroup_10 : decode cX7_nearestGroup 10 = .ok (.getfield 18, 3) := by decide +kernel
theorem dX7_nearestGroup_13 : decode cX7_nearestGroup 13 = .ok (.getfield 97, 3) := by decide +kernel
theorem dX7_nearestGroup_16 : decode cX7_nearestGroup 16 = .ok (.if_icmp .ge 76, 3) := by decide +kernel
theorem dX7_nearestGroup_19 : decode cX7_nearestGroup 19 = .ok (.aload_n 0, 1) := by decide +kernel
theorem dX7_nearestGroup_20 : decode cX7_nearestGroup 20 = .ok (.getfield 18, 3) := by decide +kernel
theorem dX7_nearestGroup_23 : decode cX7_nearestGroup 23 = .ok (.getfield 91, 3) := by decide +kernel
theorem dX7_nearestGroup_26 : decode cX7_nearestGroup 26 = .ok (.iload 4, 2) := by decide +kernel
theorem dX7_nearestGroup_28 : decode cX7_nearestGroup 28 = .ok (.iaload, 1) := by decide +kernel
theorem dX7_nearestGroup_29 : decode cX7_nearestGroup 29 = .ok (.iconst 2, 1) := by decide +kernel
theorem dX7_nearestGroup_30 : decode cX7_nearestGroup 30 = .ok (.if_icmp .ne 56, 3) := by decide +kernel
theorem dX7_nearestGroup_33 : decode cX7_nearestGroup 33 = .ok (.aload_n 1, 1) := by decide +kernel
theorem dX7_nearestGroup_34 : decode cX7_nearestGroup 34 = .ok (.iload 4, 2) := by decide +kernel
theorem dX7_nearestGroup_36 : decode cX7_nearestGroup 36 = .ok (.invokevirtual 100, 3) := by decide +kernel
theorem dX7_nearestGroup_39 : decode cX7_nearestGroup 39 = .ok (.ifCond .ne 47, 3) := by decide +kernel
theorem dX7_nearestGroup_42 : decode cX7_nearestGroup 42 = .ok (.aload_n 0, 1) := by decide +kernel
theorem dX7_nearestGroup_43 : decode cX7_nearestGroup 43 = .ok (.aload_n 1, 1) := by decide +kernel
theorem dX7_nearestGroup_44 : decode cX7_nearestGroup 44 = .ok (.aload_n 0, 1) := by decide +kernel
theorem dX7_nearestGroup_45 : decode cX7_nearestGroup 45 = .ok (.getfield 18, 3) := by decide +kernel
theorem dX7_nearestGroup_48 : decode cX7_nearestGroup 48 = .ok (.getfield 103, 3) := by decide +kernel
theorem dX7_nearestGroup_51 : decode cX7_nearestGroup 51 = .ok (.iload 4, 2) := by decide +kernel
theorem dX7_nearestGroup_53 : decode cX7_nearestGroup 53 = .ok (.iaload, 1) := by decide +kernel
theorem dX7_nearestGroup_54 : decode cX7_nearestGroup 54 = .ok (.invokevirtual 106, 3) := by decide +kernel
theorem dX7_nearestGroup_57 : decode cX7_nearestGroup 57 = .ok (.aload_n 0, 1) := by decide +kernel
theorem dX7_nearestGroup_58 : decode cX7_nearestGroup 58 = .ok (.getfield 9, 3) := by decide +kernel
theorem dX7_nearestGroup_61 : decode cX7_nearestGroup 61 = .ok (.iconst (-1), 1) := by decide +kernel
theorem dX7_nearestGroup_62 : decode cX7_nearestGroup 62 = .ok (.if_icmp .eq 24, 3) := by decide +kernel
theorem dX7_nearestGroup_65 : decode cX7_nearestGroup 65 = .ok (.iload_n 2, 1) := by decide +kernel
theorem dX7_nearestGroup_66 : decode cX7_nearestGroup 66 = .ok (.iconst (-1), 1) := by decide +kernel
theorem dX7_nearestGroup_67 : decode cX7_nearestGroup 67 = .ok (.if_icmp .eq 11, 3) := by decide +kernel
theorem dX7_nearestGroup_70 : decode cX7_nearestGroup 70 = .ok (.aload_n 0, 1) := by decide +kernel
theorem dX7_nearestGroup_71 : decode cX7_nearestGroup 71 = .ok (.getfield 9, 3) := by decide +kernel
theorem dX7_nearestGroup_74 : decode cX7_nearestGroup 74 = .ok (.iload_n 3, 1) := by decide +kernel
theorem dX7_nearestGroup_75 : decode cX7_nearestGroup 75 = .ok (.if_icmp .ge 11, 3) := by decide +kernel
theorem dX7_nearestGroup_78 : decode cX7_nearestGroup 78 = .ok (.iload 4, 2) := by decide +kernel
theorem dX7_nearestGroup_80 : decode cX7_nearestGroup 80 = .ok (.istore_n 2, 1) := by decide +kernel
theorem dX7_nearestGroup_81 : decode cX7_nearestGroup 81 = .ok (.aload_n 0, 1) := by decide +kernel
theorem dX7_nearestGroup_82 : decode cX7_nearestGroup 82 = .ok (.getfield 9, 3) := by decide +kernel
theorem dX7_nearestGroup_85 : decode cX7_nearestGroup 85 = .ok (.istore_n 3, 1) := by decide +kernel
theorem dX7_nearestGroup_86 : decode cX7_nearestGroup 86 = .ok (.iinc 4 1, 3) := by decide +kernel
theorem dX7_nearestGroup_89 : decode cX7_nearestGroup 89 = .ok (.goto (-82), 3) := by decide +kernel
theorem dX7_nearestGroup_92 : decode cX7_nearestGroup 92 = .ok (.iload_n 2, 1) := by decide +kernel
theorem dX7_nearestGroup_93 : decode cX7_nearestGroup 93 = .ok (.ireturn, 1) := by decide +kernel
theorem dX7_wrongVectors_0 : decode cX7_wrongVectors 0 = .ok (.iconst 0, 1) := by decide +kernel
theorem dX7_wrongVectors_1 : decode cX7_wrongVectors 1 = .ok (.istore_n 2, 1) := by decide +kernel
theorem dX7_wrongVectors_2 : decode cX7_wrongVectors 2 = .ok (.iconst 0, 1) := by decide +kernel
theorem dX7_wrongVectors_3 : decode cX7_wrongVectors 3 = .ok (.istore_n 3, 1) := by decide +kernel
theorem dX7_wrongVectors_4 : decode cX7_wrongVectors 4 = .ok (.iload_n 3, 1) := by decide +kernel
theorem dX7_wrongVectors_5 : decode cX7_wrongVectors 5 = .ok (.aload_n 0, 1) := by decide +kernel
theorem dX7_wrongVectors_6 : decode cX7_wrongVectors 6 = .ok (.getfield 18, 3) := by decide +kernel
theorem dX7_wrongVectors_9 : decode cX7_wrongVectors 9 = .ok (.getfield 22, 3) := by decide +kernel
theorem dX7_wrongVectors_12 : decode cX7_wrongVectors 12 = .ok (.if_icmp .ge 49, 3) := by decide +kernel
theorem dX7_wrongVectors_15 : decode cX7_wrongVectors 15 = .ok (.iconst 0, 1) := by decide +kernel
theorem dX7_wrongVectors_16 : decode cX7_wrongVectors 16 = .ok (.istore 4, 2) := by decide +kernel
theorem dX7_wrongVectors_18 : decode cX7_wrongVectors 18 = .ok (.iload 4, 2) := by decide +kernel
theorem dX7_wrongVectors_20 : decode cX7_wrongVectors 20 = .ok (.aload_n 0, 1) := by decide +kernel
theorem dX7_wrongVectors_21 : decode cX7_wrongVectors 21 = .ok (.getfield 18, 3) := by decide +kernel
theorem dX7_wrongVectors_24 : decode cX7_wrongVectors 24 = .ok (.getfield 74, 3) := by decide +kernel
theorem dX7_wrongVectors_27 : decode cX7_wrongVectors 27 = .ok (.if_icmp .ge 28, 3) := by decide +kernel
theorem dX7_wrongVectors_30 : decode cX7_wrongVectors 30 = .ok (.iload_n 2, 1) := by decide +kernel
theorem dX7_wrongVectors_31 : decode cX7_wrongVectors 31 = .ok (.aload_n 0, 1) := by decide +kernel
theorem dX7_wrongVectors_32 : decode cX7_wrongVectors 32 = .ok (.aload_n 1, 1) := by decide +kernel
theorem dX7_wrongVectors_33 : decode cX7_wrongVectors 33 = .ok (.iload_n 3, 1) := by decide +kernel
theorem dX7_wrongVectors_34 : decode cX7_wrongVectors 34 = .ok (.iload 4, 2) := by decide +kernel
theorem dX7_wrongVectors_36 : decode cX7_wrongVectors 36 = .ok (.invokevirtual 110, 3) := by decide +kernel
theorem dX7_wrongVectors_39 : decode cX7_wrongVectors 39 = .ok (.ifCond .eq 7, 3) := by decide +kernel
theorem dX7_wrongVectors_42 : decode cX7_wrongVectors 42 = .ok (.iconst 1, 1) := by decide +kernel
theorem dX7_wrongVectors_43 : decode cX7_wrongVectors 43 = .ok (.goto 4, 3) := by decide +kernel
theorem dX7_wrongVectors_46 : decode cX7_wrongVectors 46 = .ok (.iconst 0, 1) := by decide +kernel
theorem dX7_wrongVectors_47 : decode cX7_wrongVectors 47 = .ok (.iadd, 1) := by decide +kernel
theorem dX7_wrongVectors_48 : decode cX7_wrongVectors 48 = .ok (.istore_n 2, 1) := by decide +kernel
theorem dX7_wrongVectors_49 : decode cX7_wrongVectors 49 = .ok (.iinc 4 1, 3) := by decide +kernel
theorem dX7_wrongVectors_52 : decode cX7_wrongVectors 52 = .ok (.goto (-34), 3) := by decide +kernel
theorem dX7_wrongVectors_55 : decode cX7_wrongVectors 55 = .ok (.iinc 3 1, 3) := by decide +kernel
theorem dX7_wrongVectors_58 : decode cX7_wrongVectors 58 = .ok (.goto (-54), 3) := by decide +kernel
theorem dX7_wrongVectors_61 : decode cX7_wrongVectors 61 = .ok (.iload_n 2, 1) := by decide +kernel
theorem dX7_wrongVectors_62 : decode cX7_wrongVectors 62 = .ok (.ireturn, 1) := by decide +kernel
theorem dX7_isWrong_0 : decode cX7_isWrong 0 = .ok (.iconst 0, 1) := by decide +kernel
theorem dX7_isWrong_1 : decode cX7_isWrong 1 = .ok (.istore 4, 2) := by decide +kernel
theorem dX7_isWrong_3 : decode cX7_isWrong 3 = .ok (.iconst 0, 1) := by decide +kernel
theorem dX7_isWrong_4 : decode cX7_isWrong 4 = .ok (.istore 5, 2) := by decide +kernel
theorem dX7_isWrong_6 : decode cX7_isWrong 6 = .ok (.iload 5, 2) := by decide +kernel
theorem dX7_isWrong_8 : decode cX7_isWrong 8 = .ok (.iconst 5, 1) := by decide +kernel
theorem dX7_isWrong_9 : decode cX7_isWrong 9 = .ok (.if_icmp .ge 30, 3) := by decide +kernel
theorem dX7_isWrong_12 : decode cX7_isWrong 12 = .ok (.iload 4, 2) := by decide +kernel
theorem dX7_isWrong_14 : decode cX7_isWrong 14 = .ok (.aload_n 1, 1) := by decide +kernel
theorem dX7_isWrong_15 : decode cX7_isWrong 15 = .ok (.getfield 27, 3) := by decide +kernel
theorem dX7_isWrong_18 : decode cX7_isWrong 18 = .ok (.getfield 114, 3) := by decide +kernel
theorem dX7_isWrong_21 : decode cX7_isWrong 21 = .ok (.iload 5, 2) := by decide +kernel
theorem dX7_isWrong_23 : decode cX7_isWrong 23 = .ok (.aaload, 1) := by decide +kernel
theorem dX7_isWrong_24 : decode cX7_isWrong 24 = .ok (.iload_n 2, 1) := by decide +kernel
theorem dX7_isWrong_25 : decode cX7_isWrong 25 = .ok (.iaload, 1) := by decide +kernel
theorem dX7_isWrong_26 : decode cX7_isWrong 26 = .ok (.iload_n 3, 1) := by decide +kernel
theorem dX7_isWrong_27 : decode cX7_isWrong 27 = .ok (.iushr, 1) := by decide +kernel
theorem dX7_isWrong_28 : decode cX7_isWrong 28 = .ok (.iconst 1, 1) := by decide +kernel
theorem dX7_isWrong_29 : decode cX7_isWrong 29 = .ok (.iand, 1) := by decide +kernel
theorem dX7_isWrong_30 : decode cX7_isWrong 30 = .ok (.iadd, 1) := by decide +kernel
theorem dX7_isWrong_31 : decode cX7_isWrong 31 = .ok (.istore 4, 2) := by decide +kernel
theorem dX7_isWrong_33 : decode cX7_isWrong 33 = .ok (.iinc 5 1, 3) := by decide +kernel
theorem dX7_isWrong_36 : decode cX7_isWrong 36 = .ok (.goto (-30), 3) := by decide +kernel
theorem dX7_isWrong_39 : decode cX7_isWrong 39 = .ok (.iload_n 2, 1) := by decide +kernel
theorem dX7_isWrong_40 : decode cX7_isWrong 40 = .ok (.bipush 32, 2) := by decide +kernel
theorem dX7_isWrong_42 : decode cX7_isWrong 42 = .ok (.imul, 1) := by decide +kernel
theorem dX7_isWrong_43 : decode cX7_isWrong 43 = .ok (.iload_n 3, 1) := by decide +kernel
theorem dX7_isWrong_44 : decode cX7_isWrong 44 = .ok (.iadd, 1) := by decide +kernel
theorem dX7_isWrong_45 : decode cX7_isWrong 45 = .ok (.istore 5, 2) := by decide +kernel
theorem dX7_isWrong_47 : decode cX7_isWrong 47 = .ok (.aload_n 1, 1) := by decide +kernel
theorem dX7_isWrong_48 : decode cX7_isWrong 48 = .ok (.getfield 27, 3) := by decide +kernel
theorem dX7_isWrong_51 : decode cX7_isWrong 51 = .ok (.getfield 84, 3) := by decide +kernel
theorem dX7_isWrong_54 : decode cX7_isWrong 54 = .ok (.iload 5, 2) := by decide +kernel
theorem dX7_isWrong_56 : decode cX7_isWrong 56 = .ok (.iaload, 1) := by decide +kernel
theorem dX7_isWrong_57 : decode cX7_isWrong 57 = .ok (.istore 6, 2) := by decide +kernel
theorem dX7_isWrong_59 : decode cX7_isWrong 59 = .ok (.aload_n 1, 1) := by decide +kernel
theorem dX7_isWrong_60 : decode cX7_isWrong 60 = .ok (.getfield 27, 3) := by decide +kernel
theorem dX7_isWrong_63 : decode cX7_isWrong 63 = .ok (.iload 5, 2) := by decide +kernel
theorem dX7_isWrong_65 : decode cX7_isWrong 65 = .ok (.invokevirtual 81, 3) := by decide +kernel
theorem dX7_isWrong_68 : decode cX7_isWrong 68 = .ok (.istore 7, 2) := by decide +kernel
theorem dX7_isWrong_70 : decode cX7_isWrong 70 = .ok (.iload 4, 2) := by decide +kernel
theorem dX7_isWrong_72 : decode cX7_isWrong 72 = .ok (.iconst 1, 1) := by decide +kernel
theorem dX7_isWrong_73 : decode cX7_isWrong 73 = .ok (.if_icmp .eq 5, 3) := by decide +kernel
theorem dX7_isWrong_76 : decode cX7_isWrong 76 = .ok (.iconst 1, 1) := by decide +kernel
theorem dX7_isWrong_77 : decode cX7_isWrong 77 = .ok (.ireturn, 1) := by decide +kernel
theorem dX7_isWrong_78 : decode cX7_isWrong 78 = .ok (.iload 7, 2) := by decide +kernel
theorem dX7_isWrong_80 : decode cX7_isWrong 80 = .ok (.ifCond .eq 9, 3) := by decide +kernel
theorem dX7_isWrong_83 : decode cX7_isWrong 83 = .ok (.iload 7, 2) := by decide +kernel
theorem dX7_isWrong_85 : decode cX7_isWrong 85 = .ok (.iconst 1, 1) := by decide +kernel
theorem dX7_isWrong_86 : decode cX7_isWrong 86 = .ok (.if_icmp .ne 27, 3) := by decide +kernel
theorem dX7_isWrong_89 : decode cX7_isWrong 89 = .ok (.iload 6, 2) := by decide +kernel
theorem dX7_isWrong_91 : decode cX7_isWrong 91 = .ok (.iconst (-1), 1) := by decide +kernel
theorem dX7_isWrong_92 : decode cX7_isWrong 92 = .ok (.if_icmp .ne 15, 3) := by decide +kernel
theorem dX7_isWrong_95 : decode cX7_isWrong 95 = .ok (.aload_n 1, 1) := by decide +kernel
theorem dX7_isWrong_96 : decode cX7_isWrong 96 = .ok (.getfield 27, 3) := by decide +kernel
theorem dX7_isWrong_99 : decode cX7_isWrong 99 = .ok (.iload 5, 2) := by decide +kernel
theorem dX7_isWrong_101 : decode cX7_isWrong 101 = .ok (.invokevirtual 118, 3) := by decide +kernel
theorem dX7_isWrong_104 : decode cX7_isWrong 104 = .ok (.ifCond .eq 7, 3) := by decide +kernel
theorem dX7_isWrong_107 : decode cX7_isWrong 107 = .ok (.iconst 1, 1) := by decide +kernel
theorem dX7_isWrong_108 : decode cX7_isWrong 108 = .ok (.goto 4, 3) := by decide +kernel
theorem dX7_isWrong_111 : decode cX7_isWrong 111 = .ok (.iconst 0, 1) := by decide +kernel
theorem dX7_isWrong_112 : decode cX7_isWrong 112 = .ok (.ireturn, 1) := by decide +kernel
theorem dX7_isWrong_113 : decode cX7_isWrong 113 = .ok (.iload 6, 2) := by decide +kernel
theorem dX7_isWrong_115 : decode cX7_isWrong 115 = .ok (.iconst (-1), 1) := by decide +kernel
theorem dX7_isWrong_116 : decode cX7_isWrong 116 = .ok (.if_icmp .eq 15, 3) := by decide +kernel
theorem dX7_isWrong_119 : decode cX7_isWrong 119 = .ok (.aload_n 1, 1) := by decide +kernel
theorem dX7_isWrong_120 : decode cX7_isWrong 120 = .ok (.iload 6, 2) := by decide +kernel
theorem dX7_isWrong_122 : decode cX7_isWrong 122 = .ok (.bipush 8, 2) := by decide +kernel
theorem dX7_isWrong_124 : decode cX7_isWrong 124 = .ok (.idiv, 1) := by decide +kernel
theorem dX7_isWrong_125 : decode cX7_isWrong 125 = .ok (.invokevirtual 100, 3) := by decide +kernel
theorem dX7_isWrong_128 : decode cX7_isWrong 128 = .ok (.ifCond .ne 5, 3) := by decide +kernel
theorem dX7_isWrong_131 : decode cX7_isWrong 131 = .ok (.iconst 1, 1) := by decide +kernel
theorem dX7_isWrong_132 : decode cX7_isWrong 132 = .ok (.ireturn, 1) := by decide +kernel
theorem dX7_isWrong_133 : decode cX7_isWrong 133 = .ok (.iload 7, 2) := by decide +kernel
theorem dX7_isWrong_135 : decode cX7_isWrong 135 = .ok (.iconst 4, 1) := by decide +kernel
theorem dX7_isWrong_136 : decode cX7_isWrong 136 = .ok (.if_icmp .ne 49, 3) := by decide +kernel
theorem dX7_isWrong_139 : decode cX7_isWrong 139 = .ok (.aload_n 0, 1) := by decide +kernel
theorem dX7_isWrong_140 : decode cX7_isWrong 140 = .ok (.getfield 18, 3) := by decide +kernel
theorem dX7_isWrong_143 : decode cX7_isWrong 143 = .ok (.iload 6, 2) := by decide +kernel
theorem dX7_isWrong_145 : decode cX7_isWrong 145 = .ok (.bipush 8, 2) := by decide +kernel
theorem dX7_isWrong_147 : decode cX7_isWrong 147 = .ok (.idiv, 1) := by decide +kernel
theorem dX7_isWrong_148 : decode cX7_isWrong 148 = .ok (.iload 6, 2) := by decide +kernel
theorem dX7_isWrong_150 : decode cX7_isWrong 150 = .ok (.bipush 8, 2) := by decide +kernel
theorem dX7_isWrong_152 : decode cX7_isWrong 152 = .ok (.irem, 1) := by decide +kernel
theorem dX7_isWrong_153 : decode cX7_isWrong 153 = .ok (.invokevirtual 121, 3) := by decide +kernel
theorem dX7_isWrong_156 : decode cX7_isWrong 156 = .ok (.istore 8, 2) := by decide +kernel
theorem dX7_isWrong_158 : decode cX7_isWrong 158 = .ok (.iload 8, 2) := by decide +kernel
theorem dX7_isWrong_160 : decode cX7_isWrong 160 = .ok (.iload_n 2, 1) := by decide +kernel
theorem dX7_isWrong_161 : decode cX7_isWrong 161 = .ok (.iushr, 1) := by decide +kernel
theorem dX7_isWrong_162 : decode cX7_isWrong 162 = .ok (.iconst 1, 1) := by decide +kernel
theorem dX7_isWrong_163 : decode cX7_isWrong 163 = .ok (.iand, 1) := by decide +kernel
theorem dX7_isWrong_164 : decode cX7_isWrong 164 = .ok (.ifCond .eq 15, 3) := by decide +kernel
theorem dX7_isWrong_167 : decode cX7_isWrong 167 = .ok (.aload_n 1, 1) := by decide +kernel
theorem dX7_isWrong_168 : decode cX7_isWrong 168 = .ok (.getfield 27, 3) := by decide +kernel
theorem dX7_isWrong_171 : decode cX7_isWrong 171 = .ok (.iload 5, 2) := by decide +kernel
theorem dX7_isWrong_173 : decode cX7_isWrong 173 = .ok (.invokevirtual 118, 3) := by decide +kernel
theorem dX7_isWrong_176 : decode cX7_isWrong 176 = .ok (.ifCond .eq 7, 3) := by decide +kernel
theorem dX7_isWrong_179 : decode cX7_isWrong 179 = .ok (.iconst 1, 1) := by decide +kernel
theorem dX7_isWrong_180 : decode cX7_isWrong 180 = .ok (.goto 4, 3) := by decide +kernel
theorem dX7_isWrong_183 : decode cX7_isWrong 183 = .ok (.iconst 0, 1) := by decide +kernel
theorem dX7_isWrong_184 : decode cX7_isWrong 184 = .ok (.ireturn, 1) := by decide +kernel
theorem dX7_isWrong_185 : decode cX7_isWrong 185 = .ok (.iload 5, 2) := by decide +kernel
theorem dX7_isWrong_187 : decode cX7_isWrong 187 = .ok (.iload 7, 2) := by decide +kernel
theorem dX7_isWrong_189 : decode cX7_isWrong 189 = .ok (.iconst 2, 1) := by decide +kernel
theorem dX7_isWrong_190 : decode cX7_isWrong 190 = .ok (.if_icmp .ne 13, 3) := by decide +kernel
theorem dX7_isWrong_193 : decode cX7_isWrong 193 = .ok (.aload_n 1, 1) := by decide +kernel
theorem dX7_isWrong_194 : decode cX7_isWrong 194 = .ok (.getfield 124, 3) := by decide +kernel
theorem dX7_isWrong_197 : decode cX7_isWrong 197 = .ok (.iload 6, 2) := by decide +kernel
theorem dX7_isWrong_199 : decode cX7_isWrong 199 = .ok (.iaload, 1) := by decide +kernel
theorem dX7_isWrong_200 : decode cX7_isWrong 200 = .ok (.goto 10, 3) := by decide +kernel
theorem dX7_isWrong_203 : decode cX7_isWrong 203 = .ok (.aload_n 1, 1) := by decide +kernel
theorem dX7_isWrong_204 : decode cX7_isWrong 204 = .ok (.getfield 94, 3) := by decide +kernel
theorem dX7_isWrong_207 : decode cX7_isWrong 207 = .ok (.iload 6, 2) := by decide +kernel
theorem dX7_isWrong_209 : decode cX7_isWrong 209 = .ok (.iaload, 1) := by decide +kernel
theorem dX7_isWrong_210 : decode cX7_isWrong 210 = .ok (.if_icmp .eq 7, 3) := by decide +kernel
theorem dX7_isWrong_213 : decode cX7_isWrong 213 = .ok (.iconst 1, 1) := by decide +kernel
theorem dX7_isWrong_214 : decode cX7_isWrong 214 = .ok (.goto 4, 3) := by decide +kernel
theorem dX7_isWrong_217 : decode cX7_isWrong 217 = .ok (.iconst 0, 1) := by decide +kernel
theorem dX7_isWrong_218 : decode cX7_isWrong 218 = .ok (.ireturn, 1) := by decide +kernel
theorem dX7_wrongLines_0 : decode cX7_wrongLines 0 = .ok (.iconst 0, 1) := by decide +kernel
theorem dX7_wrongLines_1 : decode cX7_wrongLines 1 = .ok (.istore_n 2, 1) := by decide +kernel
theorem dX7_wrongLines_2 : decode cX7_wrongLines 2 = .ok (.iconst 0, 1) := by decide +kernel
theorem dX7_wrongLines_3 : decode cX7_wrongLines 3 = .ok (.istore_n 3, 1) := by decide +kernel
theorem dX7_wrongLines_4 : decode cX7_wrongLines 4 = .ok (.iload_n 3, 1) := by decide +kernel
theorem dX7_wrongLines_5 : decode cX7_wrongLines 5 = .ok (.aload_n 0, 1) := by decide +kernel
theorem dX7_wrongLines_6 : decode cX7_wrongLines 6 = .ok (.getfield 18, 3) := by decide +kernel
theorem dX7_wrongLines_9 : decode cX7_wrongLines 9 = .ok (.getfield 97, 3) := by decide +kernel
theorem dX7_wrongLines_12 : decode cX7_wrongLines 12 = .ok (.bipush 8, 2) := by decide +kernel
theorem dX7_wrongLines_14 : decode cX7_wrongLines 14 = .ok (.imul, 1) := by decide +kernel
theorem dX7_wrongLines_15 : decode cX7_wrongLines 15 = .ok (.if_icmp .ge 61, 3) := by decide +kernel
theorem dX7_wrongLines_18 : decode cX7_wrongLines 18 = .ok (.iload_n 2, 1) := by decide +kernel
theorem dX7_wrongLines_19 : decode cX7_wrongLines 19 = .ok (.aload_n 1, 1) := by decide +kernel
theorem dX7_wrongLines_20 : decode cX7_wrongLines 20 = .ok (.getfield 27, 3) := by decide +kernel
theorem dX7_wrongLines_23 : decode cX7_wrongLines 23 = .ok (.iload_n 3, 1) := by decide +kernel
theorem dX7_wrongLines_24 : decode cX7_wrongLines 24 = .ok (.aload_n 1, 1) := by decide +kernel
theorem dX7_wrongLines_25 : decode cX7_wrongLines 25 = .ok (.getfield 124, 3) := by decide +kernel
theorem dX7_wrongLines_28 : decode cX7_wrongLines 28 = .ok (.iload_n 3, 1) := by decide +kernel
theorem dX7_wrongLines_29 : decode cX7_wrongLines 29 = .ok (.iaload, 1) := by decide +kernel
theorem dX7_wrongLines_30 : decode cX7_wrongLines 30 = .ok (.iconst 2, 1) := by decide +kernel
theorem dX7_wrongLines_31 : decode cX7_wrongLines 31 = .ok (.invokestatic 127, 3) := by decide +kernel
theorem dX7_wrongLines_34 : decode cX7_wrongLines 34 = .ok (.ifCond .eq 7, 3) := by decide +kernel
theorem dX7_wrongLines_37 : decode cX7_wrongLines 37 = .ok (.iconst 1, 1) := by decide +kernel
theorem dX7_wrongLines_38 : decode cX7_wrongLines 38 = .ok (.goto 4, 3) := by decide +kernel
theorem dX7_wrongLines_41 : decode cX7_wrongLines 41 = .ok (.iconst 0, 1) := by decide +kernel
theorem dX7_wrongLines_42 : decode cX7_wrongLines 42 = .ok (.iadd, 1) := by decide +kernel
theorem dX7_wrongLines_43 : decode cX7_wrongLines 43 = .ok (.istore_n 2, 1) := by decide +kernel
theorem dX7_wrongLines_44 : decode cX7_wrongLines 44 = .ok (.iload_n 2, 1) := by decide +kernel
theorem dX7_wrongLines_45 : decode cX7_wrongLines 45 = .ok (.aload_n 1, 1) := by decide +kernel
theorem dX7_wrongLines_46 : decode cX7_wrongLines 46 = .ok (.getfield 27, 3) := by decide +kernel
theorem dX7_wrongLines_49 : decode cX7_wrongLines 49 = .ok (.iload_n 3, 1) := by decide +kernel
theorem dX7_wrongLines_50 : decode cX7_wrongLines 50 = .ok (.aload_n 1, 1) := by decide +kernel
theorem dX7_wrongLines_51 : decode cX7_wrongLines 51 = .ok (.getfield 94, 3) := by decide +kernel
theorem dX7_wrongLines_54 : decode cX7_wrongLines 54 = .ok (.iload_n 3, 1) := by decide +kernel
theorem dX7_wrongLines_55 : decode cX7_wrongLines 55 = .ok (.iaload, 1) := by decide +kernel
theorem dX7_wrongLines_56 : decode cX7_wrongLines 56 = .ok (.iconst 3, 1) := by decide +kernel
theorem dX7_wrongLines_57 : decode cX7_wrongLines 57 = .ok (.invokestatic 127, 3) := by decide +kernel
theorem dX7_wrongLines_60 : decode cX7_wrongLines 60 = .ok (.ifCond .eq 7, 3) := by decide +kernel
theorem dX7_wrongLines_63 : decode cX7_wrongLines 63 = .ok (.iconst 1, 1) := by decide +kernel
theorem dX7_wrongLines_64 : decode cX7_wrongLines 64 = .ok (.goto 4, 3) := by decide +kernel
theorem dX7_wrongLines_67 : decode cX7_wrongLines 67 = .ok (.iconst 0, 1) := by decide +kernel
theorem dX7_wrongLines_68 : decode cX7_wrongLines 68 = .ok (.iadd, 1) := by decide +kernel
theorem dX7_wrongLines_69 : decode cX7_wrongLines 69 = .ok (.istore_n 2, 1) := by decide +kernel
theorem dX7_wrongLines_70 : decode cX7_wrongLines 70 = .ok (.iinc 3 1, 3) := by decide +kernel
theorem dX7_wrongLines_73 : decode cX7_wrongLines 73 = .ok (.goto (-69), 3) := by decide +kernel
theorem dX7_wrongLines_76 : decode cX7_wrongLines 76 = .ok (.iload_n 2, 1) := by decide +kernel
theorem dX7_wrongLines_77 : decode cX7_wrongLines 77 = .ok (.ireturn, 1) := by decide +kernel
theorem dX7_isAstray_0 : decode cX7_isAstray 0 = .ok (.iload_n 2, 1) := by decide +kernel
theorem dX7_isAstray_1 : decode cX7_isAstray 1 = .ok (.iconst (-1), 1) := by decide +kernel
theorem dX7_isAstray_2 : decode cX7_isAstray 2 = .ok (.if_icmp .eq 26, 3) := by decide +kernel
theorem dX7_isAstray_5 : decode cX7_isAstray 5 = .ok (.aload_n 0, 1) := by decide +kernel
theorem dX7_isAstray_6 : decode cX7_isAstray 6 = .ok (.getfield 84, 3) := by decide +kernel
theorem dX7_isAstray_9 : decode cX7_isAstray 9 = .ok (.iload_n 2, 1) := by decide +kernel
theorem dX7_isAstray_10 : decode cX7_isAstray 10 = .ok (.iaload, 1) := by decide +kernel
theorem dX7_isAstray_11 : decode cX7_isAstray 11 = .ok (.iload_n 1, 1) := by decide +kernel
theorem dX7_isAstray_12 : decode cX7_isAstray 12 = .ok (.if_icmp .ne 12, 3) := by decide +kernel
theorem dX7_isAstray_15 : decode cX7_isAstray 15 = .ok (.aload_n 0, 1) := by decide +kernel
theorem dX7_isAstray_16 : decode cX7_isAstray 16 = .ok (.iload_n 2, 1) := by decide +kernel
theorem dX7_isAstray_17 : decode cX7_isAstray 17 = .ok (.invokevirtual 81, 3) := by decide +kernel
theorem dX7_isAstray_20 : decode cX7_isAstray 20 = .ok (.iload_n 3, 1) := by decide +kernel
theorem dX7_isAstray_21 : decode cX7_isAstray 21 = .ok (.if_icmp .eq 7, 3) := by decide +kernel
theorem dX7_isAstray_24 : decode cX7_isAstray 24 = .ok (.iconst 1, 1) := by decide +kernel
theorem dX7_isAstray_25 : decode cX7_isAstray 25 = .ok (.goto 4, 3) := by decide +kernel
theorem dX7_isAstray_28 : decode cX7_isAstray 28 = .ok (.iconst 0, 1) := by decide +kernel
theorem dX7_isAstray_29 : decode cX7_isAstray 29 = .ok (.ireturn, 1) := by decide +kernel
