theorem dX9_init_0 : decode cX9_init 0 = .ok (.aload_n 0, 1) := by decide +kernel
theorem dX9_init_1 : decode cX9_init 1 = .ok (.invokespecial 3, 3) := by decide +kernel
theorem dX9_init_4 : decode cX9_init 4 = .ok (.aload_n 0, 1) := by decide +kernel
theorem dX9_init_5 : decode cX9_init 5 = .ok (.bipush 19, 2) := by decide +kernel
theorem dX9_init_7 : decode cX9_init 7 = .ok (.newarray .long, 2) := by decide +kernel
theorem dX9_init_9 : decode cX9_init 9 = .ok (.putfield 9, 3) := by decide +kernel
theorem dX9_init_12 : decode cX9_init 12 = .ok (.aload_n 0, 1) := by decide +kernel
theorem dX9_init_13 : decode cX9_init 13 = .ok (.sipush 801, 3) := by decide +kernel
theorem dX9_init_16 : decode cX9_init 16 = .ok (.newarray .int, 2) := by decide +kernel
theorem dX9_init_18 : decode cX9_init 18 = .ok (.putfield 15, 3) := by decide +kernel
theorem dX9_init_21 : decode cX9_init 21 = .ok (.aload_n 0, 1) := by decide +kernel
theorem dX9_init_22 : decode cX9_init 22 = .ok (.sipush 801, 3) := by decide +kernel
theorem dX9_init_25 : decode cX9_init 25 = .ok (.newarray .int, 2) := by decide +kernel
theorem dX9_init_27 : decode cX9_init 27 = .ok (.putfield 19, 3) := by decide +kernel
theorem dX9_init_30 : decode cX9_init 30 = .ok (.aload_n 0, 1) := by decide +kernel
theorem dX9_init_31 : decode cX9_init 31 = .ok (.sipush 801, 3) := by decide +kernel
theorem dX9_init_34 : decode cX9_init 34 = .ok (.newarray .int, 2) := by decide +kernel
theorem dX9_init_36 : decode cX9_init 36 = .ok (.putfield 22, 3) := by decide +kernel
theorem dX9_init_39 : decode cX9_init 39 = .ok (.aload_n 0, 1) := by decide +kernel
theorem dX9_init_40 : decode cX9_init 40 = .ok (.sipush 801, 3) := by decide +kernel
theorem dX9_init_43 : decode cX9_init 43 = .ok (.newarray .long, 2) := by decide +kernel
theorem dX9_init_45 : decode cX9_init 45 = .ok (.putfield 25, 3) := by decide +kernel
theorem dX9_init_48 : decode cX9_init 48 = .ok (.aload_n 0, 1) := by decide +kernel
theorem dX9_init_49 : decode cX9_init 49 = .ok (.iconst (-1), 1) := by decide +kernel
theorem dX9_init_50 : decode cX9_init 50 = .ok (.putfield 28, 3) := by decide +kernel
theorem dX9_init_53 : decode cX9_init 53 = .ok (.aload_n 0, 1) := by decide +kernel
theorem dX9_init_54 : decode cX9_init 54 = .ok (.aload_n 1, 1) := by decide +kernel
theorem dX9_init_55 : decode cX9_init 55 = .ok (.putfield 32, 3) := by decide +kernel
theorem dX9_init_58 : decode cX9_init 58 = .ok (.iconst 0, 1) := by decide +kernel
theorem dX9_init_59 : decode cX9_init 59 = .ok (.istore_n 2, 1) := by decide +kernel
theorem dX9_init_60 : decode cX9_init 60 = .ok (.iconst 0, 1) := by decide +kernel
theorem dX9_init_61 : decode cX9_init 61 = .ok (.istore_n 3, 1) := by decide +kernel
theorem dX9_init_62 : decode cX9_init 62 = .ok (.iconst 0, 1) := by decide +kernel
theorem dX9_init_63 : decode cX9_init 63 = .ok (.istore 4, 2) := by decide +kernel
theorem dX9_init_65 : decode cX9_init 65 = .ok (.iload 4, 2) := by decide +kernel
theorem dX9_init_67 : decode cX9_init 67 = .ok (.ldc 36, 2) := by decide +kernel
theorem dX9_init_69 : decode cX9_init 69 = .ok (.invokevirtual 38, 3) := by decide +kernel
theorem dX9_init_72 : decode cX9_init 72 = .ok (.if_icmp .ge 58, 3) := by decide +kernel
theorem dX9_init_75 : decode cX9_init 75 = .ok (.iload_n 2, 1) := by decide +kernel
theorem dX9_init_76 : decode cX9_init 76 = .ok (.bipush 19, 2) := by decide +kernel
theorem dX9_init_78 : decode cX9_init 78 = .ok (.if_icmp .ge 52, 3) := by decide +kernel
theorem dX9_init_81 : decode cX9_init 81 = .ok (.ldc 36, 2) := by decide +kernel
theorem dX9_init_83 : decode cX9_init 83 = .ok (.iload 4, 2) := by decide +kernel
theorem dX9_init_85 : decode cX9_init 85 = .ok (.invokevirtual 44, 3) := by decide +kernel
theorem dX9_init_88 : decode cX9_init 88 = .ok (.bipush 32, 2) := by decide +kernel
theorem dX9_init_90 : decode cX9_init 90 = .ok (.if_icmp .ne 11, 3) := by decide +kernel
theorem dX9_init_93 : decode cX9_init 93 = .ok (.iinc 2 1, 3) := by decide +kernel
theorem dX9_init_96 : decode cX9_init 96 = .ok (.iconst 0, 1) := by decide +kernel
theorem dX9_init_97 : decode cX9_init 97 = .ok (.istore_n 3, 1) := by decide +kernel
theorem dX9_init_98 : decode cX9_init 98 = .ok (.goto 26, 3) := by decide +kernel
theorem dX9_init_101 : decode cX9_init 101 = .ok (.aload_n 0, 1) := by decide +kernel
theorem dX9_init_102 : decode cX9_init 102 = .ok (.getfield 9, 3) := by decide +kernel
theorem dX9_init_105 : decode cX9_init 105 = .ok (.iload_n 2, 1) := by decide +kernel
theorem dX9_init_106 : decode cX9_init 106 = .ok (.dup2, 1) := by decide +kernel
theorem dX9_init_107 : decode cX9_init 107 = .ok (.laload, 1) := by decide +kernel
theorem dX9_init_108 : decode cX9_init 108 = .ok (.ldc 36, 2) := by decide +kernel
theorem dX9_init_110 : decode cX9_init 110 = .ok (.iload 4, 2) := by decide +kernel
theorem dX9_init_112 : decode cX9_init 112 = .ok (.invokevirtual 44, 3) := by decide +kernel
theorem dX9_init_115 : decode cX9_init 115 = .ok (.iload_n 3, 1) := by decide +kernel
theorem dX9_init_116 : decode cX9_init 116 = .ok (.invokestatic 48, 3) := by decide +kernel
theorem dX9_init_119 : decode cX9_init 119 = .ok (.lor, 1) := by decide +kernel
theorem dX9_init_120 : decode cX9_init 120 = .ok (.lastore, 1) := by decide +kernel
theorem dX9_init_121 : decode cX9_init 121 = .ok (.iinc 3 1, 3) := by decide +kernel
theorem dX9_init_124 : decode cX9_init 124 = .ok (.iinc 4 1, 3) := by decide +kernel
theorem dX9_init_127 : decode cX9_init 127 = .ok (.goto (-62), 3) := by decide +kernel
theorem dX9_init_130 : decode cX9_init 130 = .ok (.return_, 1) := by decide +kernel
theorem dX9_packed_0 : decode cX9_packed 0 = .ok (.iload_n 1, 1) := by decide +kernel
theorem dX9_packed_1 : decode cX9_packed 1 = .ok (.bipush 7, 2) := by decide +kernel
theorem dX9_packed_3 : decode cX9_packed 3 = .ok (.if_icmp .ge 7, 3) := by decide +kernel
theorem dX9_packed_6 : decode cX9_packed 6 = .ok (.iconst 1, 1) := by decide +kernel
theorem dX9_packed_7 : decode cX9_packed 7 = .ok (.goto 4, 3) := by decide +kernel
theorem dX9_packed_10 : decode cX9_packed 10 = .ok (.iconst 0, 1) := by decide +kernel
theorem dX9_packed_11 : decode cX9_packed 11 = .ok (.istore_n 2, 1) := by decide +kernel
theorem dX9_packed_12 : decode cX9_packed 12 = .ok (.iload_n 2, 1) := by decide +kernel
theorem dX9_packed_13 : decode cX9_packed 13 = .ok (.ifCond .eq 20, 3) := by decide +kernel
theorem dX9_packed_16 : decode cX9_packed 16 = .ok (.iload_n 0, 1) := by decide +kernel
theorem dX9_packed_17 : decode cX9_packed 17 = .ok (.bipush 97, 2) := by decide +kernel
theorem dX9_packed_19 : decode cX9_packed 19 = .ok (.isub, 1) := by decide +kernel
theorem dX9_packed_20 : decode cX9_packed 20 = .ok (.iconst 1, 1) := by decide +kernel
theorem dX9_packed_21 : decode cX9_packed 21 = .ok (.iadd, 1) := by decide +kernel
theorem dX9_packed_22 : decode cX9_packed 22 = .ok (.i2l, 1) := by decide +kernel
theorem dX9_packed_23 : decode cX9_packed 23 = .ok (.iconst 5, 1) := by decide +kernel
theorem dX9_packed_24 : decode cX9_packed 24 = .ok (.bipush 6, 2) := by decide +kernel
theorem dX9_packed_26 : decode cX9_packed 26 = .ok (.iload_n 1, 1) := by decide +kernel
theorem dX9_packed_27 : decode cX9_packed 27 = .ok (.isub, 1) := by decide +kernel
theorem dX9_packed_28 : decode cX9_packed 28 = .ok (.imul, 1) := by decide +kernel
theorem dX9_packed_29 : decode cX9_packed 29 = .ok (.lshl, 1) := by decide +kernel
theorem dX9_packed_30 : decode cX9_packed 30 = .ok (.goto 4, 3) := by decide +kernel
theorem dX9_packed_33 : decode cX9_packed 33 = .ok (.lconst 0, 1) := by decide +kernel
theorem dX9_packed_34 : decode cX9_packed 34 = .ok (.lreturn, 1) := by decide +kernel
theorem dX9_open_0 : decode cX9_open 0 = .ok (.aload_n 0, 1) := by decide +kernel
theorem dX9_open_1 : decode cX9_open 1 = .ok (.iload_n 1, 1) := by decide +kernel
theorem dX9_open_2 : decode cX9_open 2 = .ok (.iconst 0, 1) := by decide +kernel
theorem dX9_open_3 : decode cX9_open 3 = .ok (.invokestatic 52, 3) := by decide +kernel
theorem dX9_open_6 : decode cX9_open 6 = .ok (.aload_n 0, 1) := by decide +kernel
theorem dX9_open_7 : decode cX9_open 7 = .ok (.getfield 32, 3) := by decide +kernel
theorem dX9_open_10 : decode cX9_open 10 = .ok (.arraylength, 1) := by decide +kernel
theorem dX9_open_11 : decode cX9_open 11 = .ok (.invokestatic 58, 3) := by decide +kernel
theorem dX9_open_14 : decode cX9_open 14 = .ok (.putfield 61, 3) := by decide +kernel
theorem dX9_open_17 : decode cX9_open 17 = .ok (.aload_n 0, 1) := by decide +kernel
theorem dX9_open_18 : decode cX9_open 18 = .ok (.iconst 0, 1) := by decide +kernel
theorem dX9_open_19 : decode cX9_open 19 = .ok (.putfield 63, 3) := by decide +kernel
theorem dX9_open_22 : decode cX9_open 22 = .ok (.aload_n 0, 1) := by decide +kernel
theorem dX9_open_23 : decode cX9_open 23 = .ok (.iconst 0, 1) := by decide +kernel
theorem dX9_open_24 : decode cX9_open 24 = .ok (.putfield 66, 3) := by decide +kernel
theorem dX9_open_27 : decode cX9_open 27 = .ok (.aload_n 0, 1) := by decide +kernel
theorem dX9_open_28 : decode cX9_open 28 = .ok (.iconst (-1), 1) := by decide +kernel
theorem dX9_open_29 : decode cX9_open 29 = .ok (.putfield 28, 3) := by decide +kernel
theorem dX9_open_32 : decode cX9_open 32 = .ok (.iconst 3, 1) := by decide +kernel
theorem dX9_open_33 : decode cX9_open 33 = .ok (.istore_n 2, 1) := by decide +kernel
theorem dX9_open_34 : decode cX9_open 34 = .ok (.iconst 0, 1) := by decide +kernel
theorem dX9_open_35 : decode cX9_open 35 = .ok (.istore_n 3, 1) := by decide +kernel
theorem dX9_open_36 : decode cX9_open 36 = .ok (.iload_n 3, 1) := by decide +kernel
theorem dX9_open_37 : decode cX9_open 37 = .ok (.sipush 800, 3) := by decide +kernel
theorem dX9_open_40 : decode cX9_open 40 = .ok (.if_icmp .gt 24, 3) := by decide +kernel
theorem dX9_open_43 : decode cX9_open 43 = .ok (.iload_n 2, 1) := by decide +kernel
theorem dX9_open_44 : decode cX9_open 44 = .ok (.ifCond .eq 20, 3) := by decide +kernel
theorem dX9_open_47 : decode cX9_open 47 = .ok (.iload_n 2, 1) := by decide +kernel
theorem dX9_open_48 : decode cX9_open 48 = .ok (.iconst 4, 1) := by decide +kernel
theorem dX9_open_49 : decode cX9_open 49 = .ok (.if_icmp .eq 15, 3) := by decide +kernel
theorem dX9_open_52 : decode cX9_open 52 = .ok (.aload_n 0, 1) := by decide +kernel
theorem dX9_open_53 : decode cX9_open 53 = .ok (.iload_n 3, 1) := by decide +kernel
theorem dX9_open_54 : decode cX9_open 54 = .ok (.invokevirtual 69, 3) := by decide +kernel
theorem dX9_open_57 : decode cX9_open 57 = .ok (.istore_n 2, 1) := by decide +kernel
theorem dX9_open_58 : decode cX9_open 58 = .ok (.iinc 3 1, 3) := by decide +kernel
theorem dX9_open_61 : decode cX9_open 61 = .ok (.goto (-25), 3) := by decide +kernel
theorem dX9_open_64 : decode cX9_open 64 = .ok (.aload_n 0, 1) := by decide +kernel
theorem dX9_open_65 : decode cX9_open 65 = .ok (.iconst 0, 1) := by decide +kernel
theorem dX9_open_66 : decode cX9_open 66 = .ok (.putfield 73, 3) := by decide +kernel
theorem dX9_open_69 : decode cX9_open 69 = .ok (.aload_n 0, 1) := by decide +kernel
theorem dX9_open_70 : decode cX9_open 70 = .ok (.invokevirtual 76, 3) := by decide +kernel
theorem dX9_open_73 : decode cX9_open 73 = .ok (.return_, 1) := by decide +kernel
theorem dX9_split_0 : decode cX9_split 0 = .ok (.aload_n 0, 1) := by decide +kernel
theorem dX9_split_1 : decode cX9_split 1 = .ok (.getfield 63, 3) := by decide +kernel
theorem dX9_split_4 : decode cX9_split 4 = .ok (.aload_n 0, 1) := by decide +kernel
theorem dX9_split_5 : decode cX9_split 5 = .ok (.getfield 61, 3) := by decide +kernel
theorem dX9_split_8 : decode cX9_split 8 = .ok (.if_icmp .ge 31, 3) := by decide +kernel
theorem dX9_split_11 : decode cX9_split 11 = .ok (.aload_n 0, 1) := by decide +kernel
theorem dX9_split_12 : decode cX9_split 12 = .ok (.getfield 32, 3) := by decide +kernel
theorem dX9_split_15 : decode cX9_split 15 = .ok (.aload_n 0, 1) := by decide +kernel
theorem dX9_split_16 : decode cX9_split 16 = .ok (.getfield 63, 3) := by decide +kernel
theorem dX9_split_19 : decode cX9_split 19 = .ok (.baload, 1) := by decide +kernel
theorem dX9_split_20 : decode cX9_split 20 = .ok (.invokestatic 79, 3) := by decide +kernel
theorem dX9_split_23 : decode cX9_split 23 = .ok (.ifCond .eq 16, 3) := by decide +kernel
theorem dX9_split_26 : decode cX9_split 26 = .ok (.aload_n 0, 1) := by decide +kernel
theorem dX9_split_27 : decode cX9_split 27 = .ok (.dup, 1) := by decide +kernel
theorem dX9_split_28 : decode cX9_split 28 = .ok (.getfield 63, 3) := by decide +kernel
theorem dX9_split_31 : decode cX9_split 31 = .ok (.iconst 1, 1) := by decide +kernel
theorem dX9_split_32 : decode cX9_split 32 = .ok (.iadd, 1) := by decide +kernel
theorem dX9_split_33 : decode cX9_split 33 = .ok (.putfield 63, 3) := by decide +kernel
theorem dX9_split_36 : decode cX9_split 36 = .ok (.goto (-36), 3) := by decide +kernel
theorem dX9_split_39 : decode cX9_split 39 = .ok (.aload_n 0, 1) := by decide +kernel
theorem dX9_split_40 : decode cX9_split 40 = .ok (.getfield 19, 3) := by decide +kernel
theorem dX9_split_43 : decode cX9_split 43 = .ok (.iload_n 1, 1) := by decide +kernel
theorem dX9_split_44 : decode cX9_split 44 = .ok (.aload_n 0, 1) := by decide +kernel
theorem dX9_split_45 : decode cX9_split 45 = .ok (.getfield 63, 3) := by decide +kernel
theorem dX9_split_48 : decode cX9_split 48 = .ok (.iastore, 1) := by decide +kernel
theorem dX9_split_49 : decode cX9_split 49 = .ok (.aload_n 0, 1) := by decide +kernel
theorem dX9_split_50 : decode cX9_split 50 = .ok (.getfield 63, 3) := by decide +kernel
theorem dX9_split_53 : decode cX9_split 53 = .ok (.aload_n 0, 1) := by decide +kernel
theorem dX9_split_54 : decode cX9_split 54 = .ok (.getfield 61, 3) := by decide +kernel
theorem dX9_split_57 : decode cX9_split 57 = .ok (.if_icmp .lt 13, 3) := by decide +kernel
theorem dX9_split_60 : decode cX9_split 60 = .ok (.aload_n 0, 1) := by decide +kernel
theorem dX9_split_61 : decode cX9_split 61 = .ok (.getfield 15, 3) := by decide +kernel
theorem dX9_split_64 : decode cX9_split 64 = .ok (.iload_n 1, 1) := by decide +kernel
theorem dX9_split_65 : decode cX9_split 65 = .ok (.iconst 0, 1) := by decide +kernel
theorem dX9_split_66 : decode cX9_split 66 = .ok (.iastore, 1) := by decide +kernel
theorem dX9_split_67 : decode cX9_split 67 = .ok (.goto 84, 3) := by decide +kernel
theorem dX9_split_70 : decode cX9_split 70 = .ok (.aload_n 0, 1) := by decide +kernel
theorem dX9_split_71 : decode cX9_split 71 = .ok (.getfield 32, 3) := by decide +kernel
theorem dX9_split_74 : decode cX9_split 74 = .ok (.aload_n 0, 1) := by decide +kernel
theorem dX9_split_75 : decode cX9_split 75 = .ok (.getfield 63, 3) := by decide +kernel
theorem dX9_split_78 : decode cX9_split 78 = .ok (.baload, 1) := by decide +kernel
theorem dX9_split_79 : decode cX9_split 79 = .ok (.invokestatic 83, 3) := by decide +kernel
theorem dX9_split_82 : decode cX9_split 82 = .ok (.ifCond .eq 11, 3) := by decide +kernel
theorem dX9_split_85 : decode cX9_split 85 = .ok (.aload_n 0, 1) := by decide +kernel
theorem dX9_split_86 : decode cX9_split 86 = .ok (.iload_n 1, 1) := by decide +kernel
theorem dX9_split_87 : decode cX9_split 87 = .ok (.invokevirtual 86, 3) := by decide +kernel
theorem dX9_split_90 : decode cX9_split 90 = .ok (.goto 61, 3) := by decide +kernel
theorem dX9_split_93 : decode cX9_split 93 = .ok (.aload_n 0, 1) := by decide +kernel
theorem dX9_split_94 : decode cX9_split 94 = .ok (.getfield 32, 3) := by decide +kernel
theorem dX9_split_97 : decode cX9_split 97 = .ok (.aload_n 0, 1) := by decide +kernel
theorem dX9_split_98 : decode cX9_split 98 = .ok (.getfield 63, 3) := by decide +kernel
theorem dX9_split_101 : decode cX9_split 101 = .ok (.baload, 1) := by decide +kernel
theorem dX9_split_102 : decode cX9_split 102 = .ok (.invokestatic 90, 3) := by decide +kernel
theorem dX9_split_105 : decode cX9_split 105 = .ok (.ifCond .eq 11, 3) := by decide +kernel
theorem dX9_split_108 : decode cX9_split 108 = .ok (.aload_n 0, 1) := by decide +kernel
theorem dX9_split_109 : decode cX9_split 109 = .ok (.iload_n 1, 1) := by decide +kernel
theorem dX9_split_110 : decode cX9_split 110 = .ok (.invokevirtual 93, 3) := by decide +kernel
theorem dX9_split_113 : decode cX9_split 113 = .ok (.goto 38, 3) := by decide +kernel
theorem dX9_split_116 : decode cX9_split 116 = .ok (.aload_n 0, 1) := by decide +kernel
theorem dX9_split_117 : decode cX9_split 117 = .ok (.getfield 15, 3) := by decide +kernel
theorem dX9_split_120 : decode cX9_split 120 = .ok (.iload_n 1, 1) := by decide +kernel
theorem dX9_split_121 : decode cX9_split 121 = .ok (.aload_n 0, 1) := by decide +kernel
theorem dX9_split_122 : decode cX9_split 122 = .ok (.getfield 32, 3) := by decide +kernel
theorem dX9_split_125 : decode cX9_split 125 = .ok (.aload_n 0, 1) := by decide +kernel
theorem dX9_split_126 : decode cX9_split 126 = .ok (.getfield 63, 3) := by decide +kernel
theorem dX9_split_129 : decode cX9_split 129 = .ok (.baload, 1) := by decide +kernel
theorem dX9_split_130 : decode cX9_split 130 = .ok (.bipush 59, 2) := by decide +kernel
theorem dX9_split_132 : decode cX9_split 132 = .ok (.if_icmp .ne 7, 3) := by decide +kernel
theorem dX9_split_135 : decode cX9_split 135 = .ok (.iconst 3, 1) := by decide +kernel
theorem dX9_split_136 : decode cX9_split 136 = .ok (.goto 4, 3) := by decide +kernel
theorem dX9_split_139 : decode cX9_split 139 = .ok (.iconst 4, 1) := by decide +kernel
theorem dX9_split_140 : decode cX9_split 140 = .ok (.iastore, 1) := by decide +kernel
theorem dX9_split_141 : decode cX9_split 141 = .ok (.aload_n 0, 1) := by decide +kernel
theorem dX9_split_142 : decode cX9_split 142 = .ok (.dup, 1) := by decide +kernel
theorem dX9_split_143 : decode cX9_split 143 = .ok (.getfield 63, 3) := by decide +kernel
theorem dX9_split_146 : decode cX9_split 146 = .ok (.iconst 1, 1) := by decide +kernel
theorem dX9_split_147 : decode cX9_split 147 = .ok (.iadd, 1) := by decide +kernel
theorem dX9_split_148 : decode cX9_split 148 = .ok (.putfield 63, 3) := by decide +kernel
theorem dX9_split_151 : decode cX9_split 151 = .ok (.aload_n 0, 1) := by decide +kernel
theorem dX9_split_152 : decode cX9_split 152 = .ok (.getfield 15, 3) := by decide +kernel
theorem dX9_split_155 : decode cX9_split 155 = .ok (.iload_n 1, 1) := by decide +kernel
theorem dX9_split_156 : decode cX9_split 156 = .ok (.iaload, 1) := by decide +kernel
theorem dX9_split_157 : decode cX9_split 157 = .ok (.ireturn, 1) := by decide +kernel
theorem dX9_splitWord_0 : decode cX9_splitWord 0 = .ok (.iconst 0, 1) := by decide +kernel
theorem dX9_splitWord_1 : decode cX9_splitWord 1 = .ok (.istore_n 2, 1) := by decide +kernel
theorem dX9_splitWord_2 : decode cX9_splitWord 2 = .ok (.lconst 0, 1) := by decide +kernel
theorem dX9_splitWord_3 : decode cX9_splitWord 3 = .ok (.lstore_n 3, 1) := by decide +kernel
theorem dX9_splitWord_4 : decode cX9_splitWord 4 = .ok (.aload_n 0, 1) := by decide +kernel
theorem dX9_splitWord_5 : decode cX9_splitWord 5 = .ok (.getfield 63, 3) := by decide +kernel
theorem dX9_splitWord_8 : decode cX9_splitWord 8 = .ok (.aload_n 0, 1) := by decide +kernel
theorem dX9_splitWord_9 : decode cX9_splitWord 9 = .ok (.getfield 61, 3) := by decide +kernel
theorem dX9_splitWord_12 : decode cX9_splitWord 12 = .ok (.if_icmp .ge 50, 3) := by decide +kernel
theorem dX9_splitWord_15 : decode cX9_splitWord 15 = .ok (.aload_n 0, 1) := by decide +kernel
theorem dX9_splitWord_16 : decode cX9_splitWord 16 = .ok (.getfield 32, 3) := by decide +kernel
theorem dX9_splitWord_19 : decode cX9_splitWord 19 = .ok (.aload_n 0, 1) := by decide +kernel
theorem dX9_splitWord_20 : decode cX9_splitWord 20 = .ok (.getfield 63, 3) := by decide +kernel
theorem dX9_splitWord_23 : decode cX9_splitWord 23 = .ok (.baload, 1) := by decide +kernel
theorem dX9_splitWord_24 : decode cX9_splitWord 24 = .ok (.invokestatic 83, 3) := by decide +kernel
theorem dX9_splitWord_27 : decode cX9_splitWord 27 = .ok (.ifCond .eq 35, 3) := by decide +kernel
theorem dX9_splitWord_30 : decode cX9_splitWord 30 = .ok (.lload_n 3, 1) := by decide +kernel
theorem dX9_splitWord_31 : decode cX9_splitWord 31 = .ok (.aload_n 0, 1) := by decide +kernel
theorem dX9_splitWord_32 : decode cX9_splitWord 32 = .ok (.getfield 32, 3) := by decide +kernel
theorem dX9_splitWord_35 : decode cX9_splitWord 35 = .ok (.aload_n 0, 1) := by decide +kernel
theorem dX9_splitWord_36 : decode cX9_splitWord 36 = .ok (.getfield 63, 3) := by decide +kernel
theorem dX9_splitWord_39 : decode cX9_splitWord 39 = .ok (.baload, 1) := by decide +kernel
theorem dX9_splitWord_40 : decode cX9_splitWord 40 = .ok (.iload_n 2, 1) := by decide +kernel
theorem dX9_splitWord_41 : decode cX9_splitWord 41 = .ok (.invokestatic 48, 3) := by decide +kernel
theorem dX9_splitWord_44 : decode cX9_splitWord 44 = .ok (.lor, 1) := by decide +kernel
theorem dX9_splitWord_45 : decode cX9_splitWord 45 = .ok (.lstore_n 3, 1) := by decide +kernel
theorem dX9_splitWord_46 : decode cX9_splitWord 46 = .ok (.iinc 2 1, 3) := by decide +kernel
theorem dX9_splitWord_49 : decode cX9_splitWord 49 = .ok (.aload_n 0, 1) := by decide +kernel
theorem dX9_splitWord_50 : decode cX9_splitWord 50 = .ok (.dup, 1) := by decide +kernel
theorem dX9_splitWord_51 : decode cX9_splitWord 51 = .ok (.getfield 63, 3) := by decide +kernel
theorem dX9_splitWord_54 : decode cX9_splitWord 54 = .ok (.iconst 1, 1) := by decide +kernel
theorem dX9_splitWord_55 : decode cX9_splitWord 55 = .ok (.iadd, 1) := by decide +kernel
theorem dX9_splitWord_56 : decode cX9_splitWord 56 = .ok (.putfield 63, 3) := by decide +kernel
theorem dX9_splitWord_59 : decode cX9_splitWord 59 = .ok (.goto (-55), 3) := by decide +kernel
theorem dX9_splitWord_62 : decode cX9_splitWord 62 = .ok (.aload_n 0, 1) := by decide +kernel
theorem dX9_splitWord_63 : decode cX9_splitWord 63 = .ok (.getfield 15, 3) := by decide +kernel
theorem dX9_splitWord_66 : decode cX9_splitWord 66 = .ok (.iload_n 1, 1) := by decide +kernel
theorem dX9_splitWord_67 : decode cX9_splitWord 67 = .ok (.iload_n 2, 1) := by decide +kernel
theorem dX9_splitWord_68 : decode cX9_splitWord 68 = .ok (.bipush 8, 2) := by decide +kernel
theorem dX9_splitWord_70 : decode cX9_splitWord 70 = .ok (.if_icmp .gt 7, 3) := by decide +kernel
theorem dX9_splitWord_73 : decode cX9_splitWord 73 = .ok (.iconst 1, 1) := by decide +kernel
theorem dX9_splitWord_74 : decode cX9_splitWord 74 = .ok (.goto 4, 3) := by decide +kernel
theorem dX9_splitWord_77 : decode cX9_splitWord 77 = .ok (.iconst 4, 1) := by decide +kernel
theorem dX9_splitWord_78 : decode cX9_splitWord 78 = .ok (.iastore, 1) := by decide +kernel
theorem dX9_splitWord_79 : decode cX9_splitWord 79 = .ok (.aload_n 0, 1) := by decide +kernel
theorem dX9_splitWord_80 : decode cX9_splitWord 80 = .ok (.getfield 22, 3) := by decide +kernel
theorem dX9_splitWord_83 : decode cX9_splitWord 83 = .ok (.iload_n 1, 1) := by decide +kernel
theorem dX9_splitWord_84 : decode cX9_splitWord 84 = .ok (.iload_n 2, 1) := by decide +kernel
theorem dX9_splitWord_85 : decode cX9_splitWord 85 = .ok (.iastore, 1) := by decide +kernel
theorem dX9_splitWord_86 : decode cX9_splitWord 86 = .ok (.aload_n 0, 1) := by decide +kernel
theorem dX9_splitWord_87 : decode cX9_splitWord 87 = .ok (.getfield 25, 3) := by decide +kernel
theorem dX9_splitWord_90 : decode cX9_splitWord 90 = .ok (.iload_n 1, 1) := by decide +kernel
theorem dX9_splitWord_91 : decode cX9_splitWord 91 = .ok (.lload_n 3, 1) := by decide +kernel
theorem dX9_splitWord_92 : decode cX9_splitWord 92 = .ok (.lastore, 1) := by decide +kernel
theorem dX9_splitWord_93 : decode cX9_splitWord 93 = .ok (.return_, 1) := by decide +kernel
theorem dX9_splitNumber_0 : decode cX9_splitNumber 0 = .ok (.iconst 0, 1) := by decide +kernel
theorem dX9_splitNumber_1 : decode cX9_splitNumber 1 = .ok (.istore_n 2, 1) := by decide +kernel
theorem dX9_splitNumber_2 : decode cX9_splitNumber 2 = .ok (.iconst 0, 1) := by decide +kernel
theorem dX9_splitNumber_3 : decode cX9_splitNumber 3 = .ok (.istore_n 3, 1) := by decide +kernel
theorem dX9_splitNumber_4 : decode cX9_splitNumber 4 = .ok (.aload_n 0, 1) := by decide +kernel
theorem dX9_splitNumber_5 : decode cX9_splitNumber 5 = .ok (.getfield 63, 3) := by decide +kernel
theorem dX9_splitNumber_8 : decode cX9_splitNumber 8 = .ok (.aload_n 0, 1) := by decide +kernel
theorem dX9_splitNumber_9 : decode cX9_splitNumber 9 = .ok (.getfield 61, 3) := by decide +kernel
theorem dX9_splitNumber_12 : decode cX9_splitNumber 12 = .ok (.if_icmp .ge 61, 3) := by decide +kernel
theorem dX9_splitNumber_15 : decode cX9_splitNumber 15 = .ok (.aload_n 0, 1) := by decide +kernel
theorem dX9_splitNumber_16 : decode cX9_splitNumber 16 = .ok (.getfield 32, 3) := by decide +kernel
theorem dX9_splitNumber_19 : decode cX9_splitNumber 19 = .ok (.aload_n 0, 1) := by decide +kernel
theorem dX9_splitNumber_20 : decode cX9_splitNumber 20 = .ok (.getfield 63, 3) := by decide +kernel
theorem dX9_splitNumber_23 : decode cX9_splitNumber 23 = .ok (.baload, 1) := by decide +kernel
theorem dX9_splitNumber_24 : decode cX9_splitNumber 24 = .ok (.invokestatic 90, 3) := by decide +kernel
theorem dX9_splitNumber_27 : decode cX9_splitNumber 27 = .ok (.ifCond .eq 46, 3) := by decide +kernel
theorem dX9_splitNumber_30 : decode cX9_splitNumber 30 = .ok (.iload_n 2, 1) := by decide +kernel
theorem dX9_splitNumber_31 : decode cX9_splitNumber 31 = .ok (.iconst 3, 1) := by decide +kernel
theorem dX9_splitNumber_32 : decode cX9_splitNumber 32 = .ok (.if_icmp .ge 23, 3) := by decide +kernel
theorem dX9_splitNumber_35 : decode cX9_splitNumber 35 = .ok (.iload_n 3, 1) := by decide +kernel
theorem dX9_splitNumber_36 : decode cX9_splitNumber 36 = .ok (.bipush 10, 2) := by decide +kernel
theorem dX9_splitNumber_38 : decode cX9_splitNumber 38 = .ok (.imul, 1) := by decide +kernel
theorem dX9_splitNumber_39 : decode cX9_splitNumber 39 = .ok (.aload_n 0, 1) := by decide +kernel
theorem dX9_splitNumber_40 : decode cX9_splitNumber 40 = .ok (.getfield 32, 3) := by decide +kernel
theorem dX9_splitNumber_43 : decode cX9_splitNumber 43 = .ok (.aload_n 0, 1) := by decide +kernel
theorem dX9_splitNumber_44 : decode cX9_splitNumber 44 = .ok (.getfield 63, 3) := by decide +kernel
theorem dX9_splitNumber_47 : decode cX9_splitNumber 47 = .ok (.baload, 1) := by decide +kernel
theorem dX9_splitNumber_48 : decode cX9_splitNumber 48 = .ok (.iadd, 1) := by decide +kernel
theorem dX9_splitNumber_49 : decode cX9_splitNumber 49 = .ok (.bipush 48, 2) := by decide +kernel
theorem dX9_splitNumber_51 : decode cX9_splitNumber 51 = .ok (.isub, 1) := by decide +kernel
theorem dX9_splitNumber_52 : decode cX9_splitNumber 52 = .ok (.goto 4, 3) := by decide +kernel
theorem dX9_splitNumber_55 : decode cX9_splitNumber 55 = .ok (.iload_n 3, 1) := by decide +kernel
theorem dX9_splitNumber_56 : decode cX9_splitNumber 56 = .ok (.istore_n 3, 1) := by decide +kernel
theorem dX9_splitNumber_57 : decode cX9_splitNumber 57 = .ok (.iinc 2 1, 3) := by decide +kernel
theorem dX9_splitNumber_60 : decode cX9_splitNumber 60 = .ok (.aload_n 0, 1) := by decide +kernel
theorem dX9_splitNumber_61 : decode cX9_splitNumber 61 = .ok (.dup, 1) := by decide +kernel
theorem dX9_splitNumber_62 : decode cX9_splitNumber 62 = .ok (.getfield 63, 3) := by decide +kernel
theorem dX9_splitNumber_65 : decode cX9_splitNumber 65 = .ok (.iconst 1, 1) := by decide +kernel
theorem dX9_splitNumber_66 : decode cX9_splitNumber 66 = .ok (.iadd, 1) := by decide +kernel
theorem dX9_splitNumber_67 : decode cX9_splitNumber 67 = .ok (.putfield 63, 3) := by decide +kernel
theorem dX9_splitNumber_70 : decode cX9_splitNumber 70 = .ok (.goto (-66), 3) := by decide +kernel
theorem dX9_splitNumber_73 : decode cX9_splitNumber 73 = .ok (.aload_n 0, 1) := by decide +kernel
theorem dX9_splitNumber_74 : decode cX9_splitNumber 74 = .ok (.getfield 63, 3) := by decide +kernel
theorem dX9_splitNumber_77 : decode cX9_splitNumber 77 = .ok (.aload_n 0, 1) := by decide +kernel
theorem dX9_splitNumber_78 : decode cX9_splitNumber 78 = .ok (.getfield 61, 3) := by decide +kernel
theorem dX9_splitNumber_81 : decode cX9_splitNumber 81 = .ok (.if_icmp .ge 22, 3) := by decide +kernel
theorem dX9_splitNumber_84 : decode cX9_splitNumber 84 = .ok (.aload_n 0, 1) := by decide +kernel
theorem dX9_splitNumber_85 : decode cX9_splitNumber 85 = .ok (.getfield 32, 3) := by decide +kernel
theorem dX9_splitNumber_88 : decode cX9_splitNumber 88 = .ok (.aload_n 0, 1) := by decide +kernel
theorem dX9_splitNumber_89 : decode cX9_splitNumber 89 = .ok (.getfield 63, 3) := by decide +kernel
theorem dX9_splitNumber_92 : decode cX9_splitNumber 92 = .ok (.baload, 1) := by decide +kernel
theorem dX9_splitNumber_93 : decode cX9_splitNumber 93 = .ok (.invokestatic 83, 3) := by decide +kernel
theorem dX9_splitNumber_96 : decode cX9_splitNumber 96 = .ok (.ifCond .eq 7, 3) := by decide +kernel
theorem dX9_splitNumber_99 : decode cX9_splitNumber 99 = .ok (.iconst 1, 1) := by decide +kernel
theorem dX9_splitNumber_100 : decode cX9_splitNumber 100 = .ok (.goto 4, 3) := by decide +kernel
theorem dX9_splitNumber_103 : decode cX9_splitNumber 103 = .ok (.iconst 0, 1) := by decide +kernel
theorem dX9_splitNumber_104 : decode cX9_splitNumber 104 = .ok (.istore 4, 2) := by decide +kernel
theorem dX9_splitNumber_106 : decode cX9_splitNumber 106 = .ok (.aload_n 0, 1) := by decide +kernel
theorem dX9_splitNumber_107 : decode cX9_splitNumber 107 = .ok (.getfield 15, 3) := by decide +kernel
theorem dX9_splitNumber_110 : decode cX9_splitNumber 110 = .ok (.iload_n 1, 1) := by decide +kernel
theorem dX9_splitNumber_111 : decode cX9_splitNumber 111 = .ok (.iload_n 2, 1) := by decide +kernel
theorem dX9_splitNumber_112 : decode cX9_splitNumber 112 = .ok (.iconst 3, 1) := by decide +kernel
theorem dX9_splitNumber_113 : decode cX9_splitNumber 113 = .ok (.if_icmp .gt 12, 3) := by decide +kernel
theorem dX9_splitNumber_116 : decode cX9_splitNumber 116 = .ok (.iload 4, 2) := by decide +kernel
theorem dX9_splitNumber_118 : decode cX9_splitNumber 118 = .ok (.ifCond .ne 7, 3) := by decide +kernel
theorem dX9_splitNumber_121 : decode cX9_splitNumber 121 = .ok (.iconst 2, 1) := by decide +kernel
theorem dX9_splitNumber_122 : decode cX9_splitNumber 122 = .ok (.goto 4, 3) := by decide +kernel
theorem dX9_splitNumber_125 : decode cX9_splitNumber 125 = .ok (.iconst 4, 1) := by decide +kernel
theorem dX9_splitNumber_126 : decode cX9_splitNumber 126 = .ok (.iastore, 1) := by decide +kernel
theorem dX9_splitNumber_127 : decode cX9_splitNumber 127 = .ok (.aload_n 0, 1) := by decide +kernel
theorem dX9_splitNumber_128 : decode cX9_splitNumber 128 = .ok (.getfield 22, 3) := by decide +kernel
theorem dX9_splitNumber_131 : decode cX9_splitNumber 131 = .ok (.iload_n 1, 1) := by decide +kernel
theorem dX9_splitNumber_132 : decode cX9_splitNumber 132 = .ok (.iload_n 2, 1) := by decide +kernel
theorem dX9_splitNumber_133 : decode cX9_splitNumber 133 = .ok (.iastore, 1) := by decide +kernel
theorem dX9_splitNumber_134 : decode cX9_splitNumber 134 = .ok (.aload_n 0, 1) := by decide +kernel
theorem dX9_splitNumber_135 : decode cX9_splitNumber 135 = .ok (.getfield 25, 3) := by decide +kernel
theorem dX9_splitNumber_138 : decode cX9_splitNumber 138 = .ok (.iload_n 1, 1) := by decide +kernel
theorem dX9_splitNumber_139 : decode cX9_splitNumber 139 = .ok (.iload_n 3, 1) := by decide +kernel
theorem dX9_splitNumber_140 : decode cX9_splitNumber 140 = .ok (.i2l, 1) := by decide +kernel
theorem dX9_splitNumber_141 : decode cX9_splitNumber 141 = .ok (.lastore, 1) := by decide +kernel
theorem dX9_splitNumber_142 : decode cX9_splitNumber 142 = .ok (.return_, 1) := by decide +kernel
theorem dX9_advance_0 : decode cX9_advance 0 = .ok (.aload_n 0, 1) := by decide +kernel
theorem dX9_advance_1 : decode cX9_advance 1 = .ok (.aload_n 0, 1) := by decide +kernel
theorem dX9_advance_2 : decode cX9_advance 2 = .ok (.getfield 15, 3) := by decide +kernel
theorem dX9_advance_5 : decode cX9_advance 5 = .ok (.aload_n 0, 1) := by decide +kernel
theorem dX9_advance_6 : decode cX9_advance 6 = .ok (.getfield 73, 3) := by decide +kernel
theorem dX9_advance_9 : decode cX9_advance 9 = .ok (.iaload, 1) := by decide +kernel
theorem dX9_advance_10 : decode cX9_advance 10 = .ok (.putfield 96, 3) := by decide +kernel
theorem dX9_advance_13 : decode cX9_advance 13 = .ok (.aload_n 0, 1) := by decide +kernel
theorem dX9_advance_14 : decode cX9_advance 14 = .ok (.aload_n 0, 1) := by decide +kernel
theorem dX9_advance_15 : decode cX9_advance 15 = .ok (.getfield 19, 3) := by decide +kernel
theorem dX9_advance_18 : decode cX9_advance 18 = .ok (.aload_n 0, 1) := by decide +kernel
theorem dX9_advance_19 : decode cX9_advance 19 = .ok (.getfield 73, 3) := by decide +kernel
theorem dX9_advance_22 : decode cX9_advance 22 = .ok (.iaload, 1) := by decide +kernel
theorem dX9_advance_23 : decode cX9_advance 23 = .ok (.putfield 99, 3) := by decide +kernel
theorem dX9_advance_26 : decode cX9_advance 26 = .ok (.aload_n 0, 1) := by decide +kernel
theorem dX9_advance_27 : decode cX9_advance 27 = .ok (.aload_n 0, 1) := by decide +kernel
theorem dX9_advance_28 : decode cX9_advance 28 = .ok (.getfield 96, 3) := by decide +kernel
theorem dX9_advance_31 : decode cX9_advance 31 = .ok (.iconst 1, 1) := by decide +kernel
theorem dX9_advance_32 : decode cX9_advance 32 = .ok (.if_icmp .ne 15, 3) := by decide +kernel
theorem dX9_advance_35 : decode cX9_advance 35 = .ok (.aload_n 0, 1) := by decide +kernel
theorem dX9_advance_36 : decode cX9_advance 36 = .ok (.getfield 22, 3) := by decide +kernel
theorem dX9_advance_39 : decode cX9_advance 39 = .ok (.aload_n 0, 1) := by decide +kernel
theorem dX9_advance_40 : decode cX9_advance 40 = .ok (.getfield 73, 3) := by decide +kernel
theorem dX9_advance_43 : decode cX9_advance 43 = .ok (.iaload, 1) := by decide +kernel
theorem dX9_advance_44 : decode cX9_advance 44 = .ok (.goto 4, 3) := by decide +kernel
theorem dX9_advance_47 : decode cX9_advance 47 = .ok (.iconst 0, 1) := by decide +kernel
theorem dX9_advance_48 : decode cX9_advance 48 = .ok (.putfield 102, 3) := by decide +kernel
theorem dX9_advance_51 : decode cX9_advance 51 = .ok (.aload_n 0, 1) := by decide +kernel
theorem dX9_advance_52 : decode cX9_advance 52 = .ok (.aload_n 0, 1) := by decide +kernel
theorem dX9_advance_53 : decode cX9_advance 53 = .ok (.getfield 96, 3) := by decide +kernel
theorem dX9_advance_56 : decode cX9_advance 56 = .ok (.iconst 1, 1) := by decide +kernel
theorem dX9_advance_57 : decode cX9_advance 57 = .ok (.if_icmp .ne 15, 3) := by decide +kernel
theorem dX9_advance_60 : decode cX9_advance 60 = .ok (.aload_n 0, 1) := by decide +kernel
theorem dX9_advance_61 : decode cX9_advance 61 = .ok (.getfield 25, 3) := by decide +kernel
theorem dX9_advance_64 : decode cX9_advance 64 = .ok (.aload_n 0, 1) := by decide +kernel
theorem dX9_advance_65 : decode cX9_advance 65 = .ok (.getfield 73, 3) := by decide +kernel
theorem dX9_advance_68 : decode cX9_advance 68 = .ok (.laload, 1) := by decide +kernel
theorem dX9_advance_69 : decode cX9_advance 69 = .ok (.goto 4, 3) := by decide +kernel
theorem dX9_advance_72 : decode cX9_advance 72 = .ok (.lconst 0, 1) := by decide +kernel
theorem dX9_advance_73 : decode cX9_advance 73 = .ok (.putfield 105, 3) := by decide +kernel
theorem dX9_advance_76 : decode cX9_advance 76 = .ok (.aload_n 0, 1) := by decide +kernel
theorem dX9_advance_77 : decode cX9_advance 77 = .ok (.aload_n 0, 1) := by decide +kernel
theorem dX9_advance_78 : decode cX9_advance 78 = .ok (.getfield 96, 3) := by decide +kernel
theorem dX9_advance_81 : decode cX9_advance 81 = .ok (.iconst 2, 1) := by decide +kernel
theorem dX9_advance_82 : decode cX9_advance 82 = .ok (.if_icmp .ne 16, 3) := by decide +kernel
theorem dX9_advance_85 : decode cX9_advance 85 = .ok (.aload_n 0, 1) := by decide +kernel
theorem dX9_advance_86 : decode cX9_advance 86 = .ok (.getfield 25, 3) := by decide +kernel
theorem dX9_advance_89 : decode cX9_advance 89 = .ok (.aload_n 0, 1) := by decide +kernel
theorem dX9_advance_90 : decode cX9_advance 90 = .ok (.getfield 73, 3) := by decide +kernel
theorem dX9_advance_93 : decode cX9_advance 93 = .ok (.laload, 1) := by decide +kernel
theorem dX9_advance_94 : decode cX9_advance 94 = .ok (.l2i, 1) := by decide +kernel
theorem dX9_advance_95 : decode cX9_advance 95 = .ok (.goto 4, 3) := by decide +kernel
theorem dX9_advance_98 : decode cX9_advance 98 = .ok (.iconst 0, 1) := by decide +kernel
theorem dX9_advance_99 : decode cX9_advance 99 = .ok (.putfield 109, 3) := by decide +kernel
theorem dX9_advance_102 : decode cX9_advance 102 = .ok (.aload_n 0, 1) := by decide +kernel
theorem dX9_advance_103 : decode cX9_advance 103 = .ok (.aload_n 0, 1) := by decide +kernel
theorem dX9_advance_104 : decode cX9_advance 104 = .ok (.getfield 96, 3) := by decide +kernel
theorem dX9_advance_107 : decode cX9_advance 107 = .ok (.iconst 1, 1) := by decide +kernel
theorem dX9_advance_108 : decode cX9_advance 108 = .ok (.if_icmp .ne 23, 3) := by decide +kernel
theorem dX9_advance_111 : decode cX9_advance 111 = .ok (.aload_n 0, 1) := by decide +kernel
theorem dX9_advance_112 : decode cX9_advance 112 = .ok (.getfield 102, 3) := by decide +kernel
theorem dX9_advance_115 : decode cX9_advance 115 = .ok (.bipush 7, 2) := by decide +kernel
theorem dX9_advance_117 : decode cX9_advance 117 = .ok (.if_icmp .gt 14, 3) := by decide +kernel
theorem dX9_advance_120 : decode cX9_advance 120 = .ok (.aload_n 0, 1) := by decide +kernel
theorem dX9_advance_121 : decode cX9_advance 121 = .ok (.aload_n 0, 1) := by decide +kernel
theorem dX9_advance_122 : decode cX9_advance 122 = .ok (.getfield 105, 3) := by decide +kernel
theorem dX9_advance_125 : decode cX9_advance 125 = .ok (.invokevirtual 112, 3) := by decide +kernel
theorem dX9_advance_128 : decode cX9_advance 128 = .ok (.goto 4, 3) := by decide +kernel
theorem dX9_advance_131 : decode cX9_advance 131 = .ok (.iconst (-1), 1) := by decide +kernel
theorem dX9_advance_132 : decode cX9_advance 132 = .ok (.putfield 116, 3) := by decide +kernel
theorem dX9_advance_135 : decode cX9_advance 135 = .ok (.aload_n 0, 1) := by decide +kernel
theorem dX9_advance_136 : decode cX9_advance 136 = .ok (.getfield 96, 3) := by decide +kernel
theorem dX9_advance_139 : decode cX9_advance 139 = .ok (.ifCond .eq 31, 3) := by decide +kernel
theorem dX9_advance_142 : decode cX9_advance 142 = .ok (.aload_n 0, 1) := by decide +kernel
theorem dX9_advance_143 : decode cX9_advance 143 = .ok (.getfield 96, 3) := by decide +kernel
theorem dX9_advance_146 : decode cX9_advance 146 = .ok (.iconst 4, 1) := by decide +kernel
theorem dX9_advance_147 : decode cX9_advance 147 = .ok (.if_icmp .eq 23, 3) := by decide +kernel
theorem dX9_advance_150 : decode cX9_advance 150 = .ok (.aload_n 0, 1) := by decide +kernel
theorem dX9_advance_151 : decode cX9_advance 151 = .ok (.getfield 73, 3) := by decide +kernel
theorem dX9_advance_154 : decode cX9_advance 154 = .ok (.sipush 800, 3) := by decide +kernel
theorem dX9_advance_157 : decode cX9_advance 157 = .ok (.if_icmp .ge 13, 3) := by decide +kernel
theorem dX9_advance_160 : decode cX9_advance 160 = .ok (.aload_n 0, 1) := by decide +kernel
theorem dX9_advance_161 : decode cX9_advance 161 = .ok (.dup, 1) := by decide +kernel
theorem dX9_advance_162 : decode cX9_advance 162 = .ok (.getfield 73, 3) := by decide +kernel
theorem dX9_advance_165 : decode cX9_advance 165 = .ok (.iconst 1, 1) := by decide +kernel
theorem dX9_advance_166 : decode cX9_advance 166 = .ok (.iadd, 1) := by decide +kernel
theorem dX9_advance_167 : decode cX9_advance 167 = .ok (.putfield 73, 3) := by decide +kernel
theorem dX9_advance_170 : decode cX9_advance 170 = .ok (.return_, 1) := by decide +kernel
theorem dX9_keywordOf_0 : decode cX9_keywordOf 0 = .ok (.iconst 0, 1) := by decide +kernel
theorem dX9_keywordOf_1 : decode cX9_keywordOf 1 = .ok (.istore_n 3, 1) := by decide +kernel
theorem dX9_keywordOf_2 : decode cX9_keywordOf 2 = .ok (.iload_n 3, 1) := by decide +kernel
theorem dX9_keywordOf_3 : decode cX9_keywordOf 3 = .ok (.bipush 19, 2) := by decide +kernel
theorem dX9_keywordOf_5 : decode cX9_keywordOf 5 = .ok (.if_icmp .ge 22, 3) := by decide +kernel
theorem dX9_keywordOf_8 : decode cX9_keywordOf 8 = .ok (.aload_n 0, 1) := by decide +kernel
theorem dX9_keywordOf_9 : decode cX9_keywordOf 9 = .ok (.getfield 9, 3) := by decide +kernel
theorem dX9_keywordOf_12 : decode cX9_keywordOf 12 = .ok (.iload_n 3, 1) := by decide +kernel
theorem dX9_keywordOf_13 : decode cX9_keywordOf 13 = .ok (.laload, 1) := by decide +kernel
theorem dX9_keywordOf_14 : decode cX9_keywordOf 14 = .ok (.lload_n 1, 1) := by decide +kernel
theorem dX9_keywordOf_15 : decode cX9_keywordOf 15 = .ok (.lcmp, 1) := by decide +kernel
theorem dX9_keywordOf_16 : decode cX9_keywordOf 16 = .ok (.ifCond .ne 5, 3) := by decide +kernel
theorem dX9_keywordOf_19 : decode cX9_keywordOf 19 = .ok (.iload_n 3, 1) := by decide +kernel
theorem dX9_keywordOf_20 : decode cX9_keywordOf 20 = .ok (.ireturn, 1) := by decide +kernel
theorem dX9_keywordOf_21 : decode cX9_keywordOf 21 = .ok (.iinc 3 1, 3) := by decide +kernel
theorem dX9_keywordOf_24 : decode cX9_keywordOf 24 = .ok (.goto (-22), 3) := by decide +kernel
theorem dX9_keywordOf_27 : decode cX9_keywordOf 27 = .ok (.iconst (-1), 1) := by decide +kernel
theorem dX9_keywordOf_28 : decode cX9_keywordOf 28 = .ok (.ireturn, 1) := by decide +kernel
theorem dX9_blame_0 : decode cX9_blame 0 = .ok (.aload_n 0, 1) := by decide +kernel
theorem dX9_blame_1 : decode cX9_blame 1 = .ok (.iload_n 1, 1) := by decide +kernel
theorem dX9_blame_2 : decode cX9_blame 2 = .ok (.putfield 66, 3) := by decide +kernel
theorem dX9_blame_5 : decode cX9_blame 5 = .ok (.aload_n 0, 1) := by decide +kernel
theorem dX9_blame_6 : decode cX9_blame 6 = .ok (.aload_n 0, 1) := by decide +kernel
theorem dX9_blame_7 : decode cX9_blame 7 = .ok (.getfield 99, 3) := by decide +kernel
theorem dX9_blame_10 : decode cX9_blame 10 = .ok (.putfield 28, 3) := by decide +kernel
theorem dX9_blame_13 : decode cX9_blame 13 = .ok (.iconst 0, 1) := by decide +kernel
theorem dX9_blame_14 : decode cX9_blame 14 = .ok (.ireturn, 1) := by decide +kernel
theorem dX9_blameToken_0 : decode cX9_blameToken 0 = .ok (.aload_n 0, 1) := by decide +kernel
theorem dX9_blameToken_1 : decode cX9_blameToken 1 = .ok (.aload_n 0, 1) := by decide +kernel
theorem dX9_blameToken_2 : decode cX9_blameToken 2 = .ok (.getfield 96, 3) := by decide +kernel
theorem dX9_blameToken_5 : decode cX9_blameToken 5 = .ok (.iconst 4, 1) := by decide +kernel
theorem dX9_blameToken_6 : decode cX9_blameToken 6 = .ok (.if_icmp .ne 7, 3) := by decide +kernel
theorem dX9_blameToken_9 : decode cX9_blameToken 9 = .ok (.iconst 1, 1) := by decide +kernel
theorem dX9_blameToken_10 : decode cX9_blameToken 10 = .ok (.goto 4, 3) := by decide +kernel
theorem dX9_blameToken_13 : decode cX9_blameToken 13 = .ok (.iconst 2, 1) := by decide +kernel
theorem dX9_blameToken_14 : decode cX9_blameToken 14 = .ok (.putfield 66, 3) := by decide +kernel
theorem dX9_blameToken_17 : decode cX9_blameToken 17 = .ok (.aload_n 0, 1) := by decide +kernel
theorem dX9_blameToken_18 : decode cX9_blameToken 18 = .ok (.aload_n 0, 1) := by decide +kernel
theorem dX9_blameToken_19 : decode cX9_blameToken 19 = .ok (.getfield 99, 3) := by decide +kernel
theorem dX9_blameToken_22 : decode cX9_blameToken 22 = .ok (.putfield 28, 3) := by decide +kernel
theorem dX9_blameToken_25 : decode cX9_blameToken 25 = .ok (.iconst 0, 1) := by decide +kernel
theorem dX9_blameToken_26 : decode cX9_blameToken 26 = .ok (.ireturn, 1) := by decide +kernel
theorem dX9_fitsName_0 : decode cX9_fitsName 0 = .ok (.aload_n 0, 1) := by decide +kernel
theorem dX9_fitsName_1 : decode cX9_fitsName 1 = .ok (.getfield 96, 3) := by decide +kernel
theorem dX9_fitsName_4 : decode cX9_fitsName 4 = .ok (.iconst 1, 1) := by decide +kernel
theorem dX9_fitsName_5 : decode cX9_fitsName 5 = .ok (.if_icmp .ne 24, 3) := by decide +kernel
theorem dX9_fitsName_8 : decode cX9_fitsName 8 = .ok (.aload_n 0, 1) := by decide +kernel
theorem dX9_fitsName_9 : decode cX9_fitsName 9 = .ok (.getfield 116, 3) := by decide +kernel
theorem dX9_fitsName_12 : decode cX9_fitsName 12 = .ok (.iconst (-1), 1) := by decide +kernel
theorem dX9_fitsName_13 : decode cX9_fitsName 13 = .ok (.if_icmp .ne 16, 3) := by decide +kernel
theorem dX9_fitsName_16 : decode cX9_fitsName 16 = .ok (.aload_n 0, 1) := by decide +kernel
theorem dX9_fitsName_17 : decode cX9_fitsName 17 = .ok (.getfield 102, 3) := by decide +kernel
theorem dX9_fitsName_20 : decode cX9_fitsName 20 = .ok (.bipush 7, 2) := by decide +kernel
theorem dX9_fitsName_22 : decode cX9_fitsName 22 = .ok (.if_icmp .gt 7, 3) := by decide +kernel
theorem dX9_fitsName_25 : decode cX9_fitsName 25 = .ok (.iconst 1, 1) := by decide +kernel
theorem dX9_fitsName_26 : decode cX9_fitsName 26 = .ok (.goto 4, 3) := by decide +kernel
theorem dX9_fitsName_29 : decode cX9_fitsName 29 = .ok (.iconst 0, 1) := by decide +kernel
theorem dX9_fitsName_30 : decode cX9_fitsName 30 = .ok (.istore_n 1, 1) := by decide +kernel
theorem dX9_fitsName_31 : decode cX9_fitsName 31 = .ok (.iload_n 1, 1) := by decide +kernel
theorem dX9_fitsName_32 : decode cX9_fitsName 32 = .ok (.ifCond .ne 10, 3) := by decide +kernel
theorem dX9_fitsName_35 : decode cX9_fitsName 35 = .ok (.aload_n 0, 1) := by decide +kernel
theorem dX9_fitsName_36 : decode cX9_fitsName 36 = .ok (.invokevirtual 119, 3) := by decide +kernel
theorem dX9_fitsName_39 : decode cX9_fitsName 39 = .ok (.ifCond .eq 7, 3) := by decide +kernel
theorem dX9_fitsName_42 : decode cX9_fitsName 42 = .ok (.iconst 1, 1) := by decide +kernel
theorem dX9_fitsName_43 : decode cX9_fitsName 43 = .ok (.goto 4, 3) := by decide +kernel
theorem dX9_fitsName_46 : decode cX9_fitsName 46 = .ok (.iconst 0, 1) := by decide +kernel
theorem dX9_fitsName_47 : decode cX9_fitsName 47 = .ok (.ireturn, 1) := by decide +kernel
theorem dX9_fitsNumber_0 : decode cX9_fitsNumber 0 = .ok (.aload_n 0, 1) := by decide +kernel
theorem dX9_fitsNumber_1 : decode cX9_fitsNumber 1 = .ok (.getfield 96, 3) := by decide +kernel
theorem dX9_fitsNumber_4 : decode cX9_fitsNumber 4 = .ok (.iconst 2, 1) := by decide +kernel
theorem dX9_fitsNumber_5 : decode cX9_fitsNumber 5 = .ok (.if_icmp .eq 8, 3) := by decide +kernel
theorem dX9_fitsNumber_8 : decode cX9_fitsNumber 8 = .ok (.aload_n 0, 1) := by decide +kernel
theorem dX9_fitsNumber_9 : decode cX9_fitsNumber 9 = .ok (.invokevirtual 119, 3) := by decide +kernel
theorem dX9_fitsNumber_12 : decode cX9_fitsNumber 12 = .ok (.ireturn, 1) := by decide +kernel
theorem dX9_fitsNumber_13 : decode cX9_fitsNumber 13 = .ok (.aload_n 0, 1) := by decide +kernel
theorem dX9_fitsNumber_14 : decode cX9_fitsNumber 14 = .ok (.getfield 109, 3) := by decide +kernel
theorem dX9_fitsNumber_17 : decode cX9_fitsNumber 17 = .ok (.iload_n 1, 1) := by decide +kernel
theorem dX9_fitsNumber_18 : decode cX9_fitsNumber 18 = .ok (.if_icmp .lt 11, 3) := by decide +kernel
theorem dX9_fitsNumber_21 : decode cX9_fitsNumber 21 = .ok (.aload_n 0, 1) := by decide +kernel
theorem dX9_fitsNumber_22 : decode cX9_fitsNumber 22 = .ok (.getfield 109, 3) := by decide +kernel
theorem dX9_fitsNumber_25 : decode cX9_fitsNumber 25 = .ok (.iload_n 2, 1) := by decide +kernel
theorem dX9_fitsNumber_26 : decode cX9_fitsNumber 26 = .ok (.if_icmp .le 11, 3) := by decide +kernel
theorem dX9_fitsNumber_29 : decode cX9_fitsNumber 29 = .ok (.aload_n 0, 1) := by decide +kernel
theorem dX9_fitsNumber_30 : decode cX9_fitsNumber 30 = .ok (.iconst 4, 1) := by decide +kernel
theorem dX9_fitsNumber_31 : decode cX9_fitsNumber 31 = .ok (.invokevirtual 123, 3) := by decide +kernel
theorem dX9_fitsNumber_34 : decode cX9_fitsNumber 34 = .ok (.ifCond .eq 7, 3) := by decide +kernel
theorem dX9_fitsNumber_37 : decode cX9_fitsNumber 37 = .ok (.iconst 1, 1) := by decide +kernel
theorem dX9_fitsNumber_38 : decode cX9_fitsNumber 38 = .ok (.goto 4, 3) := by decide +kernel
theorem dX9_fitsNumber_41 : decode cX9_fitsNumber 41 = .ok (.iconst 0, 1) := by decide +kernel
theorem dX9_fitsNumber_42 : decode cX9_fitsNumber 42 = .ok (.ireturn, 1) := by decide +kernel
theorem dX9_takeWord_0 : decode cX9_takeWord 0 = .ok (.aload_n 0, 1) := by decide +kernel
theorem dX9_takeWord_1 : decode cX9_takeWord 1 = .ok (.getfield 116, 3) := by decide +kernel
theorem dX9_takeWord_4 : decode cX9_takeWord 4 = .ok (.iload_n 1, 1) := by decide +kernel
theorem dX9_takeWord_5 : decode cX9_takeWord 5 = .ok (.if_icmp .eq 8, 3) := by decide +kernel
theorem dX9_takeWord_8 : decode cX9_takeWord 8 = .ok (.aload_n 0, 1) := by decide +kernel
theorem dX9_takeWord_9 : decode cX9_takeWord 9 = .ok (.invokevirtual 119, 3) := by decide +kernel
theorem dX9_takeWord_12 : decode cX9_takeWord 12 = .ok (.ireturn, 1) := by decide +kernel
theorem dX9_takeWord_13 : decode cX9_takeWord 13 = .ok (.aload_n 0, 1) := by decide +kernel
theorem dX9_takeWord_14 : decode cX9_takeWord 14 = .ok (.invokevirtual 76, 3) := by decide +kernel
theorem dX9_takeWord_17 : decode cX9_takeWord 17 = .ok (.iconst 1, 1) := by decide +kernel
theorem dX9_takeWord_18 : decode cX9_takeWord 18 = .ok (.ireturn, 1) := by decide +kernel
theorem dX9_takeSign_0 : decode cX9_takeSign 0 = .ok (.aload_n 0, 1) := by decide +kernel
theorem dX9_takeSign_1 : decode cX9_takeSign 1 = .ok (.getfield 96, 3) := by decide +kernel
theorem dX9_takeSign_4 : decode cX9_takeSign 4 = .ok (.iconst 3, 1) := by decide +kernel
theorem dX9_takeSign_5 : decode cX9_takeSign 5 = .ok (.if_icmp .eq 8, 3) := by decide +kernel
theorem dX9_takeSign_8 : decode cX9_takeSign 8 = .ok (.aload_n 0, 1) := by decide +kernel
theorem dX9_takeSign_9 : decode cX9_takeSign 9 = .ok (.invokevirtual 119, 3) := by decide +kernel
theorem dX9_takeSign_12 : decode cX9_takeSign 12 = .ok (.ireturn, 1) := by decide +kernel
theorem dX9_takeSign_13 : decode cX9_takeSign 13 = .ok (.aload_n 0, 1) := by decide +kernel
theorem dX9_takeSign_14 : decode cX9_takeSign 14 = .ok (.invokevirtual 76, 3) := by decide +kernel
theorem dX9_takeSign_17 : decode cX9_takeSign 17 = .ok (.iconst 1, 1) := by decide +kernel
theorem dX9_takeSign_18 : decode cX9_takeSign 18 = .ok (.ireturn, 1) := by decide +kernel
theorem dX9_takeSet_0 : decode cX9_takeSet 0 = .ok (.aload_n 0, 1) := by decide +kernel
theorem dX9_takeSet_1 : decode cX9_takeSet 1 = .ok (.iload_n 1, 1) := by decide +kernel
theorem dX9_takeSet_2 : decode cX9_takeSet 2 = .ok (.putfield 127, 3) := by decide +kernel
theorem dX9_takeSet_5 : decode cX9_takeSet 5 = .ok (.aload_n 0, 1) := by decide +kernel
theorem dX9_takeSet_6 : decode cX9_takeSet 6 = .ok (.getfield 96, 3) := by decide +kernel
theorem dX9_takeSet_9 : decode cX9_takeSet 9 = .ok (.iconst 2, 1) := by decide +kernel
theorem dX9_takeSet_10 : decode cX9_takeSet 10 = .ok (.if_icmp .eq 8, 3) := by decide +kernel
theorem dX9_takeSet_13 : decode cX9_takeSet 13 = .ok (.aload_n 0, 1) := by decide +kernel
theorem dX9_takeSet_14 : decode cX9_takeSet 14 = .ok (.invokevirtual 119, 3) := by decide +kernel
theorem dX9_takeSet_17 : decode cX9_takeSet 17 = .ok (.ireturn, 1) := by decide +kernel
theorem dX9_takeSet_18 : decode cX9_takeSet 18 = .ok (.iconst 0, 1) := by decide +kernel
theorem dX9_takeSet_19 : decode cX9_takeSet 19 = .ok (.istore_n 3, 1) := by decide +kernel
theorem dX9_takeSet_20 : decode cX9_takeSet 20 = .ok (.iload_n 3, 1) := by decide +kernel
theorem dX9_takeSet_21 : decode cX9_takeSet 21 = .ok (.sipush 800, 3) := by decide +kernel
theorem dX9_takeSet_24 : decode cX9_takeSet 24 = .ok (.if_icmp .ge 71, 3) := by decide +kernel
theorem dX9_takeSet_27 : decode cX9_takeSet 27 = .ok (.aload_n 0, 1) := by decide +kernel
theorem dX9_takeSet_28 : decode cX9_takeSet 28 = .ok (.getfield 96, 3) := by decide +kernel
theorem dX9_takeSet_31 : decode cX9_takeSet 31 = .ok (.iconst 2, 1) := by decide +kernel
theorem dX9_takeSet_32 : decode cX9_takeSet 32 = .ok (.if_icmp .ne 63, 3) := by decide +kernel
theorem dX9_takeSet_35 : decode cX9_takeSet 35 = .ok (.aload_n 0, 1) := by decide +kernel
theorem dX9_takeSet_36 : decode cX9_takeSet 36 = .ok (.getfield 109, 3) := by decide +kernel
theorem dX9_takeSet_39 : decode cX9_takeSet 39 = .ok (.iload_n 2, 1) := by decide +kernel
theorem dX9_takeSet_40 : decode cX9_takeSet 40 = .ok (.if_icmp .lt 9, 3) := by decide +kernel
theorem dX9_takeSet_43 : decode cX9_takeSet 43 = .ok (.aload_n 0, 1) := by decide +kernel
theorem dX9_takeSet_44 : decode cX9_takeSet 44 = .ok (.iconst 4, 1) := by decide +kernel
theorem dX9_takeSet_45 : decode cX9_takeSet 45 = .ok (.invokevirtual 123, 3) := by decide +kernel
theorem dX9_takeSet_48 : decode cX9_takeSet 48 = .ok (.ireturn, 1) := by decide +kernel
theorem dX9_takeSet_49 : decode cX9_takeSet 49 = .ok (.aload_n 0, 1) := by decide +kernel
theorem dX9_takeSet_50 : decode cX9_takeSet 50 = .ok (.getfield 127, 3) := by decide +kernel
theorem dX9_takeSet_53 : decode cX9_takeSet 53 = .ok (.aload_n 0, 1) := by decide +kernel
theorem dX9_takeSet_54 : decode cX9_takeSet 54 = .ok (.getfield 109, 3) := by decide +kernel
theorem dX9_takeSet_57 : decode cX9_takeSet 57 = .ok (.iushr, 1) := by decide +kernel
theorem dX9_takeSet_58 : decode cX9_takeSet 58 = .ok (.iconst 1, 1) := by decide +kernel
theorem dX9_takeSet_59 : decode cX9_takeSet 59 = .ok (.iand, 1) := by decide +kernel
theorem dX9_takeSet_60 : decode cX9_takeSet 60 = .ok (.iconst 1, 1) := by decide +kernel
theorem dX9_takeSet_61 : decode cX9_takeSet 61 = .ok (.if_icmp .ne 9, 3) := by decide +kernel
theorem dX9_takeSet_64 : decode cX9_takeSet 64 = .ok (.aload_n 0, 1) := by decide +kernel
theorem dX9_takeSet_65 : decode cX9_takeSet 65 = .ok (.iconst 3, 1) := by decide +kernel
theorem dX9_takeSet_66 : decode cX9_takeSet 66 = .ok (.invokevirtual 123, 3) := by decide +kernel
theorem dX9_takeSet_69 : decode cX9_takeSet 69 = .ok (.ireturn, 1) := by decide +kernel
theorem dX9_takeSet_70 : decode cX9_takeSet 70 = .ok (.aload_n 0, 1) := by decide +kernel
theorem dX9_takeSet_71 : decode cX9_takeSet 71 = .ok (.dup, 1) := by decide +kernel
theorem dX9_takeSet_72 : decode cX9_takeSet 72 = .ok (.getfield 127, 3) := by decide +kernel
theorem dX9_takeSet_75 : decode cX9_takeSet 75 = .ok (.iconst 1, 1) := by decide +kernel
theorem dX9_takeSet_76 : decode cX9_takeSet 76 = .ok (.aload_n 0, 1) := by decide +kernel
theorem dX9_takeSet_77 : decode cX9_takeSet 77 = .ok (.getfield 109, 3) := by decide +kernel
theorem dX9_takeSet_80 : decode cX9_takeSet 80 = .ok (.ishl, 1) := by decide +kernel
theorem dX9_takeSet_81 : decode cX9_takeSet 81 = .ok (.ior, 1) := by decide +kernel
theorem dX9_takeSet_82 : decode cX9_takeSet 82 = .ok (.putfield 127, 3) := by decide +kernel
theorem dX9_takeSet_85 : decode cX9_takeSet 85 = .ok (.aload_n 0, 1) := by decide +kernel
theorem dX9_takeSet_86 : decode cX9_takeSet 86 = .ok (.invokevirtual 76, 3) := by decide +kernel
theorem dX9_takeSet_89 : decode cX9_takeSet 89 = .ok (.iinc 3 1, 3) := by decide +kernel
theorem dX9_takeSet_92 : decode cX9_takeSet 92 = .ok (.goto (-72), 3) := by decide +kernel
theorem dX9_takeSet_95 : decode cX9_takeSet 95 = .ok (.iconst 1, 1) := by decide +kernel
theorem dX9_takeSet_96 : decode cX9_takeSet 96 = .ok (.ireturn, 1) := by decide +kernel
theorem dX9_isBlank_0 : decode cX9_isBlank 0 = .ok (.iload_n 0, 1) := by decide +kernel
theorem dX9_isBlank_1 : decode cX9_isBlank 1 = .ok (.bipush 32, 2) := by decide +kernel
theorem dX9_isBlank_3 : decode cX9_isBlank 3 = .ok (.if_icmp .eq 9, 3) := by decide +kernel
theorem dX9_isBlank_6 : decode cX9_isBlank 6 = .ok (.iload_n 0, 1) := by decide +kernel
theorem dX9_isBlank_7 : decode cX9_isBlank 7 = .ok (.bipush 10, 2) := by decide +kernel
theorem dX9_isBlank_9 : decode cX9_isBlank 9 = .ok (.if_icmp .ne 7, 3) := by decide +kernel
theorem dX9_isBlank_12 : decode cX9_isBlank 12 = .ok (.iconst 1, 1) := by decide +kernel
theorem dX9_isBlank_13 : decode cX9_isBlank 13 = .ok (.goto 4, 3) := by decide +kernel
theorem dX9_isBlank_16 : decode cX9_isBlank 16 = .ok (.iconst 0, 1) := by decide +kernel
theorem dX9_isBlank_17 : decode cX9_isBlank 17 = .ok (.ireturn, 1) := by decide +kernel
theorem dX9_isLetter_0 : decode cX9_isLetter 0 = .ok (.iload_n 0, 1) := by decide +kernel
theorem dX9_isLetter_1 : decode cX9_isLetter 1 = .ok (.bipush 97, 2) := by decide +kernel
theorem dX9_isLetter_3 : decode cX9_isLetter 3 = .ok (.if_icmp .lt 13, 3) := by decide +kernel
theorem dX9_isLetter_6 : decode cX9_isLetter 6 = .ok (.iload_n 0, 1) := by decide +kernel
theorem dX9_isLetter_7 : decode cX9_isLetter 7 = .ok (.bipush 122, 2) := by decide +kernel
theorem dX9_isLetter_9 : decode cX9_isLetter 9 = .ok (.if_icmp .gt 7, 3) := by decide +kernel
theorem dX9_isLetter_12 : decode cX9_isLetter 12 = .ok (.iconst 1, 1) := by decide +kernel
theorem dX9_isLetter_13 : decode cX9_isLetter 13 = .ok (.goto 4, 3) := by decide +kernel
theorem dX9_isLetter_16 : decode cX9_isLetter 16 = .ok (.iconst 0, 1) := by decide +kernel
theorem dX9_isLetter_17 : decode cX9_isLetter 17 = .ok (.ireturn, 1) := by decide +kernel
theorem dX9_isDigit_0 : decode cX9_isDigit 0 = .ok (.iload_n 0, 1) := by decide +kernel
theorem dX9_isDigit_1 : decode cX9_isDigit 1 = .ok (.bipush 48, 2) := by decide +kernel
theorem dX9_isDigit_3 : decode cX9_isDigit 3 = .ok (.if_icmp .lt 13, 3) := by decide +kernel
theorem dX9_isDigit_6 : decode cX9_isDigit 6 = .ok (.iload_n 0, 1) := by decide +kernel
theorem dX9_isDigit_7 : decode cX9_isDigit 7 = .ok (.bipush 57, 2) := by decide +kernel
theorem dX9_isDigit_9 : decode cX9_isDigit 9 = .ok (.if_icmp .gt 7, 3) := by decide +kernel
theorem dX9_isDigit_12 : decode cX9_isDigit 12 = .ok (.iconst 1, 1) := by decide +kernel
theorem dX9_isDigit_13 : decode cX9_isDigit 13 = .ok (.goto 4, 3) := by decide +kernel
theorem dX9_isDigit_16 : decode cX9_isDigit 16 = .ok (.iconst 0, 1) := by decide +kernel
theorem dX9_isDigit_17 : decode cX9_isDigit 17 = .ok (.ireturn, 1) := by decide +kernel
