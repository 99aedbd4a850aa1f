theorem dX3_init_0 : decode cX3_init 0 = .ok (.aload_n 0, 1) := by decide +kernel
theorem dX3_init_1 : decode cX3_init 1 = .ok (.invokespecial 3, 3) := by decide +kernel
theorem dX3_init_4 : decode cX3_init 4 = .ok (.aload_n 0, 1) := by decide +kernel
theorem dX3_init_5 : decode cX3_init 5 = .ok (.sipush 160, 3) := by decide +kernel
theorem dX3_init_8 : decode cX3_init 8 = .ok (.newarray .int, 2) := by decide +kernel
theorem dX3_init_10 : decode cX3_init 10 = .ok (.putfield 9, 3) := by decide +kernel
theorem dX3_init_13 : decode cX3_init 13 = .ok (.aload_n 0, 1) := by decide +kernel
theorem dX3_init_14 : decode cX3_init 14 = .ok (.sipush 160, 3) := by decide +kernel
theorem dX3_init_17 : decode cX3_init 17 = .ok (.newarray .int, 2) := by decide +kernel
theorem dX3_init_19 : decode cX3_init 19 = .ok (.putfield 15, 3) := by decide +kernel
theorem dX3_init_22 : decode cX3_init 22 = .ok (.aload_n 0, 1) := by decide +kernel
theorem dX3_init_23 : decode cX3_init 23 = .ok (.sipush 160, 3) := by decide +kernel
theorem dX3_init_26 : decode cX3_init 26 = .ok (.newarray .int, 2) := by decide +kernel
theorem dX3_init_28 : decode cX3_init 28 = .ok (.putfield 18, 3) := by decide +kernel
theorem dX3_init_31 : decode cX3_init 31 = .ok (.aload_n 0, 1) := by decide +kernel
theorem dX3_init_32 : decode cX3_init 32 = .ok (.sipush 160, 3) := by decide +kernel
theorem dX3_init_35 : decode cX3_init 35 = .ok (.newarray .int, 2) := by decide +kernel
theorem dX3_init_37 : decode cX3_init 37 = .ok (.putfield 21, 3) := by decide +kernel
theorem dX3_init_40 : decode cX3_init 40 = .ok (.aload_n 0, 1) := by decide +kernel
theorem dX3_init_41 : decode cX3_init 41 = .ok (.aload_n 1, 1) := by decide +kernel
theorem dX3_init_42 : decode cX3_init 42 = .ok (.putfield 24, 3) := by decide +kernel
theorem dX3_init_45 : decode cX3_init 45 = .ok (.aload_n 0, 1) := by decide +kernel
theorem dX3_init_46 : decode cX3_init 46 = .ok (.aload_n 2, 1) := by decide +kernel
theorem dX3_init_47 : decode cX3_init 47 = .ok (.putfield 28, 3) := by decide +kernel
theorem dX3_init_50 : decode cX3_init 50 = .ok (.return_, 1) := by decide +kernel
theorem dX3_read_0 : decode cX3_read 0 = .ok (.aload_n 0, 1) := by decide +kernel
theorem dX3_read_1 : decode cX3_read 1 = .ok (.iconst 0, 1) := by decide +kernel
theorem dX3_read_2 : decode cX3_read 2 = .ok (.putfield 32, 3) := by decide +kernel
theorem dX3_read_5 : decode cX3_read 5 = .ok (.iconst 0, 1) := by decide +kernel
theorem dX3_read_6 : decode cX3_read 6 = .ok (.istore_n 1, 1) := by decide +kernel
theorem dX3_read_7 : decode cX3_read 7 = .ok (.iload_n 1, 1) := by decide +kernel
theorem dX3_read_8 : decode cX3_read 8 = .ok (.sipush 160, 3) := by decide +kernel
theorem dX3_read_11 : decode cX3_read 11 = .ok (.if_icmp .ge 39, 3) := by decide +kernel
theorem dX3_read_14 : decode cX3_read 14 = .ok (.aload_n 0, 1) := by decide +kernel
theorem dX3_read_15 : decode cX3_read 15 = .ok (.getfield 24, 3) := by decide +kernel
theorem dX3_read_18 : decode cX3_read 18 = .ok (.getfield 36, 3) := by decide +kernel
theorem dX3_read_21 : decode cX3_read 21 = .ok (.ifCond .eq 29, 3) := by decide +kernel
theorem dX3_read_24 : decode cX3_read 24 = .ok (.aload_n 0, 1) := by decide +kernel
theorem dX3_read_25 : decode cX3_read 25 = .ok (.iload_n 1, 1) := by decide +kernel
theorem dX3_read_26 : decode cX3_read 26 = .ok (.invokevirtual 41, 3) := by decide +kernel
theorem dX3_read_29 : decode cX3_read 29 = .ok (.ifCond .ne 5, 3) := by decide +kernel
theorem dX3_read_32 : decode cX3_read 32 = .ok (.iconst 0, 1) := by decide +kernel
theorem dX3_read_33 : decode cX3_read 33 = .ok (.ireturn, 1) := by decide +kernel
theorem dX3_read_34 : decode cX3_read 34 = .ok (.aload_n 0, 1) := by decide +kernel
theorem dX3_read_35 : decode cX3_read 35 = .ok (.dup, 1) := by decide +kernel
theorem dX3_read_36 : decode cX3_read 36 = .ok (.getfield 32, 3) := by decide +kernel
theorem dX3_read_39 : decode cX3_read 39 = .ok (.iconst 1, 1) := by decide +kernel
theorem dX3_read_40 : decode cX3_read 40 = .ok (.iadd, 1) := by decide +kernel
theorem dX3_read_41 : decode cX3_read 41 = .ok (.putfield 32, 3) := by decide +kernel
theorem dX3_read_44 : decode cX3_read 44 = .ok (.iinc 1 1, 3) := by decide +kernel
theorem dX3_read_47 : decode cX3_read 47 = .ok (.goto (-40), 3) := by decide +kernel
theorem dX3_read_50 : decode cX3_read 50 = .ok (.iconst 1, 1) := by decide +kernel
theorem dX3_read_51 : decode cX3_read 51 = .ok (.ireturn, 1) := by decide +kernel
theorem dX3_readOrder_0 : decode cX3_readOrder 0 = .ok (.aload_n 0, 1) := by decide +kernel
theorem dX3_readOrder_1 : decode cX3_readOrder 1 = .ok (.getfield 9, 3) := by decide +kernel
theorem dX3_readOrder_4 : decode cX3_readOrder 4 = .ok (.iload_n 1, 1) := by decide +kernel
theorem dX3_readOrder_5 : decode cX3_readOrder 5 = .ok (.aload_n 0, 1) := by decide +kernel
theorem dX3_readOrder_6 : decode cX3_readOrder 6 = .ok (.getfield 24, 3) := by decide +kernel
theorem dX3_readOrder_9 : decode cX3_readOrder 9 = .ok (.getfield 45, 3) := by decide +kernel
theorem dX3_readOrder_12 : decode cX3_readOrder 12 = .ok (.iastore, 1) := by decide +kernel
theorem dX3_readOrder_13 : decode cX3_readOrder 13 = .ok (.aload_n 0, 1) := by decide +kernel
theorem dX3_readOrder_14 : decode cX3_readOrder 14 = .ok (.getfield 15, 3) := by decide +kernel
theorem dX3_readOrder_17 : decode cX3_readOrder 17 = .ok (.iload_n 1, 1) := by decide +kernel
theorem dX3_readOrder_18 : decode cX3_readOrder 18 = .ok (.iconst (-1), 1) := by decide +kernel
theorem dX3_readOrder_19 : decode cX3_readOrder 19 = .ok (.iastore, 1) := by decide +kernel
theorem dX3_readOrder_20 : decode cX3_readOrder 20 = .ok (.aload_n 0, 1) := by decide +kernel
theorem dX3_readOrder_21 : decode cX3_readOrder 21 = .ok (.getfield 18, 3) := by decide +kernel
theorem dX3_readOrder_24 : decode cX3_readOrder 24 = .ok (.iload_n 1, 1) := by decide +kernel
theorem dX3_readOrder_25 : decode cX3_readOrder 25 = .ok (.iconst (-1), 1) := by decide +kernel
theorem dX3_readOrder_26 : decode cX3_readOrder 26 = .ok (.iastore, 1) := by decide +kernel
theorem dX3_readOrder_27 : decode cX3_readOrder 27 = .ok (.aload_n 0, 1) := by decide +kernel
theorem dX3_readOrder_28 : decode cX3_readOrder 28 = .ok (.getfield 21, 3) := by decide +kernel
theorem dX3_readOrder_31 : decode cX3_readOrder 31 = .ok (.iload_n 1, 1) := by decide +kernel
theorem dX3_readOrder_32 : decode cX3_readOrder 32 = .ok (.iconst 0, 1) := by decide +kernel
theorem dX3_readOrder_33 : decode cX3_readOrder 33 = .ok (.iastore, 1) := by decide +kernel
theorem dX3_readOrder_34 : decode cX3_readOrder 34 = .ok (.aload_n 0, 1) := by decide +kernel
theorem dX3_readOrder_35 : decode cX3_readOrder 35 = .ok (.iload_n 1, 1) := by decide +kernel
theorem dX3_readOrder_36 : decode cX3_readOrder 36 = .ok (.invokevirtual 48, 3) := by decide +kernel
theorem dX3_readOrder_39 : decode cX3_readOrder 39 = .ok (.ifCond .ne 5, 3) := by decide +kernel
theorem dX3_readOrder_42 : decode cX3_readOrder 42 = .ok (.iconst 0, 1) := by decide +kernel
theorem dX3_readOrder_43 : decode cX3_readOrder 43 = .ok (.ireturn, 1) := by decide +kernel
theorem dX3_readOrder_44 : decode cX3_readOrder 44 = .ok (.aload_n 0, 1) := by decide +kernel
theorem dX3_readOrder_45 : decode cX3_readOrder 45 = .ok (.getfield 24, 3) := by decide +kernel
theorem dX3_readOrder_48 : decode cX3_readOrder 48 = .ok (.invokevirtual 51, 3) := by decide +kernel
theorem dX3_readOrder_51 : decode cX3_readOrder 51 = .ok (.ireturn, 1) := by decide +kernel
theorem dX3_readRest_0 : decode cX3_readRest 0 = .ok (.aload_n 0, 1) := by decide +kernel
theorem dX3_readRest_1 : decode cX3_readRest 1 = .ok (.getfield 9, 3) := by decide +kernel
theorem dX3_readRest_4 : decode cX3_readRest 4 = .ok (.iload_n 1, 1) := by decide +kernel
theorem dX3_readRest_5 : decode cX3_readRest 5 = .ok (.iaload, 1) := by decide +kernel
theorem dX3_readRest_6 : decode cX3_readRest 6 = .ok (.tableswitch 157 9 18 #[54, 54, 54, 60, 60, 85, 157, 118, 134, 134], 54) := by decide +kernel
theorem dX3_readRest_60 : decode cX3_readRest 60 = .ok (.aload_n 0, 1) := by decide +kernel
theorem dX3_readRest_61 : decode cX3_readRest 61 = .ok (.iload_n 1, 1) := by decide +kernel
theorem dX3_readRest_62 : decode cX3_readRest 62 = .ok (.invokevirtual 55, 3) := by decide +kernel
theorem dX3_readRest_65 : decode cX3_readRest 65 = .ok (.ireturn, 1) := by decide +kernel
theorem dX3_readRest_66 : decode cX3_readRest 66 = .ok (.aload_n 0, 1) := by decide +kernel
theorem dX3_readRest_67 : decode cX3_readRest 67 = .ok (.iload_n 1, 1) := by decide +kernel
theorem dX3_readRest_68 : decode cX3_readRest 68 = .ok (.invokevirtual 55, 3) := by decide +kernel
theorem dX3_readRest_71 : decode cX3_readRest 71 = .ok (.ifCond .eq 18, 3) := by decide +kernel
theorem dX3_readRest_74 : decode cX3_readRest 74 = .ok (.aload_n 0, 1) := by decide +kernel
theorem dX3_readRest_75 : decode cX3_readRest 75 = .ok (.iload_n 1, 1) := by decide +kernel
theorem dX3_readRest_76 : decode cX3_readRest 76 = .ok (.iconst 0, 1) := by decide +kernel
theorem dX3_readRest_77 : decode cX3_readRest 77 = .ok (.bipush 7, 2) := by decide +kernel
theorem dX3_readRest_79 : decode cX3_readRest 79 = .ok (.invokevirtual 58, 3) := by decide +kernel
theorem dX3_readRest_82 : decode cX3_readRest 82 = .ok (.ifCond .eq 7, 3) := by decide +kernel
theorem dX3_readRest_85 : decode cX3_readRest 85 = .ok (.iconst 1, 1) := by decide +kernel
theorem dX3_readRest_86 : decode cX3_readRest 86 = .ok (.goto 4, 3) := by decide +kernel
theorem dX3_readRest_89 : decode cX3_readRest 89 = .ok (.iconst 0, 1) := by decide +kernel
theorem dX3_readRest_90 : decode cX3_readRest 90 = .ok (.ireturn, 1) := by decide +kernel
theorem dX3_readRest_91 : decode cX3_readRest 91 = .ok (.aload_n 0, 1) := by decide +kernel
theorem dX3_readRest_92 : decode cX3_readRest 92 = .ok (.iload_n 1, 1) := by decide +kernel
theorem dX3_readRest_93 : decode cX3_readRest 93 = .ok (.invokevirtual 55, 3) := by decide +kernel
theorem dX3_readRest_96 : decode cX3_readRest 96 = .ok (.ifCond .eq 26, 3) := by decide +kernel
theorem dX3_readRest_99 : decode cX3_readRest 99 = .ok (.aload_n 0, 1) := by decide +kernel
theorem dX3_readRest_100 : decode cX3_readRest 100 = .ok (.iload_n 1, 1) := by decide +kernel
theorem dX3_readRest_101 : decode cX3_readRest 101 = .ok (.iconst 0, 1) := by decide +kernel
theorem dX3_readRest_102 : decode cX3_readRest 102 = .ok (.bipush 7, 2) := by decide +kernel
theorem dX3_readRest_104 : decode cX3_readRest 104 = .ok (.invokevirtual 58, 3) := by decide +kernel
theorem dX3_readRest_107 : decode cX3_readRest 107 = .ok (.ifCond .eq 15, 3) := by decide +kernel
theorem dX3_readRest_110 : decode cX3_readRest 110 = .ok (.aload_n 0, 1) := by decide +kernel
theorem dX3_readRest_111 : decode cX3_readRest 111 = .ok (.iload_n 1, 1) := by decide +kernel
theorem dX3_readRest_112 : decode cX3_readRest 112 = .ok (.invokevirtual 62, 3) := by decide +kernel
theorem dX3_readRest_115 : decode cX3_readRest 115 = .ok (.ifCond .eq 7, 3) := by decide +kernel
theorem dX3_readRest_118 : decode cX3_readRest 118 = .ok (.iconst 1, 1) := by decide +kernel
theorem dX3_readRest_119 : decode cX3_readRest 119 = .ok (.goto 4, 3) := by decide +kernel
theorem dX3_readRest_122 : decode cX3_readRest 122 = .ok (.iconst 0, 1) := by decide +kernel
theorem dX3_readRest_123 : decode cX3_readRest 123 = .ok (.ireturn, 1) := by decide +kernel
theorem dX3_readRest_124 : decode cX3_readRest 124 = .ok (.aload_n 0, 1) := by decide +kernel
theorem dX3_readRest_125 : decode cX3_readRest 125 = .ok (.getfield 24, 3) := by decide +kernel
theorem dX3_readRest_128 : decode cX3_readRest 128 = .ok (.invokevirtual 65, 3) := by decide +kernel
theorem dX3_readRest_131 : decode cX3_readRest 131 = .ok (.aload_n 0, 1) := by decide +kernel
theorem dX3_readRest_132 : decode cX3_readRest 132 = .ok (.iload_n 1, 1) := by decide +kernel
theorem dX3_readRest_133 : decode cX3_readRest 133 = .ok (.iconst 1, 1) := by decide +kernel
theorem dX3_readRest_134 : decode cX3_readRest 134 = .ok (.bipush 100, 2) := by decide +kernel
theorem dX3_readRest_136 : decode cX3_readRest 136 = .ok (.invokevirtual 58, 3) := by decide +kernel
theorem dX3_readRest_139 : decode cX3_readRest 139 = .ok (.ireturn, 1) := by decide +kernel
theorem dX3_readRest_140 : decode cX3_readRest 140 = .ok (.aload_n 0, 1) := by decide +kernel
theorem dX3_readRest_141 : decode cX3_readRest 141 = .ok (.getfield 24, 3) := by decide +kernel
theorem dX3_readRest_144 : decode cX3_readRest 144 = .ok (.invokevirtual 65, 3) := by decide +kernel
theorem dX3_readRest_147 : decode cX3_readRest 147 = .ok (.aload_n 0, 1) := by decide +kernel
theorem dX3_readRest_148 : decode cX3_readRest 148 = .ok (.iload_n 1, 1) := by decide +kernel
theorem dX3_readRest_149 : decode cX3_readRest 149 = .ok (.iconst 0, 1) := by decide +kernel
theorem dX3_readRest_150 : decode cX3_readRest 150 = .ok (.aload_n 0, 1) := by decide +kernel
theorem dX3_readRest_151 : decode cX3_readRest 151 = .ok (.getfield 28, 3) := by decide +kernel
theorem dX3_readRest_154 : decode cX3_readRest 154 = .ok (.getfield 68, 3) := by decide +kernel
theorem dX3_readRest_157 : decode cX3_readRest 157 = .ok (.iconst 1, 1) := by decide +kernel
theorem dX3_readRest_158 : decode cX3_readRest 158 = .ok (.isub, 1) := by decide +kernel
theorem dX3_readRest_159 : decode cX3_readRest 159 = .ok (.invokevirtual 58, 3) := by decide +kernel
theorem dX3_readRest_162 : decode cX3_readRest 162 = .ok (.ireturn, 1) := by decide +kernel
theorem dX3_readRest_163 : decode cX3_readRest 163 = .ok (.aload_n 0, 1) := by decide +kernel
theorem dX3_readRest_164 : decode cX3_readRest 164 = .ok (.getfield 24, 3) := by decide +kernel
theorem dX3_readRest_167 : decode cX3_readRest 167 = .ok (.invokevirtual 72, 3) := by decide +kernel
theorem dX3_readRest_170 : decode cX3_readRest 170 = .ok (.ireturn, 1) := by decide +kernel
theorem dX3_readName_0 : decode cX3_readName 0 = .ok (.aload_n 0, 1) := by decide +kernel
theorem dX3_readName_1 : decode cX3_readName 1 = .ok (.getfield 24, 3) := by decide +kernel
theorem dX3_readName_4 : decode cX3_readName 4 = .ok (.invokevirtual 65, 3) := by decide +kernel
theorem dX3_readName_7 : decode cX3_readName 7 = .ok (.aload_n 0, 1) := by decide +kernel
theorem dX3_readName_8 : decode cX3_readName 8 = .ok (.getfield 24, 3) := by decide +kernel
theorem dX3_readName_11 : decode cX3_readName 11 = .ok (.invokevirtual 75, 3) := by decide +kernel
theorem dX3_readName_14 : decode cX3_readName 14 = .ok (.ifCond .ne 5, 3) := by decide +kernel
theorem dX3_readName_17 : decode cX3_readName 17 = .ok (.iconst 0, 1) := by decide +kernel
theorem dX3_readName_18 : decode cX3_readName 18 = .ok (.ireturn, 1) := by decide +kernel
theorem dX3_readName_19 : decode cX3_readName 19 = .ok (.aload_n 0, 1) := by decide +kernel
theorem dX3_readName_20 : decode cX3_readName 20 = .ok (.getfield 15, 3) := by decide +kernel
theorem dX3_readName_23 : decode cX3_readName 23 = .ok (.iload_n 1, 1) := by decide +kernel
theorem dX3_readName_24 : decode cX3_readName 24 = .ok (.aload_n 0, 1) := by decide +kernel
theorem dX3_readName_25 : decode cX3_readName 25 = .ok (.getfield 28, 3) := by decide +kernel
theorem dX3_readName_28 : decode cX3_readName 28 = .ok (.aload_n 0, 1) := by decide +kernel
theorem dX3_readName_29 : decode cX3_readName 29 = .ok (.getfield 24, 3) := by decide +kernel
theorem dX3_readName_32 : decode cX3_readName 32 = .ok (.getfield 78, 3) := by decide +kernel
theorem dX3_readName_35 : decode cX3_readName 35 = .ok (.invokevirtual 82, 3) := by decide +kernel
theorem dX3_readName_38 : decode cX3_readName 38 = .ok (.iastore, 1) := by decide +kernel
theorem dX3_readName_39 : decode cX3_readName 39 = .ok (.aload_n 0, 1) := by decide +kernel
theorem dX3_readName_40 : decode cX3_readName 40 = .ok (.getfield 15, 3) := by decide +kernel
theorem dX3_readName_43 : decode cX3_readName 43 = .ok (.iload_n 1, 1) := by decide +kernel
theorem dX3_readName_44 : decode cX3_readName 44 = .ok (.iaload, 1) := by decide +kernel
theorem dX3_readName_45 : decode cX3_readName 45 = .ok (.iconst (-1), 1) := by decide +kernel
theorem dX3_readName_46 : decode cX3_readName 46 = .ok (.if_icmp .ne 12, 3) := by decide +kernel
theorem dX3_readName_49 : decode cX3_readName 49 = .ok (.aload_n 0, 1) := by decide +kernel
theorem dX3_readName_50 : decode cX3_readName 50 = .ok (.getfield 24, 3) := by decide +kernel
theorem dX3_readName_53 : decode cX3_readName 53 = .ok (.iconst 3, 1) := by decide +kernel
theorem dX3_readName_54 : decode cX3_readName 54 = .ok (.invokevirtual 86, 3) := by decide +kernel
theorem dX3_readName_57 : decode cX3_readName 57 = .ok (.ireturn, 1) := by decide +kernel
theorem dX3_readName_58 : decode cX3_readName 58 = .ok (.aload_n 0, 1) := by decide +kernel
theorem dX3_readName_59 : decode cX3_readName 59 = .ok (.getfield 24, 3) := by decide +kernel
theorem dX3_readName_62 : decode cX3_readName 62 = .ok (.invokevirtual 65, 3) := by decide +kernel
theorem dX3_readName_65 : decode cX3_readName 65 = .ok (.iconst 1, 1) := by decide +kernel
theorem dX3_readName_66 : decode cX3_readName 66 = .ok (.ireturn, 1) := by decide +kernel
theorem dX3_readNumber_0 : decode cX3_readNumber 0 = .ok (.aload_n 0, 1) := by decide +kernel
theorem dX3_readNumber_1 : decode cX3_readNumber 1 = .ok (.getfield 24, 3) := by decide +kernel
theorem dX3_readNumber_4 : decode cX3_readNumber 4 = .ok (.iload_n 2, 1) := by decide +kernel
theorem dX3_readNumber_5 : decode cX3_readNumber 5 = .ok (.iload_n 3, 1) := by decide +kernel
theorem dX3_readNumber_6 : decode cX3_readNumber 6 = .ok (.invokevirtual 89, 3) := by decide +kernel
theorem dX3_readNumber_9 : decode cX3_readNumber 9 = .ok (.ifCond .ne 5, 3) := by decide +kernel
theorem dX3_readNumber_12 : decode cX3_readNumber 12 = .ok (.iconst 0, 1) := by decide +kernel
theorem dX3_readNumber_13 : decode cX3_readNumber 13 = .ok (.ireturn, 1) := by decide +kernel
theorem dX3_readNumber_14 : decode cX3_readNumber 14 = .ok (.aload_n 0, 1) := by decide +kernel
theorem dX3_readNumber_15 : decode cX3_readNumber 15 = .ok (.getfield 18, 3) := by decide +kernel
theorem dX3_readNumber_18 : decode cX3_readNumber 18 = .ok (.iload_n 1, 1) := by decide +kernel
theorem dX3_readNumber_19 : decode cX3_readNumber 19 = .ok (.aload_n 0, 1) := by decide +kernel
theorem dX3_readNumber_20 : decode cX3_readNumber 20 = .ok (.getfield 24, 3) := by decide +kernel
theorem dX3_readNumber_23 : decode cX3_readNumber 23 = .ok (.getfield 93, 3) := by decide +kernel
theorem dX3_readNumber_26 : decode cX3_readNumber 26 = .ok (.iastore, 1) := by decide +kernel
theorem dX3_readNumber_27 : decode cX3_readNumber 27 = .ok (.aload_n 0, 1) := by decide +kernel
theorem dX3_readNumber_28 : decode cX3_readNumber 28 = .ok (.getfield 24, 3) := by decide +kernel
theorem dX3_readNumber_31 : decode cX3_readNumber 31 = .ok (.invokevirtual 65, 3) := by decide +kernel
theorem dX3_readNumber_34 : decode cX3_readNumber 34 = .ok (.iconst 1, 1) := by decide +kernel
theorem dX3_readNumber_35 : decode cX3_readNumber 35 = .ok (.ireturn, 1) := by decide +kernel
theorem dX3_readTo_0 : decode cX3_readTo 0 = .ok (.aload_n 0, 1) := by decide +kernel
theorem dX3_readTo_1 : decode cX3_readTo 1 = .ok (.getfield 24, 3) := by decide +kernel
theorem dX3_readTo_4 : decode cX3_readTo 4 = .ok (.bipush 15, 2) := by decide +kernel
theorem dX3_readTo_6 : decode cX3_readTo 6 = .ok (.invokevirtual 95, 3) := by decide +kernel
theorem dX3_readTo_9 : decode cX3_readTo 9 = .ok (.ifCond .eq 21, 3) := by decide +kernel
theorem dX3_readTo_12 : decode cX3_readTo 12 = .ok (.aload_n 0, 1) := by decide +kernel
theorem dX3_readTo_13 : decode cX3_readTo 13 = .ok (.getfield 24, 3) := by decide +kernel
theorem dX3_readTo_16 : decode cX3_readTo 16 = .ok (.iconst 0, 1) := by decide +kernel
theorem dX3_readTo_17 : decode cX3_readTo 17 = .ok (.aload_n 0, 1) := by decide +kernel
theorem dX3_readTo_18 : decode cX3_readTo 18 = .ok (.getfield 28, 3) := by decide +kernel
theorem dX3_readTo_21 : decode cX3_readTo 21 = .ok (.getfield 68, 3) := by decide +kernel
theorem dX3_readTo_24 : decode cX3_readTo 24 = .ok (.invokevirtual 98, 3) := by decide +kernel
theorem dX3_readTo_27 : decode cX3_readTo 27 = .ok (.ifCond .ne 5, 3) := by decide +kernel
theorem dX3_readTo_30 : decode cX3_readTo 30 = .ok (.iconst 0, 1) := by decide +kernel
theorem dX3_readTo_31 : decode cX3_readTo 31 = .ok (.ireturn, 1) := by decide +kernel
theorem dX3_readTo_32 : decode cX3_readTo 32 = .ok (.aload_n 0, 1) := by decide +kernel
theorem dX3_readTo_33 : decode cX3_readTo 33 = .ok (.getfield 21, 3) := by decide +kernel
theorem dX3_readTo_36 : decode cX3_readTo 36 = .ok (.iload_n 1, 1) := by decide +kernel
theorem dX3_readTo_37 : decode cX3_readTo 37 = .ok (.aload_n 0, 1) := by decide +kernel
theorem dX3_readTo_38 : decode cX3_readTo 38 = .ok (.getfield 24, 3) := by decide +kernel
theorem dX3_readTo_41 : decode cX3_readTo 41 = .ok (.getfield 101, 3) := by decide +kernel
theorem dX3_readTo_44 : decode cX3_readTo 44 = .ok (.iastore, 1) := by decide +kernel
theorem dX3_readTo_45 : decode cX3_readTo 45 = .ok (.iconst 1, 1) := by decide +kernel
theorem dX3_readTo_46 : decode cX3_readTo 46 = .ok (.ireturn, 1) := by decide +kernel
