theorem dX11_init_0 : decode cX11_init 0 = .ok (.aload_n 0, 1) := by decide +kernel
theorem dX11_init_1 : decode cX11_init 1 = .ok (.invokespecial 1, 3) := by decide +kernel
theorem dX11_init_4 : decode cX11_init 4 = .ok (.aload_n 0, 1) := by decide +kernel
theorem dX11_init_5 : decode cX11_init 5 = .ok (.sipush 800, 3) := by decide +kernel
theorem dX11_init_8 : decode cX11_init 8 = .ok (.newarray .int, 2) := by decide +kernel
theorem dX11_init_10 : decode cX11_init 10 = .ok (.putfield 7, 3) := by decide +kernel
theorem dX11_init_13 : decode cX11_init 13 = .ok (.aload_n 0, 1) := by decide +kernel
theorem dX11_init_14 : decode cX11_init 14 = .ok (.iconst (-1), 1) := by decide +kernel
theorem dX11_init_15 : decode cX11_init 15 = .ok (.putfield 13, 3) := by decide +kernel
theorem dX11_init_18 : decode cX11_init 18 = .ok (.aload_n 0, 1) := by decide +kernel
theorem dX11_init_19 : decode cX11_init 19 = .ok (.iconst (-1), 1) := by decide +kernel
theorem dX11_init_20 : decode cX11_init 20 = .ok (.putfield 17, 3) := by decide +kernel
theorem dX11_init_23 : decode cX11_init 23 = .ok (.aload_n 0, 1) := by decide +kernel
theorem dX11_init_24 : decode cX11_init 24 = .ok (.bipush 10, 2) := by decide +kernel
theorem dX11_init_26 : decode cX11_init 26 = .ok (.newarray .int, 2) := by decide +kernel
theorem dX11_init_28 : decode cX11_init 28 = .ok (.putfield 20, 3) := by decide +kernel
theorem dX11_init_31 : decode cX11_init 31 = .ok (.aload_n 0, 1) := by decide +kernel
theorem dX11_init_32 : decode cX11_init 32 = .ok (.bipush 10, 2) := by decide +kernel
theorem dX11_init_34 : decode cX11_init 34 = .ok (.newarray .int, 2) := by decide +kernel
theorem dX11_init_36 : decode cX11_init 36 = .ok (.putfield 23, 3) := by decide +kernel
theorem dX11_init_39 : decode cX11_init 39 = .ok (.aload_n 0, 1) := by decide +kernel
theorem dX11_init_40 : decode cX11_init 40 = .ok (.bipush 10, 2) := by decide +kernel
theorem dX11_init_42 : decode cX11_init 42 = .ok (.newarray .int, 2) := by decide +kernel
theorem dX11_init_44 : decode cX11_init 44 = .ok (.putfield 26, 3) := by decide +kernel
theorem dX11_init_47 : decode cX11_init 47 = .ok (.aload_n 0, 1) := by decide +kernel
theorem dX11_init_48 : decode cX11_init 48 = .ok (.bipush 10, 2) := by decide +kernel
theorem dX11_init_50 : decode cX11_init 50 = .ok (.newarray .int, 2) := by decide +kernel
theorem dX11_init_52 : decode cX11_init 52 = .ok (.putfield 29, 3) := by decide +kernel
theorem dX11_init_55 : decode cX11_init 55 = .ok (.aload_n 0, 1) := by decide +kernel
theorem dX11_init_56 : decode cX11_init 56 = .ok (.bipush 10, 2) := by decide +kernel
theorem dX11_init_58 : decode cX11_init 58 = .ok (.newarray .int, 2) := by decide +kernel
theorem dX11_init_60 : decode cX11_init 60 = .ok (.putfield 32, 3) := by decide +kernel
theorem dX11_init_63 : decode cX11_init 63 = .ok (.aload_n 0, 1) := by decide +kernel
theorem dX11_init_64 : decode cX11_init 64 = .ok (.bipush 10, 2) := by decide +kernel
theorem dX11_init_66 : decode cX11_init 66 = .ok (.newarray .int, 2) := by decide +kernel
theorem dX11_init_68 : decode cX11_init 68 = .ok (.putfield 35, 3) := by decide +kernel
theorem dX11_init_71 : decode cX11_init 71 = .ok (.aload_n 0, 1) := by decide +kernel
theorem dX11_init_72 : decode cX11_init 72 = .ok (.bipush 10, 2) := by decide +kernel
theorem dX11_init_74 : decode cX11_init 74 = .ok (.newarray .int, 2) := by decide +kernel
theorem dX11_init_76 : decode cX11_init 76 = .ok (.putfield 38, 3) := by decide +kernel
theorem dX11_init_79 : decode cX11_init 79 = .ok (.aload_n 0, 1) := by decide +kernel
theorem dX11_init_80 : decode cX11_init 80 = .ok (.bipush 10, 2) := by decide +kernel
theorem dX11_init_82 : decode cX11_init 82 = .ok (.newarray .int, 2) := by decide +kernel
theorem dX11_init_84 : decode cX11_init 84 = .ok (.putfield 41, 3) := by decide +kernel
theorem dX11_init_87 : decode cX11_init 87 = .ok (.aload_n 0, 1) := by decide +kernel
theorem dX11_init_88 : decode cX11_init 88 = .ok (.bipush 10, 2) := by decide +kernel
theorem dX11_init_90 : decode cX11_init 90 = .ok (.newarray .long, 2) := by decide +kernel
theorem dX11_init_92 : decode cX11_init 92 = .ok (.putfield 44, 3) := by decide +kernel
theorem dX11_init_95 : decode cX11_init 95 = .ok (.aload_n 0, 1) := by decide +kernel
theorem dX11_init_96 : decode cX11_init 96 = .ok (.bipush 10, 2) := by decide +kernel
theorem dX11_init_98 : decode cX11_init 98 = .ok (.newarray .long, 2) := by decide +kernel
theorem dX11_init_100 : decode cX11_init 100 = .ok (.putfield 48, 3) := by decide +kernel
theorem dX11_init_103 : decode cX11_init 103 = .ok (.aload_n 0, 1) := by decide +kernel
theorem dX11_init_104 : decode cX11_init 104 = .ok (.sipush 1775, 3) := by decide +kernel
theorem dX11_init_107 : decode cX11_init 107 = .ok (.newarray .int, 2) := by decide +kernel
theorem dX11_init_109 : decode cX11_init 109 = .ok (.putfield 51, 3) := by decide +kernel
theorem dX11_init_112 : decode cX11_init 112 = .ok (.aload_n 0, 1) := by decide +kernel
theorem dX11_init_113 : decode cX11_init 113 = .ok (.sipush 1775, 3) := by decide +kernel
theorem dX11_init_116 : decode cX11_init 116 = .ok (.newarray .int, 2) := by decide +kernel
theorem dX11_init_118 : decode cX11_init 118 = .ok (.putfield 54, 3) := by decide +kernel
theorem dX11_init_121 : decode cX11_init 121 = .ok (.aload_n 0, 1) := by decide +kernel
theorem dX11_init_122 : decode cX11_init 122 = .ok (.sipush 28400, 3) := by decide +kernel
theorem dX11_init_125 : decode cX11_init 125 = .ok (.newarray .int, 2) := by decide +kernel
theorem dX11_init_127 : decode cX11_init 127 = .ok (.putfield 57, 3) := by decide +kernel
theorem dX11_init_130 : decode cX11_init 130 = .ok (.aload_n 0, 1) := by decide +kernel
theorem dX11_init_131 : decode cX11_init 131 = .ok (.sipush 1775, 3) := by decide +kernel
theorem dX11_init_134 : decode cX11_init 134 = .ok (.newarray .int, 2) := by decide +kernel
theorem dX11_init_136 : decode cX11_init 136 = .ok (.putfield 60, 3) := by decide +kernel
theorem dX11_init_139 : decode cX11_init 139 = .ok (.aload_n 0, 1) := by decide +kernel
theorem dX11_init_140 : decode cX11_init 140 = .ok (.sipush 1600, 3) := by decide +kernel
theorem dX11_init_143 : decode cX11_init 143 = .ok (.newarray .int, 2) := by decide +kernel
theorem dX11_init_145 : decode cX11_init 145 = .ok (.putfield 63, 3) := by decide +kernel
theorem dX11_init_148 : decode cX11_init 148 = .ok (.aload_n 0, 1) := by decide +kernel
theorem dX11_init_149 : decode cX11_init 149 = .ok (.sipush 1775, 3) := by decide +kernel
theorem dX11_init_152 : decode cX11_init 152 = .ok (.newarray .int, 2) := by decide +kernel
theorem dX11_init_154 : decode cX11_init 154 = .ok (.putfield 66, 3) := by decide +kernel
theorem dX11_init_157 : decode cX11_init 157 = .ok (.aload_n 0, 1) := by decide +kernel
theorem dX11_init_158 : decode cX11_init 158 = .ok (.sipush 3550, 3) := by decide +kernel
theorem dX11_init_161 : decode cX11_init 161 = .ok (.newarray .int, 2) := by decide +kernel
theorem dX11_init_163 : decode cX11_init 163 = .ok (.putfield 69, 3) := by decide +kernel
theorem dX11_init_166 : decode cX11_init 166 = .ok (.aload_n 0, 1) := by decide +kernel
theorem dX11_init_167 : decode cX11_init 167 = .ok (.iconst 2, 1) := by decide +kernel
theorem dX11_init_168 : decode cX11_init 168 = .ok (.newarray .boolean, 2) := by decide +kernel
theorem dX11_init_170 : decode cX11_init 170 = .ok (.putfield 72, 3) := by decide +kernel
theorem dX11_init_173 : decode cX11_init 173 = .ok (.aload_n 0, 1) := by decide +kernel
theorem dX11_init_174 : decode cX11_init 174 = .ok (.invokevirtual 76, 3) := by decide +kernel
theorem dX11_init_177 : decode cX11_init 177 = .ok (.aload_n 0, 1) := by decide +kernel
theorem dX11_init_178 : decode cX11_init 178 = .ok (.invokevirtual 79, 3) := by decide +kernel
theorem dX11_init_181 : decode cX11_init 181 = .ok (.return_, 1) := by decide +kernel
theorem dX11_isIn_0 : decode cX11_isIn 0 = .ok (.iload_n 0, 1) := by decide +kernel
theorem dX11_isIn_1 : decode cX11_isIn 1 = .ok (.iload_n 1, 1) := by decide +kernel
theorem dX11_isIn_2 : decode cX11_isIn 2 = .ok (.if_icmp .lt 12, 3) := by decide +kernel
theorem dX11_isIn_5 : decode cX11_isIn 5 = .ok (.iload_n 0, 1) := by decide +kernel
theorem dX11_isIn_6 : decode cX11_isIn 6 = .ok (.iload_n 2, 1) := by decide +kernel
theorem dX11_isIn_7 : decode cX11_isIn 7 = .ok (.if_icmp .gt 7, 3) := by decide +kernel
theorem dX11_isIn_10 : decode cX11_isIn 10 = .ok (.iconst 1, 1) := by decide +kernel
theorem dX11_isIn_11 : decode cX11_isIn 11 = .ok (.goto 4, 3) := by decide +kernel
theorem dX11_isIn_14 : decode cX11_isIn 14 = .ok (.iconst 0, 1) := by decide +kernel
theorem dX11_isIn_15 : decode cX11_isIn 15 = .ok (.ireturn, 1) := by decide +kernel
theorem dX11_truth_0 : decode cX11_truth 0 = .ok (.iload_n 0, 1) := by decide +kernel
theorem dX11_truth_1 : decode cX11_truth 1 = .ok (.ifCond .eq 7, 3) := by decide +kernel
theorem dX11_truth_4 : decode cX11_truth 4 = .ok (.iconst 1, 1) := by decide +kernel
theorem dX11_truth_5 : decode cX11_truth 5 = .ok (.goto 4, 3) := by decide +kernel
theorem dX11_truth_8 : decode cX11_truth 8 = .ok (.iconst 0, 1) := by decide +kernel
theorem dX11_truth_9 : decode cX11_truth 9 = .ok (.ireturn, 1) := by decide +kernel
theorem dX11_greater_0 : decode cX11_greater 0 = .ok (.iload_n 0, 1) := by decide +kernel
theorem dX11_greater_1 : decode cX11_greater 1 = .ok (.iload_n 1, 1) := by decide +kernel
theorem dX11_greater_2 : decode cX11_greater 2 = .ok (.if_icmp .le 7, 3) := by decide +kernel
theorem dX11_greater_5 : decode cX11_greater 5 = .ok (.iload_n 0, 1) := by decide +kernel
theorem dX11_greater_6 : decode cX11_greater 6 = .ok (.goto 4, 3) := by decide +kernel
theorem dX11_greater_9 : decode cX11_greater 9 = .ok (.iload_n 1, 1) := by decide +kernel
theorem dX11_greater_10 : decode cX11_greater 10 = .ok (.ireturn, 1) := by decide +kernel
theorem dX11_lesser_0 : decode cX11_lesser 0 = .ok (.iload_n 0, 1) := by decide +kernel
theorem dX11_lesser_1 : decode cX11_lesser 1 = .ok (.iload_n 1, 1) := by decide +kernel
theorem dX11_lesser_2 : decode cX11_lesser 2 = .ok (.if_icmp .ge 7, 3) := by decide +kernel
theorem dX11_lesser_5 : decode cX11_lesser 5 = .ok (.iload_n 0, 1) := by decide +kernel
theorem dX11_lesser_6 : decode cX11_lesser 6 = .ok (.goto 4, 3) := by decide +kernel
theorem dX11_lesser_9 : decode cX11_lesser 9 = .ok (.iload_n 1, 1) := by decide +kernel
theorem dX11_lesser_10 : decode cX11_lesser 10 = .ok (.ireturn, 1) := by decide +kernel
theorem dX11_isOf_0 : decode cX11_isOf 0 = .ok (.iload_n 0, 1) := by decide +kernel
theorem dX11_isOf_1 : decode cX11_isOf 1 = .ok (.iload_n 1, 1) := by decide +kernel
theorem dX11_isOf_2 : decode cX11_isOf 2 = .ok (.ishr, 1) := by decide +kernel
theorem dX11_isOf_3 : decode cX11_isOf 3 = .ok (.iconst 1, 1) := by decide +kernel
theorem dX11_isOf_4 : decode cX11_isOf 4 = .ok (.iand, 1) := by decide +kernel
theorem dX11_isOf_5 : decode cX11_isOf 5 = .ok (.iconst 1, 1) := by decide +kernel
theorem dX11_isOf_6 : decode cX11_isOf 6 = .ok (.if_icmp .ne 7, 3) := by decide +kernel
theorem dX11_isOf_9 : decode cX11_isOf 9 = .ok (.iconst 1, 1) := by decide +kernel
theorem dX11_isOf_10 : decode cX11_isOf 10 = .ok (.goto 4, 3) := by decide +kernel
theorem dX11_isOf_13 : decode cX11_isOf 13 = .ok (.iconst 0, 1) := by decide +kernel
theorem dX11_isOf_14 : decode cX11_isOf 14 = .ok (.ireturn, 1) := by decide +kernel
theorem dX11_feed_0 : decode cX11_feed 0 = .ok (.aload_n 0, 1) := by decide +kernel
theorem dX11_feed_1 : decode cX11_feed 1 = .ok (.getfield 82, 3) := by decide +kernel
theorem dX11_feed_4 : decode cX11_feed 4 = .ok (.bipush 20, 2) := by decide +kernel
theorem dX11_feed_6 : decode cX11_feed 6 = .ok (.iadd, 1) := by decide +kernel
theorem dX11_feed_7 : decode cX11_feed 7 = .ok (.sipush 800, 3) := by decide +kernel
theorem dX11_feed_10 : decode cX11_feed 10 = .ok (.if_icmp .le 5, 3) := by decide +kernel
theorem dX11_feed_13 : decode cX11_feed 13 = .ok (.iconst (-1), 1) := by decide +kernel
theorem dX11_feed_14 : decode cX11_feed 14 = .ok (.ireturn, 1) := by decide +kernel
theorem dX11_feed_15 : decode cX11_feed 15 = .ok (.aload_n 0, 1) := by decide +kernel
theorem dX11_feed_16 : decode cX11_feed 16 = .ok (.iload_n 1, 1) := by decide +kernel
theorem dX11_feed_17 : decode cX11_feed 17 = .ok (.invokevirtual 85, 3) := by decide +kernel
theorem dX11_feed_20 : decode cX11_feed 20 = .ok (.aload_n 0, 1) := by decide +kernel
theorem dX11_feed_21 : decode cX11_feed 21 = .ok (.iload_n 2, 1) := by decide +kernel
theorem dX11_feed_22 : decode cX11_feed 22 = .ok (.invokevirtual 85, 3) := by decide +kernel
theorem dX11_feed_25 : decode cX11_feed 25 = .ok (.aload_n 0, 1) := by decide +kernel
theorem dX11_feed_26 : decode cX11_feed 26 = .ok (.iload_n 3, 1) := by decide +kernel
theorem dX11_feed_27 : decode cX11_feed 27 = .ok (.invokevirtual 85, 3) := by decide +kernel
theorem dX11_feed_30 : decode cX11_feed 30 = .ok (.aload_n 0, 1) := by decide +kernel
theorem dX11_feed_31 : decode cX11_feed 31 = .ok (.iload 4, 2) := by decide +kernel
theorem dX11_feed_33 : decode cX11_feed 33 = .ok (.invokevirtual 85, 3) := by decide +kernel
theorem dX11_feed_36 : decode cX11_feed 36 = .ok (.aload_n 0, 1) := by decide +kernel
theorem dX11_feed_37 : decode cX11_feed 37 = .ok (.iload 5, 2) := by decide +kernel
theorem dX11_feed_39 : decode cX11_feed 39 = .ok (.invokevirtual 85, 3) := by decide +kernel
theorem dX11_feed_42 : decode cX11_feed 42 = .ok (.aload_n 0, 1) := by decide +kernel
theorem dX11_feed_43 : decode cX11_feed 43 = .ok (.getfield 82, 3) := by decide +kernel
theorem dX11_feed_46 : decode cX11_feed 46 = .ok (.ireturn, 1) := by decide +kernel
theorem dX11_four_0 : decode cX11_four 0 = .ok (.bipush 24, 2) := by decide +kernel
theorem dX11_four_2 : decode cX11_four 2 = .ok (.istore_n 2, 1) := by decide +kernel
theorem dX11_four_3 : decode cX11_four 3 = .ok (.iload_n 2, 1) := by decide +kernel
theorem dX11_four_4 : decode cX11_four 4 = .ok (.ifCond .lt 35, 3) := by decide +kernel
theorem dX11_four_7 : decode cX11_four 7 = .ok (.aload_n 0, 1) := by decide +kernel
theorem dX11_four_8 : decode cX11_four 8 = .ok (.getfield 7, 3) := by decide +kernel
theorem dX11_four_11 : decode cX11_four 11 = .ok (.aload_n 0, 1) := by decide +kernel
theorem dX11_four_12 : decode cX11_four 12 = .ok (.getfield 82, 3) := by decide +kernel
theorem dX11_four_15 : decode cX11_four 15 = .ok (.iload_n 1, 1) := by decide +kernel
theorem dX11_four_16 : decode cX11_four 16 = .ok (.iload_n 2, 1) := by decide +kernel
theorem dX11_four_17 : decode cX11_four 17 = .ok (.ishr, 1) := by decide +kernel
theorem dX11_four_18 : decode cX11_four 18 = .ok (.sipush 255, 3) := by decide +kernel
theorem dX11_four_21 : decode cX11_four 21 = .ok (.iand, 1) := by decide +kernel
theorem dX11_four_22 : decode cX11_four 22 = .ok (.iastore, 1) := by decide +kernel
theorem dX11_four_23 : decode cX11_four 23 = .ok (.aload_n 0, 1) := by decide +kernel
theorem dX11_four_24 : decode cX11_four 24 = .ok (.dup, 1) := by decide +kernel
theorem dX11_four_25 : decode cX11_four 25 = .ok (.getfield 82, 3) := by decide +kernel
theorem dX11_four_28 : decode cX11_four 28 = .ok (.iconst 1, 1) := by decide +kernel
theorem dX11_four_29 : decode cX11_four 29 = .ok (.iadd, 1) := by decide +kernel
theorem dX11_four_30 : decode cX11_four 30 = .ok (.putfield 82, 3) := by decide +kernel
theorem dX11_four_33 : decode cX11_four 33 = .ok (.iinc 2 (-8), 3) := by decide +kernel
theorem dX11_four_36 : decode cX11_four 36 = .ok (.goto (-33), 3) := by decide +kernel
theorem dX11_four_39 : decode cX11_four 39 = .ok (.return_, 1) := by decide +kernel
theorem dX11_end_0 : decode cX11_end 0 = .ok (.iload_n 1, 1) := by decide +kernel
theorem dX11_end_1 : decode cX11_end 1 = .ok (.iconst 0, 1) := by decide +kernel
theorem dX11_end_2 : decode cX11_end 2 = .ok (.aload_n 0, 1) := by decide +kernel
theorem dX11_end_3 : decode cX11_end 3 = .ok (.getfield 82, 3) := by decide +kernel
theorem dX11_end_6 : decode cX11_end 6 = .ok (.invokestatic 89, 3) := by decide +kernel
theorem dX11_end_9 : decode cX11_end 9 = .ok (.ifCond .ne 5, 3) := by decide +kernel
theorem dX11_end_12 : decode cX11_end 12 = .ok (.iconst (-1), 1) := by decide +kernel
theorem dX11_end_13 : decode cX11_end 13 = .ok (.ireturn, 1) := by decide +kernel
theorem dX11_end_14 : decode cX11_end 14 = .ok (.aload_n 0, 1) := by decide +kernel
theorem dX11_end_15 : decode cX11_end 15 = .ok (.iload_n 1, 1) := by decide +kernel
theorem dX11_end_16 : decode cX11_end 16 = .ok (.putfield 82, 3) := by decide +kernel
theorem dX11_end_19 : decode cX11_end 19 = .ok (.iload_n 1, 1) := by decide +kernel
theorem dX11_end_20 : decode cX11_end 20 = .ok (.ireturn, 1) := by decide +kernel
theorem dX11_here_0 : decode cX11_here 0 = .ok (.aload_n 0, 1) := by decide +kernel
theorem dX11_here_1 : decode cX11_here 1 = .ok (.getfield 93, 3) := by decide +kernel
theorem dX11_here_4 : decode cX11_here 4 = .ok (.iload_n 1, 1) := by decide +kernel
theorem dX11_here_5 : decode cX11_here 5 = .ok (.iadd, 1) := by decide +kernel
theorem dX11_here_6 : decode cX11_here 6 = .ok (.aload_n 0, 1) := by decide +kernel
theorem dX11_here_7 : decode cX11_here 7 = .ok (.getfield 96, 3) := by decide +kernel
theorem dX11_here_10 : decode cX11_here 10 = .ok (.if_icmp .ge 17, 3) := by decide +kernel
theorem dX11_here_13 : decode cX11_here 13 = .ok (.aload_n 0, 1) := by decide +kernel
theorem dX11_here_14 : decode cX11_here 14 = .ok (.getfield 7, 3) := by decide +kernel
theorem dX11_here_17 : decode cX11_here 17 = .ok (.aload_n 0, 1) := by decide +kernel
theorem dX11_here_18 : decode cX11_here 18 = .ok (.getfield 93, 3) := by decide +kernel
theorem dX11_here_21 : decode cX11_here 21 = .ok (.iload_n 1, 1) := by decide +kernel
theorem dX11_here_22 : decode cX11_here 22 = .ok (.iadd, 1) := by decide +kernel
theorem dX11_here_23 : decode cX11_here 23 = .ok (.iaload, 1) := by decide +kernel
theorem dX11_here_24 : decode cX11_here 24 = .ok (.goto 4, 3) := by decide +kernel
theorem dX11_here_27 : decode cX11_here 27 = .ok (.iconst (-1), 1) := by decide +kernel
theorem dX11_here_28 : decode cX11_here 28 = .ok (.ireturn, 1) := by decide +kernel
theorem dX11_isLetter_0 : decode cX11_isLetter 0 = .ok (.iload_n 0, 1) := by decide +kernel
theorem dX11_isLetter_1 : decode cX11_isLetter 1 = .ok (.bipush 97, 2) := by decide +kernel
theorem dX11_isLetter_3 : decode cX11_isLetter 3 = .ok (.if_icmp .lt 13, 3) := by decide +kernel
theorem dX11_isLetter_6 : decode cX11_isLetter 6 = .ok (.iload_n 0, 1) := by decide +kernel
theorem dX11_isLetter_7 : decode cX11_isLetter 7 = .ok (.bipush 122, 2) := by decide +kernel
theorem dX11_isLetter_9 : decode cX11_isLetter 9 = .ok (.if_icmp .gt 7, 3) := by decide +kernel
theorem dX11_isLetter_12 : decode cX11_isLetter 12 = .ok (.iconst 1, 1) := by decide +kernel
theorem dX11_isLetter_13 : decode cX11_isLetter 13 = .ok (.goto 4, 3) := by decide +kernel
theorem dX11_isLetter_16 : decode cX11_isLetter 16 = .ok (.iconst 0, 1) := by decide +kernel
theorem dX11_isLetter_17 : decode cX11_isLetter 17 = .ok (.ireturn, 1) := by decide +kernel
theorem dX11_isDigit_0 : decode cX11_isDigit 0 = .ok (.iload_n 0, 1) := by decide +kernel
theorem dX11_isDigit_1 : decode cX11_isDigit 1 = .ok (.bipush 48, 2) := by decide +kernel
theorem dX11_isDigit_3 : decode cX11_isDigit 3 = .ok (.if_icmp .lt 13, 3) := by decide +kernel
theorem dX11_isDigit_6 : decode cX11_isDigit 6 = .ok (.iload_n 0, 1) := by decide +kernel
theorem dX11_isDigit_7 : decode cX11_isDigit 7 = .ok (.bipush 57, 2) := by decide +kernel
theorem dX11_isDigit_9 : decode cX11_isDigit 9 = .ok (.if_icmp .gt 7, 3) := by decide +kernel
theorem dX11_isDigit_12 : decode cX11_isDigit 12 = .ok (.iconst 1, 1) := by decide +kernel
theorem dX11_isDigit_13 : decode cX11_isDigit 13 = .ok (.goto 4, 3) := by decide +kernel
theorem dX11_isDigit_16 : decode cX11_isDigit 16 = .ok (.iconst 0, 1) := by decide +kernel
theorem dX11_isDigit_17 : decode cX11_isDigit 17 = .ok (.ireturn, 1) := by decide +kernel
theorem dX11_goOn_0 : decode cX11_goOn 0 = .ok (.aload_n 0, 1) := by decide +kernel
theorem dX11_goOn_1 : decode cX11_goOn 1 = .ok (.iconst 0, 1) := by decide +kernel
theorem dX11_goOn_2 : decode cX11_goOn 2 = .ok (.invokevirtual 99, 3) := by decide +kernel
theorem dX11_goOn_5 : decode cX11_goOn 5 = .ok (.bipush 32, 2) := by decide +kernel
theorem dX11_goOn_7 : decode cX11_goOn 7 = .ok (.if_icmp .eq 13, 3) := by decide +kernel
theorem dX11_goOn_10 : decode cX11_goOn 10 = .ok (.aload_n 0, 1) := by decide +kernel
theorem dX11_goOn_11 : decode cX11_goOn 11 = .ok (.iconst 0, 1) := by decide +kernel
theorem dX11_goOn_12 : decode cX11_goOn 12 = .ok (.invokevirtual 99, 3) := by decide +kernel
theorem dX11_goOn_15 : decode cX11_goOn 15 = .ok (.bipush 10, 2) := by decide +kernel
theorem dX11_goOn_17 : decode cX11_goOn 17 = .ok (.if_icmp .ne 16, 3) := by decide +kernel
theorem dX11_goOn_20 : decode cX11_goOn 20 = .ok (.aload_n 0, 1) := by decide +kernel
theorem dX11_goOn_21 : decode cX11_goOn 21 = .ok (.dup, 1) := by decide +kernel
theorem dX11_goOn_22 : decode cX11_goOn 22 = .ok (.getfield 93, 3) := by decide +kernel
theorem dX11_goOn_25 : decode cX11_goOn 25 = .ok (.iconst 1, 1) := by decide +kernel
theorem dX11_goOn_26 : decode cX11_goOn 26 = .ok (.iadd, 1) := by decide +kernel
theorem dX11_goOn_27 : decode cX11_goOn 27 = .ok (.putfield 93, 3) := by decide +kernel
theorem dX11_goOn_30 : decode cX11_goOn 30 = .ok (.goto (-30), 3) := by decide +kernel
theorem dX11_goOn_33 : decode cX11_goOn 33 = .ok (.aload_n 0, 1) := by decide +kernel
theorem dX11_goOn_34 : decode cX11_goOn 34 = .ok (.aload_n 0, 1) := by decide +kernel
theorem dX11_goOn_35 : decode cX11_goOn 35 = .ok (.getfield 93, 3) := by decide +kernel
theorem dX11_goOn_38 : decode cX11_goOn 38 = .ok (.putfield 103, 3) := by decide +kernel
theorem dX11_goOn_41 : decode cX11_goOn 41 = .ok (.iconst 0, 1) := by decide +kernel
theorem dX11_goOn_42 : decode cX11_goOn 42 = .ok (.istore_n 1, 1) := by decide +kernel
theorem dX11_goOn_43 : decode cX11_goOn 43 = .ok (.aload_n 0, 1) := by decide +kernel
theorem dX11_goOn_44 : decode cX11_goOn 44 = .ok (.lconst 0, 1) := by decide +kernel
theorem dX11_goOn_45 : decode cX11_goOn 45 = .ok (.putfield 106, 3) := by decide +kernel
theorem dX11_goOn_48 : decode cX11_goOn 48 = .ok (.aload_n 0, 1) := by decide +kernel
theorem dX11_goOn_49 : decode cX11_goOn 49 = .ok (.iconst 0, 1) := by decide +kernel
theorem dX11_goOn_50 : decode cX11_goOn 50 = .ok (.putfield 110, 3) := by decide +kernel
theorem dX11_goOn_53 : decode cX11_goOn 53 = .ok (.aload_n 0, 1) := by decide +kernel
theorem dX11_goOn_54 : decode cX11_goOn 54 = .ok (.iconst 0, 1) := by decide +kernel
theorem dX11_goOn_55 : decode cX11_goOn 55 = .ok (.putfield 113, 3) := by decide +kernel
theorem dX11_goOn_58 : decode cX11_goOn 58 = .ok (.aload_n 0, 1) := by decide +kernel
theorem dX11_goOn_59 : decode cX11_goOn 59 = .ok (.iconst 0, 1) := by decide +kernel
theorem dX11_goOn_60 : decode cX11_goOn 60 = .ok (.invokevirtual 99, 3) := by decide +kernel
theorem dX11_goOn_63 : decode cX11_goOn 63 = .ok (.ifCond .ge 9, 3) := by decide +kernel
theorem dX11_goOn_66 : decode cX11_goOn 66 = .ok (.aload_n 0, 1) := by decide +kernel
theorem dX11_goOn_67 : decode cX11_goOn 67 = .ok (.iconst 0, 1) := by decide +kernel
theorem dX11_goOn_68 : decode cX11_goOn 68 = .ok (.putfield 116, 3) := by decide +kernel
theorem dX11_goOn_71 : decode cX11_goOn 71 = .ok (.return_, 1) := by decide +kernel
theorem dX11_goOn_72 : decode cX11_goOn 72 = .ok (.aload_n 0, 1) := by decide +kernel
theorem dX11_goOn_73 : decode cX11_goOn 73 = .ok (.iconst 0, 1) := by decide +kernel
theorem dX11_goOn_74 : decode cX11_goOn 74 = .ok (.invokevirtual 99, 3) := by decide +kernel
theorem dX11_goOn_77 : decode cX11_goOn 77 = .ok (.invokestatic 119, 3) := by decide +kernel
theorem dX11_goOn_80 : decode cX11_goOn 80 = .ok (.ifCond .eq 67, 3) := by decide +kernel
theorem dX11_goOn_83 : decode cX11_goOn 83 = .ok (.aload_n 0, 1) := by decide +kernel
theorem dX11_goOn_84 : decode cX11_goOn 84 = .ok (.iload_n 1, 1) := by decide +kernel
theorem dX11_goOn_85 : decode cX11_goOn 85 = .ok (.invokevirtual 99, 3) := by decide +kernel
theorem dX11_goOn_88 : decode cX11_goOn 88 = .ok (.invokestatic 119, 3) := by decide +kernel
theorem dX11_goOn_91 : decode cX11_goOn 91 = .ok (.ifCond .eq 33, 3) := by decide +kernel
theorem dX11_goOn_94 : decode cX11_goOn 94 = .ok (.iload_n 1, 1) := by decide +kernel
theorem dX11_goOn_95 : decode cX11_goOn 95 = .ok (.bipush 8, 2) := by decide +kernel
theorem dX11_goOn_97 : decode cX11_goOn 97 = .ok (.if_icmp .ge 21, 3) := by decide +kernel
theorem dX11_goOn_100 : decode cX11_goOn 100 = .ok (.aload_n 0, 1) := by decide +kernel
theorem dX11_goOn_101 : decode cX11_goOn 101 = .ok (.aload_n 0, 1) := by decide +kernel
theorem dX11_goOn_102 : decode cX11_goOn 102 = .ok (.getfield 106, 3) := by decide +kernel
theorem dX11_goOn_105 : decode cX11_goOn 105 = .ok (.bipush 8, 2) := by decide +kernel
theorem dX11_goOn_107 : decode cX11_goOn 107 = .ok (.lshl, 1) := by decide +kernel
theorem dX11_goOn_108 : decode cX11_goOn 108 = .ok (.aload_n 0, 1) := by decide +kernel
theorem dX11_goOn_109 : decode cX11_goOn 109 = .ok (.iload_n 1, 1) := by decide +kernel
theorem dX11_goOn_110 : decode cX11_goOn 110 = .ok (.invokevirtual 99, 3) := by decide +kernel
theorem dX11_goOn_113 : decode cX11_goOn 113 = .ok (.i2l, 1) := by decide +kernel
theorem dX11_goOn_114 : decode cX11_goOn 114 = .ok (.lor, 1) := by decide +kernel
theorem dX11_goOn_115 : decode cX11_goOn 115 = .ok (.putfield 106, 3) := by decide +kernel
theorem dX11_goOn_118 : decode cX11_goOn 118 = .ok (.iinc 1 1, 3) := by decide +kernel
theorem dX11_goOn_121 : decode cX11_goOn 121 = .ok (.goto (-38), 3) := by decide +kernel
theorem dX11_goOn_124 : decode cX11_goOn 124 = .ok (.aload_n 0, 1) := by decide +kernel
theorem dX11_goOn_125 : decode cX11_goOn 125 = .ok (.iload_n 1, 1) := by decide +kernel
theorem dX11_goOn_126 : decode cX11_goOn 126 = .ok (.putfield 113, 3) := by decide +kernel
theorem dX11_goOn_129 : decode cX11_goOn 129 = .ok (.aload_n 0, 1) := by decide +kernel
theorem dX11_goOn_130 : decode cX11_goOn 130 = .ok (.iload_n 1, 1) := by decide +kernel
theorem dX11_goOn_131 : decode cX11_goOn 131 = .ok (.bipush 8, 2) := by decide +kernel
theorem dX11_goOn_133 : decode cX11_goOn 133 = .ok (.if_icmp .le 7, 3) := by decide +kernel
theorem dX11_goOn_136 : decode cX11_goOn 136 = .ok (.iconst 4, 1) := by decide +kernel
theorem dX11_goOn_137 : decode cX11_goOn 137 = .ok (.goto 4, 3) := by decide +kernel
theorem dX11_goOn_140 : decode cX11_goOn 140 = .ok (.iconst 1, 1) := by decide +kernel
theorem dX11_goOn_141 : decode cX11_goOn 141 = .ok (.putfield 116, 3) := by decide +kernel
theorem dX11_goOn_144 : decode cX11_goOn 144 = .ok (.goto 105, 3) := by decide +kernel
theorem dX11_goOn_147 : decode cX11_goOn 147 = .ok (.aload_n 0, 1) := by decide +kernel
theorem dX11_goOn_148 : decode cX11_goOn 148 = .ok (.iconst 0, 1) := by decide +kernel
theorem dX11_goOn_149 : decode cX11_goOn 149 = .ok (.invokevirtual 99, 3) := by decide +kernel
theorem dX11_goOn_152 : decode cX11_goOn 152 = .ok (.invokestatic 123, 3) := by decide +kernel
theorem dX11_goOn_155 : decode cX11_goOn 155 = .ok (.ifCond .eq 73, 3) := by decide +kernel
theorem dX11_goOn_158 : decode cX11_goOn 158 = .ok (.aload_n 0, 1) := by decide +kernel
theorem dX11_goOn_159 : decode cX11_goOn 159 = .ok (.iload_n 1, 1) := by decide +kernel
theorem dX11_goOn_160 : decode cX11_goOn 160 = .ok (.invokevirtual 99, 3) := by decide +kernel
theorem dX11_goOn_163 : decode cX11_goOn 163 = .ok (.invokestatic 123, 3) := by decide +kernel
theorem dX11_goOn_166 : decode cX11_goOn 166 = .ok (.ifCond .eq 34, 3) := by decide +kernel
theorem dX11_goOn_169 : decode cX11_goOn 169 = .ok (.iload_n 1, 1) := by decide +kernel
theorem dX11_goOn_170 : decode cX11_goOn 170 = .ok (.iconst 3, 1) := by decide +kernel
theorem dX11_goOn_171 : decode cX11_goOn 171 = .ok (.if_icmp .ge 23, 3) := by decide +kernel
theorem dX11_goOn_174 : decode cX11_goOn 174 = .ok (.aload_n 0, 1) := by decide +kernel
theorem dX11_goOn_175 : decode cX11_goOn 175 = .ok (.bipush 10, 2) := by decide +kernel
theorem dX11_goOn_177 : decode cX11_goOn 177 = .ok (.aload_n 0, 1) := by decide +kernel
theorem dX11_goOn_178 : decode cX11_goOn 178 = .ok (.getfield 110, 3) := by decide +kernel
theorem dX11_goOn_181 : decode cX11_goOn 181 = .ok (.imul, 1) := by decide +kernel
theorem dX11_goOn_182 : decode cX11_goOn 182 = .ok (.aload_n 0, 1) := by decide +kernel
theorem dX11_goOn_183 : decode cX11_goOn 183 = .ok (.iload_n 1, 1) := by decide +kernel
theorem dX11_goOn_184 : decode cX11_goOn 184 = .ok (.invokevirtual 99, 3) := by decide +kernel
theorem dX11_goOn_187 : decode cX11_goOn 187 = .ok (.iadd, 1) := by decide +kernel
theorem dX11_goOn_188 : decode cX11_goOn 188 = .ok (.bipush 48, 2) := by decide +kernel
theorem dX11_goOn_190 : decode cX11_goOn 190 = .ok (.isub, 1) := by decide +kernel
theorem dX11_goOn_191 : decode cX11_goOn 191 = .ok (.putfield 110, 3) := by decide +kernel
theorem dX11_goOn_194 : decode cX11_goOn 194 = .ok (.iinc 1 1, 3) := by decide +kernel
theorem dX11_goOn_197 : decode cX11_goOn 197 = .ok (.goto (-39), 3) := by decide +kernel
theorem dX11_goOn_200 : decode cX11_goOn 200 = .ok (.aload_n 0, 1) := by decide +kernel
theorem dX11_goOn_201 : decode cX11_goOn 201 = .ok (.iload_n 1, 1) := by decide +kernel
theorem dX11_goOn_202 : decode cX11_goOn 202 = .ok (.iconst 3, 1) := by decide +kernel
theorem dX11_goOn_203 : decode cX11_goOn 203 = .ok (.if_icmp .gt 14, 3) := by decide +kernel
theorem dX11_goOn_206 : decode cX11_goOn 206 = .ok (.aload_n 0, 1) := by decide +kernel
theorem dX11_goOn_207 : decode cX11_goOn 207 = .ok (.iload_n 1, 1) := by decide +kernel
theorem dX11_goOn_208 : decode cX11_goOn 208 = .ok (.invokevirtual 99, 3) := by decide +kernel
theorem dX11_goOn_211 : decode cX11_goOn 211 = .ok (.invokestatic 119, 3) := by decide +kernel
theorem dX11_goOn_214 : decode cX11_goOn 214 = .ok (.ifCond .eq 7, 3) := by decide +kernel
theorem dX11_goOn_217 : decode cX11_goOn 217 = .ok (.iconst 4, 1) := by decide +kernel
theorem dX11_goOn_218 : decode cX11_goOn 218 = .ok (.goto 4, 3) := by decide +kernel
theorem dX11_goOn_221 : decode cX11_goOn 221 = .ok (.iconst 2, 1) := by decide +kernel
theorem dX11_goOn_222 : decode cX11_goOn 222 = .ok (.putfield 116, 3) := by decide +kernel
theorem dX11_goOn_225 : decode cX11_goOn 225 = .ok (.goto 24, 3) := by decide +kernel
theorem dX11_goOn_228 : decode cX11_goOn 228 = .ok (.aload_n 0, 1) := by decide +kernel
theorem dX11_goOn_229 : decode cX11_goOn 229 = .ok (.aload_n 0, 1) := by decide +kernel
theorem dX11_goOn_230 : decode cX11_goOn 230 = .ok (.iconst 0, 1) := by decide +kernel
theorem dX11_goOn_231 : decode cX11_goOn 231 = .ok (.invokevirtual 99, 3) := by decide +kernel
theorem dX11_goOn_234 : decode cX11_goOn 234 = .ok (.bipush 59, 2) := by decide +kernel
theorem dX11_goOn_236 : decode cX11_goOn 236 = .ok (.if_icmp .ne 7, 3) := by decide +kernel
theorem dX11_goOn_239 : decode cX11_goOn 239 = .ok (.iconst 3, 1) := by decide +kernel
theorem dX11_goOn_240 : decode cX11_goOn 240 = .ok (.goto 4, 3) := by decide +kernel
theorem dX11_goOn_243 : decode cX11_goOn 243 = .ok (.iconst 4, 1) := by decide +kernel
theorem dX11_goOn_244 : decode cX11_goOn 244 = .ok (.putfield 116, 3) := by decide +kernel
theorem dX11_goOn_247 : decode cX11_goOn 247 = .ok (.iconst 1, 1) := by decide +kernel
theorem dX11_goOn_248 : decode cX11_goOn 248 = .ok (.istore_n 1, 1) := by decide +kernel
theorem dX11_goOn_249 : decode cX11_goOn 249 = .ok (.aload_n 0, 1) := by decide +kernel
theorem dX11_goOn_250 : decode cX11_goOn 250 = .ok (.dup, 1) := by decide +kernel
theorem dX11_goOn_251 : decode cX11_goOn 251 = .ok (.getfield 93, 3) := by decide +kernel
theorem dX11_goOn_254 : decode cX11_goOn 254 = .ok (.iload_n 1, 1) := by decide +kernel
theorem dX11_goOn_255 : decode cX11_goOn 255 = .ok (.iadd, 1) := by decide +kernel
theorem dX11_goOn_256 : decode cX11_goOn 256 = .ok (.putfield 93, 3) := by decide +kernel
theorem dX11_goOn_259 : decode cX11_goOn 259 = .ok (.return_, 1) := by decide +kernel
theorem dX11_wrong_0 : decode cX11_wrong 0 = .ok (.aload_n 0, 1) := by decide +kernel
theorem dX11_wrong_1 : decode cX11_wrong 1 = .ok (.getfield 126, 3) := by decide +kernel
theorem dX11_wrong_4 : decode cX11_wrong 4 = .ok (.ifCond .le 4, 3) := by decide +kernel
theorem dX11_wrong_7 : decode cX11_wrong 7 = .ok (.return_, 1) := by decide +kernel
theorem dX11_wrong_8 : decode cX11_wrong 8 = .ok (.aload_n 0, 1) := by decide +kernel
theorem dX11_wrong_9 : decode cX11_wrong 9 = .ok (.aload_n 0, 1) := by decide +kernel
theorem dX11_wrong_10 : decode cX11_wrong 10 = .ok (.getfield 116, 3) := by decide +kernel
theorem dX11_wrong_13 : decode cX11_wrong 13 = .ok (.iconst 4, 1) := by decide +kernel
theorem dX11_wrong_14 : decode cX11_wrong 14 = .ok (.if_icmp .ne 7, 3) := by decide +kernel
theorem dX11_wrong_17 : decode cX11_wrong 17 = .ok (.iconst 1, 1) := by decide +kernel
theorem dX11_wrong_18 : decode cX11_wrong 18 = .ok (.goto 4, 3) := by decide +kernel
theorem dX11_wrong_21 : decode cX11_wrong 21 = .ok (.iload_n 1, 1) := by decide +kernel
theorem dX11_wrong_22 : decode cX11_wrong 22 = .ok (.putfield 126, 3) := by decide +kernel
theorem dX11_wrong_25 : decode cX11_wrong 25 = .ok (.aload_n 0, 1) := by decide +kernel
theorem dX11_wrong_26 : decode cX11_wrong 26 = .ok (.aload_n 0, 1) := by decide +kernel
theorem dX11_wrong_27 : decode cX11_wrong 27 = .ok (.getfield 103, 3) := by decide +kernel
theorem dX11_wrong_30 : decode cX11_wrong 30 = .ok (.putfield 13, 3) := by decide +kernel
theorem dX11_wrong_33 : decode cX11_wrong 33 = .ok (.return_, 1) := by decide +kernel
theorem dX11_isGood_0 : decode cX11_isGood 0 = .ok (.aload_n 0, 1) := by decide +kernel
theorem dX11_isGood_1 : decode cX11_isGood 1 = .ok (.getfield 126, 3) := by decide +kernel
theorem dX11_isGood_4 : decode cX11_isGood 4 = .ok (.ifCond .ne 7, 3) := by decide +kernel
theorem dX11_isGood_7 : decode cX11_isGood 7 = .ok (.iconst 1, 1) := by decide +kernel
theorem dX11_isGood_8 : decode cX11_isGood 8 = .ok (.goto 4, 3) := by decide +kernel
theorem dX11_isGood_11 : decode cX11_isGood 11 = .ok (.iconst 0, 1) := by decide +kernel
theorem dX11_isGood_12 : decode cX11_isGood 12 = .ok (.ireturn, 1) := by decide +kernel
theorem dX11_isWord_0 : decode cX11_isWord 0 = .ok (.aload_n 0, 1) := by decide +kernel
theorem dX11_isWord_1 : decode cX11_isWord 1 = .ok (.getfield 126, 3) := by decide +kernel
theorem dX11_isWord_4 : decode cX11_isWord 4 = .ok (.ifCond .ne 24, 3) := by decide +kernel
theorem dX11_isWord_7 : decode cX11_isWord 7 = .ok (.aload_n 0, 1) := by decide +kernel
theorem dX11_isWord_8 : decode cX11_isWord 8 = .ok (.getfield 116, 3) := by decide +kernel
theorem dX11_isWord_11 : decode cX11_isWord 11 = .ok (.iconst 1, 1) := by decide +kernel
theorem dX11_isWord_12 : decode cX11_isWord 12 = .ok (.if_icmp .ne 16, 3) := by decide +kernel
theorem dX11_isWord_15 : decode cX11_isWord 15 = .ok (.aload_n 0, 1) := by decide +kernel
theorem dX11_isWord_16 : decode cX11_isWord 16 = .ok (.getfield 106, 3) := by decide +kernel
theorem dX11_isWord_19 : decode cX11_isWord 19 = .ok (.lload_n 1, 1) := by decide +kernel
theorem dX11_isWord_20 : decode cX11_isWord 20 = .ok (.lcmp, 1) := by decide +kernel
theorem dX11_isWord_21 : decode cX11_isWord 21 = .ok (.ifCond .ne 7, 3) := by decide +kernel
theorem dX11_isWord_24 : decode cX11_isWord 24 = .ok (.iconst 1, 1) := by decide +kernel
theorem dX11_isWord_25 : decode cX11_isWord 25 = .ok (.goto 4, 3) := by decide +kernel
theorem dX11_isWord_28 : decode cX11_isWord 28 = .ok (.iconst 0, 1) := by decide +kernel
theorem dX11_isWord_29 : decode cX11_isWord 29 = .ok (.ireturn, 1) := by decide +kernel
theorem dX11_orderHere_0 : decode cX11_orderHere 0 = .ok (.aload_n 0, 1) := by decide +kernel
theorem dX11_orderHere_1 : decode cX11_orderHere 1 = .ok (.ldc2_w 129, 3) := by decide +kernel
theorem dX11_orderHere_4 : decode cX11_orderHere 4 = .ok (.invokevirtual 131, 3) := by decide +kernel
theorem dX11_orderHere_7 : decode cX11_orderHere 7 = .ok (.ifCond .eq 5, 3) := by decide +kernel
theorem dX11_orderHere_10 : decode cX11_orderHere 10 = .ok (.iconst 0, 1) := by decide +kernel
theorem dX11_orderHere_11 : decode cX11_orderHere 11 = .ok (.ireturn, 1) := by decide +kernel
theorem dX11_orderHere_12 : decode cX11_orderHere 12 = .ok (.aload_n 0, 1) := by decide +kernel
theorem dX11_orderHere_13 : decode cX11_orderHere 13 = .ok (.ldc2_w 135, 3) := by decide +kernel
theorem dX11_orderHere_16 : decode cX11_orderHere 16 = .ok (.invokevirtual 131, 3) := by decide +kernel
theorem dX11_orderHere_19 : decode cX11_orderHere 19 = .ok (.ifCond .eq 5, 3) := by decide +kernel
theorem dX11_orderHere_22 : decode cX11_orderHere 22 = .ok (.iconst 1, 1) := by decide +kernel
theorem dX11_orderHere_23 : decode cX11_orderHere 23 = .ok (.ireturn, 1) := by decide +kernel
theorem dX11_orderHere_24 : decode cX11_orderHere 24 = .ok (.aload_n 0, 1) := by decide +kernel
theorem dX11_orderHere_25 : decode cX11_orderHere 25 = .ok (.ldc2_w 137, 3) := by decide +kernel
theorem dX11_orderHere_28 : decode cX11_orderHere 28 = .ok (.invokevirtual 131, 3) := by decide +kernel
theorem dX11_orderHere_31 : decode cX11_orderHere 31 = .ok (.ifCond .eq 5, 3) := by decide +kernel
theorem dX11_orderHere_34 : decode cX11_orderHere 34 = .ok (.iconst 2, 1) := by decide +kernel
theorem dX11_orderHere_35 : decode cX11_orderHere 35 = .ok (.ireturn, 1) := by decide +kernel
theorem dX11_orderHere_36 : decode cX11_orderHere 36 = .ok (.aload_n 0, 1) := by decide +kernel
theorem dX11_orderHere_37 : decode cX11_orderHere 37 = .ok (.ldc2_w 139, 3) := by decide +kernel
theorem dX11_orderHere_40 : decode cX11_orderHere 40 = .ok (.invokevirtual 131, 3) := by decide +kernel
theorem dX11_orderHere_43 : decode cX11_orderHere 43 = .ok (.ifCond .eq 5, 3) := by decide +kernel
theorem dX11_orderHere_46 : decode cX11_orderHere 46 = .ok (.iconst 3, 1) := by decide +kernel
theorem dX11_orderHere_47 : decode cX11_orderHere 47 = .ok (.ireturn, 1) := by decide +kernel
theorem dX11_orderHere_48 : decode cX11_orderHere 48 = .ok (.aload_n 0, 1) := by decide +kernel
theorem dX11_orderHere_49 : decode cX11_orderHere 49 = .ok (.ldc2_w 141, 3) := by decide +kernel
theorem dX11_orderHere_52 : decode cX11_orderHere 52 = .ok (.invokevirtual 131, 3) := by decide +kernel
theorem dX11_orderHere_55 : decode cX11_orderHere 55 = .ok (.ifCond .eq 5, 3) := by decide +kernel
theorem dX11_orderHere_58 : decode cX11_orderHere 58 = .ok (.iconst 4, 1) := by decide +kernel
theorem dX11_orderHere_59 : decode cX11_orderHere 59 = .ok (.ireturn, 1) := by decide +kernel
theorem dX11_orderHere_60 : decode cX11_orderHere 60 = .ok (.aload_n 0, 1) := by decide +kernel
theorem dX11_orderHere_61 : decode cX11_orderHere 61 = .ok (.ldc2_w 143, 3) := by decide +kernel
theorem dX11_orderHere_64 : decode cX11_orderHere 64 = .ok (.invokevirtual 131, 3) := by decide +kernel
theorem dX11_orderHere_67 : decode cX11_orderHere 67 = .ok (.ifCond .eq 5, 3) := by decide +kernel
theorem dX11_orderHere_70 : decode cX11_orderHere 70 = .ok (.iconst 5, 1) := by decide +kernel
theorem dX11_orderHere_71 : decode cX11_orderHere 71 = .ok (.ireturn, 1) := by decide +kernel
theorem dX11_orderHere_72 : decode cX11_orderHere 72 = .ok (.aload_n 0, 1) := by decide +kernel
theorem dX11_orderHere_73 : decode cX11_orderHere 73 = .ok (.ldc2_w 145, 3) := by decide +kernel
theorem dX11_orderHere_76 : decode cX11_orderHere 76 = .ok (.invokevirtual 131, 3) := by decide +kernel
theorem dX11_orderHere_79 : decode cX11_orderHere 79 = .ok (.ifCond .eq 6, 3) := by decide +kernel
theorem dX11_orderHere_82 : decode cX11_orderHere 82 = .ok (.bipush 6, 2) := by decide +kernel
theorem dX11_orderHere_84 : decode cX11_orderHere 84 = .ok (.ireturn, 1) := by decide +kernel
theorem dX11_orderHere_85 : decode cX11_orderHere 85 = .ok (.aload_n 0, 1) := by decide +kernel
theorem dX11_orderHere_86 : decode cX11_orderHere 86 = .ok (.ldc2_w 147, 3) := by decide +kernel
theorem dX11_orderHere_89 : decode cX11_orderHere 89 = .ok (.invokevirtual 131, 3) := by decide +kernel
theorem dX11_orderHere_92 : decode cX11_orderHere 92 = .ok (.ifCond .eq 6, 3) := by decide +kernel
theorem dX11_orderHere_95 : decode cX11_orderHere 95 = .ok (.bipush 7, 2) := by decide +kernel
theorem dX11_orderHere_97 : decode cX11_orderHere 97 = .ok (.ireturn, 1) := by decide +kernel
theorem dX11_orderHere_98 : decode cX11_orderHere 98 = .ok (.aload_n 0, 1) := by decide +kernel
theorem dX11_orderHere_99 : decode cX11_orderHere 99 = .ok (.ldc2_w 149, 3) := by decide +kernel
theorem dX11_orderHere_102 : decode cX11_orderHere 102 = .ok (.invokevirtual 131, 3) := by decide +kernel
theorem dX11_orderHere_105 : decode cX11_orderHere 105 = .ok (.ifCond .eq 8, 3) := by decide +kernel
theorem dX11_orderHere_108 : decode cX11_orderHere 108 = .ok (.bipush 8, 2) := by decide +kernel
theorem dX11_orderHere_110 : decode cX11_orderHere 110 = .ok (.goto 4, 3) := by decide +kernel
theorem dX11_orderHere_113 : decode cX11_orderHere 113 = .ok (.iconst (-1), 1) := by decide +kernel
theorem dX11_orderHere_114 : decode cX11_orderHere 114 = .ok (.ireturn, 1) := by decide +kernel
theorem dX11_isOwn_0 : decode cX11_isOwn 0 = .ok (.aload_n 0, 1) := by decide +kernel
theorem dX11_isOwn_1 : decode cX11_isOwn 1 = .ok (.getfield 106, 3) := by decide +kernel
theorem dX11_isOwn_4 : decode cX11_isOwn 4 = .ok (.ldc2_w 151, 3) := by decide +kernel
theorem dX11_isOwn_7 : decode cX11_isOwn 7 = .ok (.lcmp, 1) := by decide +kernel
theorem dX11_isOwn_8 : decode cX11_isOwn 8 = .ok (.ifCond .eq 58, 3) := by decide +kernel
theorem dX11_isOwn_11 : decode cX11_isOwn 11 = .ok (.aload_n 0, 1) := by decide +kernel
theorem dX11_isOwn_12 : decode cX11_isOwn 12 = .ok (.getfield 106, 3) := by decide +kernel
theorem dX11_isOwn_15 : decode cX11_isOwn 15 = .ok (.ldc2_w 153, 3) := by decide +kernel
theorem dX11_isOwn_18 : decode cX11_isOwn 18 = .ok (.lcmp, 1) := by decide +kernel
theorem dX11_isOwn_19 : decode cX11_isOwn 19 = .ok (.ifCond .eq 47, 3) := by decide +kernel
theorem dX11_isOwn_22 : decode cX11_isOwn 22 = .ok (.aload_n 0, 1) := by decide +kernel
theorem dX11_isOwn_23 : decode cX11_isOwn 23 = .ok (.getfield 106, 3) := by decide +kernel
theorem dX11_isOwn_26 : decode cX11_isOwn 26 = .ok (.ldc2_w 155, 3) := by decide +kernel
theorem dX11_isOwn_29 : decode cX11_isOwn 29 = .ok (.lcmp, 1) := by decide +kernel
theorem dX11_isOwn_30 : decode cX11_isOwn 30 = .ok (.ifCond .eq 36, 3) := by decide +kernel
theorem dX11_isOwn_33 : decode cX11_isOwn 33 = .ok (.aload_n 0, 1) := by decide +kernel
theorem dX11_isOwn_34 : decode cX11_isOwn 34 = .ok (.getfield 106, 3) := by decide +kernel
theorem dX11_isOwn_37 : decode cX11_isOwn 37 = .ok (.ldc2_w 157, 3) := by decide +kernel
theorem dX11_isOwn_40 : decode cX11_isOwn 40 = .ok (.lcmp, 1) := by decide +kernel
theorem dX11_isOwn_41 : decode cX11_isOwn 41 = .ok (.ifCond .eq 25, 3) := by decide +kernel
theorem dX11_isOwn_44 : decode cX11_isOwn 44 = .ok (.aload_n 0, 1) := by decide +kernel
theorem dX11_isOwn_45 : decode cX11_isOwn 45 = .ok (.getfield 106, 3) := by decide +kernel
theorem dX11_isOwn_48 : decode cX11_isOwn 48 = .ok (.ldc2_w 159, 3) := by decide +kernel
theorem dX11_isOwn_51 : decode cX11_isOwn 51 = .ok (.lcmp, 1) := by decide +kernel
theorem dX11_isOwn_52 : decode cX11_isOwn 52 = .ok (.ifCond .eq 14, 3) := by decide +kernel
theorem dX11_isOwn_55 : decode cX11_isOwn 55 = .ok (.aload_n 0, 1) := by decide +kernel
theorem dX11_isOwn_56 : decode cX11_isOwn 56 = .ok (.getfield 106, 3) := by decide +kernel
theorem dX11_isOwn_59 : decode cX11_isOwn 59 = .ok (.ldc2_w 161, 3) := by decide +kernel
theorem dX11_isOwn_62 : decode cX11_isOwn 62 = .ok (.lcmp, 1) := by decide +kernel
theorem dX11_isOwn_63 : decode cX11_isOwn 63 = .ok (.ifCond .ne 5, 3) := by decide +kernel
theorem dX11_isOwn_66 : decode cX11_isOwn 66 = .ok (.iconst 1, 1) := by decide +kernel
theorem dX11_isOwn_67 : decode cX11_isOwn 67 = .ok (.ireturn, 1) := by decide +kernel
theorem dX11_isOwn_68 : decode cX11_isOwn 68 = .ok (.aload_n 0, 1) := by decide +kernel
theorem dX11_isOwn_69 : decode cX11_isOwn 69 = .ok (.getfield 106, 3) := by decide +kernel
theorem dX11_isOwn_72 : decode cX11_isOwn 72 = .ok (.ldc2_w 163, 3) := by decide +kernel
theorem dX11_isOwn_75 : decode cX11_isOwn 75 = .ok (.lcmp, 1) := by decide +kernel
theorem dX11_isOwn_76 : decode cX11_isOwn 76 = .ok (.ifCond .eq 44, 3) := by decide +kernel
theorem dX11_isOwn_79 : decode cX11_isOwn 79 = .ok (.aload_n 0, 1) := by decide +kernel
theorem dX11_isOwn_80 : decode cX11_isOwn 80 = .ok (.getfield 106, 3) := by decide +kernel
theorem dX11_isOwn_83 : decode cX11_isOwn 83 = .ok (.ldc2_w 165, 3) := by decide +kernel
theorem dX11_isOwn_86 : decode cX11_isOwn 86 = .ok (.lcmp, 1) := by decide +kernel
theorem dX11_isOwn_87 : decode cX11_isOwn 87 = .ok (.ifCond .eq 33, 3) := by decide +kernel
theorem dX11_isOwn_90 : decode cX11_isOwn 90 = .ok (.aload_n 0, 1) := by decide +kernel
theorem dX11_isOwn_91 : decode cX11_isOwn 91 = .ok (.getfield 106, 3) := by decide +kernel
theorem dX11_isOwn_94 : decode cX11_isOwn 94 = .ok (.ldc2_w 167, 3) := by decide +kernel
theorem dX11_isOwn_97 : decode cX11_isOwn 97 = .ok (.lcmp, 1) := by decide +kernel
theorem dX11_isOwn_98 : decode cX11_isOwn 98 = .ok (.ifCond .eq 22, 3) := by decide +kernel
theorem dX11_isOwn_101 : decode cX11_isOwn 101 = .ok (.aload_n 0, 1) := by decide +kernel
theorem dX11_isOwn_102 : decode cX11_isOwn 102 = .ok (.getfield 106, 3) := by decide +kernel
theorem dX11_isOwn_105 : decode cX11_isOwn 105 = .ok (.ldc2_w 169, 3) := by decide +kernel
theorem dX11_isOwn_108 : decode cX11_isOwn 108 = .ok (.lcmp, 1) := by decide +kernel
theorem dX11_isOwn_109 : decode cX11_isOwn 109 = .ok (.ifCond .eq 11, 3) := by decide +kernel
theorem dX11_isOwn_112 : decode cX11_isOwn 112 = .ok (.aload_n 0, 1) := by decide +kernel
theorem dX11_isOwn_113 : decode cX11_isOwn 113 = .ok (.invokevirtual 171, 3) := by decide +kernel
theorem dX11_isOwn_116 : decode cX11_isOwn 116 = .ok (.iconst (-1), 1) := by decide +kernel
theorem dX11_isOwn_117 : decode cX11_isOwn 117 = .ok (.if_icmp .eq 7, 3) := by decide +kernel
theorem dX11_isOwn_120 : decode cX11_isOwn 120 = .ok (.iconst 1, 1) := by decide +kernel
theorem dX11_isOwn_121 : decode cX11_isOwn 121 = .ok (.goto 4, 3) := by decide +kernel
theorem dX11_isOwn_124 : decode cX11_isOwn 124 = .ok (.iconst 0, 1) := by decide +kernel
theorem dX11_isOwn_125 : decode cX11_isOwn 125 = .ok (.ireturn, 1) := by decide +kernel
theorem dX11_numberHere_0 : decode cX11_numberHere 0 = .ok (.aload_n 0, 1) := by decide +kernel
theorem dX11_numberHere_1 : decode cX11_numberHere 1 = .ok (.getfield 126, 3) := by decide +kernel
theorem dX11_numberHere_4 : decode cX11_numberHere 4 = .ok (.ifCond .le 5, 3) := by decide +kernel
theorem dX11_numberHere_7 : decode cX11_numberHere 7 = .ok (.iconst 0, 1) := by decide +kernel
theorem dX11_numberHere_8 : decode cX11_numberHere 8 = .ok (.ireturn, 1) := by decide +kernel
theorem dX11_numberHere_9 : decode cX11_numberHere 9 = .ok (.aload_n 0, 1) := by decide +kernel
theorem dX11_numberHere_10 : decode cX11_numberHere 10 = .ok (.getfield 116, 3) := by decide +kernel
theorem dX11_numberHere_13 : decode cX11_numberHere 13 = .ok (.iconst 2, 1) := by decide +kernel
theorem dX11_numberHere_14 : decode cX11_numberHere 14 = .ok (.if_icmp .eq 11, 3) := by decide +kernel
theorem dX11_numberHere_17 : decode cX11_numberHere 17 = .ok (.aload_n 0, 1) := by decide +kernel
theorem dX11_numberHere_18 : decode cX11_numberHere 18 = .ok (.iconst 2, 1) := by decide +kernel
theorem dX11_numberHere_19 : decode cX11_numberHere 19 = .ok (.invokevirtual 175, 3) := by decide +kernel
theorem dX11_numberHere_22 : decode cX11_numberHere 22 = .ok (.goto 20, 3) := by decide +kernel
theorem dX11_numberHere_25 : decode cX11_numberHere 25 = .ok (.aload_n 0, 1) := by decide +kernel
theorem dX11_numberHere_26 : decode cX11_numberHere 26 = .ok (.getfield 110, 3) := by decide +kernel
theorem dX11_numberHere_29 : decode cX11_numberHere 29 = .ok (.iload_n 1, 1) := by decide +kernel
theorem dX11_numberHere_30 : decode cX11_numberHere 30 = .ok (.iload_n 2, 1) := by decide +kernel
theorem dX11_numberHere_31 : decode cX11_numberHere 31 = .ok (.invokestatic 89, 3) := by decide +kernel
theorem dX11_numberHere_34 : decode cX11_numberHere 34 = .ok (.ifCond .ne 8, 3) := by decide +kernel
theorem dX11_numberHere_37 : decode cX11_numberHere 37 = .ok (.aload_n 0, 1) := by decide +kernel
theorem dX11_numberHere_38 : decode cX11_numberHere 38 = .ok (.iconst 4, 1) := by decide +kernel
theorem dX11_numberHere_39 : decode cX11_numberHere 39 = .ok (.invokevirtual 175, 3) := by decide +kernel
theorem dX11_numberHere_42 : decode cX11_numberHere 42 = .ok (.aload_n 0, 1) := by decide +kernel
theorem dX11_numberHere_43 : decode cX11_numberHere 43 = .ok (.getfield 110, 3) := by decide +kernel
theorem dX11_numberHere_46 : decode cX11_numberHere 46 = .ok (.ireturn, 1) := by decide +kernel
theorem dX11_numberIn_0 : decode cX11_numberIn 0 = .ok (.aload_n 0, 1) := by decide +kernel
theorem dX11_numberIn_1 : decode cX11_numberIn 1 = .ok (.iload_n 1, 1) := by decide +kernel
theorem dX11_numberIn_2 : decode cX11_numberIn 2 = .ok (.iload_n 2, 1) := by decide +kernel
theorem dX11_numberIn_3 : decode cX11_numberIn 3 = .ok (.invokevirtual 178, 3) := by decide +kernel
theorem dX11_numberIn_6 : decode cX11_numberIn 6 = .ok (.istore_n 3, 1) := by decide +kernel
theorem dX11_numberIn_7 : decode cX11_numberIn 7 = .ok (.aload_n 0, 1) := by decide +kernel
theorem dX11_numberIn_8 : decode cX11_numberIn 8 = .ok (.invokevirtual 182, 3) := by decide +kernel
theorem dX11_numberIn_11 : decode cX11_numberIn 11 = .ok (.ifCond .eq 7, 3) := by decide +kernel
theorem dX11_numberIn_14 : decode cX11_numberIn 14 = .ok (.aload_n 0, 1) := by decide +kernel
theorem dX11_numberIn_15 : decode cX11_numberIn 15 = .ok (.invokevirtual 186, 3) := by decide +kernel
theorem dX11_numberIn_18 : decode cX11_numberIn 18 = .ok (.iload_n 3, 1) := by decide +kernel
theorem dX11_numberIn_19 : decode cX11_numberIn 19 = .ok (.ireturn, 1) := by decide +kernel
theorem dX11_nameHere_0 : decode cX11_nameHere 0 = .ok (.aload_n 0, 1) := by decide +kernel
theorem dX11_nameHere_1 : decode cX11_nameHere 1 = .ok (.getfield 126, 3) := by decide +kernel
theorem dX11_nameHere_4 : decode cX11_nameHere 4 = .ok (.ifCond .le 5, 3) := by decide +kernel
theorem dX11_nameHere_7 : decode cX11_nameHere 7 = .ok (.lconst 0, 1) := by decide +kernel
theorem dX11_nameHere_8 : decode cX11_nameHere 8 = .ok (.lreturn, 1) := by decide +kernel
theorem dX11_nameHere_9 : decode cX11_nameHere 9 = .ok (.aload_n 0, 1) := by decide +kernel
theorem dX11_nameHere_10 : decode cX11_nameHere 10 = .ok (.getfield 116, 3) := by decide +kernel
theorem dX11_nameHere_13 : decode cX11_nameHere 13 = .ok (.iconst 1, 1) := by decide +kernel
theorem dX11_nameHere_14 : decode cX11_nameHere 14 = .ok (.if_icmp .ne 19, 3) := by decide +kernel
theorem dX11_nameHere_17 : decode cX11_nameHere 17 = .ok (.aload_n 0, 1) := by decide +kernel
theorem dX11_nameHere_18 : decode cX11_nameHere 18 = .ok (.getfield 113, 3) := by decide +kernel
theorem dX11_nameHere_21 : decode cX11_nameHere 21 = .ok (.bipush 7, 2) := by decide +kernel
theorem dX11_nameHere_23 : decode cX11_nameHere 23 = .ok (.if_icmp .gt 10, 3) := by decide +kernel
theorem dX11_nameHere_26 : decode cX11_nameHere 26 = .ok (.aload_n 0, 1) := by decide +kernel
theorem dX11_nameHere_27 : decode cX11_nameHere 27 = .ok (.invokevirtual 189, 3) := by decide +kernel
theorem dX11_nameHere_30 : decode cX11_nameHere 30 = .ok (.ifCond .eq 8, 3) := by decide +kernel
theorem dX11_nameHere_33 : decode cX11_nameHere 33 = .ok (.aload_n 0, 1) := by decide +kernel
theorem dX11_nameHere_34 : decode cX11_nameHere 34 = .ok (.iconst 2, 1) := by decide +kernel
theorem dX11_nameHere_35 : decode cX11_nameHere 35 = .ok (.invokevirtual 175, 3) := by decide +kernel
theorem dX11_nameHere_38 : decode cX11_nameHere 38 = .ok (.aload_n 0, 1) := by decide +kernel
theorem dX11_nameHere_39 : decode cX11_nameHere 39 = .ok (.getfield 106, 3) := by decide +kernel
theorem dX11_nameHere_42 : decode cX11_nameHere 42 = .ok (.lreturn, 1) := by decide +kernel
theorem dX11_setOf_0 : decode cX11_setOf 0 = .ok (.iload_n 2, 1) := by decide +kernel
theorem dX11_setOf_1 : decode cX11_setOf 1 = .ok (.istore_n 3, 1) := by decide +kernel
theorem dX11_setOf_2 : decode cX11_setOf 2 = .ok (.aload_n 0, 1) := by decide +kernel
theorem dX11_setOf_3 : decode cX11_setOf 3 = .ok (.invokevirtual 182, 3) := by decide +kernel
theorem dX11_setOf_6 : decode cX11_setOf 6 = .ok (.istore 4, 2) := by decide +kernel
theorem dX11_setOf_8 : decode cX11_setOf 8 = .ok (.iload 4, 2) := by decide +kernel
theorem dX11_setOf_10 : decode cX11_setOf 10 = .ok (.ifCond .eq 77, 3) := by decide +kernel
theorem dX11_setOf_13 : decode cX11_setOf 13 = .ok (.aload_n 0, 1) := by decide +kernel
theorem dX11_setOf_14 : decode cX11_setOf 14 = .ok (.iconst 0, 1) := by decide +kernel
theorem dX11_setOf_15 : decode cX11_setOf 15 = .ok (.iload_n 1, 1) := by decide +kernel
theorem dX11_setOf_16 : decode cX11_setOf 16 = .ok (.iconst 1, 1) := by decide +kernel
theorem dX11_setOf_17 : decode cX11_setOf 17 = .ok (.isub, 1) := by decide +kernel
theorem dX11_setOf_18 : decode cX11_setOf 18 = .ok (.invokevirtual 178, 3) := by decide +kernel
theorem dX11_setOf_21 : decode cX11_setOf 21 = .ok (.istore 5, 2) := by decide +kernel
theorem dX11_setOf_23 : decode cX11_setOf 23 = .ok (.aload_n 0, 1) := by decide +kernel
theorem dX11_setOf_24 : decode cX11_setOf 24 = .ok (.invokevirtual 182, 3) := by decide +kernel
theorem dX11_setOf_27 : decode cX11_setOf 27 = .ok (.ifCond .eq 17, 3) := by decide +kernel
theorem dX11_setOf_30 : decode cX11_setOf 30 = .ok (.iload_n 3, 1) := by decide +kernel
theorem dX11_setOf_31 : decode cX11_setOf 31 = .ok (.iload 5, 2) := by decide +kernel
theorem dX11_setOf_33 : decode cX11_setOf 33 = .ok (.invokestatic 192, 3) := by decide +kernel
theorem dX11_setOf_36 : decode cX11_setOf 36 = .ok (.ifCond .eq 8, 3) := by decide +kernel
theorem dX11_setOf_39 : decode cX11_setOf 39 = .ok (.aload_n 0, 1) := by decide +kernel
theorem dX11_setOf_40 : decode cX11_setOf 40 = .ok (.iconst 3, 1) := by decide +kernel
theorem dX11_setOf_41 : decode cX11_setOf 41 = .ok (.invokevirtual 175, 3) := by decide +kernel
theorem dX11_setOf_44 : decode cX11_setOf 44 = .ok (.aload_n 0, 1) := by decide +kernel
theorem dX11_setOf_45 : decode cX11_setOf 45 = .ok (.invokevirtual 182, 3) := by decide +kernel
theorem dX11_setOf_48 : decode cX11_setOf 48 = .ok (.ifCond .eq 14, 3) := by decide +kernel
theorem dX11_setOf_51 : decode cX11_setOf 51 = .ok (.iload_n 3, 1) := by decide +kernel
theorem dX11_setOf_52 : decode cX11_setOf 52 = .ok (.iconst 1, 1) := by decide +kernel
theorem dX11_setOf_53 : decode cX11_setOf 53 = .ok (.iload 5, 2) := by decide +kernel
theorem dX11_setOf_55 : decode cX11_setOf 55 = .ok (.ishl, 1) := by decide +kernel
theorem dX11_setOf_56 : decode cX11_setOf 56 = .ok (.ior, 1) := by decide +kernel
theorem dX11_setOf_57 : decode cX11_setOf 57 = .ok (.istore_n 3, 1) := by decide +kernel
theorem dX11_setOf_58 : decode cX11_setOf 58 = .ok (.aload_n 0, 1) := by decide +kernel
theorem dX11_setOf_59 : decode cX11_setOf 59 = .ok (.invokevirtual 186, 3) := by decide +kernel
theorem dX11_setOf_62 : decode cX11_setOf 62 = .ok (.aload_n 0, 1) := by decide +kernel
theorem dX11_setOf_63 : decode cX11_setOf 63 = .ok (.invokevirtual 182, 3) := by decide +kernel
theorem dX11_setOf_66 : decode cX11_setOf 66 = .ok (.ifCond .eq 15, 3) := by decide +kernel
theorem dX11_setOf_69 : decode cX11_setOf 69 = .ok (.aload_n 0, 1) := by decide +kernel
theorem dX11_setOf_70 : decode cX11_setOf 70 = .ok (.getfield 116, 3) := by decide +kernel
theorem dX11_setOf_73 : decode cX11_setOf 73 = .ok (.iconst 2, 1) := by decide +kernel
theorem dX11_setOf_74 : decode cX11_setOf 74 = .ok (.if_icmp .ne 7, 3) := by decide +kernel
theorem dX11_setOf_77 : decode cX11_setOf 77 = .ok (.iconst 1, 1) := by decide +kernel
theorem dX11_setOf_78 : decode cX11_setOf 78 = .ok (.goto 4, 3) := by decide +kernel
theorem dX11_setOf_81 : decode cX11_setOf 81 = .ok (.iconst 0, 1) := by decide +kernel
theorem dX11_setOf_82 : decode cX11_setOf 82 = .ok (.istore 4, 2) := by decide +kernel
theorem dX11_setOf_84 : decode cX11_setOf 84 = .ok (.goto (-76), 3) := by decide +kernel
theorem dX11_setOf_87 : decode cX11_setOf 87 = .ok (.iload_n 3, 1) := by decide +kernel
theorem dX11_setOf_88 : decode cX11_setOf 88 = .ok (.ireturn, 1) := by decide +kernel
theorem dX11_begins_0 : decode cX11_begins 0 = .ok (.aload_n 0, 1) := by decide +kernel
theorem dX11_begins_1 : decode cX11_begins 1 = .ok (.iconst 4, 1) := by decide +kernel
theorem dX11_begins_2 : decode cX11_begins 2 = .ok (.putfield 196, 3) := by decide +kernel
theorem dX11_begins_5 : decode cX11_begins 5 = .ok (.aload_n 0, 1) := by decide +kernel
theorem dX11_begins_6 : decode cX11_begins 6 = .ok (.bipush 16, 2) := by decide +kernel
theorem dX11_begins_8 : decode cX11_begins 8 = .ok (.putfield 199, 3) := by decide +kernel
theorem dX11_begins_11 : decode cX11_begins 11 = .ok (.aload_n 0, 1) := by decide +kernel
theorem dX11_begins_12 : decode cX11_begins 12 = .ok (.iconst 0, 1) := by decide +kernel
theorem dX11_begins_13 : decode cX11_begins 13 = .ok (.putfield 202, 3) := by decide +kernel
theorem dX11_begins_16 : decode cX11_begins 16 = .ok (.aload_n 0, 1) := by decide +kernel
theorem dX11_begins_17 : decode cX11_begins 17 = .ok (.iconst 0, 1) := by decide +kernel
theorem dX11_begins_18 : decode cX11_begins 18 = .ok (.putfield 205, 3) := by decide +kernel
theorem dX11_begins_21 : decode cX11_begins 21 = .ok (.aload_n 0, 1) := by decide +kernel
theorem dX11_begins_22 : decode cX11_begins 22 = .ok (.iconst 0, 1) := by decide +kernel
theorem dX11_begins_23 : decode cX11_begins 23 = .ok (.putfield 208, 3) := by decide +kernel
theorem dX11_begins_26 : decode cX11_begins 26 = .ok (.aload_n 0, 1) := by decide +kernel
theorem dX11_begins_27 : decode cX11_begins 27 = .ok (.iconst 0, 1) := by decide +kernel
theorem dX11_begins_28 : decode cX11_begins 28 = .ok (.putfield 211, 3) := by decide +kernel
theorem dX11_begins_31 : decode cX11_begins 31 = .ok (.aload_n 0, 1) := by decide +kernel
theorem dX11_begins_32 : decode cX11_begins 32 = .ok (.iconst 0, 1) := by decide +kernel
theorem dX11_begins_33 : decode cX11_begins 33 = .ok (.putfield 215, 3) := by decide +kernel
theorem dX11_begins_36 : decode cX11_begins 36 = .ok (.aload_n 0, 1) := by decide +kernel
theorem dX11_begins_37 : decode cX11_begins 37 = .ok (.iconst 0, 1) := by decide +kernel
theorem dX11_begins_38 : decode cX11_begins 38 = .ok (.putfield 218, 3) := by decide +kernel
theorem dX11_begins_41 : decode cX11_begins 41 = .ok (.return_, 1) := by decide +kernel
theorem dX11_cpusLine_0 : decode cX11_cpusLine 0 = .ok (.aload_n 0, 1) := by decide +kernel
theorem dX11_cpusLine_1 : decode cX11_cpusLine 1 = .ok (.getfield 218, 3) := by decide +kernel
theorem dX11_cpusLine_4 : decode cX11_cpusLine 4 = .ok (.ifCond .eq 8, 3) := by decide +kernel
theorem dX11_cpusLine_7 : decode cX11_cpusLine 7 = .ok (.aload_n 0, 1) := by decide +kernel
theorem dX11_cpusLine_8 : decode cX11_cpusLine 8 = .ok (.iconst 2, 1) := by decide +kernel
theorem dX11_cpusLine_9 : decode cX11_cpusLine 9 = .ok (.invokevirtual 175, 3) := by decide +kernel
theorem dX11_cpusLine_12 : decode cX11_cpusLine 12 = .ok (.aload_n 0, 1) := by decide +kernel
theorem dX11_cpusLine_13 : decode cX11_cpusLine 13 = .ok (.getfield 211, 3) := by decide +kernel
theorem dX11_cpusLine_16 : decode cX11_cpusLine 16 = .ok (.ifCond .eq 8, 3) := by decide +kernel
theorem dX11_cpusLine_19 : decode cX11_cpusLine 19 = .ok (.aload_n 0, 1) := by decide +kernel
theorem dX11_cpusLine_20 : decode cX11_cpusLine 20 = .ok (.iconst 3, 1) := by decide +kernel
theorem dX11_cpusLine_21 : decode cX11_cpusLine 21 = .ok (.invokevirtual 175, 3) := by decide +kernel
theorem dX11_cpusLine_24 : decode cX11_cpusLine 24 = .ok (.aload_n 0, 1) := by decide +kernel
theorem dX11_cpusLine_25 : decode cX11_cpusLine 25 = .ok (.invokevirtual 182, 3) := by decide +kernel
theorem dX11_cpusLine_28 : decode cX11_cpusLine 28 = .ok (.ifCond .eq 7, 3) := by decide +kernel
theorem dX11_cpusLine_31 : decode cX11_cpusLine 31 = .ok (.aload_n 0, 1) := by decide +kernel
theorem dX11_cpusLine_32 : decode cX11_cpusLine 32 = .ok (.invokevirtual 186, 3) := by decide +kernel
theorem dX11_cpusLine_35 : decode cX11_cpusLine 35 = .ok (.aload_n 0, 1) := by decide +kernel
theorem dX11_cpusLine_36 : decode cX11_cpusLine 36 = .ok (.iconst 1, 1) := by decide +kernel
theorem dX11_cpusLine_37 : decode cX11_cpusLine 37 = .ok (.putfield 211, 3) := by decide +kernel
theorem dX11_cpusLine_40 : decode cX11_cpusLine 40 = .ok (.aload_n 0, 1) := by decide +kernel
theorem dX11_cpusLine_41 : decode cX11_cpusLine 41 = .ok (.aload_n 0, 1) := by decide +kernel
theorem dX11_cpusLine_42 : decode cX11_cpusLine 42 = .ok (.iconst 1, 1) := by decide +kernel
theorem dX11_cpusLine_43 : decode cX11_cpusLine 43 = .ok (.bipush 8, 2) := by decide +kernel
theorem dX11_cpusLine_45 : decode cX11_cpusLine 45 = .ok (.invokevirtual 221, 3) := by decide +kernel
theorem dX11_cpusLine_48 : decode cX11_cpusLine 48 = .ok (.putfield 196, 3) := by decide +kernel
theorem dX11_cpusLine_51 : decode cX11_cpusLine 51 = .ok (.return_, 1) := by decide +kernel
theorem dX11_vectorsLine_0 : decode cX11_vectorsLine 0 = .ok (.aload_n 0, 1) := by decide +kernel
theorem dX11_vectorsLine_1 : decode cX11_vectorsLine 1 = .ok (.getfield 218, 3) := by decide +kernel
theorem dX11_vectorsLine_4 : decode cX11_vectorsLine 4 = .ok (.ifCond .eq 8, 3) := by decide +kernel
theorem dX11_vectorsLine_7 : decode cX11_vectorsLine 7 = .ok (.aload_n 0, 1) := by decide +kernel
theorem dX11_vectorsLine_8 : decode cX11_vectorsLine 8 = .ok (.iconst 2, 1) := by decide +kernel
theorem dX11_vectorsLine_9 : decode cX11_vectorsLine 9 = .ok (.invokevirtual 175, 3) := by decide +kernel
theorem dX11_vectorsLine_12 : decode cX11_vectorsLine 12 = .ok (.aload_n 0, 1) := by decide +kernel
theorem dX11_vectorsLine_13 : decode cX11_vectorsLine 13 = .ok (.getfield 215, 3) := by decide +kernel
theorem dX11_vectorsLine_16 : decode cX11_vectorsLine 16 = .ok (.ifCond .eq 8, 3) := by decide +kernel
theorem dX11_vectorsLine_19 : decode cX11_vectorsLine 19 = .ok (.aload_n 0, 1) := by decide +kernel
theorem dX11_vectorsLine_20 : decode cX11_vectorsLine 20 = .ok (.iconst 3, 1) := by decide +kernel
theorem dX11_vectorsLine_21 : decode cX11_vectorsLine 21 = .ok (.invokevirtual 175, 3) := by decide +kernel
theorem dX11_vectorsLine_24 : decode cX11_vectorsLine 24 = .ok (.aload_n 0, 1) := by decide +kernel
theorem dX11_vectorsLine_25 : decode cX11_vectorsLine 25 = .ok (.invokevirtual 182, 3) := by decide +kernel
theorem dX11_vectorsLine_28 : decode cX11_vectorsLine 28 = .ok (.ifCond .eq 7, 3) := by decide +kernel
theorem dX11_vectorsLine_31 : decode cX11_vectorsLine 31 = .ok (.aload_n 0, 1) := by decide +kernel
theorem dX11_vectorsLine_32 : decode cX11_vectorsLine 32 = .ok (.invokevirtual 186, 3) := by decide +kernel
theorem dX11_vectorsLine_35 : decode cX11_vectorsLine 35 = .ok (.aload_n 0, 1) := by decide +kernel
theorem dX11_vectorsLine_36 : decode cX11_vectorsLine 36 = .ok (.iconst 1, 1) := by decide +kernel
theorem dX11_vectorsLine_37 : decode cX11_vectorsLine 37 = .ok (.putfield 215, 3) := by decide +kernel
theorem dX11_vectorsLine_40 : decode cX11_vectorsLine 40 = .ok (.aload_n 0, 1) := by decide +kernel
theorem dX11_vectorsLine_41 : decode cX11_vectorsLine 41 = .ok (.aload_n 0, 1) := by decide +kernel
theorem dX11_vectorsLine_42 : decode cX11_vectorsLine 42 = .ok (.bipush 8, 2) := by decide +kernel
theorem dX11_vectorsLine_44 : decode cX11_vectorsLine 44 = .ok (.bipush 32, 2) := by decide +kernel
theorem dX11_vectorsLine_46 : decode cX11_vectorsLine 46 = .ok (.invokevirtual 221, 3) := by decide +kernel
theorem dX11_vectorsLine_49 : decode cX11_vectorsLine 49 = .ok (.putfield 199, 3) := by decide +kernel
theorem dX11_vectorsLine_52 : decode cX11_vectorsLine 52 = .ok (.return_, 1) := by decide +kernel
theorem dX11_deviceLine_0 : decode cX11_deviceLine 0 = .ok (.aload_n 0, 1) := by decide +kernel
theorem dX11_deviceLine_1 : decode cX11_deviceLine 1 = .ok (.getfield 208, 3) := by decide +kernel
theorem dX11_deviceLine_4 : decode cX11_deviceLine 4 = .ok (.istore_n 1, 1) := by decide +kernel
theorem dX11_deviceLine_5 : decode cX11_deviceLine 5 = .ok (.iload_n 1, 1) := by decide +kernel
theorem dX11_deviceLine_6 : decode cX11_deviceLine 6 = .ok (.bipush 10, 2) := by decide +kernel
theorem dX11_deviceLine_8 : decode cX11_deviceLine 8 = .ok (.if_icmp .ne 8, 3) := by decide +kernel
theorem dX11_deviceLine_11 : decode cX11_deviceLine 11 = .ok (.aload_n 0, 1) := by decide +kernel
theorem dX11_deviceLine_12 : decode cX11_deviceLine 12 = .ok (.iconst 2, 1) := by decide +kernel
theorem dX11_deviceLine_13 : decode cX11_deviceLine 13 = .ok (.invokevirtual 175, 3) := by decide +kernel
theorem dX11_deviceLine_16 : decode cX11_deviceLine 16 = .ok (.aload_n 0, 1) := by decide +kernel
theorem dX11_deviceLine_17 : decode cX11_deviceLine 17 = .ok (.invokevirtual 182, 3) := by decide +kernel
theorem dX11_deviceLine_20 : decode cX11_deviceLine 20 = .ok (.ifCond .eq 7, 3) := by decide +kernel
theorem dX11_deviceLine_23 : decode cX11_deviceLine 23 = .ok (.aload_n 0, 1) := by decide +kernel
theorem dX11_deviceLine_24 : decode cX11_deviceLine 24 = .ok (.invokevirtual 186, 3) := by decide +kernel
theorem dX11_deviceLine_27 : decode cX11_deviceLine 27 = .ok (.aload_n 0, 1) := by decide +kernel
theorem dX11_deviceLine_28 : decode cX11_deviceLine 28 = .ok (.invokevirtual 224, 3) := by decide +kernel
theorem dX11_deviceLine_31 : decode cX11_deviceLine 31 = .ok (.lstore_n 2, 1) := by decide +kernel
theorem dX11_deviceLine_32 : decode cX11_deviceLine 32 = .ok (.iconst 0, 1) := by decide +kernel
theorem dX11_deviceLine_33 : decode cX11_deviceLine 33 = .ok (.istore 4, 2) := by decide +kernel
theorem dX11_deviceLine_35 : decode cX11_deviceLine 35 = .ok (.iload 4, 2) := by decide +kernel
theorem dX11_deviceLine_37 : decode cX11_deviceLine 37 = .ok (.iload_n 1, 1) := by decide +kernel
theorem dX11_deviceLine_38 : decode cX11_deviceLine 38 = .ok (.if_icmp .ge 33, 3) := by decide +kernel
theorem dX11_deviceLine_41 : decode cX11_deviceLine 41 = .ok (.aload_n 0, 1) := by decide +kernel
theorem dX11_deviceLine_42 : decode cX11_deviceLine 42 = .ok (.invokevirtual 182, 3) := by decide +kernel
theorem dX11_deviceLine_45 : decode cX11_deviceLine 45 = .ok (.ifCond .eq 26, 3) := by decide +kernel
theorem dX11_deviceLine_48 : decode cX11_deviceLine 48 = .ok (.aload_n 0, 1) := by decide +kernel
theorem dX11_deviceLine_49 : decode cX11_deviceLine 49 = .ok (.getfield 44, 3) := by decide +kernel
theorem dX11_deviceLine_52 : decode cX11_deviceLine 52 = .ok (.iload 4, 2) := by decide +kernel
theorem dX11_deviceLine_54 : decode cX11_deviceLine 54 = .ok (.laload, 1) := by decide +kernel
theorem dX11_deviceLine_55 : decode cX11_deviceLine 55 = .ok (.lload_n 2, 1) := by decide +kernel
theorem dX11_deviceLine_56 : decode cX11_deviceLine 56 = .ok (.lcmp, 1) := by decide +kernel
theorem dX11_deviceLine_57 : decode cX11_deviceLine 57 = .ok (.ifCond .ne 8, 3) := by decide +kernel
theorem dX11_deviceLine_60 : decode cX11_deviceLine 60 = .ok (.aload_n 0, 1) := by decide +kernel
theorem dX11_deviceLine_61 : decode cX11_deviceLine 61 = .ok (.iconst 3, 1) := by decide +kernel
theorem dX11_deviceLine_62 : decode cX11_deviceLine 62 = .ok (.invokevirtual 175, 3) := by decide +kernel
theorem dX11_deviceLine_65 : decode cX11_deviceLine 65 = .ok (.iinc 4 1, 3) := by decide +kernel
theorem dX11_deviceLine_68 : decode cX11_deviceLine 68 = .ok (.goto (-33), 3) := by decide +kernel
theorem dX11_deviceLine_71 : decode cX11_deviceLine 71 = .ok (.aload_n 0, 1) := by decide +kernel
theorem dX11_deviceLine_72 : decode cX11_deviceLine 72 = .ok (.getfield 126, 3) := by decide +kernel
theorem dX11_deviceLine_75 : decode cX11_deviceLine 75 = .ok (.ifCond .le 4, 3) := by decide +kernel
theorem dX11_deviceLine_78 : decode cX11_deviceLine 78 = .ok (.return_, 1) := by decide +kernel
theorem dX11_deviceLine_79 : decode cX11_deviceLine 79 = .ok (.aload_n 0, 1) := by decide +kernel
theorem dX11_deviceLine_80 : decode cX11_deviceLine 80 = .ok (.getfield 44, 3) := by decide +kernel
theorem dX11_deviceLine_83 : decode cX11_deviceLine 83 = .ok (.iload_n 1, 1) := by decide +kernel
theorem dX11_deviceLine_84 : decode cX11_deviceLine 84 = .ok (.lload_n 2, 1) := by decide +kernel
theorem dX11_deviceLine_85 : decode cX11_deviceLine 85 = .ok (.lastore, 1) := by decide +kernel
theorem dX11_deviceLine_86 : decode cX11_deviceLine 86 = .ok (.aload_n 0, 1) := by decide +kernel
theorem dX11_deviceLine_87 : decode cX11_deviceLine 87 = .ok (.getfield 38, 3) := by decide +kernel
theorem dX11_deviceLine_90 : decode cX11_deviceLine 90 = .ok (.iload_n 1, 1) := by decide +kernel
theorem dX11_deviceLine_91 : decode cX11_deviceLine 91 = .ok (.aload_n 0, 1) := by decide +kernel
theorem dX11_deviceLine_92 : decode cX11_deviceLine 92 = .ok (.getfield 113, 3) := by decide +kernel
theorem dX11_deviceLine_95 : decode cX11_deviceLine 95 = .ok (.iastore, 1) := by decide +kernel
theorem dX11_deviceLine_96 : decode cX11_deviceLine 96 = .ok (.aload_n 0, 1) := by decide +kernel
theorem dX11_deviceLine_97 : decode cX11_deviceLine 97 = .ok (.invokevirtual 186, 3) := by decide +kernel
theorem dX11_deviceLine_100 : decode cX11_deviceLine 100 = .ok (.aload_n 0, 1) := by decide +kernel
theorem dX11_deviceLine_101 : decode cX11_deviceLine 101 = .ok (.ldc2_w 163, 3) := by decide +kernel
theorem dX11_deviceLine_104 : decode cX11_deviceLine 104 = .ok (.invokevirtual 131, 3) := by decide +kernel
theorem dX11_deviceLine_107 : decode cX11_deviceLine 107 = .ok (.ifCond .eq 7, 3) := by decide +kernel
theorem dX11_deviceLine_110 : decode cX11_deviceLine 110 = .ok (.iconst 1, 1) := by decide +kernel
theorem dX11_deviceLine_111 : decode cX11_deviceLine 111 = .ok (.goto 32, 3) := by decide +kernel
theorem dX11_deviceLine_114 : decode cX11_deviceLine 114 = .ok (.aload_n 0, 1) := by decide +kernel
theorem dX11_deviceLine_115 : decode cX11_deviceLine 115 = .ok (.ldc2_w 165, 3) := by decide +kernel
theorem dX11_deviceLine_118 : decode cX11_deviceLine 118 = .ok (.invokevirtual 131, 3) := by decide +kernel
theorem dX11_deviceLine_121 : decode cX11_deviceLine 121 = .ok (.ifCond .eq 7, 3) := by decide +kernel
theorem dX11_deviceLine_124 : decode cX11_deviceLine 124 = .ok (.iconst 2, 1) := by decide +kernel
theorem dX11_deviceLine_125 : decode cX11_deviceLine 125 = .ok (.goto 18, 3) := by decide +kernel
theorem dX11_deviceLine_128 : decode cX11_deviceLine 128 = .ok (.aload_n 0, 1) := by decide +kernel
theorem dX11_deviceLine_129 : decode cX11_deviceLine 129 = .ok (.ldc2_w 167, 3) := by decide +kernel
theorem dX11_deviceLine_132 : decode cX11_deviceLine 132 = .ok (.invokevirtual 131, 3) := by decide +kernel
theorem dX11_deviceLine_135 : decode cX11_deviceLine 135 = .ok (.ifCond .eq 7, 3) := by decide +kernel
theorem dX11_deviceLine_138 : decode cX11_deviceLine 138 = .ok (.iconst 3, 1) := by decide +kernel
theorem dX11_deviceLine_139 : decode cX11_deviceLine 139 = .ok (.goto 4, 3) := by decide +kernel
theorem dX11_deviceLine_142 : decode cX11_deviceLine 142 = .ok (.iconst (-1), 1) := by decide +kernel
theorem dX11_deviceLine_143 : decode cX11_deviceLine 143 = .ok (.istore 4, 2) := by decide +kernel
theorem dX11_deviceLine_145 : decode cX11_deviceLine 145 = .ok (.iload 4, 2) := by decide +kernel
theorem dX11_deviceLine_147 : decode cX11_deviceLine 147 = .ok (.iconst (-1), 1) := by decide +kernel
theorem dX11_deviceLine_148 : decode cX11_deviceLine 148 = .ok (.if_icmp .ne 8, 3) := by decide +kernel
theorem dX11_deviceLine_151 : decode cX11_deviceLine 151 = .ok (.aload_n 0, 1) := by decide +kernel
theorem dX11_deviceLine_152 : decode cX11_deviceLine 152 = .ok (.iconst 2, 1) := by decide +kernel
theorem dX11_deviceLine_153 : decode cX11_deviceLine 153 = .ok (.invokevirtual 175, 3) := by decide +kernel
theorem dX11_deviceLine_156 : decode cX11_deviceLine 156 = .ok (.aload_n 0, 1) := by decide +kernel
theorem dX11_deviceLine_157 : decode cX11_deviceLine 157 = .ok (.invokevirtual 182, 3) := by decide +kernel
theorem dX11_deviceLine_160 : decode cX11_deviceLine 160 = .ok (.ifCond .eq 7, 3) := by decide +kernel
theorem dX11_deviceLine_163 : decode cX11_deviceLine 163 = .ok (.aload_n 0, 1) := by decide +kernel
theorem dX11_deviceLine_164 : decode cX11_deviceLine 164 = .ok (.invokevirtual 186, 3) := by decide +kernel
theorem dX11_deviceLine_167 : decode cX11_deviceLine 167 = .ok (.iload 4, 2) := by decide +kernel
theorem dX11_deviceLine_169 : decode cX11_deviceLine 169 = .ok (.iconst 1, 1) := by decide +kernel
theorem dX11_deviceLine_170 : decode cX11_deviceLine 170 = .ok (.if_icmp .ne 7, 3) := by decide +kernel
theorem dX11_deviceLine_173 : decode cX11_deviceLine 173 = .ok (.iconst 1, 1) := by decide +kernel
theorem dX11_deviceLine_174 : decode cX11_deviceLine 174 = .ok (.goto 20, 3) := by decide +kernel
theorem dX11_deviceLine_177 : decode cX11_deviceLine 177 = .ok (.aload_n 0, 1) := by decide +kernel
theorem dX11_deviceLine_178 : decode cX11_deviceLine 178 = .ok (.iload 4, 2) := by decide +kernel
theorem dX11_deviceLine_180 : decode cX11_deviceLine 180 = .ok (.iconst 2, 1) := by decide +kernel
theorem dX11_deviceLine_181 : decode cX11_deviceLine 181 = .ok (.if_icmp .ne 7, 3) := by decide +kernel
theorem dX11_deviceLine_184 : decode cX11_deviceLine 184 = .ok (.iconst 2, 1) := by decide +kernel
theorem dX11_deviceLine_185 : decode cX11_deviceLine 185 = .ok (.goto 4, 3) := by decide +kernel
theorem dX11_deviceLine_188 : decode cX11_deviceLine 188 = .ok (.iconst 1, 1) := by decide +kernel
theorem dX11_deviceLine_189 : decode cX11_deviceLine 189 = .ok (.bipush 8, 2) := by decide +kernel
theorem dX11_deviceLine_191 : decode cX11_deviceLine 191 = .ok (.invokevirtual 178, 3) := by decide +kernel
theorem dX11_deviceLine_194 : decode cX11_deviceLine 194 = .ok (.istore 5, 2) := by decide +kernel
theorem dX11_deviceLine_196 : decode cX11_deviceLine 196 = .ok (.iload 4, 2) := by decide +kernel
theorem dX11_deviceLine_198 : decode cX11_deviceLine 198 = .ok (.iconst 2, 1) := by decide +kernel
theorem dX11_deviceLine_199 : decode cX11_deviceLine 199 = .ok (.if_icmp .ne 25, 3) := by decide +kernel
theorem dX11_deviceLine_202 : decode cX11_deviceLine 202 = .ok (.aload_n 0, 1) := by decide +kernel
theorem dX11_deviceLine_203 : decode cX11_deviceLine 203 = .ok (.invokevirtual 182, 3) := by decide +kernel
theorem dX11_deviceLine_206 : decode cX11_deviceLine 206 = .ok (.ifCond .eq 18, 3) := by decide +kernel
theorem dX11_deviceLine_209 : decode cX11_deviceLine 209 = .ok (.iload 5, 2) := by decide +kernel
theorem dX11_deviceLine_211 : decode cX11_deviceLine 211 = .ok (.iload 5, 2) := by decide +kernel
theorem dX11_deviceLine_213 : decode cX11_deviceLine 213 = .ok (.iconst 1, 1) := by decide +kernel
theorem dX11_deviceLine_214 : decode cX11_deviceLine 214 = .ok (.isub, 1) := by decide +kernel
theorem dX11_deviceLine_215 : decode cX11_deviceLine 215 = .ok (.iand, 1) := by decide +kernel
theorem dX11_deviceLine_216 : decode cX11_deviceLine 216 = .ok (.ifCond .eq 8, 3) := by decide +kernel
theorem dX11_deviceLine_219 : decode cX11_deviceLine 219 = .ok (.aload_n 0, 1) := by decide +kernel
theorem dX11_deviceLine_220 : decode cX11_deviceLine 220 = .ok (.iconst 4, 1) := by decide +kernel
theorem dX11_deviceLine_221 : decode cX11_deviceLine 221 = .ok (.invokevirtual 175, 3) := by decide +kernel
theorem dX11_deviceLine_224 : decode cX11_deviceLine 224 = .ok (.iload 4, 2) := by decide +kernel
theorem dX11_deviceLine_226 : decode cX11_deviceLine 226 = .ok (.iconst 1, 1) := by decide +kernel
theorem dX11_deviceLine_227 : decode cX11_deviceLine 227 = .ok (.if_icmp .eq 14, 3) := by decide +kernel
theorem dX11_deviceLine_230 : decode cX11_deviceLine 230 = .ok (.aload_n 0, 1) := by decide +kernel
theorem dX11_deviceLine_231 : decode cX11_deviceLine 231 = .ok (.invokevirtual 182, 3) := by decide +kernel
theorem dX11_deviceLine_234 : decode cX11_deviceLine 234 = .ok (.ifCond .eq 7, 3) := by decide +kernel
theorem dX11_deviceLine_237 : decode cX11_deviceLine 237 = .ok (.aload_n 0, 1) := by decide +kernel
theorem dX11_deviceLine_238 : decode cX11_deviceLine 238 = .ok (.invokevirtual 186, 3) := by decide +kernel
theorem dX11_deviceLine_241 : decode cX11_deviceLine 241 = .ok (.iconst 1, 1) := by decide +kernel
theorem dX11_deviceLine_242 : decode cX11_deviceLine 242 = .ok (.aload_n 0, 1) := by decide +kernel
theorem dX11_deviceLine_243 : decode cX11_deviceLine 243 = .ok (.getfield 196, 3) := by decide +kernel
theorem dX11_deviceLine_246 : decode cX11_deviceLine 246 = .ok (.ishl, 1) := by decide +kernel
theorem dX11_deviceLine_247 : decode cX11_deviceLine 247 = .ok (.iconst 1, 1) := by decide +kernel
theorem dX11_deviceLine_248 : decode cX11_deviceLine 248 = .ok (.isub, 1) := by decide +kernel
theorem dX11_deviceLine_249 : decode cX11_deviceLine 249 = .ok (.istore 6, 2) := by decide +kernel
theorem dX11_deviceLine_251 : decode cX11_deviceLine 251 = .ok (.aload_n 0, 1) := by decide +kernel
theorem dX11_deviceLine_252 : decode cX11_deviceLine 252 = .ok (.ldc2_w 161, 3) := by decide +kernel
theorem dX11_deviceLine_255 : decode cX11_deviceLine 255 = .ok (.invokevirtual 131, 3) := by decide +kernel
theorem dX11_deviceLine_258 : decode cX11_deviceLine 258 = .ok (.ifCond .eq 18, 3) := by decide +kernel
theorem dX11_deviceLine_261 : decode cX11_deviceLine 261 = .ok (.aload_n 0, 1) := by decide +kernel
theorem dX11_deviceLine_262 : decode cX11_deviceLine 262 = .ok (.invokevirtual 186, 3) := by decide +kernel
theorem dX11_deviceLine_265 : decode cX11_deviceLine 265 = .ok (.aload_n 0, 1) := by decide +kernel
theorem dX11_deviceLine_266 : decode cX11_deviceLine 266 = .ok (.aload_n 0, 1) := by decide +kernel
theorem dX11_deviceLine_267 : decode cX11_deviceLine 267 = .ok (.getfield 196, 3) := by decide +kernel
theorem dX11_deviceLine_270 : decode cX11_deviceLine 270 = .ok (.iconst 0, 1) := by decide +kernel
theorem dX11_deviceLine_271 : decode cX11_deviceLine 271 = .ok (.invokevirtual 228, 3) := by decide +kernel
theorem dX11_deviceLine_274 : decode cX11_deviceLine 274 = .ok (.istore 6, 2) := by decide +kernel
theorem dX11_deviceLine_276 : decode cX11_deviceLine 276 = .ok (.aload_n 0, 1) := by decide +kernel
theorem dX11_deviceLine_277 : decode cX11_deviceLine 277 = .ok (.getfield 126, 3) := by decide +kernel
theorem dX11_deviceLine_280 : decode cX11_deviceLine 280 = .ok (.ifCond .le 4, 3) := by decide +kernel
theorem dX11_deviceLine_283 : decode cX11_deviceLine 283 = .ok (.return_, 1) := by decide +kernel
theorem dX11_deviceLine_284 : decode cX11_deviceLine 284 = .ok (.aload_n 0, 1) := by decide +kernel
theorem dX11_deviceLine_285 : decode cX11_deviceLine 285 = .ok (.getfield 20, 3) := by decide +kernel
theorem dX11_deviceLine_288 : decode cX11_deviceLine 288 = .ok (.iload_n 1, 1) := by decide +kernel
theorem dX11_deviceLine_289 : decode cX11_deviceLine 289 = .ok (.iload 4, 2) := by decide +kernel
theorem dX11_deviceLine_291 : decode cX11_deviceLine 291 = .ok (.iastore, 1) := by decide +kernel
theorem dX11_deviceLine_292 : decode cX11_deviceLine 292 = .ok (.aload_n 0, 1) := by decide +kernel
theorem dX11_deviceLine_293 : decode cX11_deviceLine 293 = .ok (.getfield 23, 3) := by decide +kernel
theorem dX11_deviceLine_296 : decode cX11_deviceLine 296 = .ok (.iload_n 1, 1) := by decide +kernel
theorem dX11_deviceLine_297 : decode cX11_deviceLine 297 = .ok (.iload 5, 2) := by decide +kernel
theorem dX11_deviceLine_299 : decode cX11_deviceLine 299 = .ok (.iastore, 1) := by decide +kernel
theorem dX11_deviceLine_300 : decode cX11_deviceLine 300 = .ok (.aload_n 0, 1) := by decide +kernel
theorem dX11_deviceLine_301 : decode cX11_deviceLine 301 = .ok (.getfield 26, 3) := by decide +kernel
theorem dX11_deviceLine_304 : decode cX11_deviceLine 304 = .ok (.iload_n 1, 1) := by decide +kernel
theorem dX11_deviceLine_305 : decode cX11_deviceLine 305 = .ok (.iload 6, 2) := by decide +kernel
theorem dX11_deviceLine_307 : decode cX11_deviceLine 307 = .ok (.iastore, 1) := by decide +kernel
theorem dX11_deviceLine_308 : decode cX11_deviceLine 308 = .ok (.aload_n 0, 1) := by decide +kernel
theorem dX11_deviceLine_309 : decode cX11_deviceLine 309 = .ok (.dup, 1) := by decide +kernel
theorem dX11_deviceLine_310 : decode cX11_deviceLine 310 = .ok (.getfield 208, 3) := by decide +kernel
theorem dX11_deviceLine_313 : decode cX11_deviceLine 313 = .ok (.iconst 1, 1) := by decide +kernel
theorem dX11_deviceLine_314 : decode cX11_deviceLine 314 = .ok (.iadd, 1) := by decide +kernel
theorem dX11_deviceLine_315 : decode cX11_deviceLine 315 = .ok (.putfield 208, 3) := by decide +kernel
theorem dX11_deviceLine_318 : decode cX11_deviceLine 318 = .ok (.return_, 1) := by decide +kernel
theorem dX11_line_0 : decode cX11_line 0 = .ok (.aload_n 0, 1) := by decide +kernel
theorem dX11_line_1 : decode cX11_line 1 = .ok (.ldc2_w 151, 3) := by decide +kernel
theorem dX11_line_4 : decode cX11_line 4 = .ok (.invokevirtual 131, 3) := by decide +kernel
theorem dX11_line_7 : decode cX11_line 7 = .ok (.ifCond .eq 10, 3) := by decide +kernel
theorem dX11_line_10 : decode cX11_line 10 = .ok (.aload_n 0, 1) := by decide +kernel
theorem dX11_line_11 : decode cX11_line 11 = .ok (.invokevirtual 231, 3) := by decide +kernel
theorem dX11_line_14 : decode cX11_line 14 = .ok (.goto 123, 3) := by decide +kernel
theorem dX11_line_17 : decode cX11_line 17 = .ok (.aload_n 0, 1) := by decide +kernel
theorem dX11_line_18 : decode cX11_line 18 = .ok (.ldc2_w 153, 3) := by decide +kernel
theorem dX11_line_21 : decode cX11_line 21 = .ok (.invokevirtual 131, 3) := by decide +kernel
theorem dX11_line_24 : decode cX11_line 24 = .ok (.ifCond .eq 10, 3) := by decide +kernel
theorem dX11_line_27 : decode cX11_line 27 = .ok (.aload_n 0, 1) := by decide +kernel
theorem dX11_line_28 : decode cX11_line 28 = .ok (.invokevirtual 234, 3) := by decide +kernel
theorem dX11_line_31 : decode cX11_line 31 = .ok (.goto 106, 3) := by decide +kernel
theorem dX11_line_34 : decode cX11_line 34 = .ok (.aload_n 0, 1) := by decide +kernel
theorem dX11_line_35 : decode cX11_line 35 = .ok (.ldc2_w 155, 3) := by decide +kernel
theorem dX11_line_38 : decode cX11_line 38 = .ok (.invokevirtual 131, 3) := by decide +kernel
theorem dX11_line_41 : decode cX11_line 41 = .ok (.ifCond .eq 31, 3) := by decide +kernel
theorem dX11_line_44 : decode cX11_line 44 = .ok (.aload_n 0, 1) := by decide +kernel
theorem dX11_line_45 : decode cX11_line 45 = .ok (.iconst 1, 1) := by decide +kernel
theorem dX11_line_46 : decode cX11_line 46 = .ok (.putfield 218, 3) := by decide +kernel
theorem dX11_line_49 : decode cX11_line 49 = .ok (.aload_n 0, 1) := by decide +kernel
theorem dX11_line_50 : decode cX11_line 50 = .ok (.invokevirtual 186, 3) := by decide +kernel
theorem dX11_line_53 : decode cX11_line 53 = .ok (.aload_n 0, 1) := by decide +kernel
theorem dX11_line_54 : decode cX11_line 54 = .ok (.aload_n 0, 1) := by decide +kernel
theorem dX11_line_55 : decode cX11_line 55 = .ok (.aload_n 0, 1) := by decide +kernel
theorem dX11_line_56 : decode cX11_line 56 = .ok (.getfield 199, 3) := by decide +kernel
theorem dX11_line_59 : decode cX11_line 59 = .ok (.aload_n 0, 1) := by decide +kernel
theorem dX11_line_60 : decode cX11_line 60 = .ok (.getfield 202, 3) := by decide +kernel
theorem dX11_line_63 : decode cX11_line 63 = .ok (.invokevirtual 228, 3) := by decide +kernel
theorem dX11_line_66 : decode cX11_line 66 = .ok (.putfield 202, 3) := by decide +kernel
theorem dX11_line_69 : decode cX11_line 69 = .ok (.goto 68, 3) := by decide +kernel
theorem dX11_line_72 : decode cX11_line 72 = .ok (.aload_n 0, 1) := by decide +kernel
theorem dX11_line_73 : decode cX11_line 73 = .ok (.ldc2_w 157, 3) := by decide +kernel
theorem dX11_line_76 : decode cX11_line 76 = .ok (.invokevirtual 131, 3) := by decide +kernel
theorem dX11_line_79 : decode cX11_line 79 = .ok (.ifCond .eq 31, 3) := by decide +kernel
theorem dX11_line_82 : decode cX11_line 82 = .ok (.aload_n 0, 1) := by decide +kernel
theorem dX11_line_83 : decode cX11_line 83 = .ok (.iconst 1, 1) := by decide +kernel
theorem dX11_line_84 : decode cX11_line 84 = .ok (.putfield 218, 3) := by decide +kernel
theorem dX11_line_87 : decode cX11_line 87 = .ok (.aload_n 0, 1) := by decide +kernel
theorem dX11_line_88 : decode cX11_line 88 = .ok (.invokevirtual 186, 3) := by decide +kernel
theorem dX11_line_91 : decode cX11_line 91 = .ok (.aload_n 0, 1) := by decide +kernel
theorem dX11_line_92 : decode cX11_line 92 = .ok (.aload_n 0, 1) := by decide +kernel
theorem dX11_line_93 : decode cX11_line 93 = .ok (.aload_n 0, 1) := by decide +kernel
theorem dX11_line_94 : decode cX11_line 94 = .ok (.getfield 196, 3) := by decide +kernel
theorem dX11_line_97 : decode cX11_line 97 = .ok (.aload_n 0, 1) := by decide +kernel
theorem dX11_line_98 : decode cX11_line 98 = .ok (.getfield 205, 3) := by decide +kernel
theorem dX11_line_101 : decode cX11_line 101 = .ok (.invokevirtual 228, 3) := by decide +kernel
theorem dX11_line_104 : decode cX11_line 104 = .ok (.putfield 205, 3) := by decide +kernel
theorem dX11_line_107 : decode cX11_line 107 = .ok (.goto 30, 3) := by decide +kernel
theorem dX11_line_110 : decode cX11_line 110 = .ok (.aload_n 0, 1) := by decide +kernel
theorem dX11_line_111 : decode cX11_line 111 = .ok (.ldc2_w 159, 3) := by decide +kernel
theorem dX11_line_114 : decode cX11_line 114 = .ok (.invokevirtual 131, 3) := by decide +kernel
theorem dX11_line_117 : decode cX11_line 117 = .ok (.ifCond .eq 15, 3) := by decide +kernel
theorem dX11_line_120 : decode cX11_line 120 = .ok (.aload_n 0, 1) := by decide +kernel
theorem dX11_line_121 : decode cX11_line 121 = .ok (.iconst 1, 1) := by decide +kernel
theorem dX11_line_122 : decode cX11_line 122 = .ok (.putfield 218, 3) := by decide +kernel
theorem dX11_line_125 : decode cX11_line 125 = .ok (.aload_n 0, 1) := by decide +kernel
theorem dX11_line_126 : decode cX11_line 126 = .ok (.invokevirtual 237, 3) := by decide +kernel
theorem dX11_line_129 : decode cX11_line 129 = .ok (.goto 8, 3) := by decide +kernel
theorem dX11_line_132 : decode cX11_line 132 = .ok (.aload_n 0, 1) := by decide +kernel
theorem dX11_line_133 : decode cX11_line 133 = .ok (.iconst 2, 1) := by decide +kernel
theorem dX11_line_134 : decode cX11_line 134 = .ok (.invokevirtual 175, 3) := by decide +kernel
theorem dX11_line_137 : decode cX11_line 137 = .ok (.aload_n 0, 1) := by decide +kernel
theorem dX11_line_138 : decode cX11_line 138 = .ok (.invokevirtual 182, 3) := by decide +kernel
theorem dX11_line_141 : decode cX11_line 141 = .ok (.ifCond .eq 16, 3) := by decide +kernel
theorem dX11_line_144 : decode cX11_line 144 = .ok (.aload_n 0, 1) := by decide +kernel
theorem dX11_line_145 : decode cX11_line 145 = .ok (.getfield 116, 3) := by decide +kernel
theorem dX11_line_148 : decode cX11_line 148 = .ok (.iconst 3, 1) := by decide +kernel
theorem dX11_line_149 : decode cX11_line 149 = .ok (.if_icmp .eq 8, 3) := by decide +kernel
theorem dX11_line_152 : decode cX11_line 152 = .ok (.aload_n 0, 1) := by decide +kernel
theorem dX11_line_153 : decode cX11_line 153 = .ok (.iconst 2, 1) := by decide +kernel
theorem dX11_line_154 : decode cX11_line 154 = .ok (.invokevirtual 175, 3) := by decide +kernel
theorem dX11_line_157 : decode cX11_line 157 = .ok (.aload_n 0, 1) := by decide +kernel
theorem dX11_line_158 : decode cX11_line 158 = .ok (.invokevirtual 182, 3) := by decide +kernel
theorem dX11_line_161 : decode cX11_line 161 = .ok (.ifCond .eq 7, 3) := by decide +kernel
theorem dX11_line_164 : decode cX11_line 164 = .ok (.aload_n 0, 1) := by decide +kernel
theorem dX11_line_165 : decode cX11_line 165 = .ok (.invokevirtual 186, 3) := by decide +kernel
theorem dX11_line_168 : decode cX11_line 168 = .ok (.return_, 1) := by decide +kernel
theorem dX11_takesOver_0 : decode cX11_takesOver 0 = .ok (.aload_n 0, 1) := by decide +kernel
theorem dX11_takesOver_1 : decode cX11_takesOver 1 = .ok (.aload_n 0, 1) := by decide +kernel
theorem dX11_takesOver_2 : decode cX11_takesOver 2 = .ok (.getfield 196, 3) := by decide +kernel
theorem dX11_takesOver_5 : decode cX11_takesOver 5 = .ok (.putfield 240, 3) := by decide +kernel
theorem dX11_takesOver_8 : decode cX11_takesOver 8 = .ok (.aload_n 0, 1) := by decide +kernel
theorem dX11_takesOver_9 : decode cX11_takesOver 9 = .ok (.aload_n 0, 1) := by decide +kernel
theorem dX11_takesOver_10 : decode cX11_takesOver 10 = .ok (.getfield 199, 3) := by decide +kernel
theorem dX11_takesOver_13 : decode cX11_takesOver 13 = .ok (.putfield 243, 3) := by decide +kernel
theorem dX11_takesOver_16 : decode cX11_takesOver 16 = .ok (.aload_n 0, 1) := by decide +kernel
theorem dX11_takesOver_17 : decode cX11_takesOver 17 = .ok (.aload_n 0, 1) := by decide +kernel
theorem dX11_takesOver_18 : decode cX11_takesOver 18 = .ok (.getfield 202, 3) := by decide +kernel
theorem dX11_takesOver_21 : decode cX11_takesOver 21 = .ok (.putfield 246, 3) := by decide +kernel
theorem dX11_takesOver_24 : decode cX11_takesOver 24 = .ok (.aload_n 0, 1) := by decide +kernel
theorem dX11_takesOver_25 : decode cX11_takesOver 25 = .ok (.aload_n 0, 1) := by decide +kernel
theorem dX11_takesOver_26 : decode cX11_takesOver 26 = .ok (.getfield 205, 3) := by decide +kernel
theorem dX11_takesOver_29 : decode cX11_takesOver 29 = .ok (.putfield 249, 3) := by decide +kernel
theorem dX11_takesOver_32 : decode cX11_takesOver 32 = .ok (.aload_n 0, 1) := by decide +kernel
theorem dX11_takesOver_33 : decode cX11_takesOver 33 = .ok (.aload_n 0, 1) := by decide +kernel
theorem dX11_takesOver_34 : decode cX11_takesOver 34 = .ok (.getfield 208, 3) := by decide +kernel
theorem dX11_takesOver_37 : decode cX11_takesOver 37 = .ok (.putfield 252, 3) := by decide +kernel
theorem dX11_takesOver_40 : decode cX11_takesOver 40 = .ok (.iconst 0, 1) := by decide +kernel
theorem dX11_takesOver_41 : decode cX11_takesOver 41 = .ok (.istore_n 1, 1) := by decide +kernel
theorem dX11_takesOver_42 : decode cX11_takesOver 42 = .ok (.iload_n 1, 1) := by decide +kernel
theorem dX11_takesOver_43 : decode cX11_takesOver 43 = .ok (.aload_n 0, 1) := by decide +kernel
theorem dX11_takesOver_44 : decode cX11_takesOver 44 = .ok (.getfield 252, 3) := by decide +kernel
theorem dX11_takesOver_47 : decode cX11_takesOver 47 = .ok (.if_icmp .ge 69, 3) := by decide +kernel
theorem dX11_takesOver_50 : decode cX11_takesOver 50 = .ok (.aload_n 0, 1) := by decide +kernel
theorem dX11_takesOver_51 : decode cX11_takesOver 51 = .ok (.getfield 29, 3) := by decide +kernel
theorem dX11_takesOver_54 : decode cX11_takesOver 54 = .ok (.iload_n 1, 1) := by decide +kernel
theorem dX11_takesOver_55 : decode cX11_takesOver 55 = .ok (.aload_n 0, 1) := by decide +kernel
theorem dX11_takesOver_56 : decode cX11_takesOver 56 = .ok (.getfield 20, 3) := by decide +kernel
theorem dX11_takesOver_59 : decode cX11_takesOver 59 = .ok (.iload_n 1, 1) := by decide +kernel
theorem dX11_takesOver_60 : decode cX11_takesOver 60 = .ok (.iaload, 1) := by decide +kernel
theorem dX11_takesOver_61 : decode cX11_takesOver 61 = .ok (.iastore, 1) := by decide +kernel
theorem dX11_takesOver_62 : decode cX11_takesOver 62 = .ok (.aload_n 0, 1) := by decide +kernel
theorem dX11_takesOver_63 : decode cX11_takesOver 63 = .ok (.getfield 32, 3) := by decide +kernel
theorem dX11_takesOver_66 : decode cX11_takesOver 66 = .ok (.iload_n 1, 1) := by decide +kernel
theorem dX11_takesOver_67 : decode cX11_takesOver 67 = .ok (.aload_n 0, 1) := by decide +kernel
theorem dX11_takesOver_68 : decode cX11_takesOver 68 = .ok (.getfield 23, 3) := by decide +kernel
theorem dX11_takesOver_71 : decode cX11_takesOver 71 = .ok (.iload_n 1, 1) := by decide +kernel
theorem dX11_takesOver_72 : decode cX11_takesOver 72 = .ok (.iaload, 1) := by decide +kernel
theorem dX11_takesOver_73 : decode cX11_takesOver 73 = .ok (.iastore, 1) := by decide +kernel
theorem dX11_takesOver_74 : decode cX11_takesOver 74 = .ok (.aload_n 0, 1) := by decide +kernel
theorem dX11_takesOver_75 : decode cX11_takesOver 75 = .ok (.getfield 35, 3) := by decide +kernel
theorem dX11_takesOver_78 : decode cX11_takesOver 78 = .ok (.iload_n 1, 1) := by decide +kernel
theorem dX11_takesOver_79 : decode cX11_takesOver 79 = .ok (.aload_n 0, 1) := by decide +kernel
theorem dX11_takesOver_80 : decode cX11_takesOver 80 = .ok (.getfield 26, 3) := by decide +kernel
theorem dX11_takesOver_83 : decode cX11_takesOver 83 = .ok (.iload_n 1, 1) := by decide +kernel
theorem dX11_takesOver_84 : decode cX11_takesOver 84 = .ok (.iaload, 1) := by decide +kernel
theorem dX11_takesOver_85 : decode cX11_takesOver 85 = .ok (.iastore, 1) := by decide +kernel
theorem dX11_takesOver_86 : decode cX11_takesOver 86 = .ok (.aload_n 0, 1) := by decide +kernel
theorem dX11_takesOver_87 : decode cX11_takesOver 87 = .ok (.getfield 48, 3) := by decide +kernel
theorem dX11_takesOver_90 : decode cX11_takesOver 90 = .ok (.iload_n 1, 1) := by decide +kernel
theorem dX11_takesOver_91 : decode cX11_takesOver 91 = .ok (.aload_n 0, 1) := by decide +kernel
theorem dX11_takesOver_92 : decode cX11_takesOver 92 = .ok (.getfield 44, 3) := by decide +kernel
theorem dX11_takesOver_95 : decode cX11_takesOver 95 = .ok (.iload_n 1, 1) := by decide +kernel
theorem dX11_takesOver_96 : decode cX11_takesOver 96 = .ok (.laload, 1) := by decide +kernel
theorem dX11_takesOver_97 : decode cX11_takesOver 97 = .ok (.lastore, 1) := by decide +kernel
theorem dX11_takesOver_98 : decode cX11_takesOver 98 = .ok (.aload_n 0, 1) := by decide +kernel
theorem dX11_takesOver_99 : decode cX11_takesOver 99 = .ok (.getfield 41, 3) := by decide +kernel
theorem dX11_takesOver_102 : decode cX11_takesOver 102 = .ok (.iload_n 1, 1) := by decide +kernel
theorem dX11_takesOver_103 : decode cX11_takesOver 103 = .ok (.aload_n 0, 1) := by decide +kernel
theorem dX11_takesOver_104 : decode cX11_takesOver 104 = .ok (.getfield 38, 3) := by decide +kernel
theorem dX11_takesOver_107 : decode cX11_takesOver 107 = .ok (.iload_n 1, 1) := by decide +kernel
theorem dX11_takesOver_108 : decode cX11_takesOver 108 = .ok (.iaload, 1) := by decide +kernel
theorem dX11_takesOver_109 : decode cX11_takesOver 109 = .ok (.iastore, 1) := by decide +kernel
theorem dX11_takesOver_110 : decode cX11_takesOver 110 = .ok (.iinc 1 1, 3) := by decide +kernel
theorem dX11_takesOver_113 : decode cX11_takesOver 113 = .ok (.goto (-71), 3) := by decide +kernel
theorem dX11_takesOver_116 : decode cX11_takesOver 116 = .ok (.iconst 0, 1) := by decide +kernel
theorem dX11_takesOver_117 : decode cX11_takesOver 117 = .ok (.istore_n 1, 1) := by decide +kernel
theorem dX11_takesOver_118 : decode cX11_takesOver 118 = .ok (.iload_n 1, 1) := by decide +kernel
theorem dX11_takesOver_119 : decode cX11_takesOver 119 = .ok (.sipush 1775, 3) := by decide +kernel
theorem dX11_takesOver_122 : decode cX11_takesOver 122 = .ok (.if_icmp .ge 16, 3) := by decide +kernel
theorem dX11_takesOver_125 : decode cX11_takesOver 125 = .ok (.aload_n 0, 1) := by decide +kernel
theorem dX11_takesOver_126 : decode cX11_takesOver 126 = .ok (.getfield 51, 3) := by decide +kernel
theorem dX11_takesOver_129 : decode cX11_takesOver 129 = .ok (.iload_n 1, 1) := by decide +kernel
theorem dX11_takesOver_130 : decode cX11_takesOver 130 = .ok (.iconst 0, 1) := by decide +kernel
theorem dX11_takesOver_131 : decode cX11_takesOver 131 = .ok (.iastore, 1) := by decide +kernel
theorem dX11_takesOver_132 : decode cX11_takesOver 132 = .ok (.iinc 1 1, 3) := by decide +kernel
theorem dX11_takesOver_135 : decode cX11_takesOver 135 = .ok (.goto (-17), 3) := by decide +kernel
theorem dX11_takesOver_138 : decode cX11_takesOver 138 = .ok (.iconst 0, 1) := by decide +kernel
theorem dX11_takesOver_139 : decode cX11_takesOver 139 = .ok (.istore_n 1, 1) := by decide +kernel
theorem dX11_takesOver_140 : decode cX11_takesOver 140 = .ok (.iload_n 1, 1) := by decide +kernel
theorem dX11_takesOver_141 : decode cX11_takesOver 141 = .ok (.sipush 256, 3) := by decide +kernel
theorem dX11_takesOver_144 : decode cX11_takesOver 144 = .ok (.if_icmp .ge 58, 3) := by decide +kernel
theorem dX11_takesOver_147 : decode cX11_takesOver 147 = .ok (.aload_n 0, 1) := by decide +kernel
theorem dX11_takesOver_148 : decode cX11_takesOver 148 = .ok (.getfield 51, 3) := by decide +kernel
theorem dX11_takesOver_151 : decode cX11_takesOver 151 = .ok (.sipush 256, 3) := by decide +kernel
theorem dX11_takesOver_154 : decode cX11_takesOver 154 = .ok (.iload_n 1, 1) := by decide +kernel
theorem dX11_takesOver_155 : decode cX11_takesOver 155 = .ok (.iadd, 1) := by decide +kernel
theorem dX11_takesOver_156 : decode cX11_takesOver 156 = .ok (.iconst (-1), 1) := by decide +kernel
theorem dX11_takesOver_157 : decode cX11_takesOver 157 = .ok (.iastore, 1) := by decide +kernel
theorem dX11_takesOver_158 : decode cX11_takesOver 158 = .ok (.aload_n 0, 1) := by decide +kernel
theorem dX11_takesOver_159 : decode cX11_takesOver 159 = .ok (.getfield 51, 3) := by decide +kernel
theorem dX11_takesOver_162 : decode cX11_takesOver 162 = .ok (.sipush 512, 3) := by decide +kernel
theorem dX11_takesOver_165 : decode cX11_takesOver 165 = .ok (.iload_n 1, 1) := by decide +kernel
theorem dX11_takesOver_166 : decode cX11_takesOver 166 = .ok (.iadd, 1) := by decide +kernel
theorem dX11_takesOver_167 : decode cX11_takesOver 167 = .ok (.iconst (-1), 1) := by decide +kernel
theorem dX11_takesOver_168 : decode cX11_takesOver 168 = .ok (.iastore, 1) := by decide +kernel
theorem dX11_takesOver_169 : decode cX11_takesOver 169 = .ok (.aload_n 0, 1) := by decide +kernel
theorem dX11_takesOver_170 : decode cX11_takesOver 170 = .ok (.getfield 51, 3) := by decide +kernel
theorem dX11_takesOver_173 : decode cX11_takesOver 173 = .ok (.iconst 0, 1) := by decide +kernel
theorem dX11_takesOver_174 : decode cX11_takesOver 174 = .ok (.iload_n 1, 1) := by decide +kernel
theorem dX11_takesOver_175 : decode cX11_takesOver 175 = .ok (.iadd, 1) := by decide +kernel
theorem dX11_takesOver_176 : decode cX11_takesOver 176 = .ok (.aload_n 0, 1) := by decide +kernel
theorem dX11_takesOver_177 : decode cX11_takesOver 177 = .ok (.getfield 246, 3) := by decide +kernel
theorem dX11_takesOver_180 : decode cX11_takesOver 180 = .ok (.iload_n 1, 1) := by decide +kernel
theorem dX11_takesOver_181 : decode cX11_takesOver 181 = .ok (.bipush 32, 2) := by decide +kernel
theorem dX11_takesOver_183 : decode cX11_takesOver 183 = .ok (.irem, 1) := by decide +kernel
theorem dX11_takesOver_184 : decode cX11_takesOver 184 = .ok (.invokestatic 192, 3) := by decide +kernel
theorem dX11_takesOver_187 : decode cX11_takesOver 187 = .ok (.ifCond .eq 7, 3) := by decide +kernel
theorem dX11_takesOver_190 : decode cX11_takesOver 190 = .ok (.iconst 1, 1) := by decide +kernel
theorem dX11_takesOver_191 : decode cX11_takesOver 191 = .ok (.goto 4, 3) := by decide +kernel
theorem dX11_takesOver_194 : decode cX11_takesOver 194 = .ok (.iconst 0, 1) := by decide +kernel
theorem dX11_takesOver_195 : decode cX11_takesOver 195 = .ok (.iastore, 1) := by decide +kernel
theorem dX11_takesOver_196 : decode cX11_takesOver 196 = .ok (.iinc 1 1, 3) := by decide +kernel
theorem dX11_takesOver_199 : decode cX11_takesOver 199 = .ok (.goto (-59), 3) := by decide +kernel
theorem dX11_takesOver_202 : decode cX11_takesOver 202 = .ok (.sipush 1024, 3) := by decide +kernel
theorem dX11_takesOver_205 : decode cX11_takesOver 205 = .ok (.istore_n 1, 1) := by decide +kernel
theorem dX11_takesOver_206 : decode cX11_takesOver 206 = .ok (.iload_n 1, 1) := by decide +kernel
theorem dX11_takesOver_207 : decode cX11_takesOver 207 = .ok (.sipush 1344, 3) := by decide +kernel
theorem dX11_takesOver_210 : decode cX11_takesOver 210 = .ok (.if_icmp .ge 16, 3) := by decide +kernel
theorem dX11_takesOver_213 : decode cX11_takesOver 213 = .ok (.aload_n 0, 1) := by decide +kernel
theorem dX11_takesOver_214 : decode cX11_takesOver 214 = .ok (.getfield 51, 3) := by decide +kernel
theorem dX11_takesOver_217 : decode cX11_takesOver 217 = .ok (.iload_n 1, 1) := by decide +kernel
theorem dX11_takesOver_218 : decode cX11_takesOver 218 = .ok (.iconst (-1), 1) := by decide +kernel
theorem dX11_takesOver_219 : decode cX11_takesOver 219 = .ok (.iastore, 1) := by decide +kernel
theorem dX11_takesOver_220 : decode cX11_takesOver 220 = .ok (.iinc 1 1, 3) := by decide +kernel
theorem dX11_takesOver_223 : decode cX11_takesOver 223 = .ok (.goto (-17), 3) := by decide +kernel
theorem dX11_takesOver_226 : decode cX11_takesOver 226 = .ok (.iconst 0, 1) := by decide +kernel
theorem dX11_takesOver_227 : decode cX11_takesOver 227 = .ok (.istore_n 1, 1) := by decide +kernel
theorem dX11_takesOver_228 : decode cX11_takesOver 228 = .ok (.iload_n 1, 1) := by decide +kernel
theorem dX11_takesOver_229 : decode cX11_takesOver 229 = .ok (.aload_n 0, 1) := by decide +kernel
theorem dX11_takesOver_230 : decode cX11_takesOver 230 = .ok (.getfield 240, 3) := by decide +kernel
theorem dX11_takesOver_233 : decode cX11_takesOver 233 = .ok (.if_icmp .ge 38, 3) := by decide +kernel
theorem dX11_takesOver_236 : decode cX11_takesOver 236 = .ok (.aload_n 0, 1) := by decide +kernel
theorem dX11_takesOver_237 : decode cX11_takesOver 237 = .ok (.getfield 51, 3) := by decide +kernel
theorem dX11_takesOver_240 : decode cX11_takesOver 240 = .ok (.sipush 1554, 3) := by decide +kernel
theorem dX11_takesOver_243 : decode cX11_takesOver 243 = .ok (.iload_n 1, 1) := by decide +kernel
theorem dX11_takesOver_244 : decode cX11_takesOver 244 = .ok (.iadd, 1) := by decide +kernel
theorem dX11_takesOver_245 : decode cX11_takesOver 245 = .ok (.aload_n 0, 1) := by decide +kernel
theorem dX11_takesOver_246 : decode cX11_takesOver 246 = .ok (.getfield 249, 3) := by decide +kernel
theorem dX11_takesOver_249 : decode cX11_takesOver 249 = .ok (.iload_n 1, 1) := by decide +kernel
theorem dX11_takesOver_250 : decode cX11_takesOver 250 = .ok (.invokestatic 192, 3) := by decide +kernel
theorem dX11_takesOver_253 : decode cX11_takesOver 253 = .ok (.ifCond .ne 7, 3) := by decide +kernel
theorem dX11_takesOver_256 : decode cX11_takesOver 256 = .ok (.iconst 1, 1) := by decide +kernel
theorem dX11_takesOver_257 : decode cX11_takesOver 257 = .ok (.goto 4, 3) := by decide +kernel
theorem dX11_takesOver_260 : decode cX11_takesOver 260 = .ok (.iconst 0, 1) := by decide +kernel
theorem dX11_takesOver_261 : decode cX11_takesOver 261 = .ok (.invokestatic 255, 3) := by decide +kernel
theorem dX11_takesOver_264 : decode cX11_takesOver 264 = .ok (.iastore, 1) := by decide +kernel
theorem dX11_takesOver_265 : decode cX11_takesOver 265 = .ok (.iinc 1 1, 3) := by decide +kernel
theorem dX11_takesOver_268 : decode cX11_takesOver 268 = .ok (.goto (-40), 3) := by decide +kernel
theorem dX11_takesOver_271 : decode cX11_takesOver 271 = .ok (.aload_n 0, 1) := by decide +kernel
theorem dX11_takesOver_272 : decode cX11_takesOver 272 = .ok (.iconst 0, 1) := by decide +kernel
theorem dX11_takesOver_273 : decode cX11_takesOver 273 = .ok (.putfield 259, 3) := by decide +kernel
theorem dX11_takesOver_276 : decode cX11_takesOver 276 = .ok (.aload_n 0, 1) := by decide +kernel
theorem dX11_takesOver_277 : decode cX11_takesOver 277 = .ok (.iconst 0, 1) := by decide +kernel
theorem dX11_takesOver_278 : decode cX11_takesOver 278 = .ok (.putfield 262, 3) := by decide +kernel
theorem dX11_takesOver_281 : decode cX11_takesOver 281 = .ok (.aload_n 0, 1) := by decide +kernel
theorem dX11_takesOver_282 : decode cX11_takesOver 282 = .ok (.iconst 0, 1) := by decide +kernel
theorem dX11_takesOver_283 : decode cX11_takesOver 283 = .ok (.putfield 265, 3) := by decide +kernel
theorem dX11_takesOver_286 : decode cX11_takesOver 286 = .ok (.iconst 0, 1) := by decide +kernel
theorem dX11_takesOver_287 : decode cX11_takesOver 287 = .ok (.istore_n 1, 1) := by decide +kernel
theorem dX11_takesOver_288 : decode cX11_takesOver 288 = .ok (.iload_n 1, 1) := by decide +kernel
theorem dX11_takesOver_289 : decode cX11_takesOver 289 = .ok (.iconst 2, 1) := by decide +kernel
theorem dX11_takesOver_290 : decode cX11_takesOver 290 = .ok (.if_icmp .ge 16, 3) := by decide +kernel
theorem dX11_takesOver_293 : decode cX11_takesOver 293 = .ok (.aload_n 0, 1) := by decide +kernel
theorem dX11_takesOver_294 : decode cX11_takesOver 294 = .ok (.getfield 72, 3) := by decide +kernel
theorem dX11_takesOver_297 : decode cX11_takesOver 297 = .ok (.iload_n 1, 1) := by decide +kernel
theorem dX11_takesOver_298 : decode cX11_takesOver 298 = .ok (.iconst 0, 1) := by decide +kernel
theorem dX11_takesOver_299 : decode cX11_takesOver 299 = .ok (.bastore, 1) := by decide +kernel
theorem dX11_takesOver_300 : decode cX11_takesOver 300 = .ok (.iinc 1 1, 3) := by decide +kernel
theorem dX11_takesOver_303 : decode cX11_takesOver 303 = .ok (.goto (-15), 3) := by decide +kernel
theorem dX11_takesOver_306 : decode cX11_takesOver 306 = .ok (.return_, 1) := by decide +kernel
theorem dX11_beginsText_0 : decode cX11_beginsText 0 = .ok (.aload_n 0, 1) := by decide +kernel
theorem dX11_beginsText_1 : decode cX11_beginsText 1 = .ok (.aload_n 0, 1) := by decide +kernel
theorem dX11_beginsText_2 : decode cX11_beginsText 2 = .ok (.getfield 82, 3) := by decide +kernel
theorem dX11_beginsText_5 : decode cX11_beginsText 5 = .ok (.putfield 96, 3) := by decide +kernel
theorem dX11_beginsText_8 : decode cX11_beginsText 8 = .ok (.aload_n 0, 1) := by decide +kernel
theorem dX11_beginsText_9 : decode cX11_beginsText 9 = .ok (.iconst 0, 1) := by decide +kernel
theorem dX11_beginsText_10 : decode cX11_beginsText 10 = .ok (.putfield 82, 3) := by decide +kernel
theorem dX11_beginsText_13 : decode cX11_beginsText 13 = .ok (.aload_n 0, 1) := by decide +kernel
theorem dX11_beginsText_14 : decode cX11_beginsText 14 = .ok (.iconst 0, 1) := by decide +kernel
theorem dX11_beginsText_15 : decode cX11_beginsText 15 = .ok (.putfield 93, 3) := by decide +kernel
theorem dX11_beginsText_18 : decode cX11_beginsText 18 = .ok (.aload_n 0, 1) := by decide +kernel
theorem dX11_beginsText_19 : decode cX11_beginsText 19 = .ok (.iconst 0, 1) := by decide +kernel
theorem dX11_beginsText_20 : decode cX11_beginsText 20 = .ok (.putfield 126, 3) := by decide +kernel
theorem dX11_beginsText_23 : decode cX11_beginsText 23 = .ok (.aload_n 0, 1) := by decide +kernel
theorem dX11_beginsText_24 : decode cX11_beginsText 24 = .ok (.iconst (-1), 1) := by decide +kernel
theorem dX11_beginsText_25 : decode cX11_beginsText 25 = .ok (.putfield 13, 3) := by decide +kernel
theorem dX11_beginsText_28 : decode cX11_beginsText 28 = .ok (.aload_n 0, 1) := by decide +kernel
theorem dX11_beginsText_29 : decode cX11_beginsText 29 = .ok (.invokevirtual 186, 3) := by decide +kernel
theorem dX11_beginsText_32 : decode cX11_beginsText 32 = .ok (.return_, 1) := by decide +kernel
theorem dX11_endsText_0 : decode cX11_endsText 0 = .ok (.aload_n 0, 1) := by decide +kernel
theorem dX11_endsText_1 : decode cX11_endsText 1 = .ok (.aload_n 0, 1) := by decide +kernel
theorem dX11_endsText_2 : decode cX11_endsText 2 = .ok (.getfield 126, 3) := by decide +kernel
theorem dX11_endsText_5 : decode cX11_endsText 5 = .ok (.putfield 268, 3) := by decide +kernel
theorem dX11_endsText_8 : decode cX11_endsText 8 = .ok (.aload_n 0, 1) := by decide +kernel
theorem dX11_endsText_9 : decode cX11_endsText 9 = .ok (.aload_n 0, 1) := by decide +kernel
theorem dX11_endsText_10 : decode cX11_endsText 10 = .ok (.getfield 13, 3) := by decide +kernel
theorem dX11_endsText_13 : decode cX11_endsText 13 = .ok (.putfield 17, 3) := by decide +kernel
theorem dX11_endsText_16 : decode cX11_endsText 16 = .ok (.aload_n 0, 1) := by decide +kernel
theorem dX11_endsText_17 : decode cX11_endsText 17 = .ok (.getfield 126, 3) := by decide +kernel
theorem dX11_endsText_20 : decode cX11_endsText 20 = .ok (.ifCond .ne 7, 3) := by decide +kernel
theorem dX11_endsText_23 : decode cX11_endsText 23 = .ok (.iconst 1, 1) := by decide +kernel
theorem dX11_endsText_24 : decode cX11_endsText 24 = .ok (.goto 4, 3) := by decide +kernel
theorem dX11_endsText_27 : decode cX11_endsText 27 = .ok (.iconst 0, 1) := by decide +kernel
theorem dX11_endsText_28 : decode cX11_endsText 28 = .ok (.ireturn, 1) := by decide +kernel
theorem dX11_board_0 : decode cX11_board 0 = .ok (.aload_n 0, 1) := by decide +kernel
theorem dX11_board_1 : decode cX11_board 1 = .ok (.invokevirtual 271, 3) := by decide +kernel
theorem dX11_board_4 : decode cX11_board 4 = .ok (.aload_n 0, 1) := by decide +kernel
theorem dX11_board_5 : decode cX11_board 5 = .ok (.invokevirtual 76, 3) := by decide +kernel
theorem dX11_board_8 : decode cX11_board 8 = .ok (.aload_n 0, 1) := by decide +kernel
theorem dX11_board_9 : decode cX11_board 9 = .ok (.invokevirtual 182, 3) := by decide +kernel
theorem dX11_board_12 : decode cX11_board 12 = .ok (.ifCond .eq 17, 3) := by decide +kernel
theorem dX11_board_15 : decode cX11_board 15 = .ok (.aload_n 0, 1) := by decide +kernel
theorem dX11_board_16 : decode cX11_board 16 = .ok (.getfield 116, 3) := by decide +kernel
theorem dX11_board_19 : decode cX11_board 19 = .ok (.ifCond .eq 10, 3) := by decide +kernel
theorem dX11_board_22 : decode cX11_board 22 = .ok (.aload_n 0, 1) := by decide +kernel
theorem dX11_board_23 : decode cX11_board 23 = .ok (.invokevirtual 274, 3) := by decide +kernel
theorem dX11_board_26 : decode cX11_board 26 = .ok (.goto (-18), 3) := by decide +kernel
theorem dX11_board_29 : decode cX11_board 29 = .ok (.aload_n 0, 1) := by decide +kernel
theorem dX11_board_30 : decode cX11_board 30 = .ok (.invokevirtual 277, 3) := by decide +kernel
theorem dX11_board_33 : decode cX11_board 33 = .ok (.ifCond .ne 5, 3) := by decide +kernel
theorem dX11_board_36 : decode cX11_board 36 = .ok (.iconst (-1), 1) := by decide +kernel
theorem dX11_board_37 : decode cX11_board 37 = .ok (.ireturn, 1) := by decide +kernel
theorem dX11_board_38 : decode cX11_board 38 = .ok (.aload_n 0, 1) := by decide +kernel
theorem dX11_board_39 : decode cX11_board 39 = .ok (.invokevirtual 79, 3) := by decide +kernel
theorem dX11_board_42 : decode cX11_board 42 = .ok (.aload_n 0, 1) := by decide +kernel
theorem dX11_board_43 : decode cX11_board 43 = .ok (.getfield 252, 3) := by decide +kernel
theorem dX11_board_46 : decode cX11_board 46 = .ok (.ireturn, 1) := by decide +kernel
theorem dX11_fault_0 : decode cX11_fault 0 = .ok (.iload_n 1, 1) := by decide +kernel
theorem dX11_fault_1 : decode cX11_fault 1 = .ok (.ifCond .ne 10, 3) := by decide +kernel
theorem dX11_fault_4 : decode cX11_fault 4 = .ok (.aload_n 0, 1) := by decide +kernel
theorem dX11_fault_5 : decode cX11_fault 5 = .ok (.getfield 268, 3) := by decide +kernel
theorem dX11_fault_8 : decode cX11_fault 8 = .ok (.goto 16, 3) := by decide +kernel
theorem dX11_fault_11 : decode cX11_fault 11 = .ok (.iload_n 1, 1) := by decide +kernel
theorem dX11_fault_12 : decode cX11_fault 12 = .ok (.iconst 1, 1) := by decide +kernel
theorem dX11_fault_13 : decode cX11_fault 13 = .ok (.if_icmp .ne 10, 3) := by decide +kernel
theorem dX11_fault_16 : decode cX11_fault 16 = .ok (.aload_n 0, 1) := by decide +kernel
theorem dX11_fault_17 : decode cX11_fault 17 = .ok (.getfield 17, 3) := by decide +kernel
theorem dX11_fault_20 : decode cX11_fault 20 = .ok (.goto 4, 3) := by decide +kernel
theorem dX11_fault_23 : decode cX11_fault 23 = .ok (.iconst (-1), 1) := by decide +kernel
theorem dX11_fault_24 : decode cX11_fault 24 = .ok (.ireturn, 1) := by decide +kernel
theorem dX11_spot_0 : decode cX11_spot 0 = .ok (.bipush 32, 2) := by decide +kernel
theorem dX11_spot_2 : decode cX11_spot 2 = .ok (.iload_n 0, 1) := by decide +kernel
theorem dX11_spot_3 : decode cX11_spot 3 = .ok (.imul, 1) := by decide +kernel
theorem dX11_spot_4 : decode cX11_spot 4 = .ok (.iload_n 1, 1) := by decide +kernel
theorem dX11_spot_5 : decode cX11_spot 5 = .ok (.iadd, 1) := by decide +kernel
theorem dX11_spot_6 : decode cX11_spot 6 = .ok (.ireturn, 1) := by decide +kernel
theorem dX11_lineAt_0 : decode cX11_lineAt 0 = .ok (.bipush 8, 2) := by decide +kernel
theorem dX11_lineAt_2 : decode cX11_lineAt 2 = .ok (.iload_n 0, 1) := by decide +kernel
theorem dX11_lineAt_3 : decode cX11_lineAt 3 = .ok (.imul, 1) := by decide +kernel
theorem dX11_lineAt_4 : decode cX11_lineAt 4 = .ok (.iload_n 1, 1) := by decide +kernel
theorem dX11_lineAt_5 : decode cX11_lineAt 5 = .ok (.iadd, 1) := by decide +kernel
theorem dX11_lineAt_6 : decode cX11_lineAt 6 = .ok (.ireturn, 1) := by decide +kernel
theorem dX11_isCpu_0 : decode cX11_isCpu 0 = .ok (.iload_n 1, 1) := by decide +kernel
theorem dX11_isCpu_1 : decode cX11_isCpu 1 = .ok (.iconst 0, 1) := by decide +kernel
theorem dX11_isCpu_2 : decode cX11_isCpu 2 = .ok (.aload_n 0, 1) := by decide +kernel
theorem dX11_isCpu_3 : decode cX11_isCpu 3 = .ok (.getfield 240, 3) := by decide +kernel
theorem dX11_isCpu_6 : decode cX11_isCpu 6 = .ok (.iconst 1, 1) := by decide +kernel
theorem dX11_isCpu_7 : decode cX11_isCpu 7 = .ok (.isub, 1) := by decide +kernel
theorem dX11_isCpu_8 : decode cX11_isCpu 8 = .ok (.invokestatic 89, 3) := by decide +kernel
theorem dX11_isCpu_11 : decode cX11_isCpu 11 = .ok (.ireturn, 1) := by decide +kernel
theorem dX11_isDevice_0 : decode cX11_isDevice 0 = .ok (.iload_n 1, 1) := by decide +kernel
theorem dX11_isDevice_1 : decode cX11_isDevice 1 = .ok (.iconst 0, 1) := by decide +kernel
theorem dX11_isDevice_2 : decode cX11_isDevice 2 = .ok (.aload_n 0, 1) := by decide +kernel
theorem dX11_isDevice_3 : decode cX11_isDevice 3 = .ok (.getfield 252, 3) := by decide +kernel
theorem dX11_isDevice_6 : decode cX11_isDevice 6 = .ok (.iconst 1, 1) := by decide +kernel
theorem dX11_isDevice_7 : decode cX11_isDevice 7 = .ok (.isub, 1) := by decide +kernel
theorem dX11_isDevice_8 : decode cX11_isDevice 8 = .ok (.invokestatic 89, 3) := by decide +kernel
theorem dX11_isDevice_11 : decode cX11_isDevice 11 = .ok (.ireturn, 1) := by decide +kernel
theorem dX11_isStarted_0 : decode cX11_isStarted 0 = .ok (.aload_n 0, 1) := by decide +kernel
theorem dX11_isStarted_1 : decode cX11_isStarted 1 = .ok (.getfield 51, 3) := by decide +kernel
theorem dX11_isStarted_4 : decode cX11_isStarted 4 = .ok (.sipush 1504, 3) := by decide +kernel
theorem dX11_isStarted_7 : decode cX11_isStarted 7 = .ok (.iload_n 1, 1) := by decide +kernel
theorem dX11_isStarted_8 : decode cX11_isStarted 8 = .ok (.iadd, 1) := by decide +kernel
theorem dX11_isStarted_9 : decode cX11_isStarted 9 = .ok (.iaload, 1) := by decide +kernel
theorem dX11_isStarted_10 : decode cX11_isStarted 10 = .ok (.iconst 1, 1) := by decide +kernel
theorem dX11_isStarted_11 : decode cX11_isStarted 11 = .ok (.if_icmp .ne 7, 3) := by decide +kernel
theorem dX11_isStarted_14 : decode cX11_isStarted 14 = .ok (.iconst 1, 1) := by decide +kernel
theorem dX11_isStarted_15 : decode cX11_isStarted 15 = .ok (.goto 4, 3) := by decide +kernel
theorem dX11_isStarted_18 : decode cX11_isStarted 18 = .ok (.iconst 0, 1) := by decide +kernel
theorem dX11_isStarted_19 : decode cX11_isStarted 19 = .ok (.ireturn, 1) := by decide +kernel
theorem dX11_isLine_0 : decode cX11_isLine 0 = .ok (.aload_n 0, 1) := by decide +kernel
theorem dX11_isLine_1 : decode cX11_isLine 1 = .ok (.iload_n 1, 1) := by decide +kernel
theorem dX11_isLine_2 : decode cX11_isLine 2 = .ok (.invokevirtual 280, 3) := by decide +kernel
theorem dX11_isLine_5 : decode cX11_isLine 5 = .ok (.ifCond .eq 31, 3) := by decide +kernel
theorem dX11_isLine_8 : decode cX11_isLine 8 = .ok (.aload_n 0, 1) := by decide +kernel
theorem dX11_isLine_9 : decode cX11_isLine 9 = .ok (.iload_n 1, 1) := by decide +kernel
theorem dX11_isLine_10 : decode cX11_isLine 10 = .ok (.invokevirtual 283, 3) := by decide +kernel
theorem dX11_isLine_13 : decode cX11_isLine 13 = .ok (.ifCond .eq 23, 3) := by decide +kernel
theorem dX11_isLine_16 : decode cX11_isLine 16 = .ok (.iload_n 2, 1) := by decide +kernel
theorem dX11_isLine_17 : decode cX11_isLine 17 = .ok (.iconst 0, 1) := by decide +kernel
theorem dX11_isLine_18 : decode cX11_isLine 18 = .ok (.aload_n 0, 1) := by decide +kernel
theorem dX11_isLine_19 : decode cX11_isLine 19 = .ok (.getfield 32, 3) := by decide +kernel
theorem dX11_isLine_22 : decode cX11_isLine 22 = .ok (.iload_n 1, 1) := by decide +kernel
theorem dX11_isLine_23 : decode cX11_isLine 23 = .ok (.iaload, 1) := by decide +kernel
theorem dX11_isLine_24 : decode cX11_isLine 24 = .ok (.iconst 1, 1) := by decide +kernel
theorem dX11_isLine_25 : decode cX11_isLine 25 = .ok (.isub, 1) := by decide +kernel
theorem dX11_isLine_26 : decode cX11_isLine 26 = .ok (.invokestatic 89, 3) := by decide +kernel
theorem dX11_isLine_29 : decode cX11_isLine 29 = .ok (.ifCond .eq 7, 3) := by decide +kernel
theorem dX11_isLine_32 : decode cX11_isLine 32 = .ok (.iconst 1, 1) := by decide +kernel
theorem dX11_isLine_33 : decode cX11_isLine 33 = .ok (.goto 4, 3) := by decide +kernel
theorem dX11_isLine_36 : decode cX11_isLine 36 = .ok (.iconst 0, 1) := by decide +kernel
theorem dX11_isLine_37 : decode cX11_isLine 37 = .ok (.ireturn, 1) := by decide +kernel
theorem dX11_isOnline_0 : decode cX11_isOnline 0 = .ok (.aload_n 0, 1) := by decide +kernel
theorem dX11_isOnline_1 : decode cX11_isOnline 1 = .ok (.getfield 51, 3) := by decide +kernel
theorem dX11_isOnline_4 : decode cX11_isOnline 4 = .ok (.sipush 1554, 3) := by decide +kernel
theorem dX11_isOnline_7 : decode cX11_isOnline 7 = .ok (.iload_n 1, 1) := by decide +kernel
theorem dX11_isOnline_8 : decode cX11_isOnline 8 = .ok (.iadd, 1) := by decide +kernel
theorem dX11_isOnline_9 : decode cX11_isOnline 9 = .ok (.iaload, 1) := by decide +kernel
theorem dX11_isOnline_10 : decode cX11_isOnline 10 = .ok (.iconst 1, 1) := by decide +kernel
theorem dX11_isOnline_11 : decode cX11_isOnline 11 = .ok (.if_icmp .ne 7, 3) := by decide +kernel
theorem dX11_isOnline_14 : decode cX11_isOnline 14 = .ok (.iconst 1, 1) := by decide +kernel
theorem dX11_isOnline_15 : decode cX11_isOnline 15 = .ok (.goto 4, 3) := by decide +kernel
theorem dX11_isOnline_18 : decode cX11_isOnline 18 = .ok (.iconst 0, 1) := by decide +kernel
theorem dX11_isOnline_19 : decode cX11_isOnline 19 = .ok (.ireturn, 1) := by decide +kernel
theorem dX11_manyOf_0 : decode cX11_manyOf 0 = .ok (.iconst 0, 1) := by decide +kernel
theorem dX11_manyOf_1 : decode cX11_manyOf 1 = .ok (.istore_n 3, 1) := by decide +kernel
theorem dX11_manyOf_2 : decode cX11_manyOf 2 = .ok (.iconst 0, 1) := by decide +kernel
theorem dX11_manyOf_3 : decode cX11_manyOf 3 = .ok (.istore 4, 2) := by decide +kernel
theorem dX11_manyOf_5 : decode cX11_manyOf 5 = .ok (.iload 4, 2) := by decide +kernel
theorem dX11_manyOf_7 : decode cX11_manyOf 7 = .ok (.aload_n 0, 1) := by decide +kernel
theorem dX11_manyOf_8 : decode cX11_manyOf 8 = .ok (.getfield 243, 3) := by decide +kernel
theorem dX11_manyOf_11 : decode cX11_manyOf 11 = .ok (.if_icmp .ge 37, 3) := by decide +kernel
theorem dX11_manyOf_14 : decode cX11_manyOf 14 = .ok (.iload_n 3, 1) := by decide +kernel
theorem dX11_manyOf_15 : decode cX11_manyOf 15 = .ok (.aload_n 0, 1) := by decide +kernel
theorem dX11_manyOf_16 : decode cX11_manyOf 16 = .ok (.getfield 51, 3) := by decide +kernel
theorem dX11_manyOf_19 : decode cX11_manyOf 19 = .ok (.iconst 0, 1) := by decide +kernel
theorem dX11_manyOf_20 : decode cX11_manyOf 20 = .ok (.iload_n 1, 1) := by decide +kernel
theorem dX11_manyOf_21 : decode cX11_manyOf 21 = .ok (.iload 4, 2) := by decide +kernel
theorem dX11_manyOf_23 : decode cX11_manyOf 23 = .ok (.invokestatic 286, 3) := by decide +kernel
theorem dX11_manyOf_26 : decode cX11_manyOf 26 = .ok (.iadd, 1) := by decide +kernel
theorem dX11_manyOf_27 : decode cX11_manyOf 27 = .ok (.iaload, 1) := by decide +kernel
theorem dX11_manyOf_28 : decode cX11_manyOf 28 = .ok (.iload_n 2, 1) := by decide +kernel
theorem dX11_manyOf_29 : decode cX11_manyOf 29 = .ok (.if_icmp .ne 7, 3) := by decide +kernel
theorem dX11_manyOf_32 : decode cX11_manyOf 32 = .ok (.iconst 1, 1) := by decide +kernel
theorem dX11_manyOf_33 : decode cX11_manyOf 33 = .ok (.goto 4, 3) := by decide +kernel
theorem dX11_manyOf_36 : decode cX11_manyOf 36 = .ok (.iconst 0, 1) := by decide +kernel
theorem dX11_manyOf_37 : decode cX11_manyOf 37 = .ok (.invokestatic 255, 3) := by decide +kernel
theorem dX11_manyOf_40 : decode cX11_manyOf 40 = .ok (.iadd, 1) := by decide +kernel
theorem dX11_manyOf_41 : decode cX11_manyOf 41 = .ok (.istore_n 3, 1) := by decide +kernel
theorem dX11_manyOf_42 : decode cX11_manyOf 42 = .ok (.iinc 4 1, 3) := by decide +kernel
theorem dX11_manyOf_45 : decode cX11_manyOf 45 = .ok (.goto (-40), 3) := by decide +kernel
theorem dX11_manyOf_48 : decode cX11_manyOf 48 = .ok (.iload_n 3, 1) := by decide +kernel
theorem dX11_manyOf_49 : decode cX11_manyOf 49 = .ok (.ireturn, 1) := by decide +kernel
theorem dX11_loadOf_0 : decode cX11_loadOf 0 = .ok (.aload_n 0, 1) := by decide +kernel
theorem dX11_loadOf_1 : decode cX11_loadOf 1 = .ok (.iload_n 1, 1) := by decide +kernel
theorem dX11_loadOf_2 : decode cX11_loadOf 2 = .ok (.iconst 2, 1) := by decide +kernel
theorem dX11_loadOf_3 : decode cX11_loadOf 3 = .ok (.invokevirtual 289, 3) := by decide +kernel
theorem dX11_loadOf_6 : decode cX11_loadOf 6 = .ok (.aload_n 0, 1) := by decide +kernel
theorem dX11_loadOf_7 : decode cX11_loadOf 7 = .ok (.iload_n 1, 1) := by decide +kernel
theorem dX11_loadOf_8 : decode cX11_loadOf 8 = .ok (.iconst 3, 1) := by decide +kernel
theorem dX11_loadOf_9 : decode cX11_loadOf 9 = .ok (.invokevirtual 289, 3) := by decide +kernel
theorem dX11_loadOf_12 : decode cX11_loadOf 12 = .ok (.iadd, 1) := by decide +kernel
theorem dX11_loadOf_13 : decode cX11_loadOf 13 = .ok (.ireturn, 1) := by decide +kernel
theorem dX11_pendingOf_0 : decode cX11_pendingOf 0 = .ok (.iconst 0, 1) := by decide +kernel
theorem dX11_pendingOf_1 : decode cX11_pendingOf 1 = .ok (.istore_n 2, 1) := by decide +kernel
theorem dX11_pendingOf_2 : decode cX11_pendingOf 2 = .ok (.iconst 0, 1) := by decide +kernel
theorem dX11_pendingOf_3 : decode cX11_pendingOf 3 = .ok (.istore_n 3, 1) := by decide +kernel
theorem dX11_pendingOf_4 : decode cX11_pendingOf 4 = .ok (.iload_n 3, 1) := by decide +kernel
theorem dX11_pendingOf_5 : decode cX11_pendingOf 5 = .ok (.aload_n 0, 1) := by decide +kernel
theorem dX11_pendingOf_6 : decode cX11_pendingOf 6 = .ok (.getfield 243, 3) := by decide +kernel
theorem dX11_pendingOf_9 : decode cX11_pendingOf 9 = .ok (.if_icmp .ge 26, 3) := by decide +kernel
theorem dX11_pendingOf_12 : decode cX11_pendingOf 12 = .ok (.iload_n 2, 1) := by decide +kernel
theorem dX11_pendingOf_13 : decode cX11_pendingOf 13 = .ok (.aload_n 0, 1) := by decide +kernel
theorem dX11_pendingOf_14 : decode cX11_pendingOf 14 = .ok (.getfield 51, 3) := by decide +kernel
theorem dX11_pendingOf_17 : decode cX11_pendingOf 17 = .ok (.sipush 768, 3) := by decide +kernel
theorem dX11_pendingOf_20 : decode cX11_pendingOf 20 = .ok (.iload_n 1, 1) := by decide +kernel
theorem dX11_pendingOf_21 : decode cX11_pendingOf 21 = .ok (.iload_n 3, 1) := by decide +kernel
theorem dX11_pendingOf_22 : decode cX11_pendingOf 22 = .ok (.invokestatic 286, 3) := by decide +kernel
theorem dX11_pendingOf_25 : decode cX11_pendingOf 25 = .ok (.iadd, 1) := by decide +kernel
theorem dX11_pendingOf_26 : decode cX11_pendingOf 26 = .ok (.iaload, 1) := by decide +kernel
theorem dX11_pendingOf_27 : decode cX11_pendingOf 27 = .ok (.iadd, 1) := by decide +kernel
theorem dX11_pendingOf_28 : decode cX11_pendingOf 28 = .ok (.istore_n 2, 1) := by decide +kernel
theorem dX11_pendingOf_29 : decode cX11_pendingOf 29 = .ok (.iinc 3 1, 3) := by decide +kernel
theorem dX11_pendingOf_32 : decode cX11_pendingOf 32 = .ok (.goto (-28), 3) := by decide +kernel
theorem dX11_pendingOf_35 : decode cX11_pendingOf 35 = .ok (.iload_n 2, 1) := by decide +kernel
theorem dX11_pendingOf_36 : decode cX11_pendingOf 36 = .ok (.ireturn, 1) := by decide +kernel
theorem dX11_freeOnline_0 : decode cX11_freeOnline 0 = .ok (.iconst 0, 1) := by decide +kernel
theorem dX11_freeOnline_1 : decode cX11_freeOnline 1 = .ok (.istore_n 1, 1) := by decide +kernel
theorem dX11_freeOnline_2 : decode cX11_freeOnline 2 = .ok (.iconst 0, 1) := by decide +kernel
theorem dX11_freeOnline_3 : decode cX11_freeOnline 3 = .ok (.istore_n 2, 1) := by decide +kernel
theorem dX11_freeOnline_4 : decode cX11_freeOnline 4 = .ok (.iload_n 2, 1) := by decide +kernel
theorem dX11_freeOnline_5 : decode cX11_freeOnline 5 = .ok (.aload_n 0, 1) := by decide +kernel
theorem dX11_freeOnline_6 : decode cX11_freeOnline 6 = .ok (.getfield 240, 3) := by decide +kernel
theorem dX11_freeOnline_9 : decode cX11_freeOnline 9 = .ok (.if_icmp .ge 30, 3) := by decide +kernel
theorem dX11_freeOnline_12 : decode cX11_freeOnline 12 = .ok (.iload_n 1, 1) := by decide +kernel
theorem dX11_freeOnline_13 : decode cX11_freeOnline 13 = .ok (.aload_n 0, 1) := by decide +kernel
theorem dX11_freeOnline_14 : decode cX11_freeOnline 14 = .ok (.iload_n 2, 1) := by decide +kernel
theorem dX11_freeOnline_15 : decode cX11_freeOnline 15 = .ok (.invokevirtual 292, 3) := by decide +kernel
theorem dX11_freeOnline_18 : decode cX11_freeOnline 18 = .ok (.ifCond .eq 12, 3) := by decide +kernel
theorem dX11_freeOnline_21 : decode cX11_freeOnline 21 = .ok (.aload_n 0, 1) := by decide +kernel
theorem dX11_freeOnline_22 : decode cX11_freeOnline 22 = .ok (.iload_n 2, 1) := by decide +kernel
theorem dX11_freeOnline_23 : decode cX11_freeOnline 23 = .ok (.iconst 0, 1) := by decide +kernel
theorem dX11_freeOnline_24 : decode cX11_freeOnline 24 = .ok (.invokevirtual 289, 3) := by decide +kernel
theorem dX11_freeOnline_27 : decode cX11_freeOnline 27 = .ok (.goto 4, 3) := by decide +kernel
theorem dX11_freeOnline_30 : decode cX11_freeOnline 30 = .ok (.iconst 0, 1) := by decide +kernel
theorem dX11_freeOnline_31 : decode cX11_freeOnline 31 = .ok (.iadd, 1) := by decide +kernel
theorem dX11_freeOnline_32 : decode cX11_freeOnline 32 = .ok (.istore_n 1, 1) := by decide +kernel
theorem dX11_freeOnline_33 : decode cX11_freeOnline 33 = .ok (.iinc 2 1, 3) := by decide +kernel
theorem dX11_freeOnline_36 : decode cX11_freeOnline 36 = .ok (.goto (-32), 3) := by decide +kernel
theorem dX11_freeOnline_39 : decode cX11_freeOnline 39 = .ok (.iload_n 1, 1) := by decide +kernel
theorem dX11_freeOnline_40 : decode cX11_freeOnline 40 = .ok (.ireturn, 1) := by decide +kernel
theorem dX11_promised_0 : decode cX11_promised 0 = .ok (.iconst 0, 1) := by decide +kernel
theorem dX11_promised_1 : decode cX11_promised 1 = .ok (.istore_n 1, 1) := by decide +kernel
theorem dX11_promised_2 : decode cX11_promised 2 = .ok (.iconst 0, 1) := by decide +kernel
theorem dX11_promised_3 : decode cX11_promised 3 = .ok (.istore_n 2, 1) := by decide +kernel
theorem dX11_promised_4 : decode cX11_promised 4 = .ok (.iload_n 2, 1) := by decide +kernel
theorem dX11_promised_5 : decode cX11_promised 5 = .ok (.aload_n 0, 1) := by decide +kernel
theorem dX11_promised_6 : decode cX11_promised 6 = .ok (.getfield 252, 3) := by decide +kernel
theorem dX11_promised_9 : decode cX11_promised 9 = .ok (.if_icmp .ge 36, 3) := by decide +kernel
theorem dX11_promised_12 : decode cX11_promised 12 = .ok (.iload_n 1, 1) := by decide +kernel
theorem dX11_promised_13 : decode cX11_promised 13 = .ok (.aload_n 0, 1) := by decide +kernel
theorem dX11_promised_14 : decode cX11_promised 14 = .ok (.getfield 51, 3) := by decide +kernel
theorem dX11_promised_17 : decode cX11_promised 17 = .ok (.sipush 1514, 3) := by decide +kernel
theorem dX11_promised_20 : decode cX11_promised 20 = .ok (.iload_n 2, 1) := by decide +kernel
theorem dX11_promised_21 : decode cX11_promised 21 = .ok (.iadd, 1) := by decide +kernel
theorem dX11_promised_22 : decode cX11_promised 22 = .ok (.iaload, 1) := by decide +kernel
theorem dX11_promised_23 : decode cX11_promised 23 = .ok (.iconst 1, 1) := by decide +kernel
theorem dX11_promised_24 : decode cX11_promised 24 = .ok (.if_icmp .ne 12, 3) := by decide +kernel
theorem dX11_promised_27 : decode cX11_promised 27 = .ok (.aload_n 0, 1) := by decide +kernel
theorem dX11_promised_28 : decode cX11_promised 28 = .ok (.getfield 32, 3) := by decide +kernel
theorem dX11_promised_31 : decode cX11_promised 31 = .ok (.iload_n 2, 1) := by decide +kernel
theorem dX11_promised_32 : decode cX11_promised 32 = .ok (.iaload, 1) := by decide +kernel
theorem dX11_promised_33 : decode cX11_promised 33 = .ok (.goto 4, 3) := by decide +kernel
theorem dX11_promised_36 : decode cX11_promised 36 = .ok (.iconst 0, 1) := by decide +kernel
theorem dX11_promised_37 : decode cX11_promised 37 = .ok (.iadd, 1) := by decide +kernel
theorem dX11_promised_38 : decode cX11_promised 38 = .ok (.istore_n 1, 1) := by decide +kernel
theorem dX11_promised_39 : decode cX11_promised 39 = .ok (.iinc 2 1, 3) := by decide +kernel
theorem dX11_promised_42 : decode cX11_promised 42 = .ok (.goto (-38), 3) := by decide +kernel
theorem dX11_promised_45 : decode cX11_promised 45 = .ok (.iload_n 1, 1) := by decide +kernel
theorem dX11_promised_46 : decode cX11_promised 46 = .ok (.ireturn, 1) := by decide +kernel
theorem dX11_online_0 : decode cX11_online 0 = .ok (.iconst 0, 1) := by decide +kernel
theorem dX11_online_1 : decode cX11_online 1 = .ok (.istore_n 1, 1) := by decide +kernel
theorem dX11_online_2 : decode cX11_online 2 = .ok (.iconst 0, 1) := by decide +kernel
theorem dX11_online_3 : decode cX11_online 3 = .ok (.istore_n 2, 1) := by decide +kernel
theorem dX11_online_4 : decode cX11_online 4 = .ok (.iload_n 2, 1) := by decide +kernel
theorem dX11_online_5 : decode cX11_online 5 = .ok (.aload_n 0, 1) := by decide +kernel
theorem dX11_online_6 : decode cX11_online 6 = .ok (.getfield 240, 3) := by decide +kernel
theorem dX11_online_9 : decode cX11_online 9 = .ok (.if_icmp .ge 24, 3) := by decide +kernel
theorem dX11_online_12 : decode cX11_online 12 = .ok (.iload_n 1, 1) := by decide +kernel
theorem dX11_online_13 : decode cX11_online 13 = .ok (.aload_n 0, 1) := by decide +kernel
theorem dX11_online_14 : decode cX11_online 14 = .ok (.getfield 51, 3) := by decide +kernel
theorem dX11_online_17 : decode cX11_online 17 = .ok (.sipush 1554, 3) := by decide +kernel
theorem dX11_online_20 : decode cX11_online 20 = .ok (.iload_n 2, 1) := by decide +kernel
theorem dX11_online_21 : decode cX11_online 21 = .ok (.iadd, 1) := by decide +kernel
theorem dX11_online_22 : decode cX11_online 22 = .ok (.iaload, 1) := by decide +kernel
theorem dX11_online_23 : decode cX11_online 23 = .ok (.iload_n 2, 1) := by decide +kernel
theorem dX11_online_24 : decode cX11_online 24 = .ok (.ishl, 1) := by decide +kernel
theorem dX11_online_25 : decode cX11_online 25 = .ok (.ior, 1) := by decide +kernel
theorem dX11_online_26 : decode cX11_online 26 = .ok (.istore_n 1, 1) := by decide +kernel
theorem dX11_online_27 : decode cX11_online 27 = .ok (.iinc 2 1, 3) := by decide +kernel
theorem dX11_online_30 : decode cX11_online 30 = .ok (.goto (-26), 3) := by decide +kernel
theorem dX11_online_33 : decode cX11_online 33 = .ok (.iload_n 1, 1) := by decide +kernel
theorem dX11_online_34 : decode cX11_online 34 = .ok (.ireturn, 1) := by decide +kernel
theorem dX11_allPending_0 : decode cX11_allPending 0 = .ok (.iconst 0, 1) := by decide +kernel
theorem dX11_allPending_1 : decode cX11_allPending 1 = .ok (.istore_n 1, 1) := by decide +kernel
theorem dX11_allPending_2 : decode cX11_allPending 2 = .ok (.iconst 0, 1) := by decide +kernel
theorem dX11_allPending_3 : decode cX11_allPending 3 = .ok (.istore_n 2, 1) := by decide +kernel
theorem dX11_allPending_4 : decode cX11_allPending 4 = .ok (.iload_n 2, 1) := by decide +kernel
theorem dX11_allPending_5 : decode cX11_allPending 5 = .ok (.aload_n 0, 1) := by decide +kernel
theorem dX11_allPending_6 : decode cX11_allPending 6 = .ok (.getfield 240, 3) := by decide +kernel
theorem dX11_allPending_9 : decode cX11_allPending 9 = .ok (.if_icmp .ge 17, 3) := by decide +kernel
theorem dX11_allPending_12 : decode cX11_allPending 12 = .ok (.iload_n 1, 1) := by decide +kernel
theorem dX11_allPending_13 : decode cX11_allPending 13 = .ok (.aload_n 0, 1) := by decide +kernel
theorem dX11_allPending_14 : decode cX11_allPending 14 = .ok (.iload_n 2, 1) := by decide +kernel
theorem dX11_allPending_15 : decode cX11_allPending 15 = .ok (.invokevirtual 295, 3) := by decide +kernel
theorem dX11_allPending_18 : decode cX11_allPending 18 = .ok (.iadd, 1) := by decide +kernel
theorem dX11_allPending_19 : decode cX11_allPending 19 = .ok (.istore_n 1, 1) := by decide +kernel
theorem dX11_allPending_20 : decode cX11_allPending 20 = .ok (.iinc 2 1, 3) := by decide +kernel
theorem dX11_allPending_23 : decode cX11_allPending 23 = .ok (.goto (-19), 3) := by decide +kernel
theorem dX11_allPending_26 : decode cX11_allPending 26 = .ok (.iconst 0, 1) := by decide +kernel
theorem dX11_allPending_27 : decode cX11_allPending 27 = .ok (.istore_n 2, 1) := by decide +kernel
theorem dX11_allPending_28 : decode cX11_allPending 28 = .ok (.iload_n 2, 1) := by decide +kernel
theorem dX11_allPending_29 : decode cX11_allPending 29 = .ok (.bipush 80, 2) := by decide +kernel
theorem dX11_allPending_31 : decode cX11_allPending 31 = .ok (.if_icmp .ge 22, 3) := by decide +kernel
theorem dX11_allPending_34 : decode cX11_allPending 34 = .ok (.iload_n 1, 1) := by decide +kernel
theorem dX11_allPending_35 : decode cX11_allPending 35 = .ok (.aload_n 0, 1) := by decide +kernel
theorem dX11_allPending_36 : decode cX11_allPending 36 = .ok (.getfield 51, 3) := by decide +kernel
theorem dX11_allPending_39 : decode cX11_allPending 39 = .ok (.sipush 1424, 3) := by decide +kernel
theorem dX11_allPending_42 : decode cX11_allPending 42 = .ok (.iload_n 2, 1) := by decide +kernel
theorem dX11_allPending_43 : decode cX11_allPending 43 = .ok (.iadd, 1) := by decide +kernel
theorem dX11_allPending_44 : decode cX11_allPending 44 = .ok (.iaload, 1) := by decide +kernel
theorem dX11_allPending_45 : decode cX11_allPending 45 = .ok (.iadd, 1) := by decide +kernel
theorem dX11_allPending_46 : decode cX11_allPending 46 = .ok (.istore_n 1, 1) := by decide +kernel
theorem dX11_allPending_47 : decode cX11_allPending 47 = .ok (.iinc 2 1, 3) := by decide +kernel
theorem dX11_allPending_50 : decode cX11_allPending 50 = .ok (.goto (-22), 3) := by decide +kernel
theorem dX11_allPending_53 : decode cX11_allPending 53 = .ok (.iload_n 1, 1) := by decide +kernel
theorem dX11_allPending_54 : decode cX11_allPending 54 = .ok (.ireturn, 1) := by decide +kernel
theorem dX11_heldLines_0 : decode cX11_heldLines 0 = .ok (.iconst 0, 1) := by decide +kernel
theorem dX11_heldLines_1 : decode cX11_heldLines 1 = .ok (.istore_n 1, 1) := by decide +kernel
theorem dX11_heldLines_2 : decode cX11_heldLines 2 = .ok (.iconst 0, 1) := by decide +kernel
theorem dX11_heldLines_3 : decode cX11_heldLines 3 = .ok (.istore_n 2, 1) := by decide +kernel
theorem dX11_heldLines_4 : decode cX11_heldLines 4 = .ok (.iload_n 2, 1) := by decide +kernel
theorem dX11_heldLines_5 : decode cX11_heldLines 5 = .ok (.aload_n 0, 1) := by decide +kernel
theorem dX11_heldLines_6 : decode cX11_heldLines 6 = .ok (.getfield 240, 3) := by decide +kernel
theorem dX11_heldLines_9 : decode cX11_heldLines 9 = .ok (.if_icmp .ge 18, 3) := by decide +kernel
theorem dX11_heldLines_12 : decode cX11_heldLines 12 = .ok (.iload_n 1, 1) := by decide +kernel
theorem dX11_heldLines_13 : decode cX11_heldLines 13 = .ok (.aload_n 0, 1) := by decide +kernel
theorem dX11_heldLines_14 : decode cX11_heldLines 14 = .ok (.iload_n 2, 1) := by decide +kernel
theorem dX11_heldLines_15 : decode cX11_heldLines 15 = .ok (.iconst 2, 1) := by decide +kernel
theorem dX11_heldLines_16 : decode cX11_heldLines 16 = .ok (.invokevirtual 289, 3) := by decide +kernel
theorem dX11_heldLines_19 : decode cX11_heldLines 19 = .ok (.iadd, 1) := by decide +kernel
theorem dX11_heldLines_20 : decode cX11_heldLines 20 = .ok (.istore_n 1, 1) := by decide +kernel
theorem dX11_heldLines_21 : decode cX11_heldLines 21 = .ok (.iinc 2 1, 3) := by decide +kernel
theorem dX11_heldLines_24 : decode cX11_heldLines 24 = .ok (.goto (-20), 3) := by decide +kernel
theorem dX11_heldLines_27 : decode cX11_heldLines 27 = .ok (.iload_n 1, 1) := by decide +kernel
theorem dX11_heldLines_28 : decode cX11_heldLines 28 = .ok (.ireturn, 1) := by decide +kernel
theorem dX11_blockOf_0 : decode cX11_blockOf 0 = .ok (.iconst 0, 1) := by decide +kernel
theorem dX11_blockOf_1 : decode cX11_blockOf 1 = .ok (.istore_n 3, 1) := by decide +kernel
theorem dX11_blockOf_2 : decode cX11_blockOf 2 = .ok (.iload_n 3, 1) := by decide +kernel
theorem dX11_blockOf_3 : decode cX11_blockOf 3 = .ok (.iload_n 2, 1) := by decide +kernel
theorem dX11_blockOf_4 : decode cX11_blockOf 4 = .ok (.iadd, 1) := by decide +kernel
theorem dX11_blockOf_5 : decode cX11_blockOf 5 = .ok (.aload_n 0, 1) := by decide +kernel
theorem dX11_blockOf_6 : decode cX11_blockOf 6 = .ok (.getfield 243, 3) := by decide +kernel
theorem dX11_blockOf_9 : decode cX11_blockOf 9 = .ok (.if_icmp .gt 65, 3) := by decide +kernel
theorem dX11_blockOf_12 : decode cX11_blockOf 12 = .ok (.iconst 1, 1) := by decide +kernel
theorem dX11_blockOf_13 : decode cX11_blockOf 13 = .ok (.istore 4, 2) := by decide +kernel
theorem dX11_blockOf_15 : decode cX11_blockOf 15 = .ok (.iconst 0, 1) := by decide +kernel
theorem dX11_blockOf_16 : decode cX11_blockOf 16 = .ok (.istore 5, 2) := by decide +kernel
theorem dX11_blockOf_18 : decode cX11_blockOf 18 = .ok (.iload 5, 2) := by decide +kernel
theorem dX11_blockOf_20 : decode cX11_blockOf 20 = .ok (.iload_n 2, 1) := by decide +kernel
theorem dX11_blockOf_21 : decode cX11_blockOf 21 = .ok (.if_icmp .ge 39, 3) := by decide +kernel
theorem dX11_blockOf_24 : decode cX11_blockOf 24 = .ok (.iload 4, 2) := by decide +kernel
theorem dX11_blockOf_26 : decode cX11_blockOf 26 = .ok (.ifCond .eq 25, 3) := by decide +kernel
theorem dX11_blockOf_29 : decode cX11_blockOf 29 = .ok (.aload_n 0, 1) := by decide +kernel
theorem dX11_blockOf_30 : decode cX11_blockOf 30 = .ok (.getfield 51, 3) := by decide +kernel
theorem dX11_blockOf_33 : decode cX11_blockOf 33 = .ok (.iconst 0, 1) := by decide +kernel
theorem dX11_blockOf_34 : decode cX11_blockOf 34 = .ok (.iload_n 1, 1) := by decide +kernel
theorem dX11_blockOf_35 : decode cX11_blockOf 35 = .ok (.iload_n 3, 1) := by decide +kernel
theorem dX11_blockOf_36 : decode cX11_blockOf 36 = .ok (.iload 5, 2) := by decide +kernel
theorem dX11_blockOf_38 : decode cX11_blockOf 38 = .ok (.iadd, 1) := by decide +kernel
theorem dX11_blockOf_39 : decode cX11_blockOf 39 = .ok (.invokestatic 286, 3) := by decide +kernel
theorem dX11_blockOf_42 : decode cX11_blockOf 42 = .ok (.iadd, 1) := by decide +kernel
theorem dX11_blockOf_43 : decode cX11_blockOf 43 = .ok (.iaload, 1) := by decide +kernel
theorem dX11_blockOf_44 : decode cX11_blockOf 44 = .ok (.ifCond .ne 7, 3) := by decide +kernel
theorem dX11_blockOf_47 : decode cX11_blockOf 47 = .ok (.iconst 1, 1) := by decide +kernel
theorem dX11_blockOf_48 : decode cX11_blockOf 48 = .ok (.goto 4, 3) := by decide +kernel
theorem dX11_blockOf_51 : decode cX11_blockOf 51 = .ok (.iconst 0, 1) := by decide +kernel
theorem dX11_blockOf_52 : decode cX11_blockOf 52 = .ok (.istore 4, 2) := by decide +kernel
theorem dX11_blockOf_54 : decode cX11_blockOf 54 = .ok (.iinc 5 1, 3) := by decide +kernel
theorem dX11_blockOf_57 : decode cX11_blockOf 57 = .ok (.goto (-39), 3) := by decide +kernel
theorem dX11_blockOf_60 : decode cX11_blockOf 60 = .ok (.iload 4, 2) := by decide +kernel
theorem dX11_blockOf_62 : decode cX11_blockOf 62 = .ok (.ifCond .eq 5, 3) := by decide +kernel
theorem dX11_blockOf_65 : decode cX11_blockOf 65 = .ok (.iload_n 3, 1) := by decide +kernel
theorem dX11_blockOf_66 : decode cX11_blockOf 66 = .ok (.ireturn, 1) := by decide +kernel
theorem dX11_blockOf_67 : decode cX11_blockOf 67 = .ok (.iload_n 3, 1) := by decide +kernel
theorem dX11_blockOf_68 : decode cX11_blockOf 68 = .ok (.iload_n 2, 1) := by decide +kernel
theorem dX11_blockOf_69 : decode cX11_blockOf 69 = .ok (.iadd, 1) := by decide +kernel
theorem dX11_blockOf_70 : decode cX11_blockOf 70 = .ok (.istore_n 3, 1) := by decide +kernel
theorem dX11_blockOf_71 : decode cX11_blockOf 71 = .ok (.goto (-69), 3) := by decide +kernel
theorem dX11_blockOf_74 : decode cX11_blockOf 74 = .ok (.iconst (-1), 1) := by decide +kernel
theorem dX11_blockOf_75 : decode cX11_blockOf 75 = .ok (.ireturn, 1) := by decide +kernel
theorem dX11_dealt_0 : decode cX11_dealt 0 = .ok (.iconst (-1), 1) := by decide +kernel
theorem dX11_dealt_1 : decode cX11_dealt 1 = .ok (.istore_n 3, 1) := by decide +kernel
theorem dX11_dealt_2 : decode cX11_dealt 2 = .ok (.iconst 0, 1) := by decide +kernel
theorem dX11_dealt_3 : decode cX11_dealt 3 = .ok (.istore 4, 2) := by decide +kernel
theorem dX11_dealt_5 : decode cX11_dealt 5 = .ok (.iload 4, 2) := by decide +kernel
theorem dX11_dealt_7 : decode cX11_dealt 7 = .ok (.aload_n 0, 1) := by decide +kernel
theorem dX11_dealt_8 : decode cX11_dealt 8 = .ok (.getfield 240, 3) := by decide +kernel
theorem dX11_dealt_11 : decode cX11_dealt 11 = .ok (.if_icmp .ge 63, 3) := by decide +kernel
theorem dX11_dealt_14 : decode cX11_dealt 14 = .ok (.iload_n 2, 1) := by decide +kernel
theorem dX11_dealt_15 : decode cX11_dealt 15 = .ok (.iload 4, 2) := by decide +kernel
theorem dX11_dealt_17 : decode cX11_dealt 17 = .ok (.invokestatic 192, 3) := by decide +kernel
theorem dX11_dealt_20 : decode cX11_dealt 20 = .ok (.ifCond .eq 48, 3) := by decide +kernel
theorem dX11_dealt_23 : decode cX11_dealt 23 = .ok (.aload_n 0, 1) := by decide +kernel
theorem dX11_dealt_24 : decode cX11_dealt 24 = .ok (.iload 4, 2) := by decide +kernel
theorem dX11_dealt_26 : decode cX11_dealt 26 = .ok (.invokevirtual 292, 3) := by decide +kernel
theorem dX11_dealt_29 : decode cX11_dealt 29 = .ok (.ifCond .eq 39, 3) := by decide +kernel
theorem dX11_dealt_32 : decode cX11_dealt 32 = .ok (.aload_n 0, 1) := by decide +kernel
theorem dX11_dealt_33 : decode cX11_dealt 33 = .ok (.iload 4, 2) := by decide +kernel
theorem dX11_dealt_35 : decode cX11_dealt 35 = .ok (.iload_n 1, 1) := by decide +kernel
theorem dX11_dealt_36 : decode cX11_dealt 36 = .ok (.invokevirtual 298, 3) := by decide +kernel
theorem dX11_dealt_39 : decode cX11_dealt 39 = .ok (.iconst (-1), 1) := by decide +kernel
theorem dX11_dealt_40 : decode cX11_dealt 40 = .ok (.if_icmp .ne 6, 3) := by decide +kernel
theorem dX11_dealt_43 : decode cX11_dealt 43 = .ok (.goto 25, 3) := by decide +kernel
theorem dX11_dealt_46 : decode cX11_dealt 46 = .ok (.iload_n 3, 1) := by decide +kernel
theorem dX11_dealt_47 : decode cX11_dealt 47 = .ok (.iconst (-1), 1) := by decide +kernel
theorem dX11_dealt_48 : decode cX11_dealt 48 = .ok (.if_icmp .eq 17, 3) := by decide +kernel
theorem dX11_dealt_51 : decode cX11_dealt 51 = .ok (.aload_n 0, 1) := by decide +kernel
theorem dX11_dealt_52 : decode cX11_dealt 52 = .ok (.iload 4, 2) := by decide +kernel
theorem dX11_dealt_54 : decode cX11_dealt 54 = .ok (.invokevirtual 301, 3) := by decide +kernel
theorem dX11_dealt_57 : decode cX11_dealt 57 = .ok (.aload_n 0, 1) := by decide +kernel
theorem dX11_dealt_58 : decode cX11_dealt 58 = .ok (.iload_n 3, 1) := by decide +kernel
theorem dX11_dealt_59 : decode cX11_dealt 59 = .ok (.invokevirtual 301, 3) := by decide +kernel
theorem dX11_dealt_62 : decode cX11_dealt 62 = .ok (.if_icmp .ge 6, 3) := by decide +kernel
theorem dX11_dealt_65 : decode cX11_dealt 65 = .ok (.iload 4, 2) := by decide +kernel
theorem dX11_dealt_67 : decode cX11_dealt 67 = .ok (.istore_n 3, 1) := by decide +kernel
theorem dX11_dealt_68 : decode cX11_dealt 68 = .ok (.iinc 4 1, 3) := by decide +kernel
theorem dX11_dealt_71 : decode cX11_dealt 71 = .ok (.goto (-66), 3) := by decide +kernel
theorem dX11_dealt_74 : decode cX11_dealt 74 = .ok (.iload_n 3, 1) := by decide +kernel
theorem dX11_dealt_75 : decode cX11_dealt 75 = .ok (.ireturn, 1) := by decide +kernel
theorem dX11_sets_0 : decode cX11_sets 0 = .ok (.iload_n 1, 1) := by decide +kernel
theorem dX11_sets_1 : decode cX11_sets 1 = .ok (.iload_n 2, 1) := by decide +kernel
theorem dX11_sets_2 : decode cX11_sets 2 = .ok (.invokestatic 286, 3) := by decide +kernel
theorem dX11_sets_5 : decode cX11_sets 5 = .ok (.istore 6, 2) := by decide +kernel
theorem dX11_sets_7 : decode cX11_sets 7 = .ok (.aload_n 0, 1) := by decide +kernel
theorem dX11_sets_8 : decode cX11_sets 8 = .ok (.getfield 51, 3) := by decide +kernel
theorem dX11_sets_11 : decode cX11_sets 11 = .ok (.iconst 0, 1) := by decide +kernel
theorem dX11_sets_12 : decode cX11_sets 12 = .ok (.iload 6, 2) := by decide +kernel
theorem dX11_sets_14 : decode cX11_sets 14 = .ok (.iadd, 1) := by decide +kernel
theorem dX11_sets_15 : decode cX11_sets 15 = .ok (.iload_n 3, 1) := by decide +kernel
theorem dX11_sets_16 : decode cX11_sets 16 = .ok (.iastore, 1) := by decide +kernel
theorem dX11_sets_17 : decode cX11_sets 17 = .ok (.aload_n 0, 1) := by decide +kernel
theorem dX11_sets_18 : decode cX11_sets 18 = .ok (.getfield 51, 3) := by decide +kernel
theorem dX11_sets_21 : decode cX11_sets 21 = .ok (.sipush 256, 3) := by decide +kernel
theorem dX11_sets_24 : decode cX11_sets 24 = .ok (.iload 6, 2) := by decide +kernel
theorem dX11_sets_26 : decode cX11_sets 26 = .ok (.iadd, 1) := by decide +kernel
theorem dX11_sets_27 : decode cX11_sets 27 = .ok (.iload_n 3, 1) := by decide +kernel
theorem dX11_sets_28 : decode cX11_sets 28 = .ok (.ifCond .ne 7, 3) := by decide +kernel
theorem dX11_sets_31 : decode cX11_sets 31 = .ok (.iconst (-1), 1) := by decide +kernel
theorem dX11_sets_32 : decode cX11_sets 32 = .ok (.goto 5, 3) := by decide +kernel
theorem dX11_sets_35 : decode cX11_sets 35 = .ok (.iload 4, 2) := by decide +kernel
theorem dX11_sets_37 : decode cX11_sets 37 = .ok (.iastore, 1) := by decide +kernel
theorem dX11_sets_38 : decode cX11_sets 38 = .ok (.aload_n 0, 1) := by decide +kernel
theorem dX11_sets_39 : decode cX11_sets 39 = .ok (.getfield 51, 3) := by decide +kernel
theorem dX11_sets_42 : decode cX11_sets 42 = .ok (.sipush 512, 3) := by decide +kernel
theorem dX11_sets_45 : decode cX11_sets 45 = .ok (.iload 6, 2) := by decide +kernel
theorem dX11_sets_47 : decode cX11_sets 47 = .ok (.iadd, 1) := by decide +kernel
theorem dX11_sets_48 : decode cX11_sets 48 = .ok (.iload_n 3, 1) := by decide +kernel
theorem dX11_sets_49 : decode cX11_sets 49 = .ok (.ifCond .ne 7, 3) := by decide +kernel
theorem dX11_sets_52 : decode cX11_sets 52 = .ok (.iconst (-1), 1) := by decide +kernel
theorem dX11_sets_53 : decode cX11_sets 53 = .ok (.goto 5, 3) := by decide +kernel
theorem dX11_sets_56 : decode cX11_sets 56 = .ok (.iload 5, 2) := by decide +kernel
theorem dX11_sets_58 : decode cX11_sets 58 = .ok (.iastore, 1) := by decide +kernel
theorem dX11_sets_59 : decode cX11_sets 59 = .ok (.return_, 1) := by decide +kernel
theorem dX11_holds_0 : decode cX11_holds 0 = .ok (.aload_n 0, 1) := by decide +kernel
theorem dX11_holds_1 : decode cX11_holds 1 = .ok (.iload_n 3, 1) := by decide +kernel
theorem dX11_holds_2 : decode cX11_holds 2 = .ok (.iload 4, 2) := by decide +kernel
theorem dX11_holds_4 : decode cX11_holds 4 = .ok (.iconst 2, 1) := by decide +kernel
theorem dX11_holds_5 : decode cX11_holds 5 = .ok (.iload_n 1, 1) := by decide +kernel
theorem dX11_holds_6 : decode cX11_holds 6 = .ok (.iload_n 2, 1) := by decide +kernel
theorem dX11_holds_7 : decode cX11_holds 7 = .ok (.invokevirtual 304, 3) := by decide +kernel
theorem dX11_holds_10 : decode cX11_holds 10 = .ok (.aload_n 0, 1) := by decide +kernel
theorem dX11_holds_11 : decode cX11_holds 11 = .ok (.getfield 51, 3) := by decide +kernel
theorem dX11_holds_14 : decode cX11_holds 14 = .ok (.sipush 1024, 3) := by decide +kernel
theorem dX11_holds_17 : decode cX11_holds 17 = .ok (.iload_n 1, 1) := by decide +kernel
theorem dX11_holds_18 : decode cX11_holds 18 = .ok (.iload_n 2, 1) := by decide +kernel
theorem dX11_holds_19 : decode cX11_holds 19 = .ok (.invokestatic 308, 3) := by decide +kernel
theorem dX11_holds_22 : decode cX11_holds 22 = .ok (.iadd, 1) := by decide +kernel
theorem dX11_holds_23 : decode cX11_holds 23 = .ok (.iload_n 3, 1) := by decide +kernel
theorem dX11_holds_24 : decode cX11_holds 24 = .ok (.iastore, 1) := by decide +kernel
theorem dX11_holds_25 : decode cX11_holds 25 = .ok (.aload_n 0, 1) := by decide +kernel
theorem dX11_holds_26 : decode cX11_holds 26 = .ok (.getfield 51, 3) := by decide +kernel
theorem dX11_holds_29 : decode cX11_holds 29 = .ok (.sipush 1104, 3) := by decide +kernel
theorem dX11_holds_32 : decode cX11_holds 32 = .ok (.iload_n 1, 1) := by decide +kernel
theorem dX11_holds_33 : decode cX11_holds 33 = .ok (.iload_n 2, 1) := by decide +kernel
theorem dX11_holds_34 : decode cX11_holds 34 = .ok (.invokestatic 308, 3) := by decide +kernel
theorem dX11_holds_37 : decode cX11_holds 37 = .ok (.iadd, 1) := by decide +kernel
theorem dX11_holds_38 : decode cX11_holds 38 = .ok (.iload 4, 2) := by decide +kernel
theorem dX11_holds_40 : decode cX11_holds 40 = .ok (.iastore, 1) := by decide +kernel
theorem dX11_holds_41 : decode cX11_holds 41 = .ok (.return_, 1) := by decide +kernel
theorem dX11_noOld_0 : decode cX11_noOld 0 = .ok (.aload_n 0, 1) := by decide +kernel
theorem dX11_noOld_1 : decode cX11_noOld 1 = .ok (.getfield 51, 3) := by decide +kernel
theorem dX11_noOld_4 : decode cX11_noOld 4 = .ok (.sipush 1184, 3) := by decide +kernel
theorem dX11_noOld_7 : decode cX11_noOld 7 = .ok (.iload_n 1, 1) := by decide +kernel
theorem dX11_noOld_8 : decode cX11_noOld 8 = .ok (.iload_n 2, 1) := by decide +kernel
theorem dX11_noOld_9 : decode cX11_noOld 9 = .ok (.invokestatic 308, 3) := by decide +kernel
theorem dX11_noOld_12 : decode cX11_noOld 12 = .ok (.iadd, 1) := by decide +kernel
theorem dX11_noOld_13 : decode cX11_noOld 13 = .ok (.iconst (-1), 1) := by decide +kernel
theorem dX11_noOld_14 : decode cX11_noOld 14 = .ok (.iastore, 1) := by decide +kernel
theorem dX11_noOld_15 : decode cX11_noOld 15 = .ok (.aload_n 0, 1) := by decide +kernel
theorem dX11_noOld_16 : decode cX11_noOld 16 = .ok (.getfield 51, 3) := by decide +kernel
theorem dX11_noOld_19 : decode cX11_noOld 19 = .ok (.sipush 1264, 3) := by decide +kernel
theorem dX11_noOld_22 : decode cX11_noOld 22 = .ok (.iload_n 1, 1) := by decide +kernel
theorem dX11_noOld_23 : decode cX11_noOld 23 = .ok (.iload_n 2, 1) := by decide +kernel
theorem dX11_noOld_24 : decode cX11_noOld 24 = .ok (.invokestatic 308, 3) := by decide +kernel
theorem dX11_noOld_27 : decode cX11_noOld 27 = .ok (.iadd, 1) := by decide +kernel
theorem dX11_noOld_28 : decode cX11_noOld 28 = .ok (.iconst (-1), 1) := by decide +kernel
theorem dX11_noOld_29 : decode cX11_noOld 29 = .ok (.iastore, 1) := by decide +kernel
theorem dX11_noOld_30 : decode cX11_noOld 30 = .ok (.aload_n 0, 1) := by decide +kernel
theorem dX11_noOld_31 : decode cX11_noOld 31 = .ok (.getfield 51, 3) := by decide +kernel
theorem dX11_noOld_34 : decode cX11_noOld 34 = .ok (.sipush 1344, 3) := by decide +kernel
theorem dX11_noOld_37 : decode cX11_noOld 37 = .ok (.iload_n 1, 1) := by decide +kernel
theorem dX11_noOld_38 : decode cX11_noOld 38 = .ok (.iload_n 2, 1) := by decide +kernel
theorem dX11_noOld_39 : decode cX11_noOld 39 = .ok (.invokestatic 308, 3) := by decide +kernel
theorem dX11_noOld_42 : decode cX11_noOld 42 = .ok (.iadd, 1) := by decide +kernel
theorem dX11_noOld_43 : decode cX11_noOld 43 = .ok (.iconst 0, 1) := by decide +kernel
theorem dX11_noOld_44 : decode cX11_noOld 44 = .ok (.iastore, 1) := by decide +kernel
theorem dX11_noOld_45 : decode cX11_noOld 45 = .ok (.return_, 1) := by decide +kernel
theorem dX11_hasOld_0 : decode cX11_hasOld 0 = .ok (.aload_n 0, 1) := by decide +kernel
theorem dX11_hasOld_1 : decode cX11_hasOld 1 = .ok (.getfield 51, 3) := by decide +kernel
theorem dX11_hasOld_4 : decode cX11_hasOld 4 = .ok (.sipush 1184, 3) := by decide +kernel
theorem dX11_hasOld_7 : decode cX11_hasOld 7 = .ok (.iload_n 1, 1) := by decide +kernel
theorem dX11_hasOld_8 : decode cX11_hasOld 8 = .ok (.iload_n 2, 1) := by decide +kernel
theorem dX11_hasOld_9 : decode cX11_hasOld 9 = .ok (.invokestatic 308, 3) := by decide +kernel
theorem dX11_hasOld_12 : decode cX11_hasOld 12 = .ok (.iadd, 1) := by decide +kernel
theorem dX11_hasOld_13 : decode cX11_hasOld 13 = .ok (.iaload, 1) := by decide +kernel
theorem dX11_hasOld_14 : decode cX11_hasOld 14 = .ok (.iconst (-1), 1) := by decide +kernel
theorem dX11_hasOld_15 : decode cX11_hasOld 15 = .ok (.if_icmp .eq 7, 3) := by decide +kernel
theorem dX11_hasOld_18 : decode cX11_hasOld 18 = .ok (.iconst 1, 1) := by decide +kernel
theorem dX11_hasOld_19 : decode cX11_hasOld 19 = .ok (.goto 4, 3) := by decide +kernel
theorem dX11_hasOld_22 : decode cX11_hasOld 22 = .ok (.iconst 0, 1) := by decide +kernel
theorem dX11_hasOld_23 : decode cX11_hasOld 23 = .ok (.ireturn, 1) := by decide +kernel
theorem dX11_leaves_0 : decode cX11_leaves 0 = .ok (.aload_n 0, 1) := by decide +kernel
theorem dX11_leaves_1 : decode cX11_leaves 1 = .ok (.iload_n 3, 1) := by decide +kernel
theorem dX11_leaves_2 : decode cX11_leaves 2 = .ok (.iload 4, 2) := by decide +kernel
theorem dX11_leaves_4 : decode cX11_leaves 4 = .ok (.aload_n 0, 1) := by decide +kernel
theorem dX11_leaves_5 : decode cX11_leaves 5 = .ok (.getfield 29, 3) := by decide +kernel
theorem dX11_leaves_8 : decode cX11_leaves 8 = .ok (.iload_n 1, 1) := by decide +kernel
theorem dX11_leaves_9 : decode cX11_leaves 9 = .ok (.iaload, 1) := by decide +kernel
theorem dX11_leaves_10 : decode cX11_leaves 10 = .ok (.iconst 3, 1) := by decide +kernel
theorem dX11_leaves_11 : decode cX11_leaves 11 = .ok (.if_icmp .ne 7, 3) := by decide +kernel
theorem dX11_leaves_14 : decode cX11_leaves 14 = .ok (.iconst 4, 1) := by decide +kernel
theorem dX11_leaves_15 : decode cX11_leaves 15 = .ok (.goto 4, 3) := by decide +kernel
theorem dX11_leaves_18 : decode cX11_leaves 18 = .ok (.iconst 0, 1) := by decide +kernel
theorem dX11_leaves_19 : decode cX11_leaves 19 = .ok (.iload_n 1, 1) := by decide +kernel
theorem dX11_leaves_20 : decode cX11_leaves 20 = .ok (.iload_n 2, 1) := by decide +kernel
theorem dX11_leaves_21 : decode cX11_leaves 21 = .ok (.invokevirtual 304, 3) := by decide +kernel
theorem dX11_leaves_24 : decode cX11_leaves 24 = .ok (.aload_n 0, 1) := by decide +kernel
theorem dX11_leaves_25 : decode cX11_leaves 25 = .ok (.getfield 51, 3) := by decide +kernel
theorem dX11_leaves_28 : decode cX11_leaves 28 = .ok (.sipush 768, 3) := by decide +kernel
theorem dX11_leaves_31 : decode cX11_leaves 31 = .ok (.iload_n 3, 1) := by decide +kernel
theorem dX11_leaves_32 : decode cX11_leaves 32 = .ok (.iload 4, 2) := by decide +kernel
theorem dX11_leaves_34 : decode cX11_leaves 34 = .ok (.invokestatic 286, 3) := by decide +kernel
theorem dX11_leaves_37 : decode cX11_leaves 37 = .ok (.iadd, 1) := by decide +kernel
theorem dX11_leaves_38 : decode cX11_leaves 38 = .ok (.iconst 0, 1) := by decide +kernel
theorem dX11_leaves_39 : decode cX11_leaves 39 = .ok (.iastore, 1) := by decide +kernel
theorem dX11_leaves_40 : decode cX11_leaves 40 = .ok (.return_, 1) := by decide +kernel
theorem dX11_merges_0 : decode cX11_merges 0 = .ok (.aload_n 0, 1) := by decide +kernel
theorem dX11_merges_1 : decode cX11_merges 1 = .ok (.getfield 51, 3) := by decide +kernel
theorem dX11_merges_4 : decode cX11_merges 4 = .ok (.sipush 1534, 3) := by decide +kernel
theorem dX11_merges_7 : decode cX11_merges 7 = .ok (.iload_n 1, 1) := by decide +kernel
theorem dX11_merges_8 : decode cX11_merges 8 = .ok (.iadd, 1) := by decide +kernel
theorem dX11_merges_9 : decode cX11_merges 9 = .ok (.dup2, 1) := by decide +kernel
theorem dX11_merges_10 : decode cX11_merges 10 = .ok (.iaload, 1) := by decide +kernel
theorem dX11_merges_11 : decode cX11_merges 11 = .ok (.iconst 1, 1) := by decide +kernel
theorem dX11_merges_12 : decode cX11_merges 12 = .ok (.iadd, 1) := by decide +kernel
theorem dX11_merges_13 : decode cX11_merges 13 = .ok (.iastore, 1) := by decide +kernel
theorem dX11_merges_14 : decode cX11_merges 14 = .ok (.aload_n 0, 1) := by decide +kernel
theorem dX11_merges_15 : decode cX11_merges 15 = .ok (.getfield 51, 3) := by decide +kernel
theorem dX11_merges_18 : decode cX11_merges 18 = .ok (.sipush 1572, 3) := by decide +kernel
theorem dX11_merges_21 : decode cX11_merges 21 = .ok (.dup2, 1) := by decide +kernel
theorem dX11_merges_22 : decode cX11_merges 22 = .ok (.iaload, 1) := by decide +kernel
theorem dX11_merges_23 : decode cX11_merges 23 = .ok (.iconst 1, 1) := by decide +kernel
theorem dX11_merges_24 : decode cX11_merges 24 = .ok (.iadd, 1) := by decide +kernel
theorem dX11_merges_25 : decode cX11_merges 25 = .ok (.iastore, 1) := by decide +kernel
theorem dX11_merges_26 : decode cX11_merges 26 = .ok (.return_, 1) := by decide +kernel
theorem dX11_pends_0 : decode cX11_pends 0 = .ok (.sipush 768, 3) := by decide +kernel
theorem dX11_pends_3 : decode cX11_pends 3 = .ok (.iload_n 2, 1) := by decide +kernel
theorem dX11_pends_4 : decode cX11_pends 4 = .ok (.iload_n 3, 1) := by decide +kernel
theorem dX11_pends_5 : decode cX11_pends 5 = .ok (.invokestatic 286, 3) := by decide +kernel
theorem dX11_pends_8 : decode cX11_pends 8 = .ok (.iadd, 1) := by decide +kernel
theorem dX11_pends_9 : decode cX11_pends 9 = .ok (.istore 4, 2) := by decide +kernel
theorem dX11_pends_11 : decode cX11_pends 11 = .ok (.aload_n 0, 1) := by decide +kernel
theorem dX11_pends_12 : decode cX11_pends 12 = .ok (.getfield 51, 3) := by decide +kernel
theorem dX11_pends_15 : decode cX11_pends 15 = .ok (.iload 4, 2) := by decide +kernel
theorem dX11_pends_17 : decode cX11_pends 17 = .ok (.iaload, 1) := by decide +kernel
theorem dX11_pends_18 : decode cX11_pends 18 = .ok (.iconst 1, 1) := by decide +kernel
theorem dX11_pends_19 : decode cX11_pends 19 = .ok (.if_icmp .ne 10, 3) := by decide +kernel
theorem dX11_pends_22 : decode cX11_pends 22 = .ok (.aload_n 0, 1) := by decide +kernel
theorem dX11_pends_23 : decode cX11_pends 23 = .ok (.iload_n 1, 1) := by decide +kernel
theorem dX11_pends_24 : decode cX11_pends 24 = .ok (.invokevirtual 311, 3) := by decide +kernel
theorem dX11_pends_27 : decode cX11_pends 27 = .ok (.iconst 0, 1) := by decide +kernel
theorem dX11_pends_28 : decode cX11_pends 28 = .ok (.ireturn, 1) := by decide +kernel
theorem dX11_pends_29 : decode cX11_pends 29 = .ok (.aload_n 0, 1) := by decide +kernel
theorem dX11_pends_30 : decode cX11_pends 30 = .ok (.getfield 51, 3) := by decide +kernel
theorem dX11_pends_33 : decode cX11_pends 33 = .ok (.iload 4, 2) := by decide +kernel
theorem dX11_pends_35 : decode cX11_pends 35 = .ok (.iconst 1, 1) := by decide +kernel
theorem dX11_pends_36 : decode cX11_pends 36 = .ok (.iastore, 1) := by decide +kernel
theorem dX11_pends_37 : decode cX11_pends 37 = .ok (.iconst 1, 1) := by decide +kernel
theorem dX11_pends_38 : decode cX11_pends 38 = .ok (.ireturn, 1) := by decide +kernel
theorem dX11_reservedAt_0 : decode cX11_reservedAt 0 = .ok (.iconst 0, 1) := by decide +kernel
theorem dX11_reservedAt_1 : decode cX11_reservedAt 1 = .ok (.istore 4, 2) := by decide +kernel
theorem dX11_reservedAt_3 : decode cX11_reservedAt 3 = .ok (.iload 4, 2) := by decide +kernel
theorem dX11_reservedAt_5 : decode cX11_reservedAt 5 = .ok (.aload_n 0, 1) := by decide +kernel
theorem dX11_reservedAt_6 : decode cX11_reservedAt 6 = .ok (.getfield 243, 3) := by decide +kernel
theorem dX11_reservedAt_9 : decode cX11_reservedAt 9 = .ok (.if_icmp .ge 67, 3) := by decide +kernel
theorem dX11_reservedAt_12 : decode cX11_reservedAt 12 = .ok (.aload_n 0, 1) := by decide +kernel
theorem dX11_reservedAt_13 : decode cX11_reservedAt 13 = .ok (.getfield 51, 3) := by decide +kernel
theorem dX11_reservedAt_16 : decode cX11_reservedAt 16 = .ok (.iconst 0, 1) := by decide +kernel
theorem dX11_reservedAt_17 : decode cX11_reservedAt 17 = .ok (.iload_n 3, 1) := by decide +kernel
theorem dX11_reservedAt_18 : decode cX11_reservedAt 18 = .ok (.iload 4, 2) := by decide +kernel
theorem dX11_reservedAt_20 : decode cX11_reservedAt 20 = .ok (.invokestatic 286, 3) := by decide +kernel
theorem dX11_reservedAt_23 : decode cX11_reservedAt 23 = .ok (.iadd, 1) := by decide +kernel
theorem dX11_reservedAt_24 : decode cX11_reservedAt 24 = .ok (.iaload, 1) := by decide +kernel
theorem dX11_reservedAt_25 : decode cX11_reservedAt 25 = .ok (.iconst 4, 1) := by decide +kernel
theorem dX11_reservedAt_26 : decode cX11_reservedAt 26 = .ok (.if_icmp .ne 44, 3) := by decide +kernel
theorem dX11_reservedAt_29 : decode cX11_reservedAt 29 = .ok (.aload_n 0, 1) := by decide +kernel
theorem dX11_reservedAt_30 : decode cX11_reservedAt 30 = .ok (.getfield 51, 3) := by decide +kernel
theorem dX11_reservedAt_33 : decode cX11_reservedAt 33 = .ok (.sipush 256, 3) := by decide +kernel
theorem dX11_reservedAt_36 : decode cX11_reservedAt 36 = .ok (.iload_n 3, 1) := by decide +kernel
theorem dX11_reservedAt_37 : decode cX11_reservedAt 37 = .ok (.iload 4, 2) := by decide +kernel
theorem dX11_reservedAt_39 : decode cX11_reservedAt 39 = .ok (.invokestatic 286, 3) := by decide +kernel
theorem dX11_reservedAt_42 : decode cX11_reservedAt 42 = .ok (.iadd, 1) := by decide +kernel
theorem dX11_reservedAt_43 : decode cX11_reservedAt 43 = .ok (.iaload, 1) := by decide +kernel
theorem dX11_reservedAt_44 : decode cX11_reservedAt 44 = .ok (.iload_n 1, 1) := by decide +kernel
theorem dX11_reservedAt_45 : decode cX11_reservedAt 45 = .ok (.if_icmp .ne 25, 3) := by decide +kernel
theorem dX11_reservedAt_48 : decode cX11_reservedAt 48 = .ok (.aload_n 0, 1) := by decide +kernel
theorem dX11_reservedAt_49 : decode cX11_reservedAt 49 = .ok (.getfield 51, 3) := by decide +kernel
theorem dX11_reservedAt_52 : decode cX11_reservedAt 52 = .ok (.sipush 512, 3) := by decide +kernel
theorem dX11_reservedAt_55 : decode cX11_reservedAt 55 = .ok (.iload_n 3, 1) := by decide +kernel
theorem dX11_reservedAt_56 : decode cX11_reservedAt 56 = .ok (.iload 4, 2) := by decide +kernel
theorem dX11_reservedAt_58 : decode cX11_reservedAt 58 = .ok (.invokestatic 286, 3) := by decide +kernel
theorem dX11_reservedAt_61 : decode cX11_reservedAt 61 = .ok (.iadd, 1) := by decide +kernel
theorem dX11_reservedAt_62 : decode cX11_reservedAt 62 = .ok (.iaload, 1) := by decide +kernel
theorem dX11_reservedAt_63 : decode cX11_reservedAt 63 = .ok (.iload_n 2, 1) := by decide +kernel
theorem dX11_reservedAt_64 : decode cX11_reservedAt 64 = .ok (.if_icmp .ne 6, 3) := by decide +kernel
theorem dX11_reservedAt_67 : decode cX11_reservedAt 67 = .ok (.iload 4, 2) := by decide +kernel
theorem dX11_reservedAt_69 : decode cX11_reservedAt 69 = .ok (.ireturn, 1) := by decide +kernel
theorem dX11_reservedAt_70 : decode cX11_reservedAt 70 = .ok (.iinc 4 1, 3) := by decide +kernel
theorem dX11_reservedAt_73 : decode cX11_reservedAt 73 = .ok (.goto (-70), 3) := by decide +kernel
theorem dX11_reservedAt_76 : decode cX11_reservedAt 76 = .ok (.iconst (-1), 1) := by decide +kernel
theorem dX11_reservedAt_77 : decode cX11_reservedAt 77 = .ok (.ireturn, 1) := by decide +kernel
theorem dX11_setMany_0 : decode cX11_setMany 0 = .ok (.iconst 0, 1) := by decide +kernel
theorem dX11_setMany_1 : decode cX11_setMany 1 = .ok (.istore_n 2, 1) := by decide +kernel
theorem dX11_setMany_2 : decode cX11_setMany 2 = .ok (.iconst 0, 1) := by decide +kernel
theorem dX11_setMany_3 : decode cX11_setMany 3 = .ok (.istore_n 3, 1) := by decide +kernel
theorem dX11_setMany_4 : decode cX11_setMany 4 = .ok (.iload_n 3, 1) := by decide +kernel
theorem dX11_setMany_5 : decode cX11_setMany 5 = .ok (.aload_n 0, 1) := by decide +kernel
theorem dX11_setMany_6 : decode cX11_setMany 6 = .ok (.getfield 240, 3) := by decide +kernel
theorem dX11_setMany_9 : decode cX11_setMany 9 = .ok (.if_icmp .ge 22, 3) := by decide +kernel
theorem dX11_setMany_12 : decode cX11_setMany 12 = .ok (.iload_n 2, 1) := by decide +kernel
theorem dX11_setMany_13 : decode cX11_setMany 13 = .ok (.aload_n 0, 1) := by decide +kernel
theorem dX11_setMany_14 : decode cX11_setMany 14 = .ok (.getfield 35, 3) := by decide +kernel
theorem dX11_setMany_17 : decode cX11_setMany 17 = .ok (.iload_n 1, 1) := by decide +kernel
theorem dX11_setMany_18 : decode cX11_setMany 18 = .ok (.iaload, 1) := by decide +kernel
theorem dX11_setMany_19 : decode cX11_setMany 19 = .ok (.iload_n 3, 1) := by decide +kernel
theorem dX11_setMany_20 : decode cX11_setMany 20 = .ok (.ishr, 1) := by decide +kernel
theorem dX11_setMany_21 : decode cX11_setMany 21 = .ok (.iconst 1, 1) := by decide +kernel
theorem dX11_setMany_22 : decode cX11_setMany 22 = .ok (.iand, 1) := by decide +kernel
theorem dX11_setMany_23 : decode cX11_setMany 23 = .ok (.iadd, 1) := by decide +kernel
theorem dX11_setMany_24 : decode cX11_setMany 24 = .ok (.istore_n 2, 1) := by decide +kernel
theorem dX11_setMany_25 : decode cX11_setMany 25 = .ok (.iinc 3 1, 3) := by decide +kernel
theorem dX11_setMany_28 : decode cX11_setMany 28 = .ok (.goto (-24), 3) := by decide +kernel
theorem dX11_setMany_31 : decode cX11_setMany 31 = .ok (.iload_n 2, 1) := by decide +kernel
theorem dX11_setMany_32 : decode cX11_setMany 32 = .ok (.ireturn, 1) := by decide +kernel
theorem dX11_spreadOf_0 : decode cX11_spreadOf 0 = .ok (.aload_n 0, 1) := by decide +kernel
theorem dX11_spreadOf_1 : decode cX11_spreadOf 1 = .ok (.iload_n 1, 1) := by decide +kernel
theorem dX11_spreadOf_2 : decode cX11_spreadOf 2 = .ok (.invokevirtual 314, 3) := by decide +kernel
theorem dX11_spreadOf_5 : decode cX11_spreadOf 5 = .ok (.istore_n 3, 1) := by decide +kernel
theorem dX11_spreadOf_6 : decode cX11_spreadOf 6 = .ok (.iconst 0, 1) := by decide +kernel
theorem dX11_spreadOf_7 : decode cX11_spreadOf 7 = .ok (.istore 4, 2) := by decide +kernel
theorem dX11_spreadOf_9 : decode cX11_spreadOf 9 = .ok (.iconst 0, 1) := by decide +kernel
theorem dX11_spreadOf_10 : decode cX11_spreadOf 10 = .ok (.istore 5, 2) := by decide +kernel
theorem dX11_spreadOf_12 : decode cX11_spreadOf 12 = .ok (.iconst 0, 1) := by decide +kernel
theorem dX11_spreadOf_13 : decode cX11_spreadOf 13 = .ok (.istore 6, 2) := by decide +kernel
theorem dX11_spreadOf_15 : decode cX11_spreadOf 15 = .ok (.iload 6, 2) := by decide +kernel
theorem dX11_spreadOf_17 : decode cX11_spreadOf 17 = .ok (.aload_n 0, 1) := by decide +kernel
theorem dX11_spreadOf_18 : decode cX11_spreadOf 18 = .ok (.getfield 240, 3) := by decide +kernel
theorem dX11_spreadOf_21 : decode cX11_spreadOf 21 = .ok (.if_icmp .ge 95, 3) := by decide +kernel
theorem dX11_spreadOf_24 : decode cX11_spreadOf 24 = .ok (.aload_n 0, 1) := by decide +kernel
theorem dX11_spreadOf_25 : decode cX11_spreadOf 25 = .ok (.getfield 35, 3) := by decide +kernel
theorem dX11_spreadOf_28 : decode cX11_spreadOf 28 = .ok (.iload_n 1, 1) := by decide +kernel
theorem dX11_spreadOf_29 : decode cX11_spreadOf 29 = .ok (.iaload, 1) := by decide +kernel
theorem dX11_spreadOf_30 : decode cX11_spreadOf 30 = .ok (.iload 6, 2) := by decide +kernel
theorem dX11_spreadOf_32 : decode cX11_spreadOf 32 = .ok (.invokestatic 192, 3) := by decide +kernel
theorem dX11_spreadOf_35 : decode cX11_spreadOf 35 = .ok (.ifCond .ne 6, 3) := by decide +kernel
theorem dX11_spreadOf_38 : decode cX11_spreadOf 38 = .ok (.goto 72, 3) := by decide +kernel
theorem dX11_spreadOf_41 : decode cX11_spreadOf 41 = .ok (.iload_n 3, 1) := by decide +kernel
theorem dX11_spreadOf_42 : decode cX11_spreadOf 42 = .ok (.aload_n 0, 1) := by decide +kernel
theorem dX11_spreadOf_43 : decode cX11_spreadOf 43 = .ok (.getfield 32, 3) := by decide +kernel
theorem dX11_spreadOf_46 : decode cX11_spreadOf 46 = .ok (.iload_n 1, 1) := by decide +kernel
theorem dX11_spreadOf_47 : decode cX11_spreadOf 47 = .ok (.iaload, 1) := by decide +kernel
theorem dX11_spreadOf_48 : decode cX11_spreadOf 48 = .ok (.if_icmp .lt 26, 3) := by decide +kernel
theorem dX11_spreadOf_51 : decode cX11_spreadOf 51 = .ok (.iload 5, 2) := by decide +kernel
theorem dX11_spreadOf_53 : decode cX11_spreadOf 53 = .ok (.aload_n 0, 1) := by decide +kernel
theorem dX11_spreadOf_54 : decode cX11_spreadOf 54 = .ok (.getfield 32, 3) := by decide +kernel
theorem dX11_spreadOf_57 : decode cX11_spreadOf 57 = .ok (.iload_n 1, 1) := by decide +kernel
theorem dX11_spreadOf_58 : decode cX11_spreadOf 58 = .ok (.iaload, 1) := by decide +kernel
theorem dX11_spreadOf_59 : decode cX11_spreadOf 59 = .ok (.imul, 1) := by decide +kernel
theorem dX11_spreadOf_60 : decode cX11_spreadOf 60 = .ok (.iload_n 3, 1) := by decide +kernel
theorem dX11_spreadOf_61 : decode cX11_spreadOf 61 = .ok (.idiv, 1) := by decide +kernel
theorem dX11_spreadOf_62 : decode cX11_spreadOf 62 = .ok (.iload_n 2, 1) := by decide +kernel
theorem dX11_spreadOf_63 : decode cX11_spreadOf 63 = .ok (.if_icmp .ne 7, 3) := by decide +kernel
theorem dX11_spreadOf_66 : decode cX11_spreadOf 66 = .ok (.iconst 1, 1) := by decide +kernel
theorem dX11_spreadOf_67 : decode cX11_spreadOf 67 = .ok (.goto 20, 3) := by decide +kernel
theorem dX11_spreadOf_70 : decode cX11_spreadOf 70 = .ok (.iconst 0, 1) := by decide +kernel
theorem dX11_spreadOf_71 : decode cX11_spreadOf 71 = .ok (.goto 16, 3) := by decide +kernel
theorem dX11_spreadOf_74 : decode cX11_spreadOf 74 = .ok (.iload_n 2, 1) := by decide +kernel
theorem dX11_spreadOf_75 : decode cX11_spreadOf 75 = .ok (.iload_n 3, 1) := by decide +kernel
theorem dX11_spreadOf_76 : decode cX11_spreadOf 76 = .ok (.irem, 1) := by decide +kernel
theorem dX11_spreadOf_77 : decode cX11_spreadOf 77 = .ok (.iload 5, 2) := by decide +kernel
theorem dX11_spreadOf_79 : decode cX11_spreadOf 79 = .ok (.if_icmp .ne 7, 3) := by decide +kernel
theorem dX11_spreadOf_82 : decode cX11_spreadOf 82 = .ok (.iconst 1, 1) := by decide +kernel
theorem dX11_spreadOf_83 : decode cX11_spreadOf 83 = .ok (.goto 4, 3) := by decide +kernel
theorem dX11_spreadOf_86 : decode cX11_spreadOf 86 = .ok (.iconst 0, 1) := by decide +kernel
theorem dX11_spreadOf_87 : decode cX11_spreadOf 87 = .ok (.istore 7, 2) := by decide +kernel
theorem dX11_spreadOf_89 : decode cX11_spreadOf 89 = .ok (.iload 4, 2) := by decide +kernel
theorem dX11_spreadOf_91 : decode cX11_spreadOf 91 = .ok (.iload 7, 2) := by decide +kernel
theorem dX11_spreadOf_93 : decode cX11_spreadOf 93 = .ok (.ifCond .eq 10, 3) := by decide +kernel
theorem dX11_spreadOf_96 : decode cX11_spreadOf 96 = .ok (.iconst 1, 1) := by decide +kernel
theorem dX11_spreadOf_97 : decode cX11_spreadOf 97 = .ok (.iload 6, 2) := by decide +kernel
theorem dX11_spreadOf_99 : decode cX11_spreadOf 99 = .ok (.ishl, 1) := by decide +kernel
theorem dX11_spreadOf_100 : decode cX11_spreadOf 100 = .ok (.goto 4, 3) := by decide +kernel
theorem dX11_spreadOf_103 : decode cX11_spreadOf 103 = .ok (.iconst 0, 1) := by decide +kernel
theorem dX11_spreadOf_104 : decode cX11_spreadOf 104 = .ok (.ior, 1) := by decide +kernel
theorem dX11_spreadOf_105 : decode cX11_spreadOf 105 = .ok (.istore 4, 2) := by decide +kernel
theorem dX11_spreadOf_107 : decode cX11_spreadOf 107 = .ok (.iinc 5 1, 3) := by decide +kernel
theorem dX11_spreadOf_110 : decode cX11_spreadOf 110 = .ok (.iinc 6 1, 3) := by decide +kernel
theorem dX11_spreadOf_113 : decode cX11_spreadOf 113 = .ok (.goto (-98), 3) := by decide +kernel
theorem dX11_spreadOf_116 : decode cX11_spreadOf 116 = .ok (.iload 4, 2) := by decide +kernel
theorem dX11_spreadOf_118 : decode cX11_spreadOf 118 = .ok (.ireturn, 1) := by decide +kernel
theorem dX11_leastOf_0 : decode cX11_leastOf 0 = .ok (.iconst (-1), 1) := by decide +kernel
theorem dX11_leastOf_1 : decode cX11_leastOf 1 = .ok (.istore_n 2, 1) := by decide +kernel
theorem dX11_leastOf_2 : decode cX11_leastOf 2 = .ok (.iconst 0, 1) := by decide +kernel
theorem dX11_leastOf_3 : decode cX11_leastOf 3 = .ok (.istore_n 3, 1) := by decide +kernel
theorem dX11_leastOf_4 : decode cX11_leastOf 4 = .ok (.iload_n 3, 1) := by decide +kernel
theorem dX11_leastOf_5 : decode cX11_leastOf 5 = .ok (.aload_n 0, 1) := by decide +kernel
theorem dX11_leastOf_6 : decode cX11_leastOf 6 = .ok (.getfield 240, 3) := by decide +kernel
theorem dX11_leastOf_9 : decode cX11_leastOf 9 = .ok (.if_icmp .ge 45, 3) := by decide +kernel
theorem dX11_leastOf_12 : decode cX11_leastOf 12 = .ok (.iload_n 1, 1) := by decide +kernel
theorem dX11_leastOf_13 : decode cX11_leastOf 13 = .ok (.iload_n 3, 1) := by decide +kernel
theorem dX11_leastOf_14 : decode cX11_leastOf 14 = .ok (.invokestatic 192, 3) := by decide +kernel
theorem dX11_leastOf_17 : decode cX11_leastOf 17 = .ok (.ifCond .eq 31, 3) := by decide +kernel
theorem dX11_leastOf_20 : decode cX11_leastOf 20 = .ok (.aload_n 0, 1) := by decide +kernel
theorem dX11_leastOf_21 : decode cX11_leastOf 21 = .ok (.iload_n 3, 1) := by decide +kernel
theorem dX11_leastOf_22 : decode cX11_leastOf 22 = .ok (.invokevirtual 292, 3) := by decide +kernel
theorem dX11_leastOf_25 : decode cX11_leastOf 25 = .ok (.ifCond .eq 23, 3) := by decide +kernel
theorem dX11_leastOf_28 : decode cX11_leastOf 28 = .ok (.iload_n 2, 1) := by decide +kernel
theorem dX11_leastOf_29 : decode cX11_leastOf 29 = .ok (.iconst (-1), 1) := by decide +kernel
theorem dX11_leastOf_30 : decode cX11_leastOf 30 = .ok (.if_icmp .eq 16, 3) := by decide +kernel
theorem dX11_leastOf_33 : decode cX11_leastOf 33 = .ok (.aload_n 0, 1) := by decide +kernel
theorem dX11_leastOf_34 : decode cX11_leastOf 34 = .ok (.iload_n 3, 1) := by decide +kernel
theorem dX11_leastOf_35 : decode cX11_leastOf 35 = .ok (.invokevirtual 301, 3) := by decide +kernel
theorem dX11_leastOf_38 : decode cX11_leastOf 38 = .ok (.aload_n 0, 1) := by decide +kernel
theorem dX11_leastOf_39 : decode cX11_leastOf 39 = .ok (.iload_n 2, 1) := by decide +kernel
theorem dX11_leastOf_40 : decode cX11_leastOf 40 = .ok (.invokevirtual 301, 3) := by decide +kernel
theorem dX11_leastOf_43 : decode cX11_leastOf 43 = .ok (.if_icmp .ge 5, 3) := by decide +kernel
theorem dX11_leastOf_46 : decode cX11_leastOf 46 = .ok (.iload_n 3, 1) := by decide +kernel
theorem dX11_leastOf_47 : decode cX11_leastOf 47 = .ok (.istore_n 2, 1) := by decide +kernel
theorem dX11_leastOf_48 : decode cX11_leastOf 48 = .ok (.iinc 3 1, 3) := by decide +kernel
theorem dX11_leastOf_51 : decode cX11_leastOf 51 = .ok (.goto (-47), 3) := by decide +kernel
theorem dX11_leastOf_54 : decode cX11_leastOf 54 = .ok (.iload_n 2, 1) := by decide +kernel
theorem dX11_leastOf_55 : decode cX11_leastOf 55 = .ok (.ireturn, 1) := by decide +kernel
theorem dX11_putsAside_0 : decode cX11_putsAside 0 = .ok (.iconst 0, 1) := by decide +kernel
theorem dX11_putsAside_1 : decode cX11_putsAside 1 = .ok (.istore_n 1, 1) := by decide +kernel
theorem dX11_putsAside_2 : decode cX11_putsAside 2 = .ok (.iload_n 1, 1) := by decide +kernel
theorem dX11_putsAside_3 : decode cX11_putsAside 3 = .ok (.sipush 1775, 3) := by decide +kernel
theorem dX11_putsAside_6 : decode cX11_putsAside 6 = .ok (.if_icmp .ge 21, 3) := by decide +kernel
theorem dX11_putsAside_9 : decode cX11_putsAside 9 = .ok (.aload_n 0, 1) := by decide +kernel
theorem dX11_putsAside_10 : decode cX11_putsAside 10 = .ok (.getfield 54, 3) := by decide +kernel
theorem dX11_putsAside_13 : decode cX11_putsAside 13 = .ok (.iload_n 1, 1) := by decide +kernel
theorem dX11_putsAside_14 : decode cX11_putsAside 14 = .ok (.aload_n 0, 1) := by decide +kernel
theorem dX11_putsAside_15 : decode cX11_putsAside 15 = .ok (.getfield 51, 3) := by decide +kernel
theorem dX11_putsAside_18 : decode cX11_putsAside 18 = .ok (.iload_n 1, 1) := by decide +kernel
theorem dX11_putsAside_19 : decode cX11_putsAside 19 = .ok (.iaload, 1) := by decide +kernel
theorem dX11_putsAside_20 : decode cX11_putsAside 20 = .ok (.iastore, 1) := by decide +kernel
theorem dX11_putsAside_21 : decode cX11_putsAside 21 = .ok (.iinc 1 1, 3) := by decide +kernel
theorem dX11_putsAside_24 : decode cX11_putsAside 24 = .ok (.goto (-22), 3) := by decide +kernel
theorem dX11_putsAside_27 : decode cX11_putsAside 27 = .ok (.return_, 1) := by decide +kernel
theorem dX11_comesBack_0 : decode cX11_comesBack 0 = .ok (.iconst 0, 1) := by decide +kernel
theorem dX11_comesBack_1 : decode cX11_comesBack 1 = .ok (.istore_n 1, 1) := by decide +kernel
theorem dX11_comesBack_2 : decode cX11_comesBack 2 = .ok (.iload_n 1, 1) := by decide +kernel
theorem dX11_comesBack_3 : decode cX11_comesBack 3 = .ok (.sipush 1775, 3) := by decide +kernel
theorem dX11_comesBack_6 : decode cX11_comesBack 6 = .ok (.if_icmp .ge 21, 3) := by decide +kernel
theorem dX11_comesBack_9 : decode cX11_comesBack 9 = .ok (.aload_n 0, 1) := by decide +kernel
theorem dX11_comesBack_10 : decode cX11_comesBack 10 = .ok (.getfield 51, 3) := by decide +kernel
theorem dX11_comesBack_13 : decode cX11_comesBack 13 = .ok (.iload_n 1, 1) := by decide +kernel
theorem dX11_comesBack_14 : decode cX11_comesBack 14 = .ok (.aload_n 0, 1) := by decide +kernel
theorem dX11_comesBack_15 : decode cX11_comesBack 15 = .ok (.getfield 54, 3) := by decide +kernel
theorem dX11_comesBack_18 : decode cX11_comesBack 18 = .ok (.iload_n 1, 1) := by decide +kernel
theorem dX11_comesBack_19 : decode cX11_comesBack 19 = .ok (.iaload, 1) := by decide +kernel
theorem dX11_comesBack_20 : decode cX11_comesBack 20 = .ok (.iastore, 1) := by decide +kernel
theorem dX11_comesBack_21 : decode cX11_comesBack 21 = .ok (.iinc 1 1, 3) := by decide +kernel
theorem dX11_comesBack_24 : decode cX11_comesBack 24 = .ok (.goto (-22), 3) := by decide +kernel
theorem dX11_comesBack_27 : decode cX11_comesBack 27 = .ok (.return_, 1) := by decide +kernel
theorem dX11_startsDealt_0 : decode cX11_startsDealt 0 = .ok (.aload_n 0, 1) := by decide +kernel
theorem dX11_startsDealt_1 : decode cX11_startsDealt 1 = .ok (.aload_n 0, 1) := by decide +kernel
theorem dX11_startsDealt_2 : decode cX11_startsDealt 2 = .ok (.getfield 32, 3) := by decide +kernel
theorem dX11_startsDealt_5 : decode cX11_startsDealt 5 = .ok (.iload_n 1, 1) := by decide +kernel
theorem dX11_startsDealt_6 : decode cX11_startsDealt 6 = .ok (.iaload, 1) := by decide +kernel
theorem dX11_startsDealt_7 : decode cX11_startsDealt 7 = .ok (.aload_n 0, 1) := by decide +kernel
theorem dX11_startsDealt_8 : decode cX11_startsDealt 8 = .ok (.getfield 35, 3) := by decide +kernel
theorem dX11_startsDealt_11 : decode cX11_startsDealt 11 = .ok (.iload_n 1, 1) := by decide +kernel
theorem dX11_startsDealt_12 : decode cX11_startsDealt 12 = .ok (.iaload, 1) := by decide +kernel
theorem dX11_startsDealt_13 : decode cX11_startsDealt 13 = .ok (.invokevirtual 317, 3) := by decide +kernel
theorem dX11_startsDealt_16 : decode cX11_startsDealt 16 = .ok (.istore_n 2, 1) := by decide +kernel
theorem dX11_startsDealt_17 : decode cX11_startsDealt 17 = .ok (.iload_n 2, 1) := by decide +kernel
theorem dX11_startsDealt_18 : decode cX11_startsDealt 18 = .ok (.iconst (-1), 1) := by decide +kernel
theorem dX11_startsDealt_19 : decode cX11_startsDealt 19 = .ok (.if_icmp .ne 5, 3) := by decide +kernel
theorem dX11_startsDealt_22 : decode cX11_startsDealt 22 = .ok (.iconst 1, 1) := by decide +kernel
theorem dX11_startsDealt_23 : decode cX11_startsDealt 23 = .ok (.ireturn, 1) := by decide +kernel
theorem dX11_startsDealt_24 : decode cX11_startsDealt 24 = .ok (.aload_n 0, 1) := by decide +kernel
theorem dX11_startsDealt_25 : decode cX11_startsDealt 25 = .ok (.iload_n 2, 1) := by decide +kernel
theorem dX11_startsDealt_26 : decode cX11_startsDealt 26 = .ok (.aload_n 0, 1) := by decide +kernel
theorem dX11_startsDealt_27 : decode cX11_startsDealt 27 = .ok (.getfield 32, 3) := by decide +kernel
theorem dX11_startsDealt_30 : decode cX11_startsDealt 30 = .ok (.iload_n 1, 1) := by decide +kernel
theorem dX11_startsDealt_31 : decode cX11_startsDealt 31 = .ok (.iaload, 1) := by decide +kernel
theorem dX11_startsDealt_32 : decode cX11_startsDealt 32 = .ok (.invokevirtual 298, 3) := by decide +kernel
theorem dX11_startsDealt_35 : decode cX11_startsDealt 35 = .ok (.istore_n 3, 1) := by decide +kernel
theorem dX11_startsDealt_36 : decode cX11_startsDealt 36 = .ok (.iconst 0, 1) := by decide +kernel
theorem dX11_startsDealt_37 : decode cX11_startsDealt 37 = .ok (.istore 4, 2) := by decide +kernel
theorem dX11_startsDealt_39 : decode cX11_startsDealt 39 = .ok (.iload 4, 2) := by decide +kernel
theorem dX11_startsDealt_41 : decode cX11_startsDealt 41 = .ok (.aload_n 0, 1) := by decide +kernel
theorem dX11_startsDealt_42 : decode cX11_startsDealt 42 = .ok (.getfield 32, 3) := by decide +kernel
theorem dX11_startsDealt_45 : decode cX11_startsDealt 45 = .ok (.iload_n 1, 1) := by decide +kernel
theorem dX11_startsDealt_46 : decode cX11_startsDealt 46 = .ok (.iaload, 1) := by decide +kernel
theorem dX11_startsDealt_47 : decode cX11_startsDealt 47 = .ok (.if_icmp .ge 21, 3) := by decide +kernel
theorem dX11_startsDealt_50 : decode cX11_startsDealt 50 = .ok (.aload_n 0, 1) := by decide +kernel
theorem dX11_startsDealt_51 : decode cX11_startsDealt 51 = .ok (.iload_n 1, 1) := by decide +kernel
theorem dX11_startsDealt_52 : decode cX11_startsDealt 52 = .ok (.iload 4, 2) := by decide +kernel
theorem dX11_startsDealt_54 : decode cX11_startsDealt 54 = .ok (.iload_n 2, 1) := by decide +kernel
theorem dX11_startsDealt_55 : decode cX11_startsDealt 55 = .ok (.iload_n 3, 1) := by decide +kernel
theorem dX11_startsDealt_56 : decode cX11_startsDealt 56 = .ok (.iload 4, 2) := by decide +kernel
theorem dX11_startsDealt_58 : decode cX11_startsDealt 58 = .ok (.iadd, 1) := by decide +kernel
theorem dX11_startsDealt_59 : decode cX11_startsDealt 59 = .ok (.invokevirtual 320, 3) := by decide +kernel
theorem dX11_startsDealt_62 : decode cX11_startsDealt 62 = .ok (.iinc 4 1, 3) := by decide +kernel
theorem dX11_startsDealt_65 : decode cX11_startsDealt 65 = .ok (.goto (-26), 3) := by decide +kernel
theorem dX11_startsDealt_68 : decode cX11_startsDealt 68 = .ok (.iconst 0, 1) := by decide +kernel
theorem dX11_startsDealt_69 : decode cX11_startsDealt 69 = .ok (.ireturn, 1) := by decide +kernel
theorem dX11_startsQueues_0 : decode cX11_startsQueues 0 = .ok (.iconst 0, 1) := by decide +kernel
theorem dX11_startsQueues_1 : decode cX11_startsQueues 1 = .ok (.istore_n 2, 1) := by decide +kernel
theorem dX11_startsQueues_2 : decode cX11_startsQueues 2 = .ok (.iload_n 2, 1) := by decide +kernel
theorem dX11_startsQueues_3 : decode cX11_startsQueues 3 = .ok (.aload_n 0, 1) := by decide +kernel
theorem dX11_startsQueues_4 : decode cX11_startsQueues 4 = .ok (.getfield 32, 3) := by decide +kernel
theorem dX11_startsQueues_7 : decode cX11_startsQueues 7 = .ok (.iload_n 1, 1) := by decide +kernel
theorem dX11_startsQueues_8 : decode cX11_startsQueues 8 = .ok (.iaload, 1) := by decide +kernel
theorem dX11_startsQueues_9 : decode cX11_startsQueues 9 = .ok (.if_icmp .ge 67, 3) := by decide +kernel
theorem dX11_startsQueues_12 : decode cX11_startsQueues 12 = .ok (.iconst 0, 1) := by decide +kernel
theorem dX11_startsQueues_13 : decode cX11_startsQueues 13 = .ok (.istore_n 3, 1) := by decide +kernel
theorem dX11_startsQueues_14 : decode cX11_startsQueues 14 = .ok (.iload_n 3, 1) := by decide +kernel
theorem dX11_startsQueues_15 : decode cX11_startsQueues 15 = .ok (.aload_n 0, 1) := by decide +kernel
theorem dX11_startsQueues_16 : decode cX11_startsQueues 16 = .ok (.getfield 240, 3) := by decide +kernel
theorem dX11_startsQueues_19 : decode cX11_startsQueues 19 = .ok (.if_icmp .ge 51, 3) := by decide +kernel
theorem dX11_startsQueues_22 : decode cX11_startsQueues 22 = .ok (.aload_n 0, 1) := by decide +kernel
theorem dX11_startsQueues_23 : decode cX11_startsQueues 23 = .ok (.iload_n 1, 1) := by decide +kernel
theorem dX11_startsQueues_24 : decode cX11_startsQueues 24 = .ok (.iload_n 2, 1) := by decide +kernel
theorem dX11_startsQueues_25 : decode cX11_startsQueues 25 = .ok (.invokevirtual 324, 3) := by decide +kernel
theorem dX11_startsQueues_28 : decode cX11_startsQueues 28 = .ok (.iload_n 3, 1) := by decide +kernel
theorem dX11_startsQueues_29 : decode cX11_startsQueues 29 = .ok (.invokestatic 192, 3) := by decide +kernel
theorem dX11_startsQueues_32 : decode cX11_startsQueues 32 = .ok (.ifCond .ne 6, 3) := by decide +kernel
theorem dX11_startsQueues_35 : decode cX11_startsQueues 35 = .ok (.goto 29, 3) := by decide +kernel
theorem dX11_startsQueues_38 : decode cX11_startsQueues 38 = .ok (.aload_n 0, 1) := by decide +kernel
theorem dX11_startsQueues_39 : decode cX11_startsQueues 39 = .ok (.iload_n 3, 1) := by decide +kernel
theorem dX11_startsQueues_40 : decode cX11_startsQueues 40 = .ok (.iconst 1, 1) := by decide +kernel
theorem dX11_startsQueues_41 : decode cX11_startsQueues 41 = .ok (.invokevirtual 298, 3) := by decide +kernel
theorem dX11_startsQueues_44 : decode cX11_startsQueues 44 = .ok (.istore 4, 2) := by decide +kernel
theorem dX11_startsQueues_46 : decode cX11_startsQueues 46 = .ok (.iload 4, 2) := by decide +kernel
theorem dX11_startsQueues_48 : decode cX11_startsQueues 48 = .ok (.iconst (-1), 1) := by decide +kernel
theorem dX11_startsQueues_49 : decode cX11_startsQueues 49 = .ok (.if_icmp .ne 5, 3) := by decide +kernel
theorem dX11_startsQueues_52 : decode cX11_startsQueues 52 = .ok (.iconst 1, 1) := by decide +kernel
theorem dX11_startsQueues_53 : decode cX11_startsQueues 53 = .ok (.ireturn, 1) := by decide +kernel
theorem dX11_startsQueues_54 : decode cX11_startsQueues 54 = .ok (.aload_n 0, 1) := by decide +kernel
theorem dX11_startsQueues_55 : decode cX11_startsQueues 55 = .ok (.iload_n 3, 1) := by decide +kernel
theorem dX11_startsQueues_56 : decode cX11_startsQueues 56 = .ok (.iload 4, 2) := by decide +kernel
theorem dX11_startsQueues_58 : decode cX11_startsQueues 58 = .ok (.iconst 4, 1) := by decide +kernel
theorem dX11_startsQueues_59 : decode cX11_startsQueues 59 = .ok (.iload_n 1, 1) := by decide +kernel
theorem dX11_startsQueues_60 : decode cX11_startsQueues 60 = .ok (.iload_n 2, 1) := by decide +kernel
theorem dX11_startsQueues_61 : decode cX11_startsQueues 61 = .ok (.invokevirtual 304, 3) := by decide +kernel
theorem dX11_startsQueues_64 : decode cX11_startsQueues 64 = .ok (.iinc 3 1, 3) := by decide +kernel
theorem dX11_startsQueues_67 : decode cX11_startsQueues 67 = .ok (.goto (-53), 3) := by decide +kernel
theorem dX11_startsQueues_70 : decode cX11_startsQueues 70 = .ok (.iinc 2 1, 3) := by decide +kernel
theorem dX11_startsQueues_73 : decode cX11_startsQueues 73 = .ok (.goto (-71), 3) := by decide +kernel
theorem dX11_startsQueues_76 : decode cX11_startsQueues 76 = .ok (.iconst 0, 1) := by decide +kernel
theorem dX11_startsQueues_77 : decode cX11_startsQueues 77 = .ok (.istore_n 2, 1) := by decide +kernel
theorem dX11_startsQueues_78 : decode cX11_startsQueues 78 = .ok (.iload_n 2, 1) := by decide +kernel
theorem dX11_startsQueues_79 : decode cX11_startsQueues 79 = .ok (.aload_n 0, 1) := by decide +kernel
theorem dX11_startsQueues_80 : decode cX11_startsQueues 80 = .ok (.getfield 32, 3) := by decide +kernel
theorem dX11_startsQueues_83 : decode cX11_startsQueues 83 = .ok (.iload_n 1, 1) := by decide +kernel
theorem dX11_startsQueues_84 : decode cX11_startsQueues 84 = .ok (.iaload, 1) := by decide +kernel
theorem dX11_startsQueues_85 : decode cX11_startsQueues 85 = .ok (.if_icmp .ge 39, 3) := by decide +kernel
theorem dX11_startsQueues_88 : decode cX11_startsQueues 88 = .ok (.aload_n 0, 1) := by decide +kernel
theorem dX11_startsQueues_89 : decode cX11_startsQueues 89 = .ok (.aload_n 0, 1) := by decide +kernel
theorem dX11_startsQueues_90 : decode cX11_startsQueues 90 = .ok (.iload_n 1, 1) := by decide +kernel
theorem dX11_startsQueues_91 : decode cX11_startsQueues 91 = .ok (.iload_n 2, 1) := by decide +kernel
theorem dX11_startsQueues_92 : decode cX11_startsQueues 92 = .ok (.invokevirtual 324, 3) := by decide +kernel
theorem dX11_startsQueues_95 : decode cX11_startsQueues 95 = .ok (.invokevirtual 327, 3) := by decide +kernel
theorem dX11_startsQueues_98 : decode cX11_startsQueues 98 = .ok (.istore_n 3, 1) := by decide +kernel
theorem dX11_startsQueues_99 : decode cX11_startsQueues 99 = .ok (.iload_n 3, 1) := by decide +kernel
theorem dX11_startsQueues_100 : decode cX11_startsQueues 100 = .ok (.iconst (-1), 1) := by decide +kernel
theorem dX11_startsQueues_101 : decode cX11_startsQueues 101 = .ok (.if_icmp .eq 17, 3) := by decide +kernel
theorem dX11_startsQueues_104 : decode cX11_startsQueues 104 = .ok (.aload_n 0, 1) := by decide +kernel
theorem dX11_startsQueues_105 : decode cX11_startsQueues 105 = .ok (.iload_n 1, 1) := by decide +kernel
theorem dX11_startsQueues_106 : decode cX11_startsQueues 106 = .ok (.iload_n 2, 1) := by decide +kernel
theorem dX11_startsQueues_107 : decode cX11_startsQueues 107 = .ok (.iload_n 3, 1) := by decide +kernel
theorem dX11_startsQueues_108 : decode cX11_startsQueues 108 = .ok (.aload_n 0, 1) := by decide +kernel
theorem dX11_startsQueues_109 : decode cX11_startsQueues 109 = .ok (.iload_n 1, 1) := by decide +kernel
theorem dX11_startsQueues_110 : decode cX11_startsQueues 110 = .ok (.iload_n 2, 1) := by decide +kernel
theorem dX11_startsQueues_111 : decode cX11_startsQueues 111 = .ok (.iload_n 3, 1) := by decide +kernel
theorem dX11_startsQueues_112 : decode cX11_startsQueues 112 = .ok (.invokevirtual 330, 3) := by decide +kernel
theorem dX11_startsQueues_115 : decode cX11_startsQueues 115 = .ok (.invokevirtual 320, 3) := by decide +kernel
theorem dX11_startsQueues_118 : decode cX11_startsQueues 118 = .ok (.iinc 2 1, 3) := by decide +kernel
theorem dX11_startsQueues_121 : decode cX11_startsQueues 121 = .ok (.goto (-43), 3) := by decide +kernel
theorem dX11_startsQueues_124 : decode cX11_startsQueues 124 = .ok (.iconst 0, 1) := by decide +kernel
theorem dX11_startsQueues_125 : decode cX11_startsQueues 125 = .ok (.ireturn, 1) := by decide +kernel
theorem dX11_starts_0 : decode cX11_starts 0 = .ok (.aload_n 0, 1) := by decide +kernel
theorem dX11_starts_1 : decode cX11_starts 1 = .ok (.iload_n 1, 1) := by decide +kernel
theorem dX11_starts_2 : decode cX11_starts 2 = .ok (.invokevirtual 283, 3) := by decide +kernel
theorem dX11_starts_5 : decode cX11_starts 5 = .ok (.ifCond .eq 5, 3) := by decide +kernel
theorem dX11_starts_8 : decode cX11_starts 8 = .ok (.iconst 4, 1) := by decide +kernel
theorem dX11_starts_9 : decode cX11_starts 9 = .ok (.ireturn, 1) := by decide +kernel
theorem dX11_starts_10 : decode cX11_starts 10 = .ok (.aload_n 0, 1) := by decide +kernel
theorem dX11_starts_11 : decode cX11_starts 11 = .ok (.invokevirtual 334, 3) := by decide +kernel
theorem dX11_starts_14 : decode cX11_starts 14 = .ok (.aload_n 0, 1) := by decide +kernel
theorem dX11_starts_15 : decode cX11_starts 15 = .ok (.getfield 51, 3) := by decide +kernel
theorem dX11_starts_18 : decode cX11_starts 18 = .ok (.sipush 1504, 3) := by decide +kernel
theorem dX11_starts_21 : decode cX11_starts 21 = .ok (.iload_n 1, 1) := by decide +kernel
theorem dX11_starts_22 : decode cX11_starts 22 = .ok (.iadd, 1) := by decide +kernel
theorem dX11_starts_23 : decode cX11_starts 23 = .ok (.iconst 1, 1) := by decide +kernel
theorem dX11_starts_24 : decode cX11_starts 24 = .ok (.iastore, 1) := by decide +kernel
theorem dX11_starts_25 : decode cX11_starts 25 = .ok (.aload_n 0, 1) := by decide +kernel
theorem dX11_starts_26 : decode cX11_starts 26 = .ok (.getfield 51, 3) := by decide +kernel
theorem dX11_starts_29 : decode cX11_starts 29 = .ok (.sipush 1514, 3) := by decide +kernel
theorem dX11_starts_32 : decode cX11_starts 32 = .ok (.iload_n 1, 1) := by decide +kernel
theorem dX11_starts_33 : decode cX11_starts 33 = .ok (.iadd, 1) := by decide +kernel
theorem dX11_starts_34 : decode cX11_starts 34 = .ok (.iconst 0, 1) := by decide +kernel
theorem dX11_starts_35 : decode cX11_starts 35 = .ok (.iastore, 1) := by decide +kernel
theorem dX11_starts_36 : decode cX11_starts 36 = .ok (.iconst 0, 1) := by decide +kernel
theorem dX11_starts_37 : decode cX11_starts 37 = .ok (.istore_n 2, 1) := by decide +kernel
theorem dX11_starts_38 : decode cX11_starts 38 = .ok (.iload_n 2, 1) := by decide +kernel
theorem dX11_starts_39 : decode cX11_starts 39 = .ok (.bipush 8, 2) := by decide +kernel
theorem dX11_starts_41 : decode cX11_starts 41 = .ok (.if_icmp .ge 60, 3) := by decide +kernel
theorem dX11_starts_44 : decode cX11_starts 44 = .ok (.aload_n 0, 1) := by decide +kernel
theorem dX11_starts_45 : decode cX11_starts 45 = .ok (.getfield 51, 3) := by decide +kernel
theorem dX11_starts_48 : decode cX11_starts 48 = .ok (.sipush 1024, 3) := by decide +kernel
theorem dX11_starts_51 : decode cX11_starts 51 = .ok (.iload_n 1, 1) := by decide +kernel
theorem dX11_starts_52 : decode cX11_starts 52 = .ok (.iload_n 2, 1) := by decide +kernel
theorem dX11_starts_53 : decode cX11_starts 53 = .ok (.invokestatic 308, 3) := by decide +kernel
theorem dX11_starts_56 : decode cX11_starts 56 = .ok (.iadd, 1) := by decide +kernel
theorem dX11_starts_57 : decode cX11_starts 57 = .ok (.iconst (-1), 1) := by decide +kernel
theorem dX11_starts_58 : decode cX11_starts 58 = .ok (.iastore, 1) := by decide +kernel
theorem dX11_starts_59 : decode cX11_starts 59 = .ok (.aload_n 0, 1) := by decide +kernel
theorem dX11_starts_60 : decode cX11_starts 60 = .ok (.getfield 51, 3) := by decide +kernel
theorem dX11_starts_63 : decode cX11_starts 63 = .ok (.sipush 1104, 3) := by decide +kernel
theorem dX11_starts_66 : decode cX11_starts 66 = .ok (.iload_n 1, 1) := by decide +kernel
theorem dX11_starts_67 : decode cX11_starts 67 = .ok (.iload_n 2, 1) := by decide +kernel
theorem dX11_starts_68 : decode cX11_starts 68 = .ok (.invokestatic 308, 3) := by decide +kernel
theorem dX11_starts_71 : decode cX11_starts 71 = .ok (.iadd, 1) := by decide +kernel
theorem dX11_starts_72 : decode cX11_starts 72 = .ok (.iconst (-1), 1) := by decide +kernel
theorem dX11_starts_73 : decode cX11_starts 73 = .ok (.iastore, 1) := by decide +kernel
theorem dX11_starts_74 : decode cX11_starts 74 = .ok (.aload_n 0, 1) := by decide +kernel
theorem dX11_starts_75 : decode cX11_starts 75 = .ok (.iload_n 1, 1) := by decide +kernel
theorem dX11_starts_76 : decode cX11_starts 76 = .ok (.iload_n 2, 1) := by decide +kernel
theorem dX11_starts_77 : decode cX11_starts 77 = .ok (.invokevirtual 337, 3) := by decide +kernel
theorem dX11_starts_80 : decode cX11_starts 80 = .ok (.aload_n 0, 1) := by decide +kernel
theorem dX11_starts_81 : decode cX11_starts 81 = .ok (.getfield 51, 3) := by decide +kernel
theorem dX11_starts_84 : decode cX11_starts 84 = .ok (.sipush 1424, 3) := by decide +kernel
theorem dX11_starts_87 : decode cX11_starts 87 = .ok (.iload_n 1, 1) := by decide +kernel
theorem dX11_starts_88 : decode cX11_starts 88 = .ok (.iload_n 2, 1) := by decide +kernel
theorem dX11_starts_89 : decode cX11_starts 89 = .ok (.invokestatic 308, 3) := by decide +kernel
theorem dX11_starts_92 : decode cX11_starts 92 = .ok (.iadd, 1) := by decide +kernel
theorem dX11_starts_93 : decode cX11_starts 93 = .ok (.iconst 0, 1) := by decide +kernel
theorem dX11_starts_94 : decode cX11_starts 94 = .ok (.iastore, 1) := by decide +kernel
theorem dX11_starts_95 : decode cX11_starts 95 = .ok (.iinc 2 1, 3) := by decide +kernel
theorem dX11_starts_98 : decode cX11_starts 98 = .ok (.goto (-60), 3) := by decide +kernel
theorem dX11_starts_101 : decode cX11_starts 101 = .ok (.aload_n 0, 1) := by decide +kernel
theorem dX11_starts_102 : decode cX11_starts 102 = .ok (.getfield 29, 3) := by decide +kernel
theorem dX11_starts_105 : decode cX11_starts 105 = .ok (.iload_n 1, 1) := by decide +kernel
theorem dX11_starts_106 : decode cX11_starts 106 = .ok (.iaload, 1) := by decide +kernel
theorem dX11_starts_107 : decode cX11_starts 107 = .ok (.iconst 3, 1) := by decide +kernel
theorem dX11_starts_108 : decode cX11_starts 108 = .ok (.if_icmp .ne 11, 3) := by decide +kernel
theorem dX11_starts_111 : decode cX11_starts 111 = .ok (.aload_n 0, 1) := by decide +kernel
theorem dX11_starts_112 : decode cX11_starts 112 = .ok (.iload_n 1, 1) := by decide +kernel
theorem dX11_starts_113 : decode cX11_starts 113 = .ok (.invokevirtual 341, 3) := by decide +kernel
theorem dX11_starts_116 : decode cX11_starts 116 = .ok (.goto 8, 3) := by decide +kernel
theorem dX11_starts_119 : decode cX11_starts 119 = .ok (.aload_n 0, 1) := by decide +kernel
theorem dX11_starts_120 : decode cX11_starts 120 = .ok (.iload_n 1, 1) := by decide +kernel
theorem dX11_starts_121 : decode cX11_starts 121 = .ok (.invokevirtual 344, 3) := by decide +kernel
theorem dX11_starts_124 : decode cX11_starts 124 = .ok (.istore_n 2, 1) := by decide +kernel
theorem dX11_starts_125 : decode cX11_starts 125 = .ok (.iload_n 2, 1) := by decide +kernel
theorem dX11_starts_126 : decode cX11_starts 126 = .ok (.ifCond .ne 16, 3) := by decide +kernel
theorem dX11_starts_129 : decode cX11_starts 129 = .ok (.aload_n 0, 1) := by decide +kernel
theorem dX11_starts_130 : decode cX11_starts 130 = .ok (.invokevirtual 347, 3) := by decide +kernel
theorem dX11_starts_133 : decode cX11_starts 133 = .ok (.aload_n 0, 1) := by decide +kernel
theorem dX11_starts_134 : decode cX11_starts 134 = .ok (.invokevirtual 350, 3) := by decide +kernel
theorem dX11_starts_137 : decode cX11_starts 137 = .ok (.if_icmp .ge 5, 3) := by decide +kernel
theorem dX11_starts_140 : decode cX11_starts 140 = .ok (.iconst 2, 1) := by decide +kernel
theorem dX11_starts_141 : decode cX11_starts 141 = .ok (.istore_n 2, 1) := by decide +kernel
theorem dX11_starts_142 : decode cX11_starts 142 = .ok (.iload_n 2, 1) := by decide +kernel
theorem dX11_starts_143 : decode cX11_starts 143 = .ok (.ifCond .le 7, 3) := by decide +kernel
theorem dX11_starts_146 : decode cX11_starts 146 = .ok (.aload_n 0, 1) := by decide +kernel
theorem dX11_starts_147 : decode cX11_starts 147 = .ok (.invokevirtual 353, 3) := by decide +kernel
theorem dX11_starts_150 : decode cX11_starts 150 = .ok (.iload_n 2, 1) := by decide +kernel
theorem dX11_starts_151 : decode cX11_starts 151 = .ok (.ireturn, 1) := by decide +kernel
theorem dX11_stops_0 : decode cX11_stops 0 = .ok (.iconst 0, 1) := by decide +kernel
theorem dX11_stops_1 : decode cX11_stops 1 = .ok (.istore_n 2, 1) := by decide +kernel
theorem dX11_stops_2 : decode cX11_stops 2 = .ok (.iconst 0, 1) := by decide +kernel
theorem dX11_stops_3 : decode cX11_stops 3 = .ok (.istore_n 3, 1) := by decide +kernel
theorem dX11_stops_4 : decode cX11_stops 4 = .ok (.iload_n 3, 1) := by decide +kernel
theorem dX11_stops_5 : decode cX11_stops 5 = .ok (.aload_n 0, 1) := by decide +kernel
theorem dX11_stops_6 : decode cX11_stops 6 = .ok (.getfield 240, 3) := by decide +kernel
theorem dX11_stops_9 : decode cX11_stops 9 = .ok (.if_icmp .ge 93, 3) := by decide +kernel
theorem dX11_stops_12 : decode cX11_stops 12 = .ok (.iconst 0, 1) := by decide +kernel
theorem dX11_stops_13 : decode cX11_stops 13 = .ok (.istore 4, 2) := by decide +kernel
theorem dX11_stops_15 : decode cX11_stops 15 = .ok (.iload 4, 2) := by decide +kernel
theorem dX11_stops_17 : decode cX11_stops 17 = .ok (.aload_n 0, 1) := by decide +kernel
theorem dX11_stops_18 : decode cX11_stops 18 = .ok (.getfield 243, 3) := by decide +kernel
theorem dX11_stops_21 : decode cX11_stops 21 = .ok (.if_icmp .ge 75, 3) := by decide +kernel
theorem dX11_stops_24 : decode cX11_stops 24 = .ok (.aload_n 0, 1) := by decide +kernel
theorem dX11_stops_25 : decode cX11_stops 25 = .ok (.getfield 51, 3) := by decide +kernel
theorem dX11_stops_28 : decode cX11_stops 28 = .ok (.sipush 256, 3) := by decide +kernel
theorem dX11_stops_31 : decode cX11_stops 31 = .ok (.iload_n 3, 1) := by decide +kernel
theorem dX11_stops_32 : decode cX11_stops 32 = .ok (.iload 4, 2) := by decide +kernel
theorem dX11_stops_34 : decode cX11_stops 34 = .ok (.invokestatic 286, 3) := by decide +kernel
theorem dX11_stops_37 : decode cX11_stops 37 = .ok (.iadd, 1) := by decide +kernel
theorem dX11_stops_38 : decode cX11_stops 38 = .ok (.iaload, 1) := by decide +kernel
theorem dX11_stops_39 : decode cX11_stops 39 = .ok (.iload_n 1, 1) := by decide +kernel
theorem dX11_stops_40 : decode cX11_stops 40 = .ok (.if_icmp .eq 6, 3) := by decide +kernel
theorem dX11_stops_43 : decode cX11_stops 43 = .ok (.goto 47, 3) := by decide +kernel
theorem dX11_stops_46 : decode cX11_stops 46 = .ok (.iload_n 2, 1) := by decide +kernel
theorem dX11_stops_47 : decode cX11_stops 47 = .ok (.aload_n 0, 1) := by decide +kernel
theorem dX11_stops_48 : decode cX11_stops 48 = .ok (.getfield 51, 3) := by decide +kernel
theorem dX11_stops_51 : decode cX11_stops 51 = .ok (.sipush 768, 3) := by decide +kernel
theorem dX11_stops_54 : decode cX11_stops 54 = .ok (.iload_n 3, 1) := by decide +kernel
theorem dX11_stops_55 : decode cX11_stops 55 = .ok (.iload 4, 2) := by decide +kernel
theorem dX11_stops_57 : decode cX11_stops 57 = .ok (.invokestatic 286, 3) := by decide +kernel
theorem dX11_stops_60 : decode cX11_stops 60 = .ok (.iadd, 1) := by decide +kernel
theorem dX11_stops_61 : decode cX11_stops 61 = .ok (.iaload, 1) := by decide +kernel
theorem dX11_stops_62 : decode cX11_stops 62 = .ok (.iadd, 1) := by decide +kernel
theorem dX11_stops_63 : decode cX11_stops 63 = .ok (.istore_n 2, 1) := by decide +kernel
theorem dX11_stops_64 : decode cX11_stops 64 = .ok (.aload_n 0, 1) := by decide +kernel
theorem dX11_stops_65 : decode cX11_stops 65 = .ok (.getfield 51, 3) := by decide +kernel
theorem dX11_stops_68 : decode cX11_stops 68 = .ok (.sipush 768, 3) := by decide +kernel
theorem dX11_stops_71 : decode cX11_stops 71 = .ok (.iload_n 3, 1) := by decide +kernel
theorem dX11_stops_72 : decode cX11_stops 72 = .ok (.iload 4, 2) := by decide +kernel
theorem dX11_stops_74 : decode cX11_stops 74 = .ok (.invokestatic 286, 3) := by decide +kernel
theorem dX11_stops_77 : decode cX11_stops 77 = .ok (.iadd, 1) := by decide +kernel
theorem dX11_stops_78 : decode cX11_stops 78 = .ok (.iconst 0, 1) := by decide +kernel
theorem dX11_stops_79 : decode cX11_stops 79 = .ok (.iastore, 1) := by decide +kernel
theorem dX11_stops_80 : decode cX11_stops 80 = .ok (.aload_n 0, 1) := by decide +kernel
theorem dX11_stops_81 : decode cX11_stops 81 = .ok (.iload_n 3, 1) := by decide +kernel
theorem dX11_stops_82 : decode cX11_stops 82 = .ok (.iload 4, 2) := by decide +kernel
theorem dX11_stops_84 : decode cX11_stops 84 = .ok (.iconst 0, 1) := by decide +kernel
theorem dX11_stops_85 : decode cX11_stops 85 = .ok (.iload_n 1, 1) := by decide +kernel
theorem dX11_stops_86 : decode cX11_stops 86 = .ok (.iconst 0, 1) := by decide +kernel
theorem dX11_stops_87 : decode cX11_stops 87 = .ok (.invokevirtual 304, 3) := by decide +kernel
theorem dX11_stops_90 : decode cX11_stops 90 = .ok (.iinc 4 1, 3) := by decide +kernel
theorem dX11_stops_93 : decode cX11_stops 93 = .ok (.goto (-78), 3) := by decide +kernel
theorem dX11_stops_96 : decode cX11_stops 96 = .ok (.iinc 3 1, 3) := by decide +kernel
theorem dX11_stops_99 : decode cX11_stops 99 = .ok (.goto (-95), 3) := by decide +kernel
theorem dX11_stops_102 : decode cX11_stops 102 = .ok (.iconst 0, 1) := by decide +kernel
theorem dX11_stops_103 : decode cX11_stops 103 = .ok (.istore_n 3, 1) := by decide +kernel
theorem dX11_stops_104 : decode cX11_stops 104 = .ok (.iload_n 3, 1) := by decide +kernel
theorem dX11_stops_105 : decode cX11_stops 105 = .ok (.bipush 8, 2) := by decide +kernel
theorem dX11_stops_107 : decode cX11_stops 107 = .ok (.if_icmp .ge 77, 3) := by decide +kernel
theorem dX11_stops_110 : decode cX11_stops 110 = .ok (.iload_n 2, 1) := by decide +kernel
theorem dX11_stops_111 : decode cX11_stops 111 = .ok (.aload_n 0, 1) := by decide +kernel
theorem dX11_stops_112 : decode cX11_stops 112 = .ok (.getfield 51, 3) := by decide +kernel
theorem dX11_stops_115 : decode cX11_stops 115 = .ok (.sipush 1424, 3) := by decide +kernel
theorem dX11_stops_118 : decode cX11_stops 118 = .ok (.iload_n 1, 1) := by decide +kernel
theorem dX11_stops_119 : decode cX11_stops 119 = .ok (.iload_n 3, 1) := by decide +kernel
theorem dX11_stops_120 : decode cX11_stops 120 = .ok (.invokestatic 308, 3) := by decide +kernel
theorem dX11_stops_123 : decode cX11_stops 123 = .ok (.iadd, 1) := by decide +kernel
theorem dX11_stops_124 : decode cX11_stops 124 = .ok (.iaload, 1) := by decide +kernel
theorem dX11_stops_125 : decode cX11_stops 125 = .ok (.iadd, 1) := by decide +kernel
theorem dX11_stops_126 : decode cX11_stops 126 = .ok (.istore_n 2, 1) := by decide +kernel
theorem dX11_stops_127 : decode cX11_stops 127 = .ok (.aload_n 0, 1) := by decide +kernel
theorem dX11_stops_128 : decode cX11_stops 128 = .ok (.getfield 51, 3) := by decide +kernel
theorem dX11_stops_131 : decode cX11_stops 131 = .ok (.sipush 1424, 3) := by decide +kernel
theorem dX11_stops_134 : decode cX11_stops 134 = .ok (.iload_n 1, 1) := by decide +kernel
theorem dX11_stops_135 : decode cX11_stops 135 = .ok (.iload_n 3, 1) := by decide +kernel
theorem dX11_stops_136 : decode cX11_stops 136 = .ok (.invokestatic 308, 3) := by decide +kernel
theorem dX11_stops_139 : decode cX11_stops 139 = .ok (.iadd, 1) := by decide +kernel
theorem dX11_stops_140 : decode cX11_stops 140 = .ok (.iconst 0, 1) := by decide +kernel
theorem dX11_stops_141 : decode cX11_stops 141 = .ok (.iastore, 1) := by decide +kernel
theorem dX11_stops_142 : decode cX11_stops 142 = .ok (.aload_n 0, 1) := by decide +kernel
theorem dX11_stops_143 : decode cX11_stops 143 = .ok (.getfield 51, 3) := by decide +kernel
theorem dX11_stops_146 : decode cX11_stops 146 = .ok (.sipush 1024, 3) := by decide +kernel
theorem dX11_stops_149 : decode cX11_stops 149 = .ok (.iload_n 1, 1) := by decide +kernel
theorem dX11_stops_150 : decode cX11_stops 150 = .ok (.iload_n 3, 1) := by decide +kernel
theorem dX11_stops_151 : decode cX11_stops 151 = .ok (.invokestatic 308, 3) := by decide +kernel
theorem dX11_stops_154 : decode cX11_stops 154 = .ok (.iadd, 1) := by decide +kernel
theorem dX11_stops_155 : decode cX11_stops 155 = .ok (.iconst (-1), 1) := by decide +kernel
theorem dX11_stops_156 : decode cX11_stops 156 = .ok (.iastore, 1) := by decide +kernel
theorem dX11_stops_157 : decode cX11_stops 157 = .ok (.aload_n 0, 1) := by decide +kernel
theorem dX11_stops_158 : decode cX11_stops 158 = .ok (.getfield 51, 3) := by decide +kernel
theorem dX11_stops_161 : decode cX11_stops 161 = .ok (.sipush 1104, 3) := by decide +kernel
theorem dX11_stops_164 : decode cX11_stops 164 = .ok (.iload_n 1, 1) := by decide +kernel
theorem dX11_stops_165 : decode cX11_stops 165 = .ok (.iload_n 3, 1) := by decide +kernel
theorem dX11_stops_166 : decode cX11_stops 166 = .ok (.invokestatic 308, 3) := by decide +kernel
theorem dX11_stops_169 : decode cX11_stops 169 = .ok (.iadd, 1) := by decide +kernel
theorem dX11_stops_170 : decode cX11_stops 170 = .ok (.iconst (-1), 1) := by decide +kernel
theorem dX11_stops_171 : decode cX11_stops 171 = .ok (.iastore, 1) := by decide +kernel
theorem dX11_stops_172 : decode cX11_stops 172 = .ok (.aload_n 0, 1) := by decide +kernel
theorem dX11_stops_173 : decode cX11_stops 173 = .ok (.iload_n 1, 1) := by decide +kernel
theorem dX11_stops_174 : decode cX11_stops 174 = .ok (.iload_n 3, 1) := by decide +kernel
theorem dX11_stops_175 : decode cX11_stops 175 = .ok (.invokevirtual 337, 3) := by decide +kernel
theorem dX11_stops_178 : decode cX11_stops 178 = .ok (.iinc 3 1, 3) := by decide +kernel
theorem dX11_stops_181 : decode cX11_stops 181 = .ok (.goto (-77), 3) := by decide +kernel
theorem dX11_stops_184 : decode cX11_stops 184 = .ok (.aload_n 0, 1) := by decide +kernel
theorem dX11_stops_185 : decode cX11_stops 185 = .ok (.getfield 51, 3) := by decide +kernel
theorem dX11_stops_188 : decode cX11_stops 188 = .ok (.sipush 1504, 3) := by decide +kernel
theorem dX11_stops_191 : decode cX11_stops 191 = .ok (.iload_n 1, 1) := by decide +kernel
theorem dX11_stops_192 : decode cX11_stops 192 = .ok (.iadd, 1) := by decide +kernel
theorem dX11_stops_193 : decode cX11_stops 193 = .ok (.iconst 0, 1) := by decide +kernel
theorem dX11_stops_194 : decode cX11_stops 194 = .ok (.iastore, 1) := by decide +kernel
theorem dX11_stops_195 : decode cX11_stops 195 = .ok (.aload_n 0, 1) := by decide +kernel
theorem dX11_stops_196 : decode cX11_stops 196 = .ok (.getfield 51, 3) := by decide +kernel
theorem dX11_stops_199 : decode cX11_stops 199 = .ok (.sipush 1544, 3) := by decide +kernel
theorem dX11_stops_202 : decode cX11_stops 202 = .ok (.iload_n 1, 1) := by decide +kernel
theorem dX11_stops_203 : decode cX11_stops 203 = .ok (.iadd, 1) := by decide +kernel
theorem dX11_stops_204 : decode cX11_stops 204 = .ok (.dup2, 1) := by decide +kernel
theorem dX11_stops_205 : decode cX11_stops 205 = .ok (.iaload, 1) := by decide +kernel
theorem dX11_stops_206 : decode cX11_stops 206 = .ok (.iload_n 2, 1) := by decide +kernel
theorem dX11_stops_207 : decode cX11_stops 207 = .ok (.iadd, 1) := by decide +kernel
theorem dX11_stops_208 : decode cX11_stops 208 = .ok (.iastore, 1) := by decide +kernel
theorem dX11_stops_209 : decode cX11_stops 209 = .ok (.aload_n 0, 1) := by decide +kernel
theorem dX11_stops_210 : decode cX11_stops 210 = .ok (.getfield 51, 3) := by decide +kernel
theorem dX11_stops_213 : decode cX11_stops 213 = .ok (.sipush 1573, 3) := by decide +kernel
theorem dX11_stops_216 : decode cX11_stops 216 = .ok (.dup2, 1) := by decide +kernel
theorem dX11_stops_217 : decode cX11_stops 217 = .ok (.iaload, 1) := by decide +kernel
theorem dX11_stops_218 : decode cX11_stops 218 = .ok (.iload_n 2, 1) := by decide +kernel
theorem dX11_stops_219 : decode cX11_stops 219 = .ok (.iadd, 1) := by decide +kernel
theorem dX11_stops_220 : decode cX11_stops 220 = .ok (.iastore, 1) := by decide +kernel
theorem dX11_stops_221 : decode cX11_stops 221 = .ok (.iload_n 2, 1) := by decide +kernel
theorem dX11_stops_222 : decode cX11_stops 222 = .ok (.ireturn, 1) := by decide +kernel
theorem dX11_claims_0 : decode cX11_claims 0 = .ok (.aload_n 0, 1) := by decide +kernel
theorem dX11_claims_1 : decode cX11_claims 1 = .ok (.getfield 51, 3) := by decide +kernel
theorem dX11_claims_4 : decode cX11_claims 4 = .ok (.sipush 1514, 3) := by decide +kernel
theorem dX11_claims_7 : decode cX11_claims 7 = .ok (.iload_n 1, 1) := by decide +kernel
theorem dX11_claims_8 : decode cX11_claims 8 = .ok (.iadd, 1) := by decide +kernel
theorem dX11_claims_9 : decode cX11_claims 9 = .ok (.iaload, 1) := by decide +kernel
theorem dX11_claims_10 : decode cX11_claims 10 = .ok (.iconst 1, 1) := by decide +kernel
theorem dX11_claims_11 : decode cX11_claims 11 = .ok (.if_icmp .eq 21, 3) := by decide +kernel
theorem dX11_claims_14 : decode cX11_claims 14 = .ok (.aload_n 0, 1) := by decide +kernel
theorem dX11_claims_15 : decode cX11_claims 15 = .ok (.iload_n 1, 1) := by decide +kernel
theorem dX11_claims_16 : decode cX11_claims 16 = .ok (.invokevirtual 283, 3) := by decide +kernel
theorem dX11_claims_19 : decode cX11_claims 19 = .ok (.ifCond .ne 13, 3) := by decide +kernel
theorem dX11_claims_22 : decode cX11_claims 22 = .ok (.aload_n 0, 1) := by decide +kernel
theorem dX11_claims_23 : decode cX11_claims 23 = .ok (.getfield 29, 3) := by decide +kernel
theorem dX11_claims_26 : decode cX11_claims 26 = .ok (.iload_n 1, 1) := by decide +kernel
theorem dX11_claims_27 : decode cX11_claims 27 = .ok (.iaload, 1) := by decide +kernel
theorem dX11_claims_28 : decode cX11_claims 28 = .ok (.iconst 3, 1) := by decide +kernel
theorem dX11_claims_29 : decode cX11_claims 29 = .ok (.if_icmp .ne 5, 3) := by decide +kernel
theorem dX11_claims_32 : decode cX11_claims 32 = .ok (.iconst 4, 1) := by decide +kernel
theorem dX11_claims_33 : decode cX11_claims 33 = .ok (.ireturn, 1) := by decide +kernel
theorem dX11_claims_34 : decode cX11_claims 34 = .ok (.aload_n 0, 1) := by decide +kernel
theorem dX11_claims_35 : decode cX11_claims 35 = .ok (.invokevirtual 347, 3) := by decide +kernel
theorem dX11_claims_38 : decode cX11_claims 38 = .ok (.aload_n 0, 1) := by decide +kernel
theorem dX11_claims_39 : decode cX11_claims 39 = .ok (.invokevirtual 350, 3) := by decide +kernel
theorem dX11_claims_42 : decode cX11_claims 42 = .ok (.aload_n 0, 1) := by decide +kernel
theorem dX11_claims_43 : decode cX11_claims 43 = .ok (.getfield 32, 3) := by decide +kernel
theorem dX11_claims_46 : decode cX11_claims 46 = .ok (.iload_n 1, 1) := by decide +kernel
theorem dX11_claims_47 : decode cX11_claims 47 = .ok (.iaload, 1) := by decide +kernel
theorem dX11_claims_48 : decode cX11_claims 48 = .ok (.iadd, 1) := by decide +kernel
theorem dX11_claims_49 : decode cX11_claims 49 = .ok (.if_icmp .ge 5, 3) := by decide +kernel
theorem dX11_claims_52 : decode cX11_claims 52 = .ok (.iconst 2, 1) := by decide +kernel
theorem dX11_claims_53 : decode cX11_claims 53 = .ok (.ireturn, 1) := by decide +kernel
theorem dX11_claims_54 : decode cX11_claims 54 = .ok (.aload_n 0, 1) := by decide +kernel
theorem dX11_claims_55 : decode cX11_claims 55 = .ok (.getfield 51, 3) := by decide +kernel
theorem dX11_claims_58 : decode cX11_claims 58 = .ok (.sipush 1514, 3) := by decide +kernel
theorem dX11_claims_61 : decode cX11_claims 61 = .ok (.iload_n 1, 1) := by decide +kernel
theorem dX11_claims_62 : decode cX11_claims 62 = .ok (.iadd, 1) := by decide +kernel
theorem dX11_claims_63 : decode cX11_claims 63 = .ok (.iconst 1, 1) := by decide +kernel
theorem dX11_claims_64 : decode cX11_claims 64 = .ok (.iastore, 1) := by decide +kernel
theorem dX11_claims_65 : decode cX11_claims 65 = .ok (.iconst 0, 1) := by decide +kernel
theorem dX11_claims_66 : decode cX11_claims 66 = .ok (.ireturn, 1) := by decide +kernel
theorem dX11_raises_0 : decode cX11_raises 0 = .ok (.iload_n 1, 1) := by decide +kernel
theorem dX11_raises_1 : decode cX11_raises 1 = .ok (.iload_n 2, 1) := by decide +kernel
theorem dX11_raises_2 : decode cX11_raises 2 = .ok (.invokestatic 308, 3) := by decide +kernel
theorem dX11_raises_5 : decode cX11_raises 5 = .ok (.istore 4, 2) := by decide +kernel
theorem dX11_raises_7 : decode cX11_raises 7 = .ok (.iload_n 3, 1) := by decide +kernel
theorem dX11_raises_8 : decode cX11_raises 8 = .ok (.ifCond .eq 40, 3) := by decide +kernel
theorem dX11_raises_11 : decode cX11_raises 11 = .ok (.aload_n 0, 1) := by decide +kernel
theorem dX11_raises_12 : decode cX11_raises 12 = .ok (.iload_n 1, 1) := by decide +kernel
theorem dX11_raises_13 : decode cX11_raises 13 = .ok (.iload_n 2, 1) := by decide +kernel
theorem dX11_raises_14 : decode cX11_raises 14 = .ok (.invokevirtual 356, 3) := by decide +kernel
theorem dX11_raises_17 : decode cX11_raises 17 = .ok (.ifCond .eq 31, 3) := by decide +kernel
theorem dX11_raises_20 : decode cX11_raises 20 = .ok (.aload_n 0, 1) := by decide +kernel
theorem dX11_raises_21 : decode cX11_raises 21 = .ok (.iload_n 1, 1) := by decide +kernel
theorem dX11_raises_22 : decode cX11_raises 22 = .ok (.aload_n 0, 1) := by decide +kernel
theorem dX11_raises_23 : decode cX11_raises 23 = .ok (.getfield 51, 3) := by decide +kernel
theorem dX11_raises_26 : decode cX11_raises 26 = .ok (.sipush 1184, 3) := by decide +kernel
theorem dX11_raises_29 : decode cX11_raises 29 = .ok (.iload 4, 2) := by decide +kernel
theorem dX11_raises_31 : decode cX11_raises 31 = .ok (.iadd, 1) := by decide +kernel
theorem dX11_raises_32 : decode cX11_raises 32 = .ok (.iaload, 1) := by decide +kernel
theorem dX11_raises_33 : decode cX11_raises 33 = .ok (.aload_n 0, 1) := by decide +kernel
theorem dX11_raises_34 : decode cX11_raises 34 = .ok (.getfield 51, 3) := by decide +kernel
theorem dX11_raises_37 : decode cX11_raises 37 = .ok (.sipush 1264, 3) := by decide +kernel
theorem dX11_raises_40 : decode cX11_raises 40 = .ok (.iload 4, 2) := by decide +kernel
theorem dX11_raises_42 : decode cX11_raises 42 = .ok (.iadd, 1) := by decide +kernel
theorem dX11_raises_43 : decode cX11_raises 43 = .ok (.iaload, 1) := by decide +kernel
theorem dX11_raises_44 : decode cX11_raises 44 = .ok (.invokevirtual 359, 3) := by decide +kernel
theorem dX11_raises_47 : decode cX11_raises 47 = .ok (.ireturn, 1) := by decide +kernel
theorem dX11_raises_48 : decode cX11_raises 48 = .ok (.aload_n 0, 1) := by decide +kernel
theorem dX11_raises_49 : decode cX11_raises 49 = .ok (.getfield 51, 3) := by decide +kernel
theorem dX11_raises_52 : decode cX11_raises 52 = .ok (.sipush 1024, 3) := by decide +kernel
theorem dX11_raises_55 : decode cX11_raises 55 = .ok (.iload 4, 2) := by decide +kernel
theorem dX11_raises_57 : decode cX11_raises 57 = .ok (.iadd, 1) := by decide +kernel
theorem dX11_raises_58 : decode cX11_raises 58 = .ok (.iaload, 1) := by decide +kernel
theorem dX11_raises_59 : decode cX11_raises 59 = .ok (.iconst (-1), 1) := by decide +kernel
theorem dX11_raises_60 : decode cX11_raises 60 = .ok (.if_icmp .eq 31, 3) := by decide +kernel
theorem dX11_raises_63 : decode cX11_raises 63 = .ok (.aload_n 0, 1) := by decide +kernel
theorem dX11_raises_64 : decode cX11_raises 64 = .ok (.iload_n 1, 1) := by decide +kernel
theorem dX11_raises_65 : decode cX11_raises 65 = .ok (.aload_n 0, 1) := by decide +kernel
theorem dX11_raises_66 : decode cX11_raises 66 = .ok (.getfield 51, 3) := by decide +kernel
theorem dX11_raises_69 : decode cX11_raises 69 = .ok (.sipush 1024, 3) := by decide +kernel
theorem dX11_raises_72 : decode cX11_raises 72 = .ok (.iload 4, 2) := by decide +kernel
theorem dX11_raises_74 : decode cX11_raises 74 = .ok (.iadd, 1) := by decide +kernel
theorem dX11_raises_75 : decode cX11_raises 75 = .ok (.iaload, 1) := by decide +kernel
theorem dX11_raises_76 : decode cX11_raises 76 = .ok (.aload_n 0, 1) := by decide +kernel
theorem dX11_raises_77 : decode cX11_raises 77 = .ok (.getfield 51, 3) := by decide +kernel
theorem dX11_raises_80 : decode cX11_raises 80 = .ok (.sipush 1104, 3) := by decide +kernel
theorem dX11_raises_83 : decode cX11_raises 83 = .ok (.iload 4, 2) := by decide +kernel
theorem dX11_raises_85 : decode cX11_raises 85 = .ok (.iadd, 1) := by decide +kernel
theorem dX11_raises_86 : decode cX11_raises 86 = .ok (.iaload, 1) := by decide +kernel
theorem dX11_raises_87 : decode cX11_raises 87 = .ok (.invokevirtual 359, 3) := by decide +kernel
theorem dX11_raises_90 : decode cX11_raises 90 = .ok (.ireturn, 1) := by decide +kernel
theorem dX11_raises_91 : decode cX11_raises 91 = .ok (.aload_n 0, 1) := by decide +kernel
theorem dX11_raises_92 : decode cX11_raises 92 = .ok (.getfield 51, 3) := by decide +kernel
theorem dX11_raises_95 : decode cX11_raises 95 = .ok (.sipush 1424, 3) := by decide +kernel
theorem dX11_raises_98 : decode cX11_raises 98 = .ok (.iload 4, 2) := by decide +kernel
theorem dX11_raises_100 : decode cX11_raises 100 = .ok (.iadd, 1) := by decide +kernel
theorem dX11_raises_101 : decode cX11_raises 101 = .ok (.iaload, 1) := by decide +kernel
theorem dX11_raises_102 : decode cX11_raises 102 = .ok (.iconst 1, 1) := by decide +kernel
theorem dX11_raises_103 : decode cX11_raises 103 = .ok (.if_icmp .ne 10, 3) := by decide +kernel
theorem dX11_raises_106 : decode cX11_raises 106 = .ok (.aload_n 0, 1) := by decide +kernel
theorem dX11_raises_107 : decode cX11_raises 107 = .ok (.iload_n 1, 1) := by decide +kernel
theorem dX11_raises_108 : decode cX11_raises 108 = .ok (.invokevirtual 311, 3) := by decide +kernel
theorem dX11_raises_111 : decode cX11_raises 111 = .ok (.iconst 0, 1) := by decide +kernel
theorem dX11_raises_112 : decode cX11_raises 112 = .ok (.ireturn, 1) := by decide +kernel
theorem dX11_raises_113 : decode cX11_raises 113 = .ok (.aload_n 0, 1) := by decide +kernel
theorem dX11_raises_114 : decode cX11_raises 114 = .ok (.getfield 51, 3) := by decide +kernel
theorem dX11_raises_117 : decode cX11_raises 117 = .ok (.sipush 1424, 3) := by decide +kernel
theorem dX11_raises_120 : decode cX11_raises 120 = .ok (.iload 4, 2) := by decide +kernel
theorem dX11_raises_122 : decode cX11_raises 122 = .ok (.iadd, 1) := by decide +kernel
theorem dX11_raises_123 : decode cX11_raises 123 = .ok (.iconst 1, 1) := by decide +kernel
theorem dX11_raises_124 : decode cX11_raises 124 = .ok (.iastore, 1) := by decide +kernel
theorem dX11_raises_125 : decode cX11_raises 125 = .ok (.iconst 1, 1) := by decide +kernel
theorem dX11_raises_126 : decode cX11_raises 126 = .ok (.ireturn, 1) := by decide +kernel
theorem dX11_logs_0 : decode cX11_logs 0 = .ok (.sipush 199, 3) := by decide +kernel
theorem dX11_logs_3 : decode cX11_logs 3 = .ok (.istore 6, 2) := by decide +kernel
theorem dX11_logs_5 : decode cX11_logs 5 = .ok (.iload 6, 2) := by decide +kernel
theorem dX11_logs_7 : decode cX11_logs 7 = .ok (.iconst 5, 1) := by decide +kernel
theorem dX11_logs_8 : decode cX11_logs 8 = .ok (.if_icmp .lt 33, 3) := by decide +kernel
theorem dX11_logs_11 : decode cX11_logs 11 = .ok (.aload_n 0, 1) := by decide +kernel
theorem dX11_logs_12 : decode cX11_logs 12 = .ok (.getfield 51, 3) := by decide +kernel
theorem dX11_logs_15 : decode cX11_logs 15 = .ok (.sipush 1575, 3) := by decide +kernel
theorem dX11_logs_18 : decode cX11_logs 18 = .ok (.iload 6, 2) := by decide +kernel
theorem dX11_logs_20 : decode cX11_logs 20 = .ok (.iadd, 1) := by decide +kernel
theorem dX11_logs_21 : decode cX11_logs 21 = .ok (.aload_n 0, 1) := by decide +kernel
theorem dX11_logs_22 : decode cX11_logs 22 = .ok (.getfield 51, 3) := by decide +kernel
theorem dX11_logs_25 : decode cX11_logs 25 = .ok (.sipush 1575, 3) := by decide +kernel
theorem dX11_logs_28 : decode cX11_logs 28 = .ok (.iload 6, 2) := by decide +kernel
theorem dX11_logs_30 : decode cX11_logs 30 = .ok (.iadd, 1) := by decide +kernel
theorem dX11_logs_31 : decode cX11_logs 31 = .ok (.iconst 5, 1) := by decide +kernel
theorem dX11_logs_32 : decode cX11_logs 32 = .ok (.isub, 1) := by decide +kernel
theorem dX11_logs_33 : decode cX11_logs 33 = .ok (.iaload, 1) := by decide +kernel
theorem dX11_logs_34 : decode cX11_logs 34 = .ok (.iastore, 1) := by decide +kernel
theorem dX11_logs_35 : decode cX11_logs 35 = .ok (.iinc 6 (-1), 3) := by decide +kernel
theorem dX11_logs_38 : decode cX11_logs 38 = .ok (.goto (-33), 3) := by decide +kernel
theorem dX11_logs_41 : decode cX11_logs 41 = .ok (.aload_n 0, 1) := by decide +kernel
theorem dX11_logs_42 : decode cX11_logs 42 = .ok (.getfield 51, 3) := by decide +kernel
theorem dX11_logs_45 : decode cX11_logs 45 = .ok (.sipush 1575, 3) := by decide +kernel
theorem dX11_logs_48 : decode cX11_logs 48 = .ok (.iload_n 1, 1) := by decide +kernel
theorem dX11_logs_49 : decode cX11_logs 49 = .ok (.iastore, 1) := by decide +kernel
theorem dX11_logs_50 : decode cX11_logs 50 = .ok (.aload_n 0, 1) := by decide +kernel
theorem dX11_logs_51 : decode cX11_logs 51 = .ok (.getfield 51, 3) := by decide +kernel
theorem dX11_logs_54 : decode cX11_logs 54 = .ok (.sipush 1576, 3) := by decide +kernel
theorem dX11_logs_57 : decode cX11_logs 57 = .ok (.iload_n 2, 1) := by decide +kernel
theorem dX11_logs_58 : decode cX11_logs 58 = .ok (.iastore, 1) := by decide +kernel
theorem dX11_logs_59 : decode cX11_logs 59 = .ok (.aload_n 0, 1) := by decide +kernel
theorem dX11_logs_60 : decode cX11_logs 60 = .ok (.getfield 51, 3) := by decide +kernel
theorem dX11_logs_63 : decode cX11_logs 63 = .ok (.sipush 1577, 3) := by decide +kernel
theorem dX11_logs_66 : decode cX11_logs 66 = .ok (.iload_n 3, 1) := by decide +kernel
theorem dX11_logs_67 : decode cX11_logs 67 = .ok (.iastore, 1) := by decide +kernel
theorem dX11_logs_68 : decode cX11_logs 68 = .ok (.aload_n 0, 1) := by decide +kernel
theorem dX11_logs_69 : decode cX11_logs 69 = .ok (.getfield 51, 3) := by decide +kernel
theorem dX11_logs_72 : decode cX11_logs 72 = .ok (.sipush 1578, 3) := by decide +kernel
theorem dX11_logs_75 : decode cX11_logs 75 = .ok (.iload 4, 2) := by decide +kernel
theorem dX11_logs_77 : decode cX11_logs 77 = .ok (.iastore, 1) := by decide +kernel
theorem dX11_logs_78 : decode cX11_logs 78 = .ok (.aload_n 0, 1) := by decide +kernel
theorem dX11_logs_79 : decode cX11_logs 79 = .ok (.getfield 51, 3) := by decide +kernel
theorem dX11_logs_82 : decode cX11_logs 82 = .ok (.sipush 1579, 3) := by decide +kernel
theorem dX11_logs_85 : decode cX11_logs 85 = .ok (.iload 5, 2) := by decide +kernel
theorem dX11_logs_87 : decode cX11_logs 87 = .ok (.invokestatic 255, 3) := by decide +kernel
theorem dX11_logs_90 : decode cX11_logs 90 = .ok (.iastore, 1) := by decide +kernel
theorem dX11_logs_91 : decode cX11_logs 91 = .ok (.aload_n 0, 1) := by decide +kernel
theorem dX11_logs_92 : decode cX11_logs 92 = .ok (.getfield 51, 3) := by decide +kernel
theorem dX11_logs_95 : decode cX11_logs 95 = .ok (.sipush 1574, 3) := by decide +kernel
theorem dX11_logs_98 : decode cX11_logs 98 = .ok (.bipush 40, 2) := by decide +kernel
theorem dX11_logs_100 : decode cX11_logs 100 = .ok (.aload_n 0, 1) := by decide +kernel
theorem dX11_logs_101 : decode cX11_logs 101 = .ok (.getfield 51, 3) := by decide +kernel
theorem dX11_logs_104 : decode cX11_logs 104 = .ok (.sipush 1574, 3) := by decide +kernel
theorem dX11_logs_107 : decode cX11_logs 107 = .ok (.iaload, 1) := by decide +kernel
theorem dX11_logs_108 : decode cX11_logs 108 = .ok (.iconst 1, 1) := by decide +kernel
theorem dX11_logs_109 : decode cX11_logs 109 = .ok (.iadd, 1) := by decide +kernel
theorem dX11_logs_110 : decode cX11_logs 110 = .ok (.invokestatic 362, 3) := by decide +kernel
theorem dX11_logs_113 : decode cX11_logs 113 = .ok (.iastore, 1) := by decide +kernel
theorem dX11_logs_114 : decode cX11_logs 114 = .ok (.return_, 1) := by decide +kernel
theorem dX11_handles_0 : decode cX11_handles 0 = .ok (.aload_n 0, 1) := by decide +kernel
theorem dX11_handles_1 : decode cX11_handles 1 = .ok (.getfield 243, 3) := by decide +kernel
theorem dX11_handles_4 : decode cX11_handles 4 = .ok (.iconst 1, 1) := by decide +kernel
theorem dX11_handles_5 : decode cX11_handles 5 = .ok (.isub, 1) := by decide +kernel
theorem dX11_handles_6 : decode cX11_handles 6 = .ok (.istore_n 2, 1) := by decide +kernel
theorem dX11_handles_7 : decode cX11_handles 7 = .ok (.iload_n 2, 1) := by decide +kernel
theorem dX11_handles_8 : decode cX11_handles 8 = .ok (.ifCond .lt 26, 3) := by decide +kernel
theorem dX11_handles_11 : decode cX11_handles 11 = .ok (.aload_n 0, 1) := by decide +kernel
theorem dX11_handles_12 : decode cX11_handles 12 = .ok (.getfield 51, 3) := by decide +kernel
theorem dX11_handles_15 : decode cX11_handles 15 = .ok (.sipush 768, 3) := by decide +kernel
theorem dX11_handles_18 : decode cX11_handles 18 = .ok (.iload_n 1, 1) := by decide +kernel
theorem dX11_handles_19 : decode cX11_handles 19 = .ok (.iload_n 2, 1) := by decide +kernel
theorem dX11_handles_20 : decode cX11_handles 20 = .ok (.invokestatic 286, 3) := by decide +kernel
theorem dX11_handles_23 : decode cX11_handles 23 = .ok (.iadd, 1) := by decide +kernel
theorem dX11_handles_24 : decode cX11_handles 24 = .ok (.iaload, 1) := by decide +kernel
theorem dX11_handles_25 : decode cX11_handles 25 = .ok (.ifCond .ne 9, 3) := by decide +kernel
theorem dX11_handles_28 : decode cX11_handles 28 = .ok (.iinc 2 (-1), 3) := by decide +kernel
theorem dX11_handles_31 : decode cX11_handles 31 = .ok (.goto (-24), 3) := by decide +kernel
theorem dX11_handles_34 : decode cX11_handles 34 = .ok (.iload_n 2, 1) := by decide +kernel
theorem dX11_handles_35 : decode cX11_handles 35 = .ok (.ifCond .ge 4, 3) := by decide +kernel
theorem dX11_handles_38 : decode cX11_handles 38 = .ok (.return_, 1) := by decide +kernel
theorem dX11_handles_39 : decode cX11_handles 39 = .ok (.iload_n 1, 1) := by decide +kernel
theorem dX11_handles_40 : decode cX11_handles 40 = .ok (.iload_n 2, 1) := by decide +kernel
theorem dX11_handles_41 : decode cX11_handles 41 = .ok (.invokestatic 286, 3) := by decide +kernel
theorem dX11_handles_44 : decode cX11_handles 44 = .ok (.istore_n 3, 1) := by decide +kernel
theorem dX11_handles_45 : decode cX11_handles 45 = .ok (.aload_n 0, 1) := by decide +kernel
theorem dX11_handles_46 : decode cX11_handles 46 = .ok (.getfield 51, 3) := by decide +kernel
theorem dX11_handles_49 : decode cX11_handles 49 = .ok (.sipush 256, 3) := by decide +kernel
theorem dX11_handles_52 : decode cX11_handles 52 = .ok (.iload_n 3, 1) := by decide +kernel
theorem dX11_handles_53 : decode cX11_handles 53 = .ok (.iadd, 1) := by decide +kernel
theorem dX11_handles_54 : decode cX11_handles 54 = .ok (.iaload, 1) := by decide +kernel
theorem dX11_handles_55 : decode cX11_handles 55 = .ok (.istore 4, 2) := by decide +kernel
theorem dX11_handles_57 : decode cX11_handles 57 = .ok (.aload_n 0, 1) := by decide +kernel
theorem dX11_handles_58 : decode cX11_handles 58 = .ok (.getfield 51, 3) := by decide +kernel
theorem dX11_handles_61 : decode cX11_handles 61 = .ok (.sipush 512, 3) := by decide +kernel
theorem dX11_handles_64 : decode cX11_handles 64 = .ok (.iload_n 3, 1) := by decide +kernel
theorem dX11_handles_65 : decode cX11_handles 65 = .ok (.iadd, 1) := by decide +kernel
theorem dX11_handles_66 : decode cX11_handles 66 = .ok (.iaload, 1) := by decide +kernel
theorem dX11_handles_67 : decode cX11_handles 67 = .ok (.istore 5, 2) := by decide +kernel
theorem dX11_handles_69 : decode cX11_handles 69 = .ok (.aload_n 0, 1) := by decide +kernel
theorem dX11_handles_70 : decode cX11_handles 70 = .ok (.getfield 51, 3) := by decide +kernel
theorem dX11_handles_73 : decode cX11_handles 73 = .ok (.iconst 0, 1) := by decide +kernel
theorem dX11_handles_74 : decode cX11_handles 74 = .ok (.iload_n 3, 1) := by decide +kernel
theorem dX11_handles_75 : decode cX11_handles 75 = .ok (.iadd, 1) := by decide +kernel
theorem dX11_handles_76 : decode cX11_handles 76 = .ok (.iaload, 1) := by decide +kernel
theorem dX11_handles_77 : decode cX11_handles 77 = .ok (.iconst 3, 1) := by decide +kernel
theorem dX11_handles_78 : decode cX11_handles 78 = .ok (.if_icmp .ne 7, 3) := by decide +kernel
theorem dX11_handles_81 : decode cX11_handles 81 = .ok (.iconst 1, 1) := by decide +kernel
theorem dX11_handles_82 : decode cX11_handles 82 = .ok (.goto 4, 3) := by decide +kernel
theorem dX11_handles_85 : decode cX11_handles 85 = .ok (.iconst 0, 1) := by decide +kernel
theorem dX11_handles_86 : decode cX11_handles 86 = .ok (.istore 6, 2) := by decide +kernel
theorem dX11_handles_88 : decode cX11_handles 88 = .ok (.aload_n 0, 1) := by decide +kernel
theorem dX11_handles_89 : decode cX11_handles 89 = .ok (.getfield 51, 3) := by decide +kernel
theorem dX11_handles_92 : decode cX11_handles 92 = .ok (.sipush 768, 3) := by decide +kernel
theorem dX11_handles_95 : decode cX11_handles 95 = .ok (.iload_n 3, 1) := by decide +kernel
theorem dX11_handles_96 : decode cX11_handles 96 = .ok (.iadd, 1) := by decide +kernel
theorem dX11_handles_97 : decode cX11_handles 97 = .ok (.iconst 0, 1) := by decide +kernel
theorem dX11_handles_98 : decode cX11_handles 98 = .ok (.iastore, 1) := by decide +kernel
theorem dX11_handles_99 : decode cX11_handles 99 = .ok (.aload_n 0, 1) := by decide +kernel
theorem dX11_handles_100 : decode cX11_handles 100 = .ok (.getfield 51, 3) := by decide +kernel
theorem dX11_handles_103 : decode cX11_handles 103 = .ok (.sipush 1562, 3) := by decide +kernel
theorem dX11_handles_106 : decode cX11_handles 106 = .ok (.iload_n 1, 1) := by decide +kernel
theorem dX11_handles_107 : decode cX11_handles 107 = .ok (.iadd, 1) := by decide +kernel
theorem dX11_handles_108 : decode cX11_handles 108 = .ok (.dup2, 1) := by decide +kernel
theorem dX11_handles_109 : decode cX11_handles 109 = .ok (.iaload, 1) := by decide +kernel
theorem dX11_handles_110 : decode cX11_handles 110 = .ok (.iconst 1, 1) := by decide +kernel
theorem dX11_handles_111 : decode cX11_handles 111 = .ok (.iadd, 1) := by decide +kernel
theorem dX11_handles_112 : decode cX11_handles 112 = .ok (.iastore, 1) := by decide +kernel
theorem dX11_handles_113 : decode cX11_handles 113 = .ok (.aload_n 0, 1) := by decide +kernel
theorem dX11_handles_114 : decode cX11_handles 114 = .ok (.getfield 51, 3) := by decide +kernel
theorem dX11_handles_117 : decode cX11_handles 117 = .ok (.sipush 1524, 3) := by decide +kernel
theorem dX11_handles_120 : decode cX11_handles 120 = .ok (.iload 4, 2) := by decide +kernel
theorem dX11_handles_122 : decode cX11_handles 122 = .ok (.iadd, 1) := by decide +kernel
theorem dX11_handles_123 : decode cX11_handles 123 = .ok (.dup2, 1) := by decide +kernel
theorem dX11_handles_124 : decode cX11_handles 124 = .ok (.iaload, 1) := by decide +kernel
theorem dX11_handles_125 : decode cX11_handles 125 = .ok (.iconst 1, 1) := by decide +kernel
theorem dX11_handles_126 : decode cX11_handles 126 = .ok (.iadd, 1) := by decide +kernel
theorem dX11_handles_127 : decode cX11_handles 127 = .ok (.iastore, 1) := by decide +kernel
theorem dX11_handles_128 : decode cX11_handles 128 = .ok (.aload_n 0, 1) := by decide +kernel
theorem dX11_handles_129 : decode cX11_handles 129 = .ok (.getfield 51, 3) := by decide +kernel
theorem dX11_handles_132 : decode cX11_handles 132 = .ok (.sipush 1571, 3) := by decide +kernel
theorem dX11_handles_135 : decode cX11_handles 135 = .ok (.dup2, 1) := by decide +kernel
theorem dX11_handles_136 : decode cX11_handles 136 = .ok (.iaload, 1) := by decide +kernel
theorem dX11_handles_137 : decode cX11_handles 137 = .ok (.iconst 1, 1) := by decide +kernel
theorem dX11_handles_138 : decode cX11_handles 138 = .ok (.iadd, 1) := by decide +kernel
theorem dX11_handles_139 : decode cX11_handles 139 = .ok (.iastore, 1) := by decide +kernel
theorem dX11_handles_140 : decode cX11_handles 140 = .ok (.aload_n 0, 1) := by decide +kernel
theorem dX11_handles_141 : decode cX11_handles 141 = .ok (.iload 4, 2) := by decide +kernel
theorem dX11_handles_143 : decode cX11_handles 143 = .ok (.iload 5, 2) := by decide +kernel
theorem dX11_handles_145 : decode cX11_handles 145 = .ok (.iload_n 1, 1) := by decide +kernel
theorem dX11_handles_146 : decode cX11_handles 146 = .ok (.iload_n 2, 1) := by decide +kernel
theorem dX11_handles_147 : decode cX11_handles 147 = .ok (.iload 6, 2) := by decide +kernel
theorem dX11_handles_149 : decode cX11_handles 149 = .ok (.invokevirtual 365, 3) := by decide +kernel
theorem dX11_handles_152 : decode cX11_handles 152 = .ok (.iload 6, 2) := by decide +kernel
theorem dX11_handles_154 : decode cX11_handles 154 = .ok (.ifCond .ne 31, 3) := by decide +kernel
theorem dX11_handles_157 : decode cX11_handles 157 = .ok (.aload_n 0, 1) := by decide +kernel
theorem dX11_handles_158 : decode cX11_handles 158 = .ok (.iload 4, 2) := by decide +kernel
theorem dX11_handles_160 : decode cX11_handles 160 = .ok (.iload 5, 2) := by decide +kernel
theorem dX11_handles_162 : decode cX11_handles 162 = .ok (.invokevirtual 356, 3) := by decide +kernel
theorem dX11_handles_165 : decode cX11_handles 165 = .ok (.ifCond .eq 20, 3) := by decide +kernel
theorem dX11_handles_168 : decode cX11_handles 168 = .ok (.aload_n 0, 1) := by decide +kernel
theorem dX11_handles_169 : decode cX11_handles 169 = .ok (.getfield 51, 3) := by decide +kernel
theorem dX11_handles_172 : decode cX11_handles 172 = .ok (.sipush 1344, 3) := by decide +kernel
theorem dX11_handles_175 : decode cX11_handles 175 = .ok (.iload 4, 2) := by decide +kernel
theorem dX11_handles_177 : decode cX11_handles 177 = .ok (.iload 5, 2) := by decide +kernel
theorem dX11_handles_179 : decode cX11_handles 179 = .ok (.invokestatic 308, 3) := by decide +kernel
theorem dX11_handles_182 : decode cX11_handles 182 = .ok (.iadd, 1) := by decide +kernel
theorem dX11_handles_183 : decode cX11_handles 183 = .ok (.iconst 1, 1) := by decide +kernel
theorem dX11_handles_184 : decode cX11_handles 184 = .ok (.iastore, 1) := by decide +kernel
theorem dX11_handles_185 : decode cX11_handles 185 = .ok (.return_, 1) := by decide +kernel
theorem dX11_drains_0 : decode cX11_drains 0 = .ok (.iconst 0, 1) := by decide +kernel
theorem dX11_drains_1 : decode cX11_drains 1 = .ok (.istore_n 1, 1) := by decide +kernel
theorem dX11_drains_2 : decode cX11_drains 2 = .ok (.iload_n 1, 1) := by decide +kernel
theorem dX11_drains_3 : decode cX11_drains 3 = .ok (.aload_n 0, 1) := by decide +kernel
theorem dX11_drains_4 : decode cX11_drains 4 = .ok (.getfield 252, 3) := by decide +kernel
theorem dX11_drains_7 : decode cX11_drains 7 = .ok (.if_icmp .ge 117, 3) := by decide +kernel
theorem dX11_drains_10 : decode cX11_drains 10 = .ok (.iconst 0, 1) := by decide +kernel
theorem dX11_drains_11 : decode cX11_drains 11 = .ok (.istore_n 2, 1) := by decide +kernel
theorem dX11_drains_12 : decode cX11_drains 12 = .ok (.iload_n 2, 1) := by decide +kernel
theorem dX11_drains_13 : decode cX11_drains 13 = .ok (.aload_n 0, 1) := by decide +kernel
theorem dX11_drains_14 : decode cX11_drains 14 = .ok (.getfield 32, 3) := by decide +kernel
theorem dX11_drains_17 : decode cX11_drains 17 = .ok (.iload_n 1, 1) := by decide +kernel
theorem dX11_drains_18 : decode cX11_drains 18 = .ok (.iaload, 1) := by decide +kernel
theorem dX11_drains_19 : decode cX11_drains 19 = .ok (.if_icmp .ge 99, 3) := by decide +kernel
theorem dX11_drains_22 : decode cX11_drains 22 = .ok (.iload_n 1, 1) := by decide +kernel
theorem dX11_drains_23 : decode cX11_drains 23 = .ok (.iload_n 2, 1) := by decide +kernel
theorem dX11_drains_24 : decode cX11_drains 24 = .ok (.invokestatic 308, 3) := by decide +kernel
theorem dX11_drains_27 : decode cX11_drains 27 = .ok (.istore_n 3, 1) := by decide +kernel
theorem dX11_drains_28 : decode cX11_drains 28 = .ok (.aload_n 0, 1) := by decide +kernel
theorem dX11_drains_29 : decode cX11_drains 29 = .ok (.getfield 51, 3) := by decide +kernel
theorem dX11_drains_32 : decode cX11_drains 32 = .ok (.sipush 1344, 3) := by decide +kernel
theorem dX11_drains_35 : decode cX11_drains 35 = .ok (.iload_n 3, 1) := by decide +kernel
theorem dX11_drains_36 : decode cX11_drains 36 = .ok (.iadd, 1) := by decide +kernel
theorem dX11_drains_37 : decode cX11_drains 37 = .ok (.iaload, 1) := by decide +kernel
theorem dX11_drains_38 : decode cX11_drains 38 = .ok (.ifCond .eq 74, 3) := by decide +kernel
theorem dX11_drains_41 : decode cX11_drains 41 = .ok (.aload_n 0, 1) := by decide +kernel
theorem dX11_drains_42 : decode cX11_drains 42 = .ok (.getfield 51, 3) := by decide +kernel
theorem dX11_drains_45 : decode cX11_drains 45 = .ok (.sipush 768, 3) := by decide +kernel
theorem dX11_drains_48 : decode cX11_drains 48 = .ok (.aload_n 0, 1) := by decide +kernel
theorem dX11_drains_49 : decode cX11_drains 49 = .ok (.getfield 51, 3) := by decide +kernel
theorem dX11_drains_52 : decode cX11_drains 52 = .ok (.sipush 1184, 3) := by decide +kernel
theorem dX11_drains_55 : decode cX11_drains 55 = .ok (.iload_n 3, 1) := by decide +kernel
theorem dX11_drains_56 : decode cX11_drains 56 = .ok (.iadd, 1) := by decide +kernel
theorem dX11_drains_57 : decode cX11_drains 57 = .ok (.iaload, 1) := by decide +kernel
theorem dX11_drains_58 : decode cX11_drains 58 = .ok (.aload_n 0, 1) := by decide +kernel
theorem dX11_drains_59 : decode cX11_drains 59 = .ok (.getfield 51, 3) := by decide +kernel
theorem dX11_drains_62 : decode cX11_drains 62 = .ok (.sipush 1264, 3) := by decide +kernel
theorem dX11_drains_65 : decode cX11_drains 65 = .ok (.iload_n 3, 1) := by decide +kernel
theorem dX11_drains_66 : decode cX11_drains 66 = .ok (.iadd, 1) := by decide +kernel
theorem dX11_drains_67 : decode cX11_drains 67 = .ok (.iaload, 1) := by decide +kernel
theorem dX11_drains_68 : decode cX11_drains 68 = .ok (.invokestatic 286, 3) := by decide +kernel
theorem dX11_drains_71 : decode cX11_drains 71 = .ok (.iadd, 1) := by decide +kernel
theorem dX11_drains_72 : decode cX11_drains 72 = .ok (.iaload, 1) := by decide +kernel
theorem dX11_drains_73 : decode cX11_drains 73 = .ok (.iconst 1, 1) := by decide +kernel
theorem dX11_drains_74 : decode cX11_drains 74 = .ok (.if_icmp .ne 6, 3) := by decide +kernel
theorem dX11_drains_77 : decode cX11_drains 77 = .ok (.goto 35, 3) := by decide +kernel
theorem dX11_drains_80 : decode cX11_drains 80 = .ok (.aload_n 0, 1) := by decide +kernel
theorem dX11_drains_81 : decode cX11_drains 81 = .ok (.iload_n 1, 1) := by decide +kernel
theorem dX11_drains_82 : decode cX11_drains 82 = .ok (.iload_n 2, 1) := by decide +kernel
theorem dX11_drains_83 : decode cX11_drains 83 = .ok (.aload_n 0, 1) := by decide +kernel
theorem dX11_drains_84 : decode cX11_drains 84 = .ok (.getfield 51, 3) := by decide +kernel
theorem dX11_drains_87 : decode cX11_drains 87 = .ok (.sipush 1184, 3) := by decide +kernel
theorem dX11_drains_90 : decode cX11_drains 90 = .ok (.iload_n 3, 1) := by decide +kernel
theorem dX11_drains_91 : decode cX11_drains 91 = .ok (.iadd, 1) := by decide +kernel
theorem dX11_drains_92 : decode cX11_drains 92 = .ok (.iaload, 1) := by decide +kernel
theorem dX11_drains_93 : decode cX11_drains 93 = .ok (.aload_n 0, 1) := by decide +kernel
theorem dX11_drains_94 : decode cX11_drains 94 = .ok (.getfield 51, 3) := by decide +kernel
theorem dX11_drains_97 : decode cX11_drains 97 = .ok (.sipush 1264, 3) := by decide +kernel
theorem dX11_drains_100 : decode cX11_drains 100 = .ok (.iload_n 3, 1) := by decide +kernel
theorem dX11_drains_101 : decode cX11_drains 101 = .ok (.iadd, 1) := by decide +kernel
theorem dX11_drains_102 : decode cX11_drains 102 = .ok (.iaload, 1) := by decide +kernel
theorem dX11_drains_103 : decode cX11_drains 103 = .ok (.invokevirtual 369, 3) := by decide +kernel
theorem dX11_drains_106 : decode cX11_drains 106 = .ok (.aload_n 0, 1) := by decide +kernel
theorem dX11_drains_107 : decode cX11_drains 107 = .ok (.iload_n 1, 1) := by decide +kernel
theorem dX11_drains_108 : decode cX11_drains 108 = .ok (.iload_n 2, 1) := by decide +kernel
theorem dX11_drains_109 : decode cX11_drains 109 = .ok (.invokevirtual 337, 3) := by decide +kernel
theorem dX11_drains_112 : decode cX11_drains 112 = .ok (.iinc 2 1, 3) := by decide +kernel
theorem dX11_drains_115 : decode cX11_drains 115 = .ok (.goto (-103), 3) := by decide +kernel
theorem dX11_drains_118 : decode cX11_drains 118 = .ok (.iinc 1 1, 3) := by decide +kernel
theorem dX11_drains_121 : decode cX11_drains 121 = .ok (.goto (-119), 3) := by decide +kernel
theorem dX11_drains_124 : decode cX11_drains 124 = .ok (.return_, 1) := by decide +kernel
theorem dX11_ticks_0 : decode cX11_ticks 0 = .ok (.iconst 0, 1) := by decide +kernel
theorem dX11_ticks_1 : decode cX11_ticks 1 = .ok (.istore_n 1, 1) := by decide +kernel
theorem dX11_ticks_2 : decode cX11_ticks 2 = .ok (.iload_n 1, 1) := by decide +kernel
theorem dX11_ticks_3 : decode cX11_ticks 3 = .ok (.aload_n 0, 1) := by decide +kernel
theorem dX11_ticks_4 : decode cX11_ticks 4 = .ok (.getfield 240, 3) := by decide +kernel
theorem dX11_ticks_7 : decode cX11_ticks 7 = .ok (.if_icmp .ge 22, 3) := by decide +kernel
theorem dX11_ticks_10 : decode cX11_ticks 10 = .ok (.aload_n 0, 1) := by decide +kernel
theorem dX11_ticks_11 : decode cX11_ticks 11 = .ok (.iload_n 1, 1) := by decide +kernel
theorem dX11_ticks_12 : decode cX11_ticks 12 = .ok (.invokevirtual 292, 3) := by decide +kernel
theorem dX11_ticks_15 : decode cX11_ticks 15 = .ok (.ifCond .eq 8, 3) := by decide +kernel
theorem dX11_ticks_18 : decode cX11_ticks 18 = .ok (.aload_n 0, 1) := by decide +kernel
theorem dX11_ticks_19 : decode cX11_ticks 19 = .ok (.iload_n 1, 1) := by decide +kernel
theorem dX11_ticks_20 : decode cX11_ticks 20 = .ok (.invokevirtual 372, 3) := by decide +kernel
theorem dX11_ticks_23 : decode cX11_ticks 23 = .ok (.iinc 1 1, 3) := by decide +kernel
theorem dX11_ticks_26 : decode cX11_ticks 26 = .ok (.goto (-24), 3) := by decide +kernel
theorem dX11_ticks_29 : decode cX11_ticks 29 = .ok (.aload_n 0, 1) := by decide +kernel
theorem dX11_ticks_30 : decode cX11_ticks 30 = .ok (.invokevirtual 375, 3) := by decide +kernel
theorem dX11_ticks_33 : decode cX11_ticks 33 = .ok (.aload_n 0, 1) := by decide +kernel
theorem dX11_ticks_34 : decode cX11_ticks 34 = .ok (.getfield 51, 3) := by decide +kernel
theorem dX11_ticks_37 : decode cX11_ticks 37 = .ok (.sipush 1570, 3) := by decide +kernel
theorem dX11_ticks_40 : decode cX11_ticks 40 = .ok (.dup2, 1) := by decide +kernel
theorem dX11_ticks_41 : decode cX11_ticks 41 = .ok (.iaload, 1) := by decide +kernel
theorem dX11_ticks_42 : decode cX11_ticks 42 = .ok (.iconst 1, 1) := by decide +kernel
theorem dX11_ticks_43 : decode cX11_ticks 43 = .ok (.iadd, 1) := by decide +kernel
theorem dX11_ticks_44 : decode cX11_ticks 44 = .ok (.iastore, 1) := by decide +kernel
theorem dX11_ticks_45 : decode cX11_ticks 45 = .ok (.return_, 1) := by decide +kernel
theorem dX11_moves_0 : decode cX11_moves 0 = .ok (.iload_n 1, 1) := by decide +kernel
theorem dX11_moves_1 : decode cX11_moves 1 = .ok (.iload_n 2, 1) := by decide +kernel
theorem dX11_moves_2 : decode cX11_moves 2 = .ok (.invokestatic 308, 3) := by decide +kernel
theorem dX11_moves_5 : decode cX11_moves 5 = .ok (.istore 5, 2) := by decide +kernel
theorem dX11_moves_7 : decode cX11_moves 7 = .ok (.aload_n 0, 1) := by decide +kernel
theorem dX11_moves_8 : decode cX11_moves 8 = .ok (.getfield 51, 3) := by decide +kernel
theorem dX11_moves_11 : decode cX11_moves 11 = .ok (.sipush 1184, 3) := by decide +kernel
theorem dX11_moves_14 : decode cX11_moves 14 = .ok (.iload 5, 2) := by decide +kernel
theorem dX11_moves_16 : decode cX11_moves 16 = .ok (.iadd, 1) := by decide +kernel
theorem dX11_moves_17 : decode cX11_moves 17 = .ok (.aload_n 0, 1) := by decide +kernel
theorem dX11_moves_18 : decode cX11_moves 18 = .ok (.getfield 51, 3) := by decide +kernel
theorem dX11_moves_21 : decode cX11_moves 21 = .ok (.sipush 1024, 3) := by decide +kernel
theorem dX11_moves_24 : decode cX11_moves 24 = .ok (.iload 5, 2) := by decide +kernel
theorem dX11_moves_26 : decode cX11_moves 26 = .ok (.iadd, 1) := by decide +kernel
theorem dX11_moves_27 : decode cX11_moves 27 = .ok (.iaload, 1) := by decide +kernel
theorem dX11_moves_28 : decode cX11_moves 28 = .ok (.iastore, 1) := by decide +kernel
theorem dX11_moves_29 : decode cX11_moves 29 = .ok (.aload_n 0, 1) := by decide +kernel
theorem dX11_moves_30 : decode cX11_moves 30 = .ok (.getfield 51, 3) := by decide +kernel
theorem dX11_moves_33 : decode cX11_moves 33 = .ok (.sipush 1264, 3) := by decide +kernel
theorem dX11_moves_36 : decode cX11_moves 36 = .ok (.iload 5, 2) := by decide +kernel
theorem dX11_moves_38 : decode cX11_moves 38 = .ok (.iadd, 1) := by decide +kernel
theorem dX11_moves_39 : decode cX11_moves 39 = .ok (.aload_n 0, 1) := by decide +kernel
theorem dX11_moves_40 : decode cX11_moves 40 = .ok (.getfield 51, 3) := by decide +kernel
theorem dX11_moves_43 : decode cX11_moves 43 = .ok (.sipush 1104, 3) := by decide +kernel
theorem dX11_moves_46 : decode cX11_moves 46 = .ok (.iload 5, 2) := by decide +kernel
theorem dX11_moves_48 : decode cX11_moves 48 = .ok (.iadd, 1) := by decide +kernel
theorem dX11_moves_49 : decode cX11_moves 49 = .ok (.iaload, 1) := by decide +kernel
theorem dX11_moves_50 : decode cX11_moves 50 = .ok (.iastore, 1) := by decide +kernel
theorem dX11_moves_51 : decode cX11_moves 51 = .ok (.aload_n 0, 1) := by decide +kernel
theorem dX11_moves_52 : decode cX11_moves 52 = .ok (.getfield 51, 3) := by decide +kernel
theorem dX11_moves_55 : decode cX11_moves 55 = .ok (.sipush 1344, 3) := by decide +kernel
theorem dX11_moves_58 : decode cX11_moves 58 = .ok (.iload 5, 2) := by decide +kernel
theorem dX11_moves_60 : decode cX11_moves 60 = .ok (.iadd, 1) := by decide +kernel
theorem dX11_moves_61 : decode cX11_moves 61 = .ok (.iconst 0, 1) := by decide +kernel
theorem dX11_moves_62 : decode cX11_moves 62 = .ok (.iastore, 1) := by decide +kernel
theorem dX11_moves_63 : decode cX11_moves 63 = .ok (.aload_n 0, 1) := by decide +kernel
theorem dX11_moves_64 : decode cX11_moves 64 = .ok (.getfield 51, 3) := by decide +kernel
theorem dX11_moves_67 : decode cX11_moves 67 = .ok (.iconst 0, 1) := by decide +kernel
theorem dX11_moves_68 : decode cX11_moves 68 = .ok (.aload_n 0, 1) := by decide +kernel
theorem dX11_moves_69 : decode cX11_moves 69 = .ok (.getfield 51, 3) := by decide +kernel
theorem dX11_moves_72 : decode cX11_moves 72 = .ok (.sipush 1184, 3) := by decide +kernel
theorem dX11_moves_75 : decode cX11_moves 75 = .ok (.iload 5, 2) := by decide +kernel
theorem dX11_moves_77 : decode cX11_moves 77 = .ok (.iadd, 1) := by decide +kernel
theorem dX11_moves_78 : decode cX11_moves 78 = .ok (.iaload, 1) := by decide +kernel
theorem dX11_moves_79 : decode cX11_moves 79 = .ok (.aload_n 0, 1) := by decide +kernel
theorem dX11_moves_80 : decode cX11_moves 80 = .ok (.getfield 51, 3) := by decide +kernel
theorem dX11_moves_83 : decode cX11_moves 83 = .ok (.sipush 1264, 3) := by decide +kernel
theorem dX11_moves_86 : decode cX11_moves 86 = .ok (.iload 5, 2) := by decide +kernel
theorem dX11_moves_88 : decode cX11_moves 88 = .ok (.iadd, 1) := by decide +kernel
theorem dX11_moves_89 : decode cX11_moves 89 = .ok (.iaload, 1) := by decide +kernel
theorem dX11_moves_90 : decode cX11_moves 90 = .ok (.invokestatic 286, 3) := by decide +kernel
theorem dX11_moves_93 : decode cX11_moves 93 = .ok (.iadd, 1) := by decide +kernel
theorem dX11_moves_94 : decode cX11_moves 94 = .ok (.iconst 3, 1) := by decide +kernel
theorem dX11_moves_95 : decode cX11_moves 95 = .ok (.iastore, 1) := by decide +kernel
theorem dX11_moves_96 : decode cX11_moves 96 = .ok (.aload_n 0, 1) := by decide +kernel
theorem dX11_moves_97 : decode cX11_moves 97 = .ok (.iload_n 1, 1) := by decide +kernel
theorem dX11_moves_98 : decode cX11_moves 98 = .ok (.iload_n 2, 1) := by decide +kernel
theorem dX11_moves_99 : decode cX11_moves 99 = .ok (.iload_n 3, 1) := by decide +kernel
theorem dX11_moves_100 : decode cX11_moves 100 = .ok (.iload 4, 2) := by decide +kernel
theorem dX11_moves_102 : decode cX11_moves 102 = .ok (.invokevirtual 320, 3) := by decide +kernel
theorem dX11_moves_105 : decode cX11_moves 105 = .ok (.return_, 1) := by decide +kernel
theorem dX11_hasAnyOld_0 : decode cX11_hasAnyOld 0 = .ok (.aload_n 0, 1) := by decide +kernel
theorem dX11_hasAnyOld_1 : decode cX11_hasAnyOld 1 = .ok (.iload_n 1, 1) := by decide +kernel
theorem dX11_hasAnyOld_2 : decode cX11_hasAnyOld 2 = .ok (.iload_n 2, 1) := by decide +kernel
theorem dX11_hasAnyOld_3 : decode cX11_hasAnyOld 3 = .ok (.invokevirtual 356, 3) := by decide +kernel
theorem dX11_hasAnyOld_6 : decode cX11_hasAnyOld 6 = .ok (.istore_n 3, 1) := by decide +kernel
theorem dX11_hasAnyOld_7 : decode cX11_hasAnyOld 7 = .ok (.iconst 0, 1) := by decide +kernel
theorem dX11_hasAnyOld_8 : decode cX11_hasAnyOld 8 = .ok (.istore 4, 2) := by decide +kernel
theorem dX11_hasAnyOld_10 : decode cX11_hasAnyOld 10 = .ok (.iload 4, 2) := by decide +kernel
theorem dX11_hasAnyOld_12 : decode cX11_hasAnyOld 12 = .ok (.aload_n 0, 1) := by decide +kernel
theorem dX11_hasAnyOld_13 : decode cX11_hasAnyOld 13 = .ok (.getfield 32, 3) := by decide +kernel
theorem dX11_hasAnyOld_16 : decode cX11_hasAnyOld 16 = .ok (.iload_n 1, 1) := by decide +kernel
theorem dX11_hasAnyOld_17 : decode cX11_hasAnyOld 17 = .ok (.iaload, 1) := by decide +kernel
theorem dX11_hasAnyOld_18 : decode cX11_hasAnyOld 18 = .ok (.if_icmp .ge 39, 3) := by decide +kernel
theorem dX11_hasAnyOld_21 : decode cX11_hasAnyOld 21 = .ok (.aload_n 0, 1) := by decide +kernel
theorem dX11_hasAnyOld_22 : decode cX11_hasAnyOld 22 = .ok (.getfield 29, 3) := by decide +kernel
theorem dX11_hasAnyOld_25 : decode cX11_hasAnyOld 25 = .ok (.iload_n 1, 1) := by decide +kernel
theorem dX11_hasAnyOld_26 : decode cX11_hasAnyOld 26 = .ok (.iaload, 1) := by decide +kernel
theorem dX11_hasAnyOld_27 : decode cX11_hasAnyOld 27 = .ok (.iconst 2, 1) := by decide +kernel
theorem dX11_hasAnyOld_28 : decode cX11_hasAnyOld 28 = .ok (.if_icmp .ne 29, 3) := by decide +kernel
theorem dX11_hasAnyOld_31 : decode cX11_hasAnyOld 31 = .ok (.iload_n 3, 1) := by decide +kernel
theorem dX11_hasAnyOld_32 : decode cX11_hasAnyOld 32 = .ok (.ifCond .ne 13, 3) := by decide +kernel
theorem dX11_hasAnyOld_35 : decode cX11_hasAnyOld 35 = .ok (.aload_n 0, 1) := by decide +kernel
theorem dX11_hasAnyOld_36 : decode cX11_hasAnyOld 36 = .ok (.iload_n 1, 1) := by decide +kernel
theorem dX11_hasAnyOld_37 : decode cX11_hasAnyOld 37 = .ok (.iload 4, 2) := by decide +kernel
theorem dX11_hasAnyOld_39 : decode cX11_hasAnyOld 39 = .ok (.invokevirtual 356, 3) := by decide +kernel
theorem dX11_hasAnyOld_42 : decode cX11_hasAnyOld 42 = .ok (.ifCond .eq 7, 3) := by decide +kernel
theorem dX11_hasAnyOld_45 : decode cX11_hasAnyOld 45 = .ok (.iconst 1, 1) := by decide +kernel
theorem dX11_hasAnyOld_46 : decode cX11_hasAnyOld 46 = .ok (.goto 4, 3) := by decide +kernel
theorem dX11_hasAnyOld_49 : decode cX11_hasAnyOld 49 = .ok (.iconst 0, 1) := by decide +kernel
theorem dX11_hasAnyOld_50 : decode cX11_hasAnyOld 50 = .ok (.istore_n 3, 1) := by decide +kernel
theorem dX11_hasAnyOld_51 : decode cX11_hasAnyOld 51 = .ok (.iinc 4 1, 3) := by decide +kernel
theorem dX11_hasAnyOld_54 : decode cX11_hasAnyOld 54 = .ok (.goto (-44), 3) := by decide +kernel
theorem dX11_hasAnyOld_57 : decode cX11_hasAnyOld 57 = .ok (.iload_n 3, 1) := by decide +kernel
theorem dX11_hasAnyOld_58 : decode cX11_hasAnyOld 58 = .ok (.ireturn, 1) := by decide +kernel
theorem dX11_movesTo_0 : decode cX11_movesTo 0 = .ok (.aload_n 0, 1) := by decide +kernel
theorem dX11_movesTo_1 : decode cX11_movesTo 1 = .ok (.iload_n 1, 1) := by decide +kernel
theorem dX11_movesTo_2 : decode cX11_movesTo 2 = .ok (.iload_n 2, 1) := by decide +kernel
theorem dX11_movesTo_3 : decode cX11_movesTo 3 = .ok (.invokevirtual 378, 3) := by decide +kernel
theorem dX11_movesTo_6 : decode cX11_movesTo 6 = .ok (.ifCond .eq 21, 3) := by decide +kernel
theorem dX11_movesTo_9 : decode cX11_movesTo 9 = .ok (.aload_n 0, 1) := by decide +kernel
theorem dX11_movesTo_10 : decode cX11_movesTo 10 = .ok (.getfield 51, 3) := by decide +kernel
theorem dX11_movesTo_13 : decode cX11_movesTo 13 = .ok (.sipush 1024, 3) := by decide +kernel
theorem dX11_movesTo_16 : decode cX11_movesTo 16 = .ok (.iload_n 1, 1) := by decide +kernel
theorem dX11_movesTo_17 : decode cX11_movesTo 17 = .ok (.iload_n 2, 1) := by decide +kernel
theorem dX11_movesTo_18 : decode cX11_movesTo 18 = .ok (.invokestatic 308, 3) := by decide +kernel
theorem dX11_movesTo_21 : decode cX11_movesTo 21 = .ok (.iadd, 1) := by decide +kernel
theorem dX11_movesTo_22 : decode cX11_movesTo 22 = .ok (.iaload, 1) := by decide +kernel
theorem dX11_movesTo_23 : decode cX11_movesTo 23 = .ok (.iconst (-1), 1) := by decide +kernel
theorem dX11_movesTo_24 : decode cX11_movesTo 24 = .ok (.if_icmp .ne 5, 3) := by decide +kernel
theorem dX11_movesTo_27 : decode cX11_movesTo 27 = .ok (.iconst 4, 1) := by decide +kernel
theorem dX11_movesTo_28 : decode cX11_movesTo 28 = .ok (.ireturn, 1) := by decide +kernel
theorem dX11_movesTo_29 : decode cX11_movesTo 29 = .ok (.aload_n 0, 1) := by decide +kernel
theorem dX11_movesTo_30 : decode cX11_movesTo 30 = .ok (.iload_n 1, 1) := by decide +kernel
theorem dX11_movesTo_31 : decode cX11_movesTo 31 = .ok (.iload_n 2, 1) := by decide +kernel
theorem dX11_movesTo_32 : decode cX11_movesTo 32 = .ok (.invokevirtual 381, 3) := by decide +kernel
theorem dX11_movesTo_35 : decode cX11_movesTo 35 = .ok (.ifCond .eq 5, 3) := by decide +kernel
theorem dX11_movesTo_38 : decode cX11_movesTo 38 = .ok (.iconst 3, 1) := by decide +kernel
theorem dX11_movesTo_39 : decode cX11_movesTo 39 = .ok (.ireturn, 1) := by decide +kernel
theorem dX11_movesTo_40 : decode cX11_movesTo 40 = .ok (.iload_n 3, 1) := by decide +kernel
theorem dX11_movesTo_41 : decode cX11_movesTo 41 = .ok (.iconst 1, 1) := by decide +kernel
theorem dX11_movesTo_42 : decode cX11_movesTo 42 = .ok (.aload_n 0, 1) := by decide +kernel
theorem dX11_movesTo_43 : decode cX11_movesTo 43 = .ok (.getfield 240, 3) := by decide +kernel
theorem dX11_movesTo_46 : decode cX11_movesTo 46 = .ok (.ishl, 1) := by decide +kernel
theorem dX11_movesTo_47 : decode cX11_movesTo 47 = .ok (.iconst 1, 1) := by decide +kernel
theorem dX11_movesTo_48 : decode cX11_movesTo 48 = .ok (.isub, 1) := by decide +kernel
theorem dX11_movesTo_49 : decode cX11_movesTo 49 = .ok (.iand, 1) := by decide +kernel
theorem dX11_movesTo_50 : decode cX11_movesTo 50 = .ok (.iconst 1, 1) := by decide +kernel
theorem dX11_movesTo_51 : decode cX11_movesTo 51 = .ok (.aload_n 0, 1) := by decide +kernel
theorem dX11_movesTo_52 : decode cX11_movesTo 52 = .ok (.getfield 51, 3) := by decide +kernel
theorem dX11_movesTo_55 : decode cX11_movesTo 55 = .ok (.sipush 1024, 3) := by decide +kernel
theorem dX11_movesTo_58 : decode cX11_movesTo 58 = .ok (.iload_n 1, 1) := by decide +kernel
theorem dX11_movesTo_59 : decode cX11_movesTo 59 = .ok (.iload_n 2, 1) := by decide +kernel
theorem dX11_movesTo_60 : decode cX11_movesTo 60 = .ok (.invokestatic 308, 3) := by decide +kernel
theorem dX11_movesTo_63 : decode cX11_movesTo 63 = .ok (.iadd, 1) := by decide +kernel
theorem dX11_movesTo_64 : decode cX11_movesTo 64 = .ok (.iaload, 1) := by decide +kernel
theorem dX11_movesTo_65 : decode cX11_movesTo 65 = .ok (.ishl, 1) := by decide +kernel
theorem dX11_movesTo_66 : decode cX11_movesTo 66 = .ok (.iconst (-1), 1) := by decide +kernel
theorem dX11_movesTo_67 : decode cX11_movesTo 67 = .ok (.ixor, 1) := by decide +kernel
theorem dX11_movesTo_68 : decode cX11_movesTo 68 = .ok (.iand, 1) := by decide +kernel
theorem dX11_movesTo_69 : decode cX11_movesTo 69 = .ok (.istore 4, 2) := by decide +kernel
theorem dX11_movesTo_71 : decode cX11_movesTo 71 = .ok (.aload_n 0, 1) := by decide +kernel
theorem dX11_movesTo_72 : decode cX11_movesTo 72 = .ok (.getfield 29, 3) := by decide +kernel
theorem dX11_movesTo_75 : decode cX11_movesTo 75 = .ok (.iload_n 1, 1) := by decide +kernel
theorem dX11_movesTo_76 : decode cX11_movesTo 76 = .ok (.iaload, 1) := by decide +kernel
theorem dX11_movesTo_77 : decode cX11_movesTo 77 = .ok (.iconst 3, 1) := by decide +kernel
theorem dX11_movesTo_78 : decode cX11_movesTo 78 = .ok (.if_icmp .ne 44, 3) := by decide +kernel
theorem dX11_movesTo_81 : decode cX11_movesTo 81 = .ok (.aload_n 0, 1) := by decide +kernel
theorem dX11_movesTo_82 : decode cX11_movesTo 82 = .ok (.iload 4, 2) := by decide +kernel
theorem dX11_movesTo_84 : decode cX11_movesTo 84 = .ok (.aload_n 0, 1) := by decide +kernel
theorem dX11_movesTo_85 : decode cX11_movesTo 85 = .ok (.iload_n 1, 1) := by decide +kernel
theorem dX11_movesTo_86 : decode cX11_movesTo 86 = .ok (.iload_n 2, 1) := by decide +kernel
theorem dX11_movesTo_87 : decode cX11_movesTo 87 = .ok (.invokevirtual 324, 3) := by decide +kernel
theorem dX11_movesTo_90 : decode cX11_movesTo 90 = .ok (.iand, 1) := by decide +kernel
theorem dX11_movesTo_91 : decode cX11_movesTo 91 = .ok (.invokevirtual 327, 3) := by decide +kernel
theorem dX11_movesTo_94 : decode cX11_movesTo 94 = .ok (.istore 5, 2) := by decide +kernel
theorem dX11_movesTo_96 : decode cX11_movesTo 96 = .ok (.iload 5, 2) := by decide +kernel
theorem dX11_movesTo_98 : decode cX11_movesTo 98 = .ok (.iconst (-1), 1) := by decide +kernel
theorem dX11_movesTo_99 : decode cX11_movesTo 99 = .ok (.if_icmp .ne 5, 3) := by decide +kernel
theorem dX11_movesTo_102 : decode cX11_movesTo 102 = .ok (.iconst 1, 1) := by decide +kernel
theorem dX11_movesTo_103 : decode cX11_movesTo 103 = .ok (.ireturn, 1) := by decide +kernel
theorem dX11_movesTo_104 : decode cX11_movesTo 104 = .ok (.aload_n 0, 1) := by decide +kernel
theorem dX11_movesTo_105 : decode cX11_movesTo 105 = .ok (.iload_n 1, 1) := by decide +kernel
theorem dX11_movesTo_106 : decode cX11_movesTo 106 = .ok (.iload_n 2, 1) := by decide +kernel
theorem dX11_movesTo_107 : decode cX11_movesTo 107 = .ok (.iload 5, 2) := by decide +kernel
theorem dX11_movesTo_109 : decode cX11_movesTo 109 = .ok (.aload_n 0, 1) := by decide +kernel
theorem dX11_movesTo_110 : decode cX11_movesTo 110 = .ok (.iload_n 1, 1) := by decide +kernel
theorem dX11_movesTo_111 : decode cX11_movesTo 111 = .ok (.iload_n 2, 1) := by decide +kernel
theorem dX11_movesTo_112 : decode cX11_movesTo 112 = .ok (.iload 5, 2) := by decide +kernel
theorem dX11_movesTo_114 : decode cX11_movesTo 114 = .ok (.invokevirtual 330, 3) := by decide +kernel
theorem dX11_movesTo_117 : decode cX11_movesTo 117 = .ok (.invokevirtual 384, 3) := by decide +kernel
theorem dX11_movesTo_120 : decode cX11_movesTo 120 = .ok (.iconst 0, 1) := by decide +kernel
theorem dX11_movesTo_121 : decode cX11_movesTo 121 = .ok (.ireturn, 1) := by decide +kernel
theorem dX11_movesTo_122 : decode cX11_movesTo 122 = .ok (.aload_n 0, 1) := by decide +kernel
theorem dX11_movesTo_123 : decode cX11_movesTo 123 = .ok (.aload_n 0, 1) := by decide +kernel
theorem dX11_movesTo_124 : decode cX11_movesTo 124 = .ok (.getfield 32, 3) := by decide +kernel
theorem dX11_movesTo_127 : decode cX11_movesTo 127 = .ok (.iload_n 1, 1) := by decide +kernel
theorem dX11_movesTo_128 : decode cX11_movesTo 128 = .ok (.iaload, 1) := by decide +kernel
theorem dX11_movesTo_129 : decode cX11_movesTo 129 = .ok (.iload 4, 2) := by decide +kernel
theorem dX11_movesTo_131 : decode cX11_movesTo 131 = .ok (.invokevirtual 317, 3) := by decide +kernel
theorem dX11_movesTo_134 : decode cX11_movesTo 134 = .ok (.istore 5, 2) := by decide +kernel
theorem dX11_movesTo_136 : decode cX11_movesTo 136 = .ok (.iload 5, 2) := by decide +kernel
theorem dX11_movesTo_138 : decode cX11_movesTo 138 = .ok (.iconst (-1), 1) := by decide +kernel
theorem dX11_movesTo_139 : decode cX11_movesTo 139 = .ok (.if_icmp .ne 5, 3) := by decide +kernel
theorem dX11_movesTo_142 : decode cX11_movesTo 142 = .ok (.iconst 1, 1) := by decide +kernel
theorem dX11_movesTo_143 : decode cX11_movesTo 143 = .ok (.ireturn, 1) := by decide +kernel
theorem dX11_movesTo_144 : decode cX11_movesTo 144 = .ok (.aload_n 0, 1) := by decide +kernel
theorem dX11_movesTo_145 : decode cX11_movesTo 145 = .ok (.iload 5, 2) := by decide +kernel
theorem dX11_movesTo_147 : decode cX11_movesTo 147 = .ok (.aload_n 0, 1) := by decide +kernel
theorem dX11_movesTo_148 : decode cX11_movesTo 148 = .ok (.getfield 32, 3) := by decide +kernel
theorem dX11_movesTo_151 : decode cX11_movesTo 151 = .ok (.iload_n 1, 1) := by decide +kernel
theorem dX11_movesTo_152 : decode cX11_movesTo 152 = .ok (.iaload, 1) := by decide +kernel
theorem dX11_movesTo_153 : decode cX11_movesTo 153 = .ok (.invokevirtual 298, 3) := by decide +kernel
theorem dX11_movesTo_156 : decode cX11_movesTo 156 = .ok (.istore 6, 2) := by decide +kernel
theorem dX11_movesTo_158 : decode cX11_movesTo 158 = .ok (.iconst 0, 1) := by decide +kernel
theorem dX11_movesTo_159 : decode cX11_movesTo 159 = .ok (.istore 7, 2) := by decide +kernel
theorem dX11_movesTo_161 : decode cX11_movesTo 161 = .ok (.iload 7, 2) := by decide +kernel
theorem dX11_movesTo_163 : decode cX11_movesTo 163 = .ok (.aload_n 0, 1) := by decide +kernel
theorem dX11_movesTo_164 : decode cX11_movesTo 164 = .ok (.getfield 32, 3) := by decide +kernel
theorem dX11_movesTo_167 : decode cX11_movesTo 167 = .ok (.iload_n 1, 1) := by decide +kernel
theorem dX11_movesTo_168 : decode cX11_movesTo 168 = .ok (.iaload, 1) := by decide +kernel
theorem dX11_movesTo_169 : decode cX11_movesTo 169 = .ok (.if_icmp .ge 23, 3) := by decide +kernel
theorem dX11_movesTo_172 : decode cX11_movesTo 172 = .ok (.aload_n 0, 1) := by decide +kernel
theorem dX11_movesTo_173 : decode cX11_movesTo 173 = .ok (.iload_n 1, 1) := by decide +kernel
theorem dX11_movesTo_174 : decode cX11_movesTo 174 = .ok (.iload 7, 2) := by decide +kernel
theorem dX11_movesTo_176 : decode cX11_movesTo 176 = .ok (.iload 5, 2) := by decide +kernel
theorem dX11_movesTo_178 : decode cX11_movesTo 178 = .ok (.iload 6, 2) := by decide +kernel
theorem dX11_movesTo_180 : decode cX11_movesTo 180 = .ok (.iload 7, 2) := by decide +kernel
theorem dX11_movesTo_182 : decode cX11_movesTo 182 = .ok (.iadd, 1) := by decide +kernel
theorem dX11_movesTo_183 : decode cX11_movesTo 183 = .ok (.invokevirtual 384, 3) := by decide +kernel
theorem dX11_movesTo_186 : decode cX11_movesTo 186 = .ok (.iinc 7 1, 3) := by decide +kernel
theorem dX11_movesTo_189 : decode cX11_movesTo 189 = .ok (.goto (-28), 3) := by decide +kernel
theorem dX11_movesTo_192 : decode cX11_movesTo 192 = .ok (.iconst 0, 1) := by decide +kernel
theorem dX11_movesTo_193 : decode cX11_movesTo 193 = .ok (.ireturn, 1) := by decide +kernel
theorem dX11_oldLeaves_0 : decode cX11_oldLeaves 0 = .ok (.iload_n 1, 1) := by decide +kernel
theorem dX11_oldLeaves_1 : decode cX11_oldLeaves 1 = .ok (.iload_n 2, 1) := by decide +kernel
theorem dX11_oldLeaves_2 : decode cX11_oldLeaves 2 = .ok (.invokestatic 308, 3) := by decide +kernel
theorem dX11_oldLeaves_5 : decode cX11_oldLeaves 5 = .ok (.istore 4, 2) := by decide +kernel
theorem dX11_oldLeaves_7 : decode cX11_oldLeaves 7 = .ok (.aload_n 0, 1) := by decide +kernel
theorem dX11_oldLeaves_8 : decode cX11_oldLeaves 8 = .ok (.getfield 51, 3) := by decide +kernel
theorem dX11_oldLeaves_11 : decode cX11_oldLeaves 11 = .ok (.sipush 1184, 3) := by decide +kernel
theorem dX11_oldLeaves_14 : decode cX11_oldLeaves 14 = .ok (.iload 4, 2) := by decide +kernel
theorem dX11_oldLeaves_16 : decode cX11_oldLeaves 16 = .ok (.iadd, 1) := by decide +kernel
theorem dX11_oldLeaves_17 : decode cX11_oldLeaves 17 = .ok (.iaload, 1) := by decide +kernel
theorem dX11_oldLeaves_18 : decode cX11_oldLeaves 18 = .ok (.iload_n 3, 1) := by decide +kernel
theorem dX11_oldLeaves_19 : decode cX11_oldLeaves 19 = .ok (.if_icmp .eq 4, 3) := by decide +kernel
theorem dX11_oldLeaves_22 : decode cX11_oldLeaves 22 = .ok (.return_, 1) := by decide +kernel
theorem dX11_oldLeaves_23 : decode cX11_oldLeaves 23 = .ok (.aload_n 0, 1) := by decide +kernel
theorem dX11_oldLeaves_24 : decode cX11_oldLeaves 24 = .ok (.getfield 51, 3) := by decide +kernel
theorem dX11_oldLeaves_27 : decode cX11_oldLeaves 27 = .ok (.sipush 1264, 3) := by decide +kernel
theorem dX11_oldLeaves_30 : decode cX11_oldLeaves 30 = .ok (.iload 4, 2) := by decide +kernel
theorem dX11_oldLeaves_32 : decode cX11_oldLeaves 32 = .ok (.iadd, 1) := by decide +kernel
theorem dX11_oldLeaves_33 : decode cX11_oldLeaves 33 = .ok (.iaload, 1) := by decide +kernel
theorem dX11_oldLeaves_34 : decode cX11_oldLeaves 34 = .ok (.istore 5, 2) := by decide +kernel
theorem dX11_oldLeaves_36 : decode cX11_oldLeaves 36 = .ok (.aload_n 0, 1) := by decide +kernel
theorem dX11_oldLeaves_37 : decode cX11_oldLeaves 37 = .ok (.getfield 51, 3) := by decide +kernel
theorem dX11_oldLeaves_40 : decode cX11_oldLeaves 40 = .ok (.sipush 768, 3) := by decide +kernel
theorem dX11_oldLeaves_43 : decode cX11_oldLeaves 43 = .ok (.iload_n 3, 1) := by decide +kernel
theorem dX11_oldLeaves_44 : decode cX11_oldLeaves 44 = .ok (.iload 5, 2) := by decide +kernel
theorem dX11_oldLeaves_46 : decode cX11_oldLeaves 46 = .ok (.invokestatic 286, 3) := by decide +kernel
theorem dX11_oldLeaves_49 : decode cX11_oldLeaves 49 = .ok (.iadd, 1) := by decide +kernel
theorem dX11_oldLeaves_50 : decode cX11_oldLeaves 50 = .ok (.iaload, 1) := by decide +kernel
theorem dX11_oldLeaves_51 : decode cX11_oldLeaves 51 = .ok (.iconst 1, 1) := by decide +kernel
theorem dX11_oldLeaves_52 : decode cX11_oldLeaves 52 = .ok (.if_icmp .ne 7, 3) := by decide +kernel
theorem dX11_oldLeaves_55 : decode cX11_oldLeaves 55 = .ok (.iconst 1, 1) := by decide +kernel
theorem dX11_oldLeaves_56 : decode cX11_oldLeaves 56 = .ok (.goto 4, 3) := by decide +kernel
theorem dX11_oldLeaves_59 : decode cX11_oldLeaves 59 = .ok (.iconst 0, 1) := by decide +kernel
theorem dX11_oldLeaves_60 : decode cX11_oldLeaves 60 = .ok (.istore 6, 2) := by decide +kernel
theorem dX11_oldLeaves_62 : decode cX11_oldLeaves 62 = .ok (.aload_n 0, 1) := by decide +kernel
theorem dX11_oldLeaves_63 : decode cX11_oldLeaves 63 = .ok (.iload_n 1, 1) := by decide +kernel
theorem dX11_oldLeaves_64 : decode cX11_oldLeaves 64 = .ok (.iload_n 2, 1) := by decide +kernel
theorem dX11_oldLeaves_65 : decode cX11_oldLeaves 65 = .ok (.iload_n 3, 1) := by decide +kernel
theorem dX11_oldLeaves_66 : decode cX11_oldLeaves 66 = .ok (.iload 5, 2) := by decide +kernel
theorem dX11_oldLeaves_68 : decode cX11_oldLeaves 68 = .ok (.invokevirtual 369, 3) := by decide +kernel
theorem dX11_oldLeaves_71 : decode cX11_oldLeaves 71 = .ok (.aload_n 0, 1) := by decide +kernel
theorem dX11_oldLeaves_72 : decode cX11_oldLeaves 72 = .ok (.iload_n 1, 1) := by decide +kernel
theorem dX11_oldLeaves_73 : decode cX11_oldLeaves 73 = .ok (.iload_n 2, 1) := by decide +kernel
theorem dX11_oldLeaves_74 : decode cX11_oldLeaves 74 = .ok (.invokevirtual 337, 3) := by decide +kernel
theorem dX11_oldLeaves_77 : decode cX11_oldLeaves 77 = .ok (.iload 6, 2) := by decide +kernel
theorem dX11_oldLeaves_79 : decode cX11_oldLeaves 79 = .ok (.ifCond .eq 32, 3) := by decide +kernel
theorem dX11_oldLeaves_82 : decode cX11_oldLeaves 82 = .ok (.aload_n 0, 1) := by decide +kernel
theorem dX11_oldLeaves_83 : decode cX11_oldLeaves 83 = .ok (.iload_n 1, 1) := by decide +kernel
theorem dX11_oldLeaves_84 : decode cX11_oldLeaves 84 = .ok (.aload_n 0, 1) := by decide +kernel
theorem dX11_oldLeaves_85 : decode cX11_oldLeaves 85 = .ok (.getfield 51, 3) := by decide +kernel
theorem dX11_oldLeaves_88 : decode cX11_oldLeaves 88 = .ok (.sipush 1024, 3) := by decide +kernel
theorem dX11_oldLeaves_91 : decode cX11_oldLeaves 91 = .ok (.iload 4, 2) := by decide +kernel
theorem dX11_oldLeaves_93 : decode cX11_oldLeaves 93 = .ok (.iadd, 1) := by decide +kernel
theorem dX11_oldLeaves_94 : decode cX11_oldLeaves 94 = .ok (.iaload, 1) := by decide +kernel
theorem dX11_oldLeaves_95 : decode cX11_oldLeaves 95 = .ok (.aload_n 0, 1) := by decide +kernel
theorem dX11_oldLeaves_96 : decode cX11_oldLeaves 96 = .ok (.getfield 51, 3) := by decide +kernel
theorem dX11_oldLeaves_99 : decode cX11_oldLeaves 99 = .ok (.sipush 1104, 3) := by decide +kernel
theorem dX11_oldLeaves_102 : decode cX11_oldLeaves 102 = .ok (.iload 4, 2) := by decide +kernel
theorem dX11_oldLeaves_104 : decode cX11_oldLeaves 104 = .ok (.iadd, 1) := by decide +kernel
theorem dX11_oldLeaves_105 : decode cX11_oldLeaves 105 = .ok (.iaload, 1) := by decide +kernel
theorem dX11_oldLeaves_106 : decode cX11_oldLeaves 106 = .ok (.invokevirtual 359, 3) := by decide +kernel
theorem dX11_oldLeaves_109 : decode cX11_oldLeaves 109 = .ok (.istore 7, 2) := by decide +kernel
theorem dX11_oldLeaves_111 : decode cX11_oldLeaves 111 = .ok (.return_, 1) := by decide +kernel
theorem dX11_isBrought_0 : decode cX11_isBrought 0 = .ok (.aload_n 0, 1) := by decide +kernel
theorem dX11_isBrought_1 : decode cX11_isBrought 1 = .ok (.aload_n 0, 1) := by decide +kernel
theorem dX11_isBrought_2 : decode cX11_isBrought 2 = .ok (.getfield 32, 3) := by decide +kernel
theorem dX11_isBrought_5 : decode cX11_isBrought 5 = .ok (.iload_n 1, 1) := by decide +kernel
theorem dX11_isBrought_6 : decode cX11_isBrought 6 = .ok (.iaload, 1) := by decide +kernel
theorem dX11_isBrought_7 : decode cX11_isBrought 7 = .ok (.aload_n 0, 1) := by decide +kernel
theorem dX11_isBrought_8 : decode cX11_isBrought 8 = .ok (.getfield 35, 3) := by decide +kernel
theorem dX11_isBrought_11 : decode cX11_isBrought 11 = .ok (.iload_n 1, 1) := by decide +kernel
theorem dX11_isBrought_12 : decode cX11_isBrought 12 = .ok (.iaload, 1) := by decide +kernel
theorem dX11_isBrought_13 : decode cX11_isBrought 13 = .ok (.invokevirtual 317, 3) := by decide +kernel
theorem dX11_isBrought_16 : decode cX11_isBrought 16 = .ok (.istore_n 3, 1) := by decide +kernel
theorem dX11_isBrought_17 : decode cX11_isBrought 17 = .ok (.iload_n 3, 1) := by decide +kernel
theorem dX11_isBrought_18 : decode cX11_isBrought 18 = .ok (.iconst (-1), 1) := by decide +kernel
theorem dX11_isBrought_19 : decode cX11_isBrought 19 = .ok (.if_icmp .ne 22, 3) := by decide +kernel
theorem dX11_isBrought_22 : decode cX11_isBrought 22 = .ok (.aload_n 0, 1) := by decide +kernel
theorem dX11_isBrought_23 : decode cX11_isBrought 23 = .ok (.aload_n 0, 1) := by decide +kernel
theorem dX11_isBrought_24 : decode cX11_isBrought 24 = .ok (.getfield 32, 3) := by decide +kernel
theorem dX11_isBrought_27 : decode cX11_isBrought 27 = .ok (.iload_n 1, 1) := by decide +kernel
theorem dX11_isBrought_28 : decode cX11_isBrought 28 = .ok (.iaload, 1) := by decide +kernel
theorem dX11_isBrought_29 : decode cX11_isBrought 29 = .ok (.iconst 1, 1) := by decide +kernel
theorem dX11_isBrought_30 : decode cX11_isBrought 30 = .ok (.aload_n 0, 1) := by decide +kernel
theorem dX11_isBrought_31 : decode cX11_isBrought 31 = .ok (.getfield 240, 3) := by decide +kernel
theorem dX11_isBrought_34 : decode cX11_isBrought 34 = .ok (.ishl, 1) := by decide +kernel
theorem dX11_isBrought_35 : decode cX11_isBrought 35 = .ok (.iconst 1, 1) := by decide +kernel
theorem dX11_isBrought_36 : decode cX11_isBrought 36 = .ok (.isub, 1) := by decide +kernel
theorem dX11_isBrought_37 : decode cX11_isBrought 37 = .ok (.invokevirtual 317, 3) := by decide +kernel
theorem dX11_isBrought_40 : decode cX11_isBrought 40 = .ok (.istore_n 3, 1) := by decide +kernel
theorem dX11_isBrought_41 : decode cX11_isBrought 41 = .ok (.iload_n 3, 1) := by decide +kernel
theorem dX11_isBrought_42 : decode cX11_isBrought 42 = .ok (.iconst (-1), 1) := by decide +kernel
theorem dX11_isBrought_43 : decode cX11_isBrought 43 = .ok (.if_icmp .ne 5, 3) := by decide +kernel
theorem dX11_isBrought_46 : decode cX11_isBrought 46 = .ok (.iconst 0, 1) := by decide +kernel
theorem dX11_isBrought_47 : decode cX11_isBrought 47 = .ok (.ireturn, 1) := by decide +kernel
theorem dX11_isBrought_48 : decode cX11_isBrought 48 = .ok (.aload_n 0, 1) := by decide +kernel
theorem dX11_isBrought_49 : decode cX11_isBrought 49 = .ok (.iload_n 3, 1) := by decide +kernel
theorem dX11_isBrought_50 : decode cX11_isBrought 50 = .ok (.aload_n 0, 1) := by decide +kernel
theorem dX11_isBrought_51 : decode cX11_isBrought 51 = .ok (.getfield 32, 3) := by decide +kernel
theorem dX11_isBrought_54 : decode cX11_isBrought 54 = .ok (.iload_n 1, 1) := by decide +kernel
theorem dX11_isBrought_55 : decode cX11_isBrought 55 = .ok (.iaload, 1) := by decide +kernel
theorem dX11_isBrought_56 : decode cX11_isBrought 56 = .ok (.invokevirtual 298, 3) := by decide +kernel
theorem dX11_isBrought_59 : decode cX11_isBrought 59 = .ok (.istore 4, 2) := by decide +kernel
theorem dX11_isBrought_61 : decode cX11_isBrought 61 = .ok (.iconst 0, 1) := by decide +kernel
theorem dX11_isBrought_62 : decode cX11_isBrought 62 = .ok (.istore 5, 2) := by decide +kernel
theorem dX11_isBrought_64 : decode cX11_isBrought 64 = .ok (.iload 5, 2) := by decide +kernel
theorem dX11_isBrought_66 : decode cX11_isBrought 66 = .ok (.aload_n 0, 1) := by decide +kernel
theorem dX11_isBrought_67 : decode cX11_isBrought 67 = .ok (.getfield 32, 3) := by decide +kernel
theorem dX11_isBrought_70 : decode cX11_isBrought 70 = .ok (.iload_n 1, 1) := by decide +kernel
theorem dX11_isBrought_71 : decode cX11_isBrought 71 = .ok (.iaload, 1) := by decide +kernel
theorem dX11_isBrought_72 : decode cX11_isBrought 72 = .ok (.if_icmp .ge 98, 3) := by decide +kernel
theorem dX11_isBrought_75 : decode cX11_isBrought 75 = .ok (.aload_n 0, 1) := by decide +kernel
theorem dX11_isBrought_76 : decode cX11_isBrought 76 = .ok (.getfield 51, 3) := by decide +kernel
theorem dX11_isBrought_79 : decode cX11_isBrought 79 = .ok (.sipush 1104, 3) := by decide +kernel
theorem dX11_isBrought_82 : decode cX11_isBrought 82 = .ok (.iload_n 1, 1) := by decide +kernel
theorem dX11_isBrought_83 : decode cX11_isBrought 83 = .ok (.iload 5, 2) := by decide +kernel
theorem dX11_isBrought_85 : decode cX11_isBrought 85 = .ok (.invokestatic 308, 3) := by decide +kernel
theorem dX11_isBrought_88 : decode cX11_isBrought 88 = .ok (.iadd, 1) := by decide +kernel
theorem dX11_isBrought_89 : decode cX11_isBrought 89 = .ok (.iaload, 1) := by decide +kernel
theorem dX11_isBrought_90 : decode cX11_isBrought 90 = .ok (.istore 6, 2) := by decide +kernel
theorem dX11_isBrought_92 : decode cX11_isBrought 92 = .ok (.aload_n 0, 1) := by decide +kernel
theorem dX11_isBrought_93 : decode cX11_isBrought 93 = .ok (.getfield 51, 3) := by decide +kernel
theorem dX11_isBrought_96 : decode cX11_isBrought 96 = .ok (.sipush 768, 3) := by decide +kernel
theorem dX11_isBrought_99 : decode cX11_isBrought 99 = .ok (.iload_n 2, 1) := by decide +kernel
theorem dX11_isBrought_100 : decode cX11_isBrought 100 = .ok (.iload 6, 2) := by decide +kernel
theorem dX11_isBrought_102 : decode cX11_isBrought 102 = .ok (.invokestatic 286, 3) := by decide +kernel
theorem dX11_isBrought_105 : decode cX11_isBrought 105 = .ok (.iadd, 1) := by decide +kernel
theorem dX11_isBrought_106 : decode cX11_isBrought 106 = .ok (.iaload, 1) := by decide +kernel
theorem dX11_isBrought_107 : decode cX11_isBrought 107 = .ok (.iconst 1, 1) := by decide +kernel
theorem dX11_isBrought_108 : decode cX11_isBrought 108 = .ok (.if_icmp .ne 7, 3) := by decide +kernel
theorem dX11_isBrought_111 : decode cX11_isBrought 111 = .ok (.iconst 1, 1) := by decide +kernel
theorem dX11_isBrought_112 : decode cX11_isBrought 112 = .ok (.goto 4, 3) := by decide +kernel
theorem dX11_isBrought_115 : decode cX11_isBrought 115 = .ok (.iconst 0, 1) := by decide +kernel
theorem dX11_isBrought_116 : decode cX11_isBrought 116 = .ok (.istore 7, 2) := by decide +kernel
theorem dX11_isBrought_118 : decode cX11_isBrought 118 = .ok (.aload_n 0, 1) := by decide +kernel
theorem dX11_isBrought_119 : decode cX11_isBrought 119 = .ok (.iload_n 1, 1) := by decide +kernel
theorem dX11_isBrought_120 : decode cX11_isBrought 120 = .ok (.iload 5, 2) := by decide +kernel
theorem dX11_isBrought_122 : decode cX11_isBrought 122 = .ok (.iload_n 2, 1) := by decide +kernel
theorem dX11_isBrought_123 : decode cX11_isBrought 123 = .ok (.iload 6, 2) := by decide +kernel
theorem dX11_isBrought_125 : decode cX11_isBrought 125 = .ok (.invokevirtual 369, 3) := by decide +kernel
theorem dX11_isBrought_128 : decode cX11_isBrought 128 = .ok (.aload_n 0, 1) := by decide +kernel
theorem dX11_isBrought_129 : decode cX11_isBrought 129 = .ok (.iload_n 1, 1) := by decide +kernel
theorem dX11_isBrought_130 : decode cX11_isBrought 130 = .ok (.iload 5, 2) := by decide +kernel
theorem dX11_isBrought_132 : decode cX11_isBrought 132 = .ok (.iload_n 3, 1) := by decide +kernel
theorem dX11_isBrought_133 : decode cX11_isBrought 133 = .ok (.iload 4, 2) := by decide +kernel
theorem dX11_isBrought_135 : decode cX11_isBrought 135 = .ok (.iload 5, 2) := by decide +kernel
theorem dX11_isBrought_137 : decode cX11_isBrought 137 = .ok (.iadd, 1) := by decide +kernel
theorem dX11_isBrought_138 : decode cX11_isBrought 138 = .ok (.invokevirtual 320, 3) := by decide +kernel
theorem dX11_isBrought_141 : decode cX11_isBrought 141 = .ok (.aload_n 0, 1) := by decide +kernel
theorem dX11_isBrought_142 : decode cX11_isBrought 142 = .ok (.getfield 51, 3) := by decide +kernel
theorem dX11_isBrought_145 : decode cX11_isBrought 145 = .ok (.sipush 768, 3) := by decide +kernel
theorem dX11_isBrought_148 : decode cX11_isBrought 148 = .ok (.iload_n 3, 1) := by decide +kernel
theorem dX11_isBrought_149 : decode cX11_isBrought 149 = .ok (.iload 4, 2) := by decide +kernel
theorem dX11_isBrought_151 : decode cX11_isBrought 151 = .ok (.iload 5, 2) := by decide +kernel
theorem dX11_isBrought_153 : decode cX11_isBrought 153 = .ok (.iadd, 1) := by decide +kernel
theorem dX11_isBrought_154 : decode cX11_isBrought 154 = .ok (.invokestatic 286, 3) := by decide +kernel
theorem dX11_isBrought_157 : decode cX11_isBrought 157 = .ok (.iadd, 1) := by decide +kernel
theorem dX11_isBrought_158 : decode cX11_isBrought 158 = .ok (.iload 7, 2) := by decide +kernel
theorem dX11_isBrought_160 : decode cX11_isBrought 160 = .ok (.invokestatic 255, 3) := by decide +kernel
theorem dX11_isBrought_163 : decode cX11_isBrought 163 = .ok (.iastore, 1) := by decide +kernel
theorem dX11_isBrought_164 : decode cX11_isBrought 164 = .ok (.iinc 5 1, 3) := by decide +kernel
theorem dX11_isBrought_167 : decode cX11_isBrought 167 = .ok (.goto (-103), 3) := by decide +kernel
theorem dX11_isBrought_170 : decode cX11_isBrought 170 = .ok (.iconst 1, 1) := by decide +kernel
theorem dX11_isBrought_171 : decode cX11_isBrought 171 = .ok (.ireturn, 1) := by decide +kernel
theorem dX11_queueLeaves_0 : decode cX11_queueLeaves 0 = .ok (.iload_n 1, 1) := by decide +kernel
theorem dX11_queueLeaves_1 : decode cX11_queueLeaves 1 = .ok (.iload_n 2, 1) := by decide +kernel
theorem dX11_queueLeaves_2 : decode cX11_queueLeaves 2 = .ok (.invokestatic 308, 3) := by decide +kernel
theorem dX11_queueLeaves_5 : decode cX11_queueLeaves 5 = .ok (.istore 4, 2) := by decide +kernel
theorem dX11_queueLeaves_7 : decode cX11_queueLeaves 7 = .ok (.aload_n 0, 1) := by decide +kernel
theorem dX11_queueLeaves_8 : decode cX11_queueLeaves 8 = .ok (.getfield 51, 3) := by decide +kernel
theorem dX11_queueLeaves_11 : decode cX11_queueLeaves 11 = .ok (.sipush 1104, 3) := by decide +kernel
theorem dX11_queueLeaves_14 : decode cX11_queueLeaves 14 = .ok (.iload 4, 2) := by decide +kernel
theorem dX11_queueLeaves_16 : decode cX11_queueLeaves 16 = .ok (.iadd, 1) := by decide +kernel
theorem dX11_queueLeaves_17 : decode cX11_queueLeaves 17 = .ok (.iaload, 1) := by decide +kernel
theorem dX11_queueLeaves_18 : decode cX11_queueLeaves 18 = .ok (.istore 5, 2) := by decide +kernel
theorem dX11_queueLeaves_20 : decode cX11_queueLeaves 20 = .ok (.aload_n 0, 1) := by decide +kernel
theorem dX11_queueLeaves_21 : decode cX11_queueLeaves 21 = .ok (.getfield 51, 3) := by decide +kernel
theorem dX11_queueLeaves_24 : decode cX11_queueLeaves 24 = .ok (.sipush 768, 3) := by decide +kernel
theorem dX11_queueLeaves_27 : decode cX11_queueLeaves 27 = .ok (.iload_n 3, 1) := by decide +kernel
theorem dX11_queueLeaves_28 : decode cX11_queueLeaves 28 = .ok (.iload 5, 2) := by decide +kernel
theorem dX11_queueLeaves_30 : decode cX11_queueLeaves 30 = .ok (.invokestatic 286, 3) := by decide +kernel
theorem dX11_queueLeaves_33 : decode cX11_queueLeaves 33 = .ok (.iadd, 1) := by decide +kernel
theorem dX11_queueLeaves_34 : decode cX11_queueLeaves 34 = .ok (.iaload, 1) := by decide +kernel
theorem dX11_queueLeaves_35 : decode cX11_queueLeaves 35 = .ok (.iconst 1, 1) := by decide +kernel
theorem dX11_queueLeaves_36 : decode cX11_queueLeaves 36 = .ok (.if_icmp .ne 7, 3) := by decide +kernel
theorem dX11_queueLeaves_39 : decode cX11_queueLeaves 39 = .ok (.iconst 1, 1) := by decide +kernel
theorem dX11_queueLeaves_40 : decode cX11_queueLeaves 40 = .ok (.goto 4, 3) := by decide +kernel
theorem dX11_queueLeaves_43 : decode cX11_queueLeaves 43 = .ok (.iconst 0, 1) := by decide +kernel
theorem dX11_queueLeaves_44 : decode cX11_queueLeaves 44 = .ok (.istore 6, 2) := by decide +kernel
theorem dX11_queueLeaves_46 : decode cX11_queueLeaves 46 = .ok (.aload_n 0, 1) := by decide +kernel
theorem dX11_queueLeaves_47 : decode cX11_queueLeaves 47 = .ok (.iload_n 1, 1) := by decide +kernel
theorem dX11_queueLeaves_48 : decode cX11_queueLeaves 48 = .ok (.iload_n 2, 1) := by decide +kernel
theorem dX11_queueLeaves_49 : decode cX11_queueLeaves 49 = .ok (.iload_n 3, 1) := by decide +kernel
theorem dX11_queueLeaves_50 : decode cX11_queueLeaves 50 = .ok (.iload 5, 2) := by decide +kernel
theorem dX11_queueLeaves_52 : decode cX11_queueLeaves 52 = .ok (.invokevirtual 369, 3) := by decide +kernel
theorem dX11_queueLeaves_55 : decode cX11_queueLeaves 55 = .ok (.aload_n 0, 1) := by decide +kernel
theorem dX11_queueLeaves_56 : decode cX11_queueLeaves 56 = .ok (.aload_n 0, 1) := by decide +kernel
theorem dX11_queueLeaves_57 : decode cX11_queueLeaves 57 = .ok (.iload_n 1, 1) := by decide +kernel
theorem dX11_queueLeaves_58 : decode cX11_queueLeaves 58 = .ok (.iload_n 2, 1) := by decide +kernel
theorem dX11_queueLeaves_59 : decode cX11_queueLeaves 59 = .ok (.invokevirtual 324, 3) := by decide +kernel
theorem dX11_queueLeaves_62 : decode cX11_queueLeaves 62 = .ok (.invokevirtual 327, 3) := by decide +kernel
theorem dX11_queueLeaves_65 : decode cX11_queueLeaves 65 = .ok (.istore 7, 2) := by decide +kernel
theorem dX11_queueLeaves_67 : decode cX11_queueLeaves 67 = .ok (.iload 7, 2) := by decide +kernel
theorem dX11_queueLeaves_69 : decode cX11_queueLeaves 69 = .ok (.iconst (-1), 1) := by decide +kernel
theorem dX11_queueLeaves_70 : decode cX11_queueLeaves 70 = .ok (.if_icmp .ne 44, 3) := by decide +kernel
theorem dX11_queueLeaves_73 : decode cX11_queueLeaves 73 = .ok (.aload_n 0, 1) := by decide +kernel
theorem dX11_queueLeaves_74 : decode cX11_queueLeaves 74 = .ok (.getfield 51, 3) := by decide +kernel
theorem dX11_queueLeaves_77 : decode cX11_queueLeaves 77 = .ok (.sipush 1024, 3) := by decide +kernel
theorem dX11_queueLeaves_80 : decode cX11_queueLeaves 80 = .ok (.iload 4, 2) := by decide +kernel
theorem dX11_queueLeaves_82 : decode cX11_queueLeaves 82 = .ok (.iadd, 1) := by decide +kernel
theorem dX11_queueLeaves_83 : decode cX11_queueLeaves 83 = .ok (.iconst (-1), 1) := by decide +kernel
theorem dX11_queueLeaves_84 : decode cX11_queueLeaves 84 = .ok (.iastore, 1) := by decide +kernel
theorem dX11_queueLeaves_85 : decode cX11_queueLeaves 85 = .ok (.aload_n 0, 1) := by decide +kernel
theorem dX11_queueLeaves_86 : decode cX11_queueLeaves 86 = .ok (.getfield 51, 3) := by decide +kernel
theorem dX11_queueLeaves_89 : decode cX11_queueLeaves 89 = .ok (.sipush 1104, 3) := by decide +kernel
theorem dX11_queueLeaves_92 : decode cX11_queueLeaves 92 = .ok (.iload 4, 2) := by decide +kernel
theorem dX11_queueLeaves_94 : decode cX11_queueLeaves 94 = .ok (.iadd, 1) := by decide +kernel
theorem dX11_queueLeaves_95 : decode cX11_queueLeaves 95 = .ok (.iconst (-1), 1) := by decide +kernel
theorem dX11_queueLeaves_96 : decode cX11_queueLeaves 96 = .ok (.iastore, 1) := by decide +kernel
theorem dX11_queueLeaves_97 : decode cX11_queueLeaves 97 = .ok (.aload_n 0, 1) := by decide +kernel
theorem dX11_queueLeaves_98 : decode cX11_queueLeaves 98 = .ok (.getfield 51, 3) := by decide +kernel
theorem dX11_queueLeaves_101 : decode cX11_queueLeaves 101 = .ok (.sipush 1424, 3) := by decide +kernel
theorem dX11_queueLeaves_104 : decode cX11_queueLeaves 104 = .ok (.iload 4, 2) := by decide +kernel
theorem dX11_queueLeaves_106 : decode cX11_queueLeaves 106 = .ok (.iadd, 1) := by decide +kernel
theorem dX11_queueLeaves_107 : decode cX11_queueLeaves 107 = .ok (.iload 6, 2) := by decide +kernel
theorem dX11_queueLeaves_109 : decode cX11_queueLeaves 109 = .ok (.invokestatic 255, 3) := by decide +kernel
theorem dX11_queueLeaves_112 : decode cX11_queueLeaves 112 = .ok (.iastore, 1) := by decide +kernel
theorem dX11_queueLeaves_113 : decode cX11_queueLeaves 113 = .ok (.return_, 1) := by decide +kernel
theorem dX11_queueLeaves_114 : decode cX11_queueLeaves 114 = .ok (.aload_n 0, 1) := by decide +kernel
theorem dX11_queueLeaves_115 : decode cX11_queueLeaves 115 = .ok (.getfield 51, 3) := by decide +kernel
theorem dX11_queueLeaves_118 : decode cX11_queueLeaves 118 = .ok (.sipush 1184, 3) := by decide +kernel
theorem dX11_queueLeaves_121 : decode cX11_queueLeaves 121 = .ok (.iload 4, 2) := by decide +kernel
theorem dX11_queueLeaves_123 : decode cX11_queueLeaves 123 = .ok (.iadd, 1) := by decide +kernel
theorem dX11_queueLeaves_124 : decode cX11_queueLeaves 124 = .ok (.iaload, 1) := by decide +kernel
theorem dX11_queueLeaves_125 : decode cX11_queueLeaves 125 = .ok (.iload 7, 2) := by decide +kernel
theorem dX11_queueLeaves_127 : decode cX11_queueLeaves 127 = .ok (.if_icmp .ne 17, 3) := by decide +kernel
theorem dX11_queueLeaves_130 : decode cX11_queueLeaves 130 = .ok (.aload_n 0, 1) := by decide +kernel
theorem dX11_queueLeaves_131 : decode cX11_queueLeaves 131 = .ok (.getfield 51, 3) := by decide +kernel
theorem dX11_queueLeaves_134 : decode cX11_queueLeaves 134 = .ok (.sipush 1264, 3) := by decide +kernel
theorem dX11_queueLeaves_137 : decode cX11_queueLeaves 137 = .ok (.iload 4, 2) := by decide +kernel
theorem dX11_queueLeaves_139 : decode cX11_queueLeaves 139 = .ok (.iadd, 1) := by decide +kernel
theorem dX11_queueLeaves_140 : decode cX11_queueLeaves 140 = .ok (.iaload, 1) := by decide +kernel
theorem dX11_queueLeaves_141 : decode cX11_queueLeaves 141 = .ok (.goto 11, 3) := by decide +kernel
theorem dX11_queueLeaves_144 : decode cX11_queueLeaves 144 = .ok (.aload_n 0, 1) := by decide +kernel
theorem dX11_queueLeaves_145 : decode cX11_queueLeaves 145 = .ok (.iload_n 1, 1) := by decide +kernel
theorem dX11_queueLeaves_146 : decode cX11_queueLeaves 146 = .ok (.iload_n 2, 1) := by decide +kernel
theorem dX11_queueLeaves_147 : decode cX11_queueLeaves 147 = .ok (.iload 7, 2) := by decide +kernel
theorem dX11_queueLeaves_149 : decode cX11_queueLeaves 149 = .ok (.invokevirtual 330, 3) := by decide +kernel
theorem dX11_queueLeaves_152 : decode cX11_queueLeaves 152 = .ok (.istore 8, 2) := by decide +kernel
theorem dX11_queueLeaves_154 : decode cX11_queueLeaves 154 = .ok (.aload_n 0, 1) := by decide +kernel
theorem dX11_queueLeaves_155 : decode cX11_queueLeaves 155 = .ok (.getfield 51, 3) := by decide +kernel
theorem dX11_queueLeaves_158 : decode cX11_queueLeaves 158 = .ok (.sipush 1184, 3) := by decide +kernel
theorem dX11_queueLeaves_161 : decode cX11_queueLeaves 161 = .ok (.iload 4, 2) := by decide +kernel
theorem dX11_queueLeaves_163 : decode cX11_queueLeaves 163 = .ok (.iadd, 1) := by decide +kernel
theorem dX11_queueLeaves_164 : decode cX11_queueLeaves 164 = .ok (.iaload, 1) := by decide +kernel
theorem dX11_queueLeaves_165 : decode cX11_queueLeaves 165 = .ok (.iload 7, 2) := by decide +kernel
theorem dX11_queueLeaves_167 : decode cX11_queueLeaves 167 = .ok (.if_icmp .ne 9, 3) := by decide +kernel
theorem dX11_queueLeaves_170 : decode cX11_queueLeaves 170 = .ok (.aload_n 0, 1) := by decide +kernel
theorem dX11_queueLeaves_171 : decode cX11_queueLeaves 171 = .ok (.iload_n 1, 1) := by decide +kernel
theorem dX11_queueLeaves_172 : decode cX11_queueLeaves 172 = .ok (.iload_n 2, 1) := by decide +kernel
theorem dX11_queueLeaves_173 : decode cX11_queueLeaves 173 = .ok (.invokevirtual 337, 3) := by decide +kernel
theorem dX11_queueLeaves_176 : decode cX11_queueLeaves 176 = .ok (.aload_n 0, 1) := by decide +kernel
theorem dX11_queueLeaves_177 : decode cX11_queueLeaves 177 = .ok (.iload_n 1, 1) := by decide +kernel
theorem dX11_queueLeaves_178 : decode cX11_queueLeaves 178 = .ok (.iload_n 2, 1) := by decide +kernel
theorem dX11_queueLeaves_179 : decode cX11_queueLeaves 179 = .ok (.iload 7, 2) := by decide +kernel
theorem dX11_queueLeaves_181 : decode cX11_queueLeaves 181 = .ok (.iload 8, 2) := by decide +kernel
theorem dX11_queueLeaves_183 : decode cX11_queueLeaves 183 = .ok (.invokevirtual 320, 3) := by decide +kernel
theorem dX11_queueLeaves_186 : decode cX11_queueLeaves 186 = .ok (.iload 6, 2) := by decide +kernel
theorem dX11_queueLeaves_188 : decode cX11_queueLeaves 188 = .ok (.ifCond .eq 14, 3) := by decide +kernel
theorem dX11_queueLeaves_191 : decode cX11_queueLeaves 191 = .ok (.aload_n 0, 1) := by decide +kernel
theorem dX11_queueLeaves_192 : decode cX11_queueLeaves 192 = .ok (.iload_n 1, 1) := by decide +kernel
theorem dX11_queueLeaves_193 : decode cX11_queueLeaves 193 = .ok (.iload 7, 2) := by decide +kernel
theorem dX11_queueLeaves_195 : decode cX11_queueLeaves 195 = .ok (.iload 8, 2) := by decide +kernel
theorem dX11_queueLeaves_197 : decode cX11_queueLeaves 197 = .ok (.invokevirtual 359, 3) := by decide +kernel
theorem dX11_queueLeaves_200 : decode cX11_queueLeaves 200 = .ok (.istore 9, 2) := by decide +kernel
theorem dX11_queueLeaves_202 : decode cX11_queueLeaves 202 = .ok (.return_, 1) := by decide +kernel
theorem dX11_isCleared_0 : decode cX11_isCleared 0 = .ok (.aload_n 0, 1) := by decide +kernel
theorem dX11_isCleared_1 : decode cX11_isCleared 1 = .ok (.getfield 29, 3) := by decide +kernel
theorem dX11_isCleared_4 : decode cX11_isCleared 4 = .ok (.iload_n 1, 1) := by decide +kernel
theorem dX11_isCleared_5 : decode cX11_isCleared 5 = .ok (.iaload, 1) := by decide +kernel
theorem dX11_isCleared_6 : decode cX11_isCleared 6 = .ok (.iconst 3, 1) := by decide +kernel
theorem dX11_isCleared_7 : decode cX11_isCleared 7 = .ok (.if_icmp .eq 61, 3) := by decide +kernel
theorem dX11_isCleared_10 : decode cX11_isCleared 10 = .ok (.iconst 0, 1) := by decide +kernel
theorem dX11_isCleared_11 : decode cX11_isCleared 11 = .ok (.istore_n 3, 1) := by decide +kernel
theorem dX11_isCleared_12 : decode cX11_isCleared 12 = .ok (.iload_n 3, 1) := by decide +kernel
theorem dX11_isCleared_13 : decode cX11_isCleared 13 = .ok (.aload_n 0, 1) := by decide +kernel
theorem dX11_isCleared_14 : decode cX11_isCleared 14 = .ok (.getfield 32, 3) := by decide +kernel
theorem dX11_isCleared_17 : decode cX11_isCleared 17 = .ok (.iload_n 1, 1) := by decide +kernel
theorem dX11_isCleared_18 : decode cX11_isCleared 18 = .ok (.iaload, 1) := by decide +kernel
theorem dX11_isCleared_19 : decode cX11_isCleared 19 = .ok (.if_icmp .ge 16, 3) := by decide +kernel
theorem dX11_isCleared_22 : decode cX11_isCleared 22 = .ok (.aload_n 0, 1) := by decide +kernel
theorem dX11_isCleared_23 : decode cX11_isCleared 23 = .ok (.iload_n 1, 1) := by decide +kernel
theorem dX11_isCleared_24 : decode cX11_isCleared 24 = .ok (.iload_n 3, 1) := by decide +kernel
theorem dX11_isCleared_25 : decode cX11_isCleared 25 = .ok (.iload_n 2, 1) := by decide +kernel
theorem dX11_isCleared_26 : decode cX11_isCleared 26 = .ok (.invokevirtual 387, 3) := by decide +kernel
theorem dX11_isCleared_29 : decode cX11_isCleared 29 = .ok (.iinc 3 1, 3) := by decide +kernel
theorem dX11_isCleared_32 : decode cX11_isCleared 32 = .ok (.goto (-20), 3) := by decide +kernel
theorem dX11_isCleared_35 : decode cX11_isCleared 35 = .ok (.aload_n 0, 1) := by decide +kernel
theorem dX11_isCleared_36 : decode cX11_isCleared 36 = .ok (.getfield 51, 3) := by decide +kernel
theorem dX11_isCleared_39 : decode cX11_isCleared 39 = .ok (.sipush 1024, 3) := by decide +kernel
theorem dX11_isCleared_42 : decode cX11_isCleared 42 = .ok (.iload_n 1, 1) := by decide +kernel
theorem dX11_isCleared_43 : decode cX11_isCleared 43 = .ok (.iconst 0, 1) := by decide +kernel
theorem dX11_isCleared_44 : decode cX11_isCleared 44 = .ok (.invokestatic 308, 3) := by decide +kernel
theorem dX11_isCleared_47 : decode cX11_isCleared 47 = .ok (.iadd, 1) := by decide +kernel
theorem dX11_isCleared_48 : decode cX11_isCleared 48 = .ok (.iaload, 1) := by decide +kernel
theorem dX11_isCleared_49 : decode cX11_isCleared 49 = .ok (.iload_n 2, 1) := by decide +kernel
theorem dX11_isCleared_50 : decode cX11_isCleared 50 = .ok (.if_icmp .ne 12, 3) := by decide +kernel
theorem dX11_isCleared_53 : decode cX11_isCleared 53 = .ok (.aload_n 0, 1) := by decide +kernel
theorem dX11_isCleared_54 : decode cX11_isCleared 54 = .ok (.iload_n 1, 1) := by decide +kernel
theorem dX11_isCleared_55 : decode cX11_isCleared 55 = .ok (.iload_n 2, 1) := by decide +kernel
theorem dX11_isCleared_56 : decode cX11_isCleared 56 = .ok (.invokevirtual 391, 3) := by decide +kernel
theorem dX11_isCleared_59 : decode cX11_isCleared 59 = .ok (.ifCond .eq 7, 3) := by decide +kernel
theorem dX11_isCleared_62 : decode cX11_isCleared 62 = .ok (.iconst 1, 1) := by decide +kernel
theorem dX11_isCleared_63 : decode cX11_isCleared 63 = .ok (.goto 4, 3) := by decide +kernel
theorem dX11_isCleared_66 : decode cX11_isCleared 66 = .ok (.iconst 0, 1) := by decide +kernel
theorem dX11_isCleared_67 : decode cX11_isCleared 67 = .ok (.ireturn, 1) := by decide +kernel
theorem dX11_isCleared_68 : decode cX11_isCleared 68 = .ok (.iconst 0, 1) := by decide +kernel
theorem dX11_isCleared_69 : decode cX11_isCleared 69 = .ok (.istore_n 3, 1) := by decide +kernel
theorem dX11_isCleared_70 : decode cX11_isCleared 70 = .ok (.iload_n 3, 1) := by decide +kernel
theorem dX11_isCleared_71 : decode cX11_isCleared 71 = .ok (.aload_n 0, 1) := by decide +kernel
theorem dX11_isCleared_72 : decode cX11_isCleared 72 = .ok (.getfield 32, 3) := by decide +kernel
theorem dX11_isCleared_75 : decode cX11_isCleared 75 = .ok (.iload_n 1, 1) := by decide +kernel
theorem dX11_isCleared_76 : decode cX11_isCleared 76 = .ok (.iaload, 1) := by decide +kernel
theorem dX11_isCleared_77 : decode cX11_isCleared 77 = .ok (.if_icmp .ge 41, 3) := by decide +kernel
theorem dX11_isCleared_80 : decode cX11_isCleared 80 = .ok (.aload_n 0, 1) := by decide +kernel
theorem dX11_isCleared_81 : decode cX11_isCleared 81 = .ok (.iload_n 1, 1) := by decide +kernel
theorem dX11_isCleared_82 : decode cX11_isCleared 82 = .ok (.iload_n 3, 1) := by decide +kernel
theorem dX11_isCleared_83 : decode cX11_isCleared 83 = .ok (.iload_n 2, 1) := by decide +kernel
theorem dX11_isCleared_84 : decode cX11_isCleared 84 = .ok (.invokevirtual 387, 3) := by decide +kernel
theorem dX11_isCleared_87 : decode cX11_isCleared 87 = .ok (.aload_n 0, 1) := by decide +kernel
theorem dX11_isCleared_88 : decode cX11_isCleared 88 = .ok (.getfield 51, 3) := by decide +kernel
theorem dX11_isCleared_91 : decode cX11_isCleared 91 = .ok (.sipush 1024, 3) := by decide +kernel
theorem dX11_isCleared_94 : decode cX11_isCleared 94 = .ok (.iload_n 1, 1) := by decide +kernel
theorem dX11_isCleared_95 : decode cX11_isCleared 95 = .ok (.iload_n 3, 1) := by decide +kernel
theorem dX11_isCleared_96 : decode cX11_isCleared 96 = .ok (.invokestatic 308, 3) := by decide +kernel
theorem dX11_isCleared_99 : decode cX11_isCleared 99 = .ok (.iadd, 1) := by decide +kernel
theorem dX11_isCleared_100 : decode cX11_isCleared 100 = .ok (.iaload, 1) := by decide +kernel
theorem dX11_isCleared_101 : decode cX11_isCleared 101 = .ok (.iload_n 2, 1) := by decide +kernel
theorem dX11_isCleared_102 : decode cX11_isCleared 102 = .ok (.if_icmp .ne 10, 3) := by decide +kernel
theorem dX11_isCleared_105 : decode cX11_isCleared 105 = .ok (.aload_n 0, 1) := by decide +kernel
theorem dX11_isCleared_106 : decode cX11_isCleared 106 = .ok (.iload_n 1, 1) := by decide +kernel
theorem dX11_isCleared_107 : decode cX11_isCleared 107 = .ok (.iload_n 3, 1) := by decide +kernel
theorem dX11_isCleared_108 : decode cX11_isCleared 108 = .ok (.iload_n 2, 1) := by decide +kernel
theorem dX11_isCleared_109 : decode cX11_isCleared 109 = .ok (.invokevirtual 394, 3) := by decide +kernel
theorem dX11_isCleared_112 : decode cX11_isCleared 112 = .ok (.iinc 3 1, 3) := by decide +kernel
theorem dX11_isCleared_115 : decode cX11_isCleared 115 = .ok (.goto (-45), 3) := by decide +kernel
theorem dX11_isCleared_118 : decode cX11_isCleared 118 = .ok (.iconst 1, 1) := by decide +kernel
theorem dX11_isCleared_119 : decode cX11_isCleared 119 = .ok (.ireturn, 1) := by decide +kernel
theorem dX11_unplugs_0 : decode cX11_unplugs 0 = .ok (.aload_n 0, 1) := by decide +kernel
theorem dX11_unplugs_1 : decode cX11_unplugs 1 = .ok (.iload_n 1, 1) := by decide +kernel
theorem dX11_unplugs_2 : decode cX11_unplugs 2 = .ok (.invokevirtual 292, 3) := by decide +kernel
theorem dX11_unplugs_5 : decode cX11_unplugs 5 = .ok (.ifCond .ne 5, 3) := by decide +kernel
theorem dX11_unplugs_8 : decode cX11_unplugs 8 = .ok (.iconst 4, 1) := by decide +kernel
theorem dX11_unplugs_9 : decode cX11_unplugs 9 = .ok (.ireturn, 1) := by decide +kernel
theorem dX11_unplugs_10 : decode cX11_unplugs 10 = .ok (.aload_n 0, 1) := by decide +kernel
theorem dX11_unplugs_11 : decode cX11_unplugs 11 = .ok (.invokevirtual 397, 3) := by decide +kernel
theorem dX11_unplugs_14 : decode cX11_unplugs 14 = .ok (.iconst 1, 1) := by decide +kernel
theorem dX11_unplugs_15 : decode cX11_unplugs 15 = .ok (.iload_n 1, 1) := by decide +kernel
theorem dX11_unplugs_16 : decode cX11_unplugs 16 = .ok (.ishl, 1) := by decide +kernel
theorem dX11_unplugs_17 : decode cX11_unplugs 17 = .ok (.if_icmp .ne 5, 3) := by decide +kernel
theorem dX11_unplugs_20 : decode cX11_unplugs 20 = .ok (.iconst 5, 1) := by decide +kernel
theorem dX11_unplugs_21 : decode cX11_unplugs 21 = .ok (.ireturn, 1) := by decide +kernel
theorem dX11_unplugs_22 : decode cX11_unplugs 22 = .ok (.aload_n 0, 1) := by decide +kernel
theorem dX11_unplugs_23 : decode cX11_unplugs 23 = .ok (.invokevirtual 334, 3) := by decide +kernel
theorem dX11_unplugs_26 : decode cX11_unplugs 26 = .ok (.aload_n 0, 1) := by decide +kernel
theorem dX11_unplugs_27 : decode cX11_unplugs 27 = .ok (.getfield 51, 3) := by decide +kernel
theorem dX11_unplugs_30 : decode cX11_unplugs 30 = .ok (.sipush 1554, 3) := by decide +kernel
theorem dX11_unplugs_33 : decode cX11_unplugs 33 = .ok (.iload_n 1, 1) := by decide +kernel
theorem dX11_unplugs_34 : decode cX11_unplugs 34 = .ok (.iadd, 1) := by decide +kernel
theorem dX11_unplugs_35 : decode cX11_unplugs 35 = .ok (.iconst 0, 1) := by decide +kernel
theorem dX11_unplugs_36 : decode cX11_unplugs 36 = .ok (.iastore, 1) := by decide +kernel
theorem dX11_unplugs_37 : decode cX11_unplugs 37 = .ok (.iconst 1, 1) := by decide +kernel
theorem dX11_unplugs_38 : decode cX11_unplugs 38 = .ok (.istore_n 2, 1) := by decide +kernel
theorem dX11_unplugs_39 : decode cX11_unplugs 39 = .ok (.iconst 0, 1) := by decide +kernel
theorem dX11_unplugs_40 : decode cX11_unplugs 40 = .ok (.istore_n 3, 1) := by decide +kernel
theorem dX11_unplugs_41 : decode cX11_unplugs 41 = .ok (.iload_n 3, 1) := by decide +kernel
theorem dX11_unplugs_42 : decode cX11_unplugs 42 = .ok (.aload_n 0, 1) := by decide +kernel
theorem dX11_unplugs_43 : decode cX11_unplugs 43 = .ok (.getfield 252, 3) := by decide +kernel
theorem dX11_unplugs_46 : decode cX11_unplugs 46 = .ok (.if_icmp .ge 28, 3) := by decide +kernel
theorem dX11_unplugs_49 : decode cX11_unplugs 49 = .ok (.iload_n 2, 1) := by decide +kernel
theorem dX11_unplugs_50 : decode cX11_unplugs 50 = .ok (.ifCond .eq 24, 3) := by decide +kernel
theorem dX11_unplugs_53 : decode cX11_unplugs 53 = .ok (.aload_n 0, 1) := by decide +kernel
theorem dX11_unplugs_54 : decode cX11_unplugs 54 = .ok (.iload_n 3, 1) := by decide +kernel
theorem dX11_unplugs_55 : decode cX11_unplugs 55 = .ok (.invokevirtual 283, 3) := by decide +kernel
theorem dX11_unplugs_58 : decode cX11_unplugs 58 = .ok (.ifCond .eq 10, 3) := by decide +kernel
theorem dX11_unplugs_61 : decode cX11_unplugs 61 = .ok (.aload_n 0, 1) := by decide +kernel
theorem dX11_unplugs_62 : decode cX11_unplugs 62 = .ok (.iload_n 3, 1) := by decide +kernel
theorem dX11_unplugs_63 : decode cX11_unplugs 63 = .ok (.iload_n 1, 1) := by decide +kernel
theorem dX11_unplugs_64 : decode cX11_unplugs 64 = .ok (.invokevirtual 400, 3) := by decide +kernel
theorem dX11_unplugs_67 : decode cX11_unplugs 67 = .ok (.istore_n 2, 1) := by decide +kernel
theorem dX11_unplugs_68 : decode cX11_unplugs 68 = .ok (.iinc 3 1, 3) := by decide +kernel
theorem dX11_unplugs_71 : decode cX11_unplugs 71 = .ok (.goto (-30), 3) := by decide +kernel
theorem dX11_unplugs_74 : decode cX11_unplugs 74 = .ok (.iload_n 2, 1) := by decide +kernel
theorem dX11_unplugs_75 : decode cX11_unplugs 75 = .ok (.ifCond .ne 7, 3) := by decide +kernel
theorem dX11_unplugs_78 : decode cX11_unplugs 78 = .ok (.iconst 1, 1) := by decide +kernel
theorem dX11_unplugs_79 : decode cX11_unplugs 79 = .ok (.goto 19, 3) := by decide +kernel
theorem dX11_unplugs_82 : decode cX11_unplugs 82 = .ok (.aload_n 0, 1) := by decide +kernel
theorem dX11_unplugs_83 : decode cX11_unplugs 83 = .ok (.invokevirtual 347, 3) := by decide +kernel
theorem dX11_unplugs_86 : decode cX11_unplugs 86 = .ok (.aload_n 0, 1) := by decide +kernel
theorem dX11_unplugs_87 : decode cX11_unplugs 87 = .ok (.invokevirtual 350, 3) := by decide +kernel
theorem dX11_unplugs_90 : decode cX11_unplugs 90 = .ok (.if_icmp .ge 7, 3) := by decide +kernel
theorem dX11_unplugs_93 : decode cX11_unplugs 93 = .ok (.iconst 2, 1) := by decide +kernel
theorem dX11_unplugs_94 : decode cX11_unplugs 94 = .ok (.goto 4, 3) := by decide +kernel
theorem dX11_unplugs_97 : decode cX11_unplugs 97 = .ok (.iconst 0, 1) := by decide +kernel
theorem dX11_unplugs_98 : decode cX11_unplugs 98 = .ok (.istore_n 3, 1) := by decide +kernel
theorem dX11_unplugs_99 : decode cX11_unplugs 99 = .ok (.iload_n 3, 1) := by decide +kernel
theorem dX11_unplugs_100 : decode cX11_unplugs 100 = .ok (.ifCond .le 7, 3) := by decide +kernel
theorem dX11_unplugs_103 : decode cX11_unplugs 103 = .ok (.aload_n 0, 1) := by decide +kernel
theorem dX11_unplugs_104 : decode cX11_unplugs 104 = .ok (.invokevirtual 353, 3) := by decide +kernel
theorem dX11_unplugs_107 : decode cX11_unplugs 107 = .ok (.iload_n 3, 1) := by decide +kernel
theorem dX11_unplugs_108 : decode cX11_unplugs 108 = .ok (.ireturn, 1) := by decide +kernel
theorem dX11_plugs_0 : decode cX11_plugs 0 = .ok (.aload_n 0, 1) := by decide +kernel
theorem dX11_plugs_1 : decode cX11_plugs 1 = .ok (.iload_n 1, 1) := by decide +kernel
theorem dX11_plugs_2 : decode cX11_plugs 2 = .ok (.invokevirtual 292, 3) := by decide +kernel
theorem dX11_plugs_5 : decode cX11_plugs 5 = .ok (.ifCond .eq 5, 3) := by decide +kernel
theorem dX11_plugs_8 : decode cX11_plugs 8 = .ok (.iconst 4, 1) := by decide +kernel
theorem dX11_plugs_9 : decode cX11_plugs 9 = .ok (.ireturn, 1) := by decide +kernel
theorem dX11_plugs_10 : decode cX11_plugs 10 = .ok (.aload_n 0, 1) := by decide +kernel
theorem dX11_plugs_11 : decode cX11_plugs 11 = .ok (.getfield 51, 3) := by decide +kernel
theorem dX11_plugs_14 : decode cX11_plugs 14 = .ok (.sipush 1554, 3) := by decide +kernel
theorem dX11_plugs_17 : decode cX11_plugs 17 = .ok (.iload_n 1, 1) := by decide +kernel
theorem dX11_plugs_18 : decode cX11_plugs 18 = .ok (.iadd, 1) := by decide +kernel
theorem dX11_plugs_19 : decode cX11_plugs 19 = .ok (.iconst 1, 1) := by decide +kernel
theorem dX11_plugs_20 : decode cX11_plugs 20 = .ok (.iastore, 1) := by decide +kernel
theorem dX11_plugs_21 : decode cX11_plugs 21 = .ok (.iconst 0, 1) := by decide +kernel
theorem dX11_plugs_22 : decode cX11_plugs 22 = .ok (.istore_n 2, 1) := by decide +kernel
theorem dX11_plugs_23 : decode cX11_plugs 23 = .ok (.iload_n 2, 1) := by decide +kernel
theorem dX11_plugs_24 : decode cX11_plugs 24 = .ok (.aload_n 0, 1) := by decide +kernel
theorem dX11_plugs_25 : decode cX11_plugs 25 = .ok (.getfield 252, 3) := by decide +kernel
theorem dX11_plugs_28 : decode cX11_plugs 28 = .ok (.if_icmp .ge 147, 3) := by decide +kernel
theorem dX11_plugs_31 : decode cX11_plugs 31 = .ok (.aload_n 0, 1) := by decide +kernel
theorem dX11_plugs_32 : decode cX11_plugs 32 = .ok (.iload_n 2, 1) := by decide +kernel
theorem dX11_plugs_33 : decode cX11_plugs 33 = .ok (.invokevirtual 283, 3) := by decide +kernel
theorem dX11_plugs_36 : decode cX11_plugs 36 = .ok (.ifCond .eq 133, 3) := by decide +kernel
theorem dX11_plugs_39 : decode cX11_plugs 39 = .ok (.aload_n 0, 1) := by decide +kernel
theorem dX11_plugs_40 : decode cX11_plugs 40 = .ok (.getfield 29, 3) := by decide +kernel
theorem dX11_plugs_43 : decode cX11_plugs 43 = .ok (.iload_n 2, 1) := by decide +kernel
theorem dX11_plugs_44 : decode cX11_plugs 44 = .ok (.iaload, 1) := by decide +kernel
theorem dX11_plugs_45 : decode cX11_plugs 45 = .ok (.iconst 3, 1) := by decide +kernel
theorem dX11_plugs_46 : decode cX11_plugs 46 = .ok (.if_icmp .eq 6, 3) := by decide +kernel
theorem dX11_plugs_49 : decode cX11_plugs 49 = .ok (.goto 120, 3) := by decide +kernel
theorem dX11_plugs_52 : decode cX11_plugs 52 = .ok (.iconst 0, 1) := by decide +kernel
theorem dX11_plugs_53 : decode cX11_plugs 53 = .ok (.istore_n 3, 1) := by decide +kernel
theorem dX11_plugs_54 : decode cX11_plugs 54 = .ok (.iload_n 3, 1) := by decide +kernel
theorem dX11_plugs_55 : decode cX11_plugs 55 = .ok (.aload_n 0, 1) := by decide +kernel
theorem dX11_plugs_56 : decode cX11_plugs 56 = .ok (.getfield 32, 3) := by decide +kernel
theorem dX11_plugs_59 : decode cX11_plugs 59 = .ok (.iload_n 2, 1) := by decide +kernel
theorem dX11_plugs_60 : decode cX11_plugs 60 = .ok (.iaload, 1) := by decide +kernel
theorem dX11_plugs_61 : decode cX11_plugs 61 = .ok (.if_icmp .ge 108, 3) := by decide +kernel
theorem dX11_plugs_64 : decode cX11_plugs 64 = .ok (.iload_n 2, 1) := by decide +kernel
theorem dX11_plugs_65 : decode cX11_plugs 65 = .ok (.iload_n 3, 1) := by decide +kernel
theorem dX11_plugs_66 : decode cX11_plugs 66 = .ok (.invokestatic 308, 3) := by decide +kernel
theorem dX11_plugs_69 : decode cX11_plugs 69 = .ok (.istore 4, 2) := by decide +kernel
theorem dX11_plugs_71 : decode cX11_plugs 71 = .ok (.aload_n 0, 1) := by decide +kernel
theorem dX11_plugs_72 : decode cX11_plugs 72 = .ok (.getfield 51, 3) := by decide +kernel
theorem dX11_plugs_75 : decode cX11_plugs 75 = .ok (.sipush 1024, 3) := by decide +kernel
theorem dX11_plugs_78 : decode cX11_plugs 78 = .ok (.iload 4, 2) := by decide +kernel
theorem dX11_plugs_80 : decode cX11_plugs 80 = .ok (.iadd, 1) := by decide +kernel
theorem dX11_plugs_81 : decode cX11_plugs 81 = .ok (.iaload, 1) := by decide +kernel
theorem dX11_plugs_82 : decode cX11_plugs 82 = .ok (.iconst (-1), 1) := by decide +kernel
theorem dX11_plugs_83 : decode cX11_plugs 83 = .ok (.if_icmp .ne 80, 3) := by decide +kernel
theorem dX11_plugs_86 : decode cX11_plugs 86 = .ok (.aload_n 0, 1) := by decide +kernel
theorem dX11_plugs_87 : decode cX11_plugs 87 = .ok (.iload_n 2, 1) := by decide +kernel
theorem dX11_plugs_88 : decode cX11_plugs 88 = .ok (.iload_n 3, 1) := by decide +kernel
theorem dX11_plugs_89 : decode cX11_plugs 89 = .ok (.invokevirtual 324, 3) := by decide +kernel
theorem dX11_plugs_92 : decode cX11_plugs 92 = .ok (.iload_n 1, 1) := by decide +kernel
theorem dX11_plugs_93 : decode cX11_plugs 93 = .ok (.invokestatic 192, 3) := by decide +kernel
theorem dX11_plugs_96 : decode cX11_plugs 96 = .ok (.ifCond .ne 6, 3) := by decide +kernel
theorem dX11_plugs_99 : decode cX11_plugs 99 = .ok (.goto 64, 3) := by decide +kernel
theorem dX11_plugs_102 : decode cX11_plugs 102 = .ok (.aload_n 0, 1) := by decide +kernel
theorem dX11_plugs_103 : decode cX11_plugs 103 = .ok (.iload_n 2, 1) := by decide +kernel
theorem dX11_plugs_104 : decode cX11_plugs 104 = .ok (.iload_n 3, 1) := by decide +kernel
theorem dX11_plugs_105 : decode cX11_plugs 105 = .ok (.iload_n 1, 1) := by decide +kernel
theorem dX11_plugs_106 : decode cX11_plugs 106 = .ok (.aload_n 0, 1) := by decide +kernel
theorem dX11_plugs_107 : decode cX11_plugs 107 = .ok (.iload_n 2, 1) := by decide +kernel
theorem dX11_plugs_108 : decode cX11_plugs 108 = .ok (.iload_n 3, 1) := by decide +kernel
theorem dX11_plugs_109 : decode cX11_plugs 109 = .ok (.iload_n 1, 1) := by decide +kernel
theorem dX11_plugs_110 : decode cX11_plugs 110 = .ok (.invokevirtual 330, 3) := by decide +kernel
theorem dX11_plugs_113 : decode cX11_plugs 113 = .ok (.invokevirtual 320, 3) := by decide +kernel
theorem dX11_plugs_116 : decode cX11_plugs 116 = .ok (.aload_n 0, 1) := by decide +kernel
theorem dX11_plugs_117 : decode cX11_plugs 117 = .ok (.getfield 51, 3) := by decide +kernel
theorem dX11_plugs_120 : decode cX11_plugs 120 = .ok (.sipush 768, 3) := by decide +kernel
theorem dX11_plugs_123 : decode cX11_plugs 123 = .ok (.iload_n 1, 1) := by decide +kernel
theorem dX11_plugs_124 : decode cX11_plugs 124 = .ok (.aload_n 0, 1) := by decide +kernel
theorem dX11_plugs_125 : decode cX11_plugs 125 = .ok (.getfield 51, 3) := by decide +kernel
theorem dX11_plugs_128 : decode cX11_plugs 128 = .ok (.sipush 1104, 3) := by decide +kernel
theorem dX11_plugs_131 : decode cX11_plugs 131 = .ok (.iload 4, 2) := by decide +kernel
theorem dX11_plugs_133 : decode cX11_plugs 133 = .ok (.iadd, 1) := by decide +kernel
theorem dX11_plugs_134 : decode cX11_plugs 134 = .ok (.iaload, 1) := by decide +kernel
theorem dX11_plugs_135 : decode cX11_plugs 135 = .ok (.invokestatic 286, 3) := by decide +kernel
theorem dX11_plugs_138 : decode cX11_plugs 138 = .ok (.iadd, 1) := by decide +kernel
theorem dX11_plugs_139 : decode cX11_plugs 139 = .ok (.aload_n 0, 1) := by decide +kernel
theorem dX11_plugs_140 : decode cX11_plugs 140 = .ok (.getfield 51, 3) := by decide +kernel
theorem dX11_plugs_143 : decode cX11_plugs 143 = .ok (.sipush 1424, 3) := by decide +kernel
theorem dX11_plugs_146 : decode cX11_plugs 146 = .ok (.iload 4, 2) := by decide +kernel
theorem dX11_plugs_148 : decode cX11_plugs 148 = .ok (.iadd, 1) := by decide +kernel
theorem dX11_plugs_149 : decode cX11_plugs 149 = .ok (.iaload, 1) := by decide +kernel
theorem dX11_plugs_150 : decode cX11_plugs 150 = .ok (.iastore, 1) := by decide +kernel
theorem dX11_plugs_151 : decode cX11_plugs 151 = .ok (.aload_n 0, 1) := by decide +kernel
theorem dX11_plugs_152 : decode cX11_plugs 152 = .ok (.getfield 51, 3) := by decide +kernel
theorem dX11_plugs_155 : decode cX11_plugs 155 = .ok (.sipush 1424, 3) := by decide +kernel
theorem dX11_plugs_158 : decode cX11_plugs 158 = .ok (.iload 4, 2) := by decide +kernel
theorem dX11_plugs_160 : decode cX11_plugs 160 = .ok (.iadd, 1) := by decide +kernel
theorem dX11_plugs_161 : decode cX11_plugs 161 = .ok (.iconst 0, 1) := by decide +kernel
theorem dX11_plugs_162 : decode cX11_plugs 162 = .ok (.iastore, 1) := by decide +kernel
theorem dX11_plugs_163 : decode cX11_plugs 163 = .ok (.iinc 3 1, 3) := by decide +kernel
theorem dX11_plugs_166 : decode cX11_plugs 166 = .ok (.goto (-112), 3) := by decide +kernel
theorem dX11_plugs_169 : decode cX11_plugs 169 = .ok (.iinc 2 1, 3) := by decide +kernel
theorem dX11_plugs_172 : decode cX11_plugs 172 = .ok (.goto (-149), 3) := by decide +kernel
theorem dX11_plugs_175 : decode cX11_plugs 175 = .ok (.iconst 0, 1) := by decide +kernel
theorem dX11_plugs_176 : decode cX11_plugs 176 = .ok (.ireturn, 1) := by decide +kernel
theorem dX11_begin_0 : decode cX11_begin 0 = .ok (.iconst 0, 1) := by decide +kernel
theorem dX11_begin_1 : decode cX11_begin 1 = .ok (.istore_n 1, 1) := by decide +kernel
theorem dX11_begin_2 : decode cX11_begin 2 = .ok (.iload_n 1, 1) := by decide +kernel
theorem dX11_begin_3 : decode cX11_begin 3 = .ok (.sipush 1775, 3) := by decide +kernel
theorem dX11_begin_6 : decode cX11_begin 6 = .ok (.if_icmp .ge 21, 3) := by decide +kernel
theorem dX11_begin_9 : decode cX11_begin 9 = .ok (.aload_n 0, 1) := by decide +kernel
theorem dX11_begin_10 : decode cX11_begin 10 = .ok (.getfield 60, 3) := by decide +kernel
theorem dX11_begin_13 : decode cX11_begin 13 = .ok (.iload_n 1, 1) := by decide +kernel
theorem dX11_begin_14 : decode cX11_begin 14 = .ok (.aload_n 0, 1) := by decide +kernel
theorem dX11_begin_15 : decode cX11_begin 15 = .ok (.getfield 51, 3) := by decide +kernel
theorem dX11_begin_18 : decode cX11_begin 18 = .ok (.iload_n 1, 1) := by decide +kernel
theorem dX11_begin_19 : decode cX11_begin 19 = .ok (.iaload, 1) := by decide +kernel
theorem dX11_begin_20 : decode cX11_begin 20 = .ok (.iastore, 1) := by decide +kernel
theorem dX11_begin_21 : decode cX11_begin 21 = .ok (.iinc 1 1, 3) := by decide +kernel
theorem dX11_begin_24 : decode cX11_begin 24 = .ok (.goto (-22), 3) := by decide +kernel
theorem dX11_begin_27 : decode cX11_begin 27 = .ok (.return_, 1) := by decide +kernel
theorem dX11_keeps_0 : decode cX11_keeps 0 = .ok (.aload_n 0, 1) := by decide +kernel
theorem dX11_keeps_1 : decode cX11_keeps 1 = .ok (.getfield 259, 3) := by decide +kernel
theorem dX11_keeps_4 : decode cX11_keeps 4 = .ok (.bipush 16, 2) := by decide +kernel
theorem dX11_keeps_6 : decode cX11_keeps 6 = .ok (.if_icmp .ne 46, 3) := by decide +kernel
theorem dX11_keeps_9 : decode cX11_keeps 9 = .ok (.sipush 1775, 3) := by decide +kernel
theorem dX11_keeps_12 : decode cX11_keeps 12 = .ok (.istore_n 1, 1) := by decide +kernel
theorem dX11_keeps_13 : decode cX11_keeps 13 = .ok (.iload_n 1, 1) := by decide +kernel
theorem dX11_keeps_14 : decode cX11_keeps 14 = .ok (.sipush 28400, 3) := by decide +kernel
theorem dX11_keeps_17 : decode cX11_keeps 17 = .ok (.if_icmp .ge 25, 3) := by decide +kernel
theorem dX11_keeps_20 : decode cX11_keeps 20 = .ok (.aload_n 0, 1) := by decide +kernel
theorem dX11_keeps_21 : decode cX11_keeps 21 = .ok (.getfield 57, 3) := by decide +kernel
theorem dX11_keeps_24 : decode cX11_keeps 24 = .ok (.iload_n 1, 1) := by decide +kernel
theorem dX11_keeps_25 : decode cX11_keeps 25 = .ok (.sipush 1775, 3) := by decide +kernel
theorem dX11_keeps_28 : decode cX11_keeps 28 = .ok (.isub, 1) := by decide +kernel
theorem dX11_keeps_29 : decode cX11_keeps 29 = .ok (.aload_n 0, 1) := by decide +kernel
theorem dX11_keeps_30 : decode cX11_keeps 30 = .ok (.getfield 57, 3) := by decide +kernel
theorem dX11_keeps_33 : decode cX11_keeps 33 = .ok (.iload_n 1, 1) := by decide +kernel
theorem dX11_keeps_34 : decode cX11_keeps 34 = .ok (.iaload, 1) := by decide +kernel
theorem dX11_keeps_35 : decode cX11_keeps 35 = .ok (.iastore, 1) := by decide +kernel
theorem dX11_keeps_36 : decode cX11_keeps 36 = .ok (.iinc 1 1, 3) := by decide +kernel
theorem dX11_keeps_39 : decode cX11_keeps 39 = .ok (.goto (-26), 3) := by decide +kernel
theorem dX11_keeps_42 : decode cX11_keeps 42 = .ok (.aload_n 0, 1) := by decide +kernel
theorem dX11_keeps_43 : decode cX11_keeps 43 = .ok (.dup, 1) := by decide +kernel
theorem dX11_keeps_44 : decode cX11_keeps 44 = .ok (.getfield 259, 3) := by decide +kernel
theorem dX11_keeps_47 : decode cX11_keeps 47 = .ok (.iconst 1, 1) := by decide +kernel
theorem dX11_keeps_48 : decode cX11_keeps 48 = .ok (.isub, 1) := by decide +kernel
theorem dX11_keeps_49 : decode cX11_keeps 49 = .ok (.putfield 259, 3) := by decide +kernel
theorem dX11_keeps_52 : decode cX11_keeps 52 = .ok (.iconst 0, 1) := by decide +kernel
theorem dX11_keeps_53 : decode cX11_keeps 53 = .ok (.istore_n 1, 1) := by decide +kernel
theorem dX11_keeps_54 : decode cX11_keeps 54 = .ok (.iload_n 1, 1) := by decide +kernel
theorem dX11_keeps_55 : decode cX11_keeps 55 = .ok (.sipush 1775, 3) := by decide +kernel
theorem dX11_keeps_58 : decode cX11_keeps 58 = .ok (.if_icmp .ge 30, 3) := by decide +kernel
theorem dX11_keeps_61 : decode cX11_keeps 61 = .ok (.aload_n 0, 1) := by decide +kernel
theorem dX11_keeps_62 : decode cX11_keeps 62 = .ok (.getfield 57, 3) := by decide +kernel
theorem dX11_keeps_65 : decode cX11_keeps 65 = .ok (.sipush 1775, 3) := by decide +kernel
theorem dX11_keeps_68 : decode cX11_keeps 68 = .ok (.aload_n 0, 1) := by decide +kernel
theorem dX11_keeps_69 : decode cX11_keeps 69 = .ok (.getfield 259, 3) := by decide +kernel
theorem dX11_keeps_72 : decode cX11_keeps 72 = .ok (.imul, 1) := by decide +kernel
theorem dX11_keeps_73 : decode cX11_keeps 73 = .ok (.iload_n 1, 1) := by decide +kernel
theorem dX11_keeps_74 : decode cX11_keeps 74 = .ok (.iadd, 1) := by decide +kernel
theorem dX11_keeps_75 : decode cX11_keeps 75 = .ok (.aload_n 0, 1) := by decide +kernel
theorem dX11_keeps_76 : decode cX11_keeps 76 = .ok (.getfield 60, 3) := by decide +kernel
theorem dX11_keeps_79 : decode cX11_keeps 79 = .ok (.iload_n 1, 1) := by decide +kernel
theorem dX11_keeps_80 : decode cX11_keeps 80 = .ok (.iaload, 1) := by decide +kernel
theorem dX11_keeps_81 : decode cX11_keeps 81 = .ok (.iastore, 1) := by decide +kernel
theorem dX11_keeps_82 : decode cX11_keeps 82 = .ok (.iinc 1 1, 3) := by decide +kernel
theorem dX11_keeps_85 : decode cX11_keeps 85 = .ok (.goto (-31), 3) := by decide +kernel
theorem dX11_keeps_88 : decode cX11_keeps 88 = .ok (.aload_n 0, 1) := by decide +kernel
theorem dX11_keeps_89 : decode cX11_keeps 89 = .ok (.dup, 1) := by decide +kernel
theorem dX11_keeps_90 : decode cX11_keeps 90 = .ok (.getfield 259, 3) := by decide +kernel
theorem dX11_keeps_93 : decode cX11_keeps 93 = .ok (.iconst 1, 1) := by decide +kernel
theorem dX11_keeps_94 : decode cX11_keeps 94 = .ok (.iadd, 1) := by decide +kernel
theorem dX11_keeps_95 : decode cX11_keeps 95 = .ok (.putfield 259, 3) := by decide +kernel
theorem dX11_keeps_98 : decode cX11_keeps 98 = .ok (.aload_n 0, 1) := by decide +kernel
theorem dX11_keeps_99 : decode cX11_keeps 99 = .ok (.iconst 0, 1) := by decide +kernel
theorem dX11_keeps_100 : decode cX11_keeps 100 = .ok (.putfield 262, 3) := by decide +kernel
theorem dX11_keeps_103 : decode cX11_keeps 103 = .ok (.return_, 1) := by decide +kernel
theorem dX11_exchanges_0 : decode cX11_exchanges 0 = .ok (.iconst 0, 1) := by decide +kernel
theorem dX11_exchanges_1 : decode cX11_exchanges 1 = .ok (.istore_n 2, 1) := by decide +kernel
theorem dX11_exchanges_2 : decode cX11_exchanges 2 = .ok (.iload_n 2, 1) := by decide +kernel
theorem dX11_exchanges_3 : decode cX11_exchanges 3 = .ok (.sipush 1775, 3) := by decide +kernel
theorem dX11_exchanges_6 : decode cX11_exchanges 6 = .ok (.if_icmp .ge 47, 3) := by decide +kernel
theorem dX11_exchanges_9 : decode cX11_exchanges 9 = .ok (.aload_n 0, 1) := by decide +kernel
theorem dX11_exchanges_10 : decode cX11_exchanges 10 = .ok (.getfield 57, 3) := by decide +kernel
theorem dX11_exchanges_13 : decode cX11_exchanges 13 = .ok (.sipush 1775, 3) := by decide +kernel
theorem dX11_exchanges_16 : decode cX11_exchanges 16 = .ok (.iload_n 1, 1) := by decide +kernel
theorem dX11_exchanges_17 : decode cX11_exchanges 17 = .ok (.imul, 1) := by decide +kernel
theorem dX11_exchanges_18 : decode cX11_exchanges 18 = .ok (.iload_n 2, 1) := by decide +kernel
theorem dX11_exchanges_19 : decode cX11_exchanges 19 = .ok (.iadd, 1) := by decide +kernel
theorem dX11_exchanges_20 : decode cX11_exchanges 20 = .ok (.iaload, 1) := by decide +kernel
theorem dX11_exchanges_21 : decode cX11_exchanges 21 = .ok (.istore_n 3, 1) := by decide +kernel
theorem dX11_exchanges_22 : decode cX11_exchanges 22 = .ok (.aload_n 0, 1) := by decide +kernel
theorem dX11_exchanges_23 : decode cX11_exchanges 23 = .ok (.getfield 57, 3) := by decide +kernel
theorem dX11_exchanges_26 : decode cX11_exchanges 26 = .ok (.sipush 1775, 3) := by decide +kernel
theorem dX11_exchanges_29 : decode cX11_exchanges 29 = .ok (.iload_n 1, 1) := by decide +kernel
theorem dX11_exchanges_30 : decode cX11_exchanges 30 = .ok (.imul, 1) := by decide +kernel
theorem dX11_exchanges_31 : decode cX11_exchanges 31 = .ok (.iload_n 2, 1) := by decide +kernel
theorem dX11_exchanges_32 : decode cX11_exchanges 32 = .ok (.iadd, 1) := by decide +kernel
theorem dX11_exchanges_33 : decode cX11_exchanges 33 = .ok (.aload_n 0, 1) := by decide +kernel
theorem dX11_exchanges_34 : decode cX11_exchanges 34 = .ok (.getfield 51, 3) := by decide +kernel
theorem dX11_exchanges_37 : decode cX11_exchanges 37 = .ok (.iload_n 2, 1) := by decide +kernel
theorem dX11_exchanges_38 : decode cX11_exchanges 38 = .ok (.iaload, 1) := by decide +kernel
theorem dX11_exchanges_39 : decode cX11_exchanges 39 = .ok (.iastore, 1) := by decide +kernel
theorem dX11_exchanges_40 : decode cX11_exchanges 40 = .ok (.aload_n 0, 1) := by decide +kernel
theorem dX11_exchanges_41 : decode cX11_exchanges 41 = .ok (.getfield 51, 3) := by decide +kernel
theorem dX11_exchanges_44 : decode cX11_exchanges 44 = .ok (.iload_n 2, 1) := by decide +kernel
theorem dX11_exchanges_45 : decode cX11_exchanges 45 = .ok (.iload_n 3, 1) := by decide +kernel
theorem dX11_exchanges_46 : decode cX11_exchanges 46 = .ok (.iastore, 1) := by decide +kernel
theorem dX11_exchanges_47 : decode cX11_exchanges 47 = .ok (.iinc 2 1, 3) := by decide +kernel
theorem dX11_exchanges_50 : decode cX11_exchanges 50 = .ok (.goto (-48), 3) := by decide +kernel
theorem dX11_exchanges_53 : decode cX11_exchanges 53 = .ok (.return_, 1) := by decide +kernel
theorem dX11_undo_0 : decode cX11_undo 0 = .ok (.aload_n 0, 1) := by decide +kernel
theorem dX11_undo_1 : decode cX11_undo 1 = .ok (.getfield 259, 3) := by decide +kernel
theorem dX11_undo_4 : decode cX11_undo 4 = .ok (.ifCond .ne 5, 3) := by decide +kernel
theorem dX11_undo_7 : decode cX11_undo 7 = .ok (.iconst 0, 1) := by decide +kernel
theorem dX11_undo_8 : decode cX11_undo 8 = .ok (.ireturn, 1) := by decide +kernel
theorem dX11_undo_9 : decode cX11_undo 9 = .ok (.aload_n 0, 1) := by decide +kernel
theorem dX11_undo_10 : decode cX11_undo 10 = .ok (.dup, 1) := by decide +kernel
theorem dX11_undo_11 : decode cX11_undo 11 = .ok (.getfield 259, 3) := by decide +kernel
theorem dX11_undo_14 : decode cX11_undo 14 = .ok (.iconst 1, 1) := by decide +kernel
theorem dX11_undo_15 : decode cX11_undo 15 = .ok (.isub, 1) := by decide +kernel
theorem dX11_undo_16 : decode cX11_undo 16 = .ok (.putfield 259, 3) := by decide +kernel
theorem dX11_undo_19 : decode cX11_undo 19 = .ok (.aload_n 0, 1) := by decide +kernel
theorem dX11_undo_20 : decode cX11_undo 20 = .ok (.dup, 1) := by decide +kernel
theorem dX11_undo_21 : decode cX11_undo 21 = .ok (.getfield 262, 3) := by decide +kernel
theorem dX11_undo_24 : decode cX11_undo 24 = .ok (.iconst 1, 1) := by decide +kernel
theorem dX11_undo_25 : decode cX11_undo 25 = .ok (.iadd, 1) := by decide +kernel
theorem dX11_undo_26 : decode cX11_undo 26 = .ok (.putfield 262, 3) := by decide +kernel
theorem dX11_undo_29 : decode cX11_undo 29 = .ok (.aload_n 0, 1) := by decide +kernel
theorem dX11_undo_30 : decode cX11_undo 30 = .ok (.aload_n 0, 1) := by decide +kernel
theorem dX11_undo_31 : decode cX11_undo 31 = .ok (.getfield 259, 3) := by decide +kernel
theorem dX11_undo_34 : decode cX11_undo 34 = .ok (.invokevirtual 403, 3) := by decide +kernel
theorem dX11_undo_37 : decode cX11_undo 37 = .ok (.iconst 1, 1) := by decide +kernel
theorem dX11_undo_38 : decode cX11_undo 38 = .ok (.ireturn, 1) := by decide +kernel
theorem dX11_redo_0 : decode cX11_redo 0 = .ok (.aload_n 0, 1) := by decide +kernel
theorem dX11_redo_1 : decode cX11_redo 1 = .ok (.getfield 262, 3) := by decide +kernel
theorem dX11_redo_4 : decode cX11_redo 4 = .ok (.ifCond .ne 5, 3) := by decide +kernel
theorem dX11_redo_7 : decode cX11_redo 7 = .ok (.iconst 0, 1) := by decide +kernel
theorem dX11_redo_8 : decode cX11_redo 8 = .ok (.ireturn, 1) := by decide +kernel
theorem dX11_redo_9 : decode cX11_redo 9 = .ok (.aload_n 0, 1) := by decide +kernel
theorem dX11_redo_10 : decode cX11_redo 10 = .ok (.dup, 1) := by decide +kernel
theorem dX11_redo_11 : decode cX11_redo 11 = .ok (.getfield 262, 3) := by decide +kernel
theorem dX11_redo_14 : decode cX11_redo 14 = .ok (.iconst 1, 1) := by decide +kernel
theorem dX11_redo_15 : decode cX11_redo 15 = .ok (.isub, 1) := by decide +kernel
theorem dX11_redo_16 : decode cX11_redo 16 = .ok (.putfield 262, 3) := by decide +kernel
theorem dX11_redo_19 : decode cX11_redo 19 = .ok (.aload_n 0, 1) := by decide +kernel
theorem dX11_redo_20 : decode cX11_redo 20 = .ok (.aload_n 0, 1) := by decide +kernel
theorem dX11_redo_21 : decode cX11_redo 21 = .ok (.getfield 259, 3) := by decide +kernel
theorem dX11_redo_24 : decode cX11_redo 24 = .ok (.invokevirtual 403, 3) := by decide +kernel
theorem dX11_redo_27 : decode cX11_redo 27 = .ok (.aload_n 0, 1) := by decide +kernel
theorem dX11_redo_28 : decode cX11_redo 28 = .ok (.dup, 1) := by decide +kernel
theorem dX11_redo_29 : decode cX11_redo 29 = .ok (.getfield 259, 3) := by decide +kernel
theorem dX11_redo_32 : decode cX11_redo 32 = .ok (.iconst 1, 1) := by decide +kernel
theorem dX11_redo_33 : decode cX11_redo 33 = .ok (.iadd, 1) := by decide +kernel
theorem dX11_redo_34 : decode cX11_redo 34 = .ok (.putfield 259, 3) := by decide +kernel
theorem dX11_redo_37 : decode cX11_redo 37 = .ok (.iconst 1, 1) := by decide +kernel
theorem dX11_redo_38 : decode cX11_redo 38 = .ok (.ireturn, 1) := by decide +kernel
theorem dX11_kept_0 : decode cX11_kept 0 = .ok (.iload_n 1, 1) := by decide +kernel
theorem dX11_kept_1 : decode cX11_kept 1 = .ok (.ifCond .ne 7, 3) := by decide +kernel
theorem dX11_kept_4 : decode cX11_kept 4 = .ok (.aload_n 0, 1) := by decide +kernel
theorem dX11_kept_5 : decode cX11_kept 5 = .ok (.invokevirtual 406, 3) := by decide +kernel
theorem dX11_kept_8 : decode cX11_kept 8 = .ok (.iload_n 1, 1) := by decide +kernel
theorem dX11_kept_9 : decode cX11_kept 9 = .ok (.ireturn, 1) := by decide +kernel
theorem dX11_start_0 : decode cX11_start 0 = .ok (.aload_n 0, 1) := by decide +kernel
theorem dX11_start_1 : decode cX11_start 1 = .ok (.iload_n 1, 1) := by decide +kernel
theorem dX11_start_2 : decode cX11_start 2 = .ok (.invokevirtual 280, 3) := by decide +kernel
theorem dX11_start_5 : decode cX11_start 5 = .ok (.ifCond .ne 5, 3) := by decide +kernel
theorem dX11_start_8 : decode cX11_start 8 = .ok (.iconst (-1), 1) := by decide +kernel
theorem dX11_start_9 : decode cX11_start 9 = .ok (.ireturn, 1) := by decide +kernel
theorem dX11_start_10 : decode cX11_start 10 = .ok (.aload_n 0, 1) := by decide +kernel
theorem dX11_start_11 : decode cX11_start 11 = .ok (.invokevirtual 409, 3) := by decide +kernel
theorem dX11_start_14 : decode cX11_start 14 = .ok (.aload_n 0, 1) := by decide +kernel
theorem dX11_start_15 : decode cX11_start 15 = .ok (.aload_n 0, 1) := by decide +kernel
theorem dX11_start_16 : decode cX11_start 16 = .ok (.iload_n 1, 1) := by decide +kernel
theorem dX11_start_17 : decode cX11_start 17 = .ok (.invokevirtual 412, 3) := by decide +kernel
theorem dX11_start_20 : decode cX11_start 20 = .ok (.invokevirtual 415, 3) := by decide +kernel
theorem dX11_start_23 : decode cX11_start 23 = .ok (.ireturn, 1) := by decide +kernel
theorem dX11_stop_0 : decode cX11_stop 0 = .ok (.aload_n 0, 1) := by decide +kernel
theorem dX11_stop_1 : decode cX11_stop 1 = .ok (.iload_n 1, 1) := by decide +kernel
theorem dX11_stop_2 : decode cX11_stop 2 = .ok (.invokevirtual 280, 3) := by decide +kernel
theorem dX11_stop_5 : decode cX11_stop 5 = .ok (.ifCond .eq 11, 3) := by decide +kernel
theorem dX11_stop_8 : decode cX11_stop 8 = .ok (.aload_n 0, 1) := by decide +kernel
theorem dX11_stop_9 : decode cX11_stop 9 = .ok (.iload_n 1, 1) := by decide +kernel
theorem dX11_stop_10 : decode cX11_stop 10 = .ok (.invokevirtual 283, 3) := by decide +kernel
theorem dX11_stop_13 : decode cX11_stop 13 = .ok (.ifCond .ne 5, 3) := by decide +kernel
theorem dX11_stop_16 : decode cX11_stop 16 = .ok (.iconst (-1), 1) := by decide +kernel
theorem dX11_stop_17 : decode cX11_stop 17 = .ok (.ireturn, 1) := by decide +kernel
theorem dX11_stop_18 : decode cX11_stop 18 = .ok (.aload_n 0, 1) := by decide +kernel
theorem dX11_stop_19 : decode cX11_stop 19 = .ok (.invokevirtual 409, 3) := by decide +kernel
theorem dX11_stop_22 : decode cX11_stop 22 = .ok (.aload_n 0, 1) := by decide +kernel
theorem dX11_stop_23 : decode cX11_stop 23 = .ok (.iload_n 1, 1) := by decide +kernel
theorem dX11_stop_24 : decode cX11_stop 24 = .ok (.invokevirtual 417, 3) := by decide +kernel
theorem dX11_stop_27 : decode cX11_stop 27 = .ok (.istore_n 2, 1) := by decide +kernel
theorem dX11_stop_28 : decode cX11_stop 28 = .ok (.aload_n 0, 1) := by decide +kernel
theorem dX11_stop_29 : decode cX11_stop 29 = .ok (.invokevirtual 406, 3) := by decide +kernel
theorem dX11_stop_32 : decode cX11_stop 32 = .ok (.iload_n 2, 1) := by decide +kernel
theorem dX11_stop_33 : decode cX11_stop 33 = .ok (.ireturn, 1) := by decide +kernel
theorem dX11_claim_0 : decode cX11_claim 0 = .ok (.aload_n 0, 1) := by decide +kernel
theorem dX11_claim_1 : decode cX11_claim 1 = .ok (.iload_n 1, 1) := by decide +kernel
theorem dX11_claim_2 : decode cX11_claim 2 = .ok (.invokevirtual 280, 3) := by decide +kernel
theorem dX11_claim_5 : decode cX11_claim 5 = .ok (.ifCond .ne 5, 3) := by decide +kernel
theorem dX11_claim_8 : decode cX11_claim 8 = .ok (.iconst (-1), 1) := by decide +kernel
theorem dX11_claim_9 : decode cX11_claim 9 = .ok (.ireturn, 1) := by decide +kernel
theorem dX11_claim_10 : decode cX11_claim 10 = .ok (.aload_n 0, 1) := by decide +kernel
theorem dX11_claim_11 : decode cX11_claim 11 = .ok (.invokevirtual 409, 3) := by decide +kernel
theorem dX11_claim_14 : decode cX11_claim 14 = .ok (.aload_n 0, 1) := by decide +kernel
theorem dX11_claim_15 : decode cX11_claim 15 = .ok (.aload_n 0, 1) := by decide +kernel
theorem dX11_claim_16 : decode cX11_claim 16 = .ok (.iload_n 1, 1) := by decide +kernel
theorem dX11_claim_17 : decode cX11_claim 17 = .ok (.invokevirtual 420, 3) := by decide +kernel
theorem dX11_claim_20 : decode cX11_claim 20 = .ok (.invokevirtual 415, 3) := by decide +kernel
theorem dX11_claim_23 : decode cX11_claim 23 = .ok (.ireturn, 1) := by decide +kernel
theorem dX11_raise_0 : decode cX11_raise 0 = .ok (.aload_n 0, 1) := by decide +kernel
theorem dX11_raise_1 : decode cX11_raise 1 = .ok (.iload_n 1, 1) := by decide +kernel
theorem dX11_raise_2 : decode cX11_raise 2 = .ok (.iload_n 2, 1) := by decide +kernel
theorem dX11_raise_3 : decode cX11_raise 3 = .ok (.invokevirtual 378, 3) := by decide +kernel
theorem dX11_raise_6 : decode cX11_raise 6 = .ok (.ifCond .ne 5, 3) := by decide +kernel
theorem dX11_raise_9 : decode cX11_raise 9 = .ok (.iconst (-1), 1) := by decide +kernel
theorem dX11_raise_10 : decode cX11_raise 10 = .ok (.ireturn, 1) := by decide +kernel
theorem dX11_raise_11 : decode cX11_raise 11 = .ok (.aload_n 0, 1) := by decide +kernel
theorem dX11_raise_12 : decode cX11_raise 12 = .ok (.invokevirtual 409, 3) := by decide +kernel
theorem dX11_raise_15 : decode cX11_raise 15 = .ok (.aload_n 0, 1) := by decide +kernel
theorem dX11_raise_16 : decode cX11_raise 16 = .ok (.iload_n 1, 1) := by decide +kernel
theorem dX11_raise_17 : decode cX11_raise 17 = .ok (.iload_n 2, 1) := by decide +kernel
theorem dX11_raise_18 : decode cX11_raise 18 = .ok (.iload_n 3, 1) := by decide +kernel
theorem dX11_raise_19 : decode cX11_raise 19 = .ok (.invokevirtual 423, 3) := by decide +kernel
theorem dX11_raise_22 : decode cX11_raise 22 = .ok (.istore 4, 2) := by decide +kernel
theorem dX11_raise_24 : decode cX11_raise 24 = .ok (.aload_n 0, 1) := by decide +kernel
theorem dX11_raise_25 : decode cX11_raise 25 = .ok (.invokevirtual 406, 3) := by decide +kernel
theorem dX11_raise_28 : decode cX11_raise 28 = .ok (.iload 4, 2) := by decide +kernel
theorem dX11_raise_30 : decode cX11_raise 30 = .ok (.ireturn, 1) := by decide +kernel
theorem dX11_tick_0 : decode cX11_tick 0 = .ok (.iload_n 1, 1) := by decide +kernel
theorem dX11_tick_1 : decode cX11_tick 1 = .ok (.iconst 1, 1) := by decide +kernel
theorem dX11_tick_2 : decode cX11_tick 2 = .ok (.bipush 100, 2) := by decide +kernel
theorem dX11_tick_4 : decode cX11_tick 4 = .ok (.invokestatic 89, 3) := by decide +kernel
theorem dX11_tick_7 : decode cX11_tick 7 = .ok (.ifCond .ne 5, 3) := by decide +kernel
theorem dX11_tick_10 : decode cX11_tick 10 = .ok (.iconst (-1), 1) := by decide +kernel
theorem dX11_tick_11 : decode cX11_tick 11 = .ok (.ireturn, 1) := by decide +kernel
theorem dX11_tick_12 : decode cX11_tick 12 = .ok (.aload_n 0, 1) := by decide +kernel
theorem dX11_tick_13 : decode cX11_tick 13 = .ok (.invokevirtual 409, 3) := by decide +kernel
theorem dX11_tick_16 : decode cX11_tick 16 = .ok (.iconst 0, 1) := by decide +kernel
theorem dX11_tick_17 : decode cX11_tick 17 = .ok (.istore_n 2, 1) := by decide +kernel
theorem dX11_tick_18 : decode cX11_tick 18 = .ok (.iload_n 2, 1) := by decide +kernel
theorem dX11_tick_19 : decode cX11_tick 19 = .ok (.iload_n 1, 1) := by decide +kernel
theorem dX11_tick_20 : decode cX11_tick 20 = .ok (.if_icmp .ge 13, 3) := by decide +kernel
theorem dX11_tick_23 : decode cX11_tick 23 = .ok (.aload_n 0, 1) := by decide +kernel
theorem dX11_tick_24 : decode cX11_tick 24 = .ok (.invokevirtual 427, 3) := by decide +kernel
theorem dX11_tick_27 : decode cX11_tick 27 = .ok (.iinc 2 1, 3) := by decide +kernel
theorem dX11_tick_30 : decode cX11_tick 30 = .ok (.goto (-12), 3) := by decide +kernel
theorem dX11_tick_33 : decode cX11_tick 33 = .ok (.aload_n 0, 1) := by decide +kernel
theorem dX11_tick_34 : decode cX11_tick 34 = .ok (.invokevirtual 406, 3) := by decide +kernel
theorem dX11_tick_37 : decode cX11_tick 37 = .ok (.aload_n 0, 1) := by decide +kernel
theorem dX11_tick_38 : decode cX11_tick 38 = .ok (.getfield 51, 3) := by decide +kernel
theorem dX11_tick_41 : decode cX11_tick 41 = .ok (.sipush 1571, 3) := by decide +kernel
theorem dX11_tick_44 : decode cX11_tick 44 = .ok (.iaload, 1) := by decide +kernel
theorem dX11_tick_45 : decode cX11_tick 45 = .ok (.aload_n 0, 1) := by decide +kernel
theorem dX11_tick_46 : decode cX11_tick 46 = .ok (.getfield 60, 3) := by decide +kernel
theorem dX11_tick_49 : decode cX11_tick 49 = .ok (.sipush 1571, 3) := by decide +kernel
theorem dX11_tick_52 : decode cX11_tick 52 = .ok (.iaload, 1) := by decide +kernel
theorem dX11_tick_53 : decode cX11_tick 53 = .ok (.isub, 1) := by decide +kernel
theorem dX11_tick_54 : decode cX11_tick 54 = .ok (.ireturn, 1) := by decide +kernel
theorem dX11_move_0 : decode cX11_move 0 = .ok (.aload_n 0, 1) := by decide +kernel
theorem dX11_move_1 : decode cX11_move 1 = .ok (.iload_n 1, 1) := by decide +kernel
theorem dX11_move_2 : decode cX11_move 2 = .ok (.invokevirtual 280, 3) := by decide +kernel
theorem dX11_move_5 : decode cX11_move 5 = .ok (.ifCond .eq 7, 3) := by decide +kernel
theorem dX11_move_8 : decode cX11_move 8 = .ok (.iload_n 3, 1) := by decide +kernel
theorem dX11_move_9 : decode cX11_move 9 = .ok (.ifCond .ge 5, 3) := by decide +kernel
theorem dX11_move_12 : decode cX11_move 12 = .ok (.iconst (-1), 1) := by decide +kernel
theorem dX11_move_13 : decode cX11_move 13 = .ok (.ireturn, 1) := by decide +kernel
theorem dX11_move_14 : decode cX11_move 14 = .ok (.aload_n 0, 1) := by decide +kernel
theorem dX11_move_15 : decode cX11_move 15 = .ok (.invokevirtual 409, 3) := by decide +kernel
theorem dX11_move_18 : decode cX11_move 18 = .ok (.aload_n 0, 1) := by decide +kernel
theorem dX11_move_19 : decode cX11_move 19 = .ok (.aload_n 0, 1) := by decide +kernel
theorem dX11_move_20 : decode cX11_move 20 = .ok (.iload_n 1, 1) := by decide +kernel
theorem dX11_move_21 : decode cX11_move 21 = .ok (.iload_n 2, 1) := by decide +kernel
theorem dX11_move_22 : decode cX11_move 22 = .ok (.iload_n 3, 1) := by decide +kernel
theorem dX11_move_23 : decode cX11_move 23 = .ok (.invokevirtual 430, 3) := by decide +kernel
theorem dX11_move_26 : decode cX11_move 26 = .ok (.invokevirtual 415, 3) := by decide +kernel
theorem dX11_move_29 : decode cX11_move 29 = .ok (.ireturn, 1) := by decide +kernel
theorem dX11_unplug_0 : decode cX11_unplug 0 = .ok (.aload_n 0, 1) := by decide +kernel
theorem dX11_unplug_1 : decode cX11_unplug 1 = .ok (.iload_n 1, 1) := by decide +kernel
theorem dX11_unplug_2 : decode cX11_unplug 2 = .ok (.invokevirtual 433, 3) := by decide +kernel
theorem dX11_unplug_5 : decode cX11_unplug 5 = .ok (.ifCond .ne 5, 3) := by decide +kernel
theorem dX11_unplug_8 : decode cX11_unplug 8 = .ok (.iconst (-1), 1) := by decide +kernel
theorem dX11_unplug_9 : decode cX11_unplug 9 = .ok (.ireturn, 1) := by decide +kernel
theorem dX11_unplug_10 : decode cX11_unplug 10 = .ok (.aload_n 0, 1) := by decide +kernel
theorem dX11_unplug_11 : decode cX11_unplug 11 = .ok (.invokevirtual 409, 3) := by decide +kernel
theorem dX11_unplug_14 : decode cX11_unplug 14 = .ok (.aload_n 0, 1) := by decide +kernel
theorem dX11_unplug_15 : decode cX11_unplug 15 = .ok (.aload_n 0, 1) := by decide +kernel
theorem dX11_unplug_16 : decode cX11_unplug 16 = .ok (.iload_n 1, 1) := by decide +kernel
theorem dX11_unplug_17 : decode cX11_unplug 17 = .ok (.invokevirtual 436, 3) := by decide +kernel
theorem dX11_unplug_20 : decode cX11_unplug 20 = .ok (.invokevirtual 415, 3) := by decide +kernel
theorem dX11_unplug_23 : decode cX11_unplug 23 = .ok (.ireturn, 1) := by decide +kernel
theorem dX11_plug_0 : decode cX11_plug 0 = .ok (.aload_n 0, 1) := by decide +kernel
theorem dX11_plug_1 : decode cX11_plug 1 = .ok (.iload_n 1, 1) := by decide +kernel
theorem dX11_plug_2 : decode cX11_plug 2 = .ok (.invokevirtual 433, 3) := by decide +kernel
theorem dX11_plug_5 : decode cX11_plug 5 = .ok (.ifCond .ne 5, 3) := by decide +kernel
theorem dX11_plug_8 : decode cX11_plug 8 = .ok (.iconst (-1), 1) := by decide +kernel
theorem dX11_plug_9 : decode cX11_plug 9 = .ok (.ireturn, 1) := by decide +kernel
theorem dX11_plug_10 : decode cX11_plug 10 = .ok (.aload_n 0, 1) := by decide +kernel
theorem dX11_plug_11 : decode cX11_plug 11 = .ok (.invokevirtual 409, 3) := by decide +kernel
theorem dX11_plug_14 : decode cX11_plug 14 = .ok (.aload_n 0, 1) := by decide +kernel
theorem dX11_plug_15 : decode cX11_plug 15 = .ok (.aload_n 0, 1) := by decide +kernel
theorem dX11_plug_16 : decode cX11_plug 16 = .ok (.iload_n 1, 1) := by decide +kernel
theorem dX11_plug_17 : decode cX11_plug 17 = .ok (.invokevirtual 439, 3) := by decide +kernel
theorem dX11_plug_20 : decode cX11_plug 20 = .ok (.invokevirtual 415, 3) := by decide +kernel
theorem dX11_plug_23 : decode cX11_plug 23 = .ok (.ireturn, 1) := by decide +kernel
theorem dX11_knownDevice_0 : decode cX11_knownDevice 0 = .ok (.aload_n 0, 1) := by decide +kernel
theorem dX11_knownDevice_1 : decode cX11_knownDevice 1 = .ok (.invokevirtual 224, 3) := by decide +kernel
theorem dX11_knownDevice_4 : decode cX11_knownDevice 4 = .ok (.lstore_n 1, 1) := by decide +kernel
theorem dX11_knownDevice_5 : decode cX11_knownDevice 5 = .ok (.iconst (-1), 1) := by decide +kernel
theorem dX11_knownDevice_6 : decode cX11_knownDevice 6 = .ok (.istore_n 3, 1) := by decide +kernel
theorem dX11_knownDevice_7 : decode cX11_knownDevice 7 = .ok (.iconst 0, 1) := by decide +kernel
theorem dX11_knownDevice_8 : decode cX11_knownDevice 8 = .ok (.istore 4, 2) := by decide +kernel
theorem dX11_knownDevice_10 : decode cX11_knownDevice 10 = .ok (.iload 4, 2) := by decide +kernel
theorem dX11_knownDevice_12 : decode cX11_knownDevice 12 = .ok (.aload_n 0, 1) := by decide +kernel
theorem dX11_knownDevice_13 : decode cX11_knownDevice 13 = .ok (.getfield 252, 3) := by decide +kernel
theorem dX11_knownDevice_16 : decode cX11_knownDevice 16 = .ok (.if_icmp .ge 24, 3) := by decide +kernel
theorem dX11_knownDevice_19 : decode cX11_knownDevice 19 = .ok (.aload_n 0, 1) := by decide +kernel
theorem dX11_knownDevice_20 : decode cX11_knownDevice 20 = .ok (.getfield 48, 3) := by decide +kernel
theorem dX11_knownDevice_23 : decode cX11_knownDevice 23 = .ok (.iload 4, 2) := by decide +kernel
theorem dX11_knownDevice_25 : decode cX11_knownDevice 25 = .ok (.laload, 1) := by decide +kernel
theorem dX11_knownDevice_26 : decode cX11_knownDevice 26 = .ok (.lload_n 1, 1) := by decide +kernel
theorem dX11_knownDevice_27 : decode cX11_knownDevice 27 = .ok (.lcmp, 1) := by decide +kernel
theorem dX11_knownDevice_28 : decode cX11_knownDevice 28 = .ok (.ifCond .ne 6, 3) := by decide +kernel
theorem dX11_knownDevice_31 : decode cX11_knownDevice 31 = .ok (.iload 4, 2) := by decide +kernel
theorem dX11_knownDevice_33 : decode cX11_knownDevice 33 = .ok (.istore_n 3, 1) := by decide +kernel
theorem dX11_knownDevice_34 : decode cX11_knownDevice 34 = .ok (.iinc 4 1, 3) := by decide +kernel
theorem dX11_knownDevice_37 : decode cX11_knownDevice 37 = .ok (.goto (-27), 3) := by decide +kernel
theorem dX11_knownDevice_40 : decode cX11_knownDevice 40 = .ok (.aload_n 0, 1) := by decide +kernel
theorem dX11_knownDevice_41 : decode cX11_knownDevice 41 = .ok (.invokevirtual 182, 3) := by decide +kernel
theorem dX11_knownDevice_44 : decode cX11_knownDevice 44 = .ok (.ifCond .eq 13, 3) := by decide +kernel
theorem dX11_knownDevice_47 : decode cX11_knownDevice 47 = .ok (.iload_n 3, 1) := by decide +kernel
theorem dX11_knownDevice_48 : decode cX11_knownDevice 48 = .ok (.iconst (-1), 1) := by decide +kernel
theorem dX11_knownDevice_49 : decode cX11_knownDevice 49 = .ok (.if_icmp .ne 8, 3) := by decide +kernel
theorem dX11_knownDevice_52 : decode cX11_knownDevice 52 = .ok (.aload_n 0, 1) := by decide +kernel
theorem dX11_knownDevice_53 : decode cX11_knownDevice 53 = .ok (.iconst 3, 1) := by decide +kernel
theorem dX11_knownDevice_54 : decode cX11_knownDevice 54 = .ok (.invokevirtual 175, 3) := by decide +kernel
theorem dX11_knownDevice_57 : decode cX11_knownDevice 57 = .ok (.aload_n 0, 1) := by decide +kernel
theorem dX11_knownDevice_58 : decode cX11_knownDevice 58 = .ok (.invokevirtual 182, 3) := by decide +kernel
theorem dX11_knownDevice_61 : decode cX11_knownDevice 61 = .ok (.ifCond .eq 7, 3) := by decide +kernel
theorem dX11_knownDevice_64 : decode cX11_knownDevice 64 = .ok (.aload_n 0, 1) := by decide +kernel
theorem dX11_knownDevice_65 : decode cX11_knownDevice 65 = .ok (.invokevirtual 186, 3) := by decide +kernel
theorem dX11_knownDevice_68 : decode cX11_knownDevice 68 = .ok (.iload_n 3, 1) := by decide +kernel
theorem dX11_knownDevice_69 : decode cX11_knownDevice 69 = .ok (.ireturn, 1) := by decide +kernel
theorem dX11_readOrder_0 : decode cX11_readOrder 0 = .ok (.aload_n 0, 1) := by decide +kernel
theorem dX11_readOrder_1 : decode cX11_readOrder 1 = .ok (.invokevirtual 171, 3) := by decide +kernel
theorem dX11_readOrder_4 : decode cX11_readOrder 4 = .ok (.istore_n 1, 1) := by decide +kernel
theorem dX11_readOrder_5 : decode cX11_readOrder 5 = .ok (.iload_n 1, 1) := by decide +kernel
theorem dX11_readOrder_6 : decode cX11_readOrder 6 = .ok (.iconst (-1), 1) := by decide +kernel
theorem dX11_readOrder_7 : decode cX11_readOrder 7 = .ok (.if_icmp .ne 8, 3) := by decide +kernel
theorem dX11_readOrder_10 : decode cX11_readOrder 10 = .ok (.aload_n 0, 1) := by decide +kernel
theorem dX11_readOrder_11 : decode cX11_readOrder 11 = .ok (.iconst 2, 1) := by decide +kernel
theorem dX11_readOrder_12 : decode cX11_readOrder 12 = .ok (.invokevirtual 175, 3) := by decide +kernel
theorem dX11_readOrder_15 : decode cX11_readOrder 15 = .ok (.aload_n 0, 1) := by decide +kernel
theorem dX11_readOrder_16 : decode cX11_readOrder 16 = .ok (.invokevirtual 182, 3) := by decide +kernel
theorem dX11_readOrder_19 : decode cX11_readOrder 19 = .ok (.ifCond .eq 7, 3) := by decide +kernel
theorem dX11_readOrder_22 : decode cX11_readOrder 22 = .ok (.aload_n 0, 1) := by decide +kernel
theorem dX11_readOrder_23 : decode cX11_readOrder 23 = .ok (.invokevirtual 186, 3) := by decide +kernel
theorem dX11_readOrder_26 : decode cX11_readOrder 26 = .ok (.iconst 4, 1) := by decide +kernel
theorem dX11_readOrder_27 : decode cX11_readOrder 27 = .ok (.aload_n 0, 1) := by decide +kernel
theorem dX11_readOrder_28 : decode cX11_readOrder 28 = .ok (.getfield 442, 3) := by decide +kernel
theorem dX11_readOrder_31 : decode cX11_readOrder 31 = .ok (.imul, 1) := by decide +kernel
theorem dX11_readOrder_32 : decode cX11_readOrder 32 = .ok (.istore_n 2, 1) := by decide +kernel
theorem dX11_readOrder_33 : decode cX11_readOrder 33 = .ok (.aload_n 0, 1) := by decide +kernel
theorem dX11_readOrder_34 : decode cX11_readOrder 34 = .ok (.getfield 63, 3) := by decide +kernel
theorem dX11_readOrder_37 : decode cX11_readOrder 37 = .ok (.iload_n 2, 1) := by decide +kernel
theorem dX11_readOrder_38 : decode cX11_readOrder 38 = .ok (.iload_n 1, 1) := by decide +kernel
theorem dX11_readOrder_39 : decode cX11_readOrder 39 = .ok (.iastore, 1) := by decide +kernel
theorem dX11_readOrder_40 : decode cX11_readOrder 40 = .ok (.aload_n 0, 1) := by decide +kernel
theorem dX11_readOrder_41 : decode cX11_readOrder 41 = .ok (.getfield 63, 3) := by decide +kernel
theorem dX11_readOrder_44 : decode cX11_readOrder 44 = .ok (.iload_n 2, 1) := by decide +kernel
theorem dX11_readOrder_45 : decode cX11_readOrder 45 = .ok (.iconst 1, 1) := by decide +kernel
theorem dX11_readOrder_46 : decode cX11_readOrder 46 = .ok (.iadd, 1) := by decide +kernel
theorem dX11_readOrder_47 : decode cX11_readOrder 47 = .ok (.iconst (-1), 1) := by decide +kernel
theorem dX11_readOrder_48 : decode cX11_readOrder 48 = .ok (.iastore, 1) := by decide +kernel
theorem dX11_readOrder_49 : decode cX11_readOrder 49 = .ok (.aload_n 0, 1) := by decide +kernel
theorem dX11_readOrder_50 : decode cX11_readOrder 50 = .ok (.getfield 63, 3) := by decide +kernel
theorem dX11_readOrder_53 : decode cX11_readOrder 53 = .ok (.iload_n 2, 1) := by decide +kernel
theorem dX11_readOrder_54 : decode cX11_readOrder 54 = .ok (.iconst 2, 1) := by decide +kernel
theorem dX11_readOrder_55 : decode cX11_readOrder 55 = .ok (.iadd, 1) := by decide +kernel
theorem dX11_readOrder_56 : decode cX11_readOrder 56 = .ok (.iconst (-1), 1) := by decide +kernel
theorem dX11_readOrder_57 : decode cX11_readOrder 57 = .ok (.iastore, 1) := by decide +kernel
theorem dX11_readOrder_58 : decode cX11_readOrder 58 = .ok (.aload_n 0, 1) := by decide +kernel
theorem dX11_readOrder_59 : decode cX11_readOrder 59 = .ok (.getfield 63, 3) := by decide +kernel
theorem dX11_readOrder_62 : decode cX11_readOrder 62 = .ok (.iload_n 2, 1) := by decide +kernel
theorem dX11_readOrder_63 : decode cX11_readOrder 63 = .ok (.iconst 3, 1) := by decide +kernel
theorem dX11_readOrder_64 : decode cX11_readOrder 64 = .ok (.iadd, 1) := by decide +kernel
theorem dX11_readOrder_65 : decode cX11_readOrder 65 = .ok (.iconst 0, 1) := by decide +kernel
theorem dX11_readOrder_66 : decode cX11_readOrder 66 = .ok (.iastore, 1) := by decide +kernel
theorem dX11_readOrder_67 : decode cX11_readOrder 67 = .ok (.iload_n 1, 1) := by decide +kernel
theorem dX11_readOrder_68 : decode cX11_readOrder 68 = .ok (.bipush 6, 2) := by decide +kernel
theorem dX11_readOrder_70 : decode cX11_readOrder 70 = .ok (.if_icmp .ge 22, 3) := by decide +kernel
theorem dX11_readOrder_73 : decode cX11_readOrder 73 = .ok (.aload_n 0, 1) := by decide +kernel
theorem dX11_readOrder_74 : decode cX11_readOrder 74 = .ok (.invokevirtual 182, 3) := by decide +kernel
theorem dX11_readOrder_77 : decode cX11_readOrder 77 = .ok (.ifCond .eq 15, 3) := by decide +kernel
theorem dX11_readOrder_80 : decode cX11_readOrder 80 = .ok (.aload_n 0, 1) := by decide +kernel
theorem dX11_readOrder_81 : decode cX11_readOrder 81 = .ok (.getfield 63, 3) := by decide +kernel
theorem dX11_readOrder_84 : decode cX11_readOrder 84 = .ok (.iload_n 2, 1) := by decide +kernel
theorem dX11_readOrder_85 : decode cX11_readOrder 85 = .ok (.iconst 1, 1) := by decide +kernel
theorem dX11_readOrder_86 : decode cX11_readOrder 86 = .ok (.iadd, 1) := by decide +kernel
theorem dX11_readOrder_87 : decode cX11_readOrder 87 = .ok (.aload_n 0, 1) := by decide +kernel
theorem dX11_readOrder_88 : decode cX11_readOrder 88 = .ok (.invokevirtual 445, 3) := by decide +kernel
theorem dX11_readOrder_91 : decode cX11_readOrder 91 = .ok (.iastore, 1) := by decide +kernel
theorem dX11_readOrder_92 : decode cX11_readOrder 92 = .ok (.iload_n 1, 1) := by decide +kernel
theorem dX11_readOrder_93 : decode cX11_readOrder 93 = .ok (.iconst 3, 1) := by decide +kernel
theorem dX11_readOrder_94 : decode cX11_readOrder 94 = .ok (.iconst 5, 1) := by decide +kernel
theorem dX11_readOrder_95 : decode cX11_readOrder 95 = .ok (.invokestatic 89, 3) := by decide +kernel
theorem dX11_readOrder_98 : decode cX11_readOrder 98 = .ok (.ifCond .eq 18, 3) := by decide +kernel
theorem dX11_readOrder_101 : decode cX11_readOrder 101 = .ok (.aload_n 0, 1) := by decide +kernel
theorem dX11_readOrder_102 : decode cX11_readOrder 102 = .ok (.getfield 63, 3) := by decide +kernel
theorem dX11_readOrder_105 : decode cX11_readOrder 105 = .ok (.iload_n 2, 1) := by decide +kernel
theorem dX11_readOrder_106 : decode cX11_readOrder 106 = .ok (.iconst 2, 1) := by decide +kernel
theorem dX11_readOrder_107 : decode cX11_readOrder 107 = .ok (.iadd, 1) := by decide +kernel
theorem dX11_readOrder_108 : decode cX11_readOrder 108 = .ok (.aload_n 0, 1) := by decide +kernel
theorem dX11_readOrder_109 : decode cX11_readOrder 109 = .ok (.iconst 0, 1) := by decide +kernel
theorem dX11_readOrder_110 : decode cX11_readOrder 110 = .ok (.bipush 7, 2) := by decide +kernel
theorem dX11_readOrder_112 : decode cX11_readOrder 112 = .ok (.invokevirtual 221, 3) := by decide +kernel
theorem dX11_readOrder_115 : decode cX11_readOrder 115 = .ok (.iastore, 1) := by decide +kernel
theorem dX11_readOrder_116 : decode cX11_readOrder 116 = .ok (.iload_n 1, 1) := by decide +kernel
theorem dX11_readOrder_117 : decode cX11_readOrder 117 = .ok (.iconst 5, 1) := by decide +kernel
theorem dX11_readOrder_118 : decode cX11_readOrder 118 = .ok (.if_icmp .ne 46, 3) := by decide +kernel
theorem dX11_readOrder_121 : decode cX11_readOrder 121 = .ok (.aload_n 0, 1) := by decide +kernel
theorem dX11_readOrder_122 : decode cX11_readOrder 122 = .ok (.ldc2_w 169, 3) := by decide +kernel
theorem dX11_readOrder_125 : decode cX11_readOrder 125 = .ok (.invokevirtual 131, 3) := by decide +kernel
theorem dX11_readOrder_128 : decode cX11_readOrder 128 = .ok (.ifCond .ne 8, 3) := by decide +kernel
theorem dX11_readOrder_131 : decode cX11_readOrder 131 = .ok (.aload_n 0, 1) := by decide +kernel
theorem dX11_readOrder_132 : decode cX11_readOrder 132 = .ok (.iconst 2, 1) := by decide +kernel
theorem dX11_readOrder_133 : decode cX11_readOrder 133 = .ok (.invokevirtual 175, 3) := by decide +kernel
theorem dX11_readOrder_136 : decode cX11_readOrder 136 = .ok (.aload_n 0, 1) := by decide +kernel
theorem dX11_readOrder_137 : decode cX11_readOrder 137 = .ok (.invokevirtual 182, 3) := by decide +kernel
theorem dX11_readOrder_140 : decode cX11_readOrder 140 = .ok (.ifCond .eq 7, 3) := by decide +kernel
theorem dX11_readOrder_143 : decode cX11_readOrder 143 = .ok (.aload_n 0, 1) := by decide +kernel
theorem dX11_readOrder_144 : decode cX11_readOrder 144 = .ok (.invokevirtual 186, 3) := by decide +kernel
theorem dX11_readOrder_147 : decode cX11_readOrder 147 = .ok (.aload_n 0, 1) := by decide +kernel
theorem dX11_readOrder_148 : decode cX11_readOrder 148 = .ok (.getfield 63, 3) := by decide +kernel
theorem dX11_readOrder_151 : decode cX11_readOrder 151 = .ok (.iload_n 2, 1) := by decide +kernel
theorem dX11_readOrder_152 : decode cX11_readOrder 152 = .ok (.iconst 3, 1) := by decide +kernel
theorem dX11_readOrder_153 : decode cX11_readOrder 153 = .ok (.iadd, 1) := by decide +kernel
theorem dX11_readOrder_154 : decode cX11_readOrder 154 = .ok (.aload_n 0, 1) := by decide +kernel
theorem dX11_readOrder_155 : decode cX11_readOrder 155 = .ok (.aload_n 0, 1) := by decide +kernel
theorem dX11_readOrder_156 : decode cX11_readOrder 156 = .ok (.getfield 240, 3) := by decide +kernel
theorem dX11_readOrder_159 : decode cX11_readOrder 159 = .ok (.iconst 0, 1) := by decide +kernel
theorem dX11_readOrder_160 : decode cX11_readOrder 160 = .ok (.invokevirtual 228, 3) := by decide +kernel
theorem dX11_readOrder_163 : decode cX11_readOrder 163 = .ok (.iastore, 1) := by decide +kernel
theorem dX11_readOrder_164 : decode cX11_readOrder 164 = .ok (.iload_n 1, 1) := by decide +kernel
theorem dX11_readOrder_165 : decode cX11_readOrder 165 = .ok (.bipush 6, 2) := by decide +kernel
theorem dX11_readOrder_167 : decode cX11_readOrder 167 = .ok (.if_icmp .ne 18, 3) := by decide +kernel
theorem dX11_readOrder_170 : decode cX11_readOrder 170 = .ok (.aload_n 0, 1) := by decide +kernel
theorem dX11_readOrder_171 : decode cX11_readOrder 171 = .ok (.getfield 63, 3) := by decide +kernel
theorem dX11_readOrder_174 : decode cX11_readOrder 174 = .ok (.iload_n 2, 1) := by decide +kernel
theorem dX11_readOrder_175 : decode cX11_readOrder 175 = .ok (.iconst 2, 1) := by decide +kernel
theorem dX11_readOrder_176 : decode cX11_readOrder 176 = .ok (.iadd, 1) := by decide +kernel
theorem dX11_readOrder_177 : decode cX11_readOrder 177 = .ok (.aload_n 0, 1) := by decide +kernel
theorem dX11_readOrder_178 : decode cX11_readOrder 178 = .ok (.iconst 1, 1) := by decide +kernel
theorem dX11_readOrder_179 : decode cX11_readOrder 179 = .ok (.bipush 100, 2) := by decide +kernel
theorem dX11_readOrder_181 : decode cX11_readOrder 181 = .ok (.invokevirtual 221, 3) := by decide +kernel
theorem dX11_readOrder_184 : decode cX11_readOrder 184 = .ok (.iastore, 1) := by decide +kernel
theorem dX11_readOrder_185 : decode cX11_readOrder 185 = .ok (.iload_n 1, 1) := by decide +kernel
theorem dX11_readOrder_186 : decode cX11_readOrder 186 = .ok (.bipush 6, 2) := by decide +kernel
theorem dX11_readOrder_188 : decode cX11_readOrder 188 = .ok (.if_icmp .le 22, 3) := by decide +kernel
theorem dX11_readOrder_191 : decode cX11_readOrder 191 = .ok (.aload_n 0, 1) := by decide +kernel
theorem dX11_readOrder_192 : decode cX11_readOrder 192 = .ok (.getfield 63, 3) := by decide +kernel
theorem dX11_readOrder_195 : decode cX11_readOrder 195 = .ok (.iload_n 2, 1) := by decide +kernel
theorem dX11_readOrder_196 : decode cX11_readOrder 196 = .ok (.iconst 2, 1) := by decide +kernel
theorem dX11_readOrder_197 : decode cX11_readOrder 197 = .ok (.iadd, 1) := by decide +kernel
theorem dX11_readOrder_198 : decode cX11_readOrder 198 = .ok (.aload_n 0, 1) := by decide +kernel
theorem dX11_readOrder_199 : decode cX11_readOrder 199 = .ok (.iconst 0, 1) := by decide +kernel
theorem dX11_readOrder_200 : decode cX11_readOrder 200 = .ok (.aload_n 0, 1) := by decide +kernel
theorem dX11_readOrder_201 : decode cX11_readOrder 201 = .ok (.getfield 240, 3) := by decide +kernel
theorem dX11_readOrder_204 : decode cX11_readOrder 204 = .ok (.iconst 1, 1) := by decide +kernel
theorem dX11_readOrder_205 : decode cX11_readOrder 205 = .ok (.isub, 1) := by decide +kernel
theorem dX11_readOrder_206 : decode cX11_readOrder 206 = .ok (.invokevirtual 221, 3) := by decide +kernel
theorem dX11_readOrder_209 : decode cX11_readOrder 209 = .ok (.iastore, 1) := by decide +kernel
theorem dX11_readOrder_210 : decode cX11_readOrder 210 = .ok (.aload_n 0, 1) := by decide +kernel
theorem dX11_readOrder_211 : decode cX11_readOrder 211 = .ok (.invokevirtual 182, 3) := by decide +kernel
theorem dX11_readOrder_214 : decode cX11_readOrder 214 = .ok (.ifCond .eq 16, 3) := by decide +kernel
theorem dX11_readOrder_217 : decode cX11_readOrder 217 = .ok (.aload_n 0, 1) := by decide +kernel
theorem dX11_readOrder_218 : decode cX11_readOrder 218 = .ok (.getfield 116, 3) := by decide +kernel
theorem dX11_readOrder_221 : decode cX11_readOrder 221 = .ok (.iconst 3, 1) := by decide +kernel
theorem dX11_readOrder_222 : decode cX11_readOrder 222 = .ok (.if_icmp .eq 8, 3) := by decide +kernel
theorem dX11_readOrder_225 : decode cX11_readOrder 225 = .ok (.aload_n 0, 1) := by decide +kernel
theorem dX11_readOrder_226 : decode cX11_readOrder 226 = .ok (.iconst 2, 1) := by decide +kernel
theorem dX11_readOrder_227 : decode cX11_readOrder 227 = .ok (.invokevirtual 175, 3) := by decide +kernel
theorem dX11_readOrder_230 : decode cX11_readOrder 230 = .ok (.aload_n 0, 1) := by decide +kernel
theorem dX11_readOrder_231 : decode cX11_readOrder 231 = .ok (.invokevirtual 182, 3) := by decide +kernel
theorem dX11_readOrder_234 : decode cX11_readOrder 234 = .ok (.ifCond .eq 7, 3) := by decide +kernel
theorem dX11_readOrder_237 : decode cX11_readOrder 237 = .ok (.aload_n 0, 1) := by decide +kernel
theorem dX11_readOrder_238 : decode cX11_readOrder 238 = .ok (.invokevirtual 186, 3) := by decide +kernel
theorem dX11_readOrder_241 : decode cX11_readOrder 241 = .ok (.aload_n 0, 1) := by decide +kernel
theorem dX11_readOrder_242 : decode cX11_readOrder 242 = .ok (.dup, 1) := by decide +kernel
theorem dX11_readOrder_243 : decode cX11_readOrder 243 = .ok (.getfield 442, 3) := by decide +kernel
theorem dX11_readOrder_246 : decode cX11_readOrder 246 = .ok (.iconst 1, 1) := by decide +kernel
theorem dX11_readOrder_247 : decode cX11_readOrder 247 = .ok (.iadd, 1) := by decide +kernel
theorem dX11_readOrder_248 : decode cX11_readOrder 248 = .ok (.putfield 442, 3) := by decide +kernel
theorem dX11_readOrder_251 : decode cX11_readOrder 251 = .ok (.return_, 1) := by decide +kernel
theorem dX11_doesTicks_0 : decode cX11_doesTicks 0 = .ok (.iconst 0, 1) := by decide +kernel
theorem dX11_doesTicks_1 : decode cX11_doesTicks 1 = .ok (.istore_n 2, 1) := by decide +kernel
theorem dX11_doesTicks_2 : decode cX11_doesTicks 2 = .ok (.iload_n 2, 1) := by decide +kernel
theorem dX11_doesTicks_3 : decode cX11_doesTicks 3 = .ok (.iload_n 1, 1) := by decide +kernel
theorem dX11_doesTicks_4 : decode cX11_doesTicks 4 = .ok (.if_icmp .ge 13, 3) := by decide +kernel
theorem dX11_doesTicks_7 : decode cX11_doesTicks 7 = .ok (.aload_n 0, 1) := by decide +kernel
theorem dX11_doesTicks_8 : decode cX11_doesTicks 8 = .ok (.invokevirtual 427, 3) := by decide +kernel
theorem dX11_doesTicks_11 : decode cX11_doesTicks 11 = .ok (.iinc 2 1, 3) := by decide +kernel
theorem dX11_doesTicks_14 : decode cX11_doesTicks 14 = .ok (.goto (-12), 3) := by decide +kernel
theorem dX11_doesTicks_17 : decode cX11_doesTicks 17 = .ok (.iconst 0, 1) := by decide +kernel
theorem dX11_doesTicks_18 : decode cX11_doesTicks 18 = .ok (.ireturn, 1) := by decide +kernel
theorem dX11_stopsOr_0 : decode cX11_stopsOr 0 = .ok (.aload_n 0, 1) := by decide +kernel
theorem dX11_stopsOr_1 : decode cX11_stopsOr 1 = .ok (.iload_n 1, 1) := by decide +kernel
theorem dX11_stopsOr_2 : decode cX11_stopsOr 2 = .ok (.invokevirtual 283, 3) := by decide +kernel
theorem dX11_stopsOr_5 : decode cX11_stopsOr 5 = .ok (.ifCond .ne 5, 3) := by decide +kernel
theorem dX11_stopsOr_8 : decode cX11_stopsOr 8 = .ok (.iconst 4, 1) := by decide +kernel
theorem dX11_stopsOr_9 : decode cX11_stopsOr 9 = .ok (.ireturn, 1) := by decide +kernel
theorem dX11_stopsOr_10 : decode cX11_stopsOr 10 = .ok (.aload_n 0, 1) := by decide +kernel
theorem dX11_stopsOr_11 : decode cX11_stopsOr 11 = .ok (.iload_n 1, 1) := by decide +kernel
theorem dX11_stopsOr_12 : decode cX11_stopsOr 12 = .ok (.invokevirtual 417, 3) := by decide +kernel
theorem dX11_stopsOr_15 : decode cX11_stopsOr 15 = .ok (.istore_n 2, 1) := by decide +kernel
theorem dX11_stopsOr_16 : decode cX11_stopsOr 16 = .ok (.iconst 0, 1) := by decide +kernel
theorem dX11_stopsOr_17 : decode cX11_stopsOr 17 = .ok (.ireturn, 1) := by decide +kernel
theorem dX11_raisesOr_0 : decode cX11_raisesOr 0 = .ok (.aload_n 0, 1) := by decide +kernel
theorem dX11_raisesOr_1 : decode cX11_raisesOr 1 = .ok (.iload_n 1, 1) := by decide +kernel
theorem dX11_raisesOr_2 : decode cX11_raisesOr 2 = .ok (.iload_n 2, 1) := by decide +kernel
theorem dX11_raisesOr_3 : decode cX11_raisesOr 3 = .ok (.invokevirtual 378, 3) := by decide +kernel
theorem dX11_raisesOr_6 : decode cX11_raisesOr 6 = .ok (.ifCond .ne 5, 3) := by decide +kernel
theorem dX11_raisesOr_9 : decode cX11_raisesOr 9 = .ok (.iconst 4, 1) := by decide +kernel
theorem dX11_raisesOr_10 : decode cX11_raisesOr 10 = .ok (.ireturn, 1) := by decide +kernel
theorem dX11_raisesOr_11 : decode cX11_raisesOr 11 = .ok (.aload_n 0, 1) := by decide +kernel
theorem dX11_raisesOr_12 : decode cX11_raisesOr 12 = .ok (.iload_n 1, 1) := by decide +kernel
theorem dX11_raisesOr_13 : decode cX11_raisesOr 13 = .ok (.iload_n 2, 1) := by decide +kernel
theorem dX11_raisesOr_14 : decode cX11_raisesOr 14 = .ok (.iload_n 3, 1) := by decide +kernel
theorem dX11_raisesOr_15 : decode cX11_raisesOr 15 = .ok (.invokevirtual 423, 3) := by decide +kernel
theorem dX11_raisesOr_18 : decode cX11_raisesOr 18 = .ok (.istore 4, 2) := by decide +kernel
theorem dX11_raisesOr_20 : decode cX11_raisesOr 20 = .ok (.iconst 0, 1) := by decide +kernel
theorem dX11_raisesOr_21 : decode cX11_raisesOr 21 = .ok (.ireturn, 1) := by decide +kernel
theorem dX11_does_0 : decode cX11_does 0 = .ok (.aload_n 0, 1) := by decide +kernel
theorem dX11_does_1 : decode cX11_does 1 = .ok (.getfield 63, 3) := by decide +kernel
theorem dX11_does_4 : decode cX11_does 4 = .ok (.iload_n 1, 1) := by decide +kernel
theorem dX11_does_5 : decode cX11_does 5 = .ok (.iconst 1, 1) := by decide +kernel
theorem dX11_does_6 : decode cX11_does 6 = .ok (.iadd, 1) := by decide +kernel
theorem dX11_does_7 : decode cX11_does 7 = .ok (.iaload, 1) := by decide +kernel
theorem dX11_does_8 : decode cX11_does 8 = .ok (.istore_n 2, 1) := by decide +kernel
theorem dX11_does_9 : decode cX11_does 9 = .ok (.aload_n 0, 1) := by decide +kernel
theorem dX11_does_10 : decode cX11_does 10 = .ok (.getfield 63, 3) := by decide +kernel
theorem dX11_does_13 : decode cX11_does 13 = .ok (.iload_n 1, 1) := by decide +kernel
theorem dX11_does_14 : decode cX11_does 14 = .ok (.iconst 2, 1) := by decide +kernel
theorem dX11_does_15 : decode cX11_does 15 = .ok (.iadd, 1) := by decide +kernel
theorem dX11_does_16 : decode cX11_does 16 = .ok (.iaload, 1) := by decide +kernel
theorem dX11_does_17 : decode cX11_does 17 = .ok (.istore_n 3, 1) := by decide +kernel
theorem dX11_does_18 : decode cX11_does 18 = .ok (.aload_n 0, 1) := by decide +kernel
theorem dX11_does_19 : decode cX11_does 19 = .ok (.getfield 63, 3) := by decide +kernel
theorem dX11_does_22 : decode cX11_does 22 = .ok (.iload_n 1, 1) := by decide +kernel
theorem dX11_does_23 : decode cX11_does 23 = .ok (.iaload, 1) := by decide +kernel
theorem dX11_does_24 : decode cX11_does 24 = .ok (.tableswitch 109 0 7 #[48, 54, 60, 66, 74, 82, 97, 103], 48) := by decide +kernel
theorem dX11_does_72 : decode cX11_does 72 = .ok (.aload_n 0, 1) := by decide +kernel
theorem dX11_does_73 : decode cX11_does 73 = .ok (.iload_n 2, 1) := by decide +kernel
theorem dX11_does_74 : decode cX11_does 74 = .ok (.invokevirtual 412, 3) := by decide +kernel
theorem dX11_does_77 : decode cX11_does 77 = .ok (.ireturn, 1) := by decide +kernel
theorem dX11_does_78 : decode cX11_does 78 = .ok (.aload_n 0, 1) := by decide +kernel
theorem dX11_does_79 : decode cX11_does 79 = .ok (.iload_n 2, 1) := by decide +kernel
theorem dX11_does_80 : decode cX11_does 80 = .ok (.invokevirtual 448, 3) := by decide +kernel
theorem dX11_does_83 : decode cX11_does 83 = .ok (.ireturn, 1) := by decide +kernel
theorem dX11_does_84 : decode cX11_does 84 = .ok (.aload_n 0, 1) := by decide +kernel
theorem dX11_does_85 : decode cX11_does 85 = .ok (.iload_n 2, 1) := by decide +kernel
theorem dX11_does_86 : decode cX11_does 86 = .ok (.invokevirtual 420, 3) := by decide +kernel
theorem dX11_does_89 : decode cX11_does 89 = .ok (.ireturn, 1) := by decide +kernel
theorem dX11_does_90 : decode cX11_does 90 = .ok (.aload_n 0, 1) := by decide +kernel
theorem dX11_does_91 : decode cX11_does 91 = .ok (.iload_n 2, 1) := by decide +kernel
theorem dX11_does_92 : decode cX11_does 92 = .ok (.iload_n 3, 1) := by decide +kernel
theorem dX11_does_93 : decode cX11_does 93 = .ok (.iconst 0, 1) := by decide +kernel
theorem dX11_does_94 : decode cX11_does 94 = .ok (.invokevirtual 451, 3) := by decide +kernel
theorem dX11_does_97 : decode cX11_does 97 = .ok (.ireturn, 1) := by decide +kernel
theorem dX11_does_98 : decode cX11_does 98 = .ok (.aload_n 0, 1) := by decide +kernel
theorem dX11_does_99 : decode cX11_does 99 = .ok (.iload_n 2, 1) := by decide +kernel
theorem dX11_does_100 : decode cX11_does 100 = .ok (.iload_n 3, 1) := by decide +kernel
theorem dX11_does_101 : decode cX11_does 101 = .ok (.iconst 1, 1) := by decide +kernel
theorem dX11_does_102 : decode cX11_does 102 = .ok (.invokevirtual 451, 3) := by decide +kernel
theorem dX11_does_105 : decode cX11_does 105 = .ok (.ireturn, 1) := by decide +kernel
theorem dX11_does_106 : decode cX11_does 106 = .ok (.aload_n 0, 1) := by decide +kernel
theorem dX11_does_107 : decode cX11_does 107 = .ok (.iload_n 2, 1) := by decide +kernel
theorem dX11_does_108 : decode cX11_does 108 = .ok (.iload_n 3, 1) := by decide +kernel
theorem dX11_does_109 : decode cX11_does 109 = .ok (.aload_n 0, 1) := by decide +kernel
theorem dX11_does_110 : decode cX11_does 110 = .ok (.getfield 63, 3) := by decide +kernel
theorem dX11_does_113 : decode cX11_does 113 = .ok (.iload_n 1, 1) := by decide +kernel
theorem dX11_does_114 : decode cX11_does 114 = .ok (.iconst 3, 1) := by decide +kernel
theorem dX11_does_115 : decode cX11_does 115 = .ok (.iadd, 1) := by decide +kernel
theorem dX11_does_116 : decode cX11_does 116 = .ok (.iaload, 1) := by decide +kernel
theorem dX11_does_117 : decode cX11_does 117 = .ok (.invokevirtual 430, 3) := by decide +kernel
theorem dX11_does_120 : decode cX11_does 120 = .ok (.ireturn, 1) := by decide +kernel
theorem dX11_does_121 : decode cX11_does 121 = .ok (.aload_n 0, 1) := by decide +kernel
theorem dX11_does_122 : decode cX11_does 122 = .ok (.iload_n 3, 1) := by decide +kernel
theorem dX11_does_123 : decode cX11_does 123 = .ok (.invokevirtual 454, 3) := by decide +kernel
theorem dX11_does_126 : decode cX11_does 126 = .ok (.ireturn, 1) := by decide +kernel
theorem dX11_does_127 : decode cX11_does 127 = .ok (.aload_n 0, 1) := by decide +kernel
theorem dX11_does_128 : decode cX11_does 128 = .ok (.iload_n 3, 1) := by decide +kernel
theorem dX11_does_129 : decode cX11_does 129 = .ok (.invokevirtual 439, 3) := by decide +kernel
theorem dX11_does_132 : decode cX11_does 132 = .ok (.ireturn, 1) := by decide +kernel
theorem dX11_does_133 : decode cX11_does 133 = .ok (.aload_n 0, 1) := by decide +kernel
theorem dX11_does_134 : decode cX11_does 134 = .ok (.iload_n 3, 1) := by decide +kernel
theorem dX11_does_135 : decode cX11_does 135 = .ok (.invokevirtual 436, 3) := by decide +kernel
theorem dX11_does_138 : decode cX11_does 138 = .ok (.ireturn, 1) := by decide +kernel
theorem dX11_orders_0 : decode cX11_orders 0 = .ok (.aload_n 0, 1) := by decide +kernel
theorem dX11_orders_1 : decode cX11_orders 1 = .ok (.invokevirtual 271, 3) := by decide +kernel
theorem dX11_orders_4 : decode cX11_orders 4 = .ok (.aload_n 0, 1) := by decide +kernel
theorem dX11_orders_5 : decode cX11_orders 5 = .ok (.iconst 0, 1) := by decide +kernel
theorem dX11_orders_6 : decode cX11_orders 6 = .ok (.putfield 442, 3) := by decide +kernel
theorem dX11_orders_9 : decode cX11_orders 9 = .ok (.aload_n 0, 1) := by decide +kernel
theorem dX11_orders_10 : decode cX11_orders 10 = .ok (.iconst 0, 1) := by decide +kernel
theorem dX11_orders_11 : decode cX11_orders 11 = .ok (.putfield 265, 3) := by decide +kernel
theorem dX11_orders_14 : decode cX11_orders 14 = .ok (.aload_n 0, 1) := by decide +kernel
theorem dX11_orders_15 : decode cX11_orders 15 = .ok (.invokevirtual 182, 3) := by decide +kernel
theorem dX11_orders_18 : decode cX11_orders 18 = .ok (.ifCond .eq 17, 3) := by decide +kernel
theorem dX11_orders_21 : decode cX11_orders 21 = .ok (.aload_n 0, 1) := by decide +kernel
theorem dX11_orders_22 : decode cX11_orders 22 = .ok (.getfield 116, 3) := by decide +kernel
theorem dX11_orders_25 : decode cX11_orders 25 = .ok (.ifCond .eq 10, 3) := by decide +kernel
theorem dX11_orders_28 : decode cX11_orders 28 = .ok (.aload_n 0, 1) := by decide +kernel
theorem dX11_orders_29 : decode cX11_orders 29 = .ok (.invokevirtual 457, 3) := by decide +kernel
theorem dX11_orders_32 : decode cX11_orders 32 = .ok (.goto (-18), 3) := by decide +kernel
theorem dX11_orders_35 : decode cX11_orders 35 = .ok (.aload_n 0, 1) := by decide +kernel
theorem dX11_orders_36 : decode cX11_orders 36 = .ok (.invokevirtual 277, 3) := by decide +kernel
theorem dX11_orders_39 : decode cX11_orders 39 = .ok (.ifCond .ne 5, 3) := by decide +kernel
theorem dX11_orders_42 : decode cX11_orders 42 = .ok (.iconst (-1), 1) := by decide +kernel
theorem dX11_orders_43 : decode cX11_orders 43 = .ok (.ireturn, 1) := by decide +kernel
theorem dX11_orders_44 : decode cX11_orders 44 = .ok (.aload_n 0, 1) := by decide +kernel
theorem dX11_orders_45 : decode cX11_orders 45 = .ok (.invokevirtual 409, 3) := by decide +kernel
theorem dX11_orders_48 : decode cX11_orders 48 = .ok (.iconst 0, 1) := by decide +kernel
theorem dX11_orders_49 : decode cX11_orders 49 = .ok (.istore_n 1, 1) := by decide +kernel
theorem dX11_orders_50 : decode cX11_orders 50 = .ok (.iload_n 1, 1) := by decide +kernel
theorem dX11_orders_51 : decode cX11_orders 51 = .ok (.aload_n 0, 1) := by decide +kernel
theorem dX11_orders_52 : decode cX11_orders 52 = .ok (.getfield 442, 3) := by decide +kernel
theorem dX11_orders_55 : decode cX11_orders 55 = .ok (.if_icmp .ge 42, 3) := by decide +kernel
theorem dX11_orders_58 : decode cX11_orders 58 = .ok (.aload_n 0, 1) := by decide +kernel
theorem dX11_orders_59 : decode cX11_orders 59 = .ok (.getfield 265, 3) := by decide +kernel
theorem dX11_orders_62 : decode cX11_orders 62 = .ok (.ifCond .ne 35, 3) := by decide +kernel
theorem dX11_orders_65 : decode cX11_orders 65 = .ok (.aload_n 0, 1) := by decide +kernel
theorem dX11_orders_66 : decode cX11_orders 66 = .ok (.aload_n 0, 1) := by decide +kernel
theorem dX11_orders_67 : decode cX11_orders 67 = .ok (.iconst 4, 1) := by decide +kernel
theorem dX11_orders_68 : decode cX11_orders 68 = .ok (.iload_n 1, 1) := by decide +kernel
theorem dX11_orders_69 : decode cX11_orders 69 = .ok (.imul, 1) := by decide +kernel
theorem dX11_orders_70 : decode cX11_orders 70 = .ok (.invokevirtual 460, 3) := by decide +kernel
theorem dX11_orders_73 : decode cX11_orders 73 = .ok (.putfield 265, 3) := by decide +kernel
theorem dX11_orders_76 : decode cX11_orders 76 = .ok (.iload_n 1, 1) := by decide +kernel
theorem dX11_orders_77 : decode cX11_orders 77 = .ok (.aload_n 0, 1) := by decide +kernel
theorem dX11_orders_78 : decode cX11_orders 78 = .ok (.getfield 265, 3) := by decide +kernel
theorem dX11_orders_81 : decode cX11_orders 81 = .ok (.ifCond .ne 7, 3) := by decide +kernel
theorem dX11_orders_84 : decode cX11_orders 84 = .ok (.iconst 1, 1) := by decide +kernel
theorem dX11_orders_85 : decode cX11_orders 85 = .ok (.goto 4, 3) := by decide +kernel
theorem dX11_orders_88 : decode cX11_orders 88 = .ok (.iconst 0, 1) := by decide +kernel
theorem dX11_orders_89 : decode cX11_orders 89 = .ok (.invokestatic 255, 3) := by decide +kernel
theorem dX11_orders_92 : decode cX11_orders 92 = .ok (.iadd, 1) := by decide +kernel
theorem dX11_orders_93 : decode cX11_orders 93 = .ok (.istore_n 1, 1) := by decide +kernel
theorem dX11_orders_94 : decode cX11_orders 94 = .ok (.goto (-44), 3) := by decide +kernel
theorem dX11_orders_97 : decode cX11_orders 97 = .ok (.iload_n 1, 1) := by decide +kernel
theorem dX11_orders_98 : decode cX11_orders 98 = .ok (.ifCond .le 7, 3) := by decide +kernel
theorem dX11_orders_101 : decode cX11_orders 101 = .ok (.aload_n 0, 1) := by decide +kernel
theorem dX11_orders_102 : decode cX11_orders 102 = .ok (.invokevirtual 406, 3) := by decide +kernel
theorem dX11_orders_105 : decode cX11_orders 105 = .ok (.iload_n 1, 1) := by decide +kernel
theorem dX11_orders_106 : decode cX11_orders 106 = .ok (.ireturn, 1) := by decide +kernel
theorem dX11_refused_0 : decode cX11_refused 0 = .ok (.aload_n 0, 1) := by decide +kernel
theorem dX11_refused_1 : decode cX11_refused 1 = .ok (.getfield 265, 3) := by decide +kernel
theorem dX11_refused_4 : decode cX11_refused 4 = .ok (.ireturn, 1) := by decide +kernel
theorem dX11_greatestBlock_0 : decode cX11_greatestBlock 0 = .ok (.aload_n 0, 1) := by decide +kernel
theorem dX11_greatestBlock_1 : decode cX11_greatestBlock 1 = .ok (.iload_n 1, 1) := by decide +kernel
theorem dX11_greatestBlock_2 : decode cX11_greatestBlock 2 = .ok (.bipush 8, 2) := by decide +kernel
theorem dX11_greatestBlock_4 : decode cX11_greatestBlock 4 = .ok (.invokevirtual 298, 3) := by decide +kernel
theorem dX11_greatestBlock_7 : decode cX11_greatestBlock 7 = .ok (.iconst (-1), 1) := by decide +kernel
theorem dX11_greatestBlock_8 : decode cX11_greatestBlock 8 = .ok (.if_icmp .eq 8, 3) := by decide +kernel
theorem dX11_greatestBlock_11 : decode cX11_greatestBlock 11 = .ok (.bipush 8, 2) := by decide +kernel
theorem dX11_greatestBlock_13 : decode cX11_greatestBlock 13 = .ok (.goto 46, 3) := by decide +kernel
theorem dX11_greatestBlock_16 : decode cX11_greatestBlock 16 = .ok (.aload_n 0, 1) := by decide +kernel
theorem dX11_greatestBlock_17 : decode cX11_greatestBlock 17 = .ok (.iload_n 1, 1) := by decide +kernel
theorem dX11_greatestBlock_18 : decode cX11_greatestBlock 18 = .ok (.iconst 4, 1) := by decide +kernel
theorem dX11_greatestBlock_19 : decode cX11_greatestBlock 19 = .ok (.invokevirtual 298, 3) := by decide +kernel
theorem dX11_greatestBlock_22 : decode cX11_greatestBlock 22 = .ok (.iconst (-1), 1) := by decide +kernel
theorem dX11_greatestBlock_23 : decode cX11_greatestBlock 23 = .ok (.if_icmp .eq 7, 3) := by decide +kernel
theorem dX11_greatestBlock_26 : decode cX11_greatestBlock 26 = .ok (.iconst 4, 1) := by decide +kernel
theorem dX11_greatestBlock_27 : decode cX11_greatestBlock 27 = .ok (.goto 32, 3) := by decide +kernel
theorem dX11_greatestBlock_30 : decode cX11_greatestBlock 30 = .ok (.aload_n 0, 1) := by decide +kernel
theorem dX11_greatestBlock_31 : decode cX11_greatestBlock 31 = .ok (.iload_n 1, 1) := by decide +kernel
theorem dX11_greatestBlock_32 : decode cX11_greatestBlock 32 = .ok (.iconst 2, 1) := by decide +kernel
theorem dX11_greatestBlock_33 : decode cX11_greatestBlock 33 = .ok (.invokevirtual 298, 3) := by decide +kernel
theorem dX11_greatestBlock_36 : decode cX11_greatestBlock 36 = .ok (.iconst (-1), 1) := by decide +kernel
theorem dX11_greatestBlock_37 : decode cX11_greatestBlock 37 = .ok (.if_icmp .eq 7, 3) := by decide +kernel
theorem dX11_greatestBlock_40 : decode cX11_greatestBlock 40 = .ok (.iconst 2, 1) := by decide +kernel
theorem dX11_greatestBlock_41 : decode cX11_greatestBlock 41 = .ok (.goto 18, 3) := by decide +kernel
theorem dX11_greatestBlock_44 : decode cX11_greatestBlock 44 = .ok (.aload_n 0, 1) := by decide +kernel
theorem dX11_greatestBlock_45 : decode cX11_greatestBlock 45 = .ok (.iload_n 1, 1) := by decide +kernel
theorem dX11_greatestBlock_46 : decode cX11_greatestBlock 46 = .ok (.iconst 1, 1) := by decide +kernel
theorem dX11_greatestBlock_47 : decode cX11_greatestBlock 47 = .ok (.invokevirtual 298, 3) := by decide +kernel
theorem dX11_greatestBlock_50 : decode cX11_greatestBlock 50 = .ok (.iconst (-1), 1) := by decide +kernel
theorem dX11_greatestBlock_51 : decode cX11_greatestBlock 51 = .ok (.if_icmp .eq 7, 3) := by decide +kernel
theorem dX11_greatestBlock_54 : decode cX11_greatestBlock 54 = .ok (.iconst 1, 1) := by decide +kernel
theorem dX11_greatestBlock_55 : decode cX11_greatestBlock 55 = .ok (.goto 4, 3) := by decide +kernel
theorem dX11_greatestBlock_58 : decode cX11_greatestBlock 58 = .ok (.iconst 0, 1) := by decide +kernel
theorem dX11_greatestBlock_59 : decode cX11_greatestBlock 59 = .ok (.ireturn, 1) := by decide +kernel
theorem dX11_cpu_0 : decode cX11_cpu 0 = .ok (.aload_n 0, 1) := by decide +kernel
theorem dX11_cpu_1 : decode cX11_cpu 1 = .ok (.iload_n 1, 1) := by decide +kernel
theorem dX11_cpu_2 : decode cX11_cpu 2 = .ok (.invokevirtual 433, 3) := by decide +kernel
theorem dX11_cpu_5 : decode cX11_cpu 5 = .ok (.ifCond .ne 5, 3) := by decide +kernel
theorem dX11_cpu_8 : decode cX11_cpu 8 = .ok (.iconst (-1), 1) := by decide +kernel
theorem dX11_cpu_9 : decode cX11_cpu 9 = .ok (.ireturn, 1) := by decide +kernel
theorem dX11_cpu_10 : decode cX11_cpu 10 = .ok (.iload_n 2, 1) := by decide +kernel
theorem dX11_cpu_11 : decode cX11_cpu 11 = .ok (.tableswitch 95 0 6 #[41, 47, 54, 61, 67, 78, 84], 41) := by decide +kernel
theorem dX11_cpu_52 : decode cX11_cpu 52 = .ok (.aload_n 0, 1) := by decide +kernel
theorem dX11_cpu_53 : decode cX11_cpu 53 = .ok (.iload_n 1, 1) := by decide +kernel
theorem dX11_cpu_54 : decode cX11_cpu 54 = .ok (.invokevirtual 301, 3) := by decide +kernel
theorem dX11_cpu_57 : decode cX11_cpu 57 = .ok (.ireturn, 1) := by decide +kernel
theorem dX11_cpu_58 : decode cX11_cpu 58 = .ok (.aload_n 0, 1) := by decide +kernel
theorem dX11_cpu_59 : decode cX11_cpu 59 = .ok (.iload_n 1, 1) := by decide +kernel
theorem dX11_cpu_60 : decode cX11_cpu 60 = .ok (.iconst 0, 1) := by decide +kernel
theorem dX11_cpu_61 : decode cX11_cpu 61 = .ok (.invokevirtual 289, 3) := by decide +kernel
theorem dX11_cpu_64 : decode cX11_cpu 64 = .ok (.ireturn, 1) := by decide +kernel
theorem dX11_cpu_65 : decode cX11_cpu 65 = .ok (.aload_n 0, 1) := by decide +kernel
theorem dX11_cpu_66 : decode cX11_cpu 66 = .ok (.iload_n 1, 1) := by decide +kernel
theorem dX11_cpu_67 : decode cX11_cpu 67 = .ok (.iconst 4, 1) := by decide +kernel
theorem dX11_cpu_68 : decode cX11_cpu 68 = .ok (.invokevirtual 289, 3) := by decide +kernel
theorem dX11_cpu_71 : decode cX11_cpu 71 = .ok (.ireturn, 1) := by decide +kernel
theorem dX11_cpu_72 : decode cX11_cpu 72 = .ok (.aload_n 0, 1) := by decide +kernel
theorem dX11_cpu_73 : decode cX11_cpu 73 = .ok (.iload_n 1, 1) := by decide +kernel
theorem dX11_cpu_74 : decode cX11_cpu 74 = .ok (.invokevirtual 295, 3) := by decide +kernel
theorem dX11_cpu_77 : decode cX11_cpu 77 = .ok (.ireturn, 1) := by decide +kernel
theorem dX11_cpu_78 : decode cX11_cpu 78 = .ok (.aload_n 0, 1) := by decide +kernel
theorem dX11_cpu_79 : decode cX11_cpu 79 = .ok (.getfield 51, 3) := by decide +kernel
theorem dX11_cpu_82 : decode cX11_cpu 82 = .ok (.sipush 1554, 3) := by decide +kernel
theorem dX11_cpu_85 : decode cX11_cpu 85 = .ok (.iload_n 1, 1) := by decide +kernel
theorem dX11_cpu_86 : decode cX11_cpu 86 = .ok (.iadd, 1) := by decide +kernel
theorem dX11_cpu_87 : decode cX11_cpu 87 = .ok (.iaload, 1) := by decide +kernel
theorem dX11_cpu_88 : decode cX11_cpu 88 = .ok (.ireturn, 1) := by decide +kernel
theorem dX11_cpu_89 : decode cX11_cpu 89 = .ok (.aload_n 0, 1) := by decide +kernel
theorem dX11_cpu_90 : decode cX11_cpu 90 = .ok (.iload_n 1, 1) := by decide +kernel
theorem dX11_cpu_91 : decode cX11_cpu 91 = .ok (.invokevirtual 463, 3) := by decide +kernel
theorem dX11_cpu_94 : decode cX11_cpu 94 = .ok (.ireturn, 1) := by decide +kernel
theorem dX11_cpu_95 : decode cX11_cpu 95 = .ok (.aload_n 0, 1) := by decide +kernel
theorem dX11_cpu_96 : decode cX11_cpu 96 = .ok (.getfield 51, 3) := by decide +kernel
theorem dX11_cpu_99 : decode cX11_cpu 99 = .ok (.sipush 1562, 3) := by decide +kernel
theorem dX11_cpu_102 : decode cX11_cpu 102 = .ok (.iload_n 1, 1) := by decide +kernel
theorem dX11_cpu_103 : decode cX11_cpu 103 = .ok (.iadd, 1) := by decide +kernel
theorem dX11_cpu_104 : decode cX11_cpu 104 = .ok (.iaload, 1) := by decide +kernel
theorem dX11_cpu_105 : decode cX11_cpu 105 = .ok (.ireturn, 1) := by decide +kernel
theorem dX11_cpu_106 : decode cX11_cpu 106 = .ok (.iconst (-1), 1) := by decide +kernel
theorem dX11_cpu_107 : decode cX11_cpu 107 = .ok (.ireturn, 1) := by decide +kernel
theorem dX11_vector_0 : decode cX11_vector 0 = .ok (.aload_n 0, 1) := by decide +kernel
theorem dX11_vector_1 : decode cX11_vector 1 = .ok (.iload_n 1, 1) := by decide +kernel
theorem dX11_vector_2 : decode cX11_vector 2 = .ok (.invokevirtual 433, 3) := by decide +kernel
theorem dX11_vector_5 : decode cX11_vector 5 = .ok (.ifCond .eq 26, 3) := by decide +kernel
theorem dX11_vector_8 : decode cX11_vector 8 = .ok (.iload_n 2, 1) := by decide +kernel
theorem dX11_vector_9 : decode cX11_vector 9 = .ok (.iconst 0, 1) := by decide +kernel
theorem dX11_vector_10 : decode cX11_vector 10 = .ok (.aload_n 0, 1) := by decide +kernel
theorem dX11_vector_11 : decode cX11_vector 11 = .ok (.getfield 243, 3) := by decide +kernel
theorem dX11_vector_14 : decode cX11_vector 14 = .ok (.iconst 1, 1) := by decide +kernel
theorem dX11_vector_15 : decode cX11_vector 15 = .ok (.isub, 1) := by decide +kernel
theorem dX11_vector_16 : decode cX11_vector 16 = .ok (.invokestatic 89, 3) := by decide +kernel
theorem dX11_vector_19 : decode cX11_vector 19 = .ok (.ifCond .eq 12, 3) := by decide +kernel
theorem dX11_vector_22 : decode cX11_vector 22 = .ok (.iload_n 3, 1) := by decide +kernel
theorem dX11_vector_23 : decode cX11_vector 23 = .ok (.iconst 0, 1) := by decide +kernel
theorem dX11_vector_24 : decode cX11_vector 24 = .ok (.iconst 3, 1) := by decide +kernel
theorem dX11_vector_25 : decode cX11_vector 25 = .ok (.invokestatic 89, 3) := by decide +kernel
theorem dX11_vector_28 : decode cX11_vector 28 = .ok (.ifCond .ne 5, 3) := by decide +kernel
theorem dX11_vector_31 : decode cX11_vector 31 = .ok (.iconst (-1), 1) := by decide +kernel
theorem dX11_vector_32 : decode cX11_vector 32 = .ok (.ireturn, 1) := by decide +kernel
theorem dX11_vector_33 : decode cX11_vector 33 = .ok (.aload_n 0, 1) := by decide +kernel
theorem dX11_vector_34 : decode cX11_vector 34 = .ok (.getfield 51, 3) := by decide +kernel
theorem dX11_vector_37 : decode cX11_vector 37 = .ok (.sipush 256, 3) := by decide +kernel
theorem dX11_vector_40 : decode cX11_vector 40 = .ok (.iload_n 3, 1) := by decide +kernel
theorem dX11_vector_41 : decode cX11_vector 41 = .ok (.imul, 1) := by decide +kernel
theorem dX11_vector_42 : decode cX11_vector 42 = .ok (.iload_n 1, 1) := by decide +kernel
theorem dX11_vector_43 : decode cX11_vector 43 = .ok (.iload_n 2, 1) := by decide +kernel
theorem dX11_vector_44 : decode cX11_vector 44 = .ok (.invokestatic 286, 3) := by decide +kernel
theorem dX11_vector_47 : decode cX11_vector 47 = .ok (.iadd, 1) := by decide +kernel
theorem dX11_vector_48 : decode cX11_vector 48 = .ok (.iaload, 1) := by decide +kernel
theorem dX11_vector_49 : decode cX11_vector 49 = .ok (.ireturn, 1) := by decide +kernel
theorem dX11_device_0 : decode cX11_device 0 = .ok (.aload_n 0, 1) := by decide +kernel
theorem dX11_device_1 : decode cX11_device 1 = .ok (.iload_n 1, 1) := by decide +kernel
theorem dX11_device_2 : decode cX11_device 2 = .ok (.invokevirtual 280, 3) := by decide +kernel
theorem dX11_device_5 : decode cX11_device 5 = .ok (.ifCond .eq 13, 3) := by decide +kernel
theorem dX11_device_8 : decode cX11_device 8 = .ok (.iload_n 2, 1) := by decide +kernel
theorem dX11_device_9 : decode cX11_device 9 = .ok (.iconst 0, 1) := by decide +kernel
theorem dX11_device_10 : decode cX11_device 10 = .ok (.bipush 7, 2) := by decide +kernel
theorem dX11_device_12 : decode cX11_device 12 = .ok (.invokestatic 89, 3) := by decide +kernel
theorem dX11_device_15 : decode cX11_device 15 = .ok (.ifCond .ne 5, 3) := by decide +kernel
theorem dX11_device_18 : decode cX11_device 18 = .ok (.iconst (-1), 1) := by decide +kernel
theorem dX11_device_19 : decode cX11_device 19 = .ok (.ireturn, 1) := by decide +kernel
theorem dX11_device_20 : decode cX11_device 20 = .ok (.iload_n 2, 1) := by decide +kernel
theorem dX11_device_21 : decode cX11_device 21 = .ok (.ifCond .ne 12, 3) := by decide +kernel
theorem dX11_device_24 : decode cX11_device 24 = .ok (.aload_n 0, 1) := by decide +kernel
theorem dX11_device_25 : decode cX11_device 25 = .ok (.getfield 29, 3) := by decide +kernel
theorem dX11_device_28 : decode cX11_device 28 = .ok (.iload_n 1, 1) := by decide +kernel
theorem dX11_device_29 : decode cX11_device 29 = .ok (.iaload, 1) := by decide +kernel
theorem dX11_device_30 : decode cX11_device 30 = .ok (.goto 48, 3) := by decide +kernel
theorem dX11_device_33 : decode cX11_device 33 = .ok (.iload_n 2, 1) := by decide +kernel
theorem dX11_device_34 : decode cX11_device 34 = .ok (.iconst 1, 1) := by decide +kernel
theorem dX11_device_35 : decode cX11_device 35 = .ok (.if_icmp .ne 12, 3) := by decide +kernel
theorem dX11_device_38 : decode cX11_device 38 = .ok (.aload_n 0, 1) := by decide +kernel
theorem dX11_device_39 : decode cX11_device 39 = .ok (.getfield 32, 3) := by decide +kernel
theorem dX11_device_42 : decode cX11_device 42 = .ok (.iload_n 1, 1) := by decide +kernel
theorem dX11_device_43 : decode cX11_device 43 = .ok (.iaload, 1) := by decide +kernel
theorem dX11_device_44 : decode cX11_device 44 = .ok (.goto 34, 3) := by decide +kernel
theorem dX11_device_47 : decode cX11_device 47 = .ok (.iload_n 2, 1) := by decide +kernel
theorem dX11_device_48 : decode cX11_device 48 = .ok (.iconst 2, 1) := by decide +kernel
theorem dX11_device_49 : decode cX11_device 49 = .ok (.if_icmp .ne 12, 3) := by decide +kernel
theorem dX11_device_52 : decode cX11_device 52 = .ok (.aload_n 0, 1) := by decide +kernel
theorem dX11_device_53 : decode cX11_device 53 = .ok (.getfield 35, 3) := by decide +kernel
theorem dX11_device_56 : decode cX11_device 56 = .ok (.iload_n 1, 1) := by decide +kernel
theorem dX11_device_57 : decode cX11_device 57 = .ok (.iaload, 1) := by decide +kernel
theorem dX11_device_58 : decode cX11_device 58 = .ok (.goto 20, 3) := by decide +kernel
theorem dX11_device_61 : decode cX11_device 61 = .ok (.aload_n 0, 1) := by decide +kernel
theorem dX11_device_62 : decode cX11_device 62 = .ok (.getfield 51, 3) := by decide +kernel
theorem dX11_device_65 : decode cX11_device 65 = .ok (.sipush 1504, 3) := by decide +kernel
theorem dX11_device_68 : decode cX11_device 68 = .ok (.bipush 10, 2) := by decide +kernel
theorem dX11_device_70 : decode cX11_device 70 = .ok (.iload_n 2, 1) := by decide +kernel
theorem dX11_device_71 : decode cX11_device 71 = .ok (.iconst 3, 1) := by decide +kernel
theorem dX11_device_72 : decode cX11_device 72 = .ok (.isub, 1) := by decide +kernel
theorem dX11_device_73 : decode cX11_device 73 = .ok (.imul, 1) := by decide +kernel
theorem dX11_device_74 : decode cX11_device 74 = .ok (.iadd, 1) := by decide +kernel
theorem dX11_device_75 : decode cX11_device 75 = .ok (.iload_n 1, 1) := by decide +kernel
theorem dX11_device_76 : decode cX11_device 76 = .ok (.iadd, 1) := by decide +kernel
theorem dX11_device_77 : decode cX11_device 77 = .ok (.iaload, 1) := by decide +kernel
theorem dX11_device_78 : decode cX11_device 78 = .ok (.ireturn, 1) := by decide +kernel
theorem dX11_line__0 : decode cX11_line_ 0 = .ok (.aload_n 0, 1) := by decide +kernel
theorem dX11_line__1 : decode cX11_line_ 1 = .ok (.iload_n 1, 1) := by decide +kernel
theorem dX11_line__2 : decode cX11_line_ 2 = .ok (.iload_n 2, 1) := by decide +kernel
theorem dX11_line__3 : decode cX11_line_ 3 = .ok (.invokevirtual 378, 3) := by decide +kernel
theorem dX11_line__6 : decode cX11_line_ 6 = .ok (.ifCond .eq 34, 3) := by decide +kernel
theorem dX11_line__9 : decode cX11_line_ 9 = .ok (.iload_n 3, 1) := by decide +kernel
theorem dX11_line__10 : decode cX11_line_ 10 = .ok (.iconst 0, 1) := by decide +kernel
theorem dX11_line__11 : decode cX11_line_ 11 = .ok (.iconst 5, 1) := by decide +kernel
theorem dX11_line__12 : decode cX11_line_ 12 = .ok (.invokestatic 89, 3) := by decide +kernel
theorem dX11_line__15 : decode cX11_line_ 15 = .ok (.ifCond .eq 25, 3) := by decide +kernel
theorem dX11_line__18 : decode cX11_line_ 18 = .ok (.aload_n 0, 1) := by decide +kernel
theorem dX11_line__19 : decode cX11_line_ 19 = .ok (.getfield 51, 3) := by decide +kernel
theorem dX11_line__22 : decode cX11_line_ 22 = .ok (.sipush 1024, 3) := by decide +kernel
theorem dX11_line__25 : decode cX11_line_ 25 = .ok (.bipush 80, 2) := by decide +kernel
theorem dX11_line__27 : decode cX11_line_ 27 = .ok (.iload_n 3, 1) := by decide +kernel
theorem dX11_line__28 : decode cX11_line_ 28 = .ok (.imul, 1) := by decide +kernel
theorem dX11_line__29 : decode cX11_line_ 29 = .ok (.iadd, 1) := by decide +kernel
theorem dX11_line__30 : decode cX11_line_ 30 = .ok (.iload_n 1, 1) := by decide +kernel
theorem dX11_line__31 : decode cX11_line_ 31 = .ok (.iload_n 2, 1) := by decide +kernel
theorem dX11_line__32 : decode cX11_line_ 32 = .ok (.invokestatic 308, 3) := by decide +kernel
theorem dX11_line__35 : decode cX11_line_ 35 = .ok (.iadd, 1) := by decide +kernel
theorem dX11_line__36 : decode cX11_line_ 36 = .ok (.iaload, 1) := by decide +kernel
theorem dX11_line__37 : decode cX11_line_ 37 = .ok (.goto 4, 3) := by decide +kernel
theorem dX11_line__40 : decode cX11_line_ 40 = .ok (.iconst (-1), 1) := by decide +kernel
theorem dX11_line__41 : decode cX11_line_ 41 = .ok (.ireturn, 1) := by decide +kernel
theorem dX11_spread_0 : decode cX11_spread 0 = .ok (.aload_n 0, 1) := by decide +kernel
theorem dX11_spread_1 : decode cX11_spread 1 = .ok (.iload_n 1, 1) := by decide +kernel
theorem dX11_spread_2 : decode cX11_spread 2 = .ok (.invokevirtual 280, 3) := by decide +kernel
theorem dX11_spread_5 : decode cX11_spread 5 = .ok (.ifCond .eq 38, 3) := by decide +kernel
theorem dX11_spread_8 : decode cX11_spread 8 = .ok (.aload_n 0, 1) := by decide +kernel
theorem dX11_spread_9 : decode cX11_spread 9 = .ok (.getfield 29, 3) := by decide +kernel
theorem dX11_spread_12 : decode cX11_spread 12 = .ok (.iload_n 1, 1) := by decide +kernel
theorem dX11_spread_13 : decode cX11_spread 13 = .ok (.iaload, 1) := by decide +kernel
theorem dX11_spread_14 : decode cX11_spread 14 = .ok (.iconst 3, 1) := by decide +kernel
theorem dX11_spread_15 : decode cX11_spread 15 = .ok (.if_icmp .ne 28, 3) := by decide +kernel
theorem dX11_spread_18 : decode cX11_spread 18 = .ok (.iload_n 2, 1) := by decide +kernel
theorem dX11_spread_19 : decode cX11_spread 19 = .ok (.iconst 0, 1) := by decide +kernel
theorem dX11_spread_20 : decode cX11_spread 20 = .ok (.aload_n 0, 1) := by decide +kernel
theorem dX11_spread_21 : decode cX11_spread 21 = .ok (.getfield 32, 3) := by decide +kernel
theorem dX11_spread_24 : decode cX11_spread 24 = .ok (.iload_n 1, 1) := by decide +kernel
theorem dX11_spread_25 : decode cX11_spread 25 = .ok (.iaload, 1) := by decide +kernel
theorem dX11_spread_26 : decode cX11_spread 26 = .ok (.iconst 1, 1) := by decide +kernel
theorem dX11_spread_27 : decode cX11_spread 27 = .ok (.isub, 1) := by decide +kernel
theorem dX11_spread_28 : decode cX11_spread 28 = .ok (.invokestatic 89, 3) := by decide +kernel
theorem dX11_spread_31 : decode cX11_spread 31 = .ok (.ifCond .eq 12, 3) := by decide +kernel
theorem dX11_spread_34 : decode cX11_spread 34 = .ok (.aload_n 0, 1) := by decide +kernel
theorem dX11_spread_35 : decode cX11_spread 35 = .ok (.iload_n 1, 1) := by decide +kernel
theorem dX11_spread_36 : decode cX11_spread 36 = .ok (.iload_n 2, 1) := by decide +kernel
theorem dX11_spread_37 : decode cX11_spread 37 = .ok (.invokevirtual 324, 3) := by decide +kernel
theorem dX11_spread_40 : decode cX11_spread 40 = .ok (.goto 4, 3) := by decide +kernel
theorem dX11_spread_43 : decode cX11_spread 43 = .ok (.iconst 0, 1) := by decide +kernel
theorem dX11_spread_44 : decode cX11_spread 44 = .ok (.ireturn, 1) := by decide +kernel
theorem dX11_room_0 : decode cX11_room 0 = .ok (.iload_n 1, 1) := by decide +kernel
theorem dX11_room_1 : decode cX11_room 1 = .ok (.iconst 1, 1) := by decide +kernel
theorem dX11_room_2 : decode cX11_room 2 = .ok (.if_icmp .eq 21, 3) := by decide +kernel
theorem dX11_room_5 : decode cX11_room 5 = .ok (.iload_n 1, 1) := by decide +kernel
theorem dX11_room_6 : decode cX11_room 6 = .ok (.iconst 2, 1) := by decide +kernel
theorem dX11_room_7 : decode cX11_room 7 = .ok (.if_icmp .eq 16, 3) := by decide +kernel
theorem dX11_room_10 : decode cX11_room 10 = .ok (.iload_n 1, 1) := by decide +kernel
theorem dX11_room_11 : decode cX11_room 11 = .ok (.iconst 4, 1) := by decide +kernel
theorem dX11_room_12 : decode cX11_room 12 = .ok (.if_icmp .eq 11, 3) := by decide +kernel
theorem dX11_room_15 : decode cX11_room 15 = .ok (.iload_n 1, 1) := by decide +kernel
theorem dX11_room_16 : decode cX11_room 16 = .ok (.bipush 8, 2) := by decide +kernel
theorem dX11_room_18 : decode cX11_room 18 = .ok (.if_icmp .eq 5, 3) := by decide +kernel
theorem dX11_room_21 : decode cX11_room 21 = .ok (.iconst (-1), 1) := by decide +kernel
theorem dX11_room_22 : decode cX11_room 22 = .ok (.ireturn, 1) := by decide +kernel
theorem dX11_room_23 : decode cX11_room 23 = .ok (.aload_n 0, 1) := by decide +kernel
theorem dX11_room_24 : decode cX11_room 24 = .ok (.invokevirtual 334, 3) := by decide +kernel
theorem dX11_room_27 : decode cX11_room 27 = .ok (.iconst 0, 1) := by decide +kernel
theorem dX11_room_28 : decode cX11_room 28 = .ok (.istore_n 2, 1) := by decide +kernel
theorem dX11_room_29 : decode cX11_room 29 = .ok (.iconst 1, 1) := by decide +kernel
theorem dX11_room_30 : decode cX11_room 30 = .ok (.istore_n 3, 1) := by decide +kernel
theorem dX11_room_31 : decode cX11_room 31 = .ok (.iload_n 3, 1) := by decide +kernel
theorem dX11_room_32 : decode cX11_room 32 = .ok (.ifCond .eq 98, 3) := by decide +kernel
theorem dX11_room_35 : decode cX11_room 35 = .ok (.aload_n 0, 1) := by decide +kernel
theorem dX11_room_36 : decode cX11_room 36 = .ok (.iload_n 1, 1) := by decide +kernel
theorem dX11_room_37 : decode cX11_room 37 = .ok (.iconst 1, 1) := by decide +kernel
theorem dX11_room_38 : decode cX11_room 38 = .ok (.aload_n 0, 1) := by decide +kernel
theorem dX11_room_39 : decode cX11_room 39 = .ok (.getfield 240, 3) := by decide +kernel
theorem dX11_room_42 : decode cX11_room 42 = .ok (.ishl, 1) := by decide +kernel
theorem dX11_room_43 : decode cX11_room 43 = .ok (.iconst 1, 1) := by decide +kernel
theorem dX11_room_44 : decode cX11_room 44 = .ok (.isub, 1) := by decide +kernel
theorem dX11_room_45 : decode cX11_room 45 = .ok (.invokevirtual 317, 3) := by decide +kernel
theorem dX11_room_48 : decode cX11_room 48 = .ok (.istore 4, 2) := by decide +kernel
theorem dX11_room_50 : decode cX11_room 50 = .ok (.iload 4, 2) := by decide +kernel
theorem dX11_room_52 : decode cX11_room 52 = .ok (.iconst (-1), 1) := by decide +kernel
theorem dX11_room_53 : decode cX11_room 53 = .ok (.if_icmp .eq 20, 3) := by decide +kernel
theorem dX11_room_56 : decode cX11_room 56 = .ok (.aload_n 0, 1) := by decide +kernel
theorem dX11_room_57 : decode cX11_room 57 = .ok (.invokevirtual 347, 3) := by decide +kernel
theorem dX11_room_60 : decode cX11_room 60 = .ok (.iload_n 1, 1) := by decide +kernel
theorem dX11_room_61 : decode cX11_room 61 = .ok (.isub, 1) := by decide +kernel
theorem dX11_room_62 : decode cX11_room 62 = .ok (.aload_n 0, 1) := by decide +kernel
theorem dX11_room_63 : decode cX11_room 63 = .ok (.invokevirtual 350, 3) := by decide +kernel
theorem dX11_room_66 : decode cX11_room 66 = .ok (.if_icmp .lt 7, 3) := by decide +kernel
theorem dX11_room_69 : decode cX11_room 69 = .ok (.iconst 1, 1) := by decide +kernel
theorem dX11_room_70 : decode cX11_room 70 = .ok (.goto 4, 3) := by decide +kernel
theorem dX11_room_73 : decode cX11_room 73 = .ok (.iconst 0, 1) := by decide +kernel
theorem dX11_room_74 : decode cX11_room 74 = .ok (.istore_n 3, 1) := by decide +kernel
theorem dX11_room_75 : decode cX11_room 75 = .ok (.iload_n 3, 1) := by decide +kernel
theorem dX11_room_76 : decode cX11_room 76 = .ok (.ifCond .ne 6, 3) := by decide +kernel
theorem dX11_room_79 : decode cX11_room 79 = .ok (.goto (-48), 3) := by decide +kernel
theorem dX11_room_82 : decode cX11_room 82 = .ok (.aload_n 0, 1) := by decide +kernel
theorem dX11_room_83 : decode cX11_room 83 = .ok (.iload 4, 2) := by decide +kernel
theorem dX11_room_85 : decode cX11_room 85 = .ok (.iload_n 1, 1) := by decide +kernel
theorem dX11_room_86 : decode cX11_room 86 = .ok (.invokevirtual 298, 3) := by decide +kernel
theorem dX11_room_89 : decode cX11_room 89 = .ok (.istore 5, 2) := by decide +kernel
theorem dX11_room_91 : decode cX11_room 91 = .ok (.iconst 0, 1) := by decide +kernel
theorem dX11_room_92 : decode cX11_room 92 = .ok (.istore 6, 2) := by decide +kernel
theorem dX11_room_94 : decode cX11_room 94 = .ok (.iload 6, 2) := by decide +kernel
theorem dX11_room_96 : decode cX11_room 96 = .ok (.iload_n 1, 1) := by decide +kernel
theorem dX11_room_97 : decode cX11_room 97 = .ok (.if_icmp .ge 27, 3) := by decide +kernel
theorem dX11_room_100 : decode cX11_room 100 = .ok (.aload_n 0, 1) := by decide +kernel
theorem dX11_room_101 : decode cX11_room 101 = .ok (.getfield 51, 3) := by decide +kernel
theorem dX11_room_104 : decode cX11_room 104 = .ok (.iconst 0, 1) := by decide +kernel
theorem dX11_room_105 : decode cX11_room 105 = .ok (.iload 4, 2) := by decide +kernel
theorem dX11_room_107 : decode cX11_room 107 = .ok (.iload 5, 2) := by decide +kernel
theorem dX11_room_109 : decode cX11_room 109 = .ok (.iload 6, 2) := by decide +kernel
theorem dX11_room_111 : decode cX11_room 111 = .ok (.iadd, 1) := by decide +kernel
theorem dX11_room_112 : decode cX11_room 112 = .ok (.invokestatic 286, 3) := by decide +kernel
theorem dX11_room_115 : decode cX11_room 115 = .ok (.iadd, 1) := by decide +kernel
theorem dX11_room_116 : decode cX11_room 116 = .ok (.iconst 2, 1) := by decide +kernel
theorem dX11_room_117 : decode cX11_room 117 = .ok (.iastore, 1) := by decide +kernel
theorem dX11_room_118 : decode cX11_room 118 = .ok (.iinc 6 1, 3) := by decide +kernel
theorem dX11_room_121 : decode cX11_room 121 = .ok (.goto (-27), 3) := by decide +kernel
theorem dX11_room_124 : decode cX11_room 124 = .ok (.iinc 2 1, 3) := by decide +kernel
theorem dX11_room_127 : decode cX11_room 127 = .ok (.goto (-96), 3) := by decide +kernel
theorem dX11_room_130 : decode cX11_room 130 = .ok (.aload_n 0, 1) := by decide +kernel
theorem dX11_room_131 : decode cX11_room 131 = .ok (.invokevirtual 353, 3) := by decide +kernel
theorem dX11_room_134 : decode cX11_room 134 = .ok (.iload_n 2, 1) := by decide +kernel
theorem dX11_room_135 : decode cX11_room 135 = .ok (.ireturn, 1) := by decide +kernel
theorem dX11_balance_0 : decode cX11_balance 0 = .ok (.bipush 33, 2) := by decide +kernel
theorem dX11_balance_2 : decode cX11_balance 2 = .ok (.istore_n 1, 1) := by decide +kernel
theorem dX11_balance_3 : decode cX11_balance 3 = .ok (.iconst 0, 1) := by decide +kernel
theorem dX11_balance_4 : decode cX11_balance 4 = .ok (.istore_n 2, 1) := by decide +kernel
theorem dX11_balance_5 : decode cX11_balance 5 = .ok (.iconst 0, 1) := by decide +kernel
theorem dX11_balance_6 : decode cX11_balance 6 = .ok (.istore_n 3, 1) := by decide +kernel
theorem dX11_balance_7 : decode cX11_balance 7 = .ok (.iload_n 3, 1) := by decide +kernel
theorem dX11_balance_8 : decode cX11_balance 8 = .ok (.aload_n 0, 1) := by decide +kernel
theorem dX11_balance_9 : decode cX11_balance 9 = .ok (.getfield 240, 3) := by decide +kernel
theorem dX11_balance_12 : decode cX11_balance 12 = .ok (.if_icmp .ge 40, 3) := by decide +kernel
theorem dX11_balance_15 : decode cX11_balance 15 = .ok (.aload_n 0, 1) := by decide +kernel
theorem dX11_balance_16 : decode cX11_balance 16 = .ok (.iload_n 3, 1) := by decide +kernel
theorem dX11_balance_17 : decode cX11_balance 17 = .ok (.invokevirtual 292, 3) := by decide +kernel
theorem dX11_balance_20 : decode cX11_balance 20 = .ok (.ifCond .ne 6, 3) := by decide +kernel
theorem dX11_balance_23 : decode cX11_balance 23 = .ok (.goto 23, 3) := by decide +kernel
theorem dX11_balance_26 : decode cX11_balance 26 = .ok (.iload_n 1, 1) := by decide +kernel
theorem dX11_balance_27 : decode cX11_balance 27 = .ok (.aload_n 0, 1) := by decide +kernel
theorem dX11_balance_28 : decode cX11_balance 28 = .ok (.iload_n 3, 1) := by decide +kernel
theorem dX11_balance_29 : decode cX11_balance 29 = .ok (.invokevirtual 301, 3) := by decide +kernel
theorem dX11_balance_32 : decode cX11_balance 32 = .ok (.invokestatic 362, 3) := by decide +kernel
theorem dX11_balance_35 : decode cX11_balance 35 = .ok (.istore_n 1, 1) := by decide +kernel
theorem dX11_balance_36 : decode cX11_balance 36 = .ok (.iload_n 2, 1) := by decide +kernel
theorem dX11_balance_37 : decode cX11_balance 37 = .ok (.aload_n 0, 1) := by decide +kernel
theorem dX11_balance_38 : decode cX11_balance 38 = .ok (.iload_n 3, 1) := by decide +kernel
theorem dX11_balance_39 : decode cX11_balance 39 = .ok (.invokevirtual 301, 3) := by decide +kernel
theorem dX11_balance_42 : decode cX11_balance 42 = .ok (.invokestatic 466, 3) := by decide +kernel
theorem dX11_balance_45 : decode cX11_balance 45 = .ok (.istore_n 2, 1) := by decide +kernel
theorem dX11_balance_46 : decode cX11_balance 46 = .ok (.iinc 3 1, 3) := by decide +kernel
theorem dX11_balance_49 : decode cX11_balance 49 = .ok (.goto (-42), 3) := by decide +kernel
theorem dX11_balance_52 : decode cX11_balance 52 = .ok (.iload_n 1, 1) := by decide +kernel
theorem dX11_balance_53 : decode cX11_balance 53 = .ok (.bipush 32, 2) := by decide +kernel
theorem dX11_balance_55 : decode cX11_balance 55 = .ok (.if_icmp .le 7, 3) := by decide +kernel
theorem dX11_balance_58 : decode cX11_balance 58 = .ok (.iconst 0, 1) := by decide +kernel
theorem dX11_balance_59 : decode cX11_balance 59 = .ok (.goto 6, 3) := by decide +kernel
theorem dX11_balance_62 : decode cX11_balance 62 = .ok (.iload_n 2, 1) := by decide +kernel
theorem dX11_balance_63 : decode cX11_balance 63 = .ok (.iload_n 1, 1) := by decide +kernel
theorem dX11_balance_64 : decode cX11_balance 64 = .ok (.isub, 1) := by decide +kernel
theorem dX11_balance_65 : decode cX11_balance 65 = .ok (.ireturn, 1) := by decide +kernel
theorem dX11_mustGo_0 : decode cX11_mustGo 0 = .ok (.iconst 0, 1) := by decide +kernel
theorem dX11_mustGo_1 : decode cX11_mustGo 1 = .ok (.istore 4, 2) := by decide +kernel
theorem dX11_mustGo_3 : decode cX11_mustGo 3 = .ok (.iload_n 2, 1) := by decide +kernel
theorem dX11_mustGo_4 : decode cX11_mustGo 4 = .ok (.istore 5, 2) := by decide +kernel
theorem dX11_mustGo_6 : decode cX11_mustGo 6 = .ok (.iload 5, 2) := by decide +kernel
theorem dX11_mustGo_8 : decode cX11_mustGo 8 = .ok (.iload_n 2, 1) := by decide +kernel
theorem dX11_mustGo_9 : decode cX11_mustGo 9 = .ok (.iload_n 3, 1) := by decide +kernel
theorem dX11_mustGo_10 : decode cX11_mustGo 10 = .ok (.iadd, 1) := by decide +kernel
theorem dX11_mustGo_11 : decode cX11_mustGo 11 = .ok (.if_icmp .ge 89, 3) := by decide +kernel
theorem dX11_mustGo_14 : decode cX11_mustGo 14 = .ok (.iload_n 1, 1) := by decide +kernel
theorem dX11_mustGo_15 : decode cX11_mustGo 15 = .ok (.iload 5, 2) := by decide +kernel
theorem dX11_mustGo_17 : decode cX11_mustGo 17 = .ok (.invokestatic 286, 3) := by decide +kernel
theorem dX11_mustGo_20 : decode cX11_mustGo 20 = .ok (.istore 6, 2) := by decide +kernel
theorem dX11_mustGo_22 : decode cX11_mustGo 22 = .ok (.aload_n 0, 1) := by decide +kernel
theorem dX11_mustGo_23 : decode cX11_mustGo 23 = .ok (.getfield 51, 3) := by decide +kernel
theorem dX11_mustGo_26 : decode cX11_mustGo 26 = .ok (.iconst 0, 1) := by decide +kernel
theorem dX11_mustGo_27 : decode cX11_mustGo 27 = .ok (.iload 6, 2) := by decide +kernel
theorem dX11_mustGo_29 : decode cX11_mustGo 29 = .ok (.iadd, 1) := by decide +kernel
theorem dX11_mustGo_30 : decode cX11_mustGo 30 = .ok (.iaload, 1) := by decide +kernel
theorem dX11_mustGo_31 : decode cX11_mustGo 31 = .ok (.ifCond .ne 6, 3) := by decide +kernel
theorem dX11_mustGo_34 : decode cX11_mustGo 34 = .ok (.goto 60, 3) := by decide +kernel
theorem dX11_mustGo_37 : decode cX11_mustGo 37 = .ok (.aload_n 0, 1) := by decide +kernel
theorem dX11_mustGo_38 : decode cX11_mustGo 38 = .ok (.getfield 51, 3) := by decide +kernel
theorem dX11_mustGo_41 : decode cX11_mustGo 41 = .ok (.iconst 0, 1) := by decide +kernel
theorem dX11_mustGo_42 : decode cX11_mustGo 42 = .ok (.iload 6, 2) := by decide +kernel
theorem dX11_mustGo_44 : decode cX11_mustGo 44 = .ok (.iadd, 1) := by decide +kernel
theorem dX11_mustGo_45 : decode cX11_mustGo 45 = .ok (.iaload, 1) := by decide +kernel
theorem dX11_mustGo_46 : decode cX11_mustGo 46 = .ok (.iconst 2, 1) := by decide +kernel
theorem dX11_mustGo_47 : decode cX11_mustGo 47 = .ok (.if_icmp .ne 42, 3) := by decide +kernel
theorem dX11_mustGo_50 : decode cX11_mustGo 50 = .ok (.aload_n 0, 1) := by decide +kernel
theorem dX11_mustGo_51 : decode cX11_mustGo 51 = .ok (.getfield 29, 3) := by decide +kernel
theorem dX11_mustGo_54 : decode cX11_mustGo 54 = .ok (.aload_n 0, 1) := by decide +kernel
theorem dX11_mustGo_55 : decode cX11_mustGo 55 = .ok (.getfield 51, 3) := by decide +kernel
theorem dX11_mustGo_58 : decode cX11_mustGo 58 = .ok (.sipush 256, 3) := by decide +kernel
theorem dX11_mustGo_61 : decode cX11_mustGo 61 = .ok (.iload 6, 2) := by decide +kernel
theorem dX11_mustGo_63 : decode cX11_mustGo 63 = .ok (.iadd, 1) := by decide +kernel
theorem dX11_mustGo_64 : decode cX11_mustGo 64 = .ok (.iaload, 1) := by decide +kernel
theorem dX11_mustGo_65 : decode cX11_mustGo 65 = .ok (.iaload, 1) := by decide +kernel
theorem dX11_mustGo_66 : decode cX11_mustGo 66 = .ok (.iconst 1, 1) := by decide +kernel
theorem dX11_mustGo_67 : decode cX11_mustGo 67 = .ok (.if_icmp .ne 22, 3) := by decide +kernel
theorem dX11_mustGo_70 : decode cX11_mustGo 70 = .ok (.aload_n 0, 1) := by decide +kernel
theorem dX11_mustGo_71 : decode cX11_mustGo 71 = .ok (.aload_n 0, 1) := by decide +kernel
theorem dX11_mustGo_72 : decode cX11_mustGo 72 = .ok (.getfield 51, 3) := by decide +kernel
theorem dX11_mustGo_75 : decode cX11_mustGo 75 = .ok (.sipush 256, 3) := by decide +kernel
theorem dX11_mustGo_78 : decode cX11_mustGo 78 = .ok (.iload 6, 2) := by decide +kernel
theorem dX11_mustGo_80 : decode cX11_mustGo 80 = .ok (.iadd, 1) := by decide +kernel
theorem dX11_mustGo_81 : decode cX11_mustGo 81 = .ok (.iaload, 1) := by decide +kernel
theorem dX11_mustGo_82 : decode cX11_mustGo 82 = .ok (.iconst 0, 1) := by decide +kernel
theorem dX11_mustGo_83 : decode cX11_mustGo 83 = .ok (.invokevirtual 356, 3) := by decide +kernel
theorem dX11_mustGo_86 : decode cX11_mustGo 86 = .ok (.ifCond .eq 5, 3) := by decide +kernel
theorem dX11_mustGo_89 : decode cX11_mustGo 89 = .ok (.iconst (-1), 1) := by decide +kernel
theorem dX11_mustGo_90 : decode cX11_mustGo 90 = .ok (.ireturn, 1) := by decide +kernel
theorem dX11_mustGo_91 : decode cX11_mustGo 91 = .ok (.iinc 4 1, 3) := by decide +kernel
theorem dX11_mustGo_94 : decode cX11_mustGo 94 = .ok (.iinc 5 1, 3) := by decide +kernel
theorem dX11_mustGo_97 : decode cX11_mustGo 97 = .ok (.goto (-91), 3) := by decide +kernel
theorem dX11_mustGo_100 : decode cX11_mustGo 100 = .ok (.iload 4, 2) := by decide +kernel
theorem dX11_mustGo_102 : decode cX11_mustGo 102 = .ok (.ireturn, 1) := by decide +kernel
theorem dX11_laysClear_0 : decode cX11_laysClear 0 = .ok (.aload_n 0, 1) := by decide +kernel
theorem dX11_laysClear_1 : decode cX11_laysClear 1 = .ok (.iconst (-1), 1) := by decide +kernel
theorem dX11_laysClear_2 : decode cX11_laysClear 2 = .ok (.putfield 469, 3) := by decide +kernel
theorem dX11_laysClear_5 : decode cX11_laysClear 5 = .ok (.iconst 0, 1) := by decide +kernel
theorem dX11_laysClear_6 : decode cX11_laysClear 6 = .ok (.istore_n 2, 1) := by decide +kernel
theorem dX11_laysClear_7 : decode cX11_laysClear 7 = .ok (.iload_n 2, 1) := by decide +kernel
theorem dX11_laysClear_8 : decode cX11_laysClear 8 = .ok (.aload_n 0, 1) := by decide +kernel
theorem dX11_laysClear_9 : decode cX11_laysClear 9 = .ok (.getfield 240, 3) := by decide +kernel
theorem dX11_laysClear_12 : decode cX11_laysClear 12 = .ok (.if_icmp .ge 87, 3) := by decide +kernel
theorem dX11_laysClear_15 : decode cX11_laysClear 15 = .ok (.iconst 0, 1) := by decide +kernel
theorem dX11_laysClear_16 : decode cX11_laysClear 16 = .ok (.istore_n 3, 1) := by decide +kernel
theorem dX11_laysClear_17 : decode cX11_laysClear 17 = .ok (.iload_n 3, 1) := by decide +kernel
theorem dX11_laysClear_18 : decode cX11_laysClear 18 = .ok (.iload_n 1, 1) := by decide +kernel
theorem dX11_laysClear_19 : decode cX11_laysClear 19 = .ok (.iadd, 1) := by decide +kernel
theorem dX11_laysClear_20 : decode cX11_laysClear 20 = .ok (.aload_n 0, 1) := by decide +kernel
theorem dX11_laysClear_21 : decode cX11_laysClear 21 = .ok (.getfield 243, 3) := by decide +kernel
theorem dX11_laysClear_24 : decode cX11_laysClear 24 = .ok (.if_icmp .gt 69, 3) := by decide +kernel
theorem dX11_laysClear_27 : decode cX11_laysClear 27 = .ok (.aload_n 0, 1) := by decide +kernel
theorem dX11_laysClear_28 : decode cX11_laysClear 28 = .ok (.iload_n 2, 1) := by decide +kernel
theorem dX11_laysClear_29 : decode cX11_laysClear 29 = .ok (.invokevirtual 292, 3) := by decide +kernel
theorem dX11_laysClear_32 : decode cX11_laysClear 32 = .ok (.ifCond .eq 61, 3) := by decide +kernel
theorem dX11_laysClear_35 : decode cX11_laysClear 35 = .ok (.aload_n 0, 1) := by decide +kernel
theorem dX11_laysClear_36 : decode cX11_laysClear 36 = .ok (.iload_n 2, 1) := by decide +kernel
theorem dX11_laysClear_37 : decode cX11_laysClear 37 = .ok (.iload_n 3, 1) := by decide +kernel
theorem dX11_laysClear_38 : decode cX11_laysClear 38 = .ok (.iload_n 1, 1) := by decide +kernel
theorem dX11_laysClear_39 : decode cX11_laysClear 39 = .ok (.invokevirtual 472, 3) := by decide +kernel
theorem dX11_laysClear_42 : decode cX11_laysClear 42 = .ok (.istore 4, 2) := by decide +kernel
theorem dX11_laysClear_44 : decode cX11_laysClear 44 = .ok (.iload 4, 2) := by decide +kernel
theorem dX11_laysClear_46 : decode cX11_laysClear 46 = .ok (.iconst (-1), 1) := by decide +kernel
theorem dX11_laysClear_47 : decode cX11_laysClear 47 = .ok (.if_icmp .eq 39, 3) := by decide +kernel
theorem dX11_laysClear_50 : decode cX11_laysClear 50 = .ok (.aload_n 0, 1) := by decide +kernel
theorem dX11_laysClear_51 : decode cX11_laysClear 51 = .ok (.getfield 469, 3) := by decide +kernel
theorem dX11_laysClear_54 : decode cX11_laysClear 54 = .ok (.iconst (-1), 1) := by decide +kernel
theorem dX11_laysClear_55 : decode cX11_laysClear 55 = .ok (.if_icmp .eq 15, 3) := by decide +kernel
theorem dX11_laysClear_58 : decode cX11_laysClear 58 = .ok (.iload 4, 2) := by decide +kernel
theorem dX11_laysClear_60 : decode cX11_laysClear 60 = .ok (.aload_n 0, 1) := by decide +kernel
theorem dX11_laysClear_61 : decode cX11_laysClear 61 = .ok (.getfield 469, 3) := by decide +kernel
theorem dX11_laysClear_64 : decode cX11_laysClear 64 = .ok (.if_icmp .lt 6, 3) := by decide +kernel
theorem dX11_laysClear_67 : decode cX11_laysClear 67 = .ok (.goto 19, 3) := by decide +kernel
theorem dX11_laysClear_70 : decode cX11_laysClear 70 = .ok (.aload_n 0, 1) := by decide +kernel
theorem dX11_laysClear_71 : decode cX11_laysClear 71 = .ok (.iload 4, 2) := by decide +kernel
theorem dX11_laysClear_73 : decode cX11_laysClear 73 = .ok (.putfield 469, 3) := by decide +kernel
theorem dX11_laysClear_76 : decode cX11_laysClear 76 = .ok (.aload_n 0, 1) := by decide +kernel
theorem dX11_laysClear_77 : decode cX11_laysClear 77 = .ok (.iload_n 2, 1) := by decide +kernel
theorem dX11_laysClear_78 : decode cX11_laysClear 78 = .ok (.putfield 475, 3) := by decide +kernel
theorem dX11_laysClear_81 : decode cX11_laysClear 81 = .ok (.aload_n 0, 1) := by decide +kernel
theorem dX11_laysClear_82 : decode cX11_laysClear 82 = .ok (.iload_n 3, 1) := by decide +kernel
theorem dX11_laysClear_83 : decode cX11_laysClear 83 = .ok (.putfield 478, 3) := by decide +kernel
theorem dX11_laysClear_86 : decode cX11_laysClear 86 = .ok (.iload_n 3, 1) := by decide +kernel
theorem dX11_laysClear_87 : decode cX11_laysClear 87 = .ok (.iload_n 1, 1) := by decide +kernel
theorem dX11_laysClear_88 : decode cX11_laysClear 88 = .ok (.iadd, 1) := by decide +kernel
theorem dX11_laysClear_89 : decode cX11_laysClear 89 = .ok (.istore_n 3, 1) := by decide +kernel
theorem dX11_laysClear_90 : decode cX11_laysClear 90 = .ok (.goto (-73), 3) := by decide +kernel
theorem dX11_laysClear_93 : decode cX11_laysClear 93 = .ok (.iinc 2 1, 3) := by decide +kernel
theorem dX11_laysClear_96 : decode cX11_laysClear 96 = .ok (.goto (-89), 3) := by decide +kernel
theorem dX11_laysClear_99 : decode cX11_laysClear 99 = .ok (.aload_n 0, 1) := by decide +kernel
theorem dX11_laysClear_100 : decode cX11_laysClear 100 = .ok (.getfield 469, 3) := by decide +kernel
theorem dX11_laysClear_103 : decode cX11_laysClear 103 = .ok (.iconst (-1), 1) := by decide +kernel
theorem dX11_laysClear_104 : decode cX11_laysClear 104 = .ok (.if_icmp .eq 7, 3) := by decide +kernel
theorem dX11_laysClear_107 : decode cX11_laysClear 107 = .ok (.iconst 1, 1) := by decide +kernel
theorem dX11_laysClear_108 : decode cX11_laysClear 108 = .ok (.goto 4, 3) := by decide +kernel
theorem dX11_laysClear_111 : decode cX11_laysClear 111 = .ok (.iconst 0, 1) := by decide +kernel
theorem dX11_laysClear_112 : decode cX11_laysClear 112 = .ok (.ireturn, 1) := by decide +kernel
theorem dX11_clear_0 : decode cX11_clear 0 = .ok (.iload_n 1, 1) := by decide +kernel
theorem dX11_clear_1 : decode cX11_clear 1 = .ok (.iconst 2, 1) := by decide +kernel
theorem dX11_clear_2 : decode cX11_clear 2 = .ok (.if_icmp .eq 14, 3) := by decide +kernel
theorem dX11_clear_5 : decode cX11_clear 5 = .ok (.iload_n 1, 1) := by decide +kernel
theorem dX11_clear_6 : decode cX11_clear 6 = .ok (.iconst 4, 1) := by decide +kernel
theorem dX11_clear_7 : decode cX11_clear 7 = .ok (.if_icmp .eq 9, 3) := by decide +kernel
theorem dX11_clear_10 : decode cX11_clear 10 = .ok (.iload_n 1, 1) := by decide +kernel
theorem dX11_clear_11 : decode cX11_clear 11 = .ok (.bipush 8, 2) := by decide +kernel
theorem dX11_clear_13 : decode cX11_clear 13 = .ok (.if_icmp .ne 20, 3) := by decide +kernel
theorem dX11_clear_16 : decode cX11_clear 16 = .ok (.iload_n 2, 1) := by decide +kernel
theorem dX11_clear_17 : decode cX11_clear 17 = .ok (.iconst 0, 1) := by decide +kernel
theorem dX11_clear_18 : decode cX11_clear 18 = .ok (.iconst 2, 1) := by decide +kernel
theorem dX11_clear_19 : decode cX11_clear 19 = .ok (.invokestatic 89, 3) := by decide +kernel
theorem dX11_clear_22 : decode cX11_clear 22 = .ok (.ifCond .eq 11, 3) := by decide +kernel
theorem dX11_clear_25 : decode cX11_clear 25 = .ok (.aload_n 0, 1) := by decide +kernel
theorem dX11_clear_26 : decode cX11_clear 26 = .ok (.iload_n 1, 1) := by decide +kernel
theorem dX11_clear_27 : decode cX11_clear 27 = .ok (.invokevirtual 481, 3) := by decide +kernel
theorem dX11_clear_30 : decode cX11_clear 30 = .ok (.ifCond .ne 5, 3) := by decide +kernel
theorem dX11_clear_33 : decode cX11_clear 33 = .ok (.iconst (-1), 1) := by decide +kernel
theorem dX11_clear_34 : decode cX11_clear 34 = .ok (.ireturn, 1) := by decide +kernel
theorem dX11_clear_35 : decode cX11_clear 35 = .ok (.iload_n 2, 1) := by decide +kernel
theorem dX11_clear_36 : decode cX11_clear 36 = .ok (.ifCond .ne 10, 3) := by decide +kernel
theorem dX11_clear_39 : decode cX11_clear 39 = .ok (.aload_n 0, 1) := by decide +kernel
theorem dX11_clear_40 : decode cX11_clear 40 = .ok (.getfield 469, 3) := by decide +kernel
theorem dX11_clear_43 : decode cX11_clear 43 = .ok (.goto 19, 3) := by decide +kernel
theorem dX11_clear_46 : decode cX11_clear 46 = .ok (.iload_n 2, 1) := by decide +kernel
theorem dX11_clear_47 : decode cX11_clear 47 = .ok (.iconst 1, 1) := by decide +kernel
theorem dX11_clear_48 : decode cX11_clear 48 = .ok (.if_icmp .ne 10, 3) := by decide +kernel
theorem dX11_clear_51 : decode cX11_clear 51 = .ok (.aload_n 0, 1) := by decide +kernel
theorem dX11_clear_52 : decode cX11_clear 52 = .ok (.getfield 475, 3) := by decide +kernel
theorem dX11_clear_55 : decode cX11_clear 55 = .ok (.goto 7, 3) := by decide +kernel
theorem dX11_clear_58 : decode cX11_clear 58 = .ok (.aload_n 0, 1) := by decide +kernel
theorem dX11_clear_59 : decode cX11_clear 59 = .ok (.getfield 478, 3) := by decide +kernel
theorem dX11_clear_62 : decode cX11_clear 62 = .ok (.ireturn, 1) := by decide +kernel
theorem dX11_nearest_0 : decode cX11_nearest 0 = .ok (.iconst (-1), 1) := by decide +kernel
theorem dX11_nearest_1 : decode cX11_nearest 1 = .ok (.istore_n 1, 1) := by decide +kernel
theorem dX11_nearest_2 : decode cX11_nearest 2 = .ok (.iconst 0, 1) := by decide +kernel
theorem dX11_nearest_3 : decode cX11_nearest 3 = .ok (.istore_n 2, 1) := by decide +kernel
theorem dX11_nearest_4 : decode cX11_nearest 4 = .ok (.iconst 0, 1) := by decide +kernel
theorem dX11_nearest_5 : decode cX11_nearest 5 = .ok (.istore_n 3, 1) := by decide +kernel
theorem dX11_nearest_6 : decode cX11_nearest 6 = .ok (.iload_n 3, 1) := by decide +kernel
theorem dX11_nearest_7 : decode cX11_nearest 7 = .ok (.aload_n 0, 1) := by decide +kernel
theorem dX11_nearest_8 : decode cX11_nearest 8 = .ok (.getfield 252, 3) := by decide +kernel
theorem dX11_nearest_11 : decode cX11_nearest 11 = .ok (.if_icmp .ge 66, 3) := by decide +kernel
theorem dX11_nearest_14 : decode cX11_nearest 14 = .ok (.aload_n 0, 1) := by decide +kernel
theorem dX11_nearest_15 : decode cX11_nearest 15 = .ok (.getfield 29, 3) := by decide +kernel
theorem dX11_nearest_18 : decode cX11_nearest 18 = .ok (.iload_n 3, 1) := by decide +kernel
theorem dX11_nearest_19 : decode cX11_nearest 19 = .ok (.iaload, 1) := by decide +kernel
theorem dX11_nearest_20 : decode cX11_nearest 20 = .ok (.iconst 2, 1) := by decide +kernel
theorem dX11_nearest_21 : decode cX11_nearest 21 = .ok (.if_icmp .ne 50, 3) := by decide +kernel
theorem dX11_nearest_24 : decode cX11_nearest 24 = .ok (.aload_n 0, 1) := by decide +kernel
theorem dX11_nearest_25 : decode cX11_nearest 25 = .ok (.iload_n 3, 1) := by decide +kernel
theorem dX11_nearest_26 : decode cX11_nearest 26 = .ok (.invokevirtual 283, 3) := by decide +kernel
theorem dX11_nearest_29 : decode cX11_nearest 29 = .ok (.ifCond .ne 42, 3) := by decide +kernel
theorem dX11_nearest_32 : decode cX11_nearest 32 = .ok (.aload_n 0, 1) := by decide +kernel
theorem dX11_nearest_33 : decode cX11_nearest 33 = .ok (.aload_n 0, 1) := by decide +kernel
theorem dX11_nearest_34 : decode cX11_nearest 34 = .ok (.getfield 32, 3) := by decide +kernel
theorem dX11_nearest_37 : decode cX11_nearest 37 = .ok (.iload_n 3, 1) := by decide +kernel
theorem dX11_nearest_38 : decode cX11_nearest 38 = .ok (.iaload, 1) := by decide +kernel
theorem dX11_nearest_39 : decode cX11_nearest 39 = .ok (.invokevirtual 481, 3) := by decide +kernel
theorem dX11_nearest_42 : decode cX11_nearest 42 = .ok (.ifCond .ne 6, 3) := by decide +kernel
theorem dX11_nearest_45 : decode cX11_nearest 45 = .ok (.goto 26, 3) := by decide +kernel
theorem dX11_nearest_48 : decode cX11_nearest 48 = .ok (.iload_n 1, 1) := by decide +kernel
theorem dX11_nearest_49 : decode cX11_nearest 49 = .ok (.iconst (-1), 1) := by decide +kernel
theorem dX11_nearest_50 : decode cX11_nearest 50 = .ok (.if_icmp .eq 14, 3) := by decide +kernel
theorem dX11_nearest_53 : decode cX11_nearest 53 = .ok (.aload_n 0, 1) := by decide +kernel
theorem dX11_nearest_54 : decode cX11_nearest 54 = .ok (.getfield 469, 3) := by decide +kernel
theorem dX11_nearest_57 : decode cX11_nearest 57 = .ok (.iload_n 2, 1) := by decide +kernel
theorem dX11_nearest_58 : decode cX11_nearest 58 = .ok (.if_icmp .lt 6, 3) := by decide +kernel
theorem dX11_nearest_61 : decode cX11_nearest 61 = .ok (.goto 10, 3) := by decide +kernel
theorem dX11_nearest_64 : decode cX11_nearest 64 = .ok (.iload_n 3, 1) := by decide +kernel
theorem dX11_nearest_65 : decode cX11_nearest 65 = .ok (.istore_n 1, 1) := by decide +kernel
theorem dX11_nearest_66 : decode cX11_nearest 66 = .ok (.aload_n 0, 1) := by decide +kernel
theorem dX11_nearest_67 : decode cX11_nearest 67 = .ok (.getfield 469, 3) := by decide +kernel
theorem dX11_nearest_70 : decode cX11_nearest 70 = .ok (.istore_n 2, 1) := by decide +kernel
theorem dX11_nearest_71 : decode cX11_nearest 71 = .ok (.iinc 3 1, 3) := by decide +kernel
theorem dX11_nearest_74 : decode cX11_nearest 74 = .ok (.goto (-68), 3) := by decide +kernel
theorem dX11_nearest_77 : decode cX11_nearest 77 = .ok (.iload_n 1, 1) := by decide +kernel
theorem dX11_nearest_78 : decode cX11_nearest 78 = .ok (.ireturn, 1) := by decide +kernel
theorem dX11_triesNow_0 : decode cX11_triesNow 0 = .ok (.iconst 0, 1) := by decide +kernel
theorem dX11_triesNow_1 : decode cX11_triesNow 1 = .ok (.istore_n 1, 1) := by decide +kernel
theorem dX11_triesNow_2 : decode cX11_triesNow 2 = .ok (.iload_n 1, 1) := by decide +kernel
theorem dX11_triesNow_3 : decode cX11_triesNow 3 = .ok (.sipush 1775, 3) := by decide +kernel
theorem dX11_triesNow_6 : decode cX11_triesNow 6 = .ok (.if_icmp .ge 21, 3) := by decide +kernel
theorem dX11_triesNow_9 : decode cX11_triesNow 9 = .ok (.aload_n 0, 1) := by decide +kernel
theorem dX11_triesNow_10 : decode cX11_triesNow 10 = .ok (.getfield 66, 3) := by decide +kernel
theorem dX11_triesNow_13 : decode cX11_triesNow 13 = .ok (.iload_n 1, 1) := by decide +kernel
theorem dX11_triesNow_14 : decode cX11_triesNow 14 = .ok (.aload_n 0, 1) := by decide +kernel
theorem dX11_triesNow_15 : decode cX11_triesNow 15 = .ok (.getfield 51, 3) := by decide +kernel
theorem dX11_triesNow_18 : decode cX11_triesNow 18 = .ok (.iload_n 1, 1) := by decide +kernel
theorem dX11_triesNow_19 : decode cX11_triesNow 19 = .ok (.iaload, 1) := by decide +kernel
theorem dX11_triesNow_20 : decode cX11_triesNow 20 = .ok (.iastore, 1) := by decide +kernel
theorem dX11_triesNow_21 : decode cX11_triesNow 21 = .ok (.iinc 1 1, 3) := by decide +kernel
theorem dX11_triesNow_24 : decode cX11_triesNow 24 = .ok (.goto (-22), 3) := by decide +kernel
theorem dX11_triesNow_27 : decode cX11_triesNow 27 = .ok (.return_, 1) := by decide +kernel
theorem dX11_endsTry_0 : decode cX11_endsTry 0 = .ok (.iconst 0, 1) := by decide +kernel
theorem dX11_endsTry_1 : decode cX11_endsTry 1 = .ok (.istore_n 1, 1) := by decide +kernel
theorem dX11_endsTry_2 : decode cX11_endsTry 2 = .ok (.iload_n 1, 1) := by decide +kernel
theorem dX11_endsTry_3 : decode cX11_endsTry 3 = .ok (.sipush 1775, 3) := by decide +kernel
theorem dX11_endsTry_6 : decode cX11_endsTry 6 = .ok (.if_icmp .ge 21, 3) := by decide +kernel
theorem dX11_endsTry_9 : decode cX11_endsTry 9 = .ok (.aload_n 0, 1) := by decide +kernel
theorem dX11_endsTry_10 : decode cX11_endsTry 10 = .ok (.getfield 51, 3) := by decide +kernel
theorem dX11_endsTry_13 : decode cX11_endsTry 13 = .ok (.iload_n 1, 1) := by decide +kernel
theorem dX11_endsTry_14 : decode cX11_endsTry 14 = .ok (.aload_n 0, 1) := by decide +kernel
theorem dX11_endsTry_15 : decode cX11_endsTry 15 = .ok (.getfield 66, 3) := by decide +kernel
theorem dX11_endsTry_18 : decode cX11_endsTry 18 = .ok (.iload_n 1, 1) := by decide +kernel
theorem dX11_endsTry_19 : decode cX11_endsTry 19 = .ok (.iaload, 1) := by decide +kernel
theorem dX11_endsTry_20 : decode cX11_endsTry 20 = .ok (.iastore, 1) := by decide +kernel
theorem dX11_endsTry_21 : decode cX11_endsTry 21 = .ok (.iinc 1 1, 3) := by decide +kernel
theorem dX11_endsTry_24 : decode cX11_endsTry 24 = .ok (.goto (-22), 3) := by decide +kernel
theorem dX11_endsTry_27 : decode cX11_endsTry 27 = .ok (.return_, 1) := by decide +kernel
theorem dX11_without_0 : decode cX11_without 0 = .ok (.aload_n 0, 1) := by decide +kernel
theorem dX11_without_1 : decode cX11_without 1 = .ok (.iload_n 1, 1) := by decide +kernel
theorem dX11_without_2 : decode cX11_without 2 = .ok (.invokevirtual 433, 3) := by decide +kernel
theorem dX11_without_5 : decode cX11_without 5 = .ok (.ifCond .eq 12, 3) := by decide +kernel
theorem dX11_without_8 : decode cX11_without 8 = .ok (.iload_n 2, 1) := by decide +kernel
theorem dX11_without_9 : decode cX11_without 9 = .ok (.iconst 0, 1) := by decide +kernel
theorem dX11_without_10 : decode cX11_without 10 = .ok (.iconst 1, 1) := by decide +kernel
theorem dX11_without_11 : decode cX11_without 11 = .ok (.invokestatic 89, 3) := by decide +kernel
theorem dX11_without_14 : decode cX11_without 14 = .ok (.ifCond .ne 5, 3) := by decide +kernel
theorem dX11_without_17 : decode cX11_without 17 = .ok (.iconst (-1), 1) := by decide +kernel
theorem dX11_without_18 : decode cX11_without 18 = .ok (.ireturn, 1) := by decide +kernel
theorem dX11_without_19 : decode cX11_without 19 = .ok (.aload_n 0, 1) := by decide +kernel
theorem dX11_without_20 : decode cX11_without 20 = .ok (.invokevirtual 484, 3) := by decide +kernel
theorem dX11_without_23 : decode cX11_without 23 = .ok (.aload_n 0, 1) := by decide +kernel
theorem dX11_without_24 : decode cX11_without 24 = .ok (.iload_n 1, 1) := by decide +kernel
theorem dX11_without_25 : decode cX11_without 25 = .ok (.invokevirtual 436, 3) := by decide +kernel
theorem dX11_without_28 : decode cX11_without 28 = .ok (.istore_n 3, 1) := by decide +kernel
theorem dX11_without_29 : decode cX11_without 29 = .ok (.iconst 0, 1) := by decide +kernel
theorem dX11_without_30 : decode cX11_without 30 = .ok (.istore 4, 2) := by decide +kernel
theorem dX11_without_32 : decode cX11_without 32 = .ok (.iconst 0, 1) := by decide +kernel
theorem dX11_without_33 : decode cX11_without 33 = .ok (.istore 5, 2) := by decide +kernel
theorem dX11_without_35 : decode cX11_without 35 = .ok (.iload 5, 2) := by decide +kernel
theorem dX11_without_37 : decode cX11_without 37 = .ok (.bipush 80, 2) := by decide +kernel
theorem dX11_without_39 : decode cX11_without 39 = .ok (.if_icmp .ge 47, 3) := by decide +kernel
theorem dX11_without_42 : decode cX11_without 42 = .ok (.iload 4, 2) := by decide +kernel
theorem dX11_without_44 : decode cX11_without 44 = .ok (.aload_n 0, 1) := by decide +kernel
theorem dX11_without_45 : decode cX11_without 45 = .ok (.getfield 51, 3) := by decide +kernel
theorem dX11_without_48 : decode cX11_without 48 = .ok (.sipush 1024, 3) := by decide +kernel
theorem dX11_without_51 : decode cX11_without 51 = .ok (.iload 5, 2) := by decide +kernel
theorem dX11_without_53 : decode cX11_without 53 = .ok (.iadd, 1) := by decide +kernel
theorem dX11_without_54 : decode cX11_without 54 = .ok (.iaload, 1) := by decide +kernel
theorem dX11_without_55 : decode cX11_without 55 = .ok (.aload_n 0, 1) := by decide +kernel
theorem dX11_without_56 : decode cX11_without 56 = .ok (.getfield 66, 3) := by decide +kernel
theorem dX11_without_59 : decode cX11_without 59 = .ok (.sipush 1024, 3) := by decide +kernel
theorem dX11_without_62 : decode cX11_without 62 = .ok (.iload 5, 2) := by decide +kernel
theorem dX11_without_64 : decode cX11_without 64 = .ok (.iadd, 1) := by decide +kernel
theorem dX11_without_65 : decode cX11_without 65 = .ok (.iaload, 1) := by decide +kernel
theorem dX11_without_66 : decode cX11_without 66 = .ok (.if_icmp .eq 7, 3) := by decide +kernel
theorem dX11_without_69 : decode cX11_without 69 = .ok (.iconst 1, 1) := by decide +kernel
theorem dX11_without_70 : decode cX11_without 70 = .ok (.goto 4, 3) := by decide +kernel
theorem dX11_without_73 : decode cX11_without 73 = .ok (.iconst 0, 1) := by decide +kernel
theorem dX11_without_74 : decode cX11_without 74 = .ok (.invokestatic 255, 3) := by decide +kernel
theorem dX11_without_77 : decode cX11_without 77 = .ok (.iadd, 1) := by decide +kernel
theorem dX11_without_78 : decode cX11_without 78 = .ok (.istore 4, 2) := by decide +kernel
theorem dX11_without_80 : decode cX11_without 80 = .ok (.iinc 5 1, 3) := by decide +kernel
theorem dX11_without_83 : decode cX11_without 83 = .ok (.goto (-48), 3) := by decide +kernel
theorem dX11_without_86 : decode cX11_without 86 = .ok (.aload_n 0, 1) := by decide +kernel
theorem dX11_without_87 : decode cX11_without 87 = .ok (.invokevirtual 487, 3) := by decide +kernel
theorem dX11_without_90 : decode cX11_without 90 = .ok (.iload_n 2, 1) := by decide +kernel
theorem dX11_without_91 : decode cX11_without 91 = .ok (.ifCond .ne 7, 3) := by decide +kernel
theorem dX11_without_94 : decode cX11_without 94 = .ok (.iload_n 3, 1) := by decide +kernel
theorem dX11_without_95 : decode cX11_without 95 = .ok (.goto 5, 3) := by decide +kernel
theorem dX11_without_98 : decode cX11_without 98 = .ok (.iload 4, 2) := by decide +kernel
theorem dX11_without_100 : decode cX11_without 100 = .ok (.ireturn, 1) := by decide +kernel
theorem dX11_startedLines_0 : decode cX11_startedLines 0 = .ok (.iconst 0, 1) := by decide +kernel
theorem dX11_startedLines_1 : decode cX11_startedLines 1 = .ok (.istore_n 1, 1) := by decide +kernel
theorem dX11_startedLines_2 : decode cX11_startedLines 2 = .ok (.iconst 0, 1) := by decide +kernel
theorem dX11_startedLines_3 : decode cX11_startedLines 3 = .ok (.istore_n 2, 1) := by decide +kernel
theorem dX11_startedLines_4 : decode cX11_startedLines 4 = .ok (.iload_n 2, 1) := by decide +kernel
theorem dX11_startedLines_5 : decode cX11_startedLines 5 = .ok (.aload_n 0, 1) := by decide +kernel
theorem dX11_startedLines_6 : decode cX11_startedLines 6 = .ok (.getfield 252, 3) := by decide +kernel
theorem dX11_startedLines_9 : decode cX11_startedLines 9 = .ok (.if_icmp .ge 30, 3) := by decide +kernel
theorem dX11_startedLines_12 : decode cX11_startedLines 12 = .ok (.iload_n 1, 1) := by decide +kernel
theorem dX11_startedLines_13 : decode cX11_startedLines 13 = .ok (.aload_n 0, 1) := by decide +kernel
theorem dX11_startedLines_14 : decode cX11_startedLines 14 = .ok (.iload_n 2, 1) := by decide +kernel
theorem dX11_startedLines_15 : decode cX11_startedLines 15 = .ok (.invokevirtual 283, 3) := by decide +kernel
theorem dX11_startedLines_18 : decode cX11_startedLines 18 = .ok (.ifCond .eq 12, 3) := by decide +kernel
theorem dX11_startedLines_21 : decode cX11_startedLines 21 = .ok (.aload_n 0, 1) := by decide +kernel
theorem dX11_startedLines_22 : decode cX11_startedLines 22 = .ok (.getfield 32, 3) := by decide +kernel
theorem dX11_startedLines_25 : decode cX11_startedLines 25 = .ok (.iload_n 2, 1) := by decide +kernel
theorem dX11_startedLines_26 : decode cX11_startedLines 26 = .ok (.iaload, 1) := by decide +kernel
theorem dX11_startedLines_27 : decode cX11_startedLines 27 = .ok (.goto 4, 3) := by decide +kernel
theorem dX11_startedLines_30 : decode cX11_startedLines 30 = .ok (.iconst 0, 1) := by decide +kernel
theorem dX11_startedLines_31 : decode cX11_startedLines 31 = .ok (.iadd, 1) := by decide +kernel
theorem dX11_startedLines_32 : decode cX11_startedLines 32 = .ok (.istore_n 1, 1) := by decide +kernel
theorem dX11_startedLines_33 : decode cX11_startedLines 33 = .ok (.iinc 2 1, 3) := by decide +kernel
theorem dX11_startedLines_36 : decode cX11_startedLines 36 = .ok (.goto (-32), 3) := by decide +kernel
theorem dX11_startedLines_39 : decode cX11_startedLines 39 = .ok (.iload_n 1, 1) := by decide +kernel
theorem dX11_startedLines_40 : decode cX11_startedLines 40 = .ok (.ireturn, 1) := by decide +kernel
theorem dX11_raisesAt_0 : decode cX11_raisesAt 0 = .ok (.iload_n 1, 1) := by decide +kernel
theorem dX11_raisesAt_1 : decode cX11_raisesAt 1 = .ok (.istore_n 2, 1) := by decide +kernel
theorem dX11_raisesAt_2 : decode cX11_raisesAt 2 = .ok (.iconst 0, 1) := by decide +kernel
theorem dX11_raisesAt_3 : decode cX11_raisesAt 3 = .ok (.istore_n 3, 1) := by decide +kernel
theorem dX11_raisesAt_4 : decode cX11_raisesAt 4 = .ok (.iload_n 3, 1) := by decide +kernel
theorem dX11_raisesAt_5 : decode cX11_raisesAt 5 = .ok (.aload_n 0, 1) := by decide +kernel
theorem dX11_raisesAt_6 : decode cX11_raisesAt 6 = .ok (.getfield 252, 3) := by decide +kernel
theorem dX11_raisesAt_9 : decode cX11_raisesAt 9 = .ok (.if_icmp .ge 54, 3) := by decide +kernel
theorem dX11_raisesAt_12 : decode cX11_raisesAt 12 = .ok (.aload_n 0, 1) := by decide +kernel
theorem dX11_raisesAt_13 : decode cX11_raisesAt 13 = .ok (.iload_n 3, 1) := by decide +kernel
theorem dX11_raisesAt_14 : decode cX11_raisesAt 14 = .ok (.invokevirtual 283, 3) := by decide +kernel
theorem dX11_raisesAt_17 : decode cX11_raisesAt 17 = .ok (.ifCond .ne 6, 3) := by decide +kernel
theorem dX11_raisesAt_20 : decode cX11_raisesAt 20 = .ok (.goto 37, 3) := by decide +kernel
theorem dX11_raisesAt_23 : decode cX11_raisesAt 23 = .ok (.iload_n 2, 1) := by decide +kernel
theorem dX11_raisesAt_24 : decode cX11_raisesAt 24 = .ok (.iconst 0, 1) := by decide +kernel
theorem dX11_raisesAt_25 : decode cX11_raisesAt 25 = .ok (.aload_n 0, 1) := by decide +kernel
theorem dX11_raisesAt_26 : decode cX11_raisesAt 26 = .ok (.getfield 32, 3) := by decide +kernel
theorem dX11_raisesAt_29 : decode cX11_raisesAt 29 = .ok (.iload_n 3, 1) := by decide +kernel
theorem dX11_raisesAt_30 : decode cX11_raisesAt 30 = .ok (.iaload, 1) := by decide +kernel
theorem dX11_raisesAt_31 : decode cX11_raisesAt 31 = .ok (.iconst 1, 1) := by decide +kernel
theorem dX11_raisesAt_32 : decode cX11_raisesAt 32 = .ok (.isub, 1) := by decide +kernel
theorem dX11_raisesAt_33 : decode cX11_raisesAt 33 = .ok (.invokestatic 89, 3) := by decide +kernel
theorem dX11_raisesAt_36 : decode cX11_raisesAt 36 = .ok (.ifCond .eq 12, 3) := by decide +kernel
theorem dX11_raisesAt_39 : decode cX11_raisesAt 39 = .ok (.aload_n 0, 1) := by decide +kernel
theorem dX11_raisesAt_40 : decode cX11_raisesAt 40 = .ok (.iload_n 3, 1) := by decide +kernel
theorem dX11_raisesAt_41 : decode cX11_raisesAt 41 = .ok (.iload_n 2, 1) := by decide +kernel
theorem dX11_raisesAt_42 : decode cX11_raisesAt 42 = .ok (.iconst 0, 1) := by decide +kernel
theorem dX11_raisesAt_43 : decode cX11_raisesAt 43 = .ok (.invokevirtual 423, 3) := by decide +kernel
theorem dX11_raisesAt_46 : decode cX11_raisesAt 46 = .ok (.istore 4, 2) := by decide +kernel
theorem dX11_raisesAt_48 : decode cX11_raisesAt 48 = .ok (.iload_n 2, 1) := by decide +kernel
theorem dX11_raisesAt_49 : decode cX11_raisesAt 49 = .ok (.aload_n 0, 1) := by decide +kernel
theorem dX11_raisesAt_50 : decode cX11_raisesAt 50 = .ok (.getfield 32, 3) := by decide +kernel
theorem dX11_raisesAt_53 : decode cX11_raisesAt 53 = .ok (.iload_n 3, 1) := by decide +kernel
theorem dX11_raisesAt_54 : decode cX11_raisesAt 54 = .ok (.iaload, 1) := by decide +kernel
theorem dX11_raisesAt_55 : decode cX11_raisesAt 55 = .ok (.isub, 1) := by decide +kernel
theorem dX11_raisesAt_56 : decode cX11_raisesAt 56 = .ok (.istore_n 2, 1) := by decide +kernel
theorem dX11_raisesAt_57 : decode cX11_raisesAt 57 = .ok (.iinc 3 1, 3) := by decide +kernel
theorem dX11_raisesAt_60 : decode cX11_raisesAt 60 = .ok (.goto (-56), 3) := by decide +kernel
theorem dX11_raisesAt_63 : decode cX11_raisesAt 63 = .ok (.return_, 1) := by decide +kernel
theorem dX11_storm_0 : decode cX11_storm 0 = .ok (.iload_n 1, 1) := by decide +kernel
theorem dX11_storm_1 : decode cX11_storm 1 = .ok (.iconst 0, 1) := by decide +kernel
theorem dX11_storm_2 : decode cX11_storm 2 = .ok (.sipush 9999, 3) := by decide +kernel
theorem dX11_storm_5 : decode cX11_storm 5 = .ok (.invokestatic 89, 3) := by decide +kernel
theorem dX11_storm_8 : decode cX11_storm 8 = .ok (.ifCond .eq 23, 3) := by decide +kernel
theorem dX11_storm_11 : decode cX11_storm 11 = .ok (.iload_n 2, 1) := by decide +kernel
theorem dX11_storm_12 : decode cX11_storm 12 = .ok (.iconst 0, 1) := by decide +kernel
theorem dX11_storm_13 : decode cX11_storm 13 = .ok (.sipush 500, 3) := by decide +kernel
theorem dX11_storm_16 : decode cX11_storm 16 = .ok (.invokestatic 89, 3) := by decide +kernel
theorem dX11_storm_19 : decode cX11_storm 19 = .ok (.ifCond .eq 12, 3) := by decide +kernel
theorem dX11_storm_22 : decode cX11_storm 22 = .ok (.iload_n 3, 1) := by decide +kernel
theorem dX11_storm_23 : decode cX11_storm 23 = .ok (.iconst 0, 1) := by decide +kernel
theorem dX11_storm_24 : decode cX11_storm 24 = .ok (.iconst 3, 1) := by decide +kernel
theorem dX11_storm_25 : decode cX11_storm 25 = .ok (.invokestatic 89, 3) := by decide +kernel
theorem dX11_storm_28 : decode cX11_storm 28 = .ok (.ifCond .ne 5, 3) := by decide +kernel
theorem dX11_storm_31 : decode cX11_storm 31 = .ok (.iconst (-1), 1) := by decide +kernel
theorem dX11_storm_32 : decode cX11_storm 32 = .ok (.ireturn, 1) := by decide +kernel
theorem dX11_storm_33 : decode cX11_storm 33 = .ok (.aload_n 0, 1) := by decide +kernel
theorem dX11_storm_34 : decode cX11_storm 34 = .ok (.invokevirtual 484, 3) := by decide +kernel
theorem dX11_storm_37 : decode cX11_storm 37 = .ok (.iload_n 1, 1) := by decide +kernel
theorem dX11_storm_38 : decode cX11_storm 38 = .ok (.istore 4, 2) := by decide +kernel
theorem dX11_storm_40 : decode cX11_storm 40 = .ok (.iconst 0, 1) := by decide +kernel
theorem dX11_storm_41 : decode cX11_storm 41 = .ok (.istore 5, 2) := by decide +kernel
theorem dX11_storm_43 : decode cX11_storm 43 = .ok (.aload_n 0, 1) := by decide +kernel
theorem dX11_storm_44 : decode cX11_storm 44 = .ok (.invokevirtual 490, 3) := by decide +kernel
theorem dX11_storm_47 : decode cX11_storm 47 = .ok (.istore 6, 2) := by decide +kernel
theorem dX11_storm_49 : decode cX11_storm 49 = .ok (.iconst 0, 1) := by decide +kernel
theorem dX11_storm_50 : decode cX11_storm 50 = .ok (.istore 7, 2) := by decide +kernel
theorem dX11_storm_52 : decode cX11_storm 52 = .ok (.iload 7, 2) := by decide +kernel
theorem dX11_storm_54 : decode cX11_storm 54 = .ok (.iload_n 2, 1) := by decide +kernel
theorem dX11_storm_55 : decode cX11_storm 55 = .ok (.if_icmp .ge 78, 3) := by decide +kernel
theorem dX11_storm_58 : decode cX11_storm 58 = .ok (.sipush 137, 3) := by decide +kernel
theorem dX11_storm_61 : decode cX11_storm 61 = .ok (.iload 4, 2) := by decide +kernel
theorem dX11_storm_63 : decode cX11_storm 63 = .ok (.imul, 1) := by decide +kernel
theorem dX11_storm_64 : decode cX11_storm 64 = .ok (.bipush 71, 2) := by decide +kernel
theorem dX11_storm_66 : decode cX11_storm 66 = .ok (.iadd, 1) := by decide +kernel
theorem dX11_storm_67 : decode cX11_storm 67 = .ok (.sipush 10007, 3) := by decide +kernel
theorem dX11_storm_70 : decode cX11_storm 70 = .ok (.irem, 1) := by decide +kernel
theorem dX11_storm_71 : decode cX11_storm 71 = .ok (.istore 4, 2) := by decide +kernel
theorem dX11_storm_73 : decode cX11_storm 73 = .ok (.iload 4, 2) := by decide +kernel
theorem dX11_storm_75 : decode cX11_storm 75 = .ok (.iconst 4, 1) := by decide +kernel
theorem dX11_storm_76 : decode cX11_storm 76 = .ok (.irem, 1) := by decide +kernel
theorem dX11_storm_77 : decode cX11_storm 77 = .ok (.ifCond .ne 10, 3) := by decide +kernel
theorem dX11_storm_80 : decode cX11_storm 80 = .ok (.aload_n 0, 1) := by decide +kernel
theorem dX11_storm_81 : decode cX11_storm 81 = .ok (.invokevirtual 427, 3) := by decide +kernel
theorem dX11_storm_84 : decode cX11_storm 84 = .ok (.goto 32, 3) := by decide +kernel
theorem dX11_storm_87 : decode cX11_storm 87 = .ok (.sipush 137, 3) := by decide +kernel
theorem dX11_storm_90 : decode cX11_storm 90 = .ok (.iload 4, 2) := by decide +kernel
theorem dX11_storm_92 : decode cX11_storm 92 = .ok (.imul, 1) := by decide +kernel
theorem dX11_storm_93 : decode cX11_storm 93 = .ok (.bipush 71, 2) := by decide +kernel
theorem dX11_storm_95 : decode cX11_storm 95 = .ok (.iadd, 1) := by decide +kernel
theorem dX11_storm_96 : decode cX11_storm 96 = .ok (.sipush 10007, 3) := by decide +kernel
theorem dX11_storm_99 : decode cX11_storm 99 = .ok (.irem, 1) := by decide +kernel
theorem dX11_storm_100 : decode cX11_storm 100 = .ok (.istore 4, 2) := by decide +kernel
theorem dX11_storm_102 : decode cX11_storm 102 = .ok (.iload 6, 2) := by decide +kernel
theorem dX11_storm_104 : decode cX11_storm 104 = .ok (.ifCond .le 12, 3) := by decide +kernel
theorem dX11_storm_107 : decode cX11_storm 107 = .ok (.aload_n 0, 1) := by decide +kernel
theorem dX11_storm_108 : decode cX11_storm 108 = .ok (.iload 4, 2) := by decide +kernel
theorem dX11_storm_110 : decode cX11_storm 110 = .ok (.iload 6, 2) := by decide +kernel
theorem dX11_storm_112 : decode cX11_storm 112 = .ok (.irem, 1) := by decide +kernel
theorem dX11_storm_113 : decode cX11_storm 113 = .ok (.invokevirtual 493, 3) := by decide +kernel
theorem dX11_storm_116 : decode cX11_storm 116 = .ok (.iload 5, 2) := by decide +kernel
theorem dX11_storm_118 : decode cX11_storm 118 = .ok (.aload_n 0, 1) := by decide +kernel
theorem dX11_storm_119 : decode cX11_storm 119 = .ok (.invokevirtual 496, 3) := by decide +kernel
theorem dX11_storm_122 : decode cX11_storm 122 = .ok (.invokestatic 466, 3) := by decide +kernel
theorem dX11_storm_125 : decode cX11_storm 125 = .ok (.istore 5, 2) := by decide +kernel
theorem dX11_storm_127 : decode cX11_storm 127 = .ok (.iinc 7 1, 3) := by decide +kernel
theorem dX11_storm_130 : decode cX11_storm 130 = .ok (.goto (-78), 3) := by decide +kernel
theorem dX11_storm_133 : decode cX11_storm 133 = .ok (.aload_n 0, 1) := by decide +kernel
theorem dX11_storm_134 : decode cX11_storm 134 = .ok (.getfield 51, 3) := by decide +kernel
theorem dX11_storm_137 : decode cX11_storm 137 = .ok (.sipush 1571, 3) := by decide +kernel
theorem dX11_storm_140 : decode cX11_storm 140 = .ok (.iaload, 1) := by decide +kernel
theorem dX11_storm_141 : decode cX11_storm 141 = .ok (.aload_n 0, 1) := by decide +kernel
theorem dX11_storm_142 : decode cX11_storm 142 = .ok (.getfield 66, 3) := by decide +kernel
theorem dX11_storm_145 : decode cX11_storm 145 = .ok (.sipush 1571, 3) := by decide +kernel
theorem dX11_storm_148 : decode cX11_storm 148 = .ok (.iaload, 1) := by decide +kernel
theorem dX11_storm_149 : decode cX11_storm 149 = .ok (.isub, 1) := by decide +kernel
theorem dX11_storm_150 : decode cX11_storm 150 = .ok (.istore 7, 2) := by decide +kernel
theorem dX11_storm_152 : decode cX11_storm 152 = .ok (.aload_n 0, 1) := by decide +kernel
theorem dX11_storm_153 : decode cX11_storm 153 = .ok (.getfield 51, 3) := by decide +kernel
theorem dX11_storm_156 : decode cX11_storm 156 = .ok (.sipush 1572, 3) := by decide +kernel
theorem dX11_storm_159 : decode cX11_storm 159 = .ok (.iaload, 1) := by decide +kernel
theorem dX11_storm_160 : decode cX11_storm 160 = .ok (.aload_n 0, 1) := by decide +kernel
theorem dX11_storm_161 : decode cX11_storm 161 = .ok (.getfield 66, 3) := by decide +kernel
theorem dX11_storm_164 : decode cX11_storm 164 = .ok (.sipush 1572, 3) := by decide +kernel
theorem dX11_storm_167 : decode cX11_storm 167 = .ok (.iaload, 1) := by decide +kernel
theorem dX11_storm_168 : decode cX11_storm 168 = .ok (.isub, 1) := by decide +kernel
theorem dX11_storm_169 : decode cX11_storm 169 = .ok (.istore 8, 2) := by decide +kernel
theorem dX11_storm_171 : decode cX11_storm 171 = .ok (.aload_n 0, 1) := by decide +kernel
theorem dX11_storm_172 : decode cX11_storm 172 = .ok (.invokevirtual 496, 3) := by decide +kernel
theorem dX11_storm_175 : decode cX11_storm 175 = .ok (.istore 9, 2) := by decide +kernel
theorem dX11_storm_177 : decode cX11_storm 177 = .ok (.aload_n 0, 1) := by decide +kernel
theorem dX11_storm_178 : decode cX11_storm 178 = .ok (.invokevirtual 487, 3) := by decide +kernel
theorem dX11_storm_181 : decode cX11_storm 181 = .ok (.iload_n 3, 1) := by decide +kernel
theorem dX11_storm_182 : decode cX11_storm 182 = .ok (.ifCond .ne 8, 3) := by decide +kernel
theorem dX11_storm_185 : decode cX11_storm 185 = .ok (.iload 7, 2) := by decide +kernel
theorem dX11_storm_187 : decode cX11_storm 187 = .ok (.goto 25, 3) := by decide +kernel
theorem dX11_storm_190 : decode cX11_storm 190 = .ok (.iload_n 3, 1) := by decide +kernel
theorem dX11_storm_191 : decode cX11_storm 191 = .ok (.iconst 1, 1) := by decide +kernel
theorem dX11_storm_192 : decode cX11_storm 192 = .ok (.if_icmp .ne 8, 3) := by decide +kernel
theorem dX11_storm_195 : decode cX11_storm 195 = .ok (.iload 8, 2) := by decide +kernel
theorem dX11_storm_197 : decode cX11_storm 197 = .ok (.goto 15, 3) := by decide +kernel
theorem dX11_storm_200 : decode cX11_storm 200 = .ok (.iload_n 3, 1) := by decide +kernel
theorem dX11_storm_201 : decode cX11_storm 201 = .ok (.iconst 2, 1) := by decide +kernel
theorem dX11_storm_202 : decode cX11_storm 202 = .ok (.if_icmp .ne 8, 3) := by decide +kernel
theorem dX11_storm_205 : decode cX11_storm 205 = .ok (.iload 5, 2) := by decide +kernel
theorem dX11_storm_207 : decode cX11_storm 207 = .ok (.goto 5, 3) := by decide +kernel
theorem dX11_storm_210 : decode cX11_storm 210 = .ok (.iload 9, 2) := by decide +kernel
theorem dX11_storm_212 : decode cX11_storm 212 = .ok (.ireturn, 1) := by decide +kernel
theorem dX11_quiet_0 : decode cX11_quiet 0 = .ok (.iconst 0, 1) := by decide +kernel
theorem dX11_quiet_1 : decode cX11_quiet 1 = .ok (.istore_n 1, 1) := by decide +kernel
theorem dX11_quiet_2 : decode cX11_quiet 2 = .ok (.iconst 0, 1) := by decide +kernel
theorem dX11_quiet_3 : decode cX11_quiet 3 = .ok (.istore_n 2, 1) := by decide +kernel
theorem dX11_quiet_4 : decode cX11_quiet 4 = .ok (.iload_n 2, 1) := by decide +kernel
theorem dX11_quiet_5 : decode cX11_quiet 5 = .ok (.aload_n 0, 1) := by decide +kernel
theorem dX11_quiet_6 : decode cX11_quiet 6 = .ok (.getfield 240, 3) := by decide +kernel
theorem dX11_quiet_9 : decode cX11_quiet 9 = .ok (.if_icmp .ge 31, 3) := by decide +kernel
theorem dX11_quiet_12 : decode cX11_quiet 12 = .ok (.aload_n 0, 1) := by decide +kernel
theorem dX11_quiet_13 : decode cX11_quiet 13 = .ok (.iload_n 2, 1) := by decide +kernel
theorem dX11_quiet_14 : decode cX11_quiet 14 = .ok (.invokevirtual 292, 3) := by decide +kernel
theorem dX11_quiet_17 : decode cX11_quiet 17 = .ok (.ifCond .eq 15, 3) := by decide +kernel
theorem dX11_quiet_20 : decode cX11_quiet 20 = .ok (.iload_n 1, 1) := by decide +kernel
theorem dX11_quiet_21 : decode cX11_quiet 21 = .ok (.aload_n 0, 1) := by decide +kernel
theorem dX11_quiet_22 : decode cX11_quiet 22 = .ok (.iload_n 2, 1) := by decide +kernel
theorem dX11_quiet_23 : decode cX11_quiet 23 = .ok (.invokevirtual 295, 3) := by decide +kernel
theorem dX11_quiet_26 : decode cX11_quiet 26 = .ok (.invokestatic 466, 3) := by decide +kernel
theorem dX11_quiet_29 : decode cX11_quiet 29 = .ok (.goto 4, 3) := by decide +kernel
theorem dX11_quiet_32 : decode cX11_quiet 32 = .ok (.iload_n 1, 1) := by decide +kernel
theorem dX11_quiet_33 : decode cX11_quiet 33 = .ok (.istore_n 1, 1) := by decide +kernel
theorem dX11_quiet_34 : decode cX11_quiet 34 = .ok (.iinc 2 1, 3) := by decide +kernel
theorem dX11_quiet_37 : decode cX11_quiet 37 = .ok (.goto (-33), 3) := by decide +kernel
theorem dX11_quiet_40 : decode cX11_quiet 40 = .ok (.iload_n 1, 1) := by decide +kernel
theorem dX11_quiet_41 : decode cX11_quiet 41 = .ok (.ireturn, 1) := by decide +kernel
theorem dX11_log_0 : decode cX11_log 0 = .ok (.iload_n 1, 1) := by decide +kernel
theorem dX11_log_1 : decode cX11_log 1 = .ok (.iconst 0, 1) := by decide +kernel
theorem dX11_log_2 : decode cX11_log 2 = .ok (.aload_n 0, 1) := by decide +kernel
theorem dX11_log_3 : decode cX11_log 3 = .ok (.getfield 51, 3) := by decide +kernel
theorem dX11_log_6 : decode cX11_log 6 = .ok (.sipush 1574, 3) := by decide +kernel
theorem dX11_log_9 : decode cX11_log 9 = .ok (.iaload, 1) := by decide +kernel
theorem dX11_log_10 : decode cX11_log 10 = .ok (.iconst 1, 1) := by decide +kernel
theorem dX11_log_11 : decode cX11_log 11 = .ok (.isub, 1) := by decide +kernel
theorem dX11_log_12 : decode cX11_log 12 = .ok (.invokestatic 89, 3) := by decide +kernel
theorem dX11_log_15 : decode cX11_log 15 = .ok (.ifCond .eq 29, 3) := by decide +kernel
theorem dX11_log_18 : decode cX11_log 18 = .ok (.iload_n 2, 1) := by decide +kernel
theorem dX11_log_19 : decode cX11_log 19 = .ok (.iconst 0, 1) := by decide +kernel
theorem dX11_log_20 : decode cX11_log 20 = .ok (.iconst 4, 1) := by decide +kernel
theorem dX11_log_21 : decode cX11_log 21 = .ok (.invokestatic 89, 3) := by decide +kernel
theorem dX11_log_24 : decode cX11_log 24 = .ok (.ifCond .eq 20, 3) := by decide +kernel
theorem dX11_log_27 : decode cX11_log 27 = .ok (.aload_n 0, 1) := by decide +kernel
theorem dX11_log_28 : decode cX11_log 28 = .ok (.getfield 51, 3) := by decide +kernel
theorem dX11_log_31 : decode cX11_log 31 = .ok (.sipush 1575, 3) := by decide +kernel
theorem dX11_log_34 : decode cX11_log 34 = .ok (.iconst 5, 1) := by decide +kernel
theorem dX11_log_35 : decode cX11_log 35 = .ok (.iload_n 1, 1) := by decide +kernel
theorem dX11_log_36 : decode cX11_log 36 = .ok (.imul, 1) := by decide +kernel
theorem dX11_log_37 : decode cX11_log 37 = .ok (.iadd, 1) := by decide +kernel
theorem dX11_log_38 : decode cX11_log 38 = .ok (.iload_n 2, 1) := by decide +kernel
theorem dX11_log_39 : decode cX11_log 39 = .ok (.iadd, 1) := by decide +kernel
theorem dX11_log_40 : decode cX11_log 40 = .ok (.iaload, 1) := by decide +kernel
theorem dX11_log_41 : decode cX11_log 41 = .ok (.goto 4, 3) := by decide +kernel
theorem dX11_log_44 : decode cX11_log 44 = .ok (.iconst (-1), 1) := by decide +kernel
theorem dX11_log_45 : decode cX11_log 45 = .ok (.ireturn, 1) := by decide +kernel
theorem dX11_isAlike_0 : decode cX11_isAlike 0 = .ok (.aload_n 0, 1) := by decide +kernel
theorem dX11_isAlike_1 : decode cX11_isAlike 1 = .ok (.getfield 41, 3) := by decide +kernel
theorem dX11_isAlike_4 : decode cX11_isAlike 4 = .ok (.iload_n 1, 1) := by decide +kernel
theorem dX11_isAlike_5 : decode cX11_isAlike 5 = .ok (.iaload, 1) := by decide +kernel
theorem dX11_isAlike_6 : decode cX11_isAlike 6 = .ok (.iload_n 3, 1) := by decide +kernel
theorem dX11_isAlike_7 : decode cX11_isAlike 7 = .ok (.if_icmp .lt 47, 3) := by decide +kernel
theorem dX11_isAlike_10 : decode cX11_isAlike 10 = .ok (.aload_n 0, 1) := by decide +kernel
theorem dX11_isAlike_11 : decode cX11_isAlike 11 = .ok (.getfield 48, 3) := by decide +kernel
theorem dX11_isAlike_14 : decode cX11_isAlike 14 = .ok (.iload_n 1, 1) := by decide +kernel
theorem dX11_isAlike_15 : decode cX11_isAlike 15 = .ok (.laload, 1) := by decide +kernel
theorem dX11_isAlike_16 : decode cX11_isAlike 16 = .ok (.bipush 8, 2) := by decide +kernel
theorem dX11_isAlike_18 : decode cX11_isAlike 18 = .ok (.aload_n 0, 1) := by decide +kernel
theorem dX11_isAlike_19 : decode cX11_isAlike 19 = .ok (.getfield 41, 3) := by decide +kernel
theorem dX11_isAlike_22 : decode cX11_isAlike 22 = .ok (.iload_n 1, 1) := by decide +kernel
theorem dX11_isAlike_23 : decode cX11_isAlike 23 = .ok (.iaload, 1) := by decide +kernel
theorem dX11_isAlike_24 : decode cX11_isAlike 24 = .ok (.iload_n 3, 1) := by decide +kernel
theorem dX11_isAlike_25 : decode cX11_isAlike 25 = .ok (.isub, 1) := by decide +kernel
theorem dX11_isAlike_26 : decode cX11_isAlike 26 = .ok (.imul, 1) := by decide +kernel
theorem dX11_isAlike_27 : decode cX11_isAlike 27 = .ok (.lshr, 1) := by decide +kernel
theorem dX11_isAlike_28 : decode cX11_isAlike 28 = .ok (.aload_n 0, 1) := by decide +kernel
theorem dX11_isAlike_29 : decode cX11_isAlike 29 = .ok (.getfield 48, 3) := by decide +kernel
theorem dX11_isAlike_32 : decode cX11_isAlike 32 = .ok (.iload_n 2, 1) := by decide +kernel
theorem dX11_isAlike_33 : decode cX11_isAlike 33 = .ok (.laload, 1) := by decide +kernel
theorem dX11_isAlike_34 : decode cX11_isAlike 34 = .ok (.bipush 8, 2) := by decide +kernel
theorem dX11_isAlike_36 : decode cX11_isAlike 36 = .ok (.aload_n 0, 1) := by decide +kernel
theorem dX11_isAlike_37 : decode cX11_isAlike 37 = .ok (.getfield 41, 3) := by decide +kernel
theorem dX11_isAlike_40 : decode cX11_isAlike 40 = .ok (.iload_n 2, 1) := by decide +kernel
theorem dX11_isAlike_41 : decode cX11_isAlike 41 = .ok (.iaload, 1) := by decide +kernel
theorem dX11_isAlike_42 : decode cX11_isAlike 42 = .ok (.iload_n 3, 1) := by decide +kernel
theorem dX11_isAlike_43 : decode cX11_isAlike 43 = .ok (.isub, 1) := by decide +kernel
theorem dX11_isAlike_44 : decode cX11_isAlike 44 = .ok (.imul, 1) := by decide +kernel
theorem dX11_isAlike_45 : decode cX11_isAlike 45 = .ok (.lshr, 1) := by decide +kernel
theorem dX11_isAlike_46 : decode cX11_isAlike 46 = .ok (.lcmp, 1) := by decide +kernel
theorem dX11_isAlike_47 : decode cX11_isAlike 47 = .ok (.ifCond .ne 7, 3) := by decide +kernel
theorem dX11_isAlike_50 : decode cX11_isAlike 50 = .ok (.iconst 1, 1) := by decide +kernel
theorem dX11_isAlike_51 : decode cX11_isAlike 51 = .ok (.goto 4, 3) := by decide +kernel
theorem dX11_isAlike_54 : decode cX11_isAlike 54 = .ok (.iconst 0, 1) := by decide +kernel
theorem dX11_isAlike_55 : decode cX11_isAlike 55 = .ok (.ireturn, 1) := by decide +kernel
theorem dX11_alike_0 : decode cX11_alike 0 = .ok (.aload_n 0, 1) := by decide +kernel
theorem dX11_alike_1 : decode cX11_alike 1 = .ok (.iload_n 1, 1) := by decide +kernel
theorem dX11_alike_2 : decode cX11_alike 2 = .ok (.invokevirtual 280, 3) := by decide +kernel
theorem dX11_alike_5 : decode cX11_alike 5 = .ok (.ifCond .eq 13, 3) := by decide +kernel
theorem dX11_alike_8 : decode cX11_alike 8 = .ok (.iload_n 2, 1) := by decide +kernel
theorem dX11_alike_9 : decode cX11_alike 9 = .ok (.iconst 1, 1) := by decide +kernel
theorem dX11_alike_10 : decode cX11_alike 10 = .ok (.bipush 7, 2) := by decide +kernel
theorem dX11_alike_12 : decode cX11_alike 12 = .ok (.invokestatic 89, 3) := by decide +kernel
theorem dX11_alike_15 : decode cX11_alike 15 = .ok (.ifCond .ne 5, 3) := by decide +kernel
theorem dX11_alike_18 : decode cX11_alike 18 = .ok (.iconst (-1), 1) := by decide +kernel
theorem dX11_alike_19 : decode cX11_alike 19 = .ok (.ireturn, 1) := by decide +kernel
theorem dX11_alike_20 : decode cX11_alike 20 = .ok (.iload_n 2, 1) := by decide +kernel
theorem dX11_alike_21 : decode cX11_alike 21 = .ok (.aload_n 0, 1) := by decide +kernel
theorem dX11_alike_22 : decode cX11_alike 22 = .ok (.getfield 41, 3) := by decide +kernel
theorem dX11_alike_25 : decode cX11_alike 25 = .ok (.iload_n 1, 1) := by decide +kernel
theorem dX11_alike_26 : decode cX11_alike 26 = .ok (.iaload, 1) := by decide +kernel
theorem dX11_alike_27 : decode cX11_alike 27 = .ok (.invokestatic 362, 3) := by decide +kernel
theorem dX11_alike_30 : decode cX11_alike 30 = .ok (.istore_n 3, 1) := by decide +kernel
theorem dX11_alike_31 : decode cX11_alike 31 = .ok (.iconst 0, 1) := by decide +kernel
theorem dX11_alike_32 : decode cX11_alike 32 = .ok (.istore 4, 2) := by decide +kernel
theorem dX11_alike_34 : decode cX11_alike 34 = .ok (.iconst 0, 1) := by decide +kernel
theorem dX11_alike_35 : decode cX11_alike 35 = .ok (.istore 5, 2) := by decide +kernel
theorem dX11_alike_37 : decode cX11_alike 37 = .ok (.iload 5, 2) := by decide +kernel
theorem dX11_alike_39 : decode cX11_alike 39 = .ok (.aload_n 0, 1) := by decide +kernel
theorem dX11_alike_40 : decode cX11_alike 40 = .ok (.getfield 51, 3) := by decide +kernel
theorem dX11_alike_43 : decode cX11_alike 43 = .ok (.sipush 1574, 3) := by decide +kernel
theorem dX11_alike_46 : decode cX11_alike 46 = .ok (.iaload, 1) := by decide +kernel
theorem dX11_alike_47 : decode cX11_alike 47 = .ok (.if_icmp .ge 36, 3) := by decide +kernel
theorem dX11_alike_50 : decode cX11_alike 50 = .ok (.iload 4, 2) := by decide +kernel
theorem dX11_alike_52 : decode cX11_alike 52 = .ok (.aload_n 0, 1) := by decide +kernel
theorem dX11_alike_53 : decode cX11_alike 53 = .ok (.aload_n 0, 1) := by decide +kernel
theorem dX11_alike_54 : decode cX11_alike 54 = .ok (.getfield 51, 3) := by decide +kernel
theorem dX11_alike_57 : decode cX11_alike 57 = .ok (.sipush 1575, 3) := by decide +kernel
theorem dX11_alike_60 : decode cX11_alike 60 = .ok (.iconst 5, 1) := by decide +kernel
theorem dX11_alike_61 : decode cX11_alike 61 = .ok (.iload 5, 2) := by decide +kernel
theorem dX11_alike_63 : decode cX11_alike 63 = .ok (.imul, 1) := by decide +kernel
theorem dX11_alike_64 : decode cX11_alike 64 = .ok (.iadd, 1) := by decide +kernel
theorem dX11_alike_65 : decode cX11_alike 65 = .ok (.iaload, 1) := by decide +kernel
theorem dX11_alike_66 : decode cX11_alike 66 = .ok (.iload_n 1, 1) := by decide +kernel
theorem dX11_alike_67 : decode cX11_alike 67 = .ok (.iload_n 3, 1) := by decide +kernel
theorem dX11_alike_68 : decode cX11_alike 68 = .ok (.invokevirtual 499, 3) := by decide +kernel
theorem dX11_alike_71 : decode cX11_alike 71 = .ok (.invokestatic 255, 3) := by decide +kernel
theorem dX11_alike_74 : decode cX11_alike 74 = .ok (.iadd, 1) := by decide +kernel
theorem dX11_alike_75 : decode cX11_alike 75 = .ok (.istore 4, 2) := by decide +kernel
theorem dX11_alike_77 : decode cX11_alike 77 = .ok (.iinc 5 1, 3) := by decide +kernel
theorem dX11_alike_80 : decode cX11_alike 80 = .ok (.goto (-43), 3) := by decide +kernel
theorem dX11_alike_83 : decode cX11_alike 83 = .ok (.iload 4, 2) := by decide +kernel
theorem dX11_alike_85 : decode cX11_alike 85 = .ok (.ireturn, 1) := by decide +kernel
theorem dX11_law_0 : decode cX11_law 0 = .ok (.iconst 0, 1) := by decide +kernel
theorem dX11_law_1 : decode cX11_law 1 = .ok (.ireturn, 1) := by decide +kernel
theorem dX11_image_0 : decode cX11_image 0 = .ok (.iload_n 1, 1) := by decide +kernel
theorem dX11_image_1 : decode cX11_image 1 = .ok (.iconst 0, 1) := by decide +kernel
theorem dX11_image_2 : decode cX11_image 2 = .ok (.iconst 1, 1) := by decide +kernel
theorem dX11_image_3 : decode cX11_image 3 = .ok (.invokestatic 89, 3) := by decide +kernel
theorem dX11_image_6 : decode cX11_image 6 = .ok (.ifCond .ne 5, 3) := by decide +kernel
theorem dX11_image_9 : decode cX11_image 9 = .ok (.iconst (-1), 1) := by decide +kernel
theorem dX11_image_10 : decode cX11_image 10 = .ok (.ireturn, 1) := by decide +kernel
theorem dX11_image_11 : decode cX11_image 11 = .ok (.aload_n 0, 1) := by decide +kernel
theorem dX11_image_12 : decode cX11_image 12 = .ok (.getfield 72, 3) := by decide +kernel
theorem dX11_image_15 : decode cX11_image 15 = .ok (.iload_n 1, 1) := by decide +kernel
theorem dX11_image_16 : decode cX11_image 16 = .ok (.iconst 1, 1) := by decide +kernel
theorem dX11_image_17 : decode cX11_image 17 = .ok (.bastore, 1) := by decide +kernel
theorem dX11_image_18 : decode cX11_image 18 = .ok (.iconst 0, 1) := by decide +kernel
theorem dX11_image_19 : decode cX11_image 19 = .ok (.istore_n 2, 1) := by decide +kernel
theorem dX11_image_20 : decode cX11_image 20 = .ok (.iload_n 2, 1) := by decide +kernel
theorem dX11_image_21 : decode cX11_image 21 = .ok (.sipush 1775, 3) := by decide +kernel
theorem dX11_image_24 : decode cX11_image 24 = .ok (.if_icmp .ge 27, 3) := by decide +kernel
theorem dX11_image_27 : decode cX11_image 27 = .ok (.aload_n 0, 1) := by decide +kernel
theorem dX11_image_28 : decode cX11_image 28 = .ok (.getfield 69, 3) := by decide +kernel
theorem dX11_image_31 : decode cX11_image 31 = .ok (.sipush 1775, 3) := by decide +kernel
theorem dX11_image_34 : decode cX11_image 34 = .ok (.iload_n 1, 1) := by decide +kernel
theorem dX11_image_35 : decode cX11_image 35 = .ok (.imul, 1) := by decide +kernel
theorem dX11_image_36 : decode cX11_image 36 = .ok (.iload_n 2, 1) := by decide +kernel
theorem dX11_image_37 : decode cX11_image 37 = .ok (.iadd, 1) := by decide +kernel
theorem dX11_image_38 : decode cX11_image 38 = .ok (.aload_n 0, 1) := by decide +kernel
theorem dX11_image_39 : decode cX11_image 39 = .ok (.getfield 51, 3) := by decide +kernel
theorem dX11_image_42 : decode cX11_image 42 = .ok (.iload_n 2, 1) := by decide +kernel
theorem dX11_image_43 : decode cX11_image 43 = .ok (.iaload, 1) := by decide +kernel
theorem dX11_image_44 : decode cX11_image 44 = .ok (.iastore, 1) := by decide +kernel
theorem dX11_image_45 : decode cX11_image 45 = .ok (.iinc 2 1, 3) := by decide +kernel
theorem dX11_image_48 : decode cX11_image 48 = .ok (.goto (-28), 3) := by decide +kernel
theorem dX11_image_51 : decode cX11_image 51 = .ok (.aload_n 0, 1) := by decide +kernel
theorem dX11_image_52 : decode cX11_image 52 = .ok (.invokevirtual 502, 3) := by decide +kernel
theorem dX11_image_55 : decode cX11_image 55 = .ok (.ireturn, 1) := by decide +kernel
theorem dX11_back_0 : decode cX11_back 0 = .ok (.iload_n 1, 1) := by decide +kernel
theorem dX11_back_1 : decode cX11_back 1 = .ok (.iconst 0, 1) := by decide +kernel
theorem dX11_back_2 : decode cX11_back 2 = .ok (.iconst 1, 1) := by decide +kernel
theorem dX11_back_3 : decode cX11_back 3 = .ok (.invokestatic 89, 3) := by decide +kernel
theorem dX11_back_6 : decode cX11_back 6 = .ok (.ifCond .eq 12, 3) := by decide +kernel
theorem dX11_back_9 : decode cX11_back 9 = .ok (.aload_n 0, 1) := by decide +kernel
theorem dX11_back_10 : decode cX11_back 10 = .ok (.getfield 72, 3) := by decide +kernel
theorem dX11_back_13 : decode cX11_back 13 = .ok (.iload_n 1, 1) := by decide +kernel
theorem dX11_back_14 : decode cX11_back 14 = .ok (.baload, 1) := by decide +kernel
theorem dX11_back_15 : decode cX11_back 15 = .ok (.ifCond .ne 5, 3) := by decide +kernel
theorem dX11_back_18 : decode cX11_back 18 = .ok (.iconst (-1), 1) := by decide +kernel
theorem dX11_back_19 : decode cX11_back 19 = .ok (.ireturn, 1) := by decide +kernel
theorem dX11_back_20 : decode cX11_back 20 = .ok (.iconst 0, 1) := by decide +kernel
theorem dX11_back_21 : decode cX11_back 21 = .ok (.istore_n 2, 1) := by decide +kernel
theorem dX11_back_22 : decode cX11_back 22 = .ok (.iload_n 2, 1) := by decide +kernel
theorem dX11_back_23 : decode cX11_back 23 = .ok (.sipush 1775, 3) := by decide +kernel
theorem dX11_back_26 : decode cX11_back 26 = .ok (.if_icmp .ge 27, 3) := by decide +kernel
theorem dX11_back_29 : decode cX11_back 29 = .ok (.aload_n 0, 1) := by decide +kernel
theorem dX11_back_30 : decode cX11_back 30 = .ok (.getfield 51, 3) := by decide +kernel
theorem dX11_back_33 : decode cX11_back 33 = .ok (.iload_n 2, 1) := by decide +kernel
theorem dX11_back_34 : decode cX11_back 34 = .ok (.aload_n 0, 1) := by decide +kernel
theorem dX11_back_35 : decode cX11_back 35 = .ok (.getfield 69, 3) := by decide +kernel
theorem dX11_back_38 : decode cX11_back 38 = .ok (.sipush 1775, 3) := by decide +kernel
theorem dX11_back_41 : decode cX11_back 41 = .ok (.iload_n 1, 1) := by decide +kernel
theorem dX11_back_42 : decode cX11_back 42 = .ok (.imul, 1) := by decide +kernel
theorem dX11_back_43 : decode cX11_back 43 = .ok (.iload_n 2, 1) := by decide +kernel
theorem dX11_back_44 : decode cX11_back 44 = .ok (.iadd, 1) := by decide +kernel
theorem dX11_back_45 : decode cX11_back 45 = .ok (.iaload, 1) := by decide +kernel
theorem dX11_back_46 : decode cX11_back 46 = .ok (.iastore, 1) := by decide +kernel
theorem dX11_back_47 : decode cX11_back 47 = .ok (.iinc 2 1, 3) := by decide +kernel
theorem dX11_back_50 : decode cX11_back 50 = .ok (.goto (-28), 3) := by decide +kernel
theorem dX11_back_53 : decode cX11_back 53 = .ok (.aload_n 0, 1) := by decide +kernel
theorem dX11_back_54 : decode cX11_back 54 = .ok (.iconst 0, 1) := by decide +kernel
theorem dX11_back_55 : decode cX11_back 55 = .ok (.putfield 259, 3) := by decide +kernel
theorem dX11_back_58 : decode cX11_back 58 = .ok (.aload_n 0, 1) := by decide +kernel
theorem dX11_back_59 : decode cX11_back 59 = .ok (.iconst 0, 1) := by decide +kernel
theorem dX11_back_60 : decode cX11_back 60 = .ok (.putfield 262, 3) := by decide +kernel
theorem dX11_back_63 : decode cX11_back 63 = .ok (.aload_n 0, 1) := by decide +kernel
theorem dX11_back_64 : decode cX11_back 64 = .ok (.invokevirtual 502, 3) := by decide +kernel
theorem dX11_back_67 : decode cX11_back 67 = .ok (.ireturn, 1) := by decide +kernel
theorem dX11_about_0 : decode cX11_about 0 = .ok (.iload_n 1, 1) := by decide +kernel
theorem dX11_about_1 : decode cX11_about 1 = .ok (.tableswitch 157 0 13 #[71, 76, 81, 86, 91, 96, 101, 110, 119, 128, 137, 142, 147, 152], 71) := by decide +kernel
theorem dX11_about_72 : decode cX11_about 72 = .ok (.aload_n 0, 1) := by decide +kernel
theorem dX11_about_73 : decode cX11_about 73 = .ok (.getfield 240, 3) := by decide +kernel
theorem dX11_about_76 : decode cX11_about 76 = .ok (.ireturn, 1) := by decide +kernel
theorem dX11_about_77 : decode cX11_about 77 = .ok (.aload_n 0, 1) := by decide +kernel
theorem dX11_about_78 : decode cX11_about 78 = .ok (.getfield 243, 3) := by decide +kernel
theorem dX11_about_81 : decode cX11_about 81 = .ok (.ireturn, 1) := by decide +kernel
theorem dX11_about_82 : decode cX11_about 82 = .ok (.aload_n 0, 1) := by decide +kernel
theorem dX11_about_83 : decode cX11_about 83 = .ok (.getfield 252, 3) := by decide +kernel
theorem dX11_about_86 : decode cX11_about 86 = .ok (.ireturn, 1) := by decide +kernel
theorem dX11_about_87 : decode cX11_about 87 = .ok (.aload_n 0, 1) := by decide +kernel
theorem dX11_about_88 : decode cX11_about 88 = .ok (.invokevirtual 397, 3) := by decide +kernel
theorem dX11_about_91 : decode cX11_about 91 = .ok (.ireturn, 1) := by decide +kernel
theorem dX11_about_92 : decode cX11_about 92 = .ok (.aload_n 0, 1) := by decide +kernel
theorem dX11_about_93 : decode cX11_about 93 = .ok (.invokevirtual 347, 3) := by decide +kernel
theorem dX11_about_96 : decode cX11_about 96 = .ok (.ireturn, 1) := by decide +kernel
theorem dX11_about_97 : decode cX11_about 97 = .ok (.aload_n 0, 1) := by decide +kernel
theorem dX11_about_98 : decode cX11_about 98 = .ok (.invokevirtual 350, 3) := by decide +kernel
theorem dX11_about_101 : decode cX11_about 101 = .ok (.ireturn, 1) := by decide +kernel
theorem dX11_about_102 : decode cX11_about 102 = .ok (.aload_n 0, 1) := by decide +kernel
theorem dX11_about_103 : decode cX11_about 103 = .ok (.getfield 51, 3) := by decide +kernel
theorem dX11_about_106 : decode cX11_about 106 = .ok (.sipush 1570, 3) := by decide +kernel
theorem dX11_about_109 : decode cX11_about 109 = .ok (.iaload, 1) := by decide +kernel
theorem dX11_about_110 : decode cX11_about 110 = .ok (.ireturn, 1) := by decide +kernel
theorem dX11_about_111 : decode cX11_about 111 = .ok (.aload_n 0, 1) := by decide +kernel
theorem dX11_about_112 : decode cX11_about 112 = .ok (.getfield 51, 3) := by decide +kernel
theorem dX11_about_115 : decode cX11_about 115 = .ok (.sipush 1571, 3) := by decide +kernel
theorem dX11_about_118 : decode cX11_about 118 = .ok (.iaload, 1) := by decide +kernel
theorem dX11_about_119 : decode cX11_about 119 = .ok (.ireturn, 1) := by decide +kernel
theorem dX11_about_120 : decode cX11_about 120 = .ok (.aload_n 0, 1) := by decide +kernel
theorem dX11_about_121 : decode cX11_about 121 = .ok (.getfield 51, 3) := by decide +kernel
theorem dX11_about_124 : decode cX11_about 124 = .ok (.sipush 1572, 3) := by decide +kernel
theorem dX11_about_127 : decode cX11_about 127 = .ok (.iaload, 1) := by decide +kernel
theorem dX11_about_128 : decode cX11_about 128 = .ok (.ireturn, 1) := by decide +kernel
theorem dX11_about_129 : decode cX11_about 129 = .ok (.aload_n 0, 1) := by decide +kernel
theorem dX11_about_130 : decode cX11_about 130 = .ok (.getfield 51, 3) := by decide +kernel
theorem dX11_about_133 : decode cX11_about 133 = .ok (.sipush 1573, 3) := by decide +kernel
theorem dX11_about_136 : decode cX11_about 136 = .ok (.iaload, 1) := by decide +kernel
theorem dX11_about_137 : decode cX11_about 137 = .ok (.ireturn, 1) := by decide +kernel
theorem dX11_about_138 : decode cX11_about 138 = .ok (.aload_n 0, 1) := by decide +kernel
theorem dX11_about_139 : decode cX11_about 139 = .ok (.getfield 259, 3) := by decide +kernel
theorem dX11_about_142 : decode cX11_about 142 = .ok (.ireturn, 1) := by decide +kernel
theorem dX11_about_143 : decode cX11_about 143 = .ok (.aload_n 0, 1) := by decide +kernel
theorem dX11_about_144 : decode cX11_about 144 = .ok (.getfield 262, 3) := by decide +kernel
theorem dX11_about_147 : decode cX11_about 147 = .ok (.ireturn, 1) := by decide +kernel
theorem dX11_about_148 : decode cX11_about 148 = .ok (.aload_n 0, 1) := by decide +kernel
theorem dX11_about_149 : decode cX11_about 149 = .ok (.getfield 82, 3) := by decide +kernel
theorem dX11_about_152 : decode cX11_about 152 = .ok (.ireturn, 1) := by decide +kernel
theorem dX11_about_153 : decode cX11_about 153 = .ok (.aload_n 0, 1) := by decide +kernel
theorem dX11_about_154 : decode cX11_about 154 = .ok (.invokevirtual 496, 3) := by decide +kernel
theorem dX11_about_157 : decode cX11_about 157 = .ok (.ireturn, 1) := by decide +kernel
theorem dX11_about_158 : decode cX11_about 158 = .ok (.iconst (-1), 1) := by decide +kernel
theorem dX11_about_159 : decode cX11_about 159 = .ok (.ireturn, 1) := by decide +kernel
