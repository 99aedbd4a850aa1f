theorem dX10_init_0 : decode cX10_init 0 = .ok (.aload_n 0, 1) := by decide +kernel
theorem dX10_init_1 : decode cX10_init 1 = .ok (.invokespecial 3, 3) := by decide +kernel
theorem dX10_init_4 : decode cX10_init 4 = .ok (.aload_n 0, 1) := by decide +kernel
theorem dX10_init_5 : decode cX10_init 5 = .ok (.sipush 800, 3) := by decide +kernel
theorem dX10_init_8 : decode cX10_init 8 = .ok (.newarray .byte, 2) := by decide +kernel
theorem dX10_init_10 : decode cX10_init 10 = .ok (.putfield 9, 3) := by decide +kernel
theorem dX10_init_13 : decode cX10_init 13 = .ok (.aload_n 0, 1) := by decide +kernel
theorem dX10_init_14 : decode cX10_init 14 = .ok (.iconst 2, 1) := by decide +kernel
theorem dX10_init_15 : decode cX10_init 15 = .ok (.anewarray 13, 3) := by decide +kernel
theorem dX10_init_18 : decode cX10_init 18 = .ok (.putfield 15, 3) := by decide +kernel
theorem dX10_init_21 : decode cX10_init 21 = .ok (.aload_n 0, 1) := by decide +kernel
theorem dX10_init_22 : decode cX10_init 22 = .ok (.iconst 2, 1) := by decide +kernel
theorem dX10_init_23 : decode cX10_init 23 = .ok (.newarray .boolean, 2) := by decide +kernel
theorem dX10_init_25 : decode cX10_init 25 = .ok (.putfield 19, 3) := by decide +kernel
theorem dX10_init_28 : decode cX10_init 28 = .ok (.aload_n 0, 1) := by decide +kernel
theorem dX10_init_29 : decode cX10_init 29 = .ok (.new 23, 3) := by decide +kernel
theorem dX10_init_32 : decode cX10_init 32 = .ok (.dup, 1) := by decide +kernel
theorem dX10_init_33 : decode cX10_init 33 = .ok (.invokespecial 25, 3) := by decide +kernel
theorem dX10_init_36 : decode cX10_init 36 = .ok (.putfield 26, 3) := by decide +kernel
theorem dX10_init_39 : decode cX10_init 39 = .ok (.aload_n 0, 1) := by decide +kernel
theorem dX10_init_40 : decode cX10_init 40 = .ok (.new 30, 3) := by decide +kernel
theorem dX10_init_43 : decode cX10_init 43 = .ok (.dup, 1) := by decide +kernel
theorem dX10_init_44 : decode cX10_init 44 = .ok (.aload_n 0, 1) := by decide +kernel
theorem dX10_init_45 : decode cX10_init 45 = .ok (.getfield 9, 3) := by decide +kernel
theorem dX10_init_48 : decode cX10_init 48 = .ok (.invokespecial 32, 3) := by decide +kernel
theorem dX10_init_51 : decode cX10_init 51 = .ok (.putfield 35, 3) := by decide +kernel
theorem dX10_init_54 : decode cX10_init 54 = .ok (.aload_n 0, 1) := by decide +kernel
theorem dX10_init_55 : decode cX10_init 55 = .ok (.new 39, 3) := by decide +kernel
theorem dX10_init_58 : decode cX10_init 58 = .ok (.dup, 1) := by decide +kernel
theorem dX10_init_59 : decode cX10_init 59 = .ok (.aload_n 0, 1) := by decide +kernel
theorem dX10_init_60 : decode cX10_init 60 = .ok (.getfield 35, 3) := by decide +kernel
theorem dX10_init_63 : decode cX10_init 63 = .ok (.invokespecial 41, 3) := by decide +kernel
theorem dX10_init_66 : decode cX10_init 66 = .ok (.putfield 44, 3) := by decide +kernel
theorem dX10_init_69 : decode cX10_init 69 = .ok (.aload_n 0, 1) := by decide +kernel
theorem dX10_init_70 : decode cX10_init 70 = .ok (.new 48, 3) := by decide +kernel
theorem dX10_init_73 : decode cX10_init 73 = .ok (.dup, 1) := by decide +kernel
theorem dX10_init_74 : decode cX10_init 74 = .ok (.aload_n 0, 1) := by decide +kernel
theorem dX10_init_75 : decode cX10_init 75 = .ok (.getfield 35, 3) := by decide +kernel
theorem dX10_init_78 : decode cX10_init 78 = .ok (.aload_n 0, 1) := by decide +kernel
theorem dX10_init_79 : decode cX10_init 79 = .ok (.getfield 26, 3) := by decide +kernel
theorem dX10_init_82 : decode cX10_init 82 = .ok (.invokespecial 50, 3) := by decide +kernel
theorem dX10_init_85 : decode cX10_init 85 = .ok (.putfield 53, 3) := by decide +kernel
theorem dX10_init_88 : decode cX10_init 88 = .ok (.aload_n 0, 1) := by decide +kernel
theorem dX10_init_89 : decode cX10_init 89 = .ok (.new 57, 3) := by decide +kernel
theorem dX10_init_92 : decode cX10_init 92 = .ok (.dup, 1) := by decide +kernel
theorem dX10_init_93 : decode cX10_init 93 = .ok (.aload_n 0, 1) := by decide +kernel
theorem dX10_init_94 : decode cX10_init 94 = .ok (.getfield 26, 3) := by decide +kernel
theorem dX10_init_97 : decode cX10_init 97 = .ok (.invokespecial 59, 3) := by decide +kernel
theorem dX10_init_100 : decode cX10_init 100 = .ok (.putfield 62, 3) := by decide +kernel
theorem dX10_init_103 : decode cX10_init 103 = .ok (.aload_n 0, 1) := by decide +kernel
theorem dX10_init_104 : decode cX10_init 104 = .ok (.new 13, 3) := by decide +kernel
theorem dX10_init_107 : decode cX10_init 107 = .ok (.dup, 1) := by decide +kernel
theorem dX10_init_108 : decode cX10_init 108 = .ok (.aload_n 0, 1) := by decide +kernel
theorem dX10_init_109 : decode cX10_init 109 = .ok (.getfield 26, 3) := by decide +kernel
theorem dX10_init_112 : decode cX10_init 112 = .ok (.invokespecial 66, 3) := by decide +kernel
theorem dX10_init_115 : decode cX10_init 115 = .ok (.putfield 67, 3) := by decide +kernel
theorem dX10_init_118 : decode cX10_init 118 = .ok (.iconst 0, 1) := by decide +kernel
theorem dX10_init_119 : decode cX10_init 119 = .ok (.istore_n 1, 1) := by decide +kernel
theorem dX10_init_120 : decode cX10_init 120 = .ok (.iload_n 1, 1) := by decide +kernel
theorem dX10_init_121 : decode cX10_init 121 = .ok (.iconst 2, 1) := by decide +kernel
theorem dX10_init_122 : decode cX10_init 122 = .ok (.if_icmp .ge 26, 3) := by decide +kernel
theorem dX10_init_125 : decode cX10_init 125 = .ok (.aload_n 0, 1) := by decide +kernel
theorem dX10_init_126 : decode cX10_init 126 = .ok (.getfield 15, 3) := by decide +kernel
theorem dX10_init_129 : decode cX10_init 129 = .ok (.iload_n 1, 1) := by decide +kernel
theorem dX10_init_130 : decode cX10_init 130 = .ok (.new 13, 3) := by decide +kernel
theorem dX10_init_133 : decode cX10_init 133 = .ok (.dup, 1) := by decide +kernel
theorem dX10_init_134 : decode cX10_init 134 = .ok (.aload_n 0, 1) := by decide +kernel
theorem dX10_init_135 : decode cX10_init 135 = .ok (.getfield 26, 3) := by decide +kernel
theorem dX10_init_138 : decode cX10_init 138 = .ok (.invokespecial 66, 3) := by decide +kernel
theorem dX10_init_141 : decode cX10_init 141 = .ok (.aastore, 1) := by decide +kernel
theorem dX10_init_142 : decode cX10_init 142 = .ok (.iinc 1 1, 3) := by decide +kernel
theorem dX10_init_145 : decode cX10_init 145 = .ok (.goto (-25), 3) := by decide +kernel
theorem dX10_init_148 : decode cX10_init 148 = .ok (.aload_n 0, 1) := by decide +kernel
theorem dX10_init_149 : decode cX10_init 149 = .ok (.new 71, 3) := by decide +kernel
theorem dX10_init_152 : decode cX10_init 152 = .ok (.dup, 1) := by decide +kernel
theorem dX10_init_153 : decode cX10_init 153 = .ok (.aload_n 0, 1) := by decide +kernel
theorem dX10_init_154 : decode cX10_init 154 = .ok (.getfield 26, 3) := by decide +kernel
theorem dX10_init_157 : decode cX10_init 157 = .ok (.invokespecial 73, 3) := by decide +kernel
theorem dX10_init_160 : decode cX10_init 160 = .ok (.putfield 74, 3) := by decide +kernel
theorem dX10_init_163 : decode cX10_init 163 = .ok (.aload_n 0, 1) := by decide +kernel
theorem dX10_init_164 : decode cX10_init 164 = .ok (.new 78, 3) := by decide +kernel
theorem dX10_init_167 : decode cX10_init 167 = .ok (.dup, 1) := by decide +kernel
theorem dX10_init_168 : decode cX10_init 168 = .ok (.aload_n 0, 1) := by decide +kernel
theorem dX10_init_169 : decode cX10_init 169 = .ok (.getfield 26, 3) := by decide +kernel
theorem dX10_init_172 : decode cX10_init 172 = .ok (.invokespecial 80, 3) := by decide +kernel
theorem dX10_init_175 : decode cX10_init 175 = .ok (.putfield 81, 3) := by decide +kernel
theorem dX10_init_178 : decode cX10_init 178 = .ok (.return_, 1) := by decide +kernel
theorem dX10_feed_0 : decode cX10_feed 0 = .ok (.aload_n 0, 1) := by decide +kernel
theorem dX10_feed_1 : decode cX10_feed 1 = .ok (.getfield 85, 3) := by decide +kernel
theorem dX10_feed_4 : decode cX10_feed 4 = .ok (.sipush 780, 3) := by decide +kernel
theorem dX10_feed_7 : decode cX10_feed 7 = .ok (.if_icmp .le 5, 3) := by decide +kernel
theorem dX10_feed_10 : decode cX10_feed 10 = .ok (.iconst (-1), 1) := by decide +kernel
theorem dX10_feed_11 : decode cX10_feed 11 = .ok (.ireturn, 1) := by decide +kernel
theorem dX10_feed_12 : decode cX10_feed 12 = .ok (.aload_n 0, 1) := by decide +kernel
theorem dX10_feed_13 : decode cX10_feed 13 = .ok (.iload_n 1, 1) := by decide +kernel
theorem dX10_feed_14 : decode cX10_feed 14 = .ok (.invokevirtual 89, 3) := by decide +kernel
theorem dX10_feed_17 : decode cX10_feed 17 = .ok (.aload_n 0, 1) := by decide +kernel
theorem dX10_feed_18 : decode cX10_feed 18 = .ok (.iload_n 2, 1) := by decide +kernel
theorem dX10_feed_19 : decode cX10_feed 19 = .ok (.invokevirtual 89, 3) := by decide +kernel
theorem dX10_feed_22 : decode cX10_feed 22 = .ok (.aload_n 0, 1) := by decide +kernel
theorem dX10_feed_23 : decode cX10_feed 23 = .ok (.iload_n 3, 1) := by decide +kernel
theorem dX10_feed_24 : decode cX10_feed 24 = .ok (.invokevirtual 89, 3) := by decide +kernel
theorem dX10_feed_27 : decode cX10_feed 27 = .ok (.aload_n 0, 1) := by decide +kernel
theorem dX10_feed_28 : decode cX10_feed 28 = .ok (.iload 4, 2) := by decide +kernel
theorem dX10_feed_30 : decode cX10_feed 30 = .ok (.invokevirtual 89, 3) := by decide +kernel
theorem dX10_feed_33 : decode cX10_feed 33 = .ok (.aload_n 0, 1) := by decide +kernel
theorem dX10_feed_34 : decode cX10_feed 34 = .ok (.iload 5, 2) := by decide +kernel
theorem dX10_feed_36 : decode cX10_feed 36 = .ok (.invokevirtual 89, 3) := by decide +kernel
theorem dX10_feed_39 : decode cX10_feed 39 = .ok (.aload_n 0, 1) := by decide +kernel
theorem dX10_feed_40 : decode cX10_feed 40 = .ok (.getfield 85, 3) := by decide +kernel
theorem dX10_feed_43 : decode cX10_feed 43 = .ok (.ireturn, 1) := by decide +kernel
theorem dX10_appendBytes_0 : decode cX10_appendBytes 0 = .ok (.bipush 24, 2) := by decide +kernel
theorem dX10_appendBytes_2 : decode cX10_appendBytes 2 = .ok (.istore_n 2, 1) := by decide +kernel
theorem dX10_appendBytes_3 : decode cX10_appendBytes 3 = .ok (.iload_n 2, 1) := by decide +kernel
theorem dX10_appendBytes_4 : decode cX10_appendBytes 4 = .ok (.ifCond .lt 42, 3) := by decide +kernel
theorem dX10_appendBytes_7 : decode cX10_appendBytes 7 = .ok (.aload_n 0, 1) := by decide +kernel
theorem dX10_appendBytes_8 : decode cX10_appendBytes 8 = .ok (.getfield 85, 3) := by decide +kernel
theorem dX10_appendBytes_11 : decode cX10_appendBytes 11 = .ok (.sipush 800, 3) := by decide +kernel
theorem dX10_appendBytes_14 : decode cX10_appendBytes 14 = .ok (.if_icmp .ge 32, 3) := by decide +kernel
theorem dX10_appendBytes_17 : decode cX10_appendBytes 17 = .ok (.aload_n 0, 1) := by decide +kernel
theorem dX10_appendBytes_18 : decode cX10_appendBytes 18 = .ok (.getfield 9, 3) := by decide +kernel
theorem dX10_appendBytes_21 : decode cX10_appendBytes 21 = .ok (.aload_n 0, 1) := by decide +kernel
theorem dX10_appendBytes_22 : decode cX10_appendBytes 22 = .ok (.getfield 85, 3) := by decide +kernel
theorem dX10_appendBytes_25 : decode cX10_appendBytes 25 = .ok (.iload_n 1, 1) := by decide +kernel
theorem dX10_appendBytes_26 : decode cX10_appendBytes 26 = .ok (.iload_n 2, 1) := by decide +kernel
theorem dX10_appendBytes_27 : decode cX10_appendBytes 27 = .ok (.iushr, 1) := by decide +kernel
theorem dX10_appendBytes_28 : decode cX10_appendBytes 28 = .ok (.i2b, 1) := by decide +kernel
theorem dX10_appendBytes_29 : decode cX10_appendBytes 29 = .ok (.bastore, 1) := by decide +kernel
theorem dX10_appendBytes_30 : decode cX10_appendBytes 30 = .ok (.aload_n 0, 1) := by decide +kernel
theorem dX10_appendBytes_31 : decode cX10_appendBytes 31 = .ok (.dup, 1) := by decide +kernel
theorem dX10_appendBytes_32 : decode cX10_appendBytes 32 = .ok (.getfield 85, 3) := by decide +kernel
theorem dX10_appendBytes_35 : decode cX10_appendBytes 35 = .ok (.iconst 1, 1) := by decide +kernel
theorem dX10_appendBytes_36 : decode cX10_appendBytes 36 = .ok (.iadd, 1) := by decide +kernel
theorem dX10_appendBytes_37 : decode cX10_appendBytes 37 = .ok (.putfield 85, 3) := by decide +kernel
theorem dX10_appendBytes_40 : decode cX10_appendBytes 40 = .ok (.iinc 2 (-8), 3) := by decide +kernel
theorem dX10_appendBytes_43 : decode cX10_appendBytes 43 = .ok (.goto (-40), 3) := by decide +kernel
theorem dX10_appendBytes_46 : decode cX10_appendBytes 46 = .ok (.return_, 1) := by decide +kernel
theorem dX10_end_0 : decode cX10_end 0 = .ok (.iload_n 1, 1) := by decide +kernel
theorem dX10_end_1 : decode cX10_end 1 = .ok (.ifCond .lt 11, 3) := by decide +kernel
theorem dX10_end_4 : decode cX10_end 4 = .ok (.iload_n 1, 1) := by decide +kernel
theorem dX10_end_5 : decode cX10_end 5 = .ok (.aload_n 0, 1) := by decide +kernel
theorem dX10_end_6 : decode cX10_end 6 = .ok (.getfield 85, 3) := by decide +kernel
theorem dX10_end_9 : decode cX10_end 9 = .ok (.if_icmp .le 5, 3) := by decide +kernel
theorem dX10_end_12 : decode cX10_end 12 = .ok (.iconst (-1), 1) := by decide +kernel
theorem dX10_end_13 : decode cX10_end 13 = .ok (.ireturn, 1) := by decide +kernel
theorem dX10_end_14 : decode cX10_end 14 = .ok (.aload_n 0, 1) := by decide +kernel
theorem dX10_end_15 : decode cX10_end 15 = .ok (.iload_n 1, 1) := by decide +kernel
theorem dX10_end_16 : decode cX10_end 16 = .ok (.putfield 85, 3) := by decide +kernel
theorem dX10_end_19 : decode cX10_end 19 = .ok (.iload_n 1, 1) := by decide +kernel
theorem dX10_end_20 : decode cX10_end 20 = .ok (.ireturn, 1) := by decide +kernel
theorem dX10_board_0 : decode cX10_board 0 = .ok (.aload_n 0, 1) := by decide +kernel
theorem dX10_board_1 : decode cX10_board 1 = .ok (.getfield 35, 3) := by decide +kernel
theorem dX10_board_4 : decode cX10_board 4 = .ok (.aload_n 0, 1) := by decide +kernel
theorem dX10_board_5 : decode cX10_board 5 = .ok (.getfield 85, 3) := by decide +kernel
theorem dX10_board_8 : decode cX10_board 8 = .ok (.invokevirtual 93, 3) := by decide +kernel
theorem dX10_board_11 : decode cX10_board 11 = .ok (.aload_n 0, 1) := by decide +kernel
theorem dX10_board_12 : decode cX10_board 12 = .ok (.iconst 0, 1) := by decide +kernel
theorem dX10_board_13 : decode cX10_board 13 = .ok (.putfield 85, 3) := by decide +kernel
theorem dX10_board_16 : decode cX10_board 16 = .ok (.aload_n 0, 1) := by decide +kernel
theorem dX10_board_17 : decode cX10_board 17 = .ok (.getfield 44, 3) := by decide +kernel
theorem dX10_board_20 : decode cX10_board 20 = .ok (.invokevirtual 96, 3) := by decide +kernel
theorem dX10_board_23 : decode cX10_board 23 = .ok (.ifCond .ne 5, 3) := by decide +kernel
theorem dX10_board_26 : decode cX10_board 26 = .ok (.iconst (-1), 1) := by decide +kernel
theorem dX10_board_27 : decode cX10_board 27 = .ok (.ireturn, 1) := by decide +kernel
theorem dX10_board_28 : decode cX10_board 28 = .ok (.aload_n 0, 1) := by decide +kernel
theorem dX10_board_29 : decode cX10_board 29 = .ok (.iconst 0, 1) := by decide +kernel
theorem dX10_board_30 : decode cX10_board 30 = .ok (.putfield 100, 3) := by decide +kernel
theorem dX10_board_33 : decode cX10_board 33 = .ok (.aload_n 0, 1) := by decide +kernel
theorem dX10_board_34 : decode cX10_board 34 = .ok (.getfield 26, 3) := by decide +kernel
theorem dX10_board_37 : decode cX10_board 37 = .ok (.aload_n 0, 1) := by decide +kernel
theorem dX10_board_38 : decode cX10_board 38 = .ok (.getfield 44, 3) := by decide +kernel
theorem dX10_board_41 : decode cX10_board 41 = .ok (.getfield 103, 3) := by decide +kernel
theorem dX10_board_44 : decode cX10_board 44 = .ok (.invokevirtual 106, 3) := by decide +kernel
theorem dX10_board_47 : decode cX10_board 47 = .ok (.aload_n 0, 1) := by decide +kernel
theorem dX10_board_48 : decode cX10_board 48 = .ok (.getfield 62, 3) := by decide +kernel
theorem dX10_board_51 : decode cX10_board 51 = .ok (.getfield 109, 3) := by decide +kernel
theorem dX10_board_54 : decode cX10_board 54 = .ok (.invokevirtual 112, 3) := by decide +kernel
theorem dX10_board_57 : decode cX10_board 57 = .ok (.aload_n 0, 1) := by decide +kernel
theorem dX10_board_58 : decode cX10_board 58 = .ok (.getfield 62, 3) := by decide +kernel
theorem dX10_board_61 : decode cX10_board 61 = .ok (.invokevirtual 115, 3) := by decide +kernel
theorem dX10_board_64 : decode cX10_board 64 = .ok (.iconst 0, 1) := by decide +kernel
theorem dX10_board_65 : decode cX10_board 65 = .ok (.istore_n 1, 1) := by decide +kernel
theorem dX10_board_66 : decode cX10_board 66 = .ok (.iload_n 1, 1) := by decide +kernel
theorem dX10_board_67 : decode cX10_board 67 = .ok (.iconst 2, 1) := by decide +kernel
theorem dX10_board_68 : decode cX10_board 68 = .ok (.if_icmp .ge 16, 3) := by decide +kernel
theorem dX10_board_71 : decode cX10_board 71 = .ok (.aload_n 0, 1) := by decide +kernel
theorem dX10_board_72 : decode cX10_board 72 = .ok (.getfield 19, 3) := by decide +kernel
theorem dX10_board_75 : decode cX10_board 75 = .ok (.iload_n 1, 1) := by decide +kernel
theorem dX10_board_76 : decode cX10_board 76 = .ok (.iconst 0, 1) := by decide +kernel
theorem dX10_board_77 : decode cX10_board 77 = .ok (.bastore, 1) := by decide +kernel
theorem dX10_board_78 : decode cX10_board 78 = .ok (.iinc 1 1, 3) := by decide +kernel
theorem dX10_board_81 : decode cX10_board 81 = .ok (.goto (-15), 3) := by decide +kernel
theorem dX10_board_84 : decode cX10_board 84 = .ok (.aload_n 0, 1) := by decide +kernel
theorem dX10_board_85 : decode cX10_board 85 = .ok (.getfield 26, 3) := by decide +kernel
theorem dX10_board_88 : decode cX10_board 88 = .ok (.getfield 118, 3) := by decide +kernel
theorem dX10_board_91 : decode cX10_board 91 = .ok (.ireturn, 1) := by decide +kernel
theorem dX10_orders_0 : decode cX10_orders 0 = .ok (.aload_n 0, 1) := by decide +kernel
theorem dX10_orders_1 : decode cX10_orders 1 = .ok (.getfield 35, 3) := by decide +kernel
theorem dX10_orders_4 : decode cX10_orders 4 = .ok (.aload_n 0, 1) := by decide +kernel
theorem dX10_orders_5 : decode cX10_orders 5 = .ok (.getfield 85, 3) := by decide +kernel
theorem dX10_orders_8 : decode cX10_orders 8 = .ok (.invokevirtual 93, 3) := by decide +kernel
theorem dX10_orders_11 : decode cX10_orders 11 = .ok (.aload_n 0, 1) := by decide +kernel
theorem dX10_orders_12 : decode cX10_orders 12 = .ok (.iconst 0, 1) := by decide +kernel
theorem dX10_orders_13 : decode cX10_orders 13 = .ok (.putfield 85, 3) := by decide +kernel
theorem dX10_orders_16 : decode cX10_orders 16 = .ok (.aload_n 0, 1) := by decide +kernel
theorem dX10_orders_17 : decode cX10_orders 17 = .ok (.iconst 0, 1) := by decide +kernel
theorem dX10_orders_18 : decode cX10_orders 18 = .ok (.putfield 100, 3) := by decide +kernel
theorem dX10_orders_21 : decode cX10_orders 21 = .ok (.aload_n 0, 1) := by decide +kernel
theorem dX10_orders_22 : decode cX10_orders 22 = .ok (.getfield 53, 3) := by decide +kernel
theorem dX10_orders_25 : decode cX10_orders 25 = .ok (.invokevirtual 121, 3) := by decide +kernel
theorem dX10_orders_28 : decode cX10_orders 28 = .ok (.ifCond .ne 5, 3) := by decide +kernel
theorem dX10_orders_31 : decode cX10_orders 31 = .ok (.iconst (-1), 1) := by decide +kernel
theorem dX10_orders_32 : decode cX10_orders 32 = .ok (.ireturn, 1) := by decide +kernel
theorem dX10_orders_33 : decode cX10_orders 33 = .ok (.aload_n 0, 1) := by decide +kernel
theorem dX10_orders_34 : decode cX10_orders 34 = .ok (.getfield 62, 3) := by decide +kernel
theorem dX10_orders_37 : decode cX10_orders 37 = .ok (.invokevirtual 122, 3) := by decide +kernel
theorem dX10_orders_40 : decode cX10_orders 40 = .ok (.astore_n 1, 1) := by decide +kernel
theorem dX10_orders_41 : decode cX10_orders 41 = .ok (.iconst 0, 1) := by decide +kernel
theorem dX10_orders_42 : decode cX10_orders 42 = .ok (.istore_n 2, 1) := by decide +kernel
theorem dX10_orders_43 : decode cX10_orders 43 = .ok (.iconst 0, 1) := by decide +kernel
theorem dX10_orders_44 : decode cX10_orders 44 = .ok (.istore_n 3, 1) := by decide +kernel
theorem dX10_orders_45 : decode cX10_orders 45 = .ok (.iload_n 3, 1) := by decide +kernel
theorem dX10_orders_46 : decode cX10_orders 46 = .ok (.aload_n 0, 1) := by decide +kernel
theorem dX10_orders_47 : decode cX10_orders 47 = .ok (.getfield 53, 3) := by decide +kernel
theorem dX10_orders_50 : decode cX10_orders 50 = .ok (.getfield 125, 3) := by decide +kernel
theorem dX10_orders_53 : decode cX10_orders 53 = .ok (.if_icmp .ge 86, 3) := by decide +kernel
theorem dX10_orders_56 : decode cX10_orders 56 = .ok (.aload_n 0, 1) := by decide +kernel
theorem dX10_orders_57 : decode cX10_orders 57 = .ok (.getfield 100, 3) := by decide +kernel
theorem dX10_orders_60 : decode cX10_orders 60 = .ok (.ifCond .ne 79, 3) := by decide +kernel
theorem dX10_orders_63 : decode cX10_orders 63 = .ok (.aload_n 0, 1) := by decide +kernel
theorem dX10_orders_64 : decode cX10_orders 64 = .ok (.getfield 53, 3) := by decide +kernel
theorem dX10_orders_67 : decode cX10_orders 67 = .ok (.getfield 128, 3) := by decide +kernel
theorem dX10_orders_70 : decode cX10_orders 70 = .ok (.iload_n 3, 1) := by decide +kernel
theorem dX10_orders_71 : decode cX10_orders 71 = .ok (.iaload, 1) := by decide +kernel
theorem dX10_orders_72 : decode cX10_orders 72 = .ok (.bipush 18, 2) := by decide +kernel
theorem dX10_orders_74 : decode cX10_orders 74 = .ok (.if_icmp .ne 7, 3) := by decide +kernel
theorem dX10_orders_77 : decode cX10_orders 77 = .ok (.iconst 1, 1) := by decide +kernel
theorem dX10_orders_78 : decode cX10_orders 78 = .ok (.goto 4, 3) := by decide +kernel
theorem dX10_orders_81 : decode cX10_orders 81 = .ok (.iconst 0, 1) := by decide +kernel
theorem dX10_orders_82 : decode cX10_orders 82 = .ok (.istore 4, 2) := by decide +kernel
theorem dX10_orders_84 : decode cX10_orders 84 = .ok (.iload 4, 2) := by decide +kernel
theorem dX10_orders_86 : decode cX10_orders 86 = .ok (.ifCond .eq 11, 3) := by decide +kernel
theorem dX10_orders_89 : decode cX10_orders 89 = .ok (.aload_n 0, 1) := by decide +kernel
theorem dX10_orders_90 : decode cX10_orders 90 = .ok (.getfield 67, 3) := by decide +kernel
theorem dX10_orders_93 : decode cX10_orders 93 = .ok (.aload_n 1, 1) := by decide +kernel
theorem dX10_orders_94 : decode cX10_orders 94 = .ok (.invokevirtual 132, 3) := by decide +kernel
theorem dX10_orders_97 : decode cX10_orders 97 = .ok (.aload_n 0, 1) := by decide +kernel
theorem dX10_orders_98 : decode cX10_orders 98 = .ok (.aload_n 0, 1) := by decide +kernel
theorem dX10_orders_99 : decode cX10_orders 99 = .ok (.aload_n 1, 1) := by decide +kernel
theorem dX10_orders_100 : decode cX10_orders 100 = .ok (.iload_n 3, 1) := by decide +kernel
theorem dX10_orders_101 : decode cX10_orders 101 = .ok (.invokevirtual 135, 3) := by decide +kernel
theorem dX10_orders_104 : decode cX10_orders 104 = .ok (.putfield 100, 3) := by decide +kernel
theorem dX10_orders_107 : decode cX10_orders 107 = .ok (.aload_n 0, 1) := by decide +kernel
theorem dX10_orders_108 : decode cX10_orders 108 = .ok (.getfield 100, 3) := by decide +kernel
theorem dX10_orders_111 : decode cX10_orders 111 = .ok (.ifCond .ne 9, 3) := by decide +kernel
theorem dX10_orders_114 : decode cX10_orders 114 = .ok (.iinc 2 1, 3) := by decide +kernel
theorem dX10_orders_117 : decode cX10_orders 117 = .ok (.goto 16, 3) := by decide +kernel
theorem dX10_orders_120 : decode cX10_orders 120 = .ok (.iload 4, 2) := by decide +kernel
theorem dX10_orders_122 : decode cX10_orders 122 = .ok (.ifCond .eq 11, 3) := by decide +kernel
theorem dX10_orders_125 : decode cX10_orders 125 = .ok (.aload_n 1, 1) := by decide +kernel
theorem dX10_orders_126 : decode cX10_orders 126 = .ok (.aload_n 0, 1) := by decide +kernel
theorem dX10_orders_127 : decode cX10_orders 127 = .ok (.getfield 67, 3) := by decide +kernel
theorem dX10_orders_130 : decode cX10_orders 130 = .ok (.invokevirtual 132, 3) := by decide +kernel
theorem dX10_orders_133 : decode cX10_orders 133 = .ok (.iinc 3 1, 3) := by decide +kernel
theorem dX10_orders_136 : decode cX10_orders 136 = .ok (.goto (-91), 3) := by decide +kernel
theorem dX10_orders_139 : decode cX10_orders 139 = .ok (.iload_n 2, 1) := by decide +kernel
theorem dX10_orders_140 : decode cX10_orders 140 = .ok (.ifCond .le 10, 3) := by decide +kernel
theorem dX10_orders_143 : decode cX10_orders 143 = .ok (.aload_n 0, 1) := by decide +kernel
theorem dX10_orders_144 : decode cX10_orders 144 = .ok (.getfield 62, 3) := by decide +kernel
theorem dX10_orders_147 : decode cX10_orders 147 = .ok (.invokevirtual 139, 3) := by decide +kernel
theorem dX10_orders_150 : decode cX10_orders 150 = .ok (.iload_n 2, 1) := by decide +kernel
theorem dX10_orders_151 : decode cX10_orders 151 = .ok (.ireturn, 1) := by decide +kernel
theorem dX10_perform_0 : decode cX10_perform 0 = .ok (.aload_n 0, 1) := by decide +kernel
theorem dX10_perform_1 : decode cX10_perform 1 = .ok (.getfield 53, 3) := by decide +kernel
theorem dX10_perform_4 : decode cX10_perform 4 = .ok (.getfield 142, 3) := by decide +kernel
theorem dX10_perform_7 : decode cX10_perform 7 = .ok (.iload_n 2, 1) := by decide +kernel
theorem dX10_perform_8 : decode cX10_perform 8 = .ok (.iaload, 1) := by decide +kernel
theorem dX10_perform_9 : decode cX10_perform 9 = .ok (.istore_n 3, 1) := by decide +kernel
theorem dX10_perform_10 : decode cX10_perform 10 = .ok (.aload_n 0, 1) := by decide +kernel
theorem dX10_perform_11 : decode cX10_perform 11 = .ok (.getfield 53, 3) := by decide +kernel
theorem dX10_perform_14 : decode cX10_perform 14 = .ok (.getfield 145, 3) := by decide +kernel
theorem dX10_perform_17 : decode cX10_perform 17 = .ok (.iload_n 2, 1) := by decide +kernel
theorem dX10_perform_18 : decode cX10_perform 18 = .ok (.iaload, 1) := by decide +kernel
theorem dX10_perform_19 : decode cX10_perform 19 = .ok (.istore 4, 2) := by decide +kernel
theorem dX10_perform_21 : decode cX10_perform 21 = .ok (.aload_n 0, 1) := by decide +kernel
theorem dX10_perform_22 : decode cX10_perform 22 = .ok (.getfield 53, 3) := by decide +kernel
theorem dX10_perform_25 : decode cX10_perform 25 = .ok (.getfield 128, 3) := by decide +kernel
theorem dX10_perform_28 : decode cX10_perform 28 = .ok (.iload_n 2, 1) := by decide +kernel
theorem dX10_perform_29 : decode cX10_perform 29 = .ok (.iaload, 1) := by decide +kernel
theorem dX10_perform_30 : decode cX10_perform 30 = .ok (.tableswitch 146 9 17 #[50, 56, 71, 77, 95, 113, 146, 130, 139], 50) := by decide +kernel
theorem dX10_perform_80 : decode cX10_perform 80 = .ok (.aload_n 1, 1) := by decide +kernel
theorem dX10_perform_81 : decode cX10_perform 81 = .ok (.iload_n 3, 1) := by decide +kernel
theorem dX10_perform_82 : decode cX10_perform 82 = .ok (.invokevirtual 148, 3) := by decide +kernel
theorem dX10_perform_85 : decode cX10_perform 85 = .ok (.ireturn, 1) := by decide +kernel
theorem dX10_perform_86 : decode cX10_perform 86 = .ok (.aload_n 1, 1) := by decide +kernel
theorem dX10_perform_87 : decode cX10_perform 87 = .ok (.iload_n 3, 1) := by decide +kernel
theorem dX10_perform_88 : decode cX10_perform 88 = .ok (.invokevirtual 152, 3) := by decide +kernel
theorem dX10_perform_91 : decode cX10_perform 91 = .ok (.iconst (-1), 1) := by decide +kernel
theorem dX10_perform_92 : decode cX10_perform 92 = .ok (.if_icmp .ne 7, 3) := by decide +kernel
theorem dX10_perform_95 : decode cX10_perform 95 = .ok (.iconst 4, 1) := by decide +kernel
theorem dX10_perform_96 : decode cX10_perform 96 = .ok (.goto 4, 3) := by decide +kernel
theorem dX10_perform_99 : decode cX10_perform 99 = .ok (.iconst 0, 1) := by decide +kernel
theorem dX10_perform_100 : decode cX10_perform 100 = .ok (.ireturn, 1) := by decide +kernel
theorem dX10_perform_101 : decode cX10_perform 101 = .ok (.aload_n 1, 1) := by decide +kernel
theorem dX10_perform_102 : decode cX10_perform 102 = .ok (.iload_n 3, 1) := by decide +kernel
theorem dX10_perform_103 : decode cX10_perform 103 = .ok (.invokevirtual 155, 3) := by decide +kernel
theorem dX10_perform_106 : decode cX10_perform 106 = .ok (.ireturn, 1) := by decide +kernel
theorem dX10_perform_107 : decode cX10_perform 107 = .ok (.aload_n 1, 1) := by decide +kernel
theorem dX10_perform_108 : decode cX10_perform 108 = .ok (.iload_n 3, 1) := by decide +kernel
theorem dX10_perform_109 : decode cX10_perform 109 = .ok (.iload 4, 2) := by decide +kernel
theorem dX10_perform_111 : decode cX10_perform 111 = .ok (.iconst 0, 1) := by decide +kernel
theorem dX10_perform_112 : decode cX10_perform 112 = .ok (.invokevirtual 158, 3) := by decide +kernel
theorem dX10_perform_115 : decode cX10_perform 115 = .ok (.iconst (-1), 1) := by decide +kernel
theorem dX10_perform_116 : decode cX10_perform 116 = .ok (.if_icmp .ne 7, 3) := by decide +kernel
theorem dX10_perform_119 : decode cX10_perform 119 = .ok (.iconst 4, 1) := by decide +kernel
theorem dX10_perform_120 : decode cX10_perform 120 = .ok (.goto 4, 3) := by decide +kernel
theorem dX10_perform_123 : decode cX10_perform 123 = .ok (.iconst 0, 1) := by decide +kernel
theorem dX10_perform_124 : decode cX10_perform 124 = .ok (.ireturn, 1) := by decide +kernel
theorem dX10_perform_125 : decode cX10_perform 125 = .ok (.aload_n 1, 1) := by decide +kernel
theorem dX10_perform_126 : decode cX10_perform 126 = .ok (.iload_n 3, 1) := by decide +kernel
theorem dX10_perform_127 : decode cX10_perform 127 = .ok (.iload 4, 2) := by decide +kernel
theorem dX10_perform_129 : decode cX10_perform 129 = .ok (.iconst 1, 1) := by decide +kernel
theorem dX10_perform_130 : decode cX10_perform 130 = .ok (.invokevirtual 158, 3) := by decide +kernel
theorem dX10_perform_133 : decode cX10_perform 133 = .ok (.iconst (-1), 1) := by decide +kernel
theorem dX10_perform_134 : decode cX10_perform 134 = .ok (.if_icmp .ne 7, 3) := by decide +kernel
theorem dX10_perform_137 : decode cX10_perform 137 = .ok (.iconst 4, 1) := by decide +kernel
theorem dX10_perform_138 : decode cX10_perform 138 = .ok (.goto 4, 3) := by decide +kernel
theorem dX10_perform_141 : decode cX10_perform 141 = .ok (.iconst 0, 1) := by decide +kernel
theorem dX10_perform_142 : decode cX10_perform 142 = .ok (.ireturn, 1) := by decide +kernel
theorem dX10_perform_143 : decode cX10_perform 143 = .ok (.aload_n 1, 1) := by decide +kernel
theorem dX10_perform_144 : decode cX10_perform 144 = .ok (.iload_n 3, 1) := by decide +kernel
theorem dX10_perform_145 : decode cX10_perform 145 = .ok (.iload 4, 2) := by decide +kernel
theorem dX10_perform_147 : decode cX10_perform 147 = .ok (.aload_n 0, 1) := by decide +kernel
theorem dX10_perform_148 : decode cX10_perform 148 = .ok (.getfield 53, 3) := by decide +kernel
theorem dX10_perform_151 : decode cX10_perform 151 = .ok (.getfield 162, 3) := by decide +kernel
theorem dX10_perform_154 : decode cX10_perform 154 = .ok (.iload_n 2, 1) := by decide +kernel
theorem dX10_perform_155 : decode cX10_perform 155 = .ok (.iaload, 1) := by decide +kernel
theorem dX10_perform_156 : decode cX10_perform 156 = .ok (.invokevirtual 165, 3) := by decide +kernel
theorem dX10_perform_159 : decode cX10_perform 159 = .ok (.ireturn, 1) := by decide +kernel
theorem dX10_perform_160 : decode cX10_perform 160 = .ok (.aload_n 1, 1) := by decide +kernel
theorem dX10_perform_161 : decode cX10_perform 161 = .ok (.iload 4, 2) := by decide +kernel
theorem dX10_perform_163 : decode cX10_perform 163 = .ok (.invokevirtual 169, 3) := by decide +kernel
theorem dX10_perform_166 : decode cX10_perform 166 = .ok (.pop, 1) := by decide +kernel
theorem dX10_perform_167 : decode cX10_perform 167 = .ok (.iconst 0, 1) := by decide +kernel
theorem dX10_perform_168 : decode cX10_perform 168 = .ok (.ireturn, 1) := by decide +kernel
theorem dX10_perform_169 : decode cX10_perform 169 = .ok (.aload_n 1, 1) := by decide +kernel
theorem dX10_perform_170 : decode cX10_perform 170 = .ok (.iload 4, 2) := by decide +kernel
theorem dX10_perform_172 : decode cX10_perform 172 = .ok (.invokevirtual 172, 3) := by decide +kernel
theorem dX10_perform_175 : decode cX10_perform 175 = .ok (.ireturn, 1) := by decide +kernel
theorem dX10_perform_176 : decode cX10_perform 176 = .ok (.aload_n 1, 1) := by decide +kernel
theorem dX10_perform_177 : decode cX10_perform 177 = .ok (.iload 4, 2) := by decide +kernel
theorem dX10_perform_179 : decode cX10_perform 179 = .ok (.invokevirtual 175, 3) := by decide +kernel
theorem dX10_perform_182 : decode cX10_perform 182 = .ok (.ireturn, 1) := by decide +kernel
theorem dX10_fault_0 : decode cX10_fault 0 = .ok (.iload_n 1, 1) := by decide +kernel
theorem dX10_fault_1 : decode cX10_fault 1 = .ok (.lookupswitch 43 #[(0, 27), (1, 35)], 27) := by decide +kernel
theorem dX10_fault_28 : decode cX10_fault 28 = .ok (.aload_n 0, 1) := by decide +kernel
theorem dX10_fault_29 : decode cX10_fault 29 = .ok (.getfield 35, 3) := by decide +kernel
theorem dX10_fault_32 : decode cX10_fault 32 = .ok (.getfield 178, 3) := by decide +kernel
theorem dX10_fault_35 : decode cX10_fault 35 = .ok (.ireturn, 1) := by decide +kernel
theorem dX10_fault_36 : decode cX10_fault 36 = .ok (.aload_n 0, 1) := by decide +kernel
theorem dX10_fault_37 : decode cX10_fault 37 = .ok (.getfield 35, 3) := by decide +kernel
theorem dX10_fault_40 : decode cX10_fault 40 = .ok (.getfield 181, 3) := by decide +kernel
theorem dX10_fault_43 : decode cX10_fault 43 = .ok (.ireturn, 1) := by decide +kernel
theorem dX10_fault_44 : decode cX10_fault 44 = .ok (.iconst (-1), 1) := by decide +kernel
theorem dX10_fault_45 : decode cX10_fault 45 = .ok (.ireturn, 1) := by decide +kernel
theorem dX10_refused_0 : decode cX10_refused 0 = .ok (.aload_n 0, 1) := by decide +kernel
theorem dX10_refused_1 : decode cX10_refused 1 = .ok (.getfield 100, 3) := by decide +kernel
theorem dX10_refused_4 : decode cX10_refused 4 = .ok (.ireturn, 1) := by decide +kernel
theorem dX10_start_0 : decode cX10_start 0 = .ok (.aload_n 0, 1) := by decide +kernel
theorem dX10_start_1 : decode cX10_start 1 = .ok (.getfield 26, 3) := by decide +kernel
theorem dX10_start_4 : decode cX10_start 4 = .ok (.iload_n 1, 1) := by decide +kernel
theorem dX10_start_5 : decode cX10_start 5 = .ok (.invokevirtual 184, 3) := by decide +kernel
theorem dX10_start_8 : decode cX10_start 8 = .ok (.ifCond .ne 5, 3) := by decide +kernel
theorem dX10_start_11 : decode cX10_start 11 = .ok (.iconst (-1), 1) := by decide +kernel
theorem dX10_start_12 : decode cX10_start 12 = .ok (.ireturn, 1) := by decide +kernel
theorem dX10_start_13 : decode cX10_start 13 = .ok (.aload_n 0, 1) := by decide +kernel
theorem dX10_start_14 : decode cX10_start 14 = .ok (.aload_n 0, 1) := by decide +kernel
theorem dX10_start_15 : decode cX10_start 15 = .ok (.getfield 62, 3) := by decide +kernel
theorem dX10_start_18 : decode cX10_start 18 = .ok (.invokevirtual 122, 3) := by decide +kernel
theorem dX10_start_21 : decode cX10_start 21 = .ok (.iload_n 1, 1) := by decide +kernel
theorem dX10_start_22 : decode cX10_start 22 = .ok (.invokevirtual 148, 3) := by decide +kernel
theorem dX10_start_25 : decode cX10_start 25 = .ok (.invokevirtual 188, 3) := by decide +kernel
theorem dX10_start_28 : decode cX10_start 28 = .ok (.ireturn, 1) := by decide +kernel
theorem dX10_keepIfDone_0 : decode cX10_keepIfDone 0 = .ok (.iload_n 1, 1) := by decide +kernel
theorem dX10_keepIfDone_1 : decode cX10_keepIfDone 1 = .ok (.ifCond .ne 10, 3) := by decide +kernel
theorem dX10_keepIfDone_4 : decode cX10_keepIfDone 4 = .ok (.aload_n 0, 1) := by decide +kernel
theorem dX10_keepIfDone_5 : decode cX10_keepIfDone 5 = .ok (.getfield 62, 3) := by decide +kernel
theorem dX10_keepIfDone_8 : decode cX10_keepIfDone 8 = .ok (.invokevirtual 139, 3) := by decide +kernel
theorem dX10_keepIfDone_11 : decode cX10_keepIfDone 11 = .ok (.iload_n 1, 1) := by decide +kernel
theorem dX10_keepIfDone_12 : decode cX10_keepIfDone 12 = .ok (.ireturn, 1) := by decide +kernel
theorem dX10_stop_0 : decode cX10_stop 0 = .ok (.aload_n 0, 1) := by decide +kernel
theorem dX10_stop_1 : decode cX10_stop 1 = .ok (.getfield 26, 3) := by decide +kernel
theorem dX10_stop_4 : decode cX10_stop 4 = .ok (.iload_n 1, 1) := by decide +kernel
theorem dX10_stop_5 : decode cX10_stop 5 = .ok (.invokevirtual 184, 3) := by decide +kernel
theorem dX10_stop_8 : decode cX10_stop 8 = .ok (.ifCond .ne 5, 3) := by decide +kernel
theorem dX10_stop_11 : decode cX10_stop 11 = .ok (.iconst (-1), 1) := by decide +kernel
theorem dX10_stop_12 : decode cX10_stop 12 = .ok (.ireturn, 1) := by decide +kernel
theorem dX10_stop_13 : decode cX10_stop 13 = .ok (.aload_n 0, 1) := by decide +kernel
theorem dX10_stop_14 : decode cX10_stop 14 = .ok (.aload_n 0, 1) := by decide +kernel
theorem dX10_stop_15 : decode cX10_stop 15 = .ok (.getfield 62, 3) := by decide +kernel
theorem dX10_stop_18 : decode cX10_stop 18 = .ok (.invokevirtual 122, 3) := by decide +kernel
theorem dX10_stop_21 : decode cX10_stop 21 = .ok (.iload_n 1, 1) := by decide +kernel
theorem dX10_stop_22 : decode cX10_stop 22 = .ok (.invokevirtual 152, 3) := by decide +kernel
theorem dX10_stop_25 : decode cX10_stop 25 = .ok (.invokevirtual 191, 3) := by decide +kernel
theorem dX10_stop_28 : decode cX10_stop 28 = .ok (.ireturn, 1) := by decide +kernel
theorem dX10_keepIfAny_0 : decode cX10_keepIfAny 0 = .ok (.iload_n 1, 1) := by decide +kernel
theorem dX10_keepIfAny_1 : decode cX10_keepIfAny 1 = .ok (.iconst (-1), 1) := by decide +kernel
theorem dX10_keepIfAny_2 : decode cX10_keepIfAny 2 = .ok (.if_icmp .eq 10, 3) := by decide +kernel
theorem dX10_keepIfAny_5 : decode cX10_keepIfAny 5 = .ok (.aload_n 0, 1) := by decide +kernel
theorem dX10_keepIfAny_6 : decode cX10_keepIfAny 6 = .ok (.getfield 62, 3) := by decide +kernel
theorem dX10_keepIfAny_9 : decode cX10_keepIfAny 9 = .ok (.invokevirtual 139, 3) := by decide +kernel
theorem dX10_keepIfAny_12 : decode cX10_keepIfAny 12 = .ok (.iload_n 1, 1) := by decide +kernel
theorem dX10_keepIfAny_13 : decode cX10_keepIfAny 13 = .ok (.ireturn, 1) := by decide +kernel
theorem dX10_claim_0 : decode cX10_claim 0 = .ok (.aload_n 0, 1) := by decide +kernel
theorem dX10_claim_1 : decode cX10_claim 1 = .ok (.getfield 26, 3) := by decide +kernel
theorem dX10_claim_4 : decode cX10_claim 4 = .ok (.iload_n 1, 1) := by decide +kernel
theorem dX10_claim_5 : decode cX10_claim 5 = .ok (.invokevirtual 184, 3) := by decide +kernel
theorem dX10_claim_8 : decode cX10_claim 8 = .ok (.ifCond .ne 5, 3) := by decide +kernel
theorem dX10_claim_11 : decode cX10_claim 11 = .ok (.iconst (-1), 1) := by decide +kernel
theorem dX10_claim_12 : decode cX10_claim 12 = .ok (.ireturn, 1) := by decide +kernel
theorem dX10_claim_13 : decode cX10_claim 13 = .ok (.aload_n 0, 1) := by decide +kernel
theorem dX10_claim_14 : decode cX10_claim 14 = .ok (.aload_n 0, 1) := by decide +kernel
theorem dX10_claim_15 : decode cX10_claim 15 = .ok (.getfield 62, 3) := by decide +kernel
theorem dX10_claim_18 : decode cX10_claim 18 = .ok (.invokevirtual 122, 3) := by decide +kernel
theorem dX10_claim_21 : decode cX10_claim 21 = .ok (.iload_n 1, 1) := by decide +kernel
theorem dX10_claim_22 : decode cX10_claim 22 = .ok (.invokevirtual 155, 3) := by decide +kernel
theorem dX10_claim_25 : decode cX10_claim 25 = .ok (.invokevirtual 188, 3) := by decide +kernel
theorem dX10_claim_28 : decode cX10_claim 28 = .ok (.ireturn, 1) := by decide +kernel
theorem dX10_raise_0 : decode cX10_raise 0 = .ok (.aload_n 0, 1) := by decide +kernel
theorem dX10_raise_1 : decode cX10_raise 1 = .ok (.getfield 26, 3) := by decide +kernel
theorem dX10_raise_4 : decode cX10_raise 4 = .ok (.iload_n 1, 1) := by decide +kernel
theorem dX10_raise_5 : decode cX10_raise 5 = .ok (.iload_n 2, 1) := by decide +kernel
theorem dX10_raise_6 : decode cX10_raise 6 = .ok (.invokevirtual 194, 3) := by decide +kernel
theorem dX10_raise_9 : decode cX10_raise 9 = .ok (.ifCond .ne 5, 3) := by decide +kernel
theorem dX10_raise_12 : decode cX10_raise 12 = .ok (.iconst (-1), 1) := by decide +kernel
theorem dX10_raise_13 : decode cX10_raise 13 = .ok (.ireturn, 1) := by decide +kernel
theorem dX10_raise_14 : decode cX10_raise 14 = .ok (.aload_n 0, 1) := by decide +kernel
theorem dX10_raise_15 : decode cX10_raise 15 = .ok (.aload_n 0, 1) := by decide +kernel
theorem dX10_raise_16 : decode cX10_raise 16 = .ok (.getfield 62, 3) := by decide +kernel
theorem dX10_raise_19 : decode cX10_raise 19 = .ok (.invokevirtual 122, 3) := by decide +kernel
theorem dX10_raise_22 : decode cX10_raise 22 = .ok (.iload_n 1, 1) := by decide +kernel
theorem dX10_raise_23 : decode cX10_raise 23 = .ok (.iload_n 2, 1) := by decide +kernel
theorem dX10_raise_24 : decode cX10_raise 24 = .ok (.iload_n 3, 1) := by decide +kernel
theorem dX10_raise_25 : decode cX10_raise 25 = .ok (.invokevirtual 158, 3) := by decide +kernel
theorem dX10_raise_28 : decode cX10_raise 28 = .ok (.invokevirtual 191, 3) := by decide +kernel
theorem dX10_raise_31 : decode cX10_raise 31 = .ok (.ireturn, 1) := by decide +kernel
theorem dX10_tick_0 : decode cX10_tick 0 = .ok (.iload_n 1, 1) := by decide +kernel
theorem dX10_tick_1 : decode cX10_tick 1 = .ok (.iconst 1, 1) := by decide +kernel
theorem dX10_tick_2 : decode cX10_tick 2 = .ok (.if_icmp .lt 9, 3) := by decide +kernel
theorem dX10_tick_5 : decode cX10_tick 5 = .ok (.iload_n 1, 1) := by decide +kernel
theorem dX10_tick_6 : decode cX10_tick 6 = .ok (.bipush 100, 2) := by decide +kernel
theorem dX10_tick_8 : decode cX10_tick 8 = .ok (.if_icmp .le 5, 3) := by decide +kernel
theorem dX10_tick_11 : decode cX10_tick 11 = .ok (.iconst (-1), 1) := by decide +kernel
theorem dX10_tick_12 : decode cX10_tick 12 = .ok (.ireturn, 1) := by decide +kernel
theorem dX10_tick_13 : decode cX10_tick 13 = .ok (.aload_n 0, 1) := by decide +kernel
theorem dX10_tick_14 : decode cX10_tick 14 = .ok (.aload_n 0, 1) := by decide +kernel
theorem dX10_tick_15 : decode cX10_tick 15 = .ok (.getfield 62, 3) := by decide +kernel
theorem dX10_tick_18 : decode cX10_tick 18 = .ok (.invokevirtual 122, 3) := by decide +kernel
theorem dX10_tick_21 : decode cX10_tick 21 = .ok (.iload_n 1, 1) := by decide +kernel
theorem dX10_tick_22 : decode cX10_tick 22 = .ok (.invokevirtual 169, 3) := by decide +kernel
theorem dX10_tick_25 : decode cX10_tick 25 = .ok (.invokevirtual 191, 3) := by decide +kernel
theorem dX10_tick_28 : decode cX10_tick 28 = .ok (.ireturn, 1) := by decide +kernel
theorem dX10_move_0 : decode cX10_move 0 = .ok (.aload_n 0, 1) := by decide +kernel
theorem dX10_move_1 : decode cX10_move 1 = .ok (.getfield 26, 3) := by decide +kernel
theorem dX10_move_4 : decode cX10_move 4 = .ok (.iload_n 1, 1) := by decide +kernel
theorem dX10_move_5 : decode cX10_move 5 = .ok (.invokevirtual 184, 3) := by decide +kernel
theorem dX10_move_8 : decode cX10_move 8 = .ok (.ifCond .eq 7, 3) := by decide +kernel
theorem dX10_move_11 : decode cX10_move 11 = .ok (.iload_n 3, 1) := by decide +kernel
theorem dX10_move_12 : decode cX10_move 12 = .ok (.ifCond .ge 5, 3) := by decide +kernel
theorem dX10_move_15 : decode cX10_move 15 = .ok (.iconst (-1), 1) := by decide +kernel
theorem dX10_move_16 : decode cX10_move 16 = .ok (.ireturn, 1) := by decide +kernel
theorem dX10_move_17 : decode cX10_move 17 = .ok (.aload_n 0, 1) := by decide +kernel
theorem dX10_move_18 : decode cX10_move 18 = .ok (.aload_n 0, 1) := by decide +kernel
theorem dX10_move_19 : decode cX10_move 19 = .ok (.getfield 62, 3) := by decide +kernel
theorem dX10_move_22 : decode cX10_move 22 = .ok (.invokevirtual 122, 3) := by decide +kernel
theorem dX10_move_25 : decode cX10_move 25 = .ok (.iload_n 1, 1) := by decide +kernel
theorem dX10_move_26 : decode cX10_move 26 = .ok (.iload_n 2, 1) := by decide +kernel
theorem dX10_move_27 : decode cX10_move 27 = .ok (.iload_n 3, 1) := by decide +kernel
theorem dX10_move_28 : decode cX10_move 28 = .ok (.invokevirtual 165, 3) := by decide +kernel
theorem dX10_move_31 : decode cX10_move 31 = .ok (.invokevirtual 188, 3) := by decide +kernel
theorem dX10_move_34 : decode cX10_move 34 = .ok (.ireturn, 1) := by decide +kernel
theorem dX10_unplug_0 : decode cX10_unplug 0 = .ok (.aload_n 0, 1) := by decide +kernel
theorem dX10_unplug_1 : decode cX10_unplug 1 = .ok (.getfield 26, 3) := by decide +kernel
theorem dX10_unplug_4 : decode cX10_unplug 4 = .ok (.iload_n 1, 1) := by decide +kernel
theorem dX10_unplug_5 : decode cX10_unplug 5 = .ok (.invokevirtual 198, 3) := by decide +kernel
theorem dX10_unplug_8 : decode cX10_unplug 8 = .ok (.ifCond .ne 5, 3) := by decide +kernel
theorem dX10_unplug_11 : decode cX10_unplug 11 = .ok (.iconst (-1), 1) := by decide +kernel
theorem dX10_unplug_12 : decode cX10_unplug 12 = .ok (.ireturn, 1) := by decide +kernel
theorem dX10_unplug_13 : decode cX10_unplug 13 = .ok (.aload_n 0, 1) := by decide +kernel
theorem dX10_unplug_14 : decode cX10_unplug 14 = .ok (.aload_n 0, 1) := by decide +kernel
theorem dX10_unplug_15 : decode cX10_unplug 15 = .ok (.getfield 62, 3) := by decide +kernel
theorem dX10_unplug_18 : decode cX10_unplug 18 = .ok (.invokevirtual 122, 3) := by decide +kernel
theorem dX10_unplug_21 : decode cX10_unplug 21 = .ok (.iload_n 1, 1) := by decide +kernel
theorem dX10_unplug_22 : decode cX10_unplug 22 = .ok (.invokevirtual 175, 3) := by decide +kernel
theorem dX10_unplug_25 : decode cX10_unplug 25 = .ok (.invokevirtual 188, 3) := by decide +kernel
theorem dX10_unplug_28 : decode cX10_unplug 28 = .ok (.ireturn, 1) := by decide +kernel
theorem dX10_plug_0 : decode cX10_plug 0 = .ok (.aload_n 0, 1) := by decide +kernel
theorem dX10_plug_1 : decode cX10_plug 1 = .ok (.getfield 26, 3) := by decide +kernel
theorem dX10_plug_4 : decode cX10_plug 4 = .ok (.iload_n 1, 1) := by decide +kernel
theorem dX10_plug_5 : decode cX10_plug 5 = .ok (.invokevirtual 198, 3) := by decide +kernel
theorem dX10_plug_8 : decode cX10_plug 8 = .ok (.ifCond .ne 5, 3) := by decide +kernel
theorem dX10_plug_11 : decode cX10_plug 11 = .ok (.iconst (-1), 1) := by decide +kernel
theorem dX10_plug_12 : decode cX10_plug 12 = .ok (.ireturn, 1) := by decide +kernel
theorem dX10_plug_13 : decode cX10_plug 13 = .ok (.aload_n 0, 1) := by decide +kernel
theorem dX10_plug_14 : decode cX10_plug 14 = .ok (.aload_n 0, 1) := by decide +kernel
theorem dX10_plug_15 : decode cX10_plug 15 = .ok (.getfield 62, 3) := by decide +kernel
theorem dX10_plug_18 : decode cX10_plug 18 = .ok (.invokevirtual 122, 3) := by decide +kernel
theorem dX10_plug_21 : decode cX10_plug 21 = .ok (.iload_n 1, 1) := by decide +kernel
theorem dX10_plug_22 : decode cX10_plug 22 = .ok (.invokevirtual 172, 3) := by decide +kernel
theorem dX10_plug_25 : decode cX10_plug 25 = .ok (.invokevirtual 188, 3) := by decide +kernel
theorem dX10_plug_28 : decode cX10_plug 28 = .ok (.ireturn, 1) := by decide +kernel
theorem dX10_undo_0 : decode cX10_undo 0 = .ok (.aload_n 0, 1) := by decide +kernel
theorem dX10_undo_1 : decode cX10_undo 1 = .ok (.getfield 62, 3) := by decide +kernel
theorem dX10_undo_4 : decode cX10_undo 4 = .ok (.invokevirtual 201, 3) := by decide +kernel
theorem dX10_undo_7 : decode cX10_undo 7 = .ok (.ireturn, 1) := by decide +kernel
theorem dX10_redo_0 : decode cX10_redo 0 = .ok (.aload_n 0, 1) := by decide +kernel
theorem dX10_redo_1 : decode cX10_redo 1 = .ok (.getfield 62, 3) := by decide +kernel
theorem dX10_redo_4 : decode cX10_redo 4 = .ok (.invokevirtual 204, 3) := by decide +kernel
theorem dX10_redo_7 : decode cX10_redo 7 = .ok (.ireturn, 1) := by decide +kernel
theorem dX10_cpu_0 : decode cX10_cpu 0 = .ok (.aload_n 0, 1) := by decide +kernel
theorem dX10_cpu_1 : decode cX10_cpu 1 = .ok (.getfield 26, 3) := by decide +kernel
theorem dX10_cpu_4 : decode cX10_cpu 4 = .ok (.iload_n 1, 1) := by decide +kernel
theorem dX10_cpu_5 : decode cX10_cpu 5 = .ok (.invokevirtual 198, 3) := by decide +kernel
theorem dX10_cpu_8 : decode cX10_cpu 8 = .ok (.ifCond .ne 5, 3) := by decide +kernel
theorem dX10_cpu_11 : decode cX10_cpu 11 = .ok (.iconst (-1), 1) := by decide +kernel
theorem dX10_cpu_12 : decode cX10_cpu 12 = .ok (.ireturn, 1) := by decide +kernel
theorem dX10_cpu_13 : decode cX10_cpu 13 = .ok (.aload_n 0, 1) := by decide +kernel
theorem dX10_cpu_14 : decode cX10_cpu 14 = .ok (.getfield 62, 3) := by decide +kernel
theorem dX10_cpu_17 : decode cX10_cpu 17 = .ok (.getfield 109, 3) := by decide +kernel
theorem dX10_cpu_20 : decode cX10_cpu 20 = .ok (.getfield 207, 3) := by decide +kernel
theorem dX10_cpu_23 : decode cX10_cpu 23 = .ok (.astore_n 3, 1) := by decide +kernel
theorem dX10_cpu_24 : decode cX10_cpu 24 = .ok (.iload_n 2, 1) := by decide +kernel
theorem dX10_cpu_25 : decode cX10_cpu 25 = .ok (.tableswitch 109 0 6 #[43, 49, 56, 63, 73, 87, 93], 43) := by decide +kernel
theorem dX10_cpu_68 : decode cX10_cpu 68 = .ok (.aload_n 3, 1) := by decide +kernel
theorem dX10_cpu_69 : decode cX10_cpu 69 = .ok (.iload_n 1, 1) := by decide +kernel
theorem dX10_cpu_70 : decode cX10_cpu 70 = .ok (.invokevirtual 211, 3) := by decide +kernel
theorem dX10_cpu_73 : decode cX10_cpu 73 = .ok (.ireturn, 1) := by decide +kernel
theorem dX10_cpu_74 : decode cX10_cpu 74 = .ok (.aload_n 3, 1) := by decide +kernel
theorem dX10_cpu_75 : decode cX10_cpu 75 = .ok (.iconst 0, 1) := by decide +kernel
theorem dX10_cpu_76 : decode cX10_cpu 76 = .ok (.iload_n 1, 1) := by decide +kernel
theorem dX10_cpu_77 : decode cX10_cpu 77 = .ok (.invokevirtual 216, 3) := by decide +kernel
theorem dX10_cpu_80 : decode cX10_cpu 80 = .ok (.ireturn, 1) := by decide +kernel
theorem dX10_cpu_81 : decode cX10_cpu 81 = .ok (.aload_n 3, 1) := by decide +kernel
theorem dX10_cpu_82 : decode cX10_cpu 82 = .ok (.iconst 4, 1) := by decide +kernel
theorem dX10_cpu_83 : decode cX10_cpu 83 = .ok (.iload_n 1, 1) := by decide +kernel
theorem dX10_cpu_84 : decode cX10_cpu 84 = .ok (.invokevirtual 216, 3) := by decide +kernel
theorem dX10_cpu_87 : decode cX10_cpu 87 = .ok (.ireturn, 1) := by decide +kernel
theorem dX10_cpu_88 : decode cX10_cpu 88 = .ok (.aload_n 3, 1) := by decide +kernel
theorem dX10_cpu_89 : decode cX10_cpu 89 = .ok (.getfield 220, 3) := by decide +kernel
theorem dX10_cpu_92 : decode cX10_cpu 92 = .ok (.iload_n 1, 1) := by decide +kernel
theorem dX10_cpu_93 : decode cX10_cpu 93 = .ok (.iaload, 1) := by decide +kernel
theorem dX10_cpu_94 : decode cX10_cpu 94 = .ok (.invokestatic 223, 3) := by decide +kernel
theorem dX10_cpu_97 : decode cX10_cpu 97 = .ok (.ireturn, 1) := by decide +kernel
theorem dX10_cpu_98 : decode cX10_cpu 98 = .ok (.aload_n 3, 1) := by decide +kernel
theorem dX10_cpu_99 : decode cX10_cpu 99 = .ok (.iload_n 1, 1) := by decide +kernel
theorem dX10_cpu_100 : decode cX10_cpu 100 = .ok (.invokevirtual 228, 3) := by decide +kernel
theorem dX10_cpu_103 : decode cX10_cpu 103 = .ok (.ifCond .eq 7, 3) := by decide +kernel
theorem dX10_cpu_106 : decode cX10_cpu 106 = .ok (.iconst 1, 1) := by decide +kernel
theorem dX10_cpu_107 : decode cX10_cpu 107 = .ok (.goto 4, 3) := by decide +kernel
theorem dX10_cpu_110 : decode cX10_cpu 110 = .ok (.iconst 0, 1) := by decide +kernel
theorem dX10_cpu_111 : decode cX10_cpu 111 = .ok (.ireturn, 1) := by decide +kernel
theorem dX10_cpu_112 : decode cX10_cpu 112 = .ok (.aload_n 3, 1) := by decide +kernel
theorem dX10_cpu_113 : decode cX10_cpu 113 = .ok (.iload_n 1, 1) := by decide +kernel
theorem dX10_cpu_114 : decode cX10_cpu 114 = .ok (.invokevirtual 231, 3) := by decide +kernel
theorem dX10_cpu_117 : decode cX10_cpu 117 = .ok (.ireturn, 1) := by decide +kernel
theorem dX10_cpu_118 : decode cX10_cpu 118 = .ok (.aload_n 0, 1) := by decide +kernel
theorem dX10_cpu_119 : decode cX10_cpu 119 = .ok (.getfield 62, 3) := by decide +kernel
theorem dX10_cpu_122 : decode cX10_cpu 122 = .ok (.getfield 109, 3) := by decide +kernel
theorem dX10_cpu_125 : decode cX10_cpu 125 = .ok (.getfield 234, 3) := by decide +kernel
theorem dX10_cpu_128 : decode cX10_cpu 128 = .ok (.getfield 238, 3) := by decide +kernel
theorem dX10_cpu_131 : decode cX10_cpu 131 = .ok (.iload_n 1, 1) := by decide +kernel
theorem dX10_cpu_132 : decode cX10_cpu 132 = .ok (.iaload, 1) := by decide +kernel
theorem dX10_cpu_133 : decode cX10_cpu 133 = .ok (.ireturn, 1) := by decide +kernel
theorem dX10_cpu_134 : decode cX10_cpu 134 = .ok (.iconst (-1), 1) := by decide +kernel
theorem dX10_cpu_135 : decode cX10_cpu 135 = .ok (.ireturn, 1) := by decide +kernel
theorem dX10_vector_0 : decode cX10_vector 0 = .ok (.aload_n 0, 1) := by decide +kernel
theorem dX10_vector_1 : decode cX10_vector 1 = .ok (.getfield 26, 3) := by decide +kernel
theorem dX10_vector_4 : decode cX10_vector 4 = .ok (.iload_n 1, 1) := by decide +kernel
theorem dX10_vector_5 : decode cX10_vector 5 = .ok (.invokevirtual 198, 3) := by decide +kernel
theorem dX10_vector_8 : decode cX10_vector 8 = .ok (.ifCond .eq 14, 3) := by decide +kernel
theorem dX10_vector_11 : decode cX10_vector 11 = .ok (.aload_n 0, 1) := by decide +kernel
theorem dX10_vector_12 : decode cX10_vector 12 = .ok (.getfield 26, 3) := by decide +kernel
theorem dX10_vector_15 : decode cX10_vector 15 = .ok (.iload_n 2, 1) := by decide +kernel
theorem dX10_vector_16 : decode cX10_vector 16 = .ok (.invokevirtual 243, 3) := by decide +kernel
theorem dX10_vector_19 : decode cX10_vector 19 = .ok (.ifCond .ne 5, 3) := by decide +kernel
theorem dX10_vector_22 : decode cX10_vector 22 = .ok (.iconst (-1), 1) := by decide +kernel
theorem dX10_vector_23 : decode cX10_vector 23 = .ok (.ireturn, 1) := by decide +kernel
theorem dX10_vector_24 : decode cX10_vector 24 = .ok (.aload_n 0, 1) := by decide +kernel
theorem dX10_vector_25 : decode cX10_vector 25 = .ok (.getfield 62, 3) := by decide +kernel
theorem dX10_vector_28 : decode cX10_vector 28 = .ok (.getfield 109, 3) := by decide +kernel
theorem dX10_vector_31 : decode cX10_vector 31 = .ok (.getfield 207, 3) := by decide +kernel
theorem dX10_vector_34 : decode cX10_vector 34 = .ok (.astore 4, 2) := by decide +kernel
theorem dX10_vector_36 : decode cX10_vector 36 = .ok (.iload_n 1, 1) := by decide +kernel
theorem dX10_vector_37 : decode cX10_vector 37 = .ok (.bipush 32, 2) := by decide +kernel
theorem dX10_vector_39 : decode cX10_vector 39 = .ok (.imul, 1) := by decide +kernel
theorem dX10_vector_40 : decode cX10_vector 40 = .ok (.iload_n 2, 1) := by decide +kernel
theorem dX10_vector_41 : decode cX10_vector 41 = .ok (.iadd, 1) := by decide +kernel
theorem dX10_vector_42 : decode cX10_vector 42 = .ok (.istore 5, 2) := by decide +kernel
theorem dX10_vector_44 : decode cX10_vector 44 = .ok (.aload 4, 2) := by decide +kernel
theorem dX10_vector_46 : decode cX10_vector 46 = .ok (.getfield 246, 3) := by decide +kernel
theorem dX10_vector_49 : decode cX10_vector 49 = .ok (.iload 5, 2) := by decide +kernel
theorem dX10_vector_51 : decode cX10_vector 51 = .ok (.iaload, 1) := by decide +kernel
theorem dX10_vector_52 : decode cX10_vector 52 = .ok (.istore 6, 2) := by decide +kernel
theorem dX10_vector_54 : decode cX10_vector 54 = .ok (.iload_n 3, 1) := by decide +kernel
theorem dX10_vector_55 : decode cX10_vector 55 = .ok (.tableswitch 85 0 3 #[29, 37, 53, 69], 29) := by decide +kernel
theorem dX10_vector_84 : decode cX10_vector 84 = .ok (.aload 4, 2) := by decide +kernel
theorem dX10_vector_86 : decode cX10_vector 86 = .ok (.iload 5, 2) := by decide +kernel
theorem dX10_vector_88 : decode cX10_vector 88 = .ok (.invokevirtual 249, 3) := by decide +kernel
theorem dX10_vector_91 : decode cX10_vector 91 = .ok (.ireturn, 1) := by decide +kernel
theorem dX10_vector_92 : decode cX10_vector 92 = .ok (.iload 6, 2) := by decide +kernel
theorem dX10_vector_94 : decode cX10_vector 94 = .ok (.iconst (-1), 1) := by decide +kernel
theorem dX10_vector_95 : decode cX10_vector 95 = .ok (.if_icmp .ne 7, 3) := by decide +kernel
theorem dX10_vector_98 : decode cX10_vector 98 = .ok (.iconst (-1), 1) := by decide +kernel
theorem dX10_vector_99 : decode cX10_vector 99 = .ok (.goto 8, 3) := by decide +kernel
theorem dX10_vector_102 : decode cX10_vector 102 = .ok (.iload 6, 2) := by decide +kernel
theorem dX10_vector_104 : decode cX10_vector 104 = .ok (.bipush 8, 2) := by decide +kernel
theorem dX10_vector_106 : decode cX10_vector 106 = .ok (.idiv, 1) := by decide +kernel
theorem dX10_vector_107 : decode cX10_vector 107 = .ok (.ireturn, 1) := by decide +kernel
theorem dX10_vector_108 : decode cX10_vector 108 = .ok (.iload 6, 2) := by decide +kernel
theorem dX10_vector_110 : decode cX10_vector 110 = .ok (.iconst (-1), 1) := by decide +kernel
theorem dX10_vector_111 : decode cX10_vector 111 = .ok (.if_icmp .ne 7, 3) := by decide +kernel
theorem dX10_vector_114 : decode cX10_vector 114 = .ok (.iconst (-1), 1) := by decide +kernel
theorem dX10_vector_115 : decode cX10_vector 115 = .ok (.goto 8, 3) := by decide +kernel
theorem dX10_vector_118 : decode cX10_vector 118 = .ok (.iload 6, 2) := by decide +kernel
theorem dX10_vector_120 : decode cX10_vector 120 = .ok (.bipush 8, 2) := by decide +kernel
theorem dX10_vector_122 : decode cX10_vector 122 = .ok (.irem, 1) := by decide +kernel
theorem dX10_vector_123 : decode cX10_vector 123 = .ok (.ireturn, 1) := by decide +kernel
theorem dX10_vector_124 : decode cX10_vector 124 = .ok (.aload 4, 2) := by decide +kernel
theorem dX10_vector_126 : decode cX10_vector 126 = .ok (.iload 5, 2) := by decide +kernel
theorem dX10_vector_128 : decode cX10_vector 128 = .ok (.invokevirtual 252, 3) := by decide +kernel
theorem dX10_vector_131 : decode cX10_vector 131 = .ok (.ifCond .eq 7, 3) := by decide +kernel
theorem dX10_vector_134 : decode cX10_vector 134 = .ok (.iconst 1, 1) := by decide +kernel
theorem dX10_vector_135 : decode cX10_vector 135 = .ok (.goto 4, 3) := by decide +kernel
theorem dX10_vector_138 : decode cX10_vector 138 = .ok (.iconst 0, 1) := by decide +kernel
theorem dX10_vector_139 : decode cX10_vector 139 = .ok (.ireturn, 1) := by decide +kernel
theorem dX10_vector_140 : decode cX10_vector 140 = .ok (.iconst (-1), 1) := by decide +kernel
theorem dX10_vector_141 : decode cX10_vector 141 = .ok (.ireturn, 1) := by decide +kernel
theorem dX10_device_0 : decode cX10_device 0 = .ok (.aload_n 0, 1) := by decide +kernel
theorem dX10_device_1 : decode cX10_device 1 = .ok (.getfield 26, 3) := by decide +kernel
theorem dX10_device_4 : decode cX10_device 4 = .ok (.iload_n 1, 1) := by decide +kernel
theorem dX10_device_5 : decode cX10_device 5 = .ok (.invokevirtual 184, 3) := by decide +kernel
theorem dX10_device_8 : decode cX10_device 8 = .ok (.ifCond .ne 5, 3) := by decide +kernel
theorem dX10_device_11 : decode cX10_device 11 = .ok (.iconst (-1), 1) := by decide +kernel
theorem dX10_device_12 : decode cX10_device 12 = .ok (.ireturn, 1) := by decide +kernel
theorem dX10_device_13 : decode cX10_device 13 = .ok (.aload_n 0, 1) := by decide +kernel
theorem dX10_device_14 : decode cX10_device 14 = .ok (.getfield 62, 3) := by decide +kernel
theorem dX10_device_17 : decode cX10_device 17 = .ok (.getfield 109, 3) := by decide +kernel
theorem dX10_device_20 : decode cX10_device 20 = .ok (.getfield 234, 3) := by decide +kernel
theorem dX10_device_23 : decode cX10_device 23 = .ok (.astore_n 3, 1) := by decide +kernel
theorem dX10_device_24 : decode cX10_device 24 = .ok (.iload_n 2, 1) := by decide +kernel
theorem dX10_device_25 : decode cX10_device 25 = .ok (.tableswitch 138 0 7 #[47, 57, 67, 77, 97, 117, 124, 131], 47) := by decide +kernel
theorem dX10_device_72 : decode cX10_device 72 = .ok (.aload_n 0, 1) := by decide +kernel
theorem dX10_device_73 : decode cX10_device 73 = .ok (.getfield 26, 3) := by decide +kernel
theorem dX10_device_76 : decode cX10_device 76 = .ok (.getfield 255, 3) := by decide +kernel
theorem dX10_device_79 : decode cX10_device 79 = .ok (.iload_n 1, 1) := by decide +kernel
theorem dX10_device_80 : decode cX10_device 80 = .ok (.iaload, 1) := by decide +kernel
theorem dX10_device_81 : decode cX10_device 81 = .ok (.ireturn, 1) := by decide +kernel
theorem dX10_device_82 : decode cX10_device 82 = .ok (.aload_n 0, 1) := by decide +kernel
theorem dX10_device_83 : decode cX10_device 83 = .ok (.getfield 26, 3) := by decide +kernel
theorem dX10_device_86 : decode cX10_device 86 = .ok (.getfield 258, 3) := by decide +kernel
theorem dX10_device_89 : decode cX10_device 89 = .ok (.iload_n 1, 1) := by decide +kernel
theorem dX10_device_90 : decode cX10_device 90 = .ok (.iaload, 1) := by decide +kernel
theorem dX10_device_91 : decode cX10_device 91 = .ok (.ireturn, 1) := by decide +kernel
theorem dX10_device_92 : decode cX10_device 92 = .ok (.aload_n 0, 1) := by decide +kernel
theorem dX10_device_93 : decode cX10_device 93 = .ok (.getfield 26, 3) := by decide +kernel
theorem dX10_device_96 : decode cX10_device 96 = .ok (.getfield 261, 3) := by decide +kernel
theorem dX10_device_99 : decode cX10_device 99 = .ok (.iload_n 1, 1) := by decide +kernel
theorem dX10_device_100 : decode cX10_device 100 = .ok (.iaload, 1) := by decide +kernel
theorem dX10_device_101 : decode cX10_device 101 = .ok (.ireturn, 1) := by decide +kernel
theorem dX10_device_102 : decode cX10_device 102 = .ok (.aload_n 0, 1) := by decide +kernel
theorem dX10_device_103 : decode cX10_device 103 = .ok (.getfield 62, 3) := by decide +kernel
theorem dX10_device_106 : decode cX10_device 106 = .ok (.getfield 109, 3) := by decide +kernel
theorem dX10_device_109 : decode cX10_device 109 = .ok (.iload_n 1, 1) := by decide +kernel
theorem dX10_device_110 : decode cX10_device 110 = .ok (.invokevirtual 264, 3) := by decide +kernel
theorem dX10_device_113 : decode cX10_device 113 = .ok (.ifCond .eq 7, 3) := by decide +kernel
theorem dX10_device_116 : decode cX10_device 116 = .ok (.iconst 1, 1) := by decide +kernel
theorem dX10_device_117 : decode cX10_device 117 = .ok (.goto 4, 3) := by decide +kernel
theorem dX10_device_120 : decode cX10_device 120 = .ok (.iconst 0, 1) := by decide +kernel
theorem dX10_device_121 : decode cX10_device 121 = .ok (.ireturn, 1) := by decide +kernel
theorem dX10_device_122 : decode cX10_device 122 = .ok (.aload_n 0, 1) := by decide +kernel
theorem dX10_device_123 : decode cX10_device 123 = .ok (.getfield 62, 3) := by decide +kernel
theorem dX10_device_126 : decode cX10_device 126 = .ok (.getfield 109, 3) := by decide +kernel
theorem dX10_device_129 : decode cX10_device 129 = .ok (.iload_n 1, 1) := by decide +kernel
theorem dX10_device_130 : decode cX10_device 130 = .ok (.invokevirtual 267, 3) := by decide +kernel
theorem dX10_device_133 : decode cX10_device 133 = .ok (.ifCond .eq 7, 3) := by decide +kernel
theorem dX10_device_136 : decode cX10_device 136 = .ok (.iconst 1, 1) := by decide +kernel
theorem dX10_device_137 : decode cX10_device 137 = .ok (.goto 4, 3) := by decide +kernel
theorem dX10_device_140 : decode cX10_device 140 = .ok (.iconst 0, 1) := by decide +kernel
theorem dX10_device_141 : decode cX10_device 141 = .ok (.ireturn, 1) := by decide +kernel
theorem dX10_device_142 : decode cX10_device 142 = .ok (.aload_n 3, 1) := by decide +kernel
theorem dX10_device_143 : decode cX10_device 143 = .ok (.getfield 270, 3) := by decide +kernel
theorem dX10_device_146 : decode cX10_device 146 = .ok (.iload_n 1, 1) := by decide +kernel
theorem dX10_device_147 : decode cX10_device 147 = .ok (.iaload, 1) := by decide +kernel
theorem dX10_device_148 : decode cX10_device 148 = .ok (.ireturn, 1) := by decide +kernel
theorem dX10_device_149 : decode cX10_device 149 = .ok (.aload_n 3, 1) := by decide +kernel
theorem dX10_device_150 : decode cX10_device 150 = .ok (.getfield 273, 3) := by decide +kernel
theorem dX10_device_153 : decode cX10_device 153 = .ok (.iload_n 1, 1) := by decide +kernel
theorem dX10_device_154 : decode cX10_device 154 = .ok (.iaload, 1) := by decide +kernel
theorem dX10_device_155 : decode cX10_device 155 = .ok (.ireturn, 1) := by decide +kernel
theorem dX10_device_156 : decode cX10_device 156 = .ok (.aload_n 3, 1) := by decide +kernel
theorem dX10_device_157 : decode cX10_device 157 = .ok (.getfield 276, 3) := by decide +kernel
theorem dX10_device_160 : decode cX10_device 160 = .ok (.iload_n 1, 1) := by decide +kernel
theorem dX10_device_161 : decode cX10_device 161 = .ok (.iaload, 1) := by decide +kernel
theorem dX10_device_162 : decode cX10_device 162 = .ok (.ireturn, 1) := by decide +kernel
theorem dX10_device_163 : decode cX10_device 163 = .ok (.iconst (-1), 1) := by decide +kernel
theorem dX10_device_164 : decode cX10_device 164 = .ok (.ireturn, 1) := by decide +kernel
theorem dX10_line_0 : decode cX10_line 0 = .ok (.aload_n 0, 1) := by decide +kernel
theorem dX10_line_1 : decode cX10_line 1 = .ok (.getfield 62, 3) := by decide +kernel
theorem dX10_line_4 : decode cX10_line 4 = .ok (.getfield 109, 3) := by decide +kernel
theorem dX10_line_7 : decode cX10_line 7 = .ok (.astore 4, 2) := by decide +kernel
theorem dX10_line_9 : decode cX10_line 9 = .ok (.aload_n 0, 1) := by decide +kernel
theorem dX10_line_10 : decode cX10_line 10 = .ok (.getfield 26, 3) := by decide +kernel
theorem dX10_line_13 : decode cX10_line 13 = .ok (.iload_n 1, 1) := by decide +kernel
theorem dX10_line_14 : decode cX10_line 14 = .ok (.iload_n 2, 1) := by decide +kernel
theorem dX10_line_15 : decode cX10_line 15 = .ok (.invokevirtual 194, 3) := by decide +kernel
theorem dX10_line_18 : decode cX10_line 18 = .ok (.ifCond .eq 12, 3) := by decide +kernel
theorem dX10_line_21 : decode cX10_line 21 = .ok (.aload 4, 2) := by decide +kernel
theorem dX10_line_23 : decode cX10_line 23 = .ok (.iload_n 1, 1) := by decide +kernel
theorem dX10_line_24 : decode cX10_line 24 = .ok (.invokevirtual 264, 3) := by decide +kernel
theorem dX10_line_27 : decode cX10_line 27 = .ok (.ifCond .ne 5, 3) := by decide +kernel
theorem dX10_line_30 : decode cX10_line 30 = .ok (.iconst (-1), 1) := by decide +kernel
theorem dX10_line_31 : decode cX10_line 31 = .ok (.ireturn, 1) := by decide +kernel
theorem dX10_line_32 : decode cX10_line 32 = .ok (.iload_n 1, 1) := by decide +kernel
theorem dX10_line_33 : decode cX10_line 33 = .ok (.bipush 8, 2) := by decide +kernel
theorem dX10_line_35 : decode cX10_line 35 = .ok (.imul, 1) := by decide +kernel
theorem dX10_line_36 : decode cX10_line 36 = .ok (.iload_n 2, 1) := by decide +kernel
theorem dX10_line_37 : decode cX10_line 37 = .ok (.iadd, 1) := by decide +kernel
theorem dX10_line_38 : decode cX10_line 38 = .ok (.istore 5, 2) := by decide +kernel
theorem dX10_line_40 : decode cX10_line 40 = .ok (.iload_n 3, 1) := by decide +kernel
theorem dX10_line_41 : decode cX10_line 41 = .ok (.tableswitch 121 0 5 #[39, 51, 63, 75, 87, 104], 39) := by decide +kernel
theorem dX10_line_80 : decode cX10_line 80 = .ok (.aload 4, 2) := by decide +kernel
theorem dX10_line_82 : decode cX10_line 82 = .ok (.getfield 279, 3) := by decide +kernel
theorem dX10_line_85 : decode cX10_line 85 = .ok (.iload 5, 2) := by decide +kernel
theorem dX10_line_87 : decode cX10_line 87 = .ok (.iaload, 1) := by decide +kernel
theorem dX10_line_88 : decode cX10_line 88 = .ok (.invokestatic 282, 3) := by decide +kernel
theorem dX10_line_91 : decode cX10_line 91 = .ok (.ireturn, 1) := by decide +kernel
theorem dX10_line_92 : decode cX10_line 92 = .ok (.aload 4, 2) := by decide +kernel
theorem dX10_line_94 : decode cX10_line 94 = .ok (.getfield 279, 3) := by decide +kernel
theorem dX10_line_97 : decode cX10_line 97 = .ok (.iload 5, 2) := by decide +kernel
theorem dX10_line_99 : decode cX10_line 99 = .ok (.iaload, 1) := by decide +kernel
theorem dX10_line_100 : decode cX10_line 100 = .ok (.invokestatic 285, 3) := by decide +kernel
theorem dX10_line_103 : decode cX10_line 103 = .ok (.ireturn, 1) := by decide +kernel
theorem dX10_line_104 : decode cX10_line 104 = .ok (.aload 4, 2) := by decide +kernel
theorem dX10_line_106 : decode cX10_line 106 = .ok (.getfield 288, 3) := by decide +kernel
theorem dX10_line_109 : decode cX10_line 109 = .ok (.iload 5, 2) := by decide +kernel
theorem dX10_line_111 : decode cX10_line 111 = .ok (.iaload, 1) := by decide +kernel
theorem dX10_line_112 : decode cX10_line 112 = .ok (.invokestatic 282, 3) := by decide +kernel
theorem dX10_line_115 : decode cX10_line 115 = .ok (.ireturn, 1) := by decide +kernel
theorem dX10_line_116 : decode cX10_line 116 = .ok (.aload 4, 2) := by decide +kernel
theorem dX10_line_118 : decode cX10_line 118 = .ok (.getfield 288, 3) := by decide +kernel
theorem dX10_line_121 : decode cX10_line 121 = .ok (.iload 5, 2) := by decide +kernel
theorem dX10_line_123 : decode cX10_line 123 = .ok (.iaload, 1) := by decide +kernel
theorem dX10_line_124 : decode cX10_line 124 = .ok (.invokestatic 285, 3) := by decide +kernel
theorem dX10_line_127 : decode cX10_line 127 = .ok (.ireturn, 1) := by decide +kernel
theorem dX10_line_128 : decode cX10_line 128 = .ok (.aload 4, 2) := by decide +kernel
theorem dX10_line_130 : decode cX10_line 130 = .ok (.getfield 291, 3) := by decide +kernel
theorem dX10_line_133 : decode cX10_line 133 = .ok (.iload 5, 2) := by decide +kernel
theorem dX10_line_135 : decode cX10_line 135 = .ok (.baload, 1) := by decide +kernel
theorem dX10_line_136 : decode cX10_line 136 = .ok (.ifCond .eq 7, 3) := by decide +kernel
theorem dX10_line_139 : decode cX10_line 139 = .ok (.iconst 1, 1) := by decide +kernel
theorem dX10_line_140 : decode cX10_line 140 = .ok (.goto 4, 3) := by decide +kernel
theorem dX10_line_143 : decode cX10_line 143 = .ok (.iconst 0, 1) := by decide +kernel
theorem dX10_line_144 : decode cX10_line 144 = .ok (.ireturn, 1) := by decide +kernel
theorem dX10_line_145 : decode cX10_line 145 = .ok (.aload 4, 2) := by decide +kernel
theorem dX10_line_147 : decode cX10_line 147 = .ok (.getfield 294, 3) := by decide +kernel
theorem dX10_line_150 : decode cX10_line 150 = .ok (.iload 5, 2) := by decide +kernel
theorem dX10_line_152 : decode cX10_line 152 = .ok (.baload, 1) := by decide +kernel
theorem dX10_line_153 : decode cX10_line 153 = .ok (.ifCond .eq 7, 3) := by decide +kernel
theorem dX10_line_156 : decode cX10_line 156 = .ok (.iconst 1, 1) := by decide +kernel
theorem dX10_line_157 : decode cX10_line 157 = .ok (.goto 4, 3) := by decide +kernel
theorem dX10_line_160 : decode cX10_line 160 = .ok (.iconst 0, 1) := by decide +kernel
theorem dX10_line_161 : decode cX10_line 161 = .ok (.ireturn, 1) := by decide +kernel
theorem dX10_line_162 : decode cX10_line 162 = .ok (.iconst (-1), 1) := by decide +kernel
theorem dX10_line_163 : decode cX10_line 163 = .ok (.ireturn, 1) := by decide +kernel
theorem dX10_cpuOf_0 : decode cX10_cpuOf 0 = .ok (.iload_n 0, 1) := by decide +kernel
theorem dX10_cpuOf_1 : decode cX10_cpuOf 1 = .ok (.iconst (-1), 1) := by decide +kernel
theorem dX10_cpuOf_2 : decode cX10_cpuOf 2 = .ok (.if_icmp .ne 7, 3) := by decide +kernel
theorem dX10_cpuOf_5 : decode cX10_cpuOf 5 = .ok (.iconst (-1), 1) := by decide +kernel
theorem dX10_cpuOf_6 : decode cX10_cpuOf 6 = .ok (.goto 7, 3) := by decide +kernel
theorem dX10_cpuOf_9 : decode cX10_cpuOf 9 = .ok (.iload_n 0, 1) := by decide +kernel
theorem dX10_cpuOf_10 : decode cX10_cpuOf 10 = .ok (.bipush 32, 2) := by decide +kernel
theorem dX10_cpuOf_12 : decode cX10_cpuOf 12 = .ok (.idiv, 1) := by decide +kernel
theorem dX10_cpuOf_13 : decode cX10_cpuOf 13 = .ok (.ireturn, 1) := by decide +kernel
theorem dX10_vectorOf_0 : decode cX10_vectorOf 0 = .ok (.iload_n 0, 1) := by decide +kernel
theorem dX10_vectorOf_1 : decode cX10_vectorOf 1 = .ok (.iconst (-1), 1) := by decide +kernel
theorem dX10_vectorOf_2 : decode cX10_vectorOf 2 = .ok (.if_icmp .ne 7, 3) := by decide +kernel
theorem dX10_vectorOf_5 : decode cX10_vectorOf 5 = .ok (.iconst (-1), 1) := by decide +kernel
theorem dX10_vectorOf_6 : decode cX10_vectorOf 6 = .ok (.goto 7, 3) := by decide +kernel
theorem dX10_vectorOf_9 : decode cX10_vectorOf 9 = .ok (.iload_n 0, 1) := by decide +kernel
theorem dX10_vectorOf_10 : decode cX10_vectorOf 10 = .ok (.bipush 32, 2) := by decide +kernel
theorem dX10_vectorOf_12 : decode cX10_vectorOf 12 = .ok (.irem, 1) := by decide +kernel
theorem dX10_vectorOf_13 : decode cX10_vectorOf 13 = .ok (.ireturn, 1) := by decide +kernel
theorem dX10_spread_0 : decode cX10_spread 0 = .ok (.aload_n 0, 1) := by decide +kernel
theorem dX10_spread_1 : decode cX10_spread 1 = .ok (.getfield 26, 3) := by decide +kernel
theorem dX10_spread_4 : decode cX10_spread 4 = .ok (.iload_n 1, 1) := by decide +kernel
theorem dX10_spread_5 : decode cX10_spread 5 = .ok (.iload_n 2, 1) := by decide +kernel
theorem dX10_spread_6 : decode cX10_spread 6 = .ok (.invokevirtual 194, 3) := by decide +kernel
theorem dX10_spread_9 : decode cX10_spread 9 = .ok (.ifCond .eq 15, 3) := by decide +kernel
theorem dX10_spread_12 : decode cX10_spread 12 = .ok (.aload_n 0, 1) := by decide +kernel
theorem dX10_spread_13 : decode cX10_spread 13 = .ok (.getfield 26, 3) := by decide +kernel
theorem dX10_spread_16 : decode cX10_spread 16 = .ok (.iload_n 1, 1) := by decide +kernel
theorem dX10_spread_17 : decode cX10_spread 17 = .ok (.iload_n 2, 1) := by decide +kernel
theorem dX10_spread_18 : decode cX10_spread 18 = .ok (.invokevirtual 297, 3) := by decide +kernel
theorem dX10_spread_21 : decode cX10_spread 21 = .ok (.goto 4, 3) := by decide +kernel
theorem dX10_spread_24 : decode cX10_spread 24 = .ok (.iconst 0, 1) := by decide +kernel
theorem dX10_spread_25 : decode cX10_spread 25 = .ok (.ireturn, 1) := by decide +kernel
theorem dX10_room_0 : decode cX10_room 0 = .ok (.iload_n 1, 1) := by decide +kernel
theorem dX10_room_1 : decode cX10_room 1 = .ok (.iconst 1, 1) := by decide +kernel
theorem dX10_room_2 : decode cX10_room 2 = .ok (.if_icmp .eq 10, 3) := by decide +kernel
theorem dX10_room_5 : decode cX10_room 5 = .ok (.iload_n 1, 1) := by decide +kernel
theorem dX10_room_6 : decode cX10_room 6 = .ok (.invokestatic 300, 3) := by decide +kernel
theorem dX10_room_9 : decode cX10_room 9 = .ok (.ifCond .eq 21, 3) := by decide +kernel
theorem dX10_room_12 : decode cX10_room 12 = .ok (.aload_n 0, 1) := by decide +kernel
theorem dX10_room_13 : decode cX10_room 13 = .ok (.getfield 74, 3) := by decide +kernel
theorem dX10_room_16 : decode cX10_room 16 = .ok (.aload_n 0, 1) := by decide +kernel
theorem dX10_room_17 : decode cX10_room 17 = .ok (.getfield 62, 3) := by decide +kernel
theorem dX10_room_20 : decode cX10_room 20 = .ok (.getfield 109, 3) := by decide +kernel
theorem dX10_room_23 : decode cX10_room 23 = .ok (.iload_n 1, 1) := by decide +kernel
theorem dX10_room_24 : decode cX10_room 24 = .ok (.invokevirtual 303, 3) := by decide +kernel
theorem dX10_room_27 : decode cX10_room 27 = .ok (.goto 4, 3) := by decide +kernel
theorem dX10_room_30 : decode cX10_room 30 = .ok (.iconst (-1), 1) := by decide +kernel
theorem dX10_room_31 : decode cX10_room 31 = .ok (.ireturn, 1) := by decide +kernel
theorem dX10_isGroupSize_0 : decode cX10_isGroupSize 0 = .ok (.iload_n 0, 1) := by decide +kernel
theorem dX10_isGroupSize_1 : decode cX10_isGroupSize 1 = .ok (.iconst 2, 1) := by decide +kernel
theorem dX10_isGroupSize_2 : decode cX10_isGroupSize 2 = .ok (.if_icmp .eq 14, 3) := by decide +kernel
theorem dX10_isGroupSize_5 : decode cX10_isGroupSize 5 = .ok (.iload_n 0, 1) := by decide +kernel
theorem dX10_isGroupSize_6 : decode cX10_isGroupSize 6 = .ok (.iconst 4, 1) := by decide +kernel
theorem dX10_isGroupSize_7 : decode cX10_isGroupSize 7 = .ok (.if_icmp .eq 9, 3) := by decide +kernel
theorem dX10_isGroupSize_10 : decode cX10_isGroupSize 10 = .ok (.iload_n 0, 1) := by decide +kernel
theorem dX10_isGroupSize_11 : decode cX10_isGroupSize 11 = .ok (.bipush 8, 2) := by decide +kernel
theorem dX10_isGroupSize_13 : decode cX10_isGroupSize 13 = .ok (.if_icmp .ne 7, 3) := by decide +kernel
theorem dX10_isGroupSize_16 : decode cX10_isGroupSize 16 = .ok (.iconst 1, 1) := by decide +kernel
theorem dX10_isGroupSize_17 : decode cX10_isGroupSize 17 = .ok (.goto 4, 3) := by decide +kernel
theorem dX10_isGroupSize_20 : decode cX10_isGroupSize 20 = .ok (.iconst 0, 1) := by decide +kernel
theorem dX10_isGroupSize_21 : decode cX10_isGroupSize 21 = .ok (.ireturn, 1) := by decide +kernel
theorem dX10_balance_0 : decode cX10_balance 0 = .ok (.aload_n 0, 1) := by decide +kernel
theorem dX10_balance_1 : decode cX10_balance 1 = .ok (.getfield 74, 3) := by decide +kernel
theorem dX10_balance_4 : decode cX10_balance 4 = .ok (.aload_n 0, 1) := by decide +kernel
theorem dX10_balance_5 : decode cX10_balance 5 = .ok (.getfield 62, 3) := by decide +kernel
theorem dX10_balance_8 : decode cX10_balance 8 = .ok (.getfield 109, 3) := by decide +kernel
theorem dX10_balance_11 : decode cX10_balance 11 = .ok (.getfield 207, 3) := by decide +kernel
theorem dX10_balance_14 : decode cX10_balance 14 = .ok (.invokevirtual 306, 3) := by decide +kernel
theorem dX10_balance_17 : decode cX10_balance 17 = .ok (.ireturn, 1) := by decide +kernel
theorem dX10_clear_0 : decode cX10_clear 0 = .ok (.iload_n 1, 1) := by decide +kernel
theorem dX10_clear_1 : decode cX10_clear 1 = .ok (.invokestatic 300, 3) := by decide +kernel
theorem dX10_clear_4 : decode cX10_clear 4 = .ok (.ifCond .ne 5, 3) := by decide +kernel
theorem dX10_clear_7 : decode cX10_clear 7 = .ok (.iconst (-1), 1) := by decide +kernel
theorem dX10_clear_8 : decode cX10_clear 8 = .ok (.ireturn, 1) := by decide +kernel
theorem dX10_clear_9 : decode cX10_clear 9 = .ok (.aload_n 0, 1) := by decide +kernel
theorem dX10_clear_10 : decode cX10_clear 10 = .ok (.getfield 74, 3) := by decide +kernel
theorem dX10_clear_13 : decode cX10_clear 13 = .ok (.aload_n 0, 1) := by decide +kernel
theorem dX10_clear_14 : decode cX10_clear 14 = .ok (.getfield 62, 3) := by decide +kernel
theorem dX10_clear_17 : decode cX10_clear 17 = .ok (.getfield 109, 3) := by decide +kernel
theorem dX10_clear_20 : decode cX10_clear 20 = .ok (.iload_n 1, 1) := by decide +kernel
theorem dX10_clear_21 : decode cX10_clear 21 = .ok (.invokevirtual 310, 3) := by decide +kernel
theorem dX10_clear_24 : decode cX10_clear 24 = .ok (.iload_n 2, 1) := by decide +kernel
theorem dX10_clear_25 : decode cX10_clear 25 = .ok (.tableswitch 57 0 2 #[27, 35, 46], 27) := by decide +kernel
theorem dX10_clear_52 : decode cX10_clear 52 = .ok (.aload_n 0, 1) := by decide +kernel
theorem dX10_clear_53 : decode cX10_clear 53 = .ok (.getfield 74, 3) := by decide +kernel
theorem dX10_clear_56 : decode cX10_clear 56 = .ok (.getfield 314, 3) := by decide +kernel
theorem dX10_clear_59 : decode cX10_clear 59 = .ok (.ireturn, 1) := by decide +kernel
theorem dX10_clear_60 : decode cX10_clear 60 = .ok (.aload_n 0, 1) := by decide +kernel
theorem dX10_clear_61 : decode cX10_clear 61 = .ok (.getfield 74, 3) := by decide +kernel
theorem dX10_clear_64 : decode cX10_clear 64 = .ok (.getfield 317, 3) := by decide +kernel
theorem dX10_clear_67 : decode cX10_clear 67 = .ok (.invokestatic 282, 3) := by decide +kernel
theorem dX10_clear_70 : decode cX10_clear 70 = .ok (.ireturn, 1) := by decide +kernel
theorem dX10_clear_71 : decode cX10_clear 71 = .ok (.aload_n 0, 1) := by decide +kernel
theorem dX10_clear_72 : decode cX10_clear 72 = .ok (.getfield 74, 3) := by decide +kernel
theorem dX10_clear_75 : decode cX10_clear 75 = .ok (.getfield 317, 3) := by decide +kernel
theorem dX10_clear_78 : decode cX10_clear 78 = .ok (.invokestatic 285, 3) := by decide +kernel
theorem dX10_clear_81 : decode cX10_clear 81 = .ok (.ireturn, 1) := by decide +kernel
theorem dX10_clear_82 : decode cX10_clear 82 = .ok (.iconst (-1), 1) := by decide +kernel
theorem dX10_clear_83 : decode cX10_clear 83 = .ok (.ireturn, 1) := by decide +kernel
theorem dX10_without_0 : decode cX10_without 0 = .ok (.aload_n 0, 1) := by decide +kernel
theorem dX10_without_1 : decode cX10_without 1 = .ok (.getfield 26, 3) := by decide +kernel
theorem dX10_without_4 : decode cX10_without 4 = .ok (.iload_n 1, 1) := by decide +kernel
theorem dX10_without_5 : decode cX10_without 5 = .ok (.invokevirtual 198, 3) := by decide +kernel
theorem dX10_without_8 : decode cX10_without 8 = .ok (.ifCond .eq 12, 3) := by decide +kernel
theorem dX10_without_11 : decode cX10_without 11 = .ok (.iload_n 2, 1) := by decide +kernel
theorem dX10_without_12 : decode cX10_without 12 = .ok (.ifCond .lt 8, 3) := by decide +kernel
theorem dX10_without_15 : decode cX10_without 15 = .ok (.iload_n 2, 1) := by decide +kernel
theorem dX10_without_16 : decode cX10_without 16 = .ok (.iconst 1, 1) := by decide +kernel
theorem dX10_without_17 : decode cX10_without 17 = .ok (.if_icmp .le 5, 3) := by decide +kernel
theorem dX10_without_20 : decode cX10_without 20 = .ok (.iconst (-1), 1) := by decide +kernel
theorem dX10_without_21 : decode cX10_without 21 = .ok (.ireturn, 1) := by decide +kernel
theorem dX10_without_22 : decode cX10_without 22 = .ok (.aload_n 0, 1) := by decide +kernel
theorem dX10_without_23 : decode cX10_without 23 = .ok (.getfield 67, 3) := by decide +kernel
theorem dX10_without_26 : decode cX10_without 26 = .ok (.aload_n 0, 1) := by decide +kernel
theorem dX10_without_27 : decode cX10_without 27 = .ok (.getfield 62, 3) := by decide +kernel
theorem dX10_without_30 : decode cX10_without 30 = .ok (.getfield 109, 3) := by decide +kernel
theorem dX10_without_33 : decode cX10_without 33 = .ok (.invokevirtual 132, 3) := by decide +kernel
theorem dX10_without_36 : decode cX10_without 36 = .ok (.aload_n 0, 1) := by decide +kernel
theorem dX10_without_37 : decode cX10_without 37 = .ok (.getfield 67, 3) := by decide +kernel
theorem dX10_without_40 : decode cX10_without 40 = .ok (.iload_n 1, 1) := by decide +kernel
theorem dX10_without_41 : decode cX10_without 41 = .ok (.invokevirtual 175, 3) := by decide +kernel
theorem dX10_without_44 : decode cX10_without 44 = .ok (.istore_n 3, 1) := by decide +kernel
theorem dX10_without_45 : decode cX10_without 45 = .ok (.iload_n 2, 1) := by decide +kernel
theorem dX10_without_46 : decode cX10_without 46 = .ok (.ifCond .ne 5, 3) := by decide +kernel
theorem dX10_without_49 : decode cX10_without 49 = .ok (.iload_n 3, 1) := by decide +kernel
theorem dX10_without_50 : decode cX10_without 50 = .ok (.ireturn, 1) := by decide +kernel
theorem dX10_without_51 : decode cX10_without 51 = .ok (.iload_n 3, 1) := by decide +kernel
theorem dX10_without_52 : decode cX10_without 52 = .ok (.ifCond .ne 21, 3) := by decide +kernel
theorem dX10_without_55 : decode cX10_without 55 = .ok (.aload_n 0, 1) := by decide +kernel
theorem dX10_without_56 : decode cX10_without 56 = .ok (.getfield 62, 3) := by decide +kernel
theorem dX10_without_59 : decode cX10_without 59 = .ok (.getfield 109, 3) := by decide +kernel
theorem dX10_without_62 : decode cX10_without 62 = .ok (.getfield 207, 3) := by decide +kernel
theorem dX10_without_65 : decode cX10_without 65 = .ok (.iconst 2, 1) := by decide +kernel
theorem dX10_without_66 : decode cX10_without 66 = .ok (.iload_n 1, 1) := by decide +kernel
theorem dX10_without_67 : decode cX10_without 67 = .ok (.invokevirtual 216, 3) := by decide +kernel
theorem dX10_without_70 : decode cX10_without 70 = .ok (.goto 4, 3) := by decide +kernel
theorem dX10_without_73 : decode cX10_without 73 = .ok (.iconst 0, 1) := by decide +kernel
theorem dX10_without_74 : decode cX10_without 74 = .ok (.ireturn, 1) := by decide +kernel
theorem dX10_storm_0 : decode cX10_storm 0 = .ok (.iload_n 1, 1) := by decide +kernel
theorem dX10_storm_1 : decode cX10_storm 1 = .ok (.ifCond .lt 30, 3) := by decide +kernel
theorem dX10_storm_4 : decode cX10_storm 4 = .ok (.iload_n 1, 1) := by decide +kernel
theorem dX10_storm_5 : decode cX10_storm 5 = .ok (.sipush 9999, 3) := by decide +kernel
theorem dX10_storm_8 : decode cX10_storm 8 = .ok (.if_icmp .gt 23, 3) := by decide +kernel
theorem dX10_storm_11 : decode cX10_storm 11 = .ok (.iload_n 2, 1) := by decide +kernel
theorem dX10_storm_12 : decode cX10_storm 12 = .ok (.ifCond .lt 19, 3) := by decide +kernel
theorem dX10_storm_15 : decode cX10_storm 15 = .ok (.iload_n 2, 1) := by decide +kernel
theorem dX10_storm_16 : decode cX10_storm 16 = .ok (.sipush 500, 3) := by decide +kernel
theorem dX10_storm_19 : decode cX10_storm 19 = .ok (.if_icmp .gt 12, 3) := by decide +kernel
theorem dX10_storm_22 : decode cX10_storm 22 = .ok (.iload_n 3, 1) := by decide +kernel
theorem dX10_storm_23 : decode cX10_storm 23 = .ok (.ifCond .lt 8, 3) := by decide +kernel
theorem dX10_storm_26 : decode cX10_storm 26 = .ok (.iload_n 3, 1) := by decide +kernel
theorem dX10_storm_27 : decode cX10_storm 27 = .ok (.iconst 3, 1) := by decide +kernel
theorem dX10_storm_28 : decode cX10_storm 28 = .ok (.if_icmp .le 5, 3) := by decide +kernel
theorem dX10_storm_31 : decode cX10_storm 31 = .ok (.iconst (-1), 1) := by decide +kernel
theorem dX10_storm_32 : decode cX10_storm 32 = .ok (.ireturn, 1) := by decide +kernel
theorem dX10_storm_33 : decode cX10_storm 33 = .ok (.aload_n 0, 1) := by decide +kernel
theorem dX10_storm_34 : decode cX10_storm 34 = .ok (.getfield 67, 3) := by decide +kernel
theorem dX10_storm_37 : decode cX10_storm 37 = .ok (.aload_n 0, 1) := by decide +kernel
theorem dX10_storm_38 : decode cX10_storm 38 = .ok (.getfield 62, 3) := by decide +kernel
theorem dX10_storm_41 : decode cX10_storm 41 = .ok (.getfield 109, 3) := by decide +kernel
theorem dX10_storm_44 : decode cX10_storm 44 = .ok (.invokevirtual 132, 3) := by decide +kernel
theorem dX10_storm_47 : decode cX10_storm 47 = .ok (.aload_n 0, 1) := by decide +kernel
theorem dX10_storm_48 : decode cX10_storm 48 = .ok (.getfield 81, 3) := by decide +kernel
theorem dX10_storm_51 : decode cX10_storm 51 = .ok (.aload_n 0, 1) := by decide +kernel
theorem dX10_storm_52 : decode cX10_storm 52 = .ok (.getfield 67, 3) := by decide +kernel
theorem dX10_storm_55 : decode cX10_storm 55 = .ok (.iload_n 1, 1) := by decide +kernel
theorem dX10_storm_56 : decode cX10_storm 56 = .ok (.iload_n 2, 1) := by decide +kernel
theorem dX10_storm_57 : decode cX10_storm 57 = .ok (.invokevirtual 320, 3) := by decide +kernel
theorem dX10_storm_60 : decode cX10_storm 60 = .ok (.iload_n 3, 1) := by decide +kernel
theorem dX10_storm_61 : decode cX10_storm 61 = .ok (.tableswitch 51 0 2 #[27, 35, 43], 27) := by decide +kernel
theorem dX10_storm_88 : decode cX10_storm 88 = .ok (.aload_n 0, 1) := by decide +kernel
theorem dX10_storm_89 : decode cX10_storm 89 = .ok (.getfield 81, 3) := by decide +kernel
theorem dX10_storm_92 : decode cX10_storm 92 = .ok (.getfield 324, 3) := by decide +kernel
theorem dX10_storm_95 : decode cX10_storm 95 = .ok (.ireturn, 1) := by decide +kernel
theorem dX10_storm_96 : decode cX10_storm 96 = .ok (.aload_n 0, 1) := by decide +kernel
theorem dX10_storm_97 : decode cX10_storm 97 = .ok (.getfield 81, 3) := by decide +kernel
theorem dX10_storm_100 : decode cX10_storm 100 = .ok (.getfield 326, 3) := by decide +kernel
theorem dX10_storm_103 : decode cX10_storm 103 = .ok (.ireturn, 1) := by decide +kernel
theorem dX10_storm_104 : decode cX10_storm 104 = .ok (.aload_n 0, 1) := by decide +kernel
theorem dX10_storm_105 : decode cX10_storm 105 = .ok (.getfield 81, 3) := by decide +kernel
theorem dX10_storm_108 : decode cX10_storm 108 = .ok (.getfield 328, 3) := by decide +kernel
theorem dX10_storm_111 : decode cX10_storm 111 = .ok (.ireturn, 1) := by decide +kernel
theorem dX10_storm_112 : decode cX10_storm 112 = .ok (.aload_n 0, 1) := by decide +kernel
theorem dX10_storm_113 : decode cX10_storm 113 = .ok (.getfield 67, 3) := by decide +kernel
theorem dX10_storm_116 : decode cX10_storm 116 = .ok (.invokevirtual 331, 3) := by decide +kernel
theorem dX10_storm_119 : decode cX10_storm 119 = .ok (.ireturn, 1) := by decide +kernel
theorem dX10_quiet_0 : decode cX10_quiet 0 = .ok (.aload_n 0, 1) := by decide +kernel
theorem dX10_quiet_1 : decode cX10_quiet 1 = .ok (.getfield 74, 3) := by decide +kernel
theorem dX10_quiet_4 : decode cX10_quiet 4 = .ok (.aload_n 0, 1) := by decide +kernel
theorem dX10_quiet_5 : decode cX10_quiet 5 = .ok (.getfield 62, 3) := by decide +kernel
theorem dX10_quiet_8 : decode cX10_quiet 8 = .ok (.getfield 109, 3) := by decide +kernel
theorem dX10_quiet_11 : decode cX10_quiet 11 = .ok (.getfield 207, 3) := by decide +kernel
theorem dX10_quiet_14 : decode cX10_quiet 14 = .ok (.invokevirtual 335, 3) := by decide +kernel
theorem dX10_quiet_17 : decode cX10_quiet 17 = .ok (.ireturn, 1) := by decide +kernel
theorem dX10_nearest_0 : decode cX10_nearest 0 = .ok (.aload_n 0, 1) := by decide +kernel
theorem dX10_nearest_1 : decode cX10_nearest 1 = .ok (.getfield 74, 3) := by decide +kernel
theorem dX10_nearest_4 : decode cX10_nearest 4 = .ok (.aload_n 0, 1) := by decide +kernel
theorem dX10_nearest_5 : decode cX10_nearest 5 = .ok (.getfield 62, 3) := by decide +kernel
theorem dX10_nearest_8 : decode cX10_nearest 8 = .ok (.getfield 109, 3) := by decide +kernel
theorem dX10_nearest_11 : decode cX10_nearest 11 = .ok (.invokevirtual 338, 3) := by decide +kernel
theorem dX10_nearest_14 : decode cX10_nearest 14 = .ok (.ireturn, 1) := by decide +kernel
theorem dX10_log_0 : decode cX10_log 0 = .ok (.aload_n 0, 1) := by decide +kernel
theorem dX10_log_1 : decode cX10_log 1 = .ok (.getfield 62, 3) := by decide +kernel
theorem dX10_log_4 : decode cX10_log 4 = .ok (.getfield 109, 3) := by decide +kernel
theorem dX10_log_7 : decode cX10_log 7 = .ok (.getfield 234, 3) := by decide +kernel
theorem dX10_log_10 : decode cX10_log 10 = .ok (.astore_n 3, 1) := by decide +kernel
theorem dX10_log_11 : decode cX10_log 11 = .ok (.iload_n 1, 1) := by decide +kernel
theorem dX10_log_12 : decode cX10_log 12 = .ok (.ifCond .lt 11, 3) := by decide +kernel
theorem dX10_log_15 : decode cX10_log 15 = .ok (.iload_n 1, 1) := by decide +kernel
theorem dX10_log_16 : decode cX10_log 16 = .ok (.aload_n 3, 1) := by decide +kernel
theorem dX10_log_17 : decode cX10_log 17 = .ok (.invokevirtual 342, 3) := by decide +kernel
theorem dX10_log_20 : decode cX10_log 20 = .ok (.if_icmp .lt 5, 3) := by decide +kernel
theorem dX10_log_23 : decode cX10_log 23 = .ok (.iconst (-1), 1) := by decide +kernel
theorem dX10_log_24 : decode cX10_log 24 = .ok (.ireturn, 1) := by decide +kernel
theorem dX10_log_25 : decode cX10_log 25 = .ok (.aload_n 3, 1) := by decide +kernel
theorem dX10_log_26 : decode cX10_log 26 = .ok (.iload_n 1, 1) := by decide +kernel
theorem dX10_log_27 : decode cX10_log 27 = .ok (.invokevirtual 345, 3) := by decide +kernel
theorem dX10_log_30 : decode cX10_log 30 = .ok (.istore 4, 2) := by decide +kernel
theorem dX10_log_32 : decode cX10_log 32 = .ok (.aload_n 3, 1) := by decide +kernel
theorem dX10_log_33 : decode cX10_log 33 = .ok (.iload_n 1, 1) := by decide +kernel
theorem dX10_log_34 : decode cX10_log 34 = .ok (.invokevirtual 348, 3) := by decide +kernel
theorem dX10_log_37 : decode cX10_log 37 = .ok (.istore 5, 2) := by decide +kernel
theorem dX10_log_39 : decode cX10_log 39 = .ok (.iload_n 2, 1) := by decide +kernel
theorem dX10_log_40 : decode cX10_log 40 = .ok (.tableswitch 66 0 4 #[36, 42, 48, 54, 60], 36) := by decide +kernel
theorem dX10_log_76 : decode cX10_log 76 = .ok (.iload 4, 2) := by decide +kernel
theorem dX10_log_78 : decode cX10_log 78 = .ok (.bipush 8, 2) := by decide +kernel
theorem dX10_log_80 : decode cX10_log 80 = .ok (.idiv, 1) := by decide +kernel
theorem dX10_log_81 : decode cX10_log 81 = .ok (.ireturn, 1) := by decide +kernel
theorem dX10_log_82 : decode cX10_log 82 = .ok (.iload 4, 2) := by decide +kernel
theorem dX10_log_84 : decode cX10_log 84 = .ok (.bipush 8, 2) := by decide +kernel
theorem dX10_log_86 : decode cX10_log 86 = .ok (.irem, 1) := by decide +kernel
theorem dX10_log_87 : decode cX10_log 87 = .ok (.ireturn, 1) := by decide +kernel
theorem dX10_log_88 : decode cX10_log 88 = .ok (.iload 5, 2) := by decide +kernel
theorem dX10_log_90 : decode cX10_log 90 = .ok (.invokestatic 282, 3) := by decide +kernel
theorem dX10_log_93 : decode cX10_log 93 = .ok (.ireturn, 1) := by decide +kernel
theorem dX10_log_94 : decode cX10_log 94 = .ok (.iload 5, 2) := by decide +kernel
theorem dX10_log_96 : decode cX10_log 96 = .ok (.invokestatic 285, 3) := by decide +kernel
theorem dX10_log_99 : decode cX10_log 99 = .ok (.ireturn, 1) := by decide +kernel
theorem dX10_log_100 : decode cX10_log 100 = .ok (.aload_n 3, 1) := by decide +kernel
theorem dX10_log_101 : decode cX10_log 101 = .ok (.iload_n 1, 1) := by decide +kernel
theorem dX10_log_102 : decode cX10_log 102 = .ok (.invokevirtual 351, 3) := by decide +kernel
theorem dX10_log_105 : decode cX10_log 105 = .ok (.ireturn, 1) := by decide +kernel
theorem dX10_log_106 : decode cX10_log 106 = .ok (.iconst (-1), 1) := by decide +kernel
theorem dX10_log_107 : decode cX10_log 107 = .ok (.ireturn, 1) := by decide +kernel
theorem dX10_alike_0 : decode cX10_alike 0 = .ok (.aload_n 0, 1) := by decide +kernel
theorem dX10_alike_1 : decode cX10_alike 1 = .ok (.getfield 26, 3) := by decide +kernel
theorem dX10_alike_4 : decode cX10_alike 4 = .ok (.iload_n 1, 1) := by decide +kernel
theorem dX10_alike_5 : decode cX10_alike 5 = .ok (.invokevirtual 184, 3) := by decide +kernel
theorem dX10_alike_8 : decode cX10_alike 8 = .ok (.ifCond .eq 14, 3) := by decide +kernel
theorem dX10_alike_11 : decode cX10_alike 11 = .ok (.iload_n 2, 1) := by decide +kernel
theorem dX10_alike_12 : decode cX10_alike 12 = .ok (.iconst 1, 1) := by decide +kernel
theorem dX10_alike_13 : decode cX10_alike 13 = .ok (.if_icmp .lt 9, 3) := by decide +kernel
theorem dX10_alike_16 : decode cX10_alike 16 = .ok (.iload_n 2, 1) := by decide +kernel
theorem dX10_alike_17 : decode cX10_alike 17 = .ok (.bipush 7, 2) := by decide +kernel
theorem dX10_alike_19 : decode cX10_alike 19 = .ok (.if_icmp .le 5, 3) := by decide +kernel
theorem dX10_alike_22 : decode cX10_alike 22 = .ok (.iconst (-1), 1) := by decide +kernel
theorem dX10_alike_23 : decode cX10_alike 23 = .ok (.ireturn, 1) := by decide +kernel
theorem dX10_alike_24 : decode cX10_alike 24 = .ok (.aload_n 0, 1) := by decide +kernel
theorem dX10_alike_25 : decode cX10_alike 25 = .ok (.getfield 62, 3) := by decide +kernel
theorem dX10_alike_28 : decode cX10_alike 28 = .ok (.getfield 109, 3) := by decide +kernel
theorem dX10_alike_31 : decode cX10_alike 31 = .ok (.getfield 234, 3) := by decide +kernel
theorem dX10_alike_34 : decode cX10_alike 34 = .ok (.astore_n 3, 1) := by decide +kernel
theorem dX10_alike_35 : decode cX10_alike 35 = .ok (.iconst 0, 1) := by decide +kernel
theorem dX10_alike_36 : decode cX10_alike 36 = .ok (.istore 4, 2) := by decide +kernel
theorem dX10_alike_38 : decode cX10_alike 38 = .ok (.iconst 0, 1) := by decide +kernel
theorem dX10_alike_39 : decode cX10_alike 39 = .ok (.istore 5, 2) := by decide +kernel
theorem dX10_alike_41 : decode cX10_alike 41 = .ok (.iload 5, 2) := by decide +kernel
theorem dX10_alike_43 : decode cX10_alike 43 = .ok (.aload_n 3, 1) := by decide +kernel
theorem dX10_alike_44 : decode cX10_alike 44 = .ok (.invokevirtual 342, 3) := by decide +kernel
theorem dX10_alike_47 : decode cX10_alike 47 = .ok (.if_icmp .ge 33, 3) := by decide +kernel
theorem dX10_alike_50 : decode cX10_alike 50 = .ok (.aload_n 0, 1) := by decide +kernel
theorem dX10_alike_51 : decode cX10_alike 51 = .ok (.getfield 26, 3) := by decide +kernel
theorem dX10_alike_54 : decode cX10_alike 54 = .ok (.aload_n 3, 1) := by decide +kernel
theorem dX10_alike_55 : decode cX10_alike 55 = .ok (.iload 5, 2) := by decide +kernel
theorem dX10_alike_57 : decode cX10_alike 57 = .ok (.invokevirtual 345, 3) := by decide +kernel
theorem dX10_alike_60 : decode cX10_alike 60 = .ok (.bipush 8, 2) := by decide +kernel
theorem dX10_alike_62 : decode cX10_alike 62 = .ok (.idiv, 1) := by decide +kernel
theorem dX10_alike_63 : decode cX10_alike 63 = .ok (.iload_n 1, 1) := by decide +kernel
theorem dX10_alike_64 : decode cX10_alike 64 = .ok (.iload_n 2, 1) := by decide +kernel
theorem dX10_alike_65 : decode cX10_alike 65 = .ok (.invokevirtual 354, 3) := by decide +kernel
theorem dX10_alike_68 : decode cX10_alike 68 = .ok (.ifCond .eq 6, 3) := by decide +kernel
theorem dX10_alike_71 : decode cX10_alike 71 = .ok (.iinc 4 1, 3) := by decide +kernel
theorem dX10_alike_74 : decode cX10_alike 74 = .ok (.iinc 5 1, 3) := by decide +kernel
theorem dX10_alike_77 : decode cX10_alike 77 = .ok (.goto (-36), 3) := by decide +kernel
theorem dX10_alike_80 : decode cX10_alike 80 = .ok (.iload 4, 2) := by decide +kernel
theorem dX10_alike_82 : decode cX10_alike 82 = .ok (.ireturn, 1) := by decide +kernel
theorem dX10_law_0 : decode cX10_law 0 = .ok (.aload_n 0, 1) := by decide +kernel
theorem dX10_law_1 : decode cX10_law 1 = .ok (.getfield 74, 3) := by decide +kernel
theorem dX10_law_4 : decode cX10_law 4 = .ok (.aload_n 0, 1) := by decide +kernel
theorem dX10_law_5 : decode cX10_law 5 = .ok (.getfield 62, 3) := by decide +kernel
theorem dX10_law_8 : decode cX10_law 8 = .ok (.getfield 109, 3) := by decide +kernel
theorem dX10_law_11 : decode cX10_law 11 = .ok (.invokevirtual 358, 3) := by decide +kernel
theorem dX10_law_14 : decode cX10_law 14 = .ok (.aload_n 0, 1) := by decide +kernel
theorem dX10_law_15 : decode cX10_law 15 = .ok (.getfield 74, 3) := by decide +kernel
theorem dX10_law_18 : decode cX10_law 18 = .ok (.aload_n 0, 1) := by decide +kernel
theorem dX10_law_19 : decode cX10_law 19 = .ok (.getfield 62, 3) := by decide +kernel
theorem dX10_law_22 : decode cX10_law 22 = .ok (.getfield 109, 3) := by decide +kernel
theorem dX10_law_25 : decode cX10_law 25 = .ok (.invokevirtual 361, 3) := by decide +kernel
theorem dX10_law_28 : decode cX10_law 28 = .ok (.iadd, 1) := by decide +kernel
theorem dX10_law_29 : decode cX10_law 29 = .ok (.ireturn, 1) := by decide +kernel
theorem dX10_image_0 : decode cX10_image 0 = .ok (.iload_n 1, 1) := by decide +kernel
theorem dX10_image_1 : decode cX10_image 1 = .ok (.ifCond .lt 8, 3) := by decide +kernel
theorem dX10_image_4 : decode cX10_image 4 = .ok (.iload_n 1, 1) := by decide +kernel
theorem dX10_image_5 : decode cX10_image 5 = .ok (.iconst 2, 1) := by decide +kernel
theorem dX10_image_6 : decode cX10_image 6 = .ok (.if_icmp .lt 5, 3) := by decide +kernel
theorem dX10_image_9 : decode cX10_image 9 = .ok (.iconst (-1), 1) := by decide +kernel
theorem dX10_image_10 : decode cX10_image 10 = .ok (.ireturn, 1) := by decide +kernel
theorem dX10_image_11 : decode cX10_image 11 = .ok (.aload_n 0, 1) := by decide +kernel
theorem dX10_image_12 : decode cX10_image 12 = .ok (.getfield 15, 3) := by decide +kernel
theorem dX10_image_15 : decode cX10_image 15 = .ok (.iload_n 1, 1) := by decide +kernel
theorem dX10_image_16 : decode cX10_image 16 = .ok (.aaload, 1) := by decide +kernel
theorem dX10_image_17 : decode cX10_image 17 = .ok (.aload_n 0, 1) := by decide +kernel
theorem dX10_image_18 : decode cX10_image 18 = .ok (.getfield 62, 3) := by decide +kernel
theorem dX10_image_21 : decode cX10_image 21 = .ok (.getfield 109, 3) := by decide +kernel
theorem dX10_image_24 : decode cX10_image 24 = .ok (.invokevirtual 132, 3) := by decide +kernel
theorem dX10_image_27 : decode cX10_image 27 = .ok (.aload_n 0, 1) := by decide +kernel
theorem dX10_image_28 : decode cX10_image 28 = .ok (.getfield 19, 3) := by decide +kernel
theorem dX10_image_31 : decode cX10_image 31 = .ok (.iload_n 1, 1) := by decide +kernel
theorem dX10_image_32 : decode cX10_image 32 = .ok (.iconst 1, 1) := by decide +kernel
theorem dX10_image_33 : decode cX10_image 33 = .ok (.bastore, 1) := by decide +kernel
theorem dX10_image_34 : decode cX10_image 34 = .ok (.aload_n 0, 1) := by decide +kernel
theorem dX10_image_35 : decode cX10_image 35 = .ok (.getfield 74, 3) := by decide +kernel
theorem dX10_image_38 : decode cX10_image 38 = .ok (.aload_n 0, 1) := by decide +kernel
theorem dX10_image_39 : decode cX10_image 39 = .ok (.getfield 62, 3) := by decide +kernel
theorem dX10_image_42 : decode cX10_image 42 = .ok (.getfield 109, 3) := by decide +kernel
theorem dX10_image_45 : decode cX10_image 45 = .ok (.getfield 207, 3) := by decide +kernel
theorem dX10_image_48 : decode cX10_image 48 = .ok (.invokevirtual 364, 3) := by decide +kernel
theorem dX10_image_51 : decode cX10_image 51 = .ok (.ireturn, 1) := by decide +kernel
theorem dX10_back_0 : decode cX10_back 0 = .ok (.iload_n 1, 1) := by decide +kernel
theorem dX10_back_1 : decode cX10_back 1 = .ok (.ifCond .lt 17, 3) := by decide +kernel
theorem dX10_back_4 : decode cX10_back 4 = .ok (.iload_n 1, 1) := by decide +kernel
theorem dX10_back_5 : decode cX10_back 5 = .ok (.iconst 2, 1) := by decide +kernel
theorem dX10_back_6 : decode cX10_back 6 = .ok (.if_icmp .ge 12, 3) := by decide +kernel
theorem dX10_back_9 : decode cX10_back 9 = .ok (.aload_n 0, 1) := by decide +kernel
theorem dX10_back_10 : decode cX10_back 10 = .ok (.getfield 19, 3) := by decide +kernel
theorem dX10_back_13 : decode cX10_back 13 = .ok (.iload_n 1, 1) := by decide +kernel
theorem dX10_back_14 : decode cX10_back 14 = .ok (.baload, 1) := by decide +kernel
theorem dX10_back_15 : decode cX10_back 15 = .ok (.ifCond .ne 5, 3) := by decide +kernel
theorem dX10_back_18 : decode cX10_back 18 = .ok (.iconst (-1), 1) := by decide +kernel
theorem dX10_back_19 : decode cX10_back 19 = .ok (.ireturn, 1) := by decide +kernel
theorem dX10_back_20 : decode cX10_back 20 = .ok (.aload_n 0, 1) := by decide +kernel
theorem dX10_back_21 : decode cX10_back 21 = .ok (.getfield 62, 3) := by decide +kernel
theorem dX10_back_24 : decode cX10_back 24 = .ok (.getfield 109, 3) := by decide +kernel
theorem dX10_back_27 : decode cX10_back 27 = .ok (.aload_n 0, 1) := by decide +kernel
theorem dX10_back_28 : decode cX10_back 28 = .ok (.getfield 15, 3) := by decide +kernel
theorem dX10_back_31 : decode cX10_back 31 = .ok (.iload_n 1, 1) := by decide +kernel
theorem dX10_back_32 : decode cX10_back 32 = .ok (.aaload, 1) := by decide +kernel
theorem dX10_back_33 : decode cX10_back 33 = .ok (.invokevirtual 132, 3) := by decide +kernel
theorem dX10_back_36 : decode cX10_back 36 = .ok (.aload_n 0, 1) := by decide +kernel
theorem dX10_back_37 : decode cX10_back 37 = .ok (.getfield 62, 3) := by decide +kernel
theorem dX10_back_40 : decode cX10_back 40 = .ok (.invokevirtual 115, 3) := by decide +kernel
theorem dX10_back_43 : decode cX10_back 43 = .ok (.aload_n 0, 1) := by decide +kernel
theorem dX10_back_44 : decode cX10_back 44 = .ok (.getfield 74, 3) := by decide +kernel
theorem dX10_back_47 : decode cX10_back 47 = .ok (.aload_n 0, 1) := by decide +kernel
theorem dX10_back_48 : decode cX10_back 48 = .ok (.getfield 62, 3) := by decide +kernel
theorem dX10_back_51 : decode cX10_back 51 = .ok (.getfield 109, 3) := by decide +kernel
theorem dX10_back_54 : decode cX10_back 54 = .ok (.getfield 207, 3) := by decide +kernel
theorem dX10_back_57 : decode cX10_back 57 = .ok (.invokevirtual 364, 3) := by decide +kernel
theorem dX10_back_60 : decode cX10_back 60 = .ok (.ireturn, 1) := by decide +kernel
theorem dX10_about_0 : decode cX10_about 0 = .ok (.aload_n 0, 1) := by decide +kernel
theorem dX10_about_1 : decode cX10_about 1 = .ok (.getfield 62, 3) := by decide +kernel
theorem dX10_about_4 : decode cX10_about 4 = .ok (.getfield 109, 3) := by decide +kernel
theorem dX10_about_7 : decode cX10_about 7 = .ok (.astore_n 2, 1) := by decide +kernel
theorem dX10_about_8 : decode cX10_about 8 = .ok (.iload_n 1, 1) := by decide +kernel
theorem dX10_about_9 : decode cX10_about 9 = .ok (.tableswitch 142 0 13 #[71, 79, 87, 95, 103, 111, 142, 142, 142, 142, 116, 124, 132, 137], 71) := by decide +kernel
theorem dX10_about_80 : decode cX10_about 80 = .ok (.aload_n 0, 1) := by decide +kernel
theorem dX10_about_81 : decode cX10_about 81 = .ok (.getfield 26, 3) := by decide +kernel
theorem dX10_about_84 : decode cX10_about 84 = .ok (.getfield 367, 3) := by decide +kernel
theorem dX10_about_87 : decode cX10_about 87 = .ok (.ireturn, 1) := by decide +kernel
theorem dX10_about_88 : decode cX10_about 88 = .ok (.aload_n 0, 1) := by decide +kernel
theorem dX10_about_89 : decode cX10_about 89 = .ok (.getfield 26, 3) := by decide +kernel
theorem dX10_about_92 : decode cX10_about 92 = .ok (.getfield 369, 3) := by decide +kernel
theorem dX10_about_95 : decode cX10_about 95 = .ok (.ireturn, 1) := by decide +kernel
theorem dX10_about_96 : decode cX10_about 96 = .ok (.aload_n 0, 1) := by decide +kernel
theorem dX10_about_97 : decode cX10_about 97 = .ok (.getfield 26, 3) := by decide +kernel
theorem dX10_about_100 : decode cX10_about 100 = .ok (.getfield 118, 3) := by decide +kernel
theorem dX10_about_103 : decode cX10_about 103 = .ok (.ireturn, 1) := by decide +kernel
theorem dX10_about_104 : decode cX10_about 104 = .ok (.aload_n 2, 1) := by decide +kernel
theorem dX10_about_105 : decode cX10_about 105 = .ok (.getfield 207, 3) := by decide +kernel
theorem dX10_about_108 : decode cX10_about 108 = .ok (.getfield 372, 3) := by decide +kernel
theorem dX10_about_111 : decode cX10_about 111 = .ok (.ireturn, 1) := by decide +kernel
theorem dX10_about_112 : decode cX10_about 112 = .ok (.aload_n 2, 1) := by decide +kernel
theorem dX10_about_113 : decode cX10_about 113 = .ok (.getfield 207, 3) := by decide +kernel
theorem dX10_about_116 : decode cX10_about 116 = .ok (.invokevirtual 375, 3) := by decide +kernel
theorem dX10_about_119 : decode cX10_about 119 = .ok (.ireturn, 1) := by decide +kernel
theorem dX10_about_120 : decode cX10_about 120 = .ok (.aload_n 2, 1) := by decide +kernel
theorem dX10_about_121 : decode cX10_about 121 = .ok (.invokevirtual 378, 3) := by decide +kernel
theorem dX10_about_124 : decode cX10_about 124 = .ok (.ireturn, 1) := by decide +kernel
theorem dX10_about_125 : decode cX10_about 125 = .ok (.aload_n 0, 1) := by decide +kernel
theorem dX10_about_126 : decode cX10_about 126 = .ok (.getfield 62, 3) := by decide +kernel
theorem dX10_about_129 : decode cX10_about 129 = .ok (.getfield 381, 3) := by decide +kernel
theorem dX10_about_132 : decode cX10_about 132 = .ok (.ireturn, 1) := by decide +kernel
theorem dX10_about_133 : decode cX10_about 133 = .ok (.aload_n 0, 1) := by decide +kernel
theorem dX10_about_134 : decode cX10_about 134 = .ok (.getfield 62, 3) := by decide +kernel
theorem dX10_about_137 : decode cX10_about 137 = .ok (.getfield 384, 3) := by decide +kernel
theorem dX10_about_140 : decode cX10_about 140 = .ok (.ireturn, 1) := by decide +kernel
theorem dX10_about_141 : decode cX10_about 141 = .ok (.aload_n 0, 1) := by decide +kernel
theorem dX10_about_142 : decode cX10_about 142 = .ok (.getfield 85, 3) := by decide +kernel
theorem dX10_about_145 : decode cX10_about 145 = .ok (.ireturn, 1) := by decide +kernel
theorem dX10_about_146 : decode cX10_about 146 = .ok (.aload_n 2, 1) := by decide +kernel
theorem dX10_about_147 : decode cX10_about 147 = .ok (.invokevirtual 331, 3) := by decide +kernel
theorem dX10_about_150 : decode cX10_about 150 = .ok (.ireturn, 1) := by decide +kernel
theorem dX10_about_151 : decode cX10_about 151 = .ok (.aload_n 2, 1) := by decide +kernel
theorem dX10_about_152 : decode cX10_about 152 = .ok (.getfield 234, 3) := by decide +kernel
theorem dX10_about_155 : decode cX10_about 155 = .ok (.iload_n 1, 1) := by decide +kernel
theorem dX10_about_156 : decode cX10_about 156 = .ok (.invokestatic 387, 3) := by decide +kernel
theorem dX10_about_159 : decode cX10_about 159 = .ok (.ireturn, 1) := by decide +kernel
theorem dX10_aboutCounts_0 : decode cX10_aboutCounts 0 = .ok (.iload_n 1, 1) := by decide +kernel
theorem dX10_aboutCounts_1 : decode cX10_aboutCounts 1 = .ok (.tableswitch 60 6 9 #[31, 36, 44, 52], 31) := by decide +kernel
theorem dX10_aboutCounts_32 : decode cX10_aboutCounts 32 = .ok (.aload_n 0, 1) := by decide +kernel
theorem dX10_aboutCounts_33 : decode cX10_aboutCounts 33 = .ok (.getfield 391, 3) := by decide +kernel
theorem dX10_aboutCounts_36 : decode cX10_aboutCounts 36 = .ok (.ireturn, 1) := by decide +kernel
theorem dX10_aboutCounts_37 : decode cX10_aboutCounts 37 = .ok (.aload_n 0, 1) := by decide +kernel
theorem dX10_aboutCounts_38 : decode cX10_aboutCounts 38 = .ok (.getfield 270, 3) := by decide +kernel
theorem dX10_aboutCounts_41 : decode cX10_aboutCounts 41 = .ok (.invokestatic 394, 3) := by decide +kernel
theorem dX10_aboutCounts_44 : decode cX10_aboutCounts 44 = .ok (.ireturn, 1) := by decide +kernel
theorem dX10_aboutCounts_45 : decode cX10_aboutCounts 45 = .ok (.aload_n 0, 1) := by decide +kernel
theorem dX10_aboutCounts_46 : decode cX10_aboutCounts 46 = .ok (.getfield 273, 3) := by decide +kernel
theorem dX10_aboutCounts_49 : decode cX10_aboutCounts 49 = .ok (.invokestatic 394, 3) := by decide +kernel
theorem dX10_aboutCounts_52 : decode cX10_aboutCounts 52 = .ok (.ireturn, 1) := by decide +kernel
theorem dX10_aboutCounts_53 : decode cX10_aboutCounts 53 = .ok (.aload_n 0, 1) := by decide +kernel
theorem dX10_aboutCounts_54 : decode cX10_aboutCounts 54 = .ok (.getfield 276, 3) := by decide +kernel
theorem dX10_aboutCounts_57 : decode cX10_aboutCounts 57 = .ok (.invokestatic 394, 3) := by decide +kernel
theorem dX10_aboutCounts_60 : decode cX10_aboutCounts 60 = .ok (.ireturn, 1) := by decide +kernel
theorem dX10_aboutCounts_61 : decode cX10_aboutCounts 61 = .ok (.iconst (-1), 1) := by decide +kernel
theorem dX10_aboutCounts_62 : decode cX10_aboutCounts 62 = .ok (.ireturn, 1) := by decide +kernel
