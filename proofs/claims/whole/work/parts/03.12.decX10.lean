theorem dX10_init_0 : decode cX10_init 0 = .ok (.aload_n 0, 1) := by decide +kernel
theorem dX10_init_1 : decode cX10_init 1 = .ok (.invokespecial 1, 3) := by decide +kernel
theorem dX10_init_4 : decode cX10_init 4 = .ok (.aload_n 0, 1) := by decide +kernel
theorem dX10_init_5 : decode cX10_init 5 = .ok (.sipush 740, 3) := by decide +kernel
theorem dX10_init_8 : decode cX10_init 8 = .ok (.newarray .int, 2) := by decide +kernel
theorem dX10_init_10 : decode cX10_init 10 = .ok (.putfield 7, 3) := by decide +kernel
theorem dX10_init_13 : decode cX10_init 13 = .ok (.aload_n 0, 1) := by decide +kernel
theorem dX10_init_14 : decode cX10_init 14 = .ok (.sipush 8140, 3) := by decide +kernel
theorem dX10_init_17 : decode cX10_init 17 = .ok (.newarray .int, 2) := by decide +kernel
theorem dX10_init_19 : decode cX10_init 19 = .ok (.putfield 13, 3) := by decide +kernel
theorem dX10_init_22 : decode cX10_init 22 = .ok (.aload_n 0, 1) := by decide +kernel
theorem dX10_init_23 : decode cX10_init 23 = .ok (.bipush 108, 2) := by decide +kernel
theorem dX10_init_25 : decode cX10_init 25 = .ok (.newarray .int, 2) := by decide +kernel
theorem dX10_init_27 : decode cX10_init 27 = .ok (.putfield 16, 3) := by decide +kernel
theorem dX10_init_30 : decode cX10_init 30 = .ok (.aload_n 0, 1) := by decide +kernel
theorem dX10_init_31 : decode cX10_init 31 = .ok (.sipush 16280, 3) := by decide +kernel
theorem dX10_init_34 : decode cX10_init 34 = .ok (.newarray .int, 2) := by decide +kernel
theorem dX10_init_36 : decode cX10_init 36 = .ok (.putfield 19, 3) := by decide +kernel
theorem dX10_init_39 : decode cX10_init 39 = .ok (.aload_n 0, 1) := by decide +kernel
theorem dX10_init_40 : decode cX10_init 40 = .ok (.ldc 22, 2) := by decide +kernel
theorem dX10_init_42 : decode cX10_init 42 = .ok (.newarray .int, 2) := by decide +kernel
theorem dX10_init_44 : decode cX10_init 44 = .ok (.putfield 23, 3) := by decide +kernel
theorem dX10_init_47 : decode cX10_init 47 = .ok (.aload_n 0, 1) := by decide +kernel
theorem dX10_init_48 : decode cX10_init 48 = .ok (.bipush 12, 2) := by decide +kernel
theorem dX10_init_50 : decode cX10_init 50 = .ok (.newarray .long, 2) := by decide +kernel
theorem dX10_init_52 : decode cX10_init 52 = .ok (.putfield 26, 3) := by decide +kernel
theorem dX10_init_55 : decode cX10_init 55 = .ok (.aload_n 0, 1) := by decide +kernel
theorem dX10_init_56 : decode cX10_init 56 = .ok (.bipush 12, 2) := by decide +kernel
theorem dX10_init_58 : decode cX10_init 58 = .ok (.newarray .long, 2) := by decide +kernel
theorem dX10_init_60 : decode cX10_init 60 = .ok (.putfield 30, 3) := by decide +kernel
theorem dX10_init_63 : decode cX10_init 63 = .ok (.aload_n 0, 1) := by decide +kernel
theorem dX10_init_64 : decode cX10_init 64 = .ok (.bipush 24, 2) := by decide +kernel
theorem dX10_init_66 : decode cX10_init 66 = .ok (.newarray .long, 2) := by decide +kernel
theorem dX10_init_68 : decode cX10_init 68 = .ok (.putfield 33, 3) := by decide +kernel
theorem dX10_init_71 : decode cX10_init 71 = .ok (.aload_n 0, 1) := by decide +kernel
theorem dX10_init_72 : decode cX10_init 72 = .ok (.iconst 2, 1) := by decide +kernel
theorem dX10_init_73 : decode cX10_init 73 = .ok (.newarray .boolean, 2) := by decide +kernel
theorem dX10_init_75 : decode cX10_init 75 = .ok (.putfield 36, 3) := by decide +kernel
theorem dX10_init_78 : decode cX10_init 78 = .ok (.aload_n 0, 1) := by decide +kernel
theorem dX10_init_79 : decode cX10_init 79 = .ok (.bipush 40, 2) := by decide +kernel
theorem dX10_init_81 : decode cX10_init 81 = .ok (.newarray .int, 2) := by decide +kernel
theorem dX10_init_83 : decode cX10_init 83 = .ok (.putfield 40, 3) := by decide +kernel
theorem dX10_init_86 : decode cX10_init 86 = .ok (.aload_n 0, 1) := by decide +kernel
theorem dX10_init_87 : decode cX10_init 87 = .ok (.bipush 12, 2) := by decide +kernel
theorem dX10_init_89 : decode cX10_init 89 = .ok (.newarray .int, 2) := by decide +kernel
theorem dX10_init_91 : decode cX10_init 91 = .ok (.putfield 43, 3) := by decide +kernel
theorem dX10_init_94 : decode cX10_init 94 = .ok (.aload_n 0, 1) := by decide +kernel
theorem dX10_init_95 : decode cX10_init 95 = .ok (.bipush 72, 2) := by decide +kernel
theorem dX10_init_97 : decode cX10_init 97 = .ok (.newarray .int, 2) := by decide +kernel
theorem dX10_init_99 : decode cX10_init 99 = .ok (.putfield 46, 3) := by decide +kernel
theorem dX10_init_102 : decode cX10_init 102 = .ok (.aload_n 0, 1) := by decide +kernel
theorem dX10_init_103 : decode cX10_init 103 = .ok (.sipush 26013, 3) := by decide +kernel
theorem dX10_init_106 : decode cX10_init 106 = .ok (.newarray .int, 2) := by decide +kernel
theorem dX10_init_108 : decode cX10_init 108 = .ok (.putfield 49, 3) := by decide +kernel
theorem dX10_init_111 : decode cX10_init 111 = .ok (.aload_n 0, 1) := by decide +kernel
theorem dX10_init_112 : decode cX10_init 112 = .ok (.bipush 40, 2) := by decide +kernel
theorem dX10_init_114 : decode cX10_init 114 = .ok (.newarray .int, 2) := by decide +kernel
theorem dX10_init_116 : decode cX10_init 116 = .ok (.putfield 52, 3) := by decide +kernel
theorem dX10_init_119 : decode cX10_init 119 = .ok (.aload_n 0, 1) := by decide +kernel
theorem dX10_init_120 : decode cX10_init 120 = .ok (.bipush 12, 2) := by decide +kernel
theorem dX10_init_122 : decode cX10_init 122 = .ok (.newarray .int, 2) := by decide +kernel
theorem dX10_init_124 : decode cX10_init 124 = .ok (.putfield 55, 3) := by decide +kernel
theorem dX10_init_127 : decode cX10_init 127 = .ok (.aload_n 0, 1) := by decide +kernel
theorem dX10_init_128 : decode cX10_init 128 = .ok (.iconst (-1), 1) := by decide +kernel
theorem dX10_init_129 : decode cX10_init 129 = .ok (.putfield 58, 3) := by decide +kernel
theorem dX10_init_132 : decode cX10_init 132 = .ok (.aload_n 0, 1) := by decide +kernel
theorem dX10_init_133 : decode cX10_init 133 = .ok (.bipush 9, 2) := by decide +kernel
theorem dX10_init_135 : decode cX10_init 135 = .ok (.newarray .int, 2) := by decide +kernel
theorem dX10_init_137 : decode cX10_init 137 = .ok (.putfield 62, 3) := by decide +kernel
theorem dX10_init_140 : decode cX10_init 140 = .ok (.aload_n 0, 1) := by decide +kernel
theorem dX10_init_141 : decode cX10_init 141 = .ok (.bipush 9, 2) := by decide +kernel
theorem dX10_init_143 : decode cX10_init 143 = .ok (.newarray .int, 2) := by decide +kernel
theorem dX10_init_145 : decode cX10_init 145 = .ok (.putfield 65, 3) := by decide +kernel
theorem dX10_init_148 : decode cX10_init 148 = .ok (.aload_n 0, 1) := by decide +kernel
theorem dX10_init_149 : decode cX10_init 149 = .ok (.bipush 9, 2) := by decide +kernel
theorem dX10_init_151 : decode cX10_init 151 = .ok (.newarray .int, 2) := by decide +kernel
theorem dX10_init_153 : decode cX10_init 153 = .ok (.putfield 68, 3) := by decide +kernel
theorem dX10_init_156 : decode cX10_init 156 = .ok (.aload_n 0, 1) := by decide +kernel
theorem dX10_init_157 : decode cX10_init 157 = .ok (.bipush 9, 2) := by decide +kernel
theorem dX10_init_159 : decode cX10_init 159 = .ok (.newarray .int, 2) := by decide +kernel
theorem dX10_init_161 : decode cX10_init 161 = .ok (.putfield 71, 3) := by decide +kernel
theorem dX10_init_164 : decode cX10_init 164 = .ok (.aload_n 0, 1) := by decide +kernel
theorem dX10_init_165 : decode cX10_init 165 = .ok (.bipush 9, 2) := by decide +kernel
theorem dX10_init_167 : decode cX10_init 167 = .ok (.newarray .int, 2) := by decide +kernel
theorem dX10_init_169 : decode cX10_init 169 = .ok (.putfield 74, 3) := by decide +kernel
theorem dX10_init_172 : decode cX10_init 172 = .ok (.aload_n 0, 1) := by decide +kernel
theorem dX10_init_173 : decode cX10_init 173 = .ok (.bipush 9, 2) := by decide +kernel
theorem dX10_init_175 : decode cX10_init 175 = .ok (.newarray .int, 2) := by decide +kernel
theorem dX10_init_177 : decode cX10_init 177 = .ok (.putfield 77, 3) := by decide +kernel
theorem dX10_init_180 : decode cX10_init 180 = .ok (.aload_n 0, 1) := by decide +kernel
theorem dX10_init_181 : decode cX10_init 181 = .ok (.sipush 240, 3) := by decide +kernel
theorem dX10_init_184 : decode cX10_init 184 = .ok (.newarray .int, 2) := by decide +kernel
theorem dX10_init_186 : decode cX10_init 186 = .ok (.putfield 80, 3) := by decide +kernel
theorem dX10_init_189 : decode cX10_init 189 = .ok (.return_, 1) := by decide +kernel
theorem dX10_thrown_0 : decode cX10_thrown 0 = .ok (.aload_n 0, 1) := by decide +kernel
theorem dX10_thrown_1 : decode cX10_thrown 1 = .ok (.getfield 83, 3) := by decide +kernel
theorem dX10_thrown_4 : decode cX10_thrown 4 = .ok (.ireturn, 1) := by decide +kernel
theorem dX10_refuse_0 : decode cX10_refuse 0 = .ok (.aload_n 0, 1) := by decide +kernel
theorem dX10_refuse_1 : decode cX10_refuse 1 = .ok (.iconst 1, 1) := by decide +kernel
theorem dX10_refuse_2 : decode cX10_refuse 2 = .ok (.putfield 83, 3) := by decide +kernel
theorem dX10_refuse_5 : decode cX10_refuse 5 = .ok (.iconst 0, 1) := by decide +kernel
theorem dX10_refuse_6 : decode cX10_refuse 6 = .ok (.ireturn, 1) := by decide +kernel
theorem dX10_come_0 : decode cX10_come 0 = .ok (.bipush 24, 2) := by decide +kernel
theorem dX10_come_2 : decode cX10_come 2 = .ok (.istore_n 2, 1) := by decide +kernel
theorem dX10_come_3 : decode cX10_come 3 = .ok (.iload_n 2, 1) := by decide +kernel
theorem dX10_come_4 : decode cX10_come 4 = .ok (.ifCond .lt 35, 3) := by decide +kernel
theorem dX10_come_7 : decode cX10_come 7 = .ok (.aload_n 0, 1) := by decide +kernel
theorem dX10_come_8 : decode cX10_come 8 = .ok (.getfield 7, 3) := by decide +kernel
theorem dX10_come_11 : decode cX10_come 11 = .ok (.aload_n 0, 1) := by decide +kernel
theorem dX10_come_12 : decode cX10_come 12 = .ok (.getfield 86, 3) := by decide +kernel
theorem dX10_come_15 : decode cX10_come 15 = .ok (.iload_n 1, 1) := by decide +kernel
theorem dX10_come_16 : decode cX10_come 16 = .ok (.iload_n 2, 1) := by decide +kernel
theorem dX10_come_17 : decode cX10_come 17 = .ok (.iushr, 1) := by decide +kernel
theorem dX10_come_18 : decode cX10_come 18 = .ok (.sipush 255, 3) := by decide +kernel
theorem dX10_come_21 : decode cX10_come 21 = .ok (.iand, 1) := by decide +kernel
theorem dX10_come_22 : decode cX10_come 22 = .ok (.iastore, 1) := by decide +kernel
theorem dX10_come_23 : decode cX10_come 23 = .ok (.aload_n 0, 1) := by decide +kernel
theorem dX10_come_24 : decode cX10_come 24 = .ok (.dup, 1) := by decide +kernel
theorem dX10_come_25 : decode cX10_come 25 = .ok (.getfield 86, 3) := by decide +kernel
theorem dX10_come_28 : decode cX10_come 28 = .ok (.iconst 1, 1) := by decide +kernel
theorem dX10_come_29 : decode cX10_come 29 = .ok (.iadd, 1) := by decide +kernel
theorem dX10_come_30 : decode cX10_come 30 = .ok (.putfield 86, 3) := by decide +kernel
theorem dX10_come_33 : decode cX10_come 33 = .ok (.iinc 2 (-8), 3) := by decide +kernel
theorem dX10_come_36 : decode cX10_come 36 = .ok (.goto (-33), 3) := by decide +kernel
theorem dX10_come_39 : decode cX10_come 39 = .ok (.return_, 1) := by decide +kernel
theorem dX10_feed_0 : decode cX10_feed 0 = .ok (.aload_n 0, 1) := by decide +kernel
theorem dX10_feed_1 : decode cX10_feed 1 = .ok (.iconst 0, 1) := by decide +kernel
theorem dX10_feed_2 : decode cX10_feed 2 = .ok (.putfield 83, 3) := by decide +kernel
theorem dX10_feed_5 : decode cX10_feed 5 = .ok (.aload_n 0, 1) := by decide +kernel
theorem dX10_feed_6 : decode cX10_feed 6 = .ok (.getfield 86, 3) := by decide +kernel
theorem dX10_feed_9 : decode cX10_feed 9 = .ok (.bipush 20, 2) := by decide +kernel
theorem dX10_feed_11 : decode cX10_feed 11 = .ok (.iadd, 1) := by decide +kernel
theorem dX10_feed_12 : decode cX10_feed 12 = .ok (.sipush 740, 3) := by decide +kernel
theorem dX10_feed_15 : decode cX10_feed 15 = .ok (.if_icmp .le 5, 3) := by decide +kernel
theorem dX10_feed_18 : decode cX10_feed 18 = .ok (.iconst (-1), 1) := by decide +kernel
theorem dX10_feed_19 : decode cX10_feed 19 = .ok (.ireturn, 1) := by decide +kernel
theorem dX10_feed_20 : decode cX10_feed 20 = .ok (.aload_n 0, 1) := by decide +kernel
theorem dX10_feed_21 : decode cX10_feed 21 = .ok (.iload_n 1, 1) := by decide +kernel
theorem dX10_feed_22 : decode cX10_feed 22 = .ok (.invokevirtual 89, 3) := by decide +kernel
theorem dX10_feed_25 : decode cX10_feed 25 = .ok (.aload_n 0, 1) := by decide +kernel
theorem dX10_feed_26 : decode cX10_feed 26 = .ok (.iload_n 2, 1) := by decide +kernel
theorem dX10_feed_27 : decode cX10_feed 27 = .ok (.invokevirtual 89, 3) := by decide +kernel
theorem dX10_feed_30 : decode cX10_feed 30 = .ok (.aload_n 0, 1) := by decide +kernel
theorem dX10_feed_31 : decode cX10_feed 31 = .ok (.iload_n 3, 1) := by decide +kernel
theorem dX10_feed_32 : decode cX10_feed 32 = .ok (.invokevirtual 89, 3) := by decide +kernel
theorem dX10_feed_35 : decode cX10_feed 35 = .ok (.aload_n 0, 1) := by decide +kernel
theorem dX10_feed_36 : decode cX10_feed 36 = .ok (.iload 4, 2) := by decide +kernel
theorem dX10_feed_38 : decode cX10_feed 38 = .ok (.invokevirtual 89, 3) := by decide +kernel
theorem dX10_feed_41 : decode cX10_feed 41 = .ok (.aload_n 0, 1) := by decide +kernel
theorem dX10_feed_42 : decode cX10_feed 42 = .ok (.iload 5, 2) := by decide +kernel
theorem dX10_feed_44 : decode cX10_feed 44 = .ok (.invokevirtual 89, 3) := by decide +kernel
theorem dX10_feed_47 : decode cX10_feed 47 = .ok (.aload_n 0, 1) := by decide +kernel
theorem dX10_feed_48 : decode cX10_feed 48 = .ok (.getfield 86, 3) := by decide +kernel
theorem dX10_feed_51 : decode cX10_feed 51 = .ok (.ireturn, 1) := by decide +kernel
theorem dX10_end_0 : decode cX10_end 0 = .ok (.aload_n 0, 1) := by decide +kernel
theorem dX10_end_1 : decode cX10_end 1 = .ok (.iconst 0, 1) := by decide +kernel
theorem dX10_end_2 : decode cX10_end 2 = .ok (.putfield 83, 3) := by decide +kernel
theorem dX10_end_5 : decode cX10_end 5 = .ok (.iload_n 1, 1) := by decide +kernel
theorem dX10_end_6 : decode cX10_end 6 = .ok (.ifCond .lt 11, 3) := by decide +kernel
theorem dX10_end_9 : decode cX10_end 9 = .ok (.iload_n 1, 1) := by decide +kernel
theorem dX10_end_10 : decode cX10_end 10 = .ok (.aload_n 0, 1) := by decide +kernel
theorem dX10_end_11 : decode cX10_end 11 = .ok (.getfield 86, 3) := by decide +kernel
theorem dX10_end_14 : decode cX10_end 14 = .ok (.if_icmp .le 5, 3) := by decide +kernel
theorem dX10_end_17 : decode cX10_end 17 = .ok (.iconst 0, 1) := by decide +kernel
theorem dX10_end_18 : decode cX10_end 18 = .ok (.ireturn, 1) := by decide +kernel
theorem dX10_end_19 : decode cX10_end 19 = .ok (.aload_n 0, 1) := by decide +kernel
theorem dX10_end_20 : decode cX10_end 20 = .ok (.iload_n 1, 1) := by decide +kernel
theorem dX10_end_21 : decode cX10_end 21 = .ok (.putfield 86, 3) := by decide +kernel
theorem dX10_end_24 : decode cX10_end 24 = .ok (.iconst 1, 1) := by decide +kernel
theorem dX10_end_25 : decode cX10_end 25 = .ok (.ireturn, 1) := by decide +kernel
theorem dX10_take_0 : decode cX10_take 0 = .ok (.aload_n 0, 1) := by decide +kernel
theorem dX10_take_1 : decode cX10_take 1 = .ok (.getfield 86, 3) := by decide +kernel
theorem dX10_take_4 : decode cX10_take 4 = .ok (.istore_n 1, 1) := by decide +kernel
theorem dX10_take_5 : decode cX10_take 5 = .ok (.aload_n 0, 1) := by decide +kernel
theorem dX10_take_6 : decode cX10_take 6 = .ok (.iconst 0, 1) := by decide +kernel
theorem dX10_take_7 : decode cX10_take 7 = .ok (.putfield 86, 3) := by decide +kernel
theorem dX10_take_10 : decode cX10_take 10 = .ok (.iload_n 1, 1) := by decide +kernel
theorem dX10_take_11 : decode cX10_take 11 = .ok (.ireturn, 1) := by decide +kernel
theorem dX10_isIn_0 : decode cX10_isIn 0 = .ok (.iload_n 0, 1) := by decide +kernel
theorem dX10_isIn_1 : decode cX10_isIn 1 = .ok (.iload_n 1, 1) := by decide +kernel
theorem dX10_isIn_2 : decode cX10_isIn 2 = .ok (.if_icmp .lt 12, 3) := by decide +kernel
theorem dX10_isIn_5 : decode cX10_isIn 5 = .ok (.iload_n 0, 1) := by decide +kernel
theorem dX10_isIn_6 : decode cX10_isIn 6 = .ok (.iload_n 2, 1) := by decide +kernel
theorem dX10_isIn_7 : decode cX10_isIn 7 = .ok (.if_icmp .gt 7, 3) := by decide +kernel
theorem dX10_isIn_10 : decode cX10_isIn 10 = .ok (.iconst 1, 1) := by decide +kernel
theorem dX10_isIn_11 : decode cX10_isIn 11 = .ok (.goto 4, 3) := by decide +kernel
theorem dX10_isIn_14 : decode cX10_isIn 14 = .ok (.iconst 0, 1) := by decide +kernel
theorem dX10_isIn_15 : decode cX10_isIn 15 = .ok (.ireturn, 1) := by decide +kernel
theorem dX10_has_0 : decode cX10_has 0 = .ok (.iload_n 0, 1) := by decide +kernel
theorem dX10_has_1 : decode cX10_has 1 = .ok (.iload_n 1, 1) := by decide +kernel
theorem dX10_has_2 : decode cX10_has 2 = .ok (.ishr, 1) := by decide +kernel
theorem dX10_has_3 : decode cX10_has 3 = .ok (.iconst 1, 1) := by decide +kernel
theorem dX10_has_4 : decode cX10_has 4 = .ok (.iand, 1) := by decide +kernel
theorem dX10_has_5 : decode cX10_has 5 = .ok (.iconst 1, 1) := by decide +kernel
theorem dX10_has_6 : decode cX10_has 6 = .ok (.if_icmp .ne 7, 3) := by decide +kernel
theorem dX10_has_9 : decode cX10_has 9 = .ok (.iconst 1, 1) := by decide +kernel
theorem dX10_has_10 : decode cX10_has 10 = .ok (.goto 4, 3) := by decide +kernel
theorem dX10_has_13 : decode cX10_has 13 = .ok (.iconst 0, 1) := by decide +kernel
theorem dX10_has_14 : decode cX10_has 14 = .ok (.ireturn, 1) := by decide +kernel
theorem dX10_byteAt_0 : decode cX10_byteAt 0 = .ok (.iload_n 1, 1) := by decide +kernel
theorem dX10_byteAt_1 : decode cX10_byteAt 1 = .ok (.aload_n 0, 1) := by decide +kernel
theorem dX10_byteAt_2 : decode cX10_byteAt 2 = .ok (.getfield 93, 3) := by decide +kernel
theorem dX10_byteAt_5 : decode cX10_byteAt 5 = .ok (.if_icmp .ge 12, 3) := by decide +kernel
theorem dX10_byteAt_8 : decode cX10_byteAt 8 = .ok (.aload_n 0, 1) := by decide +kernel
theorem dX10_byteAt_9 : decode cX10_byteAt 9 = .ok (.getfield 7, 3) := by decide +kernel
theorem dX10_byteAt_12 : decode cX10_byteAt 12 = .ok (.iload_n 1, 1) := by decide +kernel
theorem dX10_byteAt_13 : decode cX10_byteAt 13 = .ok (.iaload, 1) := by decide +kernel
theorem dX10_byteAt_14 : decode cX10_byteAt 14 = .ok (.goto 4, 3) := by decide +kernel
theorem dX10_byteAt_17 : decode cX10_byteAt 17 = .ok (.iconst 0, 1) := by decide +kernel
theorem dX10_byteAt_18 : decode cX10_byteAt 18 = .ok (.ireturn, 1) := by decide +kernel
theorem dX10_isDigit_0 : decode cX10_isDigit 0 = .ok (.iload_n 0, 1) := by decide +kernel
theorem dX10_isDigit_1 : decode cX10_isDigit 1 = .ok (.bipush 48, 2) := by decide +kernel
theorem dX10_isDigit_3 : decode cX10_isDigit 3 = .ok (.if_icmp .lt 13, 3) := by decide +kernel
theorem dX10_isDigit_6 : decode cX10_isDigit 6 = .ok (.iload_n 0, 1) := by decide +kernel
theorem dX10_isDigit_7 : decode cX10_isDigit 7 = .ok (.bipush 57, 2) := by decide +kernel
theorem dX10_isDigit_9 : decode cX10_isDigit 9 = .ok (.if_icmp .gt 7, 3) := by decide +kernel
theorem dX10_isDigit_12 : decode cX10_isDigit 12 = .ok (.iconst 1, 1) := by decide +kernel
theorem dX10_isDigit_13 : decode cX10_isDigit 13 = .ok (.goto 4, 3) := by decide +kernel
theorem dX10_isDigit_16 : decode cX10_isDigit 16 = .ok (.iconst 0, 1) := by decide +kernel
theorem dX10_isDigit_17 : decode cX10_isDigit 17 = .ok (.ireturn, 1) := by decide +kernel
theorem dX10_isLetter_0 : decode cX10_isLetter 0 = .ok (.iload_n 0, 1) := by decide +kernel
theorem dX10_isLetter_1 : decode cX10_isLetter 1 = .ok (.bipush 97, 2) := by decide +kernel
theorem dX10_isLetter_3 : decode cX10_isLetter 3 = .ok (.if_icmp .lt 13, 3) := by decide +kernel
theorem dX10_isLetter_6 : decode cX10_isLetter 6 = .ok (.iload_n 0, 1) := by decide +kernel
theorem dX10_isLetter_7 : decode cX10_isLetter 7 = .ok (.bipush 122, 2) := by decide +kernel
theorem dX10_isLetter_9 : decode cX10_isLetter 9 = .ok (.if_icmp .gt 7, 3) := by decide +kernel
theorem dX10_isLetter_12 : decode cX10_isLetter 12 = .ok (.iconst 1, 1) := by decide +kernel
theorem dX10_isLetter_13 : decode cX10_isLetter 13 = .ok (.goto 4, 3) := by decide +kernel
theorem dX10_isLetter_16 : decode cX10_isLetter 16 = .ok (.iconst 0, 1) := by decide +kernel
theorem dX10_isLetter_17 : decode cX10_isLetter 17 = .ok (.ireturn, 1) := by decide +kernel
theorem dX10_go_0 : decode cX10_go 0 = .ok (.aload_n 0, 1) := by decide +kernel
theorem dX10_go_1 : decode cX10_go 1 = .ok (.getfield 96, 3) := by decide +kernel
theorem dX10_go_4 : decode cX10_go 4 = .ok (.aload_n 0, 1) := by decide +kernel
theorem dX10_go_5 : decode cX10_go 5 = .ok (.getfield 93, 3) := by decide +kernel
theorem dX10_go_8 : decode cX10_go 8 = .ok (.if_icmp .ge 44, 3) := by decide +kernel
theorem dX10_go_11 : decode cX10_go 11 = .ok (.aload_n 0, 1) := by decide +kernel
theorem dX10_go_12 : decode cX10_go 12 = .ok (.getfield 7, 3) := by decide +kernel
theorem dX10_go_15 : decode cX10_go 15 = .ok (.aload_n 0, 1) := by decide +kernel
theorem dX10_go_16 : decode cX10_go 16 = .ok (.getfield 96, 3) := by decide +kernel
theorem dX10_go_19 : decode cX10_go 19 = .ok (.iaload, 1) := by decide +kernel
theorem dX10_go_20 : decode cX10_go 20 = .ok (.bipush 32, 2) := by decide +kernel
theorem dX10_go_22 : decode cX10_go 22 = .ok (.if_icmp .eq 17, 3) := by decide +kernel
theorem dX10_go_25 : decode cX10_go 25 = .ok (.aload_n 0, 1) := by decide +kernel
theorem dX10_go_26 : decode cX10_go 26 = .ok (.getfield 7, 3) := by decide +kernel
theorem dX10_go_29 : decode cX10_go 29 = .ok (.aload_n 0, 1) := by decide +kernel
theorem dX10_go_30 : decode cX10_go 30 = .ok (.getfield 96, 3) := by decide +kernel
theorem dX10_go_33 : decode cX10_go 33 = .ok (.iaload, 1) := by decide +kernel
theorem dX10_go_34 : decode cX10_go 34 = .ok (.bipush 10, 2) := by decide +kernel
theorem dX10_go_36 : decode cX10_go 36 = .ok (.if_icmp .ne 16, 3) := by decide +kernel
theorem dX10_go_39 : decode cX10_go 39 = .ok (.aload_n 0, 1) := by decide +kernel
theorem dX10_go_40 : decode cX10_go 40 = .ok (.dup, 1) := by decide +kernel
theorem dX10_go_41 : decode cX10_go 41 = .ok (.getfield 96, 3) := by decide +kernel
theorem dX10_go_44 : decode cX10_go 44 = .ok (.iconst 1, 1) := by decide +kernel
theorem dX10_go_45 : decode cX10_go 45 = .ok (.iadd, 1) := by decide +kernel
theorem dX10_go_46 : decode cX10_go 46 = .ok (.putfield 96, 3) := by decide +kernel
theorem dX10_go_49 : decode cX10_go 49 = .ok (.goto (-49), 3) := by decide +kernel
theorem dX10_go_52 : decode cX10_go 52 = .ok (.aload_n 0, 1) := by decide +kernel
theorem dX10_go_53 : decode cX10_go 53 = .ok (.aload_n 0, 1) := by decide +kernel
theorem dX10_go_54 : decode cX10_go 54 = .ok (.getfield 96, 3) := by decide +kernel
theorem dX10_go_57 : decode cX10_go 57 = .ok (.putfield 99, 3) := by decide +kernel
theorem dX10_go_60 : decode cX10_go 60 = .ok (.aload_n 0, 1) := by decide +kernel
theorem dX10_go_61 : decode cX10_go 61 = .ok (.getfield 93, 3) := by decide +kernel
theorem dX10_go_64 : decode cX10_go 64 = .ok (.aload_n 0, 1) := by decide +kernel
theorem dX10_go_65 : decode cX10_go 65 = .ok (.getfield 102, 3) := by decide +kernel
theorem dX10_go_68 : decode cX10_go 68 = .ok (.if_icmp .le 28, 3) := by decide +kernel
theorem dX10_go_71 : decode cX10_go 71 = .ok (.aload_n 0, 1) := by decide +kernel
theorem dX10_go_72 : decode cX10_go 72 = .ok (.getfield 99, 3) := by decide +kernel
theorem dX10_go_75 : decode cX10_go 75 = .ok (.aload_n 0, 1) := by decide +kernel
theorem dX10_go_76 : decode cX10_go 76 = .ok (.getfield 102, 3) := by decide +kernel
theorem dX10_go_79 : decode cX10_go 79 = .ok (.if_icmp .lt 17, 3) := by decide +kernel
theorem dX10_go_82 : decode cX10_go 82 = .ok (.aload_n 0, 1) := by decide +kernel
theorem dX10_go_83 : decode cX10_go 83 = .ok (.aload_n 0, 1) := by decide +kernel
theorem dX10_go_84 : decode cX10_go 84 = .ok (.getfield 102, 3) := by decide +kernel
theorem dX10_go_87 : decode cX10_go 87 = .ok (.putfield 99, 3) := by decide +kernel
theorem dX10_go_90 : decode cX10_go 90 = .ok (.aload_n 0, 1) := by decide +kernel
theorem dX10_go_91 : decode cX10_go 91 = .ok (.iconst 1, 1) := by decide +kernel
theorem dX10_go_92 : decode cX10_go 92 = .ok (.putfield 105, 3) := by decide +kernel
theorem dX10_go_95 : decode cX10_go 95 = .ok (.return_, 1) := by decide +kernel
theorem dX10_go_96 : decode cX10_go 96 = .ok (.aload_n 0, 1) := by decide +kernel
theorem dX10_go_97 : decode cX10_go 97 = .ok (.getfield 96, 3) := by decide +kernel
theorem dX10_go_100 : decode cX10_go 100 = .ok (.aload_n 0, 1) := by decide +kernel
theorem dX10_go_101 : decode cX10_go 101 = .ok (.getfield 93, 3) := by decide +kernel
theorem dX10_go_104 : decode cX10_go 104 = .ok (.if_icmp .lt 9, 3) := by decide +kernel
theorem dX10_go_107 : decode cX10_go 107 = .ok (.aload_n 0, 1) := by decide +kernel
theorem dX10_go_108 : decode cX10_go 108 = .ok (.iconst 0, 1) := by decide +kernel
theorem dX10_go_109 : decode cX10_go 109 = .ok (.putfield 105, 3) := by decide +kernel
theorem dX10_go_112 : decode cX10_go 112 = .ok (.return_, 1) := by decide +kernel
theorem dX10_go_113 : decode cX10_go 113 = .ok (.aload_n 0, 1) := by decide +kernel
theorem dX10_go_114 : decode cX10_go 114 = .ok (.getfield 7, 3) := by decide +kernel
theorem dX10_go_117 : decode cX10_go 117 = .ok (.aload_n 0, 1) := by decide +kernel
theorem dX10_go_118 : decode cX10_go 118 = .ok (.getfield 96, 3) := by decide +kernel
theorem dX10_go_121 : decode cX10_go 121 = .ok (.iaload, 1) := by decide +kernel
theorem dX10_go_122 : decode cX10_go 122 = .ok (.istore_n 1, 1) := by decide +kernel
theorem dX10_go_123 : decode cX10_go 123 = .ok (.iload_n 1, 1) := by decide +kernel
theorem dX10_go_124 : decode cX10_go 124 = .ok (.invokestatic 108, 3) := by decide +kernel
theorem dX10_go_127 : decode cX10_go 127 = .ok (.ifCond .ne 71, 3) := by decide +kernel
theorem dX10_go_130 : decode cX10_go 130 = .ok (.iload_n 1, 1) := by decide +kernel
theorem dX10_go_131 : decode cX10_go 131 = .ok (.invokestatic 112, 3) := by decide +kernel
theorem dX10_go_134 : decode cX10_go 134 = .ok (.ifCond .ne 64, 3) := by decide +kernel
theorem dX10_go_137 : decode cX10_go 137 = .ok (.aload_n 0, 1) := by decide +kernel
theorem dX10_go_138 : decode cX10_go 138 = .ok (.iload_n 1, 1) := by decide +kernel
theorem dX10_go_139 : decode cX10_go 139 = .ok (.bipush 59, 2) := by decide +kernel
theorem dX10_go_141 : decode cX10_go 141 = .ok (.if_icmp .eq 33, 3) := by decide +kernel
theorem dX10_go_144 : decode cX10_go 144 = .ok (.iload_n 1, 1) := by decide +kernel
theorem dX10_go_145 : decode cX10_go 145 = .ok (.bipush 60, 2) := by decide +kernel
theorem dX10_go_147 : decode cX10_go 147 = .ok (.if_icmp .eq 27, 3) := by decide +kernel
theorem dX10_go_150 : decode cX10_go 150 = .ok (.iload_n 1, 1) := by decide +kernel
theorem dX10_go_151 : decode cX10_go 151 = .ok (.bipush 61, 2) := by decide +kernel
theorem dX10_go_153 : decode cX10_go 153 = .ok (.if_icmp .eq 21, 3) := by decide +kernel
theorem dX10_go_156 : decode cX10_go 156 = .ok (.iload_n 1, 1) := by decide +kernel
theorem dX10_go_157 : decode cX10_go 157 = .ok (.bipush 62, 2) := by decide +kernel
theorem dX10_go_159 : decode cX10_go 159 = .ok (.if_icmp .eq 15, 3) := by decide +kernel
theorem dX10_go_162 : decode cX10_go 162 = .ok (.iload_n 1, 1) := by decide +kernel
theorem dX10_go_163 : decode cX10_go 163 = .ok (.bipush 40, 2) := by decide +kernel
theorem dX10_go_165 : decode cX10_go 165 = .ok (.if_icmp .eq 9, 3) := by decide +kernel
theorem dX10_go_168 : decode cX10_go 168 = .ok (.iload_n 1, 1) := by decide +kernel
theorem dX10_go_169 : decode cX10_go 169 = .ok (.bipush 41, 2) := by decide +kernel
theorem dX10_go_171 : decode cX10_go 171 = .ok (.if_icmp .ne 7, 3) := by decide +kernel
theorem dX10_go_174 : decode cX10_go 174 = .ok (.iconst 4, 1) := by decide +kernel
theorem dX10_go_175 : decode cX10_go 175 = .ok (.goto 4, 3) := by decide +kernel
theorem dX10_go_178 : decode cX10_go 178 = .ok (.iconst 1, 1) := by decide +kernel
theorem dX10_go_179 : decode cX10_go 179 = .ok (.putfield 105, 3) := by decide +kernel
theorem dX10_go_182 : decode cX10_go 182 = .ok (.aload_n 0, 1) := by decide +kernel
theorem dX10_go_183 : decode cX10_go 183 = .ok (.iload_n 1, 1) := by decide +kernel
theorem dX10_go_184 : decode cX10_go 184 = .ok (.putfield 115, 3) := by decide +kernel
theorem dX10_go_187 : decode cX10_go 187 = .ok (.aload_n 0, 1) := by decide +kernel
theorem dX10_go_188 : decode cX10_go 188 = .ok (.dup, 1) := by decide +kernel
theorem dX10_go_189 : decode cX10_go 189 = .ok (.getfield 96, 3) := by decide +kernel
theorem dX10_go_192 : decode cX10_go 192 = .ok (.iconst 1, 1) := by decide +kernel
theorem dX10_go_193 : decode cX10_go 193 = .ok (.iadd, 1) := by decide +kernel
theorem dX10_go_194 : decode cX10_go 194 = .ok (.putfield 96, 3) := by decide +kernel
theorem dX10_go_197 : decode cX10_go 197 = .ok (.return_, 1) := by decide +kernel
theorem dX10_go_198 : decode cX10_go 198 = .ok (.iload_n 1, 1) := by decide +kernel
theorem dX10_go_199 : decode cX10_go 199 = .ok (.invokestatic 108, 3) := by decide +kernel
theorem dX10_go_202 : decode cX10_go 202 = .ok (.istore_n 2, 1) := by decide +kernel
theorem dX10_go_203 : decode cX10_go 203 = .ok (.iconst 1, 1) := by decide +kernel
theorem dX10_go_204 : decode cX10_go 204 = .ok (.istore_n 3, 1) := by decide +kernel
theorem dX10_go_205 : decode cX10_go 205 = .ok (.aload_n 0, 1) := by decide +kernel
theorem dX10_go_206 : decode cX10_go 206 = .ok (.lconst 0, 1) := by decide +kernel
theorem dX10_go_207 : decode cX10_go 207 = .ok (.putfield 118, 3) := by decide +kernel
theorem dX10_go_210 : decode cX10_go 210 = .ok (.aload_n 0, 1) := by decide +kernel
theorem dX10_go_211 : decode cX10_go 211 = .ok (.iconst 0, 1) := by decide +kernel
theorem dX10_go_212 : decode cX10_go 212 = .ok (.putfield 122, 3) := by decide +kernel
theorem dX10_go_215 : decode cX10_go 215 = .ok (.aload_n 0, 1) := by decide +kernel
theorem dX10_go_216 : decode cX10_go 216 = .ok (.aload_n 0, 1) := by decide +kernel
theorem dX10_go_217 : decode cX10_go 217 = .ok (.getfield 96, 3) := by decide +kernel
theorem dX10_go_220 : decode cX10_go 220 = .ok (.invokevirtual 125, 3) := by decide +kernel
theorem dX10_go_223 : decode cX10_go 223 = .ok (.invokestatic 108, 3) := by decide +kernel
theorem dX10_go_226 : decode cX10_go 226 = .ok (.ifCond .ne 17, 3) := by decide +kernel
theorem dX10_go_229 : decode cX10_go 229 = .ok (.aload_n 0, 1) := by decide +kernel
theorem dX10_go_230 : decode cX10_go 230 = .ok (.aload_n 0, 1) := by decide +kernel
theorem dX10_go_231 : decode cX10_go 231 = .ok (.getfield 96, 3) := by decide +kernel
theorem dX10_go_234 : decode cX10_go 234 = .ok (.invokevirtual 125, 3) := by decide +kernel
theorem dX10_go_237 : decode cX10_go 237 = .ok (.invokestatic 112, 3) := by decide +kernel
theorem dX10_go_240 : decode cX10_go 240 = .ok (.ifCond .eq 110, 3) := by decide +kernel
theorem dX10_go_243 : decode cX10_go 243 = .ok (.aload_n 0, 1) := by decide +kernel
theorem dX10_go_244 : decode cX10_go 244 = .ok (.getfield 7, 3) := by decide +kernel
theorem dX10_go_247 : decode cX10_go 247 = .ok (.aload_n 0, 1) := by decide +kernel
theorem dX10_go_248 : decode cX10_go 248 = .ok (.getfield 96, 3) := by decide +kernel
theorem dX10_go_251 : decode cX10_go 251 = .ok (.iaload, 1) := by decide +kernel
theorem dX10_go_252 : decode cX10_go 252 = .ok (.istore 4, 2) := by decide +kernel
theorem dX10_go_254 : decode cX10_go 254 = .ok (.iload_n 3, 1) := by decide +kernel
theorem dX10_go_255 : decode cX10_go 255 = .ok (.ifCond .eq 16, 3) := by decide +kernel
theorem dX10_go_258 : decode cX10_go 258 = .ok (.iload 4, 2) := by decide +kernel
theorem dX10_go_260 : decode cX10_go 260 = .ok (.invokestatic 108, 3) := by decide +kernel
theorem dX10_go_263 : decode cX10_go 263 = .ok (.iload_n 2, 1) := by decide +kernel
theorem dX10_go_264 : decode cX10_go 264 = .ok (.if_icmp .ne 7, 3) := by decide +kernel
theorem dX10_go_267 : decode cX10_go 267 = .ok (.iconst 1, 1) := by decide +kernel
theorem dX10_go_268 : decode cX10_go 268 = .ok (.goto 4, 3) := by decide +kernel
theorem dX10_go_271 : decode cX10_go 271 = .ok (.iconst 0, 1) := by decide +kernel
theorem dX10_go_272 : decode cX10_go 272 = .ok (.istore_n 3, 1) := by decide +kernel
theorem dX10_go_273 : decode cX10_go 273 = .ok (.aload_n 0, 1) := by decide +kernel
theorem dX10_go_274 : decode cX10_go 274 = .ok (.getfield 96, 3) := by decide +kernel
theorem dX10_go_277 : decode cX10_go 277 = .ok (.aload_n 0, 1) := by decide +kernel
theorem dX10_go_278 : decode cX10_go 278 = .ok (.getfield 99, 3) := by decide +kernel
theorem dX10_go_281 : decode cX10_go 281 = .ok (.isub, 1) := by decide +kernel
theorem dX10_go_282 : decode cX10_go 282 = .ok (.bipush 6, 2) := by decide +kernel
theorem dX10_go_284 : decode cX10_go 284 = .ok (.if_icmp .ge 23, 3) := by decide +kernel
theorem dX10_go_287 : decode cX10_go 287 = .ok (.aload_n 0, 1) := by decide +kernel
theorem dX10_go_288 : decode cX10_go 288 = .ok (.ldc2_w 129, 3) := by decide +kernel
theorem dX10_go_291 : decode cX10_go 291 = .ok (.aload_n 0, 1) := by decide +kernel
theorem dX10_go_292 : decode cX10_go 292 = .ok (.getfield 118, 3) := by decide +kernel
theorem dX10_go_295 : decode cX10_go 295 = .ok (.lmul, 1) := by decide +kernel
theorem dX10_go_296 : decode cX10_go 296 = .ok (.iload 4, 2) := by decide +kernel
theorem dX10_go_298 : decode cX10_go 298 = .ok (.i2l, 1) := by decide +kernel
theorem dX10_go_299 : decode cX10_go 299 = .ok (.ladd, 1) := by decide +kernel
theorem dX10_go_300 : decode cX10_go 300 = .ok (.ldc2_w 131, 3) := by decide +kernel
theorem dX10_go_303 : decode cX10_go 303 = .ok (.lsub, 1) := by decide +kernel
theorem dX10_go_304 : decode cX10_go 304 = .ok (.putfield 118, 3) := by decide +kernel
theorem dX10_go_307 : decode cX10_go 307 = .ok (.aload_n 0, 1) := by decide +kernel
theorem dX10_go_308 : decode cX10_go 308 = .ok (.getfield 96, 3) := by decide +kernel
theorem dX10_go_311 : decode cX10_go 311 = .ok (.aload_n 0, 1) := by decide +kernel
theorem dX10_go_312 : decode cX10_go 312 = .ok (.getfield 99, 3) := by decide +kernel
theorem dX10_go_315 : decode cX10_go 315 = .ok (.isub, 1) := by decide +kernel
theorem dX10_go_316 : decode cX10_go 316 = .ok (.iconst 4, 1) := by decide +kernel
theorem dX10_go_317 : decode cX10_go 317 = .ok (.if_icmp .ge 20, 3) := by decide +kernel
theorem dX10_go_320 : decode cX10_go 320 = .ok (.aload_n 0, 1) := by decide +kernel
theorem dX10_go_321 : decode cX10_go 321 = .ok (.bipush 10, 2) := by decide +kernel
theorem dX10_go_323 : decode cX10_go 323 = .ok (.aload_n 0, 1) := by decide +kernel
theorem dX10_go_324 : decode cX10_go 324 = .ok (.getfield 122, 3) := by decide +kernel
theorem dX10_go_327 : decode cX10_go 327 = .ok (.imul, 1) := by decide +kernel
theorem dX10_go_328 : decode cX10_go 328 = .ok (.iload 4, 2) := by decide +kernel
theorem dX10_go_330 : decode cX10_go 330 = .ok (.iadd, 1) := by decide +kernel
theorem dX10_go_331 : decode cX10_go 331 = .ok (.bipush 48, 2) := by decide +kernel
theorem dX10_go_333 : decode cX10_go 333 = .ok (.isub, 1) := by decide +kernel
theorem dX10_go_334 : decode cX10_go 334 = .ok (.putfield 122, 3) := by decide +kernel
theorem dX10_go_337 : decode cX10_go 337 = .ok (.aload_n 0, 1) := by decide +kernel
theorem dX10_go_338 : decode cX10_go 338 = .ok (.dup, 1) := by decide +kernel
theorem dX10_go_339 : decode cX10_go 339 = .ok (.getfield 96, 3) := by decide +kernel
theorem dX10_go_342 : decode cX10_go 342 = .ok (.iconst 1, 1) := by decide +kernel
theorem dX10_go_343 : decode cX10_go 343 = .ok (.iadd, 1) := by decide +kernel
theorem dX10_go_344 : decode cX10_go 344 = .ok (.putfield 96, 3) := by decide +kernel
theorem dX10_go_347 : decode cX10_go 347 = .ok (.goto (-132), 3) := by decide +kernel
theorem dX10_go_350 : decode cX10_go 350 = .ok (.aload_n 0, 1) := by decide +kernel
theorem dX10_go_351 : decode cX10_go 351 = .ok (.iload_n 3, 1) := by decide +kernel
theorem dX10_go_352 : decode cX10_go 352 = .ok (.ifCond .eq 25, 3) := by decide +kernel
theorem dX10_go_355 : decode cX10_go 355 = .ok (.aload_n 0, 1) := by decide +kernel
theorem dX10_go_356 : decode cX10_go 356 = .ok (.getfield 96, 3) := by decide +kernel
theorem dX10_go_359 : decode cX10_go 359 = .ok (.aload_n 0, 1) := by decide +kernel
theorem dX10_go_360 : decode cX10_go 360 = .ok (.getfield 99, 3) := by decide +kernel
theorem dX10_go_363 : decode cX10_go 363 = .ok (.isub, 1) := by decide +kernel
theorem dX10_go_364 : decode cX10_go 364 = .ok (.iload_n 2, 1) := by decide +kernel
theorem dX10_go_365 : decode cX10_go 365 = .ok (.ifCond .eq 8, 3) := by decide +kernel
theorem dX10_go_368 : decode cX10_go 368 = .ok (.bipush 6, 2) := by decide +kernel
theorem dX10_go_370 : decode cX10_go 370 = .ok (.goto 4, 3) := by decide +kernel
theorem dX10_go_373 : decode cX10_go 373 = .ok (.iconst 4, 1) := by decide +kernel
theorem dX10_go_374 : decode cX10_go 374 = .ok (.if_icmp .le 7, 3) := by decide +kernel
theorem dX10_go_377 : decode cX10_go 377 = .ok (.iconst 1, 1) := by decide +kernel
theorem dX10_go_378 : decode cX10_go 378 = .ok (.goto 12, 3) := by decide +kernel
theorem dX10_go_381 : decode cX10_go 381 = .ok (.iload_n 2, 1) := by decide +kernel
theorem dX10_go_382 : decode cX10_go 382 = .ok (.ifCond .eq 7, 3) := by decide +kernel
theorem dX10_go_385 : decode cX10_go 385 = .ok (.iconst 2, 1) := by decide +kernel
theorem dX10_go_386 : decode cX10_go 386 = .ok (.goto 4, 3) := by decide +kernel
theorem dX10_go_389 : decode cX10_go 389 = .ok (.iconst 3, 1) := by decide +kernel
theorem dX10_go_390 : decode cX10_go 390 = .ok (.putfield 105, 3) := by decide +kernel
theorem dX10_go_393 : decode cX10_go 393 = .ok (.return_, 1) := by decide +kernel
theorem dX10_spelt_0 : decode cX10_spelt 0 = .ok (.ldc2_w 129, 3) := by decide +kernel
theorem dX10_spelt_3 : decode cX10_spelt 3 = .ok (.iload_n 0, 1) := by decide +kernel
theorem dX10_spelt_4 : decode cX10_spelt 4 = .ok (.i2l, 1) := by decide +kernel
theorem dX10_spelt_5 : decode cX10_spelt 5 = .ok (.ldc2_w 131, 3) := by decide +kernel
theorem dX10_spelt_8 : decode cX10_spelt 8 = .ok (.lsub, 1) := by decide +kernel
theorem dX10_spelt_9 : decode cX10_spelt 9 = .ok (.lmul, 1) := by decide +kernel
theorem dX10_spelt_10 : decode cX10_spelt 10 = .ok (.iload_n 1, 1) := by decide +kernel
theorem dX10_spelt_11 : decode cX10_spelt 11 = .ok (.i2l, 1) := by decide +kernel
theorem dX10_spelt_12 : decode cX10_spelt 12 = .ok (.ladd, 1) := by decide +kernel
theorem dX10_spelt_13 : decode cX10_spelt 13 = .ok (.ldc2_w 131, 3) := by decide +kernel
theorem dX10_spelt_16 : decode cX10_spelt 16 = .ok (.lsub, 1) := by decide +kernel
theorem dX10_spelt_17 : decode cX10_spelt 17 = .ok (.lstore 4, 2) := by decide +kernel
theorem dX10_spelt_19 : decode cX10_spelt 19 = .ok (.iload_n 2, 1) := by decide +kernel
theorem dX10_spelt_20 : decode cX10_spelt 20 = .ok (.ifCond .le 18, 3) := by decide +kernel
theorem dX10_spelt_23 : decode cX10_spelt 23 = .ok (.ldc2_w 129, 3) := by decide +kernel
theorem dX10_spelt_26 : decode cX10_spelt 26 = .ok (.lload 4, 2) := by decide +kernel
theorem dX10_spelt_28 : decode cX10_spelt 28 = .ok (.lmul, 1) := by decide +kernel
theorem dX10_spelt_29 : decode cX10_spelt 29 = .ok (.iload_n 2, 1) := by decide +kernel
theorem dX10_spelt_30 : decode cX10_spelt 30 = .ok (.i2l, 1) := by decide +kernel
theorem dX10_spelt_31 : decode cX10_spelt 31 = .ok (.ladd, 1) := by decide +kernel
theorem dX10_spelt_32 : decode cX10_spelt 32 = .ok (.ldc2_w 131, 3) := by decide +kernel
theorem dX10_spelt_35 : decode cX10_spelt 35 = .ok (.lsub, 1) := by decide +kernel
theorem dX10_spelt_36 : decode cX10_spelt 36 = .ok (.lstore 4, 2) := by decide +kernel
theorem dX10_spelt_38 : decode cX10_spelt 38 = .ok (.iload_n 3, 1) := by decide +kernel
theorem dX10_spelt_39 : decode cX10_spelt 39 = .ok (.ifCond .le 19, 3) := by decide +kernel
theorem dX10_spelt_42 : decode cX10_spelt 42 = .ok (.ldc2_w 129, 3) := by decide +kernel
theorem dX10_spelt_45 : decode cX10_spelt 45 = .ok (.lload 4, 2) := by decide +kernel
theorem dX10_spelt_47 : decode cX10_spelt 47 = .ok (.lmul, 1) := by decide +kernel
theorem dX10_spelt_48 : decode cX10_spelt 48 = .ok (.iload_n 3, 1) := by decide +kernel
theorem dX10_spelt_49 : decode cX10_spelt 49 = .ok (.i2l, 1) := by decide +kernel
theorem dX10_spelt_50 : decode cX10_spelt 50 = .ok (.ladd, 1) := by decide +kernel
theorem dX10_spelt_51 : decode cX10_spelt 51 = .ok (.ldc2_w 131, 3) := by decide +kernel
theorem dX10_spelt_54 : decode cX10_spelt 54 = .ok (.lsub, 1) := by decide +kernel
theorem dX10_spelt_55 : decode cX10_spelt 55 = .ok (.goto 5, 3) := by decide +kernel
theorem dX10_spelt_58 : decode cX10_spelt 58 = .ok (.lload 4, 2) := by decide +kernel
theorem dX10_spelt_60 : decode cX10_spelt 60 = .ok (.lreturn, 1) := by decide +kernel
theorem dX10_on_0 : decode cX10_on 0 = .ok (.ldc2_w 129, 3) := by decide +kernel
theorem dX10_on_3 : decode cX10_on 3 = .ok (.lload_n 0, 1) := by decide +kernel
theorem dX10_on_4 : decode cX10_on 4 = .ok (.lmul, 1) := by decide +kernel
theorem dX10_on_5 : decode cX10_on 5 = .ok (.iload_n 2, 1) := by decide +kernel
theorem dX10_on_6 : decode cX10_on 6 = .ok (.i2l, 1) := by decide +kernel
theorem dX10_on_7 : decode cX10_on 7 = .ok (.ladd, 1) := by decide +kernel
theorem dX10_on_8 : decode cX10_on 8 = .ok (.ldc2_w 131, 3) := by decide +kernel
theorem dX10_on_11 : decode cX10_on 11 = .ok (.lsub, 1) := by decide +kernel
theorem dX10_on_12 : decode cX10_on 12 = .ok (.lstore 4, 2) := by decide +kernel
theorem dX10_on_14 : decode cX10_on 14 = .ok (.iload_n 3, 1) := by decide +kernel
theorem dX10_on_15 : decode cX10_on 15 = .ok (.ifCond .le 19, 3) := by decide +kernel
theorem dX10_on_18 : decode cX10_on 18 = .ok (.ldc2_w 129, 3) := by decide +kernel
theorem dX10_on_21 : decode cX10_on 21 = .ok (.lload 4, 2) := by decide +kernel
theorem dX10_on_23 : decode cX10_on 23 = .ok (.lmul, 1) := by decide +kernel
theorem dX10_on_24 : decode cX10_on 24 = .ok (.iload_n 3, 1) := by decide +kernel
theorem dX10_on_25 : decode cX10_on 25 = .ok (.i2l, 1) := by decide +kernel
theorem dX10_on_26 : decode cX10_on 26 = .ok (.ladd, 1) := by decide +kernel
theorem dX10_on_27 : decode cX10_on 27 = .ok (.ldc2_w 131, 3) := by decide +kernel
theorem dX10_on_30 : decode cX10_on 30 = .ok (.lsub, 1) := by decide +kernel
theorem dX10_on_31 : decode cX10_on 31 = .ok (.goto 5, 3) := by decide +kernel
theorem dX10_on_34 : decode cX10_on 34 = .ok (.lload 4, 2) := by decide +kernel
theorem dX10_on_36 : decode cX10_on 36 = .ok (.lreturn, 1) := by decide +kernel
theorem dX10_wordOf_0 : decode cX10_wordOf 0 = .ok (.iload_n 0, 1) := by decide +kernel
theorem dX10_wordOf_1 : decode cX10_wordOf 1 = .ok (.tableswitch 348 0 17 #[87, 98, 110, 122, 134, 152, 170, 182, 194, 212, 222, 233, 244, 262, 280, 292, 310, 329], 87) := by decide +kernel
theorem dX10_wordOf_88 : decode cX10_wordOf 88 = .ok (.bipush 119, 2) := by decide +kernel
theorem dX10_wordOf_90 : decode cX10_wordOf 90 = .ok (.bipush 104, 2) := by decide +kernel
theorem dX10_wordOf_92 : decode cX10_wordOf 92 = .ok (.bipush 111, 2) := by decide +kernel
theorem dX10_wordOf_94 : decode cX10_wordOf 94 = .ok (.iconst 0, 1) := by decide +kernel
theorem dX10_wordOf_95 : decode cX10_wordOf 95 = .ok (.invokestatic 133, 3) := by decide +kernel
theorem dX10_wordOf_98 : decode cX10_wordOf 98 = .ok (.lreturn, 1) := by decide +kernel
theorem dX10_wordOf_99 : decode cX10_wordOf 99 = .ok (.bipush 98, 2) := by decide +kernel
theorem dX10_wordOf_101 : decode cX10_wordOf 101 = .ok (.bipush 101, 2) := by decide +kernel
theorem dX10_wordOf_103 : decode cX10_wordOf 103 = .ok (.bipush 103, 2) := by decide +kernel
theorem dX10_wordOf_105 : decode cX10_wordOf 105 = .ok (.bipush 115, 2) := by decide +kernel
theorem dX10_wordOf_107 : decode cX10_wordOf 107 = .ok (.invokestatic 133, 3) := by decide +kernel
theorem dX10_wordOf_110 : decode cX10_wordOf 110 = .ok (.lreturn, 1) := by decide +kernel
theorem dX10_wordOf_111 : decode cX10_wordOf 111 = .ok (.bipush 111, 2) := by decide +kernel
theorem dX10_wordOf_113 : decode cX10_wordOf 113 = .ok (.bipush 119, 2) := by decide +kernel
theorem dX10_wordOf_115 : decode cX10_wordOf 115 = .ok (.bipush 101, 2) := by decide +kernel
theorem dX10_wordOf_117 : decode cX10_wordOf 117 = .ok (.bipush 115, 2) := by decide +kernel
theorem dX10_wordOf_119 : decode cX10_wordOf 119 = .ok (.invokestatic 133, 3) := by decide +kernel
theorem dX10_wordOf_122 : decode cX10_wordOf 122 = .ok (.lreturn, 1) := by decide +kernel
theorem dX10_wordOf_123 : decode cX10_wordOf 123 = .ok (.bipush 109, 2) := by decide +kernel
theorem dX10_wordOf_125 : decode cX10_wordOf 125 = .ok (.bipush 105, 2) := by decide +kernel
theorem dX10_wordOf_127 : decode cX10_wordOf 127 = .ok (.bipush 110, 2) := by decide +kernel
theorem dX10_wordOf_129 : decode cX10_wordOf 129 = .ok (.bipush 116, 2) := by decide +kernel
theorem dX10_wordOf_131 : decode cX10_wordOf 131 = .ok (.invokestatic 133, 3) := by decide +kernel
theorem dX10_wordOf_134 : decode cX10_wordOf 134 = .ok (.lreturn, 1) := by decide +kernel
theorem dX10_wordOf_135 : decode cX10_wordOf 135 = .ok (.bipush 116, 2) := by decide +kernel
theorem dX10_wordOf_137 : decode cX10_wordOf 137 = .ok (.bipush 97, 2) := by decide +kernel
theorem dX10_wordOf_139 : decode cX10_wordOf 139 = .ok (.bipush 107, 2) := by decide +kernel
theorem dX10_wordOf_141 : decode cX10_wordOf 141 = .ok (.bipush 101, 2) := by decide +kernel
theorem dX10_wordOf_143 : decode cX10_wordOf 143 = .ok (.invokestatic 133, 3) := by decide +kernel
theorem dX10_wordOf_146 : decode cX10_wordOf 146 = .ok (.bipush 115, 2) := by decide +kernel
theorem dX10_wordOf_148 : decode cX10_wordOf 148 = .ok (.iconst 0, 1) := by decide +kernel
theorem dX10_wordOf_149 : decode cX10_wordOf 149 = .ok (.invokestatic 137, 3) := by decide +kernel
theorem dX10_wordOf_152 : decode cX10_wordOf 152 = .ok (.lreturn, 1) := by decide +kernel
theorem dX10_wordOf_153 : decode cX10_wordOf 153 = .ok (.bipush 108, 2) := by decide +kernel
theorem dX10_wordOf_155 : decode cX10_wordOf 155 = .ok (.bipush 117, 2) := by decide +kernel
theorem dX10_wordOf_157 : decode cX10_wordOf 157 = .ok (.bipush 99, 2) := by decide +kernel
theorem dX10_wordOf_159 : decode cX10_wordOf 159 = .ok (.bipush 107, 2) := by decide +kernel
theorem dX10_wordOf_161 : decode cX10_wordOf 161 = .ok (.invokestatic 133, 3) := by decide +kernel
theorem dX10_wordOf_164 : decode cX10_wordOf 164 = .ok (.bipush 121, 2) := by decide +kernel
theorem dX10_wordOf_166 : decode cX10_wordOf 166 = .ok (.iconst 0, 1) := by decide +kernel
theorem dX10_wordOf_167 : decode cX10_wordOf 167 = .ok (.invokestatic 137, 3) := by decide +kernel
theorem dX10_wordOf_170 : decode cX10_wordOf 170 = .ok (.lreturn, 1) := by decide +kernel
theorem dX10_wordOf_171 : decode cX10_wordOf 171 = .ok (.bipush 100, 2) := by decide +kernel
theorem dX10_wordOf_173 : decode cX10_wordOf 173 = .ok (.bipush 101, 2) := by decide +kernel
theorem dX10_wordOf_175 : decode cX10_wordOf 175 = .ok (.bipush 97, 2) := by decide +kernel
theorem dX10_wordOf_177 : decode cX10_wordOf 177 = .ok (.bipush 100, 2) := by decide +kernel
theorem dX10_wordOf_179 : decode cX10_wordOf 179 = .ok (.invokestatic 133, 3) := by decide +kernel
theorem dX10_wordOf_182 : decode cX10_wordOf 182 = .ok (.lreturn, 1) := by decide +kernel
theorem dX10_wordOf_183 : decode cX10_wordOf 183 = .ok (.bipush 116, 2) := by decide +kernel
theorem dX10_wordOf_185 : decode cX10_wordOf 185 = .ok (.bipush 104, 2) := by decide +kernel
theorem dX10_wordOf_187 : decode cX10_wordOf 187 = .ok (.bipush 105, 2) := by decide +kernel
theorem dX10_wordOf_189 : decode cX10_wordOf 189 = .ok (.bipush 110, 2) := by decide +kernel
theorem dX10_wordOf_191 : decode cX10_wordOf 191 = .ok (.invokestatic 133, 3) := by decide +kernel
theorem dX10_wordOf_194 : decode cX10_wordOf 194 = .ok (.lreturn, 1) := by decide +kernel
theorem dX10_wordOf_195 : decode cX10_wordOf 195 = .ok (.bipush 102, 2) := by decide +kernel
theorem dX10_wordOf_197 : decode cX10_wordOf 197 = .ok (.bipush 97, 2) := by decide +kernel
theorem dX10_wordOf_199 : decode cX10_wordOf 199 = .ok (.bipush 99, 2) := by decide +kernel
theorem dX10_wordOf_201 : decode cX10_wordOf 201 = .ok (.bipush 101, 2) := by decide +kernel
theorem dX10_wordOf_203 : decode cX10_wordOf 203 = .ok (.invokestatic 133, 3) := by decide +kernel
theorem dX10_wordOf_206 : decode cX10_wordOf 206 = .ok (.bipush 115, 2) := by decide +kernel
theorem dX10_wordOf_208 : decode cX10_wordOf 208 = .ok (.iconst 0, 1) := by decide +kernel
theorem dX10_wordOf_209 : decode cX10_wordOf 209 = .ok (.invokestatic 137, 3) := by decide +kernel
theorem dX10_wordOf_212 : decode cX10_wordOf 212 = .ok (.lreturn, 1) := by decide +kernel
theorem dX10_wordOf_213 : decode cX10_wordOf 213 = .ok (.bipush 111, 2) := by decide +kernel
theorem dX10_wordOf_215 : decode cX10_wordOf 215 = .ok (.bipush 114, 2) := by decide +kernel
theorem dX10_wordOf_217 : decode cX10_wordOf 217 = .ok (.iconst 0, 1) := by decide +kernel
theorem dX10_wordOf_218 : decode cX10_wordOf 218 = .ok (.iconst 0, 1) := by decide +kernel
theorem dX10_wordOf_219 : decode cX10_wordOf 219 = .ok (.invokestatic 133, 3) := by decide +kernel
theorem dX10_wordOf_222 : decode cX10_wordOf 222 = .ok (.lreturn, 1) := by decide +kernel
theorem dX10_wordOf_223 : decode cX10_wordOf 223 = .ok (.bipush 97, 2) := by decide +kernel
theorem dX10_wordOf_225 : decode cX10_wordOf 225 = .ok (.bipush 110, 2) := by decide +kernel
theorem dX10_wordOf_227 : decode cX10_wordOf 227 = .ok (.bipush 100, 2) := by decide +kernel
theorem dX10_wordOf_229 : decode cX10_wordOf 229 = .ok (.iconst 0, 1) := by decide +kernel
theorem dX10_wordOf_230 : decode cX10_wordOf 230 = .ok (.invokestatic 133, 3) := by decide +kernel
theorem dX10_wordOf_233 : decode cX10_wordOf 233 = .ok (.lreturn, 1) := by decide +kernel
theorem dX10_wordOf_234 : decode cX10_wordOf 234 = .ok (.bipush 110, 2) := by decide +kernel
theorem dX10_wordOf_236 : decode cX10_wordOf 236 = .ok (.bipush 111, 2) := by decide +kernel
theorem dX10_wordOf_238 : decode cX10_wordOf 238 = .ok (.bipush 116, 2) := by decide +kernel
theorem dX10_wordOf_240 : decode cX10_wordOf 240 = .ok (.iconst 0, 1) := by decide +kernel
theorem dX10_wordOf_241 : decode cX10_wordOf 241 = .ok (.invokestatic 133, 3) := by decide +kernel
theorem dX10_wordOf_244 : decode cX10_wordOf 244 = .ok (.lreturn, 1) := by decide +kernel
theorem dX10_wordOf_245 : decode cX10_wordOf 245 = .ok (.bipush 98, 2) := by decide +kernel
theorem dX10_wordOf_247 : decode cX10_wordOf 247 = .ok (.bipush 101, 2) := by decide +kernel
theorem dX10_wordOf_249 : decode cX10_wordOf 249 = .ok (.bipush 97, 2) := by decide +kernel
theorem dX10_wordOf_251 : decode cX10_wordOf 251 = .ok (.bipush 114, 2) := by decide +kernel
theorem dX10_wordOf_253 : decode cX10_wordOf 253 = .ok (.invokestatic 133, 3) := by decide +kernel
theorem dX10_wordOf_256 : decode cX10_wordOf 256 = .ok (.bipush 115, 2) := by decide +kernel
theorem dX10_wordOf_258 : decode cX10_wordOf 258 = .ok (.iconst 0, 1) := by decide +kernel
theorem dX10_wordOf_259 : decode cX10_wordOf 259 = .ok (.invokestatic 137, 3) := by decide +kernel
theorem dX10_wordOf_262 : decode cX10_wordOf 262 = .ok (.lreturn, 1) := by decide +kernel
theorem dX10_wordOf_263 : decode cX10_wordOf 263 = .ok (.bipush 115, 2) := by decide +kernel
theorem dX10_wordOf_265 : decode cX10_wordOf 265 = .ok (.bipush 104, 2) := by decide +kernel
theorem dX10_wordOf_267 : decode cX10_wordOf 267 = .ok (.bipush 111, 2) := by decide +kernel
theorem dX10_wordOf_269 : decode cX10_wordOf 269 = .ok (.bipush 119, 2) := by decide +kernel
theorem dX10_wordOf_271 : decode cX10_wordOf 271 = .ok (.invokestatic 133, 3) := by decide +kernel
theorem dX10_wordOf_274 : decode cX10_wordOf 274 = .ok (.bipush 115, 2) := by decide +kernel
theorem dX10_wordOf_276 : decode cX10_wordOf 276 = .ok (.iconst 0, 1) := by decide +kernel
theorem dX10_wordOf_277 : decode cX10_wordOf 277 = .ok (.invokestatic 137, 3) := by decide +kernel
theorem dX10_wordOf_280 : decode cX10_wordOf 280 = .ok (.lreturn, 1) := by decide +kernel
theorem dX10_wordOf_281 : decode cX10_wordOf 281 = .ok (.bipush 104, 2) := by decide +kernel
theorem dX10_wordOf_283 : decode cX10_wordOf 283 = .ok (.bipush 101, 2) := by decide +kernel
theorem dX10_wordOf_285 : decode cX10_wordOf 285 = .ok (.bipush 108, 2) := by decide +kernel
theorem dX10_wordOf_287 : decode cX10_wordOf 287 = .ok (.bipush 100, 2) := by decide +kernel
theorem dX10_wordOf_289 : decode cX10_wordOf 289 = .ok (.invokestatic 133, 3) := by decide +kernel
theorem dX10_wordOf_292 : decode cX10_wordOf 292 = .ok (.lreturn, 1) := by decide +kernel
theorem dX10_wordOf_293 : decode cX10_wordOf 293 = .ok (.bipush 102, 2) := by decide +kernel
theorem dX10_wordOf_295 : decode cX10_wordOf 295 = .ok (.bipush 97, 2) := by decide +kernel
theorem dX10_wordOf_297 : decode cX10_wordOf 297 = .ok (.bipush 108, 2) := by decide +kernel
theorem dX10_wordOf_299 : decode cX10_wordOf 299 = .ok (.bipush 115, 2) := by decide +kernel
theorem dX10_wordOf_301 : decode cX10_wordOf 301 = .ok (.invokestatic 133, 3) := by decide +kernel
theorem dX10_wordOf_304 : decode cX10_wordOf 304 = .ok (.bipush 101, 2) := by decide +kernel
theorem dX10_wordOf_306 : decode cX10_wordOf 306 = .ok (.iconst 0, 1) := by decide +kernel
theorem dX10_wordOf_307 : decode cX10_wordOf 307 = .ok (.invokestatic 137, 3) := by decide +kernel
theorem dX10_wordOf_310 : decode cX10_wordOf 310 = .ok (.lreturn, 1) := by decide +kernel
theorem dX10_wordOf_311 : decode cX10_wordOf 311 = .ok (.bipush 103, 2) := by decide +kernel
theorem dX10_wordOf_313 : decode cX10_wordOf 313 = .ok (.bipush 114, 2) := by decide +kernel
theorem dX10_wordOf_315 : decode cX10_wordOf 315 = .ok (.bipush 97, 2) := by decide +kernel
theorem dX10_wordOf_317 : decode cX10_wordOf 317 = .ok (.bipush 105, 2) := by decide +kernel
theorem dX10_wordOf_319 : decode cX10_wordOf 319 = .ok (.invokestatic 133, 3) := by decide +kernel
theorem dX10_wordOf_322 : decode cX10_wordOf 322 = .ok (.bipush 110, 2) := by decide +kernel
theorem dX10_wordOf_324 : decode cX10_wordOf 324 = .ok (.bipush 115, 2) := by decide +kernel
theorem dX10_wordOf_326 : decode cX10_wordOf 326 = .ok (.invokestatic 137, 3) := by decide +kernel
theorem dX10_wordOf_329 : decode cX10_wordOf 329 = .ok (.lreturn, 1) := by decide +kernel
theorem dX10_wordOf_330 : decode cX10_wordOf 330 = .ok (.bipush 108, 2) := by decide +kernel
theorem dX10_wordOf_332 : decode cX10_wordOf 332 = .ok (.bipush 97, 2) := by decide +kernel
theorem dX10_wordOf_334 : decode cX10_wordOf 334 = .ok (.bipush 121, 2) := by decide +kernel
theorem dX10_wordOf_336 : decode cX10_wordOf 336 = .ok (.bipush 101, 2) := by decide +kernel
theorem dX10_wordOf_338 : decode cX10_wordOf 338 = .ok (.invokestatic 133, 3) := by decide +kernel
theorem dX10_wordOf_341 : decode cX10_wordOf 341 = .ok (.bipush 114, 2) := by decide +kernel
theorem dX10_wordOf_343 : decode cX10_wordOf 343 = .ok (.bipush 115, 2) := by decide +kernel
theorem dX10_wordOf_345 : decode cX10_wordOf 345 = .ok (.invokestatic 137, 3) := by decide +kernel
theorem dX10_wordOf_348 : decode cX10_wordOf 348 = .ok (.lreturn, 1) := by decide +kernel
theorem dX10_wordOf_349 : decode cX10_wordOf 349 = .ok (.bipush 115, 2) := by decide +kernel
theorem dX10_wordOf_351 : decode cX10_wordOf 351 = .ok (.bipush 116, 2) := by decide +kernel
theorem dX10_wordOf_353 : decode cX10_wordOf 353 = .ok (.bipush 114, 2) := by decide +kernel
theorem dX10_wordOf_355 : decode cX10_wordOf 355 = .ok (.bipush 117, 2) := by decide +kernel
theorem dX10_wordOf_357 : decode cX10_wordOf 357 = .ok (.invokestatic 133, 3) := by decide +kernel
theorem dX10_wordOf_360 : decode cX10_wordOf 360 = .ok (.bipush 99, 2) := by decide +kernel
theorem dX10_wordOf_362 : decode cX10_wordOf 362 = .ok (.bipush 107, 2) := by decide +kernel
theorem dX10_wordOf_364 : decode cX10_wordOf 364 = .ok (.invokestatic 137, 3) := by decide +kernel
theorem dX10_wordOf_367 : decode cX10_wordOf 367 = .ok (.lreturn, 1) := by decide +kernel
theorem dX10_isWord_0 : decode cX10_isWord 0 = .ok (.aload_n 0, 1) := by decide +kernel
theorem dX10_isWord_1 : decode cX10_isWord 1 = .ok (.getfield 105, 3) := by decide +kernel
theorem dX10_isWord_4 : decode cX10_isWord 4 = .ok (.iconst 2, 1) := by decide +kernel
theorem dX10_isWord_5 : decode cX10_isWord 5 = .ok (.if_icmp .ne 19, 3) := by decide +kernel
theorem dX10_isWord_8 : decode cX10_isWord 8 = .ok (.aload_n 0, 1) := by decide +kernel
theorem dX10_isWord_9 : decode cX10_isWord 9 = .ok (.getfield 118, 3) := by decide +kernel
theorem dX10_isWord_12 : decode cX10_isWord 12 = .ok (.iload_n 1, 1) := by decide +kernel
theorem dX10_isWord_13 : decode cX10_isWord 13 = .ok (.invokestatic 141, 3) := by decide +kernel
theorem dX10_isWord_16 : decode cX10_isWord 16 = .ok (.lcmp, 1) := by decide +kernel
theorem dX10_isWord_17 : decode cX10_isWord 17 = .ok (.ifCond .ne 7, 3) := by decide +kernel
theorem dX10_isWord_20 : decode cX10_isWord 20 = .ok (.iconst 1, 1) := by decide +kernel
theorem dX10_isWord_21 : decode cX10_isWord 21 = .ok (.goto 4, 3) := by decide +kernel
theorem dX10_isWord_24 : decode cX10_isWord 24 = .ok (.iconst 0, 1) := by decide +kernel
theorem dX10_isWord_25 : decode cX10_isWord 25 = .ok (.ireturn, 1) := by decide +kernel
theorem dX10_isSign_0 : decode cX10_isSign 0 = .ok (.aload_n 0, 1) := by decide +kernel
theorem dX10_isSign_1 : decode cX10_isSign 1 = .ok (.getfield 105, 3) := by decide +kernel
theorem dX10_isSign_4 : decode cX10_isSign 4 = .ok (.iconst 4, 1) := by decide +kernel
theorem dX10_isSign_5 : decode cX10_isSign 5 = .ok (.if_icmp .ne 15, 3) := by decide +kernel
theorem dX10_isSign_8 : decode cX10_isSign 8 = .ok (.aload_n 0, 1) := by decide +kernel
theorem dX10_isSign_9 : decode cX10_isSign 9 = .ok (.getfield 115, 3) := by decide +kernel
theorem dX10_isSign_12 : decode cX10_isSign 12 = .ok (.iload_n 1, 1) := by decide +kernel
theorem dX10_isSign_13 : decode cX10_isSign 13 = .ok (.if_icmp .ne 7, 3) := by decide +kernel
theorem dX10_isSign_16 : decode cX10_isSign 16 = .ok (.iconst 1, 1) := by decide +kernel
theorem dX10_isSign_17 : decode cX10_isSign 17 = .ok (.goto 4, 3) := by decide +kernel
theorem dX10_isSign_20 : decode cX10_isSign 20 = .ok (.iconst 0, 1) := by decide +kernel
theorem dX10_isSign_21 : decode cX10_isSign 21 = .ok (.ireturn, 1) := by decide +kernel
theorem dX10_isName_0 : decode cX10_isName 0 = .ok (.aload_n 0, 1) := by decide +kernel
theorem dX10_isName_1 : decode cX10_isName 1 = .ok (.getfield 105, 3) := by decide +kernel
theorem dX10_isName_4 : decode cX10_isName 4 = .ok (.iconst 2, 1) := by decide +kernel
theorem dX10_isName_5 : decode cX10_isName 5 = .ok (.if_icmp .eq 5, 3) := by decide +kernel
theorem dX10_isName_8 : decode cX10_isName 8 = .ok (.iconst 0, 1) := by decide +kernel
theorem dX10_isName_9 : decode cX10_isName 9 = .ok (.ireturn, 1) := by decide +kernel
theorem dX10_isName_10 : decode cX10_isName 10 = .ok (.iconst 0, 1) := by decide +kernel
theorem dX10_isName_11 : decode cX10_isName 11 = .ok (.istore_n 1, 1) := by decide +kernel
theorem dX10_isName_12 : decode cX10_isName 12 = .ok (.iload_n 1, 1) := by decide +kernel
theorem dX10_isName_13 : decode cX10_isName 13 = .ok (.bipush 18, 2) := by decide +kernel
theorem dX10_isName_15 : decode cX10_isName 15 = .ok (.if_icmp .gt 23, 3) := by decide +kernel
theorem dX10_isName_18 : decode cX10_isName 18 = .ok (.aload_n 0, 1) := by decide +kernel
theorem dX10_isName_19 : decode cX10_isName 19 = .ok (.getfield 118, 3) := by decide +kernel
theorem dX10_isName_22 : decode cX10_isName 22 = .ok (.iload_n 1, 1) := by decide +kernel
theorem dX10_isName_23 : decode cX10_isName 23 = .ok (.invokestatic 141, 3) := by decide +kernel
theorem dX10_isName_26 : decode cX10_isName 26 = .ok (.lcmp, 1) := by decide +kernel
theorem dX10_isName_27 : decode cX10_isName 27 = .ok (.ifCond .ne 5, 3) := by decide +kernel
theorem dX10_isName_30 : decode cX10_isName 30 = .ok (.iconst 0, 1) := by decide +kernel
theorem dX10_isName_31 : decode cX10_isName 31 = .ok (.ireturn, 1) := by decide +kernel
theorem dX10_isName_32 : decode cX10_isName 32 = .ok (.iinc 1 1, 3) := by decide +kernel
theorem dX10_isName_35 : decode cX10_isName 35 = .ok (.goto (-23), 3) := by decide +kernel
theorem dX10_isName_38 : decode cX10_isName 38 = .ok (.iconst 1, 1) := by decide +kernel
theorem dX10_isName_39 : decode cX10_isName 39 = .ok (.ireturn, 1) := by decide +kernel
theorem dX10_bad_0 : decode cX10_bad 0 = .ok (.aload_n 0, 1) := by decide +kernel
theorem dX10_bad_1 : decode cX10_bad 1 = .ok (.aload_n 0, 1) := by decide +kernel
theorem dX10_bad_2 : decode cX10_bad 2 = .ok (.getfield 105, 3) := by decide +kernel
theorem dX10_bad_5 : decode cX10_bad 5 = .ok (.iconst 1, 1) := by decide +kernel
theorem dX10_bad_6 : decode cX10_bad 6 = .ok (.if_icmp .ne 7, 3) := by decide +kernel
theorem dX10_bad_9 : decode cX10_bad 9 = .ok (.iconst 1, 1) := by decide +kernel
theorem dX10_bad_10 : decode cX10_bad 10 = .ok (.goto 4, 3) := by decide +kernel
theorem dX10_bad_13 : decode cX10_bad 13 = .ok (.iload_n 1, 1) := by decide +kernel
theorem dX10_bad_14 : decode cX10_bad 14 = .ok (.putfield 145, 3) := by decide +kernel
theorem dX10_bad_17 : decode cX10_bad 17 = .ok (.aload_n 0, 1) := by decide +kernel
theorem dX10_bad_18 : decode cX10_bad 18 = .ok (.aload_n 0, 1) := by decide +kernel
theorem dX10_bad_19 : decode cX10_bad 19 = .ok (.getfield 99, 3) := by decide +kernel
theorem dX10_bad_22 : decode cX10_bad 22 = .ok (.putfield 148, 3) := by decide +kernel
theorem dX10_bad_25 : decode cX10_bad 25 = .ok (.iconst 0, 1) := by decide +kernel
