theorem dX9_market_76 : decode cX9_market 76 = .ok (.iload 5, 2) := by decide +kernel
theorem dX9_market_78 : decode cX9_market 78 = .ok (.invokestatic 349, 3) := by decide +kernel
theorem dX9_market_81 : decode cX9_market 81 = .ok (.istore 5, 2) := by decide +kernel
theorem dX9_market_83 : decode cX9_market 83 = .ok (.iload 5, 2) := by decide +kernel
theorem dX9_market_85 : decode cX9_market 85 = .ok (.iload_n 3, 1) := by decide +kernel
theorem dX9_market_86 : decode cX9_market 86 = .ok (.invokestatic 352, 3) := by decide +kernel
theorem dX9_market_89 : decode cX9_market 89 = .ok (.istore 8, 2) := by decide +kernel
theorem dX9_market_91 : decode cX9_market 91 = .ok (.iload 5, 2) := by decide +kernel
theorem dX9_market_93 : decode cX9_market 93 = .ok (.invokestatic 349, 3) := by decide +kernel
theorem dX9_market_96 : decode cX9_market 96 = .ok (.istore 5, 2) := by decide +kernel
theorem dX9_market_98 : decode cX9_market 98 = .ok (.iload 5, 2) := by decide +kernel
theorem dX9_market_100 : decode cX9_market 100 = .ok (.iload_n 3, 1) := by decide +kernel
theorem dX9_market_101 : decode cX9_market 101 = .ok (.invokestatic 352, 3) := by decide +kernel
theorem dX9_market_104 : decode cX9_market 104 = .ok (.istore 9, 2) := by decide +kernel
theorem dX9_market_106 : decode cX9_market 106 = .ok (.iload 9, 2) := by decide +kernel
theorem dX9_market_108 : decode cX9_market 108 = .ok (.iload 8, 2) := by decide +kernel
theorem dX9_market_110 : decode cX9_market 110 = .ok (.if_icmp .ne 21, 3) := by decide +kernel
theorem dX9_market_113 : decode cX9_market 113 = .ok (.iload 9, 2) := by decide +kernel
theorem dX9_market_115 : decode cX9_market 115 = .ok (.iconst 1, 1) := by decide +kernel
theorem dX9_market_116 : decode cX9_market 116 = .ok (.iadd, 1) := by decide +kernel
theorem dX9_market_117 : decode cX9_market 117 = .ok (.iload_n 3, 1) := by decide +kernel
theorem dX9_market_118 : decode cX9_market 118 = .ok (.if_icmp .ge 10, 3) := by decide +kernel
theorem dX9_market_121 : decode cX9_market 121 = .ok (.iload 9, 2) := by decide +kernel
theorem dX9_market_123 : decode cX9_market 123 = .ok (.iconst 1, 1) := by decide +kernel
theorem dX9_market_124 : decode cX9_market 124 = .ok (.iadd, 1) := by decide +kernel
theorem dX9_market_125 : decode cX9_market 125 = .ok (.goto 4, 3) := by decide +kernel
theorem dX9_market_128 : decode cX9_market 128 = .ok (.iconst 0, 1) := by decide +kernel
theorem dX9_market_129 : decode cX9_market 129 = .ok (.istore 9, 2) := by decide +kernel
theorem dX9_market_131 : decode cX9_market 131 = .ok (.iload 5, 2) := by decide +kernel
theorem dX9_market_133 : decode cX9_market 133 = .ok (.invokestatic 349, 3) := by decide +kernel
theorem dX9_market_136 : decode cX9_market 136 = .ok (.istore 5, 2) := by decide +kernel
theorem dX9_market_138 : decode cX9_market 138 = .ok (.iload 5, 2) := by decide +kernel
theorem dX9_market_140 : decode cX9_market 140 = .ok (.iload 4, 2) := by decide +kernel
theorem dX9_market_142 : decode cX9_market 142 = .ok (.invokestatic 352, 3) := by decide +kernel
theorem dX9_market_145 : decode cX9_market 145 = .ok (.istore 10, 2) := by decide +kernel
theorem dX9_market_147 : decode cX9_market 147 = .ok (.iload 5, 2) := by decide +kernel
theorem dX9_market_149 : decode cX9_market 149 = .ok (.invokestatic 349, 3) := by decide +kernel
theorem dX9_market_152 : decode cX9_market 152 = .ok (.istore 5, 2) := by decide +kernel
theorem dX9_market_154 : decode cX9_market 154 = .ok (.aload_n 0, 1) := by decide +kernel
theorem dX9_market_155 : decode cX9_market 155 = .ok (.iload 8, 2) := by decide +kernel
theorem dX9_market_157 : decode cX9_market 157 = .ok (.iload 9, 2) := by decide +kernel
theorem dX9_market_159 : decode cX9_market 159 = .ok (.iload 10, 2) := by decide +kernel
theorem dX9_market_161 : decode cX9_market 161 = .ok (.iload 5, 2) := by decide +kernel
theorem dX9_market_163 : decode cX9_market 163 = .ok (.sipush 200, 3) := by decide +kernel
theorem dX9_market_166 : decode cX9_market 166 = .ok (.invokestatic 352, 3) := by decide +kernel
theorem dX9_market_169 : decode cX9_market 169 = .ok (.iconst 1, 1) := by decide +kernel
theorem dX9_market_170 : decode cX9_market 170 = .ok (.iadd, 1) := by decide +kernel
theorem dX9_market_171 : decode cX9_market 171 = .ok (.invokevirtual 355, 3) := by decide +kernel
theorem dX9_market_174 : decode cX9_market 174 = .ok (.ifCond .eq 6, 3) := by decide +kernel
theorem dX9_market_177 : decode cX9_market 177 = .ok (.iinc 6 1, 3) := by decide +kernel
theorem dX9_market_180 : decode cX9_market 180 = .ok (.iinc 7 1, 3) := by decide +kernel
theorem dX9_market_183 : decode cX9_market 183 = .ok (.goto (-113), 3) := by decide +kernel
theorem dX9_market_186 : decode cX9_market 186 = .ok (.iload 6, 2) := by decide +kernel
theorem dX9_market_188 : decode cX9_market 188 = .ok (.ireturn, 1) := by decide +kernel
theorem dX9_nextSeed_0 : decode cX9_nextSeed 0 = .ok (.iload_n 0, 1) := by decide +kernel
theorem dX9_nextSeed_1 : decode cX9_nextSeed 1 = .ok (.ldc_w 358, 3) := by decide +kernel
theorem dX9_nextSeed_4 : decode cX9_nextSeed 4 = .ok (.imul, 1) := by decide +kernel
theorem dX9_nextSeed_5 : decode cX9_nextSeed 5 = .ok (.sipush 12345, 3) := by decide +kernel
theorem dX9_nextSeed_8 : decode cX9_nextSeed 8 = .ok (.iadd, 1) := by decide +kernel
theorem dX9_nextSeed_9 : decode cX9_nextSeed 9 = .ok (.ireturn, 1) := by decide +kernel
theorem dX9_drawn_0 : decode cX9_drawn 0 = .ok (.iload_n 1, 1) := by decide +kernel
theorem dX9_drawn_1 : decode cX9_drawn 1 = .ok (.ifCond .le 12, 3) := by decide +kernel
theorem dX9_drawn_4 : decode cX9_drawn 4 = .ok (.iload_n 0, 1) := by decide +kernel
theorem dX9_drawn_5 : decode cX9_drawn 5 = .ok (.bipush 8, 2) := by decide +kernel
theorem dX9_drawn_7 : decode cX9_drawn 7 = .ok (.iushr, 1) := by decide +kernel
theorem dX9_drawn_8 : decode cX9_drawn 8 = .ok (.iload_n 1, 1) := by decide +kernel
theorem dX9_drawn_9 : decode cX9_drawn 9 = .ok (.irem, 1) := by decide +kernel
theorem dX9_drawn_10 : decode cX9_drawn 10 = .ok (.goto 4, 3) := by decide +kernel
theorem dX9_drawn_13 : decode cX9_drawn 13 = .ok (.iconst 0, 1) := by decide +kernel
theorem dX9_drawn_14 : decode cX9_drawn 14 = .ok (.ireturn, 1) := by decide +kernel
theorem dX9_trade_0 : decode cX9_trade 0 = .ok (.aload_n 0, 1) := by decide +kernel
theorem dX9_trade_1 : decode cX9_trade 1 = .ok (.iload_n 1, 1) := by decide +kernel
theorem dX9_trade_2 : decode cX9_trade 2 = .ok (.iload_n 2, 1) := by decide +kernel
theorem dX9_trade_3 : decode cX9_trade 3 = .ok (.iload_n 3, 1) := by decide +kernel
theorem dX9_trade_4 : decode cX9_trade 4 = .ok (.iload 4, 2) := by decide +kernel
theorem dX9_trade_6 : decode cX9_trade 6 = .ok (.invokevirtual 265, 3) := by decide +kernel
theorem dX9_trade_9 : decode cX9_trade 9 = .ok (.ifCond .ne 5, 3) := by decide +kernel
theorem dX9_trade_12 : decode cX9_trade 12 = .ok (.iconst 0, 1) := by decide +kernel
theorem dX9_trade_13 : decode cX9_trade 13 = .ok (.ireturn, 1) := by decide +kernel
theorem dX9_trade_14 : decode cX9_trade 14 = .ok (.aload_n 0, 1) := by decide +kernel
theorem dX9_trade_15 : decode cX9_trade 15 = .ok (.getfield 51, 3) := by decide +kernel
theorem dX9_trade_18 : decode cX9_trade 18 = .ok (.aload_n 0, 1) := by decide +kernel
theorem dX9_trade_19 : decode cX9_trade 19 = .ok (.getfield 33, 3) := by decide +kernel
theorem dX9_trade_22 : decode cX9_trade 22 = .ok (.iload_n 1, 1) := by decide +kernel
theorem dX9_trade_23 : decode cX9_trade 23 = .ok (.iload_n 2, 1) := by decide +kernel
theorem dX9_trade_24 : decode cX9_trade 24 = .ok (.iload_n 3, 1) := by decide +kernel
theorem dX9_trade_25 : decode cX9_trade 25 = .ok (.iload 4, 2) := by decide +kernel
theorem dX9_trade_27 : decode cX9_trade 27 = .ok (.invokevirtual 269, 3) := by decide +kernel
theorem dX9_trade_30 : decode cX9_trade 30 = .ok (.iconst (-1), 1) := by decide +kernel
theorem dX9_trade_31 : decode cX9_trade 31 = .ok (.if_icmp .ne 5, 3) := by decide +kernel
theorem dX9_trade_34 : decode cX9_trade 34 = .ok (.iconst 0, 1) := by decide +kernel
theorem dX9_trade_35 : decode cX9_trade 35 = .ok (.ireturn, 1) := by decide +kernel
theorem dX9_trade_36 : decode cX9_trade 36 = .ok (.aload_n 0, 1) := by decide +kernel
theorem dX9_trade_37 : decode cX9_trade 37 = .ok (.getfield 33, 3) := by decide +kernel
theorem dX9_trade_40 : decode cX9_trade 40 = .ok (.invokevirtual 167, 3) := by decide +kernel
theorem dX9_trade_43 : decode cX9_trade 43 = .ok (.aload_n 0, 1) := by decide +kernel
theorem dX9_trade_44 : decode cX9_trade 44 = .ok (.getfield 51, 3) := by decide +kernel
theorem dX9_trade_47 : decode cX9_trade 47 = .ok (.invokevirtual 285, 3) := by decide +kernel
theorem dX9_trade_50 : decode cX9_trade 50 = .ok (.if_icmp .ge 5, 3) := by decide +kernel
theorem dX9_trade_53 : decode cX9_trade 53 = .ok (.iconst 0, 1) := by decide +kernel
theorem dX9_trade_54 : decode cX9_trade 54 = .ok (.ireturn, 1) := by decide +kernel
theorem dX9_trade_55 : decode cX9_trade 55 = .ok (.aload_n 0, 1) := by decide +kernel
theorem dX9_trade_56 : decode cX9_trade 56 = .ok (.getfield 51, 3) := by decide +kernel
theorem dX9_trade_59 : decode cX9_trade 59 = .ok (.aload_n 0, 1) := by decide +kernel
theorem dX9_trade_60 : decode cX9_trade 60 = .ok (.getfield 33, 3) := by decide +kernel
theorem dX9_trade_63 : decode cX9_trade 63 = .ok (.iload_n 1, 1) := by decide +kernel
theorem dX9_trade_64 : decode cX9_trade 64 = .ok (.iload_n 2, 1) := by decide +kernel
theorem dX9_trade_65 : decode cX9_trade 65 = .ok (.iload_n 3, 1) := by decide +kernel
theorem dX9_trade_66 : decode cX9_trade 66 = .ok (.iload 4, 2) := by decide +kernel
theorem dX9_trade_68 : decode cX9_trade 68 = .ok (.invokevirtual 288, 3) := by decide +kernel
theorem dX9_trade_71 : decode cX9_trade 71 = .ok (.iconst 1, 1) := by decide +kernel
theorem dX9_trade_72 : decode cX9_trade 72 = .ok (.ireturn, 1) := by decide +kernel
theorem dX9_undo_0 : decode cX9_undo 0 = .ok (.aload_n 0, 1) := by decide +kernel
theorem dX9_undo_1 : decode cX9_undo 1 = .ok (.getfield 40, 3) := by decide +kernel
theorem dX9_undo_4 : decode cX9_undo 4 = .ok (.aload_n 0, 1) := by decide +kernel
theorem dX9_undo_5 : decode cX9_undo 5 = .ok (.getfield 33, 3) := by decide +kernel
theorem dX9_undo_8 : decode cX9_undo 8 = .ok (.getfield 117, 3) := by decide +kernel
theorem dX9_undo_11 : decode cX9_undo 11 = .ok (.invokevirtual 359, 3) := by decide +kernel
theorem dX9_undo_14 : decode cX9_undo 14 = .ok (.ireturn, 1) := by decide +kernel
theorem dX9_sentence_0 : decode cX9_sentence 0 = .ok (.aload_n 0, 1) := by decide +kernel
theorem dX9_sentence_1 : decode cX9_sentence 1 = .ok (.getfield 10, 3) := by decide +kernel
theorem dX9_sentence_4 : decode cX9_sentence 4 = .ok (.sipush 200, 3) := by decide +kernel
theorem dX9_sentence_7 : decode cX9_sentence 7 = .ok (.invokevirtual 74, 3) := by decide +kernel
theorem dX9_sentence_10 : decode cX9_sentence 10 = .ok (.aload_n 0, 1) := by decide +kernel
theorem dX9_sentence_11 : decode cX9_sentence 11 = .ok (.aload_n 0, 1) := by decide +kernel
theorem dX9_sentence_12 : decode cX9_sentence 12 = .ok (.getfield 26, 3) := by decide +kernel
theorem dX9_sentence_15 : decode cX9_sentence 15 = .ok (.aload_n 0, 1) := by decide +kernel
theorem dX9_sentence_16 : decode cX9_sentence 16 = .ok (.getfield 10, 3) := by decide +kernel
theorem dX9_sentence_19 : decode cX9_sentence 19 = .ok (.aload_n 0, 1) := by decide +kernel
theorem dX9_sentence_20 : decode cX9_sentence 20 = .ok (.getfield 33, 3) := by decide +kernel
theorem dX9_sentence_23 : decode cX9_sentence 23 = .ok (.getfield 108, 3) := by decide +kernel
theorem dX9_sentence_26 : decode cX9_sentence 26 = .ok (.invokevirtual 363, 3) := by decide +kernel
theorem dX9_sentence_29 : decode cX9_sentence 29 = .ok (.putfield 81, 3) := by decide +kernel
theorem dX9_sentence_32 : decode cX9_sentence 32 = .ok (.aload_n 0, 1) := by decide +kernel
theorem dX9_sentence_33 : decode cX9_sentence 33 = .ok (.getfield 10, 3) := by decide +kernel
theorem dX9_sentence_36 : decode cX9_sentence 36 = .ok (.iconst 0, 1) := by decide +kernel
theorem dX9_sentence_37 : decode cX9_sentence 37 = .ok (.putfield 66, 3) := by decide +kernel
theorem dX9_sentence_40 : decode cX9_sentence 40 = .ok (.aload_n 0, 1) := by decide +kernel
theorem dX9_sentence_41 : decode cX9_sentence 41 = .ok (.getfield 81, 3) := by decide +kernel
theorem dX9_sentence_44 : decode cX9_sentence 44 = .ok (.ifCond .eq 13, 3) := by decide +kernel
theorem dX9_sentence_47 : decode cX9_sentence 47 = .ok (.iconst (-1), 1) := by decide +kernel
theorem dX9_sentence_48 : decode cX9_sentence 48 = .ok (.aload_n 0, 1) := by decide +kernel
theorem dX9_sentence_49 : decode cX9_sentence 49 = .ok (.getfield 10, 3) := by decide +kernel
theorem dX9_sentence_52 : decode cX9_sentence 52 = .ok (.getfield 84, 3) := by decide +kernel
theorem dX9_sentence_55 : decode cX9_sentence 55 = .ok (.isub, 1) := by decide +kernel
theorem dX9_sentence_56 : decode cX9_sentence 56 = .ok (.ireturn, 1) := by decide +kernel
theorem dX9_sentence_57 : decode cX9_sentence 57 = .ok (.aload_n 0, 1) := by decide +kernel
theorem dX9_sentence_58 : decode cX9_sentence 58 = .ok (.getfield 33, 3) := by decide +kernel
theorem dX9_sentence_61 : decode cX9_sentence 61 = .ok (.getfield 366, 3) := by decide +kernel
theorem dX9_sentence_64 : decode cX9_sentence 64 = .ok (.aload_n 0, 1) := by decide +kernel
theorem dX9_sentence_65 : decode cX9_sentence 65 = .ok (.getfield 26, 3) := by decide +kernel
theorem dX9_sentence_68 : decode cX9_sentence 68 = .ok (.invokevirtual 369, 3) := by decide +kernel
theorem dX9_sentence_71 : decode cX9_sentence 71 = .ok (.aload_n 0, 1) := by decide +kernel
theorem dX9_sentence_72 : decode cX9_sentence 72 = .ok (.getfield 26, 3) := by decide +kernel
theorem dX9_sentence_75 : decode cX9_sentence 75 = .ok (.getfield 373, 3) := by decide +kernel
theorem dX9_sentence_78 : decode cX9_sentence 78 = .ok (.ireturn, 1) := by decide +kernel
theorem dX9_said_0 : decode cX9_said 0 = .ok (.aload_n 0, 1) := by decide +kernel
theorem dX9_said_1 : decode cX9_said 1 = .ok (.getfield 33, 3) := by decide +kernel
theorem dX9_said_4 : decode cX9_said 4 = .ok (.getfield 366, 3) := by decide +kernel
theorem dX9_said_7 : decode cX9_said 7 = .ok (.getfield 373, 3) := by decide +kernel
theorem dX9_said_10 : decode cX9_said 10 = .ok (.ifCond .ne 5, 3) := by decide +kernel
theorem dX9_said_13 : decode cX9_said 13 = .ok (.iconst (-1), 1) := by decide +kernel
theorem dX9_said_14 : decode cX9_said 14 = .ok (.ireturn, 1) := by decide +kernel
theorem dX9_said_15 : decode cX9_said 15 = .ok (.iconst 0, 1) := by decide +kernel
theorem dX9_said_16 : decode cX9_said 16 = .ok (.istore_n 2, 1) := by decide +kernel
theorem dX9_said_17 : decode cX9_said 17 = .ok (.iconst 0, 1) := by decide +kernel
theorem dX9_said_18 : decode cX9_said 18 = .ok (.istore_n 3, 1) := by decide +kernel
theorem dX9_said_19 : decode cX9_said 19 = .ok (.iload_n 3, 1) := by decide +kernel
theorem dX9_said_20 : decode cX9_said 20 = .ok (.aload_n 0, 1) := by decide +kernel
theorem dX9_said_21 : decode cX9_said 21 = .ok (.getfield 33, 3) := by decide +kernel
theorem dX9_said_24 : decode cX9_said 24 = .ok (.getfield 117, 3) := by decide +kernel
theorem dX9_said_27 : decode cX9_said 27 = .ok (.getfield 164, 3) := by decide +kernel
theorem dX9_said_30 : decode cX9_said 30 = .ok (.if_icmp .ge 43, 3) := by decide +kernel
theorem dX9_said_33 : decode cX9_said 33 = .ok (.iload_n 3, 1) := by decide +kernel
theorem dX9_said_34 : decode cX9_said 34 = .ok (.bipush 40, 2) := by decide +kernel
theorem dX9_said_36 : decode cX9_said 36 = .ok (.if_icmp .ge 37, 3) := by decide +kernel
theorem dX9_said_39 : decode cX9_said 39 = .ok (.aload_n 0, 1) := by decide +kernel
theorem dX9_said_40 : decode cX9_said 40 = .ok (.getfield 33, 3) := by decide +kernel
theorem dX9_said_43 : decode cX9_said 43 = .ok (.getfield 366, 3) := by decide +kernel
theorem dX9_said_46 : decode cX9_said 46 = .ok (.aload_n 0, 1) := by decide +kernel
theorem dX9_said_47 : decode cX9_said 47 = .ok (.getfield 33, 3) := by decide +kernel
theorem dX9_said_50 : decode cX9_said 50 = .ok (.iload_n 3, 1) := by decide +kernel
theorem dX9_said_51 : decode cX9_said 51 = .ok (.invokevirtual 376, 3) := by decide +kernel
theorem dX9_said_54 : decode cX9_said 54 = .ok (.ifCond .eq 13, 3) := by decide +kernel
theorem dX9_said_57 : decode cX9_said 57 = .ok (.iload_n 2, 1) := by decide +kernel
theorem dX9_said_58 : decode cX9_said 58 = .ok (.iload_n 1, 1) := by decide +kernel
theorem dX9_said_59 : decode cX9_said 59 = .ok (.if_icmp .ne 5, 3) := by decide +kernel
theorem dX9_said_62 : decode cX9_said 62 = .ok (.iload_n 3, 1) := by decide +kernel
theorem dX9_said_63 : decode cX9_said 63 = .ok (.ireturn, 1) := by decide +kernel
theorem dX9_said_64 : decode cX9_said 64 = .ok (.iinc 2 1, 3) := by decide +kernel
theorem dX9_said_67 : decode cX9_said 67 = .ok (.iinc 3 1, 3) := by decide +kernel
theorem dX9_said_70 : decode cX9_said 70 = .ok (.goto (-51), 3) := by decide +kernel
theorem dX9_said_73 : decode cX9_said 73 = .ok (.iload_n 1, 1) := by decide +kernel
theorem dX9_said_74 : decode cX9_said 74 = .ok (.iconst (-1), 1) := by decide +kernel
theorem dX9_said_75 : decode cX9_said 75 = .ok (.if_icmp .ne 7, 3) := by decide +kernel
theorem dX9_said_78 : decode cX9_said 78 = .ok (.iload_n 2, 1) := by decide +kernel
theorem dX9_said_79 : decode cX9_said 79 = .ok (.goto 4, 3) := by decide +kernel
theorem dX9_said_82 : decode cX9_said 82 = .ok (.iconst (-1), 1) := by decide +kernel
theorem dX9_said_83 : decode cX9_said 83 = .ok (.ireturn, 1) := by decide +kernel
theorem dX9_image_0 : decode cX9_image 0 = .ok (.iload_n 1, 1) := by decide +kernel
theorem dX9_image_1 : decode cX9_image 1 = .ok (.ifCond .lt 12, 3) := by decide +kernel
theorem dX9_image_4 : decode cX9_image 4 = .ok (.iload_n 1, 1) := by decide +kernel
theorem dX9_image_5 : decode cX9_image 5 = .ok (.aload_n 0, 1) := by decide +kernel
theorem dX9_image_6 : decode cX9_image 6 = .ok (.getfield 44, 3) := by decide +kernel
theorem dX9_image_9 : decode cX9_image 9 = .ok (.arraylength, 1) := by decide +kernel
theorem dX9_image_10 : decode cX9_image 10 = .ok (.if_icmp .lt 5, 3) := by decide +kernel
theorem dX9_image_13 : decode cX9_image 13 = .ok (.iconst 0, 1) := by decide +kernel
theorem dX9_image_14 : decode cX9_image 14 = .ok (.ireturn, 1) := by decide +kernel
theorem dX9_image_15 : decode cX9_image 15 = .ok (.aload_n 0, 1) := by decide +kernel
theorem dX9_image_16 : decode cX9_image 16 = .ok (.getfield 44, 3) := by decide +kernel
theorem dX9_image_19 : decode cX9_image 19 = .ok (.iload_n 1, 1) := by decide +kernel
theorem dX9_image_20 : decode cX9_image 20 = .ok (.aaload, 1) := by decide +kernel
theorem dX9_image_21 : decode cX9_image 21 = .ok (.ifnonnull 16, 3) := by decide +kernel
theorem dX9_image_24 : decode cX9_image 24 = .ok (.aload_n 0, 1) := by decide +kernel
theorem dX9_image_25 : decode cX9_image 25 = .ok (.getfield 44, 3) := by decide +kernel
theorem dX9_image_28 : decode cX9_image 28 = .ok (.iload_n 1, 1) := by decide +kernel
theorem dX9_image_29 : decode cX9_image 29 = .ok (.new 30, 3) := by decide +kernel
theorem dX9_image_32 : decode cX9_image 32 = .ok (.dup, 1) := by decide +kernel
theorem dX9_image_33 : decode cX9_image 33 = .ok (.invokespecial 32, 3) := by decide +kernel
theorem dX9_image_36 : decode cX9_image 36 = .ok (.aastore, 1) := by decide +kernel
theorem dX9_image_37 : decode cX9_image 37 = .ok (.aload_n 0, 1) := by decide +kernel
theorem dX9_image_38 : decode cX9_image 38 = .ok (.getfield 44, 3) := by decide +kernel
theorem dX9_image_41 : decode cX9_image 41 = .ok (.iload_n 1, 1) := by decide +kernel
theorem dX9_image_42 : decode cX9_image 42 = .ok (.aaload, 1) := by decide +kernel
theorem dX9_image_43 : decode cX9_image 43 = .ok (.aload_n 0, 1) := by decide +kernel
theorem dX9_image_44 : decode cX9_image 44 = .ok (.getfield 33, 3) := by decide +kernel
theorem dX9_image_47 : decode cX9_image 47 = .ok (.invokevirtual 380, 3) := by decide +kernel
theorem dX9_image_50 : decode cX9_image 50 = .ok (.iconst 1, 1) := by decide +kernel
theorem dX9_image_51 : decode cX9_image 51 = .ok (.ireturn, 1) := by decide +kernel
theorem dX9_restore_0 : decode cX9_restore 0 = .ok (.iload_n 1, 1) := by decide +kernel
theorem dX9_restore_1 : decode cX9_restore 1 = .ok (.ifCond .lt 21, 3) := by decide +kernel
theorem dX9_restore_4 : decode cX9_restore 4 = .ok (.iload_n 1, 1) := by decide +kernel
theorem dX9_restore_5 : decode cX9_restore 5 = .ok (.aload_n 0, 1) := by decide +kernel
theorem dX9_restore_6 : decode cX9_restore 6 = .ok (.getfield 44, 3) := by decide +kernel
theorem dX9_restore_9 : decode cX9_restore 9 = .ok (.arraylength, 1) := by decide +kernel
theorem dX9_restore_10 : decode cX9_restore 10 = .ok (.if_icmp .ge 12, 3) := by decide +kernel
theorem dX9_restore_13 : decode cX9_restore 13 = .ok (.aload_n 0, 1) := by decide +kernel
theorem dX9_restore_14 : decode cX9_restore 14 = .ok (.getfield 44, 3) := by decide +kernel
theorem dX9_restore_17 : decode cX9_restore 17 = .ok (.iload_n 1, 1) := by decide +kernel
theorem dX9_restore_18 : decode cX9_restore 18 = .ok (.aaload, 1) := by decide +kernel
theorem dX9_restore_19 : decode cX9_restore 19 = .ok (.ifnonnull 5, 3) := by decide +kernel
theorem dX9_restore_22 : decode cX9_restore 22 = .ok (.iconst 0, 1) := by decide +kernel
theorem dX9_restore_23 : decode cX9_restore 23 = .ok (.ireturn, 1) := by decide +kernel
theorem dX9_restore_24 : decode cX9_restore 24 = .ok (.aload_n 0, 1) := by decide +kernel
theorem dX9_restore_25 : decode cX9_restore 25 = .ok (.getfield 33, 3) := by decide +kernel
theorem dX9_restore_28 : decode cX9_restore 28 = .ok (.aload_n 0, 1) := by decide +kernel
theorem dX9_restore_29 : decode cX9_restore 29 = .ok (.getfield 44, 3) := by decide +kernel
theorem dX9_restore_32 : decode cX9_restore 32 = .ok (.iload_n 1, 1) := by decide +kernel
theorem dX9_restore_33 : decode cX9_restore 33 = .ok (.aaload, 1) := by decide +kernel
theorem dX9_restore_34 : decode cX9_restore 34 = .ok (.invokevirtual 380, 3) := by decide +kernel
theorem dX9_restore_37 : decode cX9_restore 37 = .ok (.aload_n 0, 1) := by decide +kernel
theorem dX9_restore_38 : decode cX9_restore 38 = .ok (.getfield 40, 3) := by decide +kernel
theorem dX9_restore_41 : decode cX9_restore 41 = .ok (.invokevirtual 91, 3) := by decide +kernel
theorem dX9_restore_44 : decode cX9_restore 44 = .ok (.iconst 1, 1) := by decide +kernel
theorem dX9_restore_45 : decode cX9_restore 45 = .ok (.ireturn, 1) := by decide +kernel
theorem dX9_count_0 : decode cX9_count 0 = .ok (.iload_n 1, 1) := by decide +kernel
theorem dX9_count_1 : decode cX9_count 1 = .ok (.tableswitch 200 0 11 #[63, 74, 85, 96, 109, 122, 135, 148, 159, 170, 181, 192], 63) := by decide +kernel
theorem dX9_count_64 : decode cX9_count 64 = .ok (.aload_n 0, 1) := by decide +kernel
theorem dX9_count_65 : decode cX9_count 65 = .ok (.getfield 33, 3) := by decide +kernel
theorem dX9_count_68 : decode cX9_count 68 = .ok (.getfield 108, 3) := by decide +kernel
theorem dX9_count_71 : decode cX9_count 71 = .ok (.getfield 345, 3) := by decide +kernel
theorem dX9_count_74 : decode cX9_count 74 = .ok (.ireturn, 1) := by decide +kernel
theorem dX9_count_75 : decode cX9_count 75 = .ok (.aload_n 0, 1) := by decide +kernel
theorem dX9_count_76 : decode cX9_count 76 = .ok (.getfield 33, 3) := by decide +kernel
theorem dX9_count_79 : decode cX9_count 79 = .ok (.getfield 108, 3) := by decide +kernel
theorem dX9_count_82 : decode cX9_count 82 = .ok (.getfield 347, 3) := by decide +kernel
theorem dX9_count_85 : decode cX9_count 85 = .ok (.ireturn, 1) := by decide +kernel
theorem dX9_count_86 : decode cX9_count 86 = .ok (.aload_n 0, 1) := by decide +kernel
theorem dX9_count_87 : decode cX9_count 87 = .ok (.getfield 33, 3) := by decide +kernel
theorem dX9_count_90 : decode cX9_count 90 = .ok (.getfield 108, 3) := by decide +kernel
theorem dX9_count_93 : decode cX9_count 93 = .ok (.getfield 383, 3) := by decide +kernel
theorem dX9_count_96 : decode cX9_count 96 = .ok (.ireturn, 1) := by decide +kernel
theorem dX9_count_97 : decode cX9_count 97 = .ok (.aload_n 0, 1) := by decide +kernel
theorem dX9_count_98 : decode cX9_count 98 = .ok (.getfield 33, 3) := by decide +kernel
theorem dX9_count_101 : decode cX9_count 101 = .ok (.getfield 108, 3) := by decide +kernel
theorem dX9_count_104 : decode cX9_count 104 = .ok (.getfield 386, 3) := by decide +kernel
theorem dX9_count_107 : decode cX9_count 107 = .ok (.iconst 0, 1) := by decide +kernel
theorem dX9_count_108 : decode cX9_count 108 = .ok (.iaload, 1) := by decide +kernel
theorem dX9_count_109 : decode cX9_count 109 = .ok (.ireturn, 1) := by decide +kernel
theorem dX9_count_110 : decode cX9_count 110 = .ok (.aload_n 0, 1) := by decide +kernel
theorem dX9_count_111 : decode cX9_count 111 = .ok (.getfield 33, 3) := by decide +kernel
theorem dX9_count_114 : decode cX9_count 114 = .ok (.getfield 108, 3) := by decide +kernel
theorem dX9_count_117 : decode cX9_count 117 = .ok (.getfield 386, 3) := by decide +kernel
theorem dX9_count_120 : decode cX9_count 120 = .ok (.iconst 1, 1) := by decide +kernel
theorem dX9_count_121 : decode cX9_count 121 = .ok (.iaload, 1) := by decide +kernel
theorem dX9_count_122 : decode cX9_count 122 = .ok (.ireturn, 1) := by decide +kernel
theorem dX9_count_123 : decode cX9_count 123 = .ok (.aload_n 0, 1) := by decide +kernel
theorem dX9_count_124 : decode cX9_count 124 = .ok (.getfield 33, 3) := by decide +kernel
theorem dX9_count_127 : decode cX9_count 127 = .ok (.getfield 108, 3) := by decide +kernel
theorem dX9_count_130 : decode cX9_count 130 = .ok (.getfield 386, 3) := by decide +kernel
theorem dX9_count_133 : decode cX9_count 133 = .ok (.iconst 2, 1) := by decide +kernel
theorem dX9_count_134 : decode cX9_count 134 = .ok (.iaload, 1) := by decide +kernel
theorem dX9_count_135 : decode cX9_count 135 = .ok (.ireturn, 1) := by decide +kernel
theorem dX9_count_136 : decode cX9_count 136 = .ok (.aload_n 0, 1) := by decide +kernel
theorem dX9_count_137 : decode cX9_count 137 = .ok (.getfield 33, 3) := by decide +kernel
theorem dX9_count_140 : decode cX9_count 140 = .ok (.getfield 108, 3) := by decide +kernel
theorem dX9_count_143 : decode cX9_count 143 = .ok (.getfield 386, 3) := by decide +kernel
theorem dX9_count_146 : decode cX9_count 146 = .ok (.iconst 3, 1) := by decide +kernel
theorem dX9_count_147 : decode cX9_count 147 = .ok (.iaload, 1) := by decide +kernel
theorem dX9_count_148 : decode cX9_count 148 = .ok (.ireturn, 1) := by decide +kernel
theorem dX9_count_149 : decode cX9_count 149 = .ok (.aload_n 0, 1) := by decide +kernel
theorem dX9_count_150 : decode cX9_count 150 = .ok (.getfield 33, 3) := by decide +kernel
theorem dX9_count_153 : decode cX9_count 153 = .ok (.getfield 117, 3) := by decide +kernel
theorem dX9_count_156 : decode cX9_count 156 = .ok (.getfield 164, 3) := by decide +kernel
theorem dX9_count_159 : decode cX9_count 159 = .ok (.ireturn, 1) := by decide +kernel
theorem dX9_count_160 : decode cX9_count 160 = .ok (.aload_n 0, 1) := by decide +kernel
theorem dX9_count_161 : decode cX9_count 161 = .ok (.getfield 33, 3) := by decide +kernel
theorem dX9_count_164 : decode cX9_count 164 = .ok (.getfield 117, 3) := by decide +kernel
theorem dX9_count_167 : decode cX9_count 167 = .ok (.getfield 298, 3) := by decide +kernel
theorem dX9_count_170 : decode cX9_count 170 = .ok (.ireturn, 1) := by decide +kernel
theorem dX9_count_171 : decode cX9_count 171 = .ok (.aload_n 0, 1) := by decide +kernel
theorem dX9_count_172 : decode cX9_count 172 = .ok (.getfield 33, 3) := by decide +kernel
theorem dX9_count_175 : decode cX9_count 175 = .ok (.getfield 117, 3) := by decide +kernel
theorem dX9_count_178 : decode cX9_count 178 = .ok (.getfield 292, 3) := by decide +kernel
theorem dX9_count_181 : decode cX9_count 181 = .ok (.ireturn, 1) := by decide +kernel
theorem dX9_count_182 : decode cX9_count 182 = .ok (.aload_n 0, 1) := by decide +kernel
theorem dX9_count_183 : decode cX9_count 183 = .ok (.getfield 33, 3) := by decide +kernel
theorem dX9_count_186 : decode cX9_count 186 = .ok (.getfield 117, 3) := by decide +kernel
theorem dX9_count_189 : decode cX9_count 189 = .ok (.getfield 295, 3) := by decide +kernel
theorem dX9_count_192 : decode cX9_count 192 = .ok (.ireturn, 1) := by decide +kernel
theorem dX9_count_193 : decode cX9_count 193 = .ok (.aload_n 0, 1) := by decide +kernel
theorem dX9_count_194 : decode cX9_count 194 = .ok (.getfield 10, 3) := by decide +kernel
theorem dX9_count_197 : decode cX9_count 197 = .ok (.getfield 66, 3) := by decide +kernel
theorem dX9_count_200 : decode cX9_count 200 = .ok (.ireturn, 1) := by decide +kernel
theorem dX9_count_201 : decode cX9_count 201 = .ok (.iconst (-1), 1) := by decide +kernel
theorem dX9_count_202 : decode cX9_count 202 = .ok (.ireturn, 1) := by decide +kernel
