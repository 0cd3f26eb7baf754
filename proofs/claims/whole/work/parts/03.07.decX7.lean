theorem dX7_init_0 : decode cX7_init 0 = .ok (.aload_n 0, 1) := by decide +kernel
theorem dX7_init_1 : decode cX7_init 1 = .ok (.invokespecial 3, 3) := by decide +kernel
theorem dX7_init_4 : decode cX7_init 4 = .ok (.aload_n 0, 1) := by decide +kernel
theorem dX7_init_5 : decode cX7_init 5 = .ok (.sipush 740, 3) := by decide +kernel
theorem dX7_init_8 : decode cX7_init 8 = .ok (.newarray .int, 2) := by decide +kernel
theorem dX7_init_10 : decode cX7_init 10 = .ok (.putfield 9, 3) := by decide +kernel
theorem dX7_init_13 : decode cX7_init 13 = .ok (.return_, 1) := by decide +kernel
theorem dX7_put_0 : decode cX7_put 0 = .ok (.bipush 24, 2) := by decide +kernel
theorem dX7_put_2 : decode cX7_put 2 = .ok (.istore_n 2, 1) := by decide +kernel
theorem dX7_put_3 : decode cX7_put 3 = .ok (.iload_n 2, 1) := by decide +kernel
theorem dX7_put_4 : decode cX7_put 4 = .ok (.ifCond .lt 45, 3) := by decide +kernel
theorem dX7_put_7 : decode cX7_put 7 = .ok (.aload_n 0, 1) := by decide +kernel
theorem dX7_put_8 : decode cX7_put 8 = .ok (.getfield 15, 3) := by decide +kernel
theorem dX7_put_11 : decode cX7_put 11 = .ok (.sipush 740, 3) := by decide +kernel
theorem dX7_put_14 : decode cX7_put 14 = .ok (.if_icmp .ge 29, 3) := by decide +kernel
theorem dX7_put_17 : decode cX7_put 17 = .ok (.aload_n 0, 1) := by decide +kernel
theorem dX7_put_18 : decode cX7_put 18 = .ok (.getfield 9, 3) := by decide +kernel
theorem dX7_put_21 : decode cX7_put 21 = .ok (.aload_n 0, 1) := by decide +kernel
theorem dX7_put_22 : decode cX7_put 22 = .ok (.getfield 15, 3) := by decide +kernel
theorem dX7_put_25 : decode cX7_put 25 = .ok (.iload_n 1, 1) := by decide +kernel
theorem dX7_put_26 : decode cX7_put 26 = .ok (.iload_n 2, 1) := by decide +kernel
theorem dX7_put_27 : decode cX7_put 27 = .ok (.iushr, 1) := by decide +kernel
theorem dX7_put_28 : decode cX7_put 28 = .ok (.sipush 255, 3) := by decide +kernel
theorem dX7_put_31 : decode cX7_put 31 = .ok (.iand, 1) := by decide +kernel
theorem dX7_put_32 : decode cX7_put 32 = .ok (.iastore, 1) := by decide +kernel
theorem dX7_put_33 : decode cX7_put 33 = .ok (.aload_n 0, 1) := by decide +kernel
theorem dX7_put_34 : decode cX7_put 34 = .ok (.dup, 1) := by decide +kernel
theorem dX7_put_35 : decode cX7_put 35 = .ok (.getfield 15, 3) := by decide +kernel
theorem dX7_put_38 : decode cX7_put 38 = .ok (.iconst 1, 1) := by decide +kernel
theorem dX7_put_39 : decode cX7_put 39 = .ok (.iadd, 1) := by decide +kernel
theorem dX7_put_40 : decode cX7_put 40 = .ok (.putfield 15, 3) := by decide +kernel
theorem dX7_put_43 : decode cX7_put 43 = .ok (.iinc 2 (-8), 3) := by decide +kernel
theorem dX7_put_46 : decode cX7_put 46 = .ok (.goto (-43), 3) := by decide +kernel
theorem dX7_put_49 : decode cX7_put 49 = .ok (.return_, 1) := by decide +kernel
theorem dX7_at_0 : decode cX7_at 0 = .ok (.iload_n 1, 1) := by decide +kernel
theorem dX7_at_1 : decode cX7_at 1 = .ok (.ifCond .lt 19, 3) := by decide +kernel
theorem dX7_at_4 : decode cX7_at 4 = .ok (.iload_n 1, 1) := by decide +kernel
theorem dX7_at_5 : decode cX7_at 5 = .ok (.sipush 740, 3) := by decide +kernel
theorem dX7_at_8 : decode cX7_at 8 = .ok (.if_icmp .ge 12, 3) := by decide +kernel
theorem dX7_at_11 : decode cX7_at 11 = .ok (.aload_n 0, 1) := by decide +kernel
theorem dX7_at_12 : decode cX7_at 12 = .ok (.getfield 9, 3) := by decide +kernel
theorem dX7_at_15 : decode cX7_at 15 = .ok (.iload_n 1, 1) := by decide +kernel
theorem dX7_at_16 : decode cX7_at 16 = .ok (.iaload, 1) := by decide +kernel
theorem dX7_at_17 : decode cX7_at 17 = .ok (.goto 4, 3) := by decide +kernel
theorem dX7_at_20 : decode cX7_at 20 = .ok (.iconst (-1), 1) := by decide +kernel
theorem dX7_at_21 : decode cX7_at 21 = .ok (.ireturn, 1) := by decide +kernel
theorem dX7_begin_0 : decode cX7_begin 0 = .ok (.aload_n 0, 1) := by decide +kernel
theorem dX7_begin_1 : decode cX7_begin 1 = .ok (.iload_n 1, 1) := by decide +kernel
theorem dX7_begin_2 : decode cX7_begin 2 = .ok (.putfield 19, 3) := by decide +kernel
theorem dX7_begin_5 : decode cX7_begin 5 = .ok (.aload_n 0, 1) := by decide +kernel
theorem dX7_begin_6 : decode cX7_begin 6 = .ok (.iconst 0, 1) := by decide +kernel
theorem dX7_begin_7 : decode cX7_begin 7 = .ok (.putfield 22, 3) := by decide +kernel
theorem dX7_begin_10 : decode cX7_begin 10 = .ok (.return_, 1) := by decide +kernel
theorem dX7_advance_0 : decode cX7_advance 0 = .ok (.aload_n 0, 1) := by decide +kernel
theorem dX7_advance_1 : decode cX7_advance 1 = .ok (.getfield 22, 3) := by decide +kernel
theorem dX7_advance_4 : decode cX7_advance 4 = .ok (.aload_n 0, 1) := by decide +kernel
theorem dX7_advance_5 : decode cX7_advance 5 = .ok (.getfield 15, 3) := by decide +kernel
theorem dX7_advance_8 : decode cX7_advance 8 = .ok (.if_icmp .ge 30, 3) := by decide +kernel
theorem dX7_advance_11 : decode cX7_advance 11 = .ok (.aload_n 0, 1) := by decide +kernel
theorem dX7_advance_12 : decode cX7_advance 12 = .ok (.aload_n 0, 1) := by decide +kernel
theorem dX7_advance_13 : decode cX7_advance 13 = .ok (.getfield 22, 3) := by decide +kernel
theorem dX7_advance_16 : decode cX7_advance 16 = .ok (.invokevirtual 25, 3) := by decide +kernel
theorem dX7_advance_19 : decode cX7_advance 19 = .ok (.invokestatic 29, 3) := by decide +kernel
theorem dX7_advance_22 : decode cX7_advance 22 = .ok (.ifCond .eq 16, 3) := by decide +kernel
theorem dX7_advance_25 : decode cX7_advance 25 = .ok (.aload_n 0, 1) := by decide +kernel
theorem dX7_advance_26 : decode cX7_advance 26 = .ok (.dup, 1) := by decide +kernel
theorem dX7_advance_27 : decode cX7_advance 27 = .ok (.getfield 22, 3) := by decide +kernel
theorem dX7_advance_30 : decode cX7_advance 30 = .ok (.iconst 1, 1) := by decide +kernel
theorem dX7_advance_31 : decode cX7_advance 31 = .ok (.iadd, 1) := by decide +kernel
theorem dX7_advance_32 : decode cX7_advance 32 = .ok (.putfield 22, 3) := by decide +kernel
theorem dX7_advance_35 : decode cX7_advance 35 = .ok (.goto (-35), 3) := by decide +kernel
theorem dX7_advance_38 : decode cX7_advance 38 = .ok (.aload_n 0, 1) := by decide +kernel
theorem dX7_advance_39 : decode cX7_advance 39 = .ok (.aload_n 0, 1) := by decide +kernel
theorem dX7_advance_40 : decode cX7_advance 40 = .ok (.getfield 22, 3) := by decide +kernel
theorem dX7_advance_43 : decode cX7_advance 43 = .ok (.putfield 33, 3) := by decide +kernel
theorem dX7_advance_46 : decode cX7_advance 46 = .ok (.aload_n 0, 1) := by decide +kernel
theorem dX7_advance_47 : decode cX7_advance 47 = .ok (.getfield 22, 3) := by decide +kernel
theorem dX7_advance_50 : decode cX7_advance 50 = .ok (.aload_n 0, 1) := by decide +kernel
theorem dX7_advance_51 : decode cX7_advance 51 = .ok (.getfield 19, 3) := by decide +kernel
theorem dX7_advance_54 : decode cX7_advance 54 = .ok (.if_icmp .lt 30, 3) := by decide +kernel
theorem dX7_advance_57 : decode cX7_advance 57 = .ok (.aload_n 0, 1) := by decide +kernel
theorem dX7_advance_58 : decode cX7_advance 58 = .ok (.getfield 15, 3) := by decide +kernel
theorem dX7_advance_61 : decode cX7_advance 61 = .ok (.aload_n 0, 1) := by decide +kernel
theorem dX7_advance_62 : decode cX7_advance 62 = .ok (.getfield 19, 3) := by decide +kernel
theorem dX7_advance_65 : decode cX7_advance 65 = .ok (.if_icmp .le 19, 3) := by decide +kernel
theorem dX7_advance_68 : decode cX7_advance 68 = .ok (.aload_n 0, 1) := by decide +kernel
theorem dX7_advance_69 : decode cX7_advance 69 = .ok (.aload_n 0, 1) := by decide +kernel
theorem dX7_advance_70 : decode cX7_advance 70 = .ok (.getfield 19, 3) := by decide +kernel
theorem dX7_advance_73 : decode cX7_advance 73 = .ok (.putfield 33, 3) := by decide +kernel
theorem dX7_advance_76 : decode cX7_advance 76 = .ok (.aload_n 0, 1) := by decide +kernel
theorem dX7_advance_77 : decode cX7_advance 77 = .ok (.iconst 1, 1) := by decide +kernel
theorem dX7_advance_78 : decode cX7_advance 78 = .ok (.putfield 36, 3) := by decide +kernel
theorem dX7_advance_81 : decode cX7_advance 81 = .ok (.goto 111, 3) := by decide +kernel
theorem dX7_advance_84 : decode cX7_advance 84 = .ok (.aload_n 0, 1) := by decide +kernel
theorem dX7_advance_85 : decode cX7_advance 85 = .ok (.getfield 22, 3) := by decide +kernel
theorem dX7_advance_88 : decode cX7_advance 88 = .ok (.aload_n 0, 1) := by decide +kernel
theorem dX7_advance_89 : decode cX7_advance 89 = .ok (.getfield 15, 3) := by decide +kernel
theorem dX7_advance_92 : decode cX7_advance 92 = .ok (.if_icmp .lt 11, 3) := by decide +kernel
theorem dX7_advance_95 : decode cX7_advance 95 = .ok (.aload_n 0, 1) := by decide +kernel
theorem dX7_advance_96 : decode cX7_advance 96 = .ok (.iconst 0, 1) := by decide +kernel
theorem dX7_advance_97 : decode cX7_advance 97 = .ok (.putfield 36, 3) := by decide +kernel
theorem dX7_advance_100 : decode cX7_advance 100 = .ok (.goto 92, 3) := by decide +kernel
theorem dX7_advance_103 : decode cX7_advance 103 = .ok (.aload_n 0, 1) := by decide +kernel
theorem dX7_advance_104 : decode cX7_advance 104 = .ok (.aload_n 0, 1) := by decide +kernel
theorem dX7_advance_105 : decode cX7_advance 105 = .ok (.getfield 22, 3) := by decide +kernel
theorem dX7_advance_108 : decode cX7_advance 108 = .ok (.invokevirtual 25, 3) := by decide +kernel
theorem dX7_advance_111 : decode cX7_advance 111 = .ok (.invokestatic 39, 3) := by decide +kernel
theorem dX7_advance_114 : decode cX7_advance 114 = .ok (.ifCond .ne 17, 3) := by decide +kernel
theorem dX7_advance_117 : decode cX7_advance 117 = .ok (.aload_n 0, 1) := by decide +kernel
theorem dX7_advance_118 : decode cX7_advance 118 = .ok (.aload_n 0, 1) := by decide +kernel
theorem dX7_advance_119 : decode cX7_advance 119 = .ok (.getfield 22, 3) := by decide +kernel
theorem dX7_advance_122 : decode cX7_advance 122 = .ok (.invokevirtual 25, 3) := by decide +kernel
theorem dX7_advance_125 : decode cX7_advance 125 = .ok (.invokestatic 42, 3) := by decide +kernel
theorem dX7_advance_128 : decode cX7_advance 128 = .ok (.ifCond .eq 39, 3) := by decide +kernel
theorem dX7_advance_131 : decode cX7_advance 131 = .ok (.aload_n 0, 1) := by decide +kernel
theorem dX7_advance_132 : decode cX7_advance 132 = .ok (.aload_n 0, 1) := by decide +kernel
theorem dX7_advance_133 : decode cX7_advance 133 = .ok (.invokevirtual 45, 3) := by decide +kernel
theorem dX7_advance_136 : decode cX7_advance 136 = .ok (.putfield 36, 3) := by decide +kernel
theorem dX7_advance_139 : decode cX7_advance 139 = .ok (.aload_n 0, 1) := by decide +kernel
theorem dX7_advance_140 : decode cX7_advance 140 = .ok (.getfield 36, 3) := by decide +kernel
theorem dX7_advance_143 : decode cX7_advance 143 = .ok (.iconst 3, 1) := by decide +kernel
theorem dX7_advance_144 : decode cX7_advance 144 = .ok (.if_icmp .ne 48, 3) := by decide +kernel
theorem dX7_advance_147 : decode cX7_advance 147 = .ok (.aload_n 0, 1) := by decide +kernel
theorem dX7_advance_148 : decode cX7_advance 148 = .ok (.aload_n 0, 1) := by decide +kernel
theorem dX7_advance_149 : decode cX7_advance 149 = .ok (.aload_n 0, 1) := by decide +kernel
theorem dX7_advance_150 : decode cX7_advance 150 = .ok (.getfield 22, 3) := by decide +kernel
theorem dX7_advance_153 : decode cX7_advance 153 = .ok (.aload_n 0, 1) := by decide +kernel
theorem dX7_advance_154 : decode cX7_advance 154 = .ok (.getfield 33, 3) := by decide +kernel
theorem dX7_advance_157 : decode cX7_advance 157 = .ok (.isub, 1) := by decide +kernel
theorem dX7_advance_158 : decode cX7_advance 158 = .ok (.invokevirtual 49, 3) := by decide +kernel
theorem dX7_advance_161 : decode cX7_advance 161 = .ok (.putfield 36, 3) := by decide +kernel
theorem dX7_advance_164 : decode cX7_advance 164 = .ok (.goto 28, 3) := by decide +kernel
theorem dX7_advance_167 : decode cX7_advance 167 = .ok (.aload_n 0, 1) := by decide +kernel
theorem dX7_advance_168 : decode cX7_advance 168 = .ok (.aload_n 0, 1) := by decide +kernel
theorem dX7_advance_169 : decode cX7_advance 169 = .ok (.aload_n 0, 1) := by decide +kernel
theorem dX7_advance_170 : decode cX7_advance 170 = .ok (.getfield 22, 3) := by decide +kernel
theorem dX7_advance_173 : decode cX7_advance 173 = .ok (.invokevirtual 25, 3) := by decide +kernel
theorem dX7_advance_176 : decode cX7_advance 176 = .ok (.invokestatic 52, 3) := by decide +kernel
theorem dX7_advance_179 : decode cX7_advance 179 = .ok (.putfield 36, 3) := by decide +kernel
theorem dX7_advance_182 : decode cX7_advance 182 = .ok (.aload_n 0, 1) := by decide +kernel
theorem dX7_advance_183 : decode cX7_advance 183 = .ok (.dup, 1) := by decide +kernel
theorem dX7_advance_184 : decode cX7_advance 184 = .ok (.getfield 22, 3) := by decide +kernel
theorem dX7_advance_187 : decode cX7_advance 187 = .ok (.iconst 1, 1) := by decide +kernel
theorem dX7_advance_188 : decode cX7_advance 188 = .ok (.iadd, 1) := by decide +kernel
theorem dX7_advance_189 : decode cX7_advance 189 = .ok (.putfield 22, 3) := by decide +kernel
theorem dX7_advance_192 : decode cX7_advance 192 = .ok (.return_, 1) := by decide +kernel
theorem dX7_isBlank_0 : decode cX7_isBlank 0 = .ok (.iload_n 0, 1) := by decide +kernel
theorem dX7_isBlank_1 : decode cX7_isBlank 1 = .ok (.bipush 32, 2) := by decide +kernel
theorem dX7_isBlank_3 : decode cX7_isBlank 3 = .ok (.if_icmp .eq 9, 3) := by decide +kernel
theorem dX7_isBlank_6 : decode cX7_isBlank 6 = .ok (.iload_n 0, 1) := by decide +kernel
theorem dX7_isBlank_7 : decode cX7_isBlank 7 = .ok (.bipush 10, 2) := by decide +kernel
theorem dX7_isBlank_9 : decode cX7_isBlank 9 = .ok (.if_icmp .ne 7, 3) := by decide +kernel
theorem dX7_isBlank_12 : decode cX7_isBlank 12 = .ok (.iconst 1, 1) := by decide +kernel
theorem dX7_isBlank_13 : decode cX7_isBlank 13 = .ok (.goto 4, 3) := by decide +kernel
theorem dX7_isBlank_16 : decode cX7_isBlank 16 = .ok (.iconst 0, 1) := by decide +kernel
theorem dX7_isBlank_17 : decode cX7_isBlank 17 = .ok (.ireturn, 1) := by decide +kernel
theorem dX7_isLetter_0 : decode cX7_isLetter 0 = .ok (.iload_n 0, 1) := by decide +kernel
theorem dX7_isLetter_1 : decode cX7_isLetter 1 = .ok (.bipush 97, 2) := by decide +kernel
theorem dX7_isLetter_3 : decode cX7_isLetter 3 = .ok (.if_icmp .lt 13, 3) := by decide +kernel
theorem dX7_isLetter_6 : decode cX7_isLetter 6 = .ok (.iload_n 0, 1) := by decide +kernel
theorem dX7_isLetter_7 : decode cX7_isLetter 7 = .ok (.bipush 122, 2) := by decide +kernel
theorem dX7_isLetter_9 : decode cX7_isLetter 9 = .ok (.if_icmp .gt 7, 3) := by decide +kernel
theorem dX7_isLetter_12 : decode cX7_isLetter 12 = .ok (.iconst 1, 1) := by decide +kernel
theorem dX7_isLetter_13 : decode cX7_isLetter 13 = .ok (.goto 4, 3) := by decide +kernel
theorem dX7_isLetter_16 : decode cX7_isLetter 16 = .ok (.iconst 0, 1) := by decide +kernel
theorem dX7_isLetter_17 : decode cX7_isLetter 17 = .ok (.ireturn, 1) := by decide +kernel
theorem dX7_isDigit_0 : decode cX7_isDigit 0 = .ok (.iload_n 0, 1) := by decide +kernel
theorem dX7_isDigit_1 : decode cX7_isDigit 1 = .ok (.bipush 48, 2) := by decide +kernel
theorem dX7_isDigit_3 : decode cX7_isDigit 3 = .ok (.if_icmp .lt 13, 3) := by decide +kernel
theorem dX7_isDigit_6 : decode cX7_isDigit 6 = .ok (.iload_n 0, 1) := by decide +kernel
theorem dX7_isDigit_7 : decode cX7_isDigit 7 = .ok (.bipush 57, 2) := by decide +kernel
theorem dX7_isDigit_9 : decode cX7_isDigit 9 = .ok (.if_icmp .gt 7, 3) := by decide +kernel
theorem dX7_isDigit_12 : decode cX7_isDigit 12 = .ok (.iconst 1, 1) := by decide +kernel
theorem dX7_isDigit_13 : decode cX7_isDigit 13 = .ok (.goto 4, 3) := by decide +kernel
theorem dX7_isDigit_16 : decode cX7_isDigit 16 = .ok (.iconst 0, 1) := by decide +kernel
theorem dX7_isDigit_17 : decode cX7_isDigit 17 = .ok (.ireturn, 1) := by decide +kernel
theorem dX7_signKind_0 : decode cX7_signKind 0 = .ok (.iload_n 0, 1) := by decide +kernel
theorem dX7_signKind_1 : decode cX7_signKind 1 = .ok (.lookupswitch 75 #[(40, 69), (41, 72), (59, 59), (60, 61), (61, 63), (62, 66)], 59) := by decide +kernel
theorem dX7_signKind_60 : decode cX7_signKind 60 = .ok (.iconst 4, 1) := by decide +kernel
theorem dX7_signKind_61 : decode cX7_signKind 61 = .ok (.ireturn, 1) := by decide +kernel
theorem dX7_signKind_62 : decode cX7_signKind 62 = .ok (.iconst 5, 1) := by decide +kernel
theorem dX7_signKind_63 : decode cX7_signKind 63 = .ok (.ireturn, 1) := by decide +kernel
theorem dX7_signKind_64 : decode cX7_signKind 64 = .ok (.bipush 6, 2) := by decide +kernel
theorem dX7_signKind_66 : decode cX7_signKind 66 = .ok (.ireturn, 1) := by decide +kernel
theorem dX7_signKind_67 : decode cX7_signKind 67 = .ok (.bipush 7, 2) := by decide +kernel
theorem dX7_signKind_69 : decode cX7_signKind 69 = .ok (.ireturn, 1) := by decide +kernel
theorem dX7_signKind_70 : decode cX7_signKind 70 = .ok (.bipush 8, 2) := by decide +kernel
theorem dX7_signKind_72 : decode cX7_signKind 72 = .ok (.ireturn, 1) := by decide +kernel
theorem dX7_signKind_73 : decode cX7_signKind 73 = .ok (.bipush 9, 2) := by decide +kernel
theorem dX7_signKind_75 : decode cX7_signKind 75 = .ok (.ireturn, 1) := by decide +kernel
theorem dX7_signKind_76 : decode cX7_signKind 76 = .ok (.iconst 1, 1) := by decide +kernel
theorem dX7_signKind_77 : decode cX7_signKind 77 = .ok (.ireturn, 1) := by decide +kernel
theorem dX7_readRun_0 : decode cX7_readRun 0 = .ok (.iconst 0, 1) := by decide +kernel
theorem dX7_readRun_1 : decode cX7_readRun 1 = .ok (.istore_n 1, 1) := by decide +kernel
theorem dX7_readRun_2 : decode cX7_readRun 2 = .ok (.iconst 0, 1) := by decide +kernel
theorem dX7_readRun_3 : decode cX7_readRun 3 = .ok (.istore_n 2, 1) := by decide +kernel
theorem dX7_readRun_4 : decode cX7_readRun 4 = .ok (.aload_n 0, 1) := by decide +kernel
theorem dX7_readRun_5 : decode cX7_readRun 5 = .ok (.iconst 0, 1) := by decide +kernel
theorem dX7_readRun_6 : decode cX7_readRun 6 = .ok (.putfield 55, 3) := by decide +kernel
theorem dX7_readRun_9 : decode cX7_readRun 9 = .ok (.aload_n 0, 1) := by decide +kernel
theorem dX7_readRun_10 : decode cX7_readRun 10 = .ok (.iconst 0, 1) := by decide +kernel
theorem dX7_readRun_11 : decode cX7_readRun 11 = .ok (.putfield 58, 3) := by decide +kernel
theorem dX7_readRun_14 : decode cX7_readRun 14 = .ok (.iconst 1, 1) := by decide +kernel
theorem dX7_readRun_15 : decode cX7_readRun 15 = .ok (.istore_n 3, 1) := by decide +kernel
theorem dX7_readRun_16 : decode cX7_readRun 16 = .ok (.iload_n 3, 1) := by decide +kernel
theorem dX7_readRun_17 : decode cX7_readRun 17 = .ok (.ifCond .eq 118, 3) := by decide +kernel
theorem dX7_readRun_20 : decode cX7_readRun 20 = .ok (.aload_n 0, 1) := by decide +kernel
theorem dX7_readRun_21 : decode cX7_readRun 21 = .ok (.getfield 22, 3) := by decide +kernel
theorem dX7_readRun_24 : decode cX7_readRun 24 = .ok (.aload_n 0, 1) := by decide +kernel
theorem dX7_readRun_25 : decode cX7_readRun 25 = .ok (.getfield 15, 3) := by decide +kernel
theorem dX7_readRun_28 : decode cX7_readRun 28 = .ok (.if_icmp .ge 107, 3) := by decide +kernel
theorem dX7_readRun_31 : decode cX7_readRun 31 = .ok (.aload_n 0, 1) := by decide +kernel
theorem dX7_readRun_32 : decode cX7_readRun 32 = .ok (.getfield 22, 3) := by decide +kernel
theorem dX7_readRun_35 : decode cX7_readRun 35 = .ok (.sipush 740, 3) := by decide +kernel
theorem dX7_readRun_38 : decode cX7_readRun 38 = .ok (.if_icmp .ge 97, 3) := by decide +kernel
theorem dX7_readRun_41 : decode cX7_readRun 41 = .ok (.aload_n 0, 1) := by decide +kernel
theorem dX7_readRun_42 : decode cX7_readRun 42 = .ok (.getfield 9, 3) := by decide +kernel
theorem dX7_readRun_45 : decode cX7_readRun 45 = .ok (.aload_n 0, 1) := by decide +kernel
theorem dX7_readRun_46 : decode cX7_readRun 46 = .ok (.getfield 22, 3) := by decide +kernel
theorem dX7_readRun_49 : decode cX7_readRun 49 = .ok (.iaload, 1) := by decide +kernel
theorem dX7_readRun_50 : decode cX7_readRun 50 = .ok (.istore 4, 2) := by decide +kernel
theorem dX7_readRun_52 : decode cX7_readRun 52 = .ok (.iload 4, 2) := by decide +kernel
theorem dX7_readRun_54 : decode cX7_readRun 54 = .ok (.invokestatic 42, 3) := by decide +kernel
theorem dX7_readRun_57 : decode cX7_readRun 57 = .ok (.ifCond .eq 26, 3) := by decide +kernel
theorem dX7_readRun_60 : decode cX7_readRun 60 = .ok (.aload_n 0, 1) := by decide +kernel
theorem dX7_readRun_61 : decode cX7_readRun 61 = .ok (.aload_n 0, 1) := by decide +kernel
theorem dX7_readRun_62 : decode cX7_readRun 62 = .ok (.getfield 55, 3) := by decide +kernel
theorem dX7_readRun_65 : decode cX7_readRun 65 = .ok (.bipush 10, 2) := by decide +kernel
theorem dX7_readRun_67 : decode cX7_readRun 67 = .ok (.imul, 1) := by decide +kernel
theorem dX7_readRun_68 : decode cX7_readRun 68 = .ok (.iload 4, 2) := by decide +kernel
theorem dX7_readRun_70 : decode cX7_readRun 70 = .ok (.iadd, 1) := by decide +kernel
theorem dX7_readRun_71 : decode cX7_readRun 71 = .ok (.bipush 48, 2) := by decide +kernel
theorem dX7_readRun_73 : decode cX7_readRun 73 = .ok (.isub, 1) := by decide +kernel
theorem dX7_readRun_74 : decode cX7_readRun 74 = .ok (.putfield 55, 3) := by decide +kernel
theorem dX7_readRun_77 : decode cX7_readRun 77 = .ok (.iinc 2 1, 3) := by decide +kernel
theorem dX7_readRun_80 : decode cX7_readRun 80 = .ok (.goto 38, 3) := by decide +kernel
theorem dX7_readRun_83 : decode cX7_readRun 83 = .ok (.iload 4, 2) := by decide +kernel
theorem dX7_readRun_85 : decode cX7_readRun 85 = .ok (.invokestatic 39, 3) := by decide +kernel
theorem dX7_readRun_88 : decode cX7_readRun 88 = .ok (.ifCond .eq 28, 3) := by decide +kernel
theorem dX7_readRun_91 : decode cX7_readRun 91 = .ok (.aload_n 0, 1) := by decide +kernel
theorem dX7_readRun_92 : decode cX7_readRun 92 = .ok (.aload_n 0, 1) := by decide +kernel
theorem dX7_readRun_93 : decode cX7_readRun 93 = .ok (.getfield 58, 3) := by decide +kernel
theorem dX7_readRun_96 : decode cX7_readRun 96 = .ok (.bipush 32, 2) := by decide +kernel
theorem dX7_readRun_98 : decode cX7_readRun 98 = .ok (.imul, 1) := by decide +kernel
theorem dX7_readRun_99 : decode cX7_readRun 99 = .ok (.iload 4, 2) := by decide +kernel
theorem dX7_readRun_101 : decode cX7_readRun 101 = .ok (.iadd, 1) := by decide +kernel
theorem dX7_readRun_102 : decode cX7_readRun 102 = .ok (.bipush 97, 2) := by decide +kernel
theorem dX7_readRun_104 : decode cX7_readRun 104 = .ok (.isub, 1) := by decide +kernel
theorem dX7_readRun_105 : decode cX7_readRun 105 = .ok (.iconst 1, 1) := by decide +kernel
theorem dX7_readRun_106 : decode cX7_readRun 106 = .ok (.iadd, 1) := by decide +kernel
theorem dX7_readRun_107 : decode cX7_readRun 107 = .ok (.putfield 58, 3) := by decide +kernel
theorem dX7_readRun_110 : decode cX7_readRun 110 = .ok (.iinc 1 1, 3) := by decide +kernel
theorem dX7_readRun_113 : decode cX7_readRun 113 = .ok (.goto 5, 3) := by decide +kernel
theorem dX7_readRun_116 : decode cX7_readRun 116 = .ok (.iconst 0, 1) := by decide +kernel
theorem dX7_readRun_117 : decode cX7_readRun 117 = .ok (.istore_n 3, 1) := by decide +kernel
theorem dX7_readRun_118 : decode cX7_readRun 118 = .ok (.iload_n 3, 1) := by decide +kernel
theorem dX7_readRun_119 : decode cX7_readRun 119 = .ok (.ifCond .eq 13, 3) := by decide +kernel
theorem dX7_readRun_122 : decode cX7_readRun 122 = .ok (.aload_n 0, 1) := by decide +kernel
theorem dX7_readRun_123 : decode cX7_readRun 123 = .ok (.dup, 1) := by decide +kernel
theorem dX7_readRun_124 : decode cX7_readRun 124 = .ok (.getfield 22, 3) := by decide +kernel
theorem dX7_readRun_127 : decode cX7_readRun 127 = .ok (.iconst 1, 1) := by decide +kernel
theorem dX7_readRun_128 : decode cX7_readRun 128 = .ok (.iadd, 1) := by decide +kernel
theorem dX7_readRun_129 : decode cX7_readRun 129 = .ok (.putfield 22, 3) := by decide +kernel
theorem dX7_readRun_132 : decode cX7_readRun 132 = .ok (.goto (-116), 3) := by decide +kernel
theorem dX7_readRun_135 : decode cX7_readRun 135 = .ok (.iload_n 1, 1) := by decide +kernel
theorem dX7_readRun_136 : decode cX7_readRun 136 = .ok (.ifCond .ne 10, 3) := by decide +kernel
theorem dX7_readRun_139 : decode cX7_readRun 139 = .ok (.iload_n 2, 1) := by decide +kernel
theorem dX7_readRun_140 : decode cX7_readRun 140 = .ok (.iconst 4, 1) := by decide +kernel
theorem dX7_readRun_141 : decode cX7_readRun 141 = .ok (.if_icmp .gt 5, 3) := by decide +kernel
theorem dX7_readRun_144 : decode cX7_readRun 144 = .ok (.iconst 2, 1) := by decide +kernel
theorem dX7_readRun_145 : decode cX7_readRun 145 = .ok (.ireturn, 1) := by decide +kernel
theorem dX7_readRun_146 : decode cX7_readRun 146 = .ok (.iload_n 2, 1) := by decide +kernel
theorem dX7_readRun_147 : decode cX7_readRun 147 = .ok (.ifCond .ne 13, 3) := by decide +kernel
theorem dX7_readRun_150 : decode cX7_readRun 150 = .ok (.iload_n 1, 1) := by decide +kernel
theorem dX7_readRun_151 : decode cX7_readRun 151 = .ok (.bipush 6, 2) := by decide +kernel
theorem dX7_readRun_153 : decode cX7_readRun 153 = .ok (.if_icmp .gt 7, 3) := by decide +kernel
theorem dX7_readRun_156 : decode cX7_readRun 156 = .ok (.iconst 3, 1) := by decide +kernel
theorem dX7_readRun_157 : decode cX7_readRun 157 = .ok (.goto 4, 3) := by decide +kernel
theorem dX7_readRun_160 : decode cX7_readRun 160 = .ok (.iconst 1, 1) := by decide +kernel
theorem dX7_readRun_161 : decode cX7_readRun 161 = .ok (.ireturn, 1) := by decide +kernel
theorem dX7_wordKind_0 : decode cX7_wordKind 0 = .ok (.bipush 10, 2) := by decide +kernel
theorem dX7_wordKind_2 : decode cX7_wordKind 2 = .ok (.istore_n 2, 1) := by decide +kernel
theorem dX7_wordKind_3 : decode cX7_wordKind 3 = .ok (.iconst 0, 1) := by decide +kernel
theorem dX7_wordKind_4 : decode cX7_wordKind 4 = .ok (.istore_n 3, 1) := by decide +kernel
theorem dX7_wordKind_5 : decode cX7_wordKind 5 = .ok (.iconst 0, 1) := by decide +kernel
theorem dX7_wordKind_6 : decode cX7_wordKind 6 = .ok (.istore 4, 2) := by decide +kernel
theorem dX7_wordKind_8 : decode cX7_wordKind 8 = .ok (.iload 4, 2) := by decide +kernel
theorem dX7_wordKind_10 : decode cX7_wordKind 10 = .ok (.ldc 61, 2) := by decide +kernel
theorem dX7_wordKind_12 : decode cX7_wordKind 12 = .ok (.invokevirtual 63, 3) := by decide +kernel
theorem dX7_wordKind_15 : decode cX7_wordKind 15 = .ok (.if_icmp .ge 86, 3) := by decide +kernel
theorem dX7_wordKind_18 : decode cX7_wordKind 18 = .ok (.ldc 61, 2) := by decide +kernel
theorem dX7_wordKind_20 : decode cX7_wordKind 20 = .ok (.iload 4, 2) := by decide +kernel
theorem dX7_wordKind_22 : decode cX7_wordKind 22 = .ok (.invokevirtual 67, 3) := by decide +kernel
theorem dX7_wordKind_25 : decode cX7_wordKind 25 = .ok (.istore 5, 2) := by decide +kernel
theorem dX7_wordKind_27 : decode cX7_wordKind 27 = .ok (.iload 5, 2) := by decide +kernel
theorem dX7_wordKind_29 : decode cX7_wordKind 29 = .ok (.bipush 32, 2) := by decide +kernel
theorem dX7_wordKind_31 : decode cX7_wordKind 31 = .ok (.if_icmp .ne 18, 3) := by decide +kernel
theorem dX7_wordKind_34 : decode cX7_wordKind 34 = .ok (.iload_n 3, 1) := by decide +kernel
theorem dX7_wordKind_35 : decode cX7_wordKind 35 = .ok (.iload_n 1, 1) := by decide +kernel
theorem dX7_wordKind_36 : decode cX7_wordKind 36 = .ok (.if_icmp .ne 5, 3) := by decide +kernel
theorem dX7_wordKind_39 : decode cX7_wordKind 39 = .ok (.iload_n 2, 1) := by decide +kernel
theorem dX7_wordKind_40 : decode cX7_wordKind 40 = .ok (.ireturn, 1) := by decide +kernel
theorem dX7_wordKind_41 : decode cX7_wordKind 41 = .ok (.iinc 2 1, 3) := by decide +kernel
theorem dX7_wordKind_44 : decode cX7_wordKind 44 = .ok (.iconst 0, 1) := by decide +kernel
theorem dX7_wordKind_45 : decode cX7_wordKind 45 = .ok (.istore_n 3, 1) := by decide +kernel
theorem dX7_wordKind_46 : decode cX7_wordKind 46 = .ok (.goto 49, 3) := by decide +kernel
theorem dX7_wordKind_49 : decode cX7_wordKind 49 = .ok (.iload_n 3, 1) := by decide +kernel
theorem dX7_wordKind_50 : decode cX7_wordKind 50 = .ok (.iconst (-1), 1) := by decide +kernel
theorem dX7_wordKind_51 : decode cX7_wordKind 51 = .ok (.if_icmp .eq 42, 3) := by decide +kernel
theorem dX7_wordKind_54 : decode cX7_wordKind 54 = .ok (.iload_n 3, 1) := by decide +kernel
theorem dX7_wordKind_55 : decode cX7_wordKind 55 = .ok (.iload_n 1, 1) := by decide +kernel
theorem dX7_wordKind_56 : decode cX7_wordKind 56 = .ok (.if_icmp .ge 37, 3) := by decide +kernel
theorem dX7_wordKind_59 : decode cX7_wordKind 59 = .ok (.aload_n 0, 1) := by decide +kernel
theorem dX7_wordKind_60 : decode cX7_wordKind 60 = .ok (.getfield 33, 3) := by decide +kernel
theorem dX7_wordKind_63 : decode cX7_wordKind 63 = .ok (.iload_n 3, 1) := by decide +kernel
theorem dX7_wordKind_64 : decode cX7_wordKind 64 = .ok (.iadd, 1) := by decide +kernel
theorem dX7_wordKind_65 : decode cX7_wordKind 65 = .ok (.sipush 740, 3) := by decide +kernel
theorem dX7_wordKind_68 : decode cX7_wordKind 68 = .ok (.if_icmp .ge 25, 3) := by decide +kernel
theorem dX7_wordKind_71 : decode cX7_wordKind 71 = .ok (.aload_n 0, 1) := by decide +kernel
theorem dX7_wordKind_72 : decode cX7_wordKind 72 = .ok (.getfield 9, 3) := by decide +kernel
theorem dX7_wordKind_75 : decode cX7_wordKind 75 = .ok (.aload_n 0, 1) := by decide +kernel
theorem dX7_wordKind_76 : decode cX7_wordKind 76 = .ok (.getfield 33, 3) := by decide +kernel
theorem dX7_wordKind_79 : decode cX7_wordKind 79 = .ok (.iload_n 3, 1) := by decide +kernel
theorem dX7_wordKind_80 : decode cX7_wordKind 80 = .ok (.iadd, 1) := by decide +kernel
theorem dX7_wordKind_81 : decode cX7_wordKind 81 = .ok (.iaload, 1) := by decide +kernel
theorem dX7_wordKind_82 : decode cX7_wordKind 82 = .ok (.iload 5, 2) := by decide +kernel
theorem dX7_wordKind_84 : decode cX7_wordKind 84 = .ok (.if_icmp .ne 9, 3) := by decide +kernel
theorem dX7_wordKind_87 : decode cX7_wordKind 87 = .ok (.iinc 3 1, 3) := by decide +kernel
theorem dX7_wordKind_90 : decode cX7_wordKind 90 = .ok (.goto 5, 3) := by decide +kernel
theorem dX7_wordKind_93 : decode cX7_wordKind 93 = .ok (.iconst (-1), 1) := by decide +kernel
theorem dX7_wordKind_94 : decode cX7_wordKind 94 = .ok (.istore_n 3, 1) := by decide +kernel
theorem dX7_wordKind_95 : decode cX7_wordKind 95 = .ok (.iinc 4 1, 3) := by decide +kernel
theorem dX7_wordKind_98 : decode cX7_wordKind 98 = .ok (.goto (-90), 3) := by decide +kernel
theorem dX7_wordKind_101 : decode cX7_wordKind 101 = .ok (.iconst 3, 1) := by decide +kernel
theorem dX7_wordKind_102 : decode cX7_wordKind 102 = .ok (.ireturn, 1) := by decide +kernel
