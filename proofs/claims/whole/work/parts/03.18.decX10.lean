theorem dX10_readAnd_7 : decode cX10_readAnd 7 = .ok (.iconst 0, 1) := by decide +kernel
theorem dX10_readAnd_8 : decode cX10_readAnd 8 = .ok (.ireturn, 1) := by decide +kernel
theorem dX10_readAnd_9 : decode cX10_readAnd 9 = .ok (.aload_n 0, 1) := by decide +kernel
theorem dX10_readAnd_10 : decode cX10_readAnd 10 = .ok (.getfield 368, 3) := by decide +kernel
theorem dX10_readAnd_13 : decode cX10_readAnd 13 = .ok (.istore_n 1, 1) := by decide +kernel
theorem dX10_readAnd_14 : decode cX10_readAnd 14 = .ok (.aload_n 0, 1) := by decide +kernel
theorem dX10_readAnd_15 : decode cX10_readAnd 15 = .ok (.bipush 10, 2) := by decide +kernel
theorem dX10_readAnd_17 : decode cX10_readAnd 17 = .ok (.invokevirtual 202, 3) := by decide +kernel
theorem dX10_readAnd_20 : decode cX10_readAnd 20 = .ok (.ifCond .eq 31, 3) := by decide +kernel
theorem dX10_readAnd_23 : decode cX10_readAnd 23 = .ok (.aload_n 0, 1) := by decide +kernel
theorem dX10_readAnd_24 : decode cX10_readAnd 24 = .ok (.invokevirtual 161, 3) := by decide +kernel
theorem dX10_readAnd_27 : decode cX10_readAnd 27 = .ok (.aload_n 0, 1) := by decide +kernel
theorem dX10_readAnd_28 : decode cX10_readAnd 28 = .ok (.invokevirtual 374, 3) := by decide +kernel
theorem dX10_readAnd_31 : decode cX10_readAnd 31 = .ok (.ifCond .ne 5, 3) := by decide +kernel
theorem dX10_readAnd_34 : decode cX10_readAnd 34 = .ok (.iconst 0, 1) := by decide +kernel
theorem dX10_readAnd_35 : decode cX10_readAnd 35 = .ok (.ireturn, 1) := by decide +kernel
theorem dX10_readAnd_36 : decode cX10_readAnd 36 = .ok (.aload_n 0, 1) := by decide +kernel
theorem dX10_readAnd_37 : decode cX10_readAnd 37 = .ok (.iconst 2, 1) := by decide +kernel
theorem dX10_readAnd_38 : decode cX10_readAnd 38 = .ok (.iload_n 1, 1) := by decide +kernel
theorem dX10_readAnd_39 : decode cX10_readAnd 39 = .ok (.aload_n 0, 1) := by decide +kernel
theorem dX10_readAnd_40 : decode cX10_readAnd 40 = .ok (.getfield 368, 3) := by decide +kernel
theorem dX10_readAnd_43 : decode cX10_readAnd 43 = .ok (.iconst 0, 1) := by decide +kernel
theorem dX10_readAnd_44 : decode cX10_readAnd 44 = .ok (.invokevirtual 371, 3) := by decide +kernel
theorem dX10_readAnd_47 : decode cX10_readAnd 47 = .ok (.istore_n 1, 1) := by decide +kernel
theorem dX10_readAnd_48 : decode cX10_readAnd 48 = .ok (.goto (-34), 3) := by decide +kernel
theorem dX10_readAnd_51 : decode cX10_readAnd 51 = .ok (.aload_n 0, 1) := by decide +kernel
theorem dX10_readAnd_52 : decode cX10_readAnd 52 = .ok (.iload_n 1, 1) := by decide +kernel
theorem dX10_readAnd_53 : decode cX10_readAnd 53 = .ok (.putfield 368, 3) := by decide +kernel
theorem dX10_readAnd_56 : decode cX10_readAnd 56 = .ok (.iconst 1, 1) := by decide +kernel
theorem dX10_readAnd_57 : decode cX10_readAnd 57 = .ok (.ireturn, 1) := by decide +kernel
theorem dX10_readOne_0 : decode cX10_readOne 0 = .ok (.aload_n 0, 1) := by decide +kernel
theorem dX10_readOne_1 : decode cX10_readOne 1 = .ok (.bipush 40, 2) := by decide +kernel
theorem dX10_readOne_3 : decode cX10_readOne 3 = .ok (.invokevirtual 164, 3) := by decide +kernel
theorem dX10_readOne_6 : decode cX10_readOne 6 = .ok (.istore_n 1, 1) := by decide +kernel
theorem dX10_readOne_7 : decode cX10_readOne 7 = .ok (.bipush 11, 2) := by decide +kernel
theorem dX10_readOne_9 : decode cX10_readOne 9 = .ok (.istore_n 2, 1) := by decide +kernel
theorem dX10_readOne_10 : decode cX10_readOne 10 = .ok (.iload_n 2, 1) := by decide +kernel
theorem dX10_readOne_11 : decode cX10_readOne 11 = .ok (.bipush 18, 2) := by decide +kernel
theorem dX10_readOne_13 : decode cX10_readOne 13 = .ok (.if_icmp .gt 17, 3) := by decide +kernel
theorem dX10_readOne_16 : decode cX10_readOne 16 = .ok (.aload_n 0, 1) := by decide +kernel
theorem dX10_readOne_17 : decode cX10_readOne 17 = .ok (.iload_n 2, 1) := by decide +kernel
theorem dX10_readOne_18 : decode cX10_readOne 18 = .ok (.invokevirtual 202, 3) := by decide +kernel
theorem dX10_readOne_21 : decode cX10_readOne 21 = .ok (.ifCond .ne 9, 3) := by decide +kernel
theorem dX10_readOne_24 : decode cX10_readOne 24 = .ok (.iinc 2 1, 3) := by decide +kernel
theorem dX10_readOne_27 : decode cX10_readOne 27 = .ok (.goto (-17), 3) := by decide +kernel
theorem dX10_readOne_30 : decode cX10_readOne 30 = .ok (.iload_n 1, 1) := by decide +kernel
theorem dX10_readOne_31 : decode cX10_readOne 31 = .ok (.ifCond .ne 15, 3) := by decide +kernel
theorem dX10_readOne_34 : decode cX10_readOne 34 = .ok (.iload_n 2, 1) := by decide +kernel
theorem dX10_readOne_35 : decode cX10_readOne 35 = .ok (.bipush 18, 2) := by decide +kernel
theorem dX10_readOne_37 : decode cX10_readOne 37 = .ok (.if_icmp .le 9, 3) := by decide +kernel
theorem dX10_readOne_40 : decode cX10_readOne 40 = .ok (.aload_n 0, 1) := by decide +kernel
theorem dX10_readOne_41 : decode cX10_readOne 41 = .ok (.iconst 1, 1) := by decide +kernel
theorem dX10_readOne_42 : decode cX10_readOne 42 = .ok (.invokevirtual 151, 3) := by decide +kernel
theorem dX10_readOne_45 : decode cX10_readOne 45 = .ok (.ireturn, 1) := by decide +kernel
theorem dX10_readOne_46 : decode cX10_readOne 46 = .ok (.aload_n 0, 1) := by decide +kernel
theorem dX10_readOne_47 : decode cX10_readOne 47 = .ok (.getfield 377, 3) := by decide +kernel
theorem dX10_readOne_50 : decode cX10_readOne 50 = .ok (.bipush 20, 2) := by decide +kernel
theorem dX10_readOne_52 : decode cX10_readOne 52 = .ok (.if_icmp .eq 12, 3) := by decide +kernel
theorem dX10_readOne_55 : decode cX10_readOne 55 = .ok (.aload_n 0, 1) := by decide +kernel
theorem dX10_readOne_56 : decode cX10_readOne 56 = .ok (.getfield 380, 3) := by decide +kernel
theorem dX10_readOne_59 : decode cX10_readOne 59 = .ok (.bipush 8, 2) := by decide +kernel
theorem dX10_readOne_61 : decode cX10_readOne 61 = .ok (.if_icmp .ne 9, 3) := by decide +kernel
theorem dX10_readOne_64 : decode cX10_readOne 64 = .ok (.aload_n 0, 1) := by decide +kernel
theorem dX10_readOne_65 : decode cX10_readOne 65 = .ok (.iconst 4, 1) := by decide +kernel
theorem dX10_readOne_66 : decode cX10_readOne 66 = .ok (.invokevirtual 151, 3) := by decide +kernel
theorem dX10_readOne_69 : decode cX10_readOne 69 = .ok (.ireturn, 1) := by decide +kernel
theorem dX10_readOne_70 : decode cX10_readOne 70 = .ok (.aload_n 0, 1) := by decide +kernel
theorem dX10_readOne_71 : decode cX10_readOne 71 = .ok (.dup, 1) := by decide +kernel
theorem dX10_readOne_72 : decode cX10_readOne 72 = .ok (.getfield 377, 3) := by decide +kernel
theorem dX10_readOne_75 : decode cX10_readOne 75 = .ok (.iconst 1, 1) := by decide +kernel
theorem dX10_readOne_76 : decode cX10_readOne 76 = .ok (.iadd, 1) := by decide +kernel
theorem dX10_readOne_77 : decode cX10_readOne 77 = .ok (.putfield 377, 3) := by decide +kernel
theorem dX10_readOne_80 : decode cX10_readOne 80 = .ok (.aload_n 0, 1) := by decide +kernel
theorem dX10_readOne_81 : decode cX10_readOne 81 = .ok (.dup, 1) := by decide +kernel
theorem dX10_readOne_82 : decode cX10_readOne 82 = .ok (.getfield 380, 3) := by decide +kernel
theorem dX10_readOne_85 : decode cX10_readOne 85 = .ok (.iconst 1, 1) := by decide +kernel
theorem dX10_readOne_86 : decode cX10_readOne 86 = .ok (.iadd, 1) := by decide +kernel
theorem dX10_readOne_87 : decode cX10_readOne 87 = .ok (.putfield 380, 3) := by decide +kernel
theorem dX10_readOne_90 : decode cX10_readOne 90 = .ok (.aload_n 0, 1) := by decide +kernel
theorem dX10_readOne_91 : decode cX10_readOne 91 = .ok (.invokevirtual 161, 3) := by decide +kernel
theorem dX10_readOne_94 : decode cX10_readOne 94 = .ok (.iconst 1, 1) := by decide +kernel
theorem dX10_readOne_95 : decode cX10_readOne 95 = .ok (.istore_n 3, 1) := by decide +kernel
theorem dX10_readOne_96 : decode cX10_readOne 96 = .ok (.iload_n 1, 1) := by decide +kernel
theorem dX10_readOne_97 : decode cX10_readOne 97 = .ok (.ifCond .eq 11, 3) := by decide +kernel
theorem dX10_readOne_100 : decode cX10_readOne 100 = .ok (.aload_n 0, 1) := by decide +kernel
theorem dX10_readOne_101 : decode cX10_readOne 101 = .ok (.invokevirtual 383, 3) := by decide +kernel
theorem dX10_readOne_104 : decode cX10_readOne 104 = .ok (.istore_n 3, 1) := by decide +kernel
theorem dX10_readOne_105 : decode cX10_readOne 105 = .ok (.goto 58, 3) := by decide +kernel
theorem dX10_readOne_108 : decode cX10_readOne 108 = .ok (.iload_n 2, 1) := by decide +kernel
theorem dX10_readOne_109 : decode cX10_readOne 109 = .ok (.bipush 11, 2) := by decide +kernel
theorem dX10_readOne_111 : decode cX10_readOne 111 = .ok (.if_icmp .ne 11, 3) := by decide +kernel
theorem dX10_readOne_114 : decode cX10_readOne 114 = .ok (.aload_n 0, 1) := by decide +kernel
theorem dX10_readOne_115 : decode cX10_readOne 115 = .ok (.invokevirtual 386, 3) := by decide +kernel
theorem dX10_readOne_118 : decode cX10_readOne 118 = .ok (.istore_n 3, 1) := by decide +kernel
theorem dX10_readOne_119 : decode cX10_readOne 119 = .ok (.goto 44, 3) := by decide +kernel
theorem dX10_readOne_122 : decode cX10_readOne 122 = .ok (.iload_n 2, 1) := by decide +kernel
theorem dX10_readOne_123 : decode cX10_readOne 123 = .ok (.bipush 15, 2) := by decide +kernel
theorem dX10_readOne_125 : decode cX10_readOne 125 = .ok (.if_icmp .ne 18, 3) := by decide +kernel
theorem dX10_readOne_128 : decode cX10_readOne 128 = .ok (.aload_n 0, 1) := by decide +kernel
theorem dX10_readOne_129 : decode cX10_readOne 129 = .ok (.aload_n 0, 1) := by decide +kernel
theorem dX10_readOne_130 : decode cX10_readOne 130 = .ok (.iconst 4, 1) := by decide +kernel
theorem dX10_readOne_131 : decode cX10_readOne 131 = .ok (.iconst 0, 1) := by decide +kernel
theorem dX10_readOne_132 : decode cX10_readOne 132 = .ok (.iconst 0, 1) := by decide +kernel
theorem dX10_readOne_133 : decode cX10_readOne 133 = .ok (.iconst 0, 1) := by decide +kernel
theorem dX10_readOne_134 : decode cX10_readOne 134 = .ok (.invokevirtual 371, 3) := by decide +kernel
theorem dX10_readOne_137 : decode cX10_readOne 137 = .ok (.putfield 368, 3) := by decide +kernel
theorem dX10_readOne_140 : decode cX10_readOne 140 = .ok (.goto 23, 3) := by decide +kernel
theorem dX10_readOne_143 : decode cX10_readOne 143 = .ok (.iload_n 2, 1) := by decide +kernel
theorem dX10_readOne_144 : decode cX10_readOne 144 = .ok (.bipush 15, 2) := by decide +kernel
theorem dX10_readOne_146 : decode cX10_readOne 146 = .ok (.if_icmp .ge 11, 3) := by decide +kernel
theorem dX10_readOne_149 : decode cX10_readOne 149 = .ok (.aload_n 0, 1) := by decide +kernel
theorem dX10_readOne_150 : decode cX10_readOne 150 = .ok (.iload_n 2, 1) := by decide +kernel
theorem dX10_readOne_151 : decode cX10_readOne 151 = .ok (.invokevirtual 389, 3) := by decide +kernel
theorem dX10_readOne_154 : decode cX10_readOne 154 = .ok (.goto 8, 3) := by decide +kernel
theorem dX10_readOne_157 : decode cX10_readOne 157 = .ok (.aload_n 0, 1) := by decide +kernel
theorem dX10_readOne_158 : decode cX10_readOne 158 = .ok (.iload_n 2, 1) := by decide +kernel
theorem dX10_readOne_159 : decode cX10_readOne 159 = .ok (.invokevirtual 392, 3) := by decide +kernel
theorem dX10_readOne_162 : decode cX10_readOne 162 = .ok (.istore_n 3, 1) := by decide +kernel
theorem dX10_readOne_163 : decode cX10_readOne 163 = .ok (.aload_n 0, 1) := by decide +kernel
theorem dX10_readOne_164 : decode cX10_readOne 164 = .ok (.dup, 1) := by decide +kernel
theorem dX10_readOne_165 : decode cX10_readOne 165 = .ok (.getfield 380, 3) := by decide +kernel
theorem dX10_readOne_168 : decode cX10_readOne 168 = .ok (.iconst 1, 1) := by decide +kernel
theorem dX10_readOne_169 : decode cX10_readOne 169 = .ok (.isub, 1) := by decide +kernel
theorem dX10_readOne_170 : decode cX10_readOne 170 = .ok (.putfield 380, 3) := by decide +kernel
theorem dX10_readOne_173 : decode cX10_readOne 173 = .ok (.iload_n 3, 1) := by decide +kernel
theorem dX10_readOne_174 : decode cX10_readOne 174 = .ok (.ireturn, 1) := by decide +kernel
theorem dX10_readNot_0 : decode cX10_readNot 0 = .ok (.aload_n 0, 1) := by decide +kernel
theorem dX10_readNot_1 : decode cX10_readNot 1 = .ok (.invokevirtual 374, 3) := by decide +kernel
theorem dX10_readNot_4 : decode cX10_readNot 4 = .ok (.ifCond .ne 5, 3) := by decide +kernel
theorem dX10_readNot_7 : decode cX10_readNot 7 = .ok (.iconst 0, 1) := by decide +kernel
theorem dX10_readNot_8 : decode cX10_readNot 8 = .ok (.ireturn, 1) := by decide +kernel
theorem dX10_readNot_9 : decode cX10_readNot 9 = .ok (.aload_n 0, 1) := by decide +kernel
theorem dX10_readNot_10 : decode cX10_readNot 10 = .ok (.aload_n 0, 1) := by decide +kernel
theorem dX10_readNot_11 : decode cX10_readNot 11 = .ok (.iconst 1, 1) := by decide +kernel
theorem dX10_readNot_12 : decode cX10_readNot 12 = .ok (.aload_n 0, 1) := by decide +kernel
theorem dX10_readNot_13 : decode cX10_readNot 13 = .ok (.getfield 368, 3) := by decide +kernel
theorem dX10_readNot_16 : decode cX10_readNot 16 = .ok (.iconst 0, 1) := by decide +kernel
theorem dX10_readNot_17 : decode cX10_readNot 17 = .ok (.iconst 0, 1) := by decide +kernel
theorem dX10_readNot_18 : decode cX10_readNot 18 = .ok (.invokevirtual 371, 3) := by decide +kernel
theorem dX10_readNot_21 : decode cX10_readNot 21 = .ok (.putfield 368, 3) := by decide +kernel
theorem dX10_readNot_24 : decode cX10_readNot 24 = .ok (.iconst 1, 1) := by decide +kernel
theorem dX10_readNot_25 : decode cX10_readNot 25 = .ok (.ireturn, 1) := by decide +kernel
theorem dX10_readBracket_0 : decode cX10_readBracket 0 = .ok (.aload_n 0, 1) := by decide +kernel
theorem dX10_readBracket_1 : decode cX10_readBracket 1 = .ok (.invokevirtual 395, 3) := by decide +kernel
theorem dX10_readBracket_4 : decode cX10_readBracket 4 = .ok (.ifCond .ne 5, 3) := by decide +kernel
theorem dX10_readBracket_7 : decode cX10_readBracket 7 = .ok (.iconst 0, 1) := by decide +kernel
theorem dX10_readBracket_8 : decode cX10_readBracket 8 = .ok (.ireturn, 1) := by decide +kernel
theorem dX10_readBracket_9 : decode cX10_readBracket 9 = .ok (.aload_n 0, 1) := by decide +kernel
theorem dX10_readBracket_10 : decode cX10_readBracket 10 = .ok (.bipush 41, 2) := by decide +kernel
theorem dX10_readBracket_12 : decode cX10_readBracket 12 = .ok (.invokevirtual 164, 3) := by decide +kernel
theorem dX10_readBracket_15 : decode cX10_readBracket 15 = .ok (.ifCond .ne 9, 3) := by decide +kernel
theorem dX10_readBracket_18 : decode cX10_readBracket 18 = .ok (.aload_n 0, 1) := by decide +kernel
theorem dX10_readBracket_19 : decode cX10_readBracket 19 = .ok (.iconst 1, 1) := by decide +kernel
theorem dX10_readBracket_20 : decode cX10_readBracket 20 = .ok (.invokevirtual 151, 3) := by decide +kernel
theorem dX10_readBracket_23 : decode cX10_readBracket 23 = .ok (.ireturn, 1) := by decide +kernel
theorem dX10_readBracket_24 : decode cX10_readBracket 24 = .ok (.aload_n 0, 1) := by decide +kernel
theorem dX10_readBracket_25 : decode cX10_readBracket 25 = .ok (.invokevirtual 161, 3) := by decide +kernel
theorem dX10_readBracket_28 : decode cX10_readBracket 28 = .ok (.iconst 1, 1) := by decide +kernel
theorem dX10_readBracket_29 : decode cX10_readBracket 29 = .ok (.ireturn, 1) := by decide +kernel
theorem dX10_readNamed_0 : decode cX10_readNamed 0 = .ok (.aload_n 0, 1) := by decide +kernel
theorem dX10_readNamed_1 : decode cX10_readNamed 1 = .ok (.invokevirtual 191, 3) := by decide +kernel
theorem dX10_readNamed_4 : decode cX10_readNamed 4 = .ok (.ifCond .ne 9, 3) := by decide +kernel
theorem dX10_readNamed_7 : decode cX10_readNamed 7 = .ok (.aload_n 0, 1) := by decide +kernel
theorem dX10_readNamed_8 : decode cX10_readNamed 8 = .ok (.iconst 1, 1) := by decide +kernel
theorem dX10_readNamed_9 : decode cX10_readNamed 9 = .ok (.invokevirtual 151, 3) := by decide +kernel
theorem dX10_readNamed_12 : decode cX10_readNamed 12 = .ok (.ireturn, 1) := by decide +kernel
theorem dX10_readNamed_13 : decode cX10_readNamed 13 = .ok (.aload_n 0, 1) := by decide +kernel
theorem dX10_readNamed_14 : decode cX10_readNamed 14 = .ok (.aload_n 0, 1) := by decide +kernel
theorem dX10_readNamed_15 : decode cX10_readNamed 15 = .ok (.getfield 26, 3) := by decide +kernel
theorem dX10_readNamed_18 : decode cX10_readNamed 18 = .ok (.iconst 0, 1) := by decide +kernel
theorem dX10_readNamed_19 : decode cX10_readNamed 19 = .ok (.aload_n 0, 1) := by decide +kernel
theorem dX10_readNamed_20 : decode cX10_readNamed 20 = .ok (.invokevirtual 182, 3) := by decide +kernel
theorem dX10_readNamed_23 : decode cX10_readNamed 23 = .ok (.invokevirtual 195, 3) := by decide +kernel
theorem dX10_readNamed_26 : decode cX10_readNamed 26 = .ok (.istore_n 2, 1) := by decide +kernel
theorem dX10_readNamed_27 : decode cX10_readNamed 27 = .ok (.iload_n 2, 1) := by decide +kernel
theorem dX10_readNamed_28 : decode cX10_readNamed 28 = .ok (.iconst (-1), 1) := by decide +kernel
theorem dX10_readNamed_29 : decode cX10_readNamed 29 = .ok (.if_icmp .ne 9, 3) := by decide +kernel
theorem dX10_readNamed_32 : decode cX10_readNamed 32 = .ok (.aload_n 0, 1) := by decide +kernel
theorem dX10_readNamed_33 : decode cX10_readNamed 33 = .ok (.iconst 3, 1) := by decide +kernel
theorem dX10_readNamed_34 : decode cX10_readNamed 34 = .ok (.invokevirtual 151, 3) := by decide +kernel
theorem dX10_readNamed_37 : decode cX10_readNamed 37 = .ok (.ireturn, 1) := by decide +kernel
theorem dX10_readNamed_38 : decode cX10_readNamed 38 = .ok (.aload_n 0, 1) := by decide +kernel
theorem dX10_readNamed_39 : decode cX10_readNamed 39 = .ok (.aload_n 0, 1) := by decide +kernel
theorem dX10_readNamed_40 : decode cX10_readNamed 40 = .ok (.bipush 50, 2) := by decide +kernel
theorem dX10_readNamed_42 : decode cX10_readNamed 42 = .ok (.iload_n 1, 1) := by decide +kernel
theorem dX10_readNamed_43 : decode cX10_readNamed 43 = .ok (.iadd, 1) := by decide +kernel
theorem dX10_readNamed_44 : decode cX10_readNamed 44 = .ok (.iload_n 2, 1) := by decide +kernel
theorem dX10_readNamed_45 : decode cX10_readNamed 45 = .ok (.iconst 0, 1) := by decide +kernel
theorem dX10_readNamed_46 : decode cX10_readNamed 46 = .ok (.iconst 0, 1) := by decide +kernel
theorem dX10_readNamed_47 : decode cX10_readNamed 47 = .ok (.invokevirtual 371, 3) := by decide +kernel
theorem dX10_readNamed_50 : decode cX10_readNamed 50 = .ok (.putfield 368, 3) := by decide +kernel
theorem dX10_readNamed_53 : decode cX10_readNamed 53 = .ok (.aload_n 0, 1) := by decide +kernel
theorem dX10_readNamed_54 : decode cX10_readNamed 54 = .ok (.invokevirtual 161, 3) := by decide +kernel
theorem dX10_readNamed_57 : decode cX10_readNamed 57 = .ok (.iconst 1, 1) := by decide +kernel
theorem dX10_readNamed_58 : decode cX10_readNamed 58 = .ok (.ireturn, 1) := by decide +kernel
theorem dX10_readCompare_0 : decode cX10_readCompare 0 = .ok (.aload_n 0, 1) := by decide +kernel
theorem dX10_readCompare_1 : decode cX10_readCompare 1 = .ok (.bipush 60, 2) := by decide +kernel
theorem dX10_readCompare_3 : decode cX10_readCompare 3 = .ok (.invokevirtual 164, 3) := by decide +kernel
theorem dX10_readCompare_6 : decode cX10_readCompare 6 = .ok (.ifCond .ne 27, 3) := by decide +kernel
theorem dX10_readCompare_9 : decode cX10_readCompare 9 = .ok (.aload_n 0, 1) := by decide +kernel
theorem dX10_readCompare_10 : decode cX10_readCompare 10 = .ok (.bipush 61, 2) := by decide +kernel
theorem dX10_readCompare_12 : decode cX10_readCompare 12 = .ok (.invokevirtual 164, 3) := by decide +kernel
theorem dX10_readCompare_15 : decode cX10_readCompare 15 = .ok (.ifCond .ne 18, 3) := by decide +kernel
theorem dX10_readCompare_18 : decode cX10_readCompare 18 = .ok (.aload_n 0, 1) := by decide +kernel
theorem dX10_readCompare_19 : decode cX10_readCompare 19 = .ok (.bipush 62, 2) := by decide +kernel
theorem dX10_readCompare_21 : decode cX10_readCompare 21 = .ok (.invokevirtual 164, 3) := by decide +kernel
theorem dX10_readCompare_24 : decode cX10_readCompare 24 = .ok (.ifCond .ne 9, 3) := by decide +kernel
theorem dX10_readCompare_27 : decode cX10_readCompare 27 = .ok (.aload_n 0, 1) := by decide +kernel
theorem dX10_readCompare_28 : decode cX10_readCompare 28 = .ok (.iconst 1, 1) := by decide +kernel
theorem dX10_readCompare_29 : decode cX10_readCompare 29 = .ok (.invokevirtual 151, 3) := by decide +kernel
theorem dX10_readCompare_32 : decode cX10_readCompare 32 = .ok (.ireturn, 1) := by decide +kernel
theorem dX10_readCompare_33 : decode cX10_readCompare 33 = .ok (.aload_n 0, 1) := by decide +kernel
theorem dX10_readCompare_34 : decode cX10_readCompare 34 = .ok (.getfield 115, 3) := by decide +kernel
theorem dX10_readCompare_37 : decode cX10_readCompare 37 = .ok (.istore_n 2, 1) := by decide +kernel
theorem dX10_readCompare_38 : decode cX10_readCompare 38 = .ok (.aload_n 0, 1) := by decide +kernel
theorem dX10_readCompare_39 : decode cX10_readCompare 39 = .ok (.invokevirtual 161, 3) := by decide +kernel
theorem dX10_readCompare_42 : decode cX10_readCompare 42 = .ok (.aload_n 0, 1) := by decide +kernel
theorem dX10_readCompare_43 : decode cX10_readCompare 43 = .ok (.iconst 0, 1) := by decide +kernel
theorem dX10_readCompare_44 : decode cX10_readCompare 44 = .ok (.sipush 9999, 3) := by decide +kernel
theorem dX10_readCompare_47 : decode cX10_readCompare 47 = .ok (.invokevirtual 205, 3) := by decide +kernel
theorem dX10_readCompare_50 : decode cX10_readCompare 50 = .ok (.ifCond .ne 5, 3) := by decide +kernel
theorem dX10_readCompare_53 : decode cX10_readCompare 53 = .ok (.iconst 0, 1) := by decide +kernel
theorem dX10_readCompare_54 : decode cX10_readCompare 54 = .ok (.ireturn, 1) := by decide +kernel
theorem dX10_readCompare_55 : decode cX10_readCompare 55 = .ok (.aload_n 0, 1) := by decide +kernel
theorem dX10_readCompare_56 : decode cX10_readCompare 56 = .ok (.aload_n 0, 1) := by decide +kernel
theorem dX10_readCompare_57 : decode cX10_readCompare 57 = .ok (.bipush 50, 2) := by decide +kernel
theorem dX10_readCompare_59 : decode cX10_readCompare 59 = .ok (.iload_n 1, 1) := by decide +kernel
theorem dX10_readCompare_60 : decode cX10_readCompare 60 = .ok (.iadd, 1) := by decide +kernel
theorem dX10_readCompare_61 : decode cX10_readCompare 61 = .ok (.iconst 0, 1) := by decide +kernel
theorem dX10_readCompare_62 : decode cX10_readCompare 62 = .ok (.aload_n 0, 1) := by decide +kernel
theorem dX10_readCompare_63 : decode cX10_readCompare 63 = .ok (.getfield 158, 3) := by decide +kernel
theorem dX10_readCompare_66 : decode cX10_readCompare 66 = .ok (.iload_n 2, 1) := by decide +kernel
theorem dX10_readCompare_67 : decode cX10_readCompare 67 = .ok (.invokevirtual 371, 3) := by decide +kernel
theorem dX10_readCompare_70 : decode cX10_readCompare 70 = .ok (.putfield 368, 3) := by decide +kernel
theorem dX10_readCompare_73 : decode cX10_readCompare 73 = .ok (.iconst 1, 1) := by decide +kernel
theorem dX10_readCompare_74 : decode cX10_readCompare 74 = .ok (.ireturn, 1) := by decide +kernel
theorem dX10_sentence_0 : decode cX10_sentence 0 = .ok (.aload_n 0, 1) := by decide +kernel
theorem dX10_sentence_1 : decode cX10_sentence 1 = .ok (.sipush 200, 3) := by decide +kernel
theorem dX10_sentence_4 : decode cX10_sentence 4 = .ok (.invokevirtual 234, 3) := by decide +kernel
theorem dX10_sentence_7 : decode cX10_sentence 7 = .ok (.aload_n 0, 1) := by decide +kernel
theorem dX10_sentence_8 : decode cX10_sentence 8 = .ok (.iconst 0, 1) := by decide +kernel
theorem dX10_sentence_9 : decode cX10_sentence 9 = .ok (.putfield 362, 3) := by decide +kernel
theorem dX10_sentence_12 : decode cX10_sentence 12 = .ok (.aload_n 0, 1) := by decide +kernel
theorem dX10_sentence_13 : decode cX10_sentence 13 = .ok (.iconst 0, 1) := by decide +kernel
theorem dX10_sentence_14 : decode cX10_sentence 14 = .ok (.putfield 377, 3) := by decide +kernel
theorem dX10_sentence_17 : decode cX10_sentence 17 = .ok (.aload_n 0, 1) := by decide +kernel
theorem dX10_sentence_18 : decode cX10_sentence 18 = .ok (.iconst 0, 1) := by decide +kernel
theorem dX10_sentence_19 : decode cX10_sentence 19 = .ok (.putfield 380, 3) := by decide +kernel
theorem dX10_sentence_22 : decode cX10_sentence 22 = .ok (.aload_n 0, 1) := by decide +kernel
theorem dX10_sentence_23 : decode cX10_sentence 23 = .ok (.invokevirtual 395, 3) := by decide +kernel
theorem dX10_sentence_26 : decode cX10_sentence 26 = .ok (.ifCond .ne 10, 3) := by decide +kernel
theorem dX10_sentence_29 : decode cX10_sentence 29 = .ok (.iconst (-1), 1) := by decide +kernel
theorem dX10_sentence_30 : decode cX10_sentence 30 = .ok (.aload_n 0, 1) := by decide +kernel
theorem dX10_sentence_31 : decode cX10_sentence 31 = .ok (.getfield 148, 3) := by decide +kernel
theorem dX10_sentence_34 : decode cX10_sentence 34 = .ok (.isub, 1) := by decide +kernel
theorem dX10_sentence_35 : decode cX10_sentence 35 = .ok (.ireturn, 1) := by decide +kernel
theorem dX10_sentence_36 : decode cX10_sentence 36 = .ok (.aload_n 0, 1) := by decide +kernel
theorem dX10_sentence_37 : decode cX10_sentence 37 = .ok (.getfield 105, 3) := by decide +kernel
theorem dX10_sentence_40 : decode cX10_sentence 40 = .ok (.ifCond .eq 16, 3) := by decide +kernel
theorem dX10_sentence_43 : decode cX10_sentence 43 = .ok (.aload_n 0, 1) := by decide +kernel
theorem dX10_sentence_44 : decode cX10_sentence 44 = .ok (.iconst 1, 1) := by decide +kernel
theorem dX10_sentence_45 : decode cX10_sentence 45 = .ok (.invokevirtual 151, 3) := by decide +kernel
theorem dX10_sentence_48 : decode cX10_sentence 48 = .ok (.pop, 1) := by decide +kernel
theorem dX10_sentence_49 : decode cX10_sentence 49 = .ok (.iconst (-1), 1) := by decide +kernel
theorem dX10_sentence_50 : decode cX10_sentence 50 = .ok (.aload_n 0, 1) := by decide +kernel
theorem dX10_sentence_51 : decode cX10_sentence 51 = .ok (.getfield 148, 3) := by decide +kernel
theorem dX10_sentence_54 : decode cX10_sentence 54 = .ok (.isub, 1) := by decide +kernel
theorem dX10_sentence_55 : decode cX10_sentence 55 = .ok (.ireturn, 1) := by decide +kernel
theorem dX10_sentence_56 : decode cX10_sentence 56 = .ok (.aload_n 0, 1) := by decide +kernel
theorem dX10_sentence_57 : decode cX10_sentence 57 = .ok (.getfield 13, 3) := by decide +kernel
theorem dX10_sentence_60 : decode cX10_sentence 60 = .ok (.bipush 116, 2) := by decide +kernel
theorem dX10_sentence_62 : decode cX10_sentence 62 = .ok (.iconst 1, 1) := by decide +kernel
theorem dX10_sentence_63 : decode cX10_sentence 63 = .ok (.iastore, 1) := by decide +kernel
theorem dX10_sentence_64 : decode cX10_sentence 64 = .ok (.aload_n 0, 1) := by decide +kernel
theorem dX10_sentence_65 : decode cX10_sentence 65 = .ok (.getfield 13, 3) := by decide +kernel
theorem dX10_sentence_68 : decode cX10_sentence 68 = .ok (.bipush 117, 2) := by decide +kernel
theorem dX10_sentence_70 : decode cX10_sentence 70 = .ok (.aload_n 0, 1) := by decide +kernel
theorem dX10_sentence_71 : decode cX10_sentence 71 = .ok (.getfield 368, 3) := by decide +kernel
theorem dX10_sentence_74 : decode cX10_sentence 74 = .ok (.iastore, 1) := by decide +kernel
theorem dX10_sentence_75 : decode cX10_sentence 75 = .ok (.iconst 0, 1) := by decide +kernel
theorem dX10_sentence_76 : decode cX10_sentence 76 = .ok (.istore_n 1, 1) := by decide +kernel
theorem dX10_sentence_77 : decode cX10_sentence 77 = .ok (.iload_n 1, 1) := by decide +kernel
theorem dX10_sentence_78 : decode cX10_sentence 78 = .ok (.sipush 240, 3) := by decide +kernel
theorem dX10_sentence_81 : decode cX10_sentence 81 = .ok (.if_icmp .ge 25, 3) := by decide +kernel
theorem dX10_sentence_84 : decode cX10_sentence 84 = .ok (.aload_n 0, 1) := by decide +kernel
theorem dX10_sentence_85 : decode cX10_sentence 85 = .ok (.getfield 13, 3) := by decide +kernel
theorem dX10_sentence_88 : decode cX10_sentence 88 = .ok (.sipush 7900, 3) := by decide +kernel
theorem dX10_sentence_91 : decode cX10_sentence 91 = .ok (.iload_n 1, 1) := by decide +kernel
theorem dX10_sentence_92 : decode cX10_sentence 92 = .ok (.iadd, 1) := by decide +kernel
theorem dX10_sentence_93 : decode cX10_sentence 93 = .ok (.aload_n 0, 1) := by decide +kernel
theorem dX10_sentence_94 : decode cX10_sentence 94 = .ok (.getfield 80, 3) := by decide +kernel
theorem dX10_sentence_97 : decode cX10_sentence 97 = .ok (.iload_n 1, 1) := by decide +kernel
theorem dX10_sentence_98 : decode cX10_sentence 98 = .ok (.iaload, 1) := by decide +kernel
theorem dX10_sentence_99 : decode cX10_sentence 99 = .ok (.iastore, 1) := by decide +kernel
theorem dX10_sentence_100 : decode cX10_sentence 100 = .ok (.iinc 1 1, 3) := by decide +kernel
theorem dX10_sentence_103 : decode cX10_sentence 103 = .ok (.goto (-26), 3) := by decide +kernel
theorem dX10_sentence_106 : decode cX10_sentence 106 = .ok (.aload_n 0, 1) := by decide +kernel
theorem dX10_sentence_107 : decode cX10_sentence 107 = .ok (.getfield 377, 3) := by decide +kernel
theorem dX10_sentence_110 : decode cX10_sentence 110 = .ok (.ireturn, 1) := by decide +kernel
theorem dX10_shows_0 : decode cX10_shows 0 = .ok (.iconst 0, 1) := by decide +kernel
theorem dX10_shows_1 : decode cX10_shows 1 = .ok (.istore_n 3, 1) := by decide +kernel
theorem dX10_shows_2 : decode cX10_shows 2 = .ok (.iload_n 3, 1) := by decide +kernel
theorem dX10_shows_3 : decode cX10_shows 3 = .ok (.aload_n 0, 1) := by decide +kernel
theorem dX10_shows_4 : decode cX10_shows 4 = .ok (.iload_n 1, 1) := by decide +kernel
theorem dX10_shows_5 : decode cX10_shows 5 = .ok (.iconst 3, 1) := by decide +kernel
theorem dX10_shows_6 : decode cX10_shows 6 = .ok (.invokevirtual 256, 3) := by decide +kernel
theorem dX10_shows_9 : decode cX10_shows 9 = .ok (.if_icmp .ge 25, 3) := by decide +kernel
theorem dX10_shows_12 : decode cX10_shows 12 = .ok (.aload_n 0, 1) := by decide +kernel
theorem dX10_shows_13 : decode cX10_shows 13 = .ok (.iload_n 1, 1) := by decide +kernel
theorem dX10_shows_14 : decode cX10_shows 14 = .ok (.iconst 4, 1) := by decide +kernel
theorem dX10_shows_15 : decode cX10_shows 15 = .ok (.iconst 3, 1) := by decide +kernel
theorem dX10_shows_16 : decode cX10_shows 16 = .ok (.iload_n 3, 1) := by decide +kernel
theorem dX10_shows_17 : decode cX10_shows 17 = .ok (.imul, 1) := by decide +kernel
theorem dX10_shows_18 : decode cX10_shows 18 = .ok (.iadd, 1) := by decide +kernel
theorem dX10_shows_19 : decode cX10_shows 19 = .ok (.invokevirtual 256, 3) := by decide +kernel
theorem dX10_shows_22 : decode cX10_shows 22 = .ok (.iload_n 2, 1) := by decide +kernel
theorem dX10_shows_23 : decode cX10_shows 23 = .ok (.if_icmp .ne 5, 3) := by decide +kernel
theorem dX10_shows_26 : decode cX10_shows 26 = .ok (.iconst 1, 1) := by decide +kernel
theorem dX10_shows_27 : decode cX10_shows 27 = .ok (.ireturn, 1) := by decide +kernel
theorem dX10_shows_28 : decode cX10_shows 28 = .ok (.iinc 3 1, 3) := by decide +kernel
theorem dX10_shows_31 : decode cX10_shows 31 = .ok (.goto (-29), 3) := by decide +kernel
theorem dX10_shows_34 : decode cX10_shows 34 = .ok (.iconst 0, 1) := by decide +kernel
theorem dX10_shows_35 : decode cX10_shows 35 = .ok (.ireturn, 1) := by decide +kernel
theorem dX10_holds_0 : decode cX10_holds 0 = .ok (.sipush 7900, 3) := by decide +kernel
theorem dX10_holds_3 : decode cX10_holds 3 = .ok (.iconst 4, 1) := by decide +kernel
theorem dX10_holds_4 : decode cX10_holds 4 = .ok (.iload_n 1, 1) := by decide +kernel
theorem dX10_holds_5 : decode cX10_holds 5 = .ok (.imul, 1) := by decide +kernel
theorem dX10_holds_6 : decode cX10_holds 6 = .ok (.iadd, 1) := by decide +kernel
theorem dX10_holds_7 : decode cX10_holds 7 = .ok (.istore_n 3, 1) := by decide +kernel
theorem dX10_holds_8 : decode cX10_holds 8 = .ok (.aload_n 0, 1) := by decide +kernel
theorem dX10_holds_9 : decode cX10_holds 9 = .ok (.getfield 13, 3) := by decide +kernel
theorem dX10_holds_12 : decode cX10_holds 12 = .ok (.iload_n 3, 1) := by decide +kernel
theorem dX10_holds_13 : decode cX10_holds 13 = .ok (.iconst 1, 1) := by decide +kernel
theorem dX10_holds_14 : decode cX10_holds 14 = .ok (.iadd, 1) := by decide +kernel
theorem dX10_holds_15 : decode cX10_holds 15 = .ok (.iaload, 1) := by decide +kernel
theorem dX10_holds_16 : decode cX10_holds 16 = .ok (.istore 4, 2) := by decide +kernel
theorem dX10_holds_18 : decode cX10_holds 18 = .ok (.aload_n 0, 1) := by decide +kernel
theorem dX10_holds_19 : decode cX10_holds 19 = .ok (.getfield 13, 3) := by decide +kernel
theorem dX10_holds_22 : decode cX10_holds 22 = .ok (.iload_n 3, 1) := by decide +kernel
theorem dX10_holds_23 : decode cX10_holds 23 = .ok (.iconst 2, 1) := by decide +kernel
theorem dX10_holds_24 : decode cX10_holds 24 = .ok (.iadd, 1) := by decide +kernel
theorem dX10_holds_25 : decode cX10_holds 25 = .ok (.iaload, 1) := by decide +kernel
theorem dX10_holds_26 : decode cX10_holds 26 = .ok (.istore 5, 2) := by decide +kernel
theorem dX10_holds_28 : decode cX10_holds 28 = .ok (.aload_n 0, 1) := by decide +kernel
theorem dX10_holds_29 : decode cX10_holds 29 = .ok (.getfield 13, 3) := by decide +kernel
theorem dX10_holds_32 : decode cX10_holds 32 = .ok (.iload_n 3, 1) := by decide +kernel
theorem dX10_holds_33 : decode cX10_holds 33 = .ok (.iaload, 1) := by decide +kernel
theorem dX10_holds_34 : decode cX10_holds 34 = .ok (.lookupswitch 189 #[(1, 66), (2, 82), (3, 108), (4, 134), (62, 148), (63, 164), (64, 172)], 66) := by decide +kernel
theorem dX10_holds_100 : decode cX10_holds 100 = .ok (.aload_n 0, 1) := by decide +kernel
theorem dX10_holds_101 : decode cX10_holds 101 = .ok (.iload 4, 2) := by decide +kernel
theorem dX10_holds_103 : decode cX10_holds 103 = .ok (.iload_n 2, 1) := by decide +kernel
theorem dX10_holds_104 : decode cX10_holds 104 = .ok (.invokevirtual 398, 3) := by decide +kernel
theorem dX10_holds_107 : decode cX10_holds 107 = .ok (.ifCond .ne 7, 3) := by decide +kernel
theorem dX10_holds_110 : decode cX10_holds 110 = .ok (.iconst 1, 1) := by decide +kernel
theorem dX10_holds_111 : decode cX10_holds 111 = .ok (.goto 4, 3) := by decide +kernel
theorem dX10_holds_114 : decode cX10_holds 114 = .ok (.iconst 0, 1) := by decide +kernel
theorem dX10_holds_115 : decode cX10_holds 115 = .ok (.ireturn, 1) := by decide +kernel
theorem dX10_holds_116 : decode cX10_holds 116 = .ok (.aload_n 0, 1) := by decide +kernel
theorem dX10_holds_117 : decode cX10_holds 117 = .ok (.iload 4, 2) := by decide +kernel
theorem dX10_holds_119 : decode cX10_holds 119 = .ok (.iload_n 2, 1) := by decide +kernel
theorem dX10_holds_120 : decode cX10_holds 120 = .ok (.invokevirtual 398, 3) := by decide +kernel
theorem dX10_holds_123 : decode cX10_holds 123 = .ok (.ifCond .eq 17, 3) := by decide +kernel
theorem dX10_holds_126 : decode cX10_holds 126 = .ok (.aload_n 0, 1) := by decide +kernel
theorem dX10_holds_127 : decode cX10_holds 127 = .ok (.iload 5, 2) := by decide +kernel
theorem dX10_holds_129 : decode cX10_holds 129 = .ok (.iload_n 2, 1) := by decide +kernel
theorem dX10_holds_130 : decode cX10_holds 130 = .ok (.invokevirtual 398, 3) := by decide +kernel
theorem dX10_holds_133 : decode cX10_holds 133 = .ok (.ifCond .eq 7, 3) := by decide +kernel
theorem dX10_holds_136 : decode cX10_holds 136 = .ok (.iconst 1, 1) := by decide +kernel
theorem dX10_holds_137 : decode cX10_holds 137 = .ok (.goto 4, 3) := by decide +kernel
theorem dX10_holds_140 : decode cX10_holds 140 = .ok (.iconst 0, 1) := by decide +kernel
theorem dX10_holds_141 : decode cX10_holds 141 = .ok (.ireturn, 1) := by decide +kernel
theorem dX10_holds_142 : decode cX10_holds 142 = .ok (.aload_n 0, 1) := by decide +kernel
theorem dX10_holds_143 : decode cX10_holds 143 = .ok (.iload 4, 2) := by decide +kernel
theorem dX10_holds_145 : decode cX10_holds 145 = .ok (.iload_n 2, 1) := by decide +kernel
theorem dX10_holds_146 : decode cX10_holds 146 = .ok (.invokevirtual 398, 3) := by decide +kernel
theorem dX10_holds_149 : decode cX10_holds 149 = .ok (.ifCond .ne 13, 3) := by decide +kernel
theorem dX10_holds_152 : decode cX10_holds 152 = .ok (.aload_n 0, 1) := by decide +kernel
theorem dX10_holds_153 : decode cX10_holds 153 = .ok (.iload 5, 2) := by decide +kernel
theorem dX10_holds_155 : decode cX10_holds 155 = .ok (.iload_n 2, 1) := by decide +kernel
theorem dX10_holds_156 : decode cX10_holds 156 = .ok (.invokevirtual 398, 3) := by decide +kernel
theorem dX10_holds_159 : decode cX10_holds 159 = .ok (.ifCond .eq 7, 3) := by decide +kernel
theorem dX10_holds_162 : decode cX10_holds 162 = .ok (.iconst 1, 1) := by decide +kernel
theorem dX10_holds_163 : decode cX10_holds 163 = .ok (.goto 4, 3) := by decide +kernel
theorem dX10_holds_166 : decode cX10_holds 166 = .ok (.iconst 0, 1) := by decide +kernel
theorem dX10_holds_167 : decode cX10_holds 167 = .ok (.ireturn, 1) := by decide +kernel
theorem dX10_holds_168 : decode cX10_holds 168 = .ok (.aload_n 0, 1) := by decide +kernel
theorem dX10_holds_169 : decode cX10_holds 169 = .ok (.iload_n 2, 1) := by decide +kernel
theorem dX10_holds_170 : decode cX10_holds 170 = .ok (.invokevirtual 285, 3) := by decide +kernel
theorem dX10_holds_173 : decode cX10_holds 173 = .ok (.ifCond .le 7, 3) := by decide +kernel
theorem dX10_holds_176 : decode cX10_holds 176 = .ok (.iconst 1, 1) := by decide +kernel
theorem dX10_holds_177 : decode cX10_holds 177 = .ok (.goto 4, 3) := by decide +kernel
theorem dX10_holds_180 : decode cX10_holds 180 = .ok (.iconst 0, 1) := by decide +kernel
theorem dX10_holds_181 : decode cX10_holds 181 = .ok (.ireturn, 1) := by decide +kernel
theorem dX10_holds_182 : decode cX10_holds 182 = .ok (.aload_n 0, 1) := by decide +kernel
theorem dX10_holds_183 : decode cX10_holds 183 = .ok (.iload_n 2, 1) := by decide +kernel
theorem dX10_holds_184 : decode cX10_holds 184 = .ok (.invokevirtual 253, 3) := by decide +kernel
theorem dX10_holds_187 : decode cX10_holds 187 = .ok (.iload 4, 2) := by decide +kernel
theorem dX10_holds_189 : decode cX10_holds 189 = .ok (.if_icmp .ne 7, 3) := by decide +kernel
theorem dX10_holds_192 : decode cX10_holds 192 = .ok (.iconst 1, 1) := by decide +kernel
theorem dX10_holds_193 : decode cX10_holds 193 = .ok (.goto 4, 3) := by decide +kernel
theorem dX10_holds_196 : decode cX10_holds 196 = .ok (.iconst 0, 1) := by decide +kernel
theorem dX10_holds_197 : decode cX10_holds 197 = .ok (.ireturn, 1) := by decide +kernel
theorem dX10_holds_198 : decode cX10_holds 198 = .ok (.aload_n 0, 1) := by decide +kernel
theorem dX10_holds_199 : decode cX10_holds 199 = .ok (.iload_n 2, 1) := by decide +kernel
theorem dX10_holds_200 : decode cX10_holds 200 = .ok (.iload 4, 2) := by decide +kernel
theorem dX10_holds_202 : decode cX10_holds 202 = .ok (.invokevirtual 401, 3) := by decide +kernel
theorem dX10_holds_205 : decode cX10_holds 205 = .ok (.ireturn, 1) := by decide +kernel
theorem dX10_holds_206 : decode cX10_holds 206 = .ok (.aload_n 0, 1) := by decide +kernel
theorem dX10_holds_207 : decode cX10_holds 207 = .ok (.iload_n 2, 1) := by decide +kernel
theorem dX10_holds_208 : decode cX10_holds 208 = .ok (.iconst 1, 1) := by decide +kernel
theorem dX10_holds_209 : decode cX10_holds 209 = .ok (.invokevirtual 256, 3) := by decide +kernel
theorem dX10_holds_212 : decode cX10_holds 212 = .ok (.iload 4, 2) := by decide +kernel
theorem dX10_holds_214 : decode cX10_holds 214 = .ok (.if_icmp .ne 7, 3) := by decide +kernel
theorem dX10_holds_217 : decode cX10_holds 217 = .ok (.iconst 1, 1) := by decide +kernel
theorem dX10_holds_218 : decode cX10_holds 218 = .ok (.goto 4, 3) := by decide +kernel
theorem dX10_holds_221 : decode cX10_holds 221 = .ok (.iconst 0, 1) := by decide +kernel
theorem dX10_holds_222 : decode cX10_holds 222 = .ok (.ireturn, 1) := by decide +kernel
theorem dX10_holds_223 : decode cX10_holds 223 = .ok (.aload_n 0, 1) := by decide +kernel
theorem dX10_holds_224 : decode cX10_holds 224 = .ok (.getfield 13, 3) := by decide +kernel
theorem dX10_holds_227 : decode cX10_holds 227 = .ok (.iload_n 3, 1) := by decide +kernel
theorem dX10_holds_228 : decode cX10_holds 228 = .ok (.iaload, 1) := by decide +kernel
theorem dX10_holds_229 : decode cX10_holds 229 = .ok (.bipush 50, 2) := by decide +kernel
theorem dX10_holds_231 : decode cX10_holds 231 = .ok (.isub, 1) := by decide +kernel
theorem dX10_holds_232 : decode cX10_holds 232 = .ok (.istore 6, 2) := by decide +kernel
theorem dX10_holds_234 : decode cX10_holds 234 = .ok (.aload_n 0, 1) := by decide +kernel
theorem dX10_holds_235 : decode cX10_holds 235 = .ok (.iload_n 2, 1) := by decide +kernel
theorem dX10_holds_236 : decode cX10_holds 236 = .ok (.iload 6, 2) := by decide +kernel
theorem dX10_holds_238 : decode cX10_holds 238 = .ok (.bipush 16, 2) := by decide +kernel
theorem dX10_holds_240 : decode cX10_holds 240 = .ok (.if_icmp .ne 7, 3) := by decide +kernel
theorem dX10_holds_243 : decode cX10_holds 243 = .ok (.iconst 0, 1) := by decide +kernel
theorem dX10_holds_244 : decode cX10_holds 244 = .ok (.goto 15, 3) := by decide +kernel
theorem dX10_holds_247 : decode cX10_holds 247 = .ok (.iload 6, 2) := by decide +kernel
theorem dX10_holds_249 : decode cX10_holds 249 = .ok (.bipush 17, 2) := by decide +kernel
theorem dX10_holds_251 : decode cX10_holds 251 = .ok (.if_icmp .ne 7, 3) := by decide +kernel
theorem dX10_holds_254 : decode cX10_holds 254 = .ok (.iconst 3, 1) := by decide +kernel
theorem dX10_holds_255 : decode cX10_holds 255 = .ok (.goto 4, 3) := by decide +kernel
theorem dX10_holds_258 : decode cX10_holds 258 = .ok (.iconst 2, 1) := by decide +kernel
theorem dX10_holds_259 : decode cX10_holds 259 = .ok (.invokevirtual 256, 3) := by decide +kernel
theorem dX10_holds_262 : decode cX10_holds 262 = .ok (.istore 7, 2) := by decide +kernel
theorem dX10_holds_264 : decode cX10_holds 264 = .ok (.aload_n 0, 1) := by decide +kernel
theorem dX10_holds_265 : decode cX10_holds 265 = .ok (.getfield 13, 3) := by decide +kernel
theorem dX10_holds_268 : decode cX10_holds 268 = .ok (.iload_n 3, 1) := by decide +kernel
theorem dX10_holds_269 : decode cX10_holds 269 = .ok (.iconst 3, 1) := by decide +kernel
theorem dX10_holds_270 : decode cX10_holds 270 = .ok (.iadd, 1) := by decide +kernel
theorem dX10_holds_271 : decode cX10_holds 271 = .ok (.iaload, 1) := by decide +kernel
theorem dX10_holds_272 : decode cX10_holds 272 = .ok (.bipush 60, 2) := by decide +kernel
theorem dX10_holds_274 : decode cX10_holds 274 = .ok (.if_icmp .ne 18, 3) := by decide +kernel
theorem dX10_holds_277 : decode cX10_holds 277 = .ok (.iload 7, 2) := by decide +kernel
theorem dX10_holds_279 : decode cX10_holds 279 = .ok (.iload 5, 2) := by decide +kernel
theorem dX10_holds_281 : decode cX10_holds 281 = .ok (.if_icmp .ge 7, 3) := by decide +kernel
theorem dX10_holds_284 : decode cX10_holds 284 = .ok (.iconst 1, 1) := by decide +kernel
theorem dX10_holds_285 : decode cX10_holds 285 = .ok (.goto 47, 3) := by decide +kernel
theorem dX10_holds_288 : decode cX10_holds 288 = .ok (.iconst 0, 1) := by decide +kernel
theorem dX10_holds_289 : decode cX10_holds 289 = .ok (.goto 43, 3) := by decide +kernel
theorem dX10_holds_292 : decode cX10_holds 292 = .ok (.aload_n 0, 1) := by decide +kernel
theorem dX10_holds_293 : decode cX10_holds 293 = .ok (.getfield 13, 3) := by decide +kernel
theorem dX10_holds_296 : decode cX10_holds 296 = .ok (.iload_n 3, 1) := by decide +kernel
theorem dX10_holds_297 : decode cX10_holds 297 = .ok (.iconst 3, 1) := by decide +kernel
theorem dX10_holds_298 : decode cX10_holds 298 = .ok (.iadd, 1) := by decide +kernel
theorem dX10_holds_299 : decode cX10_holds 299 = .ok (.iaload, 1) := by decide +kernel
theorem dX10_holds_300 : decode cX10_holds 300 = .ok (.bipush 61, 2) := by decide +kernel
theorem dX10_holds_302 : decode cX10_holds 302 = .ok (.if_icmp .ne 18, 3) := by decide +kernel
theorem dX10_holds_305 : decode cX10_holds 305 = .ok (.iload 7, 2) := by decide +kernel
theorem dX10_holds_307 : decode cX10_holds 307 = .ok (.iload 5, 2) := by decide +kernel
theorem dX10_holds_309 : decode cX10_holds 309 = .ok (.if_icmp .ne 7, 3) := by decide +kernel
theorem dX10_holds_312 : decode cX10_holds 312 = .ok (.iconst 1, 1) := by decide +kernel
theorem dX10_holds_313 : decode cX10_holds 313 = .ok (.goto 19, 3) := by decide +kernel
theorem dX10_holds_316 : decode cX10_holds 316 = .ok (.iconst 0, 1) := by decide +kernel
theorem dX10_holds_317 : decode cX10_holds 317 = .ok (.goto 15, 3) := by decide +kernel
theorem dX10_holds_320 : decode cX10_holds 320 = .ok (.iload 7, 2) := by decide +kernel
theorem dX10_holds_322 : decode cX10_holds 322 = .ok (.iload 5, 2) := by decide +kernel
theorem dX10_holds_324 : decode cX10_holds 324 = .ok (.if_icmp .le 7, 3) := by decide +kernel
theorem dX10_holds_327 : decode cX10_holds 327 = .ok (.iconst 1, 1) := by decide +kernel
theorem dX10_holds_328 : decode cX10_holds 328 = .ok (.goto 4, 3) := by decide +kernel
theorem dX10_holds_331 : decode cX10_holds 331 = .ok (.iconst 0, 1) := by decide +kernel
theorem dX10_holds_332 : decode cX10_holds 332 = .ok (.ireturn, 1) := by decide +kernel
theorem dX10_said_0 : decode cX10_said 0 = .ok (.aload_n 0, 1) := by decide +kernel
theorem dX10_said_1 : decode cX10_said 1 = .ok (.iconst 0, 1) := by decide +kernel
theorem dX10_said_2 : decode cX10_said 2 = .ok (.putfield 83, 3) := by decide +kernel
theorem dX10_said_5 : decode cX10_said 5 = .ok (.aload_n 0, 1) := by decide +kernel
theorem dX10_said_6 : decode cX10_said 6 = .ok (.invokevirtual 167, 3) := by decide +kernel
theorem dX10_said_9 : decode cX10_said 9 = .ok (.aload_n 0, 1) := by decide +kernel
theorem dX10_said_10 : decode cX10_said 10 = .ok (.getfield 13, 3) := by decide +kernel
theorem dX10_said_13 : decode cX10_said 13 = .ok (.bipush 116, 2) := by decide +kernel
theorem dX10_said_15 : decode cX10_said 15 = .ok (.iaload, 1) := by decide +kernel
theorem dX10_said_16 : decode cX10_said 16 = .ok (.ifCond .ne 5, 3) := by decide +kernel
theorem dX10_said_19 : decode cX10_said 19 = .ok (.iconst (-1), 1) := by decide +kernel
theorem dX10_said_20 : decode cX10_said 20 = .ok (.ireturn, 1) := by decide +kernel
theorem dX10_said_21 : decode cX10_said 21 = .ok (.iconst 0, 1) := by decide +kernel
theorem dX10_said_22 : decode cX10_said 22 = .ok (.istore_n 2, 1) := by decide +kernel
theorem dX10_said_23 : decode cX10_said 23 = .ok (.iconst 0, 1) := by decide +kernel
theorem dX10_said_24 : decode cX10_said 24 = .ok (.istore_n 3, 1) := by decide +kernel
theorem dX10_said_25 : decode cX10_said 25 = .ok (.iload_n 3, 1) := by decide +kernel
theorem dX10_said_26 : decode cX10_said 26 = .ok (.aload_n 0, 1) := by decide +kernel
theorem dX10_said_27 : decode cX10_said 27 = .ok (.invokevirtual 188, 3) := by decide +kernel
theorem dX10_said_30 : decode cX10_said 30 = .ok (.if_icmp .ge 37, 3) := by decide +kernel
theorem dX10_said_33 : decode cX10_said 33 = .ok (.aload_n 0, 1) := by decide +kernel
theorem dX10_said_34 : decode cX10_said 34 = .ok (.aload_n 0, 1) := by decide +kernel
theorem dX10_said_35 : decode cX10_said 35 = .ok (.getfield 13, 3) := by decide +kernel
theorem dX10_said_38 : decode cX10_said 38 = .ok (.bipush 117, 2) := by decide +kernel
theorem dX10_said_40 : decode cX10_said 40 = .ok (.iaload, 1) := by decide +kernel
theorem dX10_said_41 : decode cX10_said 41 = .ok (.iload_n 3, 1) := by decide +kernel
theorem dX10_said_42 : decode cX10_said 42 = .ok (.invokevirtual 398, 3) := by decide +kernel
theorem dX10_said_45 : decode cX10_said 45 = .ok (.ifCond .ne 6, 3) := by decide +kernel
theorem dX10_said_48 : decode cX10_said 48 = .ok (.goto 13, 3) := by decide +kernel
theorem dX10_said_51 : decode cX10_said 51 = .ok (.iload_n 2, 1) := by decide +kernel
theorem dX10_said_52 : decode cX10_said 52 = .ok (.iload_n 1, 1) := by decide +kernel
theorem dX10_said_53 : decode cX10_said 53 = .ok (.if_icmp .ne 5, 3) := by decide +kernel
theorem dX10_said_56 : decode cX10_said 56 = .ok (.iload_n 3, 1) := by decide +kernel
theorem dX10_said_57 : decode cX10_said 57 = .ok (.ireturn, 1) := by decide +kernel
theorem dX10_said_58 : decode cX10_said 58 = .ok (.iinc 2 1, 3) := by decide +kernel
theorem dX10_said_61 : decode cX10_said 61 = .ok (.iinc 3 1, 3) := by decide +kernel
theorem dX10_said_64 : decode cX10_said 64 = .ok (.goto (-39), 3) := by decide +kernel
theorem dX10_said_67 : decode cX10_said 67 = .ok (.iload_n 1, 1) := by decide +kernel
theorem dX10_said_68 : decode cX10_said 68 = .ok (.iconst (-1), 1) := by decide +kernel
theorem dX10_said_69 : decode cX10_said 69 = .ok (.if_icmp .ne 7, 3) := by decide +kernel
theorem dX10_said_72 : decode cX10_said 72 = .ok (.iload_n 2, 1) := by decide +kernel
theorem dX10_said_73 : decode cX10_said 73 = .ok (.goto 4, 3) := by decide +kernel
theorem dX10_said_76 : decode cX10_said 76 = .ok (.iconst (-1), 1) := by decide +kernel
theorem dX10_said_77 : decode cX10_said 77 = .ok (.ireturn, 1) := by decide +kernel
theorem dX10_image_0 : decode cX10_image 0 = .ok (.aload_n 0, 1) := by decide +kernel
theorem dX10_image_1 : decode cX10_image 1 = .ok (.iconst 0, 1) := by decide +kernel
theorem dX10_image_2 : decode cX10_image 2 = .ok (.putfield 83, 3) := by decide +kernel
theorem dX10_image_5 : decode cX10_image 5 = .ok (.aload_n 0, 1) := by decide +kernel
theorem dX10_image_6 : decode cX10_image 6 = .ok (.invokevirtual 167, 3) := by decide +kernel
theorem dX10_image_9 : decode cX10_image 9 = .ok (.iload_n 1, 1) := by decide +kernel
theorem dX10_image_10 : decode cX10_image 10 = .ok (.iconst 0, 1) := by decide +kernel
theorem dX10_image_11 : decode cX10_image 11 = .ok (.iconst 1, 1) := by decide +kernel
theorem dX10_image_12 : decode cX10_image 12 = .ok (.invokestatic 154, 3) := by decide +kernel
theorem dX10_image_15 : decode cX10_image 15 = .ok (.ifCond .ne 5, 3) := by decide +kernel
theorem dX10_image_18 : decode cX10_image 18 = .ok (.iconst 0, 1) := by decide +kernel
theorem dX10_image_19 : decode cX10_image 19 = .ok (.ireturn, 1) := by decide +kernel
theorem dX10_image_20 : decode cX10_image 20 = .ok (.iconst 0, 1) := by decide +kernel
theorem dX10_image_21 : decode cX10_image 21 = .ok (.istore_n 2, 1) := by decide +kernel
theorem dX10_image_22 : decode cX10_image 22 = .ok (.iload_n 2, 1) := by decide +kernel
theorem dX10_image_23 : decode cX10_image 23 = .ok (.sipush 8140, 3) := by decide +kernel
theorem dX10_image_26 : decode cX10_image 26 = .ok (.if_icmp .ge 27, 3) := by decide +kernel
theorem dX10_image_29 : decode cX10_image 29 = .ok (.aload_n 0, 1) := by decide +kernel
theorem dX10_image_30 : decode cX10_image 30 = .ok (.getfield 19, 3) := by decide +kernel
theorem dX10_image_33 : decode cX10_image 33 = .ok (.sipush 8140, 3) := by decide +kernel
theorem dX10_image_36 : decode cX10_image 36 = .ok (.iload_n 1, 1) := by decide +kernel
theorem dX10_image_37 : decode cX10_image 37 = .ok (.imul, 1) := by decide +kernel
theorem dX10_image_38 : decode cX10_image 38 = .ok (.iload_n 2, 1) := by decide +kernel
theorem dX10_image_39 : decode cX10_image 39 = .ok (.iadd, 1) := by decide +kernel
theorem dX10_image_40 : decode cX10_image 40 = .ok (.aload_n 0, 1) := by decide +kernel
theorem dX10_image_41 : decode cX10_image 41 = .ok (.getfield 13, 3) := by decide +kernel
theorem dX10_image_44 : decode cX10_image 44 = .ok (.iload_n 2, 1) := by decide +kernel
theorem dX10_image_45 : decode cX10_image 45 = .ok (.iaload, 1) := by decide +kernel
theorem dX10_image_46 : decode cX10_image 46 = .ok (.iastore, 1) := by decide +kernel
theorem dX10_image_47 : decode cX10_image 47 = .ok (.iinc 2 1, 3) := by decide +kernel
theorem dX10_image_50 : decode cX10_image 50 = .ok (.goto (-28), 3) := by decide +kernel
theorem dX10_image_53 : decode cX10_image 53 = .ok (.iconst 0, 1) := by decide +kernel
theorem dX10_image_54 : decode cX10_image 54 = .ok (.istore_n 2, 1) := by decide +kernel
theorem dX10_image_55 : decode cX10_image 55 = .ok (.iload_n 2, 1) := by decide +kernel
theorem dX10_image_56 : decode cX10_image 56 = .ok (.bipush 12, 2) := by decide +kernel
theorem dX10_image_58 : decode cX10_image 58 = .ok (.if_icmp .ge 26, 3) := by decide +kernel
theorem dX10_image_61 : decode cX10_image 61 = .ok (.aload_n 0, 1) := by decide +kernel
theorem dX10_image_62 : decode cX10_image 62 = .ok (.getfield 33, 3) := by decide +kernel
theorem dX10_image_65 : decode cX10_image 65 = .ok (.bipush 12, 2) := by decide +kernel
theorem dX10_image_67 : decode cX10_image 67 = .ok (.iload_n 1, 1) := by decide +kernel
theorem dX10_image_68 : decode cX10_image 68 = .ok (.imul, 1) := by decide +kernel
theorem dX10_image_69 : decode cX10_image 69 = .ok (.iload_n 2, 1) := by decide +kernel
theorem dX10_image_70 : decode cX10_image 70 = .ok (.iadd, 1) := by decide +kernel
theorem dX10_image_71 : decode cX10_image 71 = .ok (.aload_n 0, 1) := by decide +kernel
theorem dX10_image_72 : decode cX10_image 72 = .ok (.getfield 26, 3) := by decide +kernel
theorem dX10_image_75 : decode cX10_image 75 = .ok (.iload_n 2, 1) := by decide +kernel
theorem dX10_image_76 : decode cX10_image 76 = .ok (.laload, 1) := by decide +kernel
theorem dX10_image_77 : decode cX10_image 77 = .ok (.lastore, 1) := by decide +kernel
theorem dX10_image_78 : decode cX10_image 78 = .ok (.iinc 2 1, 3) := by decide +kernel
theorem dX10_image_81 : decode cX10_image 81 = .ok (.goto (-26), 3) := by decide +kernel
theorem dX10_image_84 : decode cX10_image 84 = .ok (.aload_n 0, 1) := by decide +kernel
theorem dX10_image_85 : decode cX10_image 85 = .ok (.getfield 36, 3) := by decide +kernel
theorem dX10_image_88 : decode cX10_image 88 = .ok (.iload_n 1, 1) := by decide +kernel
theorem dX10_image_89 : decode cX10_image 89 = .ok (.iconst 1, 1) := by decide +kernel
theorem dX10_image_90 : decode cX10_image 90 = .ok (.bastore, 1) := by decide +kernel
theorem dX10_image_91 : decode cX10_image 91 = .ok (.iconst 1, 1) := by decide +kernel
theorem dX10_image_92 : decode cX10_image 92 = .ok (.ireturn, 1) := by decide +kernel
theorem dX10_restore_0 : decode cX10_restore 0 = .ok (.aload_n 0, 1) := by decide +kernel
theorem dX10_restore_1 : decode cX10_restore 1 = .ok (.iconst 0, 1) := by decide +kernel
theorem dX10_restore_2 : decode cX10_restore 2 = .ok (.putfield 83, 3) := by decide +kernel
theorem dX10_restore_5 : decode cX10_restore 5 = .ok (.aload_n 0, 1) := by decide +kernel
theorem dX10_restore_6 : decode cX10_restore 6 = .ok (.invokevirtual 167, 3) := by decide +kernel
theorem dX10_restore_9 : decode cX10_restore 9 = .ok (.iload_n 1, 1) := by decide +kernel
theorem dX10_restore_10 : decode cX10_restore 10 = .ok (.iconst 0, 1) := by decide +kernel
theorem dX10_restore_11 : decode cX10_restore 11 = .ok (.iconst 1, 1) := by decide +kernel
theorem dX10_restore_12 : decode cX10_restore 12 = .ok (.invokestatic 154, 3) := by decide +kernel
theorem dX10_restore_15 : decode cX10_restore 15 = .ok (.ifCond .eq 12, 3) := by decide +kernel
theorem dX10_restore_18 : decode cX10_restore 18 = .ok (.aload_n 0, 1) := by decide +kernel
theorem dX10_restore_19 : decode cX10_restore 19 = .ok (.getfield 36, 3) := by decide +kernel
theorem dX10_restore_22 : decode cX10_restore 22 = .ok (.iload_n 1, 1) := by decide +kernel
theorem dX10_restore_23 : decode cX10_restore 23 = .ok (.baload, 1) := by decide +kernel
theorem dX10_restore_24 : decode cX10_restore 24 = .ok (.ifCond .ne 5, 3) := by decide +kernel
theorem dX10_restore_27 : decode cX10_restore 27 = .ok (.iconst 0, 1) := by decide +kernel
theorem dX10_restore_28 : decode cX10_restore 28 = .ok (.ireturn, 1) := by decide +kernel
theorem dX10_restore_29 : decode cX10_restore 29 = .ok (.iconst 0, 1) := by decide +kernel
theorem dX10_restore_30 : decode cX10_restore 30 = .ok (.istore_n 2, 1) := by decide +kernel
theorem dX10_restore_31 : decode cX10_restore 31 = .ok (.iload_n 2, 1) := by decide +kernel
theorem dX10_restore_32 : decode cX10_restore 32 = .ok (.sipush 8140, 3) := by decide +kernel
theorem dX10_restore_35 : decode cX10_restore 35 = .ok (.if_icmp .ge 27, 3) := by decide +kernel
theorem dX10_restore_38 : decode cX10_restore 38 = .ok (.aload_n 0, 1) := by decide +kernel
theorem dX10_restore_39 : decode cX10_restore 39 = .ok (.getfield 13, 3) := by decide +kernel
theorem dX10_restore_42 : decode cX10_restore 42 = .ok (.iload_n 2, 1) := by decide +kernel
theorem dX10_restore_43 : decode cX10_restore 43 = .ok (.aload_n 0, 1) := by decide +kernel
theorem dX10_restore_44 : decode cX10_restore 44 = .ok (.getfield 19, 3) := by decide +kernel
theorem dX10_restore_47 : decode cX10_restore 47 = .ok (.sipush 8140, 3) := by decide +kernel
theorem dX10_restore_50 : decode cX10_restore 50 = .ok (.iload_n 1, 1) := by decide +kernel
theorem dX10_restore_51 : decode cX10_restore 51 = .ok (.imul, 1) := by decide +kernel
theorem dX10_restore_52 : decode cX10_restore 52 = .ok (.iload_n 2, 1) := by decide +kernel
theorem dX10_restore_53 : decode cX10_restore 53 = .ok (.iadd, 1) := by decide +kernel
theorem dX10_restore_54 : decode cX10_restore 54 = .ok (.iaload, 1) := by decide +kernel
theorem dX10_restore_55 : decode cX10_restore 55 = .ok (.iastore, 1) := by decide +kernel
theorem dX10_restore_56 : decode cX10_restore 56 = .ok (.iinc 2 1, 3) := by decide +kernel
theorem dX10_restore_59 : decode cX10_restore 59 = .ok (.goto (-28), 3) := by decide +kernel
theorem dX10_restore_62 : decode cX10_restore 62 = .ok (.iconst 0, 1) := by decide +kernel
theorem dX10_restore_63 : decode cX10_restore 63 = .ok (.istore_n 2, 1) := by decide +kernel
theorem dX10_restore_64 : decode cX10_restore 64 = .ok (.iload_n 2, 1) := by decide +kernel
theorem dX10_restore_65 : decode cX10_restore 65 = .ok (.bipush 12, 2) := by decide +kernel
theorem dX10_restore_67 : decode cX10_restore 67 = .ok (.if_icmp .ge 26, 3) := by decide +kernel
theorem dX10_restore_70 : decode cX10_restore 70 = .ok (.aload_n 0, 1) := by decide +kernel
theorem dX10_restore_71 : decode cX10_restore 71 = .ok (.getfield 26, 3) := by decide +kernel
theorem dX10_restore_74 : decode cX10_restore 74 = .ok (.iload_n 2, 1) := by decide +kernel
theorem dX10_restore_75 : decode cX10_restore 75 = .ok (.aload_n 0, 1) := by decide +kernel
theorem dX10_restore_76 : decode cX10_restore 76 = .ok (.getfield 33, 3) := by decide +kernel
theorem dX10_restore_79 : decode cX10_restore 79 = .ok (.bipush 12, 2) := by decide +kernel
theorem dX10_restore_81 : decode cX10_restore 81 = .ok (.iload_n 1, 1) := by decide +kernel
theorem dX10_restore_82 : decode cX10_restore 82 = .ok (.imul, 1) := by decide +kernel
theorem dX10_restore_83 : decode cX10_restore 83 = .ok (.iload_n 2, 1) := by decide +kernel
theorem dX10_restore_84 : decode cX10_restore 84 = .ok (.iadd, 1) := by decide +kernel
theorem dX10_restore_85 : decode cX10_restore 85 = .ok (.laload, 1) := by decide +kernel
theorem dX10_restore_86 : decode cX10_restore 86 = .ok (.lastore, 1) := by decide +kernel
theorem dX10_restore_87 : decode cX10_restore 87 = .ok (.iinc 2 1, 3) := by decide +kernel
theorem dX10_restore_90 : decode cX10_restore 90 = .ok (.goto (-26), 3) := by decide +kernel
theorem dX10_restore_93 : decode cX10_restore 93 = .ok (.aload_n 0, 1) := by decide +kernel
theorem dX10_restore_94 : decode cX10_restore 94 = .ok (.iconst 0, 1) := by decide +kernel
theorem dX10_restore_95 : decode cX10_restore 95 = .ok (.putfield 240, 3) := by decide +kernel
theorem dX10_restore_98 : decode cX10_restore 98 = .ok (.iconst 1, 1) := by decide +kernel
theorem dX10_restore_99 : decode cX10_restore 99 = .ok (.ireturn, 1) := by decide +kernel
theorem dX10_count_0 : decode cX10_count 0 = .ok (.aload_n 0, 1) := by decide +kernel
theorem dX10_count_1 : decode cX10_count 1 = .ok (.iconst 0, 1) := by decide +kernel
theorem dX10_count_2 : decode cX10_count 2 = .ok (.putfield 83, 3) := by decide +kernel
theorem dX10_count_5 : decode cX10_count 5 = .ok (.aload_n 0, 1) := by decide +kernel
theorem dX10_count_6 : decode cX10_count 6 = .ok (.invokevirtual 167, 3) := by decide +kernel
theorem dX10_count_9 : decode cX10_count 9 = .ok (.iload_n 1, 1) := by decide +kernel
theorem dX10_count_10 : decode cX10_count 10 = .ok (.bipush 11, 2) := by decide +kernel
theorem dX10_count_12 : decode cX10_count 12 = .ok (.if_icmp .ne 8, 3) := by decide +kernel
theorem dX10_count_15 : decode cX10_count 15 = .ok (.aload_n 0, 1) := by decide +kernel
theorem dX10_count_16 : decode cX10_count 16 = .ok (.getfield 86, 3) := by decide +kernel
theorem dX10_count_19 : decode cX10_count 19 = .ok (.ireturn, 1) := by decide +kernel
theorem dX10_count_20 : decode cX10_count 20 = .ok (.iload_n 1, 1) := by decide +kernel
theorem dX10_count_21 : decode cX10_count 21 = .ok (.iconst 0, 1) := by decide +kernel
theorem dX10_count_22 : decode cX10_count 22 = .ok (.bipush 10, 2) := by decide +kernel
theorem dX10_count_24 : decode cX10_count 24 = .ok (.invokestatic 154, 3) := by decide +kernel
theorem dX10_count_27 : decode cX10_count 27 = .ok (.ifCond .ne 5, 3) := by decide +kernel
theorem dX10_count_30 : decode cX10_count 30 = .ok (.iconst (-1), 1) := by decide +kernel
theorem dX10_count_31 : decode cX10_count 31 = .ok (.ireturn, 1) := by decide +kernel
theorem dX10_count_32 : decode cX10_count 32 = .ok (.iload_n 1, 1) := by decide +kernel
theorem dX10_count_33 : decode cX10_count 33 = .ok (.bipush 7, 2) := by decide +kernel
theorem dX10_count_35 : decode cX10_count 35 = .ok (.if_icmp .ge 12, 3) := by decide +kernel
theorem dX10_count_38 : decode cX10_count 38 = .ok (.aload_n 0, 1) := by decide +kernel
theorem dX10_count_39 : decode cX10_count 39 = .ok (.getfield 13, 3) := by decide +kernel
theorem dX10_count_42 : decode cX10_count 42 = .ok (.iload_n 1, 1) := by decide +kernel
theorem dX10_count_43 : decode cX10_count 43 = .ok (.iaload, 1) := by decide +kernel
theorem dX10_count_44 : decode cX10_count 44 = .ok (.goto 55, 3) := by decide +kernel
theorem dX10_count_47 : decode cX10_count 47 = .ok (.iload_n 1, 1) := by decide +kernel
theorem dX10_count_48 : decode cX10_count 48 = .ok (.bipush 7, 2) := by decide +kernel
theorem dX10_count_50 : decode cX10_count 50 = .ok (.if_icmp .ne 10, 3) := by decide +kernel
theorem dX10_count_53 : decode cX10_count 53 = .ok (.aload_n 0, 1) := by decide +kernel
theorem dX10_count_54 : decode cX10_count 54 = .ok (.invokevirtual 188, 3) := by decide +kernel
theorem dX10_count_57 : decode cX10_count 57 = .ok (.goto 42, 3) := by decide +kernel
theorem dX10_count_60 : decode cX10_count 60 = .ok (.iload_n 1, 1) := by decide +kernel
theorem dX10_count_61 : decode cX10_count 61 = .ok (.bipush 8, 2) := by decide +kernel
theorem dX10_count_63 : decode cX10_count 63 = .ok (.if_icmp .ne 13, 3) := by decide +kernel
theorem dX10_count_66 : decode cX10_count 66 = .ok (.aload_n 0, 1) := by decide +kernel
theorem dX10_count_67 : decode cX10_count 67 = .ok (.getfield 13, 3) := by decide +kernel
theorem dX10_count_70 : decode cX10_count 70 = .ok (.bipush 109, 2) := by decide +kernel
theorem dX10_count_72 : decode cX10_count 72 = .ok (.iaload, 1) := by decide +kernel
theorem dX10_count_73 : decode cX10_count 73 = .ok (.goto 26, 3) := by decide +kernel
theorem dX10_count_76 : decode cX10_count 76 = .ok (.iload_n 1, 1) := by decide +kernel
theorem dX10_count_77 : decode cX10_count 77 = .ok (.bipush 9, 2) := by decide +kernel
theorem dX10_count_79 : decode cX10_count 79 = .ok (.if_icmp .ne 13, 3) := by decide +kernel
theorem dX10_count_82 : decode cX10_count 82 = .ok (.aload_n 0, 1) := by decide +kernel
theorem dX10_count_83 : decode cX10_count 83 = .ok (.getfield 13, 3) := by decide +kernel
theorem dX10_count_86 : decode cX10_count 86 = .ok (.bipush 110, 2) := by decide +kernel
theorem dX10_count_88 : decode cX10_count 88 = .ok (.iaload, 1) := by decide +kernel
theorem dX10_count_89 : decode cX10_count 89 = .ok (.goto 10, 3) := by decide +kernel
theorem dX10_count_92 : decode cX10_count 92 = .ok (.aload_n 0, 1) := by decide +kernel
theorem dX10_count_93 : decode cX10_count 93 = .ok (.getfield 13, 3) := by decide +kernel
theorem dX10_count_96 : decode cX10_count 96 = .ok (.bipush 111, 2) := by decide +kernel
theorem dX10_count_98 : decode cX10_count 98 = .ok (.iaload, 1) := by decide +kernel
theorem dX10_count_99 : decode cX10_count 99 = .ok (.ireturn, 1) := by decide +kernel
