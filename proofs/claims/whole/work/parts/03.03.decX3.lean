theorem dX3_init_0 : decode cX3_init 0 = .ok (.aload_n 0, 1) := by decide +kernel
theorem dX3_init_1 : decode cX3_init 1 = .ok (.invokespecial 3, 3) := by decide +kernel
theorem dX3_init_4 : decode cX3_init 4 = .ok (.aload_n 0, 1) := by decide +kernel
theorem dX3_init_5 : decode cX3_init 5 = .ok (.bipush 8, 2) := by decide +kernel
theorem dX3_init_7 : decode cX3_init 7 = .ok (.newarray .int, 2) := by decide +kernel
theorem dX3_init_9 : decode cX3_init 9 = .ok (.putfield 9, 3) := by decide +kernel
theorem dX3_init_12 : decode cX3_init 12 = .ok (.aload_n 0, 1) := by decide +kernel
theorem dX3_init_13 : decode cX3_init 13 = .ok (.bipush 8, 2) := by decide +kernel
theorem dX3_init_15 : decode cX3_init 15 = .ok (.newarray .int, 2) := by decide +kernel
theorem dX3_init_17 : decode cX3_init 17 = .ok (.putfield 15, 3) := by decide +kernel
theorem dX3_init_20 : decode cX3_init 20 = .ok (.aload_n 0, 1) := by decide +kernel
theorem dX3_init_21 : decode cX3_init 21 = .ok (.bipush 8, 2) := by decide +kernel
theorem dX3_init_23 : decode cX3_init 23 = .ok (.newarray .int, 2) := by decide +kernel
theorem dX3_init_25 : decode cX3_init 25 = .ok (.putfield 18, 3) := by decide +kernel
theorem dX3_init_28 : decode cX3_init 28 = .ok (.aload_n 0, 1) := by decide +kernel
theorem dX3_init_29 : decode cX3_init 29 = .ok (.iconst 4, 1) := by decide +kernel
theorem dX3_init_30 : decode cX3_init 30 = .ok (.newarray .int, 2) := by decide +kernel
theorem dX3_init_32 : decode cX3_init 32 = .ok (.putfield 21, 3) := by decide +kernel
theorem dX3_init_35 : decode cX3_init 35 = .ok (.aload_n 0, 1) := by decide +kernel
theorem dX3_init_36 : decode cX3_init 36 = .ok (.iconst 4, 1) := by decide +kernel
theorem dX3_init_37 : decode cX3_init 37 = .ok (.newarray .int, 2) := by decide +kernel
theorem dX3_init_39 : decode cX3_init 39 = .ok (.putfield 24, 3) := by decide +kernel
theorem dX3_init_42 : decode cX3_init 42 = .ok (.aload_n 0, 1) := by decide +kernel
theorem dX3_init_43 : decode cX3_init 43 = .ok (.iconst 4, 1) := by decide +kernel
theorem dX3_init_44 : decode cX3_init 44 = .ok (.newarray .int, 2) := by decide +kernel
theorem dX3_init_46 : decode cX3_init 46 = .ok (.putfield 27, 3) := by decide +kernel
theorem dX3_init_49 : decode cX3_init 49 = .ok (.aload_n 0, 1) := by decide +kernel
theorem dX3_init_50 : decode cX3_init 50 = .ok (.bipush 64, 2) := by decide +kernel
theorem dX3_init_52 : decode cX3_init 52 = .ok (.newarray .int, 2) := by decide +kernel
theorem dX3_init_54 : decode cX3_init 54 = .ok (.putfield 30, 3) := by decide +kernel
theorem dX3_init_57 : decode cX3_init 57 = .ok (.aload_n 0, 1) := by decide +kernel
theorem dX3_init_58 : decode cX3_init 58 = .ok (.iconst 4, 1) := by decide +kernel
theorem dX3_init_59 : decode cX3_init 59 = .ok (.newarray .int, 2) := by decide +kernel
theorem dX3_init_61 : decode cX3_init 61 = .ok (.putfield 33, 3) := by decide +kernel
theorem dX3_init_64 : decode cX3_init 64 = .ok (.aload_n 0, 1) := by decide +kernel
theorem dX3_init_65 : decode cX3_init 65 = .ok (.invokevirtual 36, 3) := by decide +kernel
theorem dX3_init_68 : decode cX3_init 68 = .ok (.return_, 1) := by decide +kernel
theorem dX3_clear_0 : decode cX3_clear 0 = .ok (.aload_n 0, 1) := by decide +kernel
theorem dX3_clear_1 : decode cX3_clear 1 = .ok (.iconst 0, 1) := by decide +kernel
theorem dX3_clear_2 : decode cX3_clear 2 = .ok (.putfield 39, 3) := by decide +kernel
theorem dX3_clear_5 : decode cX3_clear 5 = .ok (.aload_n 0, 1) := by decide +kernel
theorem dX3_clear_6 : decode cX3_clear 6 = .ok (.iconst 0, 1) := by decide +kernel
theorem dX3_clear_7 : decode cX3_clear 7 = .ok (.putfield 43, 3) := by decide +kernel
theorem dX3_clear_10 : decode cX3_clear 10 = .ok (.aload_n 0, 1) := by decide +kernel
theorem dX3_clear_11 : decode cX3_clear 11 = .ok (.iconst 0, 1) := by decide +kernel
theorem dX3_clear_12 : decode cX3_clear 12 = .ok (.putfield 46, 3) := by decide +kernel
theorem dX3_clear_15 : decode cX3_clear 15 = .ok (.aload_n 0, 1) := by decide +kernel
theorem dX3_clear_16 : decode cX3_clear 16 = .ok (.iconst 0, 1) := by decide +kernel
theorem dX3_clear_17 : decode cX3_clear 17 = .ok (.putfield 49, 3) := by decide +kernel
theorem dX3_clear_20 : decode cX3_clear 20 = .ok (.aload_n 0, 1) := by decide +kernel
theorem dX3_clear_21 : decode cX3_clear 21 = .ok (.iconst 0, 1) := by decide +kernel
theorem dX3_clear_22 : decode cX3_clear 22 = .ok (.putfield 52, 3) := by decide +kernel
theorem dX3_clear_25 : decode cX3_clear 25 = .ok (.iconst 0, 1) := by decide +kernel
theorem dX3_clear_26 : decode cX3_clear 26 = .ok (.istore_n 1, 1) := by decide +kernel
theorem dX3_clear_27 : decode cX3_clear 27 = .ok (.iload_n 1, 1) := by decide +kernel
theorem dX3_clear_28 : decode cX3_clear 28 = .ok (.aload_n 0, 1) := by decide +kernel
theorem dX3_clear_29 : decode cX3_clear 29 = .ok (.getfield 30, 3) := by decide +kernel
theorem dX3_clear_32 : decode cX3_clear 32 = .ok (.arraylength, 1) := by decide +kernel
theorem dX3_clear_33 : decode cX3_clear 33 = .ok (.if_icmp .ge 16, 3) := by decide +kernel
theorem dX3_clear_36 : decode cX3_clear 36 = .ok (.aload_n 0, 1) := by decide +kernel
theorem dX3_clear_37 : decode cX3_clear 37 = .ok (.getfield 30, 3) := by decide +kernel
theorem dX3_clear_40 : decode cX3_clear 40 = .ok (.iload_n 1, 1) := by decide +kernel
theorem dX3_clear_41 : decode cX3_clear 41 = .ok (.iconst (-1), 1) := by decide +kernel
theorem dX3_clear_42 : decode cX3_clear 42 = .ok (.iastore, 1) := by decide +kernel
theorem dX3_clear_43 : decode cX3_clear 43 = .ok (.iinc 1 1, 3) := by decide +kernel
theorem dX3_clear_46 : decode cX3_clear 46 = .ok (.goto (-19), 3) := by decide +kernel
theorem dX3_clear_49 : decode cX3_clear 49 = .ok (.iconst 0, 1) := by decide +kernel
theorem dX3_clear_50 : decode cX3_clear 50 = .ok (.istore_n 1, 1) := by decide +kernel
theorem dX3_clear_51 : decode cX3_clear 51 = .ok (.iload_n 1, 1) := by decide +kernel
theorem dX3_clear_52 : decode cX3_clear 52 = .ok (.iconst 4, 1) := by decide +kernel
theorem dX3_clear_53 : decode cX3_clear 53 = .ok (.if_icmp .ge 20, 3) := by decide +kernel
theorem dX3_clear_56 : decode cX3_clear 56 = .ok (.aload_n 0, 1) := by decide +kernel
theorem dX3_clear_57 : decode cX3_clear 57 = .ok (.getfield 33, 3) := by decide +kernel
theorem dX3_clear_60 : decode cX3_clear 60 = .ok (.iload_n 1, 1) := by decide +kernel
theorem dX3_clear_61 : decode cX3_clear 61 = .ok (.getstatic 55, 3) := by decide +kernel
theorem dX3_clear_64 : decode cX3_clear 64 = .ok (.iload_n 1, 1) := by decide +kernel
theorem dX3_clear_65 : decode cX3_clear 65 = .ok (.iaload, 1) := by decide +kernel
theorem dX3_clear_66 : decode cX3_clear 66 = .ok (.iastore, 1) := by decide +kernel
theorem dX3_clear_67 : decode cX3_clear 67 = .ok (.iinc 1 1, 3) := by decide +kernel
theorem dX3_clear_70 : decode cX3_clear 70 = .ok (.goto (-19), 3) := by decide +kernel
theorem dX3_clear_73 : decode cX3_clear 73 = .ok (.return_, 1) := by decide +kernel
theorem dX3_copyFrom_0 : decode cX3_copyFrom 0 = .ok (.aload_n 0, 1) := by decide +kernel
theorem dX3_copyFrom_1 : decode cX3_copyFrom 1 = .ok (.aload_n 1, 1) := by decide +kernel
theorem dX3_copyFrom_2 : decode cX3_copyFrom 2 = .ok (.getfield 39, 3) := by decide +kernel
theorem dX3_copyFrom_5 : decode cX3_copyFrom 5 = .ok (.putfield 39, 3) := by decide +kernel
theorem dX3_copyFrom_8 : decode cX3_copyFrom 8 = .ok (.aload_n 0, 1) := by decide +kernel
theorem dX3_copyFrom_9 : decode cX3_copyFrom 9 = .ok (.aload_n 1, 1) := by decide +kernel
theorem dX3_copyFrom_10 : decode cX3_copyFrom 10 = .ok (.getfield 43, 3) := by decide +kernel
theorem dX3_copyFrom_13 : decode cX3_copyFrom 13 = .ok (.putfield 43, 3) := by decide +kernel
theorem dX3_copyFrom_16 : decode cX3_copyFrom 16 = .ok (.aload_n 0, 1) := by decide +kernel
theorem dX3_copyFrom_17 : decode cX3_copyFrom 17 = .ok (.aload_n 1, 1) := by decide +kernel
theorem dX3_copyFrom_18 : decode cX3_copyFrom 18 = .ok (.getfield 46, 3) := by decide +kernel
theorem dX3_copyFrom_21 : decode cX3_copyFrom 21 = .ok (.putfield 46, 3) := by decide +kernel
theorem dX3_copyFrom_24 : decode cX3_copyFrom 24 = .ok (.aload_n 0, 1) := by decide +kernel
theorem dX3_copyFrom_25 : decode cX3_copyFrom 25 = .ok (.aload_n 1, 1) := by decide +kernel
theorem dX3_copyFrom_26 : decode cX3_copyFrom 26 = .ok (.getfield 49, 3) := by decide +kernel
theorem dX3_copyFrom_29 : decode cX3_copyFrom 29 = .ok (.putfield 49, 3) := by decide +kernel
theorem dX3_copyFrom_32 : decode cX3_copyFrom 32 = .ok (.aload_n 0, 1) := by decide +kernel
theorem dX3_copyFrom_33 : decode cX3_copyFrom 33 = .ok (.aload_n 1, 1) := by decide +kernel
theorem dX3_copyFrom_34 : decode cX3_copyFrom 34 = .ok (.getfield 52, 3) := by decide +kernel
theorem dX3_copyFrom_37 : decode cX3_copyFrom 37 = .ok (.putfield 52, 3) := by decide +kernel
theorem dX3_copyFrom_40 : decode cX3_copyFrom 40 = .ok (.aload_n 1, 1) := by decide +kernel
theorem dX3_copyFrom_41 : decode cX3_copyFrom 41 = .ok (.getfield 9, 3) := by decide +kernel
theorem dX3_copyFrom_44 : decode cX3_copyFrom 44 = .ok (.iconst 0, 1) := by decide +kernel
theorem dX3_copyFrom_45 : decode cX3_copyFrom 45 = .ok (.aload_n 0, 1) := by decide +kernel
theorem dX3_copyFrom_46 : decode cX3_copyFrom 46 = .ok (.getfield 9, 3) := by decide +kernel
theorem dX3_copyFrom_49 : decode cX3_copyFrom 49 = .ok (.iconst 0, 1) := by decide +kernel
theorem dX3_copyFrom_50 : decode cX3_copyFrom 50 = .ok (.bipush 8, 2) := by decide +kernel
theorem dX3_copyFrom_52 : decode cX3_copyFrom 52 = .ok (.invokestatic 58, 3) := by decide +kernel
theorem dX3_copyFrom_55 : decode cX3_copyFrom 55 = .ok (.aload_n 1, 1) := by decide +kernel
theorem dX3_copyFrom_56 : decode cX3_copyFrom 56 = .ok (.getfield 15, 3) := by decide +kernel
theorem dX3_copyFrom_59 : decode cX3_copyFrom 59 = .ok (.iconst 0, 1) := by decide +kernel
theorem dX3_copyFrom_60 : decode cX3_copyFrom 60 = .ok (.aload_n 0, 1) := by decide +kernel
theorem dX3_copyFrom_61 : decode cX3_copyFrom 61 = .ok (.getfield 15, 3) := by decide +kernel
theorem dX3_copyFrom_64 : decode cX3_copyFrom 64 = .ok (.iconst 0, 1) := by decide +kernel
theorem dX3_copyFrom_65 : decode cX3_copyFrom 65 = .ok (.bipush 8, 2) := by decide +kernel
theorem dX3_copyFrom_67 : decode cX3_copyFrom 67 = .ok (.invokestatic 58, 3) := by decide +kernel
theorem dX3_copyFrom_70 : decode cX3_copyFrom 70 = .ok (.aload_n 1, 1) := by decide +kernel
theorem dX3_copyFrom_71 : decode cX3_copyFrom 71 = .ok (.getfield 18, 3) := by decide +kernel
theorem dX3_copyFrom_74 : decode cX3_copyFrom 74 = .ok (.iconst 0, 1) := by decide +kernel
theorem dX3_copyFrom_75 : decode cX3_copyFrom 75 = .ok (.aload_n 0, 1) := by decide +kernel
theorem dX3_copyFrom_76 : decode cX3_copyFrom 76 = .ok (.getfield 18, 3) := by decide +kernel
theorem dX3_copyFrom_79 : decode cX3_copyFrom 79 = .ok (.iconst 0, 1) := by decide +kernel
theorem dX3_copyFrom_80 : decode cX3_copyFrom 80 = .ok (.bipush 8, 2) := by decide +kernel
theorem dX3_copyFrom_82 : decode cX3_copyFrom 82 = .ok (.invokestatic 58, 3) := by decide +kernel
theorem dX3_copyFrom_85 : decode cX3_copyFrom 85 = .ok (.aload_n 1, 1) := by decide +kernel
theorem dX3_copyFrom_86 : decode cX3_copyFrom 86 = .ok (.getfield 21, 3) := by decide +kernel
theorem dX3_copyFrom_89 : decode cX3_copyFrom 89 = .ok (.iconst 0, 1) := by decide +kernel
theorem dX3_copyFrom_90 : decode cX3_copyFrom 90 = .ok (.aload_n 0, 1) := by decide +kernel
theorem dX3_copyFrom_91 : decode cX3_copyFrom 91 = .ok (.getfield 21, 3) := by decide +kernel
theorem dX3_copyFrom_94 : decode cX3_copyFrom 94 = .ok (.iconst 0, 1) := by decide +kernel
theorem dX3_copyFrom_95 : decode cX3_copyFrom 95 = .ok (.iconst 4, 1) := by decide +kernel
theorem dX3_copyFrom_96 : decode cX3_copyFrom 96 = .ok (.invokestatic 58, 3) := by decide +kernel
theorem dX3_copyFrom_99 : decode cX3_copyFrom 99 = .ok (.aload_n 1, 1) := by decide +kernel
theorem dX3_copyFrom_100 : decode cX3_copyFrom 100 = .ok (.getfield 24, 3) := by decide +kernel
theorem dX3_copyFrom_103 : decode cX3_copyFrom 103 = .ok (.iconst 0, 1) := by decide +kernel
theorem dX3_copyFrom_104 : decode cX3_copyFrom 104 = .ok (.aload_n 0, 1) := by decide +kernel
theorem dX3_copyFrom_105 : decode cX3_copyFrom 105 = .ok (.getfield 24, 3) := by decide +kernel
theorem dX3_copyFrom_108 : decode cX3_copyFrom 108 = .ok (.iconst 0, 1) := by decide +kernel
theorem dX3_copyFrom_109 : decode cX3_copyFrom 109 = .ok (.iconst 4, 1) := by decide +kernel
theorem dX3_copyFrom_110 : decode cX3_copyFrom 110 = .ok (.invokestatic 58, 3) := by decide +kernel
theorem dX3_copyFrom_113 : decode cX3_copyFrom 113 = .ok (.aload_n 1, 1) := by decide +kernel
theorem dX3_copyFrom_114 : decode cX3_copyFrom 114 = .ok (.getfield 27, 3) := by decide +kernel
theorem dX3_copyFrom_117 : decode cX3_copyFrom 117 = .ok (.iconst 0, 1) := by decide +kernel
theorem dX3_copyFrom_118 : decode cX3_copyFrom 118 = .ok (.aload_n 0, 1) := by decide +kernel
theorem dX3_copyFrom_119 : decode cX3_copyFrom 119 = .ok (.getfield 27, 3) := by decide +kernel
theorem dX3_copyFrom_122 : decode cX3_copyFrom 122 = .ok (.iconst 0, 1) := by decide +kernel
theorem dX3_copyFrom_123 : decode cX3_copyFrom 123 = .ok (.iconst 4, 1) := by decide +kernel
theorem dX3_copyFrom_124 : decode cX3_copyFrom 124 = .ok (.invokestatic 58, 3) := by decide +kernel
theorem dX3_copyFrom_127 : decode cX3_copyFrom 127 = .ok (.aload_n 1, 1) := by decide +kernel
theorem dX3_copyFrom_128 : decode cX3_copyFrom 128 = .ok (.getfield 30, 3) := by decide +kernel
theorem dX3_copyFrom_131 : decode cX3_copyFrom 131 = .ok (.iconst 0, 1) := by decide +kernel
theorem dX3_copyFrom_132 : decode cX3_copyFrom 132 = .ok (.aload_n 0, 1) := by decide +kernel
theorem dX3_copyFrom_133 : decode cX3_copyFrom 133 = .ok (.getfield 30, 3) := by decide +kernel
theorem dX3_copyFrom_136 : decode cX3_copyFrom 136 = .ok (.iconst 0, 1) := by decide +kernel
theorem dX3_copyFrom_137 : decode cX3_copyFrom 137 = .ok (.aload_n 0, 1) := by decide +kernel
theorem dX3_copyFrom_138 : decode cX3_copyFrom 138 = .ok (.getfield 30, 3) := by decide +kernel
theorem dX3_copyFrom_141 : decode cX3_copyFrom 141 = .ok (.arraylength, 1) := by decide +kernel
theorem dX3_copyFrom_142 : decode cX3_copyFrom 142 = .ok (.invokestatic 58, 3) := by decide +kernel
theorem dX3_copyFrom_145 : decode cX3_copyFrom 145 = .ok (.aload_n 1, 1) := by decide +kernel
theorem dX3_copyFrom_146 : decode cX3_copyFrom 146 = .ok (.getfield 33, 3) := by decide +kernel
theorem dX3_copyFrom_149 : decode cX3_copyFrom 149 = .ok (.iconst 0, 1) := by decide +kernel
theorem dX3_copyFrom_150 : decode cX3_copyFrom 150 = .ok (.aload_n 0, 1) := by decide +kernel
theorem dX3_copyFrom_151 : decode cX3_copyFrom 151 = .ok (.getfield 33, 3) := by decide +kernel
theorem dX3_copyFrom_154 : decode cX3_copyFrom 154 = .ok (.iconst 0, 1) := by decide +kernel
theorem dX3_copyFrom_155 : decode cX3_copyFrom 155 = .ok (.iconst 4, 1) := by decide +kernel
theorem dX3_copyFrom_156 : decode cX3_copyFrom 156 = .ok (.invokestatic 58, 3) := by decide +kernel
theorem dX3_copyFrom_159 : decode cX3_copyFrom 159 = .ok (.return_, 1) := by decide +kernel
theorem dX3_readFrom_0 : decode cX3_readFrom 0 = .ok (.aload_n 0, 1) := by decide +kernel
theorem dX3_readFrom_1 : decode cX3_readFrom 1 = .ok (.invokevirtual 36, 3) := by decide +kernel
theorem dX3_readFrom_4 : decode cX3_readFrom 4 = .ok (.aload_n 1, 1) := by decide +kernel
theorem dX3_readFrom_5 : decode cX3_readFrom 5 = .ok (.invokevirtual 64, 3) := by decide +kernel
theorem dX3_readFrom_8 : decode cX3_readFrom 8 = .ok (.iconst 0, 1) := by decide +kernel
theorem dX3_readFrom_9 : decode cX3_readFrom 9 = .ok (.istore_n 2, 1) := by decide +kernel
theorem dX3_readFrom_10 : decode cX3_readFrom 10 = .ok (.aload_n 0, 1) := by decide +kernel
theorem dX3_readFrom_11 : decode cX3_readFrom 11 = .ok (.getfield 39, 3) := by decide +kernel
theorem dX3_readFrom_14 : decode cX3_readFrom 14 = .ok (.sipush 700, 3) := by decide +kernel
theorem dX3_readFrom_17 : decode cX3_readFrom 17 = .ok (.if_icmp .ge 55, 3) := by decide +kernel
theorem dX3_readFrom_20 : decode cX3_readFrom 20 = .ok (.iload_n 2, 1) := by decide +kernel
theorem dX3_readFrom_21 : decode cX3_readFrom 21 = .ok (.ifCond .ne 51, 3) := by decide +kernel
theorem dX3_readFrom_24 : decode cX3_readFrom 24 = .ok (.aload_n 1, 1) := by decide +kernel
theorem dX3_readFrom_25 : decode cX3_readFrom 25 = .ok (.getfield 69, 3) := by decide +kernel
theorem dX3_readFrom_28 : decode cX3_readFrom 28 = .ok (.ifCond .eq 44, 3) := by decide +kernel
theorem dX3_readFrom_31 : decode cX3_readFrom 31 = .ok (.aload_n 0, 1) := by decide +kernel
theorem dX3_readFrom_32 : decode cX3_readFrom 32 = .ok (.aload_n 1, 1) := by decide +kernel
theorem dX3_readFrom_33 : decode cX3_readFrom 33 = .ok (.invokevirtual 72, 3) := by decide +kernel
theorem dX3_readFrom_36 : decode cX3_readFrom 36 = .ok (.istore_n 2, 1) := by decide +kernel
theorem dX3_readFrom_37 : decode cX3_readFrom 37 = .ok (.iload_n 2, 1) := by decide +kernel
theorem dX3_readFrom_38 : decode cX3_readFrom 38 = .ok (.ifCond .ne 13, 3) := by decide +kernel
theorem dX3_readFrom_41 : decode cX3_readFrom 41 = .ok (.aload_n 1, 1) := by decide +kernel
theorem dX3_readFrom_42 : decode cX3_readFrom 42 = .ok (.getfield 69, 3) := by decide +kernel
theorem dX3_readFrom_45 : decode cX3_readFrom 45 = .ok (.iconst 4, 1) := by decide +kernel
theorem dX3_readFrom_46 : decode cX3_readFrom 46 = .ok (.if_icmp .eq 5, 3) := by decide +kernel
theorem dX3_readFrom_49 : decode cX3_readFrom 49 = .ok (.iconst 1, 1) := by decide +kernel
theorem dX3_readFrom_50 : decode cX3_readFrom 50 = .ok (.istore_n 2, 1) := by decide +kernel
theorem dX3_readFrom_51 : decode cX3_readFrom 51 = .ok (.iload_n 2, 1) := by decide +kernel
theorem dX3_readFrom_52 : decode cX3_readFrom 52 = .ok (.ifCond .ne (-42), 3) := by decide +kernel
theorem dX3_readFrom_55 : decode cX3_readFrom 55 = .ok (.aload_n 1, 1) := by decide +kernel
theorem dX3_readFrom_56 : decode cX3_readFrom 56 = .ok (.invokevirtual 64, 3) := by decide +kernel
theorem dX3_readFrom_59 : decode cX3_readFrom 59 = .ok (.aload_n 0, 1) := by decide +kernel
theorem dX3_readFrom_60 : decode cX3_readFrom 60 = .ok (.dup, 1) := by decide +kernel
theorem dX3_readFrom_61 : decode cX3_readFrom 61 = .ok (.getfield 39, 3) := by decide +kernel
theorem dX3_readFrom_64 : decode cX3_readFrom 64 = .ok (.iconst 1, 1) := by decide +kernel
theorem dX3_readFrom_65 : decode cX3_readFrom 65 = .ok (.iadd, 1) := by decide +kernel
theorem dX3_readFrom_66 : decode cX3_readFrom 66 = .ok (.putfield 39, 3) := by decide +kernel
theorem dX3_readFrom_69 : decode cX3_readFrom 69 = .ok (.goto (-59), 3) := by decide +kernel
theorem dX3_readFrom_72 : decode cX3_readFrom 72 = .ok (.iload_n 2, 1) := by decide +kernel
theorem dX3_readFrom_73 : decode cX3_readFrom 73 = .ok (.ireturn, 1) := by decide +kernel
theorem dX3_readLine_0 : decode cX3_readLine 0 = .ok (.aload_n 1, 1) := by decide +kernel
theorem dX3_readLine_1 : decode cX3_readLine 1 = .ok (.getfield 69, 3) := by decide +kernel
theorem dX3_readLine_4 : decode cX3_readLine 4 = .ok (.tableswitch 54 10 14 #[36, 54, 54, 42, 48], 36) := by decide +kernel
theorem dX3_readLine_40 : decode cX3_readLine 40 = .ok (.aload_n 0, 1) := by decide +kernel
theorem dX3_readLine_41 : decode cX3_readLine 41 = .ok (.aload_n 1, 1) := by decide +kernel
theorem dX3_readLine_42 : decode cX3_readLine 42 = .ok (.invokevirtual 76, 3) := by decide +kernel
theorem dX3_readLine_45 : decode cX3_readLine 45 = .ok (.ireturn, 1) := by decide +kernel
theorem dX3_readLine_46 : decode cX3_readLine 46 = .ok (.aload_n 0, 1) := by decide +kernel
theorem dX3_readLine_47 : decode cX3_readLine 47 = .ok (.aload_n 1, 1) := by decide +kernel
theorem dX3_readLine_48 : decode cX3_readLine 48 = .ok (.invokevirtual 79, 3) := by decide +kernel
theorem dX3_readLine_51 : decode cX3_readLine 51 = .ok (.ireturn, 1) := by decide +kernel
theorem dX3_readLine_52 : decode cX3_readLine 52 = .ok (.aload_n 0, 1) := by decide +kernel
theorem dX3_readLine_53 : decode cX3_readLine 53 = .ok (.aload_n 1, 1) := by decide +kernel
theorem dX3_readLine_54 : decode cX3_readLine 54 = .ok (.invokevirtual 82, 3) := by decide +kernel
theorem dX3_readLine_57 : decode cX3_readLine 57 = .ok (.ireturn, 1) := by decide +kernel
theorem dX3_readLine_58 : decode cX3_readLine 58 = .ok (.aload_n 0, 1) := by decide +kernel
theorem dX3_readLine_59 : decode cX3_readLine 59 = .ok (.aload_n 1, 1) := by decide +kernel
theorem dX3_readLine_60 : decode cX3_readLine 60 = .ok (.invokevirtual 85, 3) := by decide +kernel
theorem dX3_readLine_63 : decode cX3_readLine 63 = .ok (.ireturn, 1) := by decide +kernel
theorem dX3_readWho_0 : decode cX3_readWho 0 = .ok (.aload_n 0, 1) := by decide +kernel
theorem dX3_readWho_1 : decode cX3_readWho 1 = .ok (.getfield 43, 3) := by decide +kernel
theorem dX3_readWho_4 : decode cX3_readWho 4 = .ok (.bipush 8, 2) := by decide +kernel
theorem dX3_readWho_6 : decode cX3_readWho 6 = .ok (.if_icmp .lt 5, 3) := by decide +kernel
theorem dX3_readWho_9 : decode cX3_readWho 9 = .ok (.iconst 4, 1) := by decide +kernel
theorem dX3_readWho_10 : decode cX3_readWho 10 = .ok (.ireturn, 1) := by decide +kernel
theorem dX3_readWho_11 : decode cX3_readWho 11 = .ok (.aload_n 1, 1) := by decide +kernel
theorem dX3_readWho_12 : decode cX3_readWho 12 = .ok (.invokevirtual 64, 3) := by decide +kernel
theorem dX3_readWho_15 : decode cX3_readWho 15 = .ok (.aload_n 0, 1) := by decide +kernel
theorem dX3_readWho_16 : decode cX3_readWho 16 = .ok (.aload_n 1, 1) := by decide +kernel
theorem dX3_readWho_17 : decode cX3_readWho 17 = .ok (.invokevirtual 88, 3) := by decide +kernel
theorem dX3_readWho_20 : decode cX3_readWho 20 = .ok (.istore_n 2, 1) := by decide +kernel
theorem dX3_readWho_21 : decode cX3_readWho 21 = .ok (.iload_n 2, 1) := by decide +kernel
theorem dX3_readWho_22 : decode cX3_readWho 22 = .ok (.ifCond .eq 5, 3) := by decide +kernel
theorem dX3_readWho_25 : decode cX3_readWho 25 = .ok (.iload_n 2, 1) := by decide +kernel
theorem dX3_readWho_26 : decode cX3_readWho 26 = .ok (.ireturn, 1) := by decide +kernel
theorem dX3_readWho_27 : decode cX3_readWho 27 = .ok (.aload_n 0, 1) := by decide +kernel
theorem dX3_readWho_28 : decode cX3_readWho 28 = .ok (.getfield 9, 3) := by decide +kernel
theorem dX3_readWho_31 : decode cX3_readWho 31 = .ok (.aload_n 0, 1) := by decide +kernel
theorem dX3_readWho_32 : decode cX3_readWho 32 = .ok (.getfield 43, 3) := by decide +kernel
theorem dX3_readWho_35 : decode cX3_readWho 35 = .ok (.aload_n 1, 1) := by decide +kernel
theorem dX3_readWho_36 : decode cX3_readWho 36 = .ok (.getfield 91, 3) := by decide +kernel
theorem dX3_readWho_39 : decode cX3_readWho 39 = .ok (.iastore, 1) := by decide +kernel
theorem dX3_readWho_40 : decode cX3_readWho 40 = .ok (.aload_n 1, 1) := by decide +kernel
theorem dX3_readWho_41 : decode cX3_readWho 41 = .ok (.invokevirtual 64, 3) := by decide +kernel
theorem dX3_readWho_44 : decode cX3_readWho 44 = .ok (.aload_n 0, 1) := by decide +kernel
theorem dX3_readWho_45 : decode cX3_readWho 45 = .ok (.getfield 15, 3) := by decide +kernel
theorem dX3_readWho_48 : decode cX3_readWho 48 = .ok (.aload_n 0, 1) := by decide +kernel
theorem dX3_readWho_49 : decode cX3_readWho 49 = .ok (.getfield 43, 3) := by decide +kernel
theorem dX3_readWho_52 : decode cX3_readWho 52 = .ok (.aload_n 1, 1) := by decide +kernel
theorem dX3_readWho_53 : decode cX3_readWho 53 = .ok (.getfield 69, 3) := by decide +kernel
theorem dX3_readWho_56 : decode cX3_readWho 56 = .ok (.bipush 11, 2) := by decide +kernel
theorem dX3_readWho_58 : decode cX3_readWho 58 = .ok (.if_icmp .ne 7, 3) := by decide +kernel
theorem dX3_readWho_61 : decode cX3_readWho 61 = .ok (.iconst 1, 1) := by decide +kernel
theorem dX3_readWho_62 : decode cX3_readWho 62 = .ok (.goto 4, 3) := by decide +kernel
theorem dX3_readWho_65 : decode cX3_readWho 65 = .ok (.iconst 0, 1) := by decide +kernel
theorem dX3_readWho_66 : decode cX3_readWho 66 = .ok (.iastore, 1) := by decide +kernel
theorem dX3_readWho_67 : decode cX3_readWho 67 = .ok (.aload_n 0, 1) := by decide +kernel
theorem dX3_readWho_68 : decode cX3_readWho 68 = .ok (.getfield 15, 3) := by decide +kernel
theorem dX3_readWho_71 : decode cX3_readWho 71 = .ok (.aload_n 0, 1) := by decide +kernel
theorem dX3_readWho_72 : decode cX3_readWho 72 = .ok (.getfield 43, 3) := by decide +kernel
theorem dX3_readWho_75 : decode cX3_readWho 75 = .ok (.iaload, 1) := by decide +kernel
theorem dX3_readWho_76 : decode cX3_readWho 76 = .ok (.iconst 1, 1) := by decide +kernel
theorem dX3_readWho_77 : decode cX3_readWho 77 = .ok (.if_icmp .ne 7, 3) := by decide +kernel
theorem dX3_readWho_80 : decode cX3_readWho 80 = .ok (.aload_n 1, 1) := by decide +kernel
theorem dX3_readWho_81 : decode cX3_readWho 81 = .ok (.invokevirtual 64, 3) := by decide +kernel
theorem dX3_readWho_84 : decode cX3_readWho 84 = .ok (.aload_n 0, 1) := by decide +kernel
theorem dX3_readWho_85 : decode cX3_readWho 85 = .ok (.getfield 18, 3) := by decide +kernel
theorem dX3_readWho_88 : decode cX3_readWho 88 = .ok (.aload_n 0, 1) := by decide +kernel
theorem dX3_readWho_89 : decode cX3_readWho 89 = .ok (.getfield 43, 3) := by decide +kernel
theorem dX3_readWho_92 : decode cX3_readWho 92 = .ok (.aload_n 1, 1) := by decide +kernel
theorem dX3_readWho_93 : decode cX3_readWho 93 = .ok (.getfield 69, 3) := by decide +kernel
theorem dX3_readWho_96 : decode cX3_readWho 96 = .ok (.bipush 12, 2) := by decide +kernel
theorem dX3_readWho_98 : decode cX3_readWho 98 = .ok (.if_icmp .ne 7, 3) := by decide +kernel
theorem dX3_readWho_101 : decode cX3_readWho 101 = .ok (.iconst 1, 1) := by decide +kernel
theorem dX3_readWho_102 : decode cX3_readWho 102 = .ok (.goto 4, 3) := by decide +kernel
theorem dX3_readWho_105 : decode cX3_readWho 105 = .ok (.iconst 0, 1) := by decide +kernel
theorem dX3_readWho_106 : decode cX3_readWho 106 = .ok (.iastore, 1) := by decide +kernel
theorem dX3_readWho_107 : decode cX3_readWho 107 = .ok (.aload_n 0, 1) := by decide +kernel
theorem dX3_readWho_108 : decode cX3_readWho 108 = .ok (.getfield 18, 3) := by decide +kernel
theorem dX3_readWho_111 : decode cX3_readWho 111 = .ok (.aload_n 0, 1) := by decide +kernel
theorem dX3_readWho_112 : decode cX3_readWho 112 = .ok (.getfield 43, 3) := by decide +kernel
theorem dX3_readWho_115 : decode cX3_readWho 115 = .ok (.iaload, 1) := by decide +kernel
theorem dX3_readWho_116 : decode cX3_readWho 116 = .ok (.iconst 1, 1) := by decide +kernel
theorem dX3_readWho_117 : decode cX3_readWho 117 = .ok (.if_icmp .ne 7, 3) := by decide +kernel
theorem dX3_readWho_120 : decode cX3_readWho 120 = .ok (.aload_n 1, 1) := by decide +kernel
theorem dX3_readWho_121 : decode cX3_readWho 121 = .ok (.invokevirtual 64, 3) := by decide +kernel
theorem dX3_readWho_124 : decode cX3_readWho 124 = .ok (.aload_n 0, 1) := by decide +kernel
theorem dX3_readWho_125 : decode cX3_readWho 125 = .ok (.dup, 1) := by decide +kernel
theorem dX3_readWho_126 : decode cX3_readWho 126 = .ok (.getfield 43, 3) := by decide +kernel
theorem dX3_readWho_129 : decode cX3_readWho 129 = .ok (.iconst 1, 1) := by decide +kernel
theorem dX3_readWho_130 : decode cX3_readWho 130 = .ok (.iadd, 1) := by decide +kernel
theorem dX3_readWho_131 : decode cX3_readWho 131 = .ok (.putfield 43, 3) := by decide +kernel
theorem dX3_readWho_134 : decode cX3_readWho 134 = .ok (.iconst 0, 1) := by decide +kernel
theorem dX3_readWho_135 : decode cX3_readWho 135 = .ok (.ireturn, 1) := by decide +kernel
theorem dX3_readMint_0 : decode cX3_readMint 0 = .ok (.aload_n 0, 1) := by decide +kernel
theorem dX3_readMint_1 : decode cX3_readMint 1 = .ok (.getfield 46, 3) := by decide +kernel
theorem dX3_readMint_4 : decode cX3_readMint 4 = .ok (.iconst 4, 1) := by decide +kernel
theorem dX3_readMint_5 : decode cX3_readMint 5 = .ok (.if_icmp .lt 5, 3) := by decide +kernel
theorem dX3_readMint_8 : decode cX3_readMint 8 = .ok (.iconst 4, 1) := by decide +kernel
theorem dX3_readMint_9 : decode cX3_readMint 9 = .ok (.ireturn, 1) := by decide +kernel
theorem dX3_readMint_10 : decode cX3_readMint 10 = .ok (.aload_n 1, 1) := by decide +kernel
theorem dX3_readMint_11 : decode cX3_readMint 11 = .ok (.invokevirtual 64, 3) := by decide +kernel
theorem dX3_readMint_14 : decode cX3_readMint 14 = .ok (.aload_n 0, 1) := by decide +kernel
theorem dX3_readMint_15 : decode cX3_readMint 15 = .ok (.aload_n 1, 1) := by decide +kernel
theorem dX3_readMint_16 : decode cX3_readMint 16 = .ok (.invokevirtual 88, 3) := by decide +kernel
theorem dX3_readMint_19 : decode cX3_readMint 19 = .ok (.istore_n 2, 1) := by decide +kernel
theorem dX3_readMint_20 : decode cX3_readMint 20 = .ok (.iload_n 2, 1) := by decide +kernel
theorem dX3_readMint_21 : decode cX3_readMint 21 = .ok (.ifCond .eq 5, 3) := by decide +kernel
theorem dX3_readMint_24 : decode cX3_readMint 24 = .ok (.iload_n 2, 1) := by decide +kernel
theorem dX3_readMint_25 : decode cX3_readMint 25 = .ok (.ireturn, 1) := by decide +kernel
theorem dX3_readMint_26 : decode cX3_readMint 26 = .ok (.aload_n 0, 1) := by decide +kernel
theorem dX3_readMint_27 : decode cX3_readMint 27 = .ok (.getfield 21, 3) := by decide +kernel
theorem dX3_readMint_30 : decode cX3_readMint 30 = .ok (.aload_n 0, 1) := by decide +kernel
theorem dX3_readMint_31 : decode cX3_readMint 31 = .ok (.getfield 46, 3) := by decide +kernel
theorem dX3_readMint_34 : decode cX3_readMint 34 = .ok (.aload_n 1, 1) := by decide +kernel
theorem dX3_readMint_35 : decode cX3_readMint 35 = .ok (.getfield 91, 3) := by decide +kernel
theorem dX3_readMint_38 : decode cX3_readMint 38 = .ok (.iastore, 1) := by decide +kernel
theorem dX3_readMint_39 : decode cX3_readMint 39 = .ok (.aload_n 1, 1) := by decide +kernel
theorem dX3_readMint_40 : decode cX3_readMint 40 = .ok (.invokevirtual 64, 3) := by decide +kernel
theorem dX3_readMint_43 : decode cX3_readMint 43 = .ok (.aload_n 1, 1) := by decide +kernel
theorem dX3_readMint_44 : decode cX3_readMint 44 = .ok (.iconst 1, 1) := by decide +kernel
theorem dX3_readMint_45 : decode cX3_readMint 45 = .ok (.bipush 50, 2) := by decide +kernel
theorem dX3_readMint_47 : decode cX3_readMint 47 = .ok (.invokestatic 94, 3) := by decide +kernel
theorem dX3_readMint_50 : decode cX3_readMint 50 = .ok (.istore_n 2, 1) := by decide +kernel
theorem dX3_readMint_51 : decode cX3_readMint 51 = .ok (.iload_n 2, 1) := by decide +kernel
theorem dX3_readMint_52 : decode cX3_readMint 52 = .ok (.ifCond .eq 5, 3) := by decide +kernel
theorem dX3_readMint_55 : decode cX3_readMint 55 = .ok (.iload_n 2, 1) := by decide +kernel
theorem dX3_readMint_56 : decode cX3_readMint 56 = .ok (.ireturn, 1) := by decide +kernel
theorem dX3_readMint_57 : decode cX3_readMint 57 = .ok (.aload_n 0, 1) := by decide +kernel
theorem dX3_readMint_58 : decode cX3_readMint 58 = .ok (.getfield 24, 3) := by decide +kernel
theorem dX3_readMint_61 : decode cX3_readMint 61 = .ok (.aload_n 0, 1) := by decide +kernel
theorem dX3_readMint_62 : decode cX3_readMint 62 = .ok (.getfield 46, 3) := by decide +kernel
theorem dX3_readMint_65 : decode cX3_readMint 65 = .ok (.aload_n 1, 1) := by decide +kernel
theorem dX3_readMint_66 : decode cX3_readMint 66 = .ok (.getfield 98, 3) := by decide +kernel
theorem dX3_readMint_69 : decode cX3_readMint 69 = .ok (.iastore, 1) := by decide +kernel
theorem dX3_readMint_70 : decode cX3_readMint 70 = .ok (.aload_n 1, 1) := by decide +kernel
theorem dX3_readMint_71 : decode cX3_readMint 71 = .ok (.invokevirtual 64, 3) := by decide +kernel
theorem dX3_readMint_74 : decode cX3_readMint 74 = .ok (.aload_n 1, 1) := by decide +kernel
theorem dX3_readMint_75 : decode cX3_readMint 75 = .ok (.iconst 1, 1) := by decide +kernel
theorem dX3_readMint_76 : decode cX3_readMint 76 = .ok (.bipush 9, 2) := by decide +kernel
theorem dX3_readMint_78 : decode cX3_readMint 78 = .ok (.invokestatic 94, 3) := by decide +kernel
theorem dX3_readMint_81 : decode cX3_readMint 81 = .ok (.istore_n 2, 1) := by decide +kernel
theorem dX3_readMint_82 : decode cX3_readMint 82 = .ok (.iload_n 2, 1) := by decide +kernel
theorem dX3_readMint_83 : decode cX3_readMint 83 = .ok (.ifCond .eq 5, 3) := by decide +kernel
theorem dX3_readMint_86 : decode cX3_readMint 86 = .ok (.iload_n 2, 1) := by decide +kernel
theorem dX3_readMint_87 : decode cX3_readMint 87 = .ok (.ireturn, 1) := by decide +kernel
theorem dX3_readMint_88 : decode cX3_readMint 88 = .ok (.aload_n 0, 1) := by decide +kernel
theorem dX3_readMint_89 : decode cX3_readMint 89 = .ok (.getfield 27, 3) := by decide +kernel
theorem dX3_readMint_92 : decode cX3_readMint 92 = .ok (.aload_n 0, 1) := by decide +kernel
theorem dX3_readMint_93 : decode cX3_readMint 93 = .ok (.getfield 46, 3) := by decide +kernel
theorem dX3_readMint_96 : decode cX3_readMint 96 = .ok (.aload_n 1, 1) := by decide +kernel
theorem dX3_readMint_97 : decode cX3_readMint 97 = .ok (.getfield 98, 3) := by decide +kernel
theorem dX3_readMint_100 : decode cX3_readMint 100 = .ok (.iastore, 1) := by decide +kernel
theorem dX3_readMint_101 : decode cX3_readMint 101 = .ok (.aload_n 1, 1) := by decide +kernel
theorem dX3_readMint_102 : decode cX3_readMint 102 = .ok (.invokevirtual 64, 3) := by decide +kernel
theorem dX3_readMint_105 : decode cX3_readMint 105 = .ok (.aload_n 0, 1) := by decide +kernel
theorem dX3_readMint_106 : decode cX3_readMint 106 = .ok (.dup, 1) := by decide +kernel
theorem dX3_readMint_107 : decode cX3_readMint 107 = .ok (.getfield 46, 3) := by decide +kernel
theorem dX3_readMint_110 : decode cX3_readMint 110 = .ok (.iconst 1, 1) := by decide +kernel
theorem dX3_readMint_111 : decode cX3_readMint 111 = .ok (.iadd, 1) := by decide +kernel
theorem dX3_readMint_112 : decode cX3_readMint 112 = .ok (.putfield 46, 3) := by decide +kernel
theorem dX3_readMint_115 : decode cX3_readMint 115 = .ok (.iconst 0, 1) := by decide +kernel
theorem dX3_readMint_116 : decode cX3_readMint 116 = .ok (.ireturn, 1) := by decide +kernel
theorem dX3_readTakes_0 : decode cX3_readTakes 0 = .ok (.aload_n 1, 1) := by decide +kernel
theorem dX3_readTakes_1 : decode cX3_readTakes 1 = .ok (.invokevirtual 64, 3) := by decide +kernel
theorem dX3_readTakes_4 : decode cX3_readTakes 4 = .ok (.aload_n 0, 1) := by decide +kernel
theorem dX3_readTakes_5 : decode cX3_readTakes 5 = .ok (.aload_n 1, 1) := by decide +kernel
theorem dX3_readTakes_6 : decode cX3_readTakes 6 = .ok (.invokevirtual 101, 3) := by decide +kernel
theorem dX3_readTakes_9 : decode cX3_readTakes 9 = .ok (.istore_n 2, 1) := by decide +kernel
theorem dX3_readTakes_10 : decode cX3_readTakes 10 = .ok (.iload_n 2, 1) := by decide +kernel
theorem dX3_readTakes_11 : decode cX3_readTakes 11 = .ok (.ifCond .eq 5, 3) := by decide +kernel
theorem dX3_readTakes_14 : decode cX3_readTakes 14 = .ok (.iload_n 2, 1) := by decide +kernel
theorem dX3_readTakes_15 : decode cX3_readTakes 15 = .ok (.ireturn, 1) := by decide +kernel
theorem dX3_readTakes_16 : decode cX3_readTakes 16 = .ok (.aload_n 0, 1) := by decide +kernel
theorem dX3_readTakes_17 : decode cX3_readTakes 17 = .ok (.aload_n 1, 1) := by decide +kernel
theorem dX3_readTakes_18 : decode cX3_readTakes 18 = .ok (.getfield 91, 3) := by decide +kernel
theorem dX3_readTakes_21 : decode cX3_readTakes 21 = .ok (.invokevirtual 104, 3) := by decide +kernel
theorem dX3_readTakes_24 : decode cX3_readTakes 24 = .ok (.istore_n 3, 1) := by decide +kernel
theorem dX3_readTakes_25 : decode cX3_readTakes 25 = .ok (.aload_n 1, 1) := by decide +kernel
theorem dX3_readTakes_26 : decode cX3_readTakes 26 = .ok (.invokevirtual 64, 3) := by decide +kernel
theorem dX3_readTakes_29 : decode cX3_readTakes 29 = .ok (.aload_n 0, 1) := by decide +kernel
theorem dX3_readTakes_30 : decode cX3_readTakes 30 = .ok (.aload_n 1, 1) := by decide +kernel
theorem dX3_readTakes_31 : decode cX3_readTakes 31 = .ok (.invokevirtual 101, 3) := by decide +kernel
theorem dX3_readTakes_34 : decode cX3_readTakes 34 = .ok (.istore_n 2, 1) := by decide +kernel
theorem dX3_readTakes_35 : decode cX3_readTakes 35 = .ok (.iload_n 2, 1) := by decide +kernel
theorem dX3_readTakes_36 : decode cX3_readTakes 36 = .ok (.ifCond .eq 5, 3) := by decide +kernel
theorem dX3_readTakes_39 : decode cX3_readTakes 39 = .ok (.iload_n 2, 1) := by decide +kernel
theorem dX3_readTakes_40 : decode cX3_readTakes 40 = .ok (.ireturn, 1) := by decide +kernel
theorem dX3_readTakes_41 : decode cX3_readTakes 41 = .ok (.iload_n 3, 1) := by decide +kernel
theorem dX3_readTakes_42 : decode cX3_readTakes 42 = .ok (.bipush 8, 2) := by decide +kernel
theorem dX3_readTakes_44 : decode cX3_readTakes 44 = .ok (.imul, 1) := by decide +kernel
theorem dX3_readTakes_45 : decode cX3_readTakes 45 = .ok (.aload_n 0, 1) := by decide +kernel
theorem dX3_readTakes_46 : decode cX3_readTakes 46 = .ok (.aload_n 1, 1) := by decide +kernel
theorem dX3_readTakes_47 : decode cX3_readTakes 47 = .ok (.getfield 91, 3) := by decide +kernel
theorem dX3_readTakes_50 : decode cX3_readTakes 50 = .ok (.invokevirtual 104, 3) := by decide +kernel
theorem dX3_readTakes_53 : decode cX3_readTakes 53 = .ok (.iadd, 1) := by decide +kernel
theorem dX3_readTakes_54 : decode cX3_readTakes 54 = .ok (.istore 4, 2) := by decide +kernel
theorem dX3_readTakes_56 : decode cX3_readTakes 56 = .ok (.iload 4, 2) := by decide +kernel
theorem dX3_readTakes_58 : decode cX3_readTakes 58 = .ok (.ifCond .lt 24, 3) := by decide +kernel
theorem dX3_readTakes_61 : decode cX3_readTakes 61 = .ok (.iload 4, 2) := by decide +kernel
theorem dX3_readTakes_63 : decode cX3_readTakes 63 = .ok (.aload_n 0, 1) := by decide +kernel
theorem dX3_readTakes_64 : decode cX3_readTakes 64 = .ok (.getfield 30, 3) := by decide +kernel
theorem dX3_readTakes_67 : decode cX3_readTakes 67 = .ok (.arraylength, 1) := by decide +kernel
theorem dX3_readTakes_68 : decode cX3_readTakes 68 = .ok (.if_icmp .ge 14, 3) := by decide +kernel
theorem dX3_readTakes_71 : decode cX3_readTakes 71 = .ok (.aload_n 0, 1) := by decide +kernel
theorem dX3_readTakes_72 : decode cX3_readTakes 72 = .ok (.getfield 30, 3) := by decide +kernel
theorem dX3_readTakes_75 : decode cX3_readTakes 75 = .ok (.iload 4, 2) := by decide +kernel
theorem dX3_readTakes_77 : decode cX3_readTakes 77 = .ok (.iaload, 1) := by decide +kernel
theorem dX3_readTakes_78 : decode cX3_readTakes 78 = .ok (.iconst (-1), 1) := by decide +kernel
theorem dX3_readTakes_79 : decode cX3_readTakes 79 = .ok (.if_icmp .eq 5, 3) := by decide +kernel
theorem dX3_readTakes_82 : decode cX3_readTakes 82 = .ok (.iconst 3, 1) := by decide +kernel
theorem dX3_readTakes_83 : decode cX3_readTakes 83 = .ok (.ireturn, 1) := by decide +kernel
theorem dX3_readTakes_84 : decode cX3_readTakes 84 = .ok (.aload_n 1, 1) := by decide +kernel
theorem dX3_readTakes_85 : decode cX3_readTakes 85 = .ok (.invokevirtual 64, 3) := by decide +kernel
theorem dX3_readTakes_88 : decode cX3_readTakes 88 = .ok (.aload_n 1, 1) := by decide +kernel
theorem dX3_readTakes_89 : decode cX3_readTakes 89 = .ok (.iconst 0, 1) := by decide +kernel
theorem dX3_readTakes_90 : decode cX3_readTakes 90 = .ok (.sipush 200, 3) := by decide +kernel
theorem dX3_readTakes_93 : decode cX3_readTakes 93 = .ok (.invokestatic 94, 3) := by decide +kernel
theorem dX3_readTakes_96 : decode cX3_readTakes 96 = .ok (.istore_n 2, 1) := by decide +kernel
theorem dX3_readTakes_97 : decode cX3_readTakes 97 = .ok (.iload_n 2, 1) := by decide +kernel
theorem dX3_readTakes_98 : decode cX3_readTakes 98 = .ok (.ifCond .eq 5, 3) := by decide +kernel
theorem dX3_readTakes_101 : decode cX3_readTakes 101 = .ok (.iload_n 2, 1) := by decide +kernel
theorem dX3_readTakes_102 : decode cX3_readTakes 102 = .ok (.ireturn, 1) := by decide +kernel
theorem dX3_readTakes_103 : decode cX3_readTakes 103 = .ok (.aload_n 0, 1) := by decide +kernel
theorem dX3_readTakes_104 : decode cX3_readTakes 104 = .ok (.getfield 30, 3) := by decide +kernel
theorem dX3_readTakes_107 : decode cX3_readTakes 107 = .ok (.iload 4, 2) := by decide +kernel
theorem dX3_readTakes_109 : decode cX3_readTakes 109 = .ok (.aload_n 1, 1) := by decide +kernel
theorem dX3_readTakes_110 : decode cX3_readTakes 110 = .ok (.getfield 98, 3) := by decide +kernel
theorem dX3_readTakes_113 : decode cX3_readTakes 113 = .ok (.iastore, 1) := by decide +kernel
theorem dX3_readTakes_114 : decode cX3_readTakes 114 = .ok (.aload_n 0, 1) := by decide +kernel
theorem dX3_readTakes_115 : decode cX3_readTakes 115 = .ok (.dup, 1) := by decide +kernel
theorem dX3_readTakes_116 : decode cX3_readTakes 116 = .ok (.getfield 49, 3) := by decide +kernel
theorem dX3_readTakes_119 : decode cX3_readTakes 119 = .ok (.iconst 1, 1) := by decide +kernel
theorem dX3_readTakes_120 : decode cX3_readTakes 120 = .ok (.iadd, 1) := by decide +kernel
theorem dX3_readTakes_121 : decode cX3_readTakes 121 = .ok (.putfield 49, 3) := by decide +kernel
theorem dX3_readTakes_124 : decode cX3_readTakes 124 = .ok (.aload_n 1, 1) := by decide +kernel
theorem dX3_readTakes_125 : decode cX3_readTakes 125 = .ok (.invokevirtual 64, 3) := by decide +kernel
theorem dX3_readTakes_128 : decode cX3_readTakes 128 = .ok (.iconst 0, 1) := by decide +kernel
theorem dX3_readTakes_129 : decode cX3_readTakes 129 = .ok (.ireturn, 1) := by decide +kernel
theorem dX3_readSetting_0 : decode cX3_readSetting 0 = .ok (.aload_n 1, 1) := by decide +kernel
theorem dX3_readSetting_1 : decode cX3_readSetting 1 = .ok (.getfield 69, 3) := by decide +kernel
theorem dX3_readSetting_4 : decode cX3_readSetting 4 = .ok (.bipush 15, 2) := by decide +kernel
theorem dX3_readSetting_6 : decode cX3_readSetting 6 = .ok (.isub, 1) := by decide +kernel
theorem dX3_readSetting_7 : decode cX3_readSetting 7 = .ok (.istore_n 2, 1) := by decide +kernel
theorem dX3_readSetting_8 : decode cX3_readSetting 8 = .ok (.iload_n 2, 1) := by decide +kernel
theorem dX3_readSetting_9 : decode cX3_readSetting 9 = .ok (.ifCond .lt 8, 3) := by decide +kernel
theorem dX3_readSetting_12 : decode cX3_readSetting 12 = .ok (.iload_n 2, 1) := by decide +kernel
theorem dX3_readSetting_13 : decode cX3_readSetting 13 = .ok (.iconst 4, 1) := by decide +kernel
theorem dX3_readSetting_14 : decode cX3_readSetting 14 = .ok (.if_icmp .lt 5, 3) := by decide +kernel
theorem dX3_readSetting_17 : decode cX3_readSetting 17 = .ok (.iconst 1, 1) := by decide +kernel
theorem dX3_readSetting_18 : decode cX3_readSetting 18 = .ok (.ireturn, 1) := by decide +kernel
theorem dX3_readSetting_19 : decode cX3_readSetting 19 = .ok (.aload_n 0, 1) := by decide +kernel
theorem dX3_readSetting_20 : decode cX3_readSetting 20 = .ok (.getfield 52, 3) := by decide +kernel
theorem dX3_readSetting_23 : decode cX3_readSetting 23 = .ok (.iload_n 2, 1) := by decide +kernel
theorem dX3_readSetting_24 : decode cX3_readSetting 24 = .ok (.ishr, 1) := by decide +kernel
theorem dX3_readSetting_25 : decode cX3_readSetting 25 = .ok (.iconst 1, 1) := by decide +kernel
theorem dX3_readSetting_26 : decode cX3_readSetting 26 = .ok (.iand, 1) := by decide +kernel
theorem dX3_readSetting_27 : decode cX3_readSetting 27 = .ok (.ifCond .eq 5, 3) := by decide +kernel
theorem dX3_readSetting_30 : decode cX3_readSetting 30 = .ok (.iconst 3, 1) := by decide +kernel
theorem dX3_readSetting_31 : decode cX3_readSetting 31 = .ok (.ireturn, 1) := by decide +kernel
theorem dX3_readSetting_32 : decode cX3_readSetting 32 = .ok (.aload_n 0, 1) := by decide +kernel
theorem dX3_readSetting_33 : decode cX3_readSetting 33 = .ok (.dup, 1) := by decide +kernel
theorem dX3_readSetting_34 : decode cX3_readSetting 34 = .ok (.getfield 52, 3) := by decide +kernel
theorem dX3_readSetting_37 : decode cX3_readSetting 37 = .ok (.iconst 1, 1) := by decide +kernel
theorem dX3_readSetting_38 : decode cX3_readSetting 38 = .ok (.iload_n 2, 1) := by decide +kernel
theorem dX3_readSetting_39 : decode cX3_readSetting 39 = .ok (.ishl, 1) := by decide +kernel
theorem dX3_readSetting_40 : decode cX3_readSetting 40 = .ok (.ior, 1) := by decide +kernel
theorem dX3_readSetting_41 : decode cX3_readSetting 41 = .ok (.putfield 52, 3) := by decide +kernel
theorem dX3_readSetting_44 : decode cX3_readSetting 44 = .ok (.aload_n 1, 1) := by decide +kernel
theorem dX3_readSetting_45 : decode cX3_readSetting 45 = .ok (.invokevirtual 64, 3) := by decide +kernel
theorem dX3_readSetting_48 : decode cX3_readSetting 48 = .ok (.aload_n 1, 1) := by decide +kernel
theorem dX3_readSetting_49 : decode cX3_readSetting 49 = .ok (.getstatic 108, 3) := by decide +kernel
theorem dX3_readSetting_52 : decode cX3_readSetting 52 = .ok (.iload_n 2, 1) := by decide +kernel
theorem dX3_readSetting_53 : decode cX3_readSetting 53 = .ok (.iaload, 1) := by decide +kernel
theorem dX3_readSetting_54 : decode cX3_readSetting 54 = .ok (.getstatic 111, 3) := by decide +kernel
theorem dX3_readSetting_57 : decode cX3_readSetting 57 = .ok (.iload_n 2, 1) := by decide +kernel
theorem dX3_readSetting_58 : decode cX3_readSetting 58 = .ok (.iaload, 1) := by decide +kernel
theorem dX3_readSetting_59 : decode cX3_readSetting 59 = .ok (.invokestatic 94, 3) := by decide +kernel
theorem dX3_readSetting_62 : decode cX3_readSetting 62 = .ok (.istore_n 3, 1) := by decide +kernel
theorem dX3_readSetting_63 : decode cX3_readSetting 63 = .ok (.iload_n 3, 1) := by decide +kernel
theorem dX3_readSetting_64 : decode cX3_readSetting 64 = .ok (.ifCond .eq 5, 3) := by decide +kernel
theorem dX3_readSetting_67 : decode cX3_readSetting 67 = .ok (.iload_n 3, 1) := by decide +kernel
theorem dX3_readSetting_68 : decode cX3_readSetting 68 = .ok (.ireturn, 1) := by decide +kernel
theorem dX3_readSetting_69 : decode cX3_readSetting 69 = .ok (.aload_n 0, 1) := by decide +kernel
theorem dX3_readSetting_70 : decode cX3_readSetting 70 = .ok (.getfield 33, 3) := by decide +kernel
theorem dX3_readSetting_73 : decode cX3_readSetting 73 = .ok (.iload_n 2, 1) := by decide +kernel
theorem dX3_readSetting_74 : decode cX3_readSetting 74 = .ok (.aload_n 1, 1) := by decide +kernel
theorem dX3_readSetting_75 : decode cX3_readSetting 75 = .ok (.getfield 98, 3) := by decide +kernel
theorem dX3_readSetting_78 : decode cX3_readSetting 78 = .ok (.iastore, 1) := by decide +kernel
theorem dX3_readSetting_79 : decode cX3_readSetting 79 = .ok (.aload_n 1, 1) := by decide +kernel
theorem dX3_readSetting_80 : decode cX3_readSetting 80 = .ok (.invokevirtual 64, 3) := by decide +kernel
theorem dX3_readSetting_83 : decode cX3_readSetting 83 = .ok (.iconst 0, 1) := by decide +kernel
theorem dX3_readSetting_84 : decode cX3_readSetting 84 = .ok (.ireturn, 1) := by decide +kernel
theorem dX3_newNameFault_0 : decode cX3_newNameFault 0 = .ok (.aload_n 1, 1) := by decide +kernel
theorem dX3_newNameFault_1 : decode cX3_newNameFault 1 = .ok (.getfield 69, 3) := by decide +kernel
theorem dX3_newNameFault_4 : decode cX3_newNameFault 4 = .ok (.iconst 3, 1) := by decide +kernel
theorem dX3_newNameFault_5 : decode cX3_newNameFault 5 = .ok (.if_icmp .eq 5, 3) := by decide +kernel
theorem dX3_newNameFault_8 : decode cX3_newNameFault 8 = .ok (.iconst 1, 1) := by decide +kernel
theorem dX3_newNameFault_9 : decode cX3_newNameFault 9 = .ok (.ireturn, 1) := by decide +kernel
theorem dX3_newNameFault_10 : decode cX3_newNameFault 10 = .ok (.aload_n 0, 1) := by decide +kernel
theorem dX3_newNameFault_11 : decode cX3_newNameFault 11 = .ok (.aload_n 1, 1) := by decide +kernel
theorem dX3_newNameFault_12 : decode cX3_newNameFault 12 = .ok (.getfield 91, 3) := by decide +kernel
theorem dX3_newNameFault_15 : decode cX3_newNameFault 15 = .ok (.invokevirtual 104, 3) := by decide +kernel
theorem dX3_newNameFault_18 : decode cX3_newNameFault 18 = .ok (.iconst (-1), 1) := by decide +kernel
theorem dX3_newNameFault_19 : decode cX3_newNameFault 19 = .ok (.if_icmp .ne 14, 3) := by decide +kernel
theorem dX3_newNameFault_22 : decode cX3_newNameFault 22 = .ok (.aload_n 0, 1) := by decide +kernel
theorem dX3_newNameFault_23 : decode cX3_newNameFault 23 = .ok (.aload_n 1, 1) := by decide +kernel
theorem dX3_newNameFault_24 : decode cX3_newNameFault 24 = .ok (.getfield 91, 3) := by decide +kernel
theorem dX3_newNameFault_27 : decode cX3_newNameFault 27 = .ok (.invokevirtual 114, 3) := by decide +kernel
theorem dX3_newNameFault_30 : decode cX3_newNameFault 30 = .ok (.ifCond .eq 7, 3) := by decide +kernel
theorem dX3_newNameFault_33 : decode cX3_newNameFault 33 = .ok (.iconst 3, 1) := by decide +kernel
theorem dX3_newNameFault_34 : decode cX3_newNameFault 34 = .ok (.goto 4, 3) := by decide +kernel
theorem dX3_newNameFault_37 : decode cX3_newNameFault 37 = .ok (.iconst 0, 1) := by decide +kernel
theorem dX3_newNameFault_38 : decode cX3_newNameFault 38 = .ok (.ireturn, 1) := by decide +kernel
theorem dX3_toldWhoFault_0 : decode cX3_toldWhoFault 0 = .ok (.aload_n 1, 1) := by decide +kernel
theorem dX3_toldWhoFault_1 : decode cX3_toldWhoFault 1 = .ok (.getfield 69, 3) := by decide +kernel
theorem dX3_toldWhoFault_4 : decode cX3_toldWhoFault 4 = .ok (.iconst 3, 1) := by decide +kernel
theorem dX3_toldWhoFault_5 : decode cX3_toldWhoFault 5 = .ok (.if_icmp .eq 5, 3) := by decide +kernel
theorem dX3_toldWhoFault_8 : decode cX3_toldWhoFault 8 = .ok (.iconst 1, 1) := by decide +kernel
theorem dX3_toldWhoFault_9 : decode cX3_toldWhoFault 9 = .ok (.ireturn, 1) := by decide +kernel
theorem dX3_toldWhoFault_10 : decode cX3_toldWhoFault 10 = .ok (.aload_n 0, 1) := by decide +kernel
theorem dX3_toldWhoFault_11 : decode cX3_toldWhoFault 11 = .ok (.aload_n 1, 1) := by decide +kernel
theorem dX3_toldWhoFault_12 : decode cX3_toldWhoFault 12 = .ok (.getfield 91, 3) := by decide +kernel
theorem dX3_toldWhoFault_15 : decode cX3_toldWhoFault 15 = .ok (.invokevirtual 104, 3) := by decide +kernel
theorem dX3_toldWhoFault_18 : decode cX3_toldWhoFault 18 = .ok (.iconst (-1), 1) := by decide +kernel
theorem dX3_toldWhoFault_19 : decode cX3_toldWhoFault 19 = .ok (.if_icmp .ne 7, 3) := by decide +kernel
theorem dX3_toldWhoFault_22 : decode cX3_toldWhoFault 22 = .ok (.iconst 3, 1) := by decide +kernel
theorem dX3_toldWhoFault_23 : decode cX3_toldWhoFault 23 = .ok (.goto 4, 3) := by decide +kernel
theorem dX3_toldWhoFault_26 : decode cX3_toldWhoFault 26 = .ok (.iconst 0, 1) := by decide +kernel
theorem dX3_toldWhoFault_27 : decode cX3_toldWhoFault 27 = .ok (.ireturn, 1) := by decide +kernel
theorem dX3_numberFault_0 : decode cX3_numberFault 0 = .ok (.aload_n 0, 1) := by decide +kernel
theorem dX3_numberFault_1 : decode cX3_numberFault 1 = .ok (.getfield 69, 3) := by decide +kernel
theorem dX3_numberFault_4 : decode cX3_numberFault 4 = .ok (.iconst 2, 1) := by decide +kernel
theorem dX3_numberFault_5 : decode cX3_numberFault 5 = .ok (.if_icmp .eq 5, 3) := by decide +kernel
theorem dX3_numberFault_8 : decode cX3_numberFault 8 = .ok (.iconst 1, 1) := by decide +kernel
theorem dX3_numberFault_9 : decode cX3_numberFault 9 = .ok (.ireturn, 1) := by decide +kernel
theorem dX3_numberFault_10 : decode cX3_numberFault 10 = .ok (.aload_n 0, 1) := by decide +kernel
theorem dX3_numberFault_11 : decode cX3_numberFault 11 = .ok (.getfield 98, 3) := by decide +kernel
theorem dX3_numberFault_14 : decode cX3_numberFault 14 = .ok (.iload_n 1, 1) := by decide +kernel
theorem dX3_numberFault_15 : decode cX3_numberFault 15 = .ok (.if_icmp .lt 11, 3) := by decide +kernel
theorem dX3_numberFault_18 : decode cX3_numberFault 18 = .ok (.aload_n 0, 1) := by decide +kernel
theorem dX3_numberFault_19 : decode cX3_numberFault 19 = .ok (.getfield 98, 3) := by decide +kernel
theorem dX3_numberFault_22 : decode cX3_numberFault 22 = .ok (.iload_n 2, 1) := by decide +kernel
theorem dX3_numberFault_23 : decode cX3_numberFault 23 = .ok (.if_icmp .le 7, 3) := by decide +kernel
theorem dX3_numberFault_26 : decode cX3_numberFault 26 = .ok (.iconst 2, 1) := by decide +kernel
theorem dX3_numberFault_27 : decode cX3_numberFault 27 = .ok (.goto 4, 3) := by decide +kernel
theorem dX3_numberFault_30 : decode cX3_numberFault 30 = .ok (.iconst 0, 1) := by decide +kernel
theorem dX3_numberFault_31 : decode cX3_numberFault 31 = .ok (.ireturn, 1) := by decide +kernel
theorem dX3_findWho_0 : decode cX3_findWho 0 = .ok (.iconst 0, 1) := by decide +kernel
theorem dX3_findWho_1 : decode cX3_findWho 1 = .ok (.istore_n 2, 1) := by decide +kernel
theorem dX3_findWho_2 : decode cX3_findWho 2 = .ok (.iload_n 2, 1) := by decide +kernel
theorem dX3_findWho_3 : decode cX3_findWho 3 = .ok (.aload_n 0, 1) := by decide +kernel
theorem dX3_findWho_4 : decode cX3_findWho 4 = .ok (.getfield 43, 3) := by decide +kernel
theorem dX3_findWho_7 : decode cX3_findWho 7 = .ok (.if_icmp .ge 27, 3) := by decide +kernel
theorem dX3_findWho_10 : decode cX3_findWho 10 = .ok (.iload_n 2, 1) := by decide +kernel
theorem dX3_findWho_11 : decode cX3_findWho 11 = .ok (.bipush 8, 2) := by decide +kernel
theorem dX3_findWho_13 : decode cX3_findWho 13 = .ok (.if_icmp .ge 21, 3) := by decide +kernel
theorem dX3_findWho_16 : decode cX3_findWho 16 = .ok (.aload_n 0, 1) := by decide +kernel
theorem dX3_findWho_17 : decode cX3_findWho 17 = .ok (.getfield 9, 3) := by decide +kernel
theorem dX3_findWho_20 : decode cX3_findWho 20 = .ok (.iload_n 2, 1) := by decide +kernel
theorem dX3_findWho_21 : decode cX3_findWho 21 = .ok (.iaload, 1) := by decide +kernel
theorem dX3_findWho_22 : decode cX3_findWho 22 = .ok (.iload_n 1, 1) := by decide +kernel
theorem dX3_findWho_23 : decode cX3_findWho 23 = .ok (.if_icmp .ne 5, 3) := by decide +kernel
theorem dX3_findWho_26 : decode cX3_findWho 26 = .ok (.iload_n 2, 1) := by decide +kernel
theorem dX3_findWho_27 : decode cX3_findWho 27 = .ok (.ireturn, 1) := by decide +kernel
theorem dX3_findWho_28 : decode cX3_findWho 28 = .ok (.iinc 2 1, 3) := by decide +kernel
theorem dX3_findWho_31 : decode cX3_findWho 31 = .ok (.goto (-29), 3) := by decide +kernel
theorem dX3_findWho_34 : decode cX3_findWho 34 = .ok (.iconst (-1), 1) := by decide +kernel
theorem dX3_findWho_35 : decode cX3_findWho 35 = .ok (.ireturn, 1) := by decide +kernel
theorem dX3_isMintName_0 : decode cX3_isMintName 0 = .ok (.iconst 0, 1) := by decide +kernel
theorem dX3_isMintName_1 : decode cX3_isMintName 1 = .ok (.istore_n 2, 1) := by decide +kernel
theorem dX3_isMintName_2 : decode cX3_isMintName 2 = .ok (.iload_n 2, 1) := by decide +kernel
theorem dX3_isMintName_3 : decode cX3_isMintName 3 = .ok (.aload_n 0, 1) := by decide +kernel
theorem dX3_isMintName_4 : decode cX3_isMintName 4 = .ok (.getfield 46, 3) := by decide +kernel
theorem dX3_isMintName_7 : decode cX3_isMintName 7 = .ok (.if_icmp .ge 26, 3) := by decide +kernel
theorem dX3_isMintName_10 : decode cX3_isMintName 10 = .ok (.iload_n 2, 1) := by decide +kernel
theorem dX3_isMintName_11 : decode cX3_isMintName 11 = .ok (.iconst 4, 1) := by decide +kernel
theorem dX3_isMintName_12 : decode cX3_isMintName 12 = .ok (.if_icmp .ge 21, 3) := by decide +kernel
theorem dX3_isMintName_15 : decode cX3_isMintName 15 = .ok (.aload_n 0, 1) := by decide +kernel
theorem dX3_isMintName_16 : decode cX3_isMintName 16 = .ok (.getfield 21, 3) := by decide +kernel
theorem dX3_isMintName_19 : decode cX3_isMintName 19 = .ok (.iload_n 2, 1) := by decide +kernel
theorem dX3_isMintName_20 : decode cX3_isMintName 20 = .ok (.iaload, 1) := by decide +kernel
theorem dX3_isMintName_21 : decode cX3_isMintName 21 = .ok (.iload_n 1, 1) := by decide +kernel
theorem dX3_isMintName_22 : decode cX3_isMintName 22 = .ok (.if_icmp .ne 5, 3) := by decide +kernel
theorem dX3_isMintName_25 : decode cX3_isMintName 25 = .ok (.iconst 1, 1) := by decide +kernel
theorem dX3_isMintName_26 : decode cX3_isMintName 26 = .ok (.ireturn, 1) := by decide +kernel
theorem dX3_isMintName_27 : decode cX3_isMintName 27 = .ok (.iinc 2 1, 3) := by decide +kernel
theorem dX3_isMintName_30 : decode cX3_isMintName 30 = .ok (.goto (-28), 3) := by decide +kernel
theorem dX3_isMintName_33 : decode cX3_isMintName 33 = .ok (.iconst 0, 1) := by decide +kernel
theorem dX3_isMintName_34 : decode cX3_isMintName 34 = .ok (.ireturn, 1) := by decide +kernel
theorem dX3_takenAt_0 : decode cX3_takenAt 0 = .ok (.iload_n 1, 1) := by decide +kernel
theorem dX3_takenAt_1 : decode cX3_takenAt 1 = .ok (.bipush 8, 2) := by decide +kernel
theorem dX3_takenAt_3 : decode cX3_takenAt 3 = .ok (.imul, 1) := by decide +kernel
theorem dX3_takenAt_4 : decode cX3_takenAt 4 = .ok (.iload_n 2, 1) := by decide +kernel
theorem dX3_takenAt_5 : decode cX3_takenAt 5 = .ok (.iadd, 1) := by decide +kernel
theorem dX3_takenAt_6 : decode cX3_takenAt 6 = .ok (.istore_n 3, 1) := by decide +kernel
theorem dX3_takenAt_7 : decode cX3_takenAt 7 = .ok (.iload_n 3, 1) := by decide +kernel
theorem dX3_takenAt_8 : decode cX3_takenAt 8 = .ok (.ifCond .lt 22, 3) := by decide +kernel
theorem dX3_takenAt_11 : decode cX3_takenAt 11 = .ok (.iload_n 3, 1) := by decide +kernel
theorem dX3_takenAt_12 : decode cX3_takenAt 12 = .ok (.aload_n 0, 1) := by decide +kernel
theorem dX3_takenAt_13 : decode cX3_takenAt 13 = .ok (.getfield 30, 3) := by decide +kernel
theorem dX3_takenAt_16 : decode cX3_takenAt 16 = .ok (.arraylength, 1) := by decide +kernel
theorem dX3_takenAt_17 : decode cX3_takenAt 17 = .ok (.if_icmp .ge 13, 3) := by decide +kernel
theorem dX3_takenAt_20 : decode cX3_takenAt 20 = .ok (.aload_n 0, 1) := by decide +kernel
theorem dX3_takenAt_21 : decode cX3_takenAt 21 = .ok (.getfield 30, 3) := by decide +kernel
theorem dX3_takenAt_24 : decode cX3_takenAt 24 = .ok (.iload_n 3, 1) := by decide +kernel
theorem dX3_takenAt_25 : decode cX3_takenAt 25 = .ok (.iaload, 1) := by decide +kernel
theorem dX3_takenAt_26 : decode cX3_takenAt 26 = .ok (.iconst (-1), 1) := by decide +kernel
theorem dX3_takenAt_27 : decode cX3_takenAt 27 = .ok (.if_icmp .ne 6, 3) := by decide +kernel
theorem dX3_takenAt_30 : decode cX3_takenAt 30 = .ok (.bipush 100, 2) := by decide +kernel
theorem dX3_takenAt_32 : decode cX3_takenAt 32 = .ok (.ireturn, 1) := by decide +kernel
theorem dX3_takenAt_33 : decode cX3_takenAt 33 = .ok (.aload_n 0, 1) := by decide +kernel
theorem dX3_takenAt_34 : decode cX3_takenAt 34 = .ok (.getfield 30, 3) := by decide +kernel
theorem dX3_takenAt_37 : decode cX3_takenAt 37 = .ok (.iload_n 3, 1) := by decide +kernel
theorem dX3_takenAt_38 : decode cX3_takenAt 38 = .ok (.iaload, 1) := by decide +kernel
theorem dX3_takenAt_39 : decode cX3_takenAt 39 = .ok (.ireturn, 1) := by decide +kernel
