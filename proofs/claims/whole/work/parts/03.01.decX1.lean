theorem dX1_init_0 : decode cX1_init 0 = .ok (.aload_n 0, 1) := by decide +kernel
theorem dX1_init_1 : decode cX1_init 1 = .ok (.invokespecial 3, 3) := by decide +kernel
theorem dX1_init_4 : decode cX1_init 4 = .ok (.aload_n 0, 1) := by decide +kernel
theorem dX1_init_5 : decode cX1_init 5 = .ok (.bipush 40, 2) := by decide +kernel
theorem dX1_init_7 : decode cX1_init 7 = .ok (.newarray .int, 2) := by decide +kernel
theorem dX1_init_9 : decode cX1_init 9 = .ok (.putfield 9, 3) := by decide +kernel
theorem dX1_init_12 : decode cX1_init 12 = .ok (.aload_n 0, 1) := by decide +kernel
theorem dX1_init_13 : decode cX1_init 13 = .ok (.bipush 40, 2) := by decide +kernel
theorem dX1_init_15 : decode cX1_init 15 = .ok (.newarray .int, 2) := by decide +kernel
theorem dX1_init_17 : decode cX1_init 17 = .ok (.putfield 15, 3) := by decide +kernel
theorem dX1_init_20 : decode cX1_init 20 = .ok (.aload_n 0, 1) := by decide +kernel
theorem dX1_init_21 : decode cX1_init 21 = .ok (.bipush 40, 2) := by decide +kernel
theorem dX1_init_23 : decode cX1_init 23 = .ok (.newarray .int, 2) := by decide +kernel
theorem dX1_init_25 : decode cX1_init 25 = .ok (.putfield 18, 3) := by decide +kernel
theorem dX1_init_28 : decode cX1_init 28 = .ok (.aload_n 0, 1) := by decide +kernel
theorem dX1_init_29 : decode cX1_init 29 = .ok (.bipush 40, 2) := by decide +kernel
theorem dX1_init_31 : decode cX1_init 31 = .ok (.newarray .int, 2) := by decide +kernel
theorem dX1_init_33 : decode cX1_init 33 = .ok (.putfield 21, 3) := by decide +kernel
theorem dX1_init_36 : decode cX1_init 36 = .ok (.aload_n 0, 1) := by decide +kernel
theorem dX1_init_37 : decode cX1_init 37 = .ok (.sipush 360, 3) := by decide +kernel
theorem dX1_init_40 : decode cX1_init 40 = .ok (.newarray .int, 2) := by decide +kernel
theorem dX1_init_42 : decode cX1_init 42 = .ok (.putfield 24, 3) := by decide +kernel
theorem dX1_init_45 : decode cX1_init 45 = .ok (.aload_n 0, 1) := by decide +kernel
theorem dX1_init_46 : decode cX1_init 46 = .ok (.sipush 360, 3) := by decide +kernel
theorem dX1_init_49 : decode cX1_init 49 = .ok (.newarray .int, 2) := by decide +kernel
theorem dX1_init_51 : decode cX1_init 51 = .ok (.putfield 27, 3) := by decide +kernel
theorem dX1_init_54 : decode cX1_init 54 = .ok (.aload_n 0, 1) := by decide +kernel
theorem dX1_init_55 : decode cX1_init 55 = .ok (.invokevirtual 30, 3) := by decide +kernel
theorem dX1_init_58 : decode cX1_init 58 = .ok (.return_, 1) := by decide +kernel
theorem dX1_clear_0 : decode cX1_clear 0 = .ok (.aload_n 0, 1) := by decide +kernel
theorem dX1_clear_1 : decode cX1_clear 1 = .ok (.iconst 0, 1) := by decide +kernel
theorem dX1_clear_2 : decode cX1_clear 2 = .ok (.putfield 33, 3) := by decide +kernel
theorem dX1_clear_5 : decode cX1_clear 5 = .ok (.aload_n 0, 1) := by decide +kernel
theorem dX1_clear_6 : decode cX1_clear 6 = .ok (.iconst 0, 1) := by decide +kernel
theorem dX1_clear_7 : decode cX1_clear 7 = .ok (.putfield 37, 3) := by decide +kernel
theorem dX1_clear_10 : decode cX1_clear 10 = .ok (.aload_n 0, 1) := by decide +kernel
theorem dX1_clear_11 : decode cX1_clear 11 = .ok (.iconst 0, 1) := by decide +kernel
theorem dX1_clear_12 : decode cX1_clear 12 = .ok (.putfield 40, 3) := by decide +kernel
theorem dX1_clear_15 : decode cX1_clear 15 = .ok (.aload_n 0, 1) := by decide +kernel
theorem dX1_clear_16 : decode cX1_clear 16 = .ok (.iconst 0, 1) := by decide +kernel
theorem dX1_clear_17 : decode cX1_clear 17 = .ok (.putfield 43, 3) := by decide +kernel
theorem dX1_clear_20 : decode cX1_clear 20 = .ok (.aload_n 0, 1) := by decide +kernel
theorem dX1_clear_21 : decode cX1_clear 21 = .ok (.iconst 0, 1) := by decide +kernel
theorem dX1_clear_22 : decode cX1_clear 22 = .ok (.putfield 46, 3) := by decide +kernel
theorem dX1_clear_25 : decode cX1_clear 25 = .ok (.aload_n 0, 1) := by decide +kernel
theorem dX1_clear_26 : decode cX1_clear 26 = .ok (.iconst 0, 1) := by decide +kernel
theorem dX1_clear_27 : decode cX1_clear 27 = .ok (.putfield 49, 3) := by decide +kernel
theorem dX1_clear_30 : decode cX1_clear 30 = .ok (.aload_n 0, 1) := by decide +kernel
theorem dX1_clear_31 : decode cX1_clear 31 = .ok (.iconst 0, 1) := by decide +kernel
theorem dX1_clear_32 : decode cX1_clear 32 = .ok (.putfield 52, 3) := by decide +kernel
theorem dX1_clear_35 : decode cX1_clear 35 = .ok (.aload_n 0, 1) := by decide +kernel
theorem dX1_clear_36 : decode cX1_clear 36 = .ok (.invokevirtual 55, 3) := by decide +kernel
theorem dX1_clear_39 : decode cX1_clear 39 = .ok (.return_, 1) := by decide +kernel
theorem dX1_copyFrom_0 : decode cX1_copyFrom 0 = .ok (.aload_n 0, 1) := by decide +kernel
theorem dX1_copyFrom_1 : decode cX1_copyFrom 1 = .ok (.aload_n 1, 1) := by decide +kernel
theorem dX1_copyFrom_2 : decode cX1_copyFrom 2 = .ok (.getfield 33, 3) := by decide +kernel
theorem dX1_copyFrom_5 : decode cX1_copyFrom 5 = .ok (.putfield 33, 3) := by decide +kernel
theorem dX1_copyFrom_8 : decode cX1_copyFrom 8 = .ok (.aload_n 0, 1) := by decide +kernel
theorem dX1_copyFrom_9 : decode cX1_copyFrom 9 = .ok (.aload_n 1, 1) := by decide +kernel
theorem dX1_copyFrom_10 : decode cX1_copyFrom 10 = .ok (.getfield 37, 3) := by decide +kernel
theorem dX1_copyFrom_13 : decode cX1_copyFrom 13 = .ok (.putfield 37, 3) := by decide +kernel
theorem dX1_copyFrom_16 : decode cX1_copyFrom 16 = .ok (.aload_n 0, 1) := by decide +kernel
theorem dX1_copyFrom_17 : decode cX1_copyFrom 17 = .ok (.aload_n 1, 1) := by decide +kernel
theorem dX1_copyFrom_18 : decode cX1_copyFrom 18 = .ok (.getfield 40, 3) := by decide +kernel
theorem dX1_copyFrom_21 : decode cX1_copyFrom 21 = .ok (.putfield 40, 3) := by decide +kernel
theorem dX1_copyFrom_24 : decode cX1_copyFrom 24 = .ok (.aload_n 0, 1) := by decide +kernel
theorem dX1_copyFrom_25 : decode cX1_copyFrom 25 = .ok (.aload_n 1, 1) := by decide +kernel
theorem dX1_copyFrom_26 : decode cX1_copyFrom 26 = .ok (.getfield 43, 3) := by decide +kernel
theorem dX1_copyFrom_29 : decode cX1_copyFrom 29 = .ok (.putfield 43, 3) := by decide +kernel
theorem dX1_copyFrom_32 : decode cX1_copyFrom 32 = .ok (.aload_n 0, 1) := by decide +kernel
theorem dX1_copyFrom_33 : decode cX1_copyFrom 33 = .ok (.aload_n 1, 1) := by decide +kernel
theorem dX1_copyFrom_34 : decode cX1_copyFrom 34 = .ok (.getfield 46, 3) := by decide +kernel
theorem dX1_copyFrom_37 : decode cX1_copyFrom 37 = .ok (.putfield 46, 3) := by decide +kernel
theorem dX1_copyFrom_40 : decode cX1_copyFrom 40 = .ok (.aload_n 0, 1) := by decide +kernel
theorem dX1_copyFrom_41 : decode cX1_copyFrom 41 = .ok (.aload_n 1, 1) := by decide +kernel
theorem dX1_copyFrom_42 : decode cX1_copyFrom 42 = .ok (.getfield 49, 3) := by decide +kernel
theorem dX1_copyFrom_45 : decode cX1_copyFrom 45 = .ok (.putfield 49, 3) := by decide +kernel
theorem dX1_copyFrom_48 : decode cX1_copyFrom 48 = .ok (.aload_n 0, 1) := by decide +kernel
theorem dX1_copyFrom_49 : decode cX1_copyFrom 49 = .ok (.aload_n 1, 1) := by decide +kernel
theorem dX1_copyFrom_50 : decode cX1_copyFrom 50 = .ok (.getfield 58, 3) := by decide +kernel
theorem dX1_copyFrom_53 : decode cX1_copyFrom 53 = .ok (.putfield 58, 3) := by decide +kernel
theorem dX1_copyFrom_56 : decode cX1_copyFrom 56 = .ok (.aload_n 0, 1) := by decide +kernel
theorem dX1_copyFrom_57 : decode cX1_copyFrom 57 = .ok (.aload_n 1, 1) := by decide +kernel
theorem dX1_copyFrom_58 : decode cX1_copyFrom 58 = .ok (.getfield 61, 3) := by decide +kernel
theorem dX1_copyFrom_61 : decode cX1_copyFrom 61 = .ok (.putfield 61, 3) := by decide +kernel
theorem dX1_copyFrom_64 : decode cX1_copyFrom 64 = .ok (.aload_n 0, 1) := by decide +kernel
theorem dX1_copyFrom_65 : decode cX1_copyFrom 65 = .ok (.aload_n 1, 1) := by decide +kernel
theorem dX1_copyFrom_66 : decode cX1_copyFrom 66 = .ok (.getfield 52, 3) := by decide +kernel
theorem dX1_copyFrom_69 : decode cX1_copyFrom 69 = .ok (.putfield 52, 3) := by decide +kernel
theorem dX1_copyFrom_72 : decode cX1_copyFrom 72 = .ok (.aload_n 1, 1) := by decide +kernel
theorem dX1_copyFrom_73 : decode cX1_copyFrom 73 = .ok (.getfield 9, 3) := by decide +kernel
theorem dX1_copyFrom_76 : decode cX1_copyFrom 76 = .ok (.iconst 0, 1) := by decide +kernel
theorem dX1_copyFrom_77 : decode cX1_copyFrom 77 = .ok (.aload_n 0, 1) := by decide +kernel
theorem dX1_copyFrom_78 : decode cX1_copyFrom 78 = .ok (.getfield 9, 3) := by decide +kernel
theorem dX1_copyFrom_81 : decode cX1_copyFrom 81 = .ok (.iconst 0, 1) := by decide +kernel
theorem dX1_copyFrom_82 : decode cX1_copyFrom 82 = .ok (.bipush 40, 2) := by decide +kernel
theorem dX1_copyFrom_84 : decode cX1_copyFrom 84 = .ok (.invokestatic 64, 3) := by decide +kernel
theorem dX1_copyFrom_87 : decode cX1_copyFrom 87 = .ok (.aload_n 1, 1) := by decide +kernel
theorem dX1_copyFrom_88 : decode cX1_copyFrom 88 = .ok (.getfield 15, 3) := by decide +kernel
theorem dX1_copyFrom_91 : decode cX1_copyFrom 91 = .ok (.iconst 0, 1) := by decide +kernel
theorem dX1_copyFrom_92 : decode cX1_copyFrom 92 = .ok (.aload_n 0, 1) := by decide +kernel
theorem dX1_copyFrom_93 : decode cX1_copyFrom 93 = .ok (.getfield 15, 3) := by decide +kernel
theorem dX1_copyFrom_96 : decode cX1_copyFrom 96 = .ok (.iconst 0, 1) := by decide +kernel
theorem dX1_copyFrom_97 : decode cX1_copyFrom 97 = .ok (.bipush 40, 2) := by decide +kernel
theorem dX1_copyFrom_99 : decode cX1_copyFrom 99 = .ok (.invokestatic 64, 3) := by decide +kernel
theorem dX1_copyFrom_102 : decode cX1_copyFrom 102 = .ok (.aload_n 1, 1) := by decide +kernel
theorem dX1_copyFrom_103 : decode cX1_copyFrom 103 = .ok (.getfield 18, 3) := by decide +kernel
theorem dX1_copyFrom_106 : decode cX1_copyFrom 106 = .ok (.iconst 0, 1) := by decide +kernel
theorem dX1_copyFrom_107 : decode cX1_copyFrom 107 = .ok (.aload_n 0, 1) := by decide +kernel
theorem dX1_copyFrom_108 : decode cX1_copyFrom 108 = .ok (.getfield 18, 3) := by decide +kernel
theorem dX1_copyFrom_111 : decode cX1_copyFrom 111 = .ok (.iconst 0, 1) := by decide +kernel
theorem dX1_copyFrom_112 : decode cX1_copyFrom 112 = .ok (.bipush 40, 2) := by decide +kernel
theorem dX1_copyFrom_114 : decode cX1_copyFrom 114 = .ok (.invokestatic 64, 3) := by decide +kernel
theorem dX1_copyFrom_117 : decode cX1_copyFrom 117 = .ok (.aload_n 1, 1) := by decide +kernel
theorem dX1_copyFrom_118 : decode cX1_copyFrom 118 = .ok (.getfield 21, 3) := by decide +kernel
theorem dX1_copyFrom_121 : decode cX1_copyFrom 121 = .ok (.iconst 0, 1) := by decide +kernel
theorem dX1_copyFrom_122 : decode cX1_copyFrom 122 = .ok (.aload_n 0, 1) := by decide +kernel
theorem dX1_copyFrom_123 : decode cX1_copyFrom 123 = .ok (.getfield 21, 3) := by decide +kernel
theorem dX1_copyFrom_126 : decode cX1_copyFrom 126 = .ok (.iconst 0, 1) := by decide +kernel
theorem dX1_copyFrom_127 : decode cX1_copyFrom 127 = .ok (.bipush 40, 2) := by decide +kernel
theorem dX1_copyFrom_129 : decode cX1_copyFrom 129 = .ok (.invokestatic 64, 3) := by decide +kernel
theorem dX1_copyFrom_132 : decode cX1_copyFrom 132 = .ok (.aload_n 1, 1) := by decide +kernel
theorem dX1_copyFrom_133 : decode cX1_copyFrom 133 = .ok (.getfield 24, 3) := by decide +kernel
theorem dX1_copyFrom_136 : decode cX1_copyFrom 136 = .ok (.iconst 0, 1) := by decide +kernel
theorem dX1_copyFrom_137 : decode cX1_copyFrom 137 = .ok (.aload_n 0, 1) := by decide +kernel
theorem dX1_copyFrom_138 : decode cX1_copyFrom 138 = .ok (.getfield 24, 3) := by decide +kernel
theorem dX1_copyFrom_141 : decode cX1_copyFrom 141 = .ok (.iconst 0, 1) := by decide +kernel
theorem dX1_copyFrom_142 : decode cX1_copyFrom 142 = .ok (.aload_n 0, 1) := by decide +kernel
theorem dX1_copyFrom_143 : decode cX1_copyFrom 143 = .ok (.getfield 24, 3) := by decide +kernel
theorem dX1_copyFrom_146 : decode cX1_copyFrom 146 = .ok (.arraylength, 1) := by decide +kernel
theorem dX1_copyFrom_147 : decode cX1_copyFrom 147 = .ok (.invokestatic 64, 3) := by decide +kernel
theorem dX1_copyFrom_150 : decode cX1_copyFrom 150 = .ok (.aload_n 1, 1) := by decide +kernel
theorem dX1_copyFrom_151 : decode cX1_copyFrom 151 = .ok (.getfield 27, 3) := by decide +kernel
theorem dX1_copyFrom_154 : decode cX1_copyFrom 154 = .ok (.iconst 0, 1) := by decide +kernel
theorem dX1_copyFrom_155 : decode cX1_copyFrom 155 = .ok (.aload_n 0, 1) := by decide +kernel
theorem dX1_copyFrom_156 : decode cX1_copyFrom 156 = .ok (.getfield 27, 3) := by decide +kernel
theorem dX1_copyFrom_159 : decode cX1_copyFrom 159 = .ok (.iconst 0, 1) := by decide +kernel
theorem dX1_copyFrom_160 : decode cX1_copyFrom 160 = .ok (.aload_n 0, 1) := by decide +kernel
theorem dX1_copyFrom_161 : decode cX1_copyFrom 161 = .ok (.getfield 27, 3) := by decide +kernel
theorem dX1_copyFrom_164 : decode cX1_copyFrom 164 = .ok (.arraylength, 1) := by decide +kernel
theorem dX1_copyFrom_165 : decode cX1_copyFrom 165 = .ok (.invokestatic 64, 3) := by decide +kernel
theorem dX1_copyFrom_168 : decode cX1_copyFrom 168 = .ok (.return_, 1) := by decide +kernel
theorem dX1_bringDieBack_0 : decode cX1_bringDieBack 0 = .ok (.aload_n 0, 1) := by decide +kernel
theorem dX1_bringDieBack_1 : decode cX1_bringDieBack 1 = .ok (.iconst (-1), 1) := by decide +kernel
theorem dX1_bringDieBack_2 : decode cX1_bringDieBack 2 = .ok (.putfield 58, 3) := by decide +kernel
theorem dX1_bringDieBack_5 : decode cX1_bringDieBack 5 = .ok (.aload_n 0, 1) := by decide +kernel
theorem dX1_bringDieBack_6 : decode cX1_bringDieBack 6 = .ok (.iconst (-1), 1) := by decide +kernel
theorem dX1_bringDieBack_7 : decode cX1_bringDieBack 7 = .ok (.putfield 61, 3) := by decide +kernel
theorem dX1_bringDieBack_10 : decode cX1_bringDieBack 10 = .ok (.return_, 1) := by decide +kernel
theorem dX1_isDead_0 : decode cX1_isDead 0 = .ok (.aload_n 0, 1) := by decide +kernel
theorem dX1_isDead_1 : decode cX1_isDead 1 = .ok (.getfield 46, 3) := by decide +kernel
theorem dX1_isDead_4 : decode cX1_isDead 4 = .ok (.iload_n 1, 1) := by decide +kernel
theorem dX1_isDead_5 : decode cX1_isDead 5 = .ok (.ishr, 1) := by decide +kernel
theorem dX1_isDead_6 : decode cX1_isDead 6 = .ok (.iconst 1, 1) := by decide +kernel
theorem dX1_isDead_7 : decode cX1_isDead 7 = .ok (.iand, 1) := by decide +kernel
theorem dX1_isDead_8 : decode cX1_isDead 8 = .ok (.ifCond .eq 7, 3) := by decide +kernel
theorem dX1_isDead_11 : decode cX1_isDead 11 = .ok (.iconst 1, 1) := by decide +kernel
theorem dX1_isDead_12 : decode cX1_isDead 12 = .ok (.goto 4, 3) := by decide +kernel
theorem dX1_isDead_15 : decode cX1_isDead 15 = .ok (.iconst 0, 1) := by decide +kernel
theorem dX1_isDead_16 : decode cX1_isDead 16 = .ok (.ireturn, 1) := by decide +kernel
theorem dX1_bury_0 : decode cX1_bury 0 = .ok (.aload_n 0, 1) := by decide +kernel
theorem dX1_bury_1 : decode cX1_bury 1 = .ok (.dup, 1) := by decide +kernel
theorem dX1_bury_2 : decode cX1_bury 2 = .ok (.getfield 46, 3) := by decide +kernel
theorem dX1_bury_5 : decode cX1_bury 5 = .ok (.iconst 1, 1) := by decide +kernel
theorem dX1_bury_6 : decode cX1_bury 6 = .ok (.iload_n 1, 1) := by decide +kernel
theorem dX1_bury_7 : decode cX1_bury 7 = .ok (.ishl, 1) := by decide +kernel
theorem dX1_bury_8 : decode cX1_bury 8 = .ok (.ior, 1) := by decide +kernel
theorem dX1_bury_9 : decode cX1_bury 9 = .ok (.putfield 46, 3) := by decide +kernel
theorem dX1_bury_12 : decode cX1_bury 12 = .ok (.return_, 1) := by decide +kernel
theorem dX1_isClosed_0 : decode cX1_isClosed 0 = .ok (.aload_n 0, 1) := by decide +kernel
theorem dX1_isClosed_1 : decode cX1_isClosed 1 = .ok (.getfield 49, 3) := by decide +kernel
theorem dX1_isClosed_4 : decode cX1_isClosed 4 = .ok (.iload_n 1, 1) := by decide +kernel
theorem dX1_isClosed_5 : decode cX1_isClosed 5 = .ok (.ishr, 1) := by decide +kernel
theorem dX1_isClosed_6 : decode cX1_isClosed 6 = .ok (.iconst 1, 1) := by decide +kernel
theorem dX1_isClosed_7 : decode cX1_isClosed 7 = .ok (.iand, 1) := by decide +kernel
theorem dX1_isClosed_8 : decode cX1_isClosed 8 = .ok (.ifCond .eq 7, 3) := by decide +kernel
theorem dX1_isClosed_11 : decode cX1_isClosed 11 = .ok (.iconst 1, 1) := by decide +kernel
theorem dX1_isClosed_12 : decode cX1_isClosed 12 = .ok (.goto 4, 3) := by decide +kernel
theorem dX1_isClosed_15 : decode cX1_isClosed 15 = .ok (.iconst 0, 1) := by decide +kernel
theorem dX1_isClosed_16 : decode cX1_isClosed 16 = .ok (.ireturn, 1) := by decide +kernel
theorem dX1_shut_0 : decode cX1_shut 0 = .ok (.aload_n 0, 1) := by decide +kernel
theorem dX1_shut_1 : decode cX1_shut 1 = .ok (.dup, 1) := by decide +kernel
theorem dX1_shut_2 : decode cX1_shut 2 = .ok (.getfield 49, 3) := by decide +kernel
theorem dX1_shut_5 : decode cX1_shut 5 = .ok (.iconst 1, 1) := by decide +kernel
theorem dX1_shut_6 : decode cX1_shut 6 = .ok (.iload_n 1, 1) := by decide +kernel
theorem dX1_shut_7 : decode cX1_shut 7 = .ok (.ishl, 1) := by decide +kernel
theorem dX1_shut_8 : decode cX1_shut 8 = .ok (.ior, 1) := by decide +kernel
theorem dX1_shut_9 : decode cX1_shut 9 = .ok (.putfield 49, 3) := by decide +kernel
theorem dX1_shut_12 : decode cX1_shut 12 = .ok (.return_, 1) := by decide +kernel
theorem dX1_addCoin_0 : decode cX1_addCoin 0 = .ok (.aload_n 0, 1) := by decide +kernel
theorem dX1_addCoin_1 : decode cX1_addCoin 1 = .ok (.getfield 33, 3) := by decide +kernel
theorem dX1_addCoin_4 : decode cX1_addCoin 4 = .ok (.istore_n 3, 1) := by decide +kernel
theorem dX1_addCoin_5 : decode cX1_addCoin 5 = .ok (.iload_n 3, 1) := by decide +kernel
theorem dX1_addCoin_6 : decode cX1_addCoin 6 = .ok (.bipush 40, 2) := by decide +kernel
theorem dX1_addCoin_8 : decode cX1_addCoin 8 = .ok (.if_icmp .lt 5, 3) := by decide +kernel
theorem dX1_addCoin_11 : decode cX1_addCoin 11 = .ok (.iconst (-1), 1) := by decide +kernel
theorem dX1_addCoin_12 : decode cX1_addCoin 12 = .ok (.ireturn, 1) := by decide +kernel
theorem dX1_addCoin_13 : decode cX1_addCoin 13 = .ok (.aload_n 0, 1) := by decide +kernel
theorem dX1_addCoin_14 : decode cX1_addCoin 14 = .ok (.getfield 9, 3) := by decide +kernel
theorem dX1_addCoin_17 : decode cX1_addCoin 17 = .ok (.iload_n 3, 1) := by decide +kernel
theorem dX1_addCoin_18 : decode cX1_addCoin 18 = .ok (.iload_n 2, 1) := by decide +kernel
theorem dX1_addCoin_19 : decode cX1_addCoin 19 = .ok (.iastore, 1) := by decide +kernel
theorem dX1_addCoin_20 : decode cX1_addCoin 20 = .ok (.aload_n 0, 1) := by decide +kernel
theorem dX1_addCoin_21 : decode cX1_addCoin 21 = .ok (.getfield 15, 3) := by decide +kernel
theorem dX1_addCoin_24 : decode cX1_addCoin 24 = .ok (.iload_n 3, 1) := by decide +kernel
theorem dX1_addCoin_25 : decode cX1_addCoin 25 = .ok (.iload_n 1, 1) := by decide +kernel
theorem dX1_addCoin_26 : decode cX1_addCoin 26 = .ok (.iastore, 1) := by decide +kernel
theorem dX1_addCoin_27 : decode cX1_addCoin 27 = .ok (.aload_n 0, 1) := by decide +kernel
theorem dX1_addCoin_28 : decode cX1_addCoin 28 = .ok (.getfield 18, 3) := by decide +kernel
theorem dX1_addCoin_31 : decode cX1_addCoin 31 = .ok (.iload_n 3, 1) := by decide +kernel
theorem dX1_addCoin_32 : decode cX1_addCoin 32 = .ok (.iconst 0, 1) := by decide +kernel
theorem dX1_addCoin_33 : decode cX1_addCoin 33 = .ok (.iastore, 1) := by decide +kernel
theorem dX1_addCoin_34 : decode cX1_addCoin 34 = .ok (.aload_n 0, 1) := by decide +kernel
theorem dX1_addCoin_35 : decode cX1_addCoin 35 = .ok (.getfield 21, 3) := by decide +kernel
theorem dX1_addCoin_38 : decode cX1_addCoin 38 = .ok (.iload_n 3, 1) := by decide +kernel
theorem dX1_addCoin_39 : decode cX1_addCoin 39 = .ok (.iconst 0, 1) := by decide +kernel
theorem dX1_addCoin_40 : decode cX1_addCoin 40 = .ok (.iastore, 1) := by decide +kernel
theorem dX1_addCoin_41 : decode cX1_addCoin 41 = .ok (.aload_n 0, 1) := by decide +kernel
theorem dX1_addCoin_42 : decode cX1_addCoin 42 = .ok (.dup, 1) := by decide +kernel
theorem dX1_addCoin_43 : decode cX1_addCoin 43 = .ok (.getfield 52, 3) := by decide +kernel
theorem dX1_addCoin_46 : decode cX1_addCoin 46 = .ok (.iload_n 2, 1) := by decide +kernel
theorem dX1_addCoin_47 : decode cX1_addCoin 47 = .ok (.iadd, 1) := by decide +kernel
theorem dX1_addCoin_48 : decode cX1_addCoin 48 = .ok (.putfield 52, 3) := by decide +kernel
theorem dX1_addCoin_51 : decode cX1_addCoin 51 = .ok (.aload_n 0, 1) := by decide +kernel
theorem dX1_addCoin_52 : decode cX1_addCoin 52 = .ok (.dup, 1) := by decide +kernel
theorem dX1_addCoin_53 : decode cX1_addCoin 53 = .ok (.getfield 33, 3) := by decide +kernel
theorem dX1_addCoin_56 : decode cX1_addCoin 56 = .ok (.iconst 1, 1) := by decide +kernel
theorem dX1_addCoin_57 : decode cX1_addCoin 57 = .ok (.iadd, 1) := by decide +kernel
theorem dX1_addCoin_58 : decode cX1_addCoin 58 = .ok (.putfield 33, 3) := by decide +kernel
theorem dX1_addCoin_61 : decode cX1_addCoin 61 = .ok (.iload_n 3, 1) := by decide +kernel
theorem dX1_addCoin_62 : decode cX1_addCoin 62 = .ok (.ireturn, 1) := by decide +kernel
theorem dX1_coinsOf_0 : decode cX1_coinsOf 0 = .ok (.iconst 0, 1) := by decide +kernel
theorem dX1_coinsOf_1 : decode cX1_coinsOf 1 = .ok (.istore_n 2, 1) := by decide +kernel
theorem dX1_coinsOf_2 : decode cX1_coinsOf 2 = .ok (.iconst 0, 1) := by decide +kernel
theorem dX1_coinsOf_3 : decode cX1_coinsOf 3 = .ok (.istore_n 3, 1) := by decide +kernel
theorem dX1_coinsOf_4 : decode cX1_coinsOf 4 = .ok (.iload_n 3, 1) := by decide +kernel
theorem dX1_coinsOf_5 : decode cX1_coinsOf 5 = .ok (.aload_n 0, 1) := by decide +kernel
theorem dX1_coinsOf_6 : decode cX1_coinsOf 6 = .ok (.getfield 33, 3) := by decide +kernel
theorem dX1_coinsOf_9 : decode cX1_coinsOf 9 = .ok (.if_icmp .ge 28, 3) := by decide +kernel
theorem dX1_coinsOf_12 : decode cX1_coinsOf 12 = .ok (.iload_n 3, 1) := by decide +kernel
theorem dX1_coinsOf_13 : decode cX1_coinsOf 13 = .ok (.bipush 40, 2) := by decide +kernel
theorem dX1_coinsOf_15 : decode cX1_coinsOf 15 = .ok (.if_icmp .ge 22, 3) := by decide +kernel
theorem dX1_coinsOf_18 : decode cX1_coinsOf 18 = .ok (.aload_n 0, 1) := by decide +kernel
theorem dX1_coinsOf_19 : decode cX1_coinsOf 19 = .ok (.getfield 15, 3) := by decide +kernel
theorem dX1_coinsOf_22 : decode cX1_coinsOf 22 = .ok (.iload_n 3, 1) := by decide +kernel
theorem dX1_coinsOf_23 : decode cX1_coinsOf 23 = .ok (.iaload, 1) := by decide +kernel
theorem dX1_coinsOf_24 : decode cX1_coinsOf 24 = .ok (.iload_n 1, 1) := by decide +kernel
theorem dX1_coinsOf_25 : decode cX1_coinsOf 25 = .ok (.if_icmp .ne 6, 3) := by decide +kernel
theorem dX1_coinsOf_28 : decode cX1_coinsOf 28 = .ok (.iinc 2 1, 3) := by decide +kernel
theorem dX1_coinsOf_31 : decode cX1_coinsOf 31 = .ok (.iinc 3 1, 3) := by decide +kernel
theorem dX1_coinsOf_34 : decode cX1_coinsOf 34 = .ok (.goto (-30), 3) := by decide +kernel
theorem dX1_coinsOf_37 : decode cX1_coinsOf 37 = .ok (.iload_n 2, 1) := by decide +kernel
theorem dX1_coinsOf_38 : decode cX1_coinsOf 38 = .ok (.ireturn, 1) := by decide +kernel
theorem dX1_grainsOf_0 : decode cX1_grainsOf 0 = .ok (.iconst 0, 1) := by decide +kernel
theorem dX1_grainsOf_1 : decode cX1_grainsOf 1 = .ok (.istore_n 2, 1) := by decide +kernel
theorem dX1_grainsOf_2 : decode cX1_grainsOf 2 = .ok (.iconst 0, 1) := by decide +kernel
theorem dX1_grainsOf_3 : decode cX1_grainsOf 3 = .ok (.istore_n 3, 1) := by decide +kernel
theorem dX1_grainsOf_4 : decode cX1_grainsOf 4 = .ok (.iload_n 3, 1) := by decide +kernel
theorem dX1_grainsOf_5 : decode cX1_grainsOf 5 = .ok (.aload_n 0, 1) := by decide +kernel
theorem dX1_grainsOf_6 : decode cX1_grainsOf 6 = .ok (.getfield 33, 3) := by decide +kernel
theorem dX1_grainsOf_9 : decode cX1_grainsOf 9 = .ok (.if_icmp .ge 34, 3) := by decide +kernel
theorem dX1_grainsOf_12 : decode cX1_grainsOf 12 = .ok (.iload_n 3, 1) := by decide +kernel
theorem dX1_grainsOf_13 : decode cX1_grainsOf 13 = .ok (.bipush 40, 2) := by decide +kernel
theorem dX1_grainsOf_15 : decode cX1_grainsOf 15 = .ok (.if_icmp .ge 28, 3) := by decide +kernel
theorem dX1_grainsOf_18 : decode cX1_grainsOf 18 = .ok (.aload_n 0, 1) := by decide +kernel
theorem dX1_grainsOf_19 : decode cX1_grainsOf 19 = .ok (.getfield 15, 3) := by decide +kernel
theorem dX1_grainsOf_22 : decode cX1_grainsOf 22 = .ok (.iload_n 3, 1) := by decide +kernel
theorem dX1_grainsOf_23 : decode cX1_grainsOf 23 = .ok (.iaload, 1) := by decide +kernel
theorem dX1_grainsOf_24 : decode cX1_grainsOf 24 = .ok (.iload_n 1, 1) := by decide +kernel
theorem dX1_grainsOf_25 : decode cX1_grainsOf 25 = .ok (.if_icmp .ne 12, 3) := by decide +kernel
theorem dX1_grainsOf_28 : decode cX1_grainsOf 28 = .ok (.iload_n 2, 1) := by decide +kernel
theorem dX1_grainsOf_29 : decode cX1_grainsOf 29 = .ok (.aload_n 0, 1) := by decide +kernel
theorem dX1_grainsOf_30 : decode cX1_grainsOf 30 = .ok (.getfield 9, 3) := by decide +kernel
theorem dX1_grainsOf_33 : decode cX1_grainsOf 33 = .ok (.iload_n 3, 1) := by decide +kernel
theorem dX1_grainsOf_34 : decode cX1_grainsOf 34 = .ok (.iaload, 1) := by decide +kernel
theorem dX1_grainsOf_35 : decode cX1_grainsOf 35 = .ok (.iadd, 1) := by decide +kernel
theorem dX1_grainsOf_36 : decode cX1_grainsOf 36 = .ok (.istore_n 2, 1) := by decide +kernel
theorem dX1_grainsOf_37 : decode cX1_grainsOf 37 = .ok (.iinc 3 1, 3) := by decide +kernel
theorem dX1_grainsOf_40 : decode cX1_grainsOf 40 = .ok (.goto (-36), 3) := by decide +kernel
theorem dX1_grainsOf_43 : decode cX1_grainsOf 43 = .ok (.iload_n 2, 1) := by decide +kernel
theorem dX1_grainsOf_44 : decode cX1_grainsOf 44 = .ok (.ireturn, 1) := by decide +kernel
theorem dX1_grainsOfAll_0 : decode cX1_grainsOfAll 0 = .ok (.iconst 0, 1) := by decide +kernel
theorem dX1_grainsOfAll_1 : decode cX1_grainsOfAll 1 = .ok (.istore_n 1, 1) := by decide +kernel
theorem dX1_grainsOfAll_2 : decode cX1_grainsOfAll 2 = .ok (.iconst 0, 1) := by decide +kernel
theorem dX1_grainsOfAll_3 : decode cX1_grainsOfAll 3 = .ok (.istore_n 2, 1) := by decide +kernel
theorem dX1_grainsOfAll_4 : decode cX1_grainsOfAll 4 = .ok (.iload_n 2, 1) := by decide +kernel
theorem dX1_grainsOfAll_5 : decode cX1_grainsOfAll 5 = .ok (.aload_n 0, 1) := by decide +kernel
theorem dX1_grainsOfAll_6 : decode cX1_grainsOfAll 6 = .ok (.getfield 33, 3) := by decide +kernel
theorem dX1_grainsOfAll_9 : decode cX1_grainsOfAll 9 = .ok (.if_icmp .ge 24, 3) := by decide +kernel
theorem dX1_grainsOfAll_12 : decode cX1_grainsOfAll 12 = .ok (.iload_n 2, 1) := by decide +kernel
theorem dX1_grainsOfAll_13 : decode cX1_grainsOfAll 13 = .ok (.bipush 40, 2) := by decide +kernel
theorem dX1_grainsOfAll_15 : decode cX1_grainsOfAll 15 = .ok (.if_icmp .ge 18, 3) := by decide +kernel
theorem dX1_grainsOfAll_18 : decode cX1_grainsOfAll 18 = .ok (.iload_n 1, 1) := by decide +kernel
theorem dX1_grainsOfAll_19 : decode cX1_grainsOfAll 19 = .ok (.aload_n 0, 1) := by decide +kernel
theorem dX1_grainsOfAll_20 : decode cX1_grainsOfAll 20 = .ok (.getfield 9, 3) := by decide +kernel
theorem dX1_grainsOfAll_23 : decode cX1_grainsOfAll 23 = .ok (.iload_n 2, 1) := by decide +kernel
theorem dX1_grainsOfAll_24 : decode cX1_grainsOfAll 24 = .ok (.iaload, 1) := by decide +kernel
theorem dX1_grainsOfAll_25 : decode cX1_grainsOfAll 25 = .ok (.iadd, 1) := by decide +kernel
theorem dX1_grainsOfAll_26 : decode cX1_grainsOfAll 26 = .ok (.istore_n 1, 1) := by decide +kernel
theorem dX1_grainsOfAll_27 : decode cX1_grainsOfAll 27 = .ok (.iinc 2 1, 3) := by decide +kernel
theorem dX1_grainsOfAll_30 : decode cX1_grainsOfAll 30 = .ok (.goto (-26), 3) := by decide +kernel
theorem dX1_grainsOfAll_33 : decode cX1_grainsOfAll 33 = .ok (.iload_n 1, 1) := by decide +kernel
theorem dX1_grainsOfAll_34 : decode cX1_grainsOfAll 34 = .ok (.ireturn, 1) := by decide +kernel
theorem dX1_inherit_0 : decode cX1_inherit 0 = .ok (.iconst 0, 1) := by decide +kernel
theorem dX1_inherit_1 : decode cX1_inherit 1 = .ok (.istore_n 3, 1) := by decide +kernel
theorem dX1_inherit_2 : decode cX1_inherit 2 = .ok (.iconst 0, 1) := by decide +kernel
theorem dX1_inherit_3 : decode cX1_inherit 3 = .ok (.istore 4, 2) := by decide +kernel
theorem dX1_inherit_5 : decode cX1_inherit 5 = .ok (.iload 4, 2) := by decide +kernel
theorem dX1_inherit_7 : decode cX1_inherit 7 = .ok (.aload_n 0, 1) := by decide +kernel
theorem dX1_inherit_8 : decode cX1_inherit 8 = .ok (.getfield 33, 3) := by decide +kernel
theorem dX1_inherit_11 : decode cX1_inherit 11 = .ok (.if_icmp .ge 38, 3) := by decide +kernel
theorem dX1_inherit_14 : decode cX1_inherit 14 = .ok (.iload 4, 2) := by decide +kernel
theorem dX1_inherit_16 : decode cX1_inherit 16 = .ok (.bipush 40, 2) := by decide +kernel
theorem dX1_inherit_18 : decode cX1_inherit 18 = .ok (.if_icmp .ge 31, 3) := by decide +kernel
theorem dX1_inherit_21 : decode cX1_inherit 21 = .ok (.aload_n 0, 1) := by decide +kernel
theorem dX1_inherit_22 : decode cX1_inherit 22 = .ok (.getfield 15, 3) := by decide +kernel
theorem dX1_inherit_25 : decode cX1_inherit 25 = .ok (.iload 4, 2) := by decide +kernel
theorem dX1_inherit_27 : decode cX1_inherit 27 = .ok (.iaload, 1) := by decide +kernel
theorem dX1_inherit_28 : decode cX1_inherit 28 = .ok (.iload_n 1, 1) := by decide +kernel
theorem dX1_inherit_29 : decode cX1_inherit 29 = .ok (.if_icmp .ne 14, 3) := by decide +kernel
theorem dX1_inherit_32 : decode cX1_inherit 32 = .ok (.aload_n 0, 1) := by decide +kernel
theorem dX1_inherit_33 : decode cX1_inherit 33 = .ok (.getfield 15, 3) := by decide +kernel
theorem dX1_inherit_36 : decode cX1_inherit 36 = .ok (.iload 4, 2) := by decide +kernel
theorem dX1_inherit_38 : decode cX1_inherit 38 = .ok (.iload_n 2, 1) := by decide +kernel
theorem dX1_inherit_39 : decode cX1_inherit 39 = .ok (.iastore, 1) := by decide +kernel
theorem dX1_inherit_40 : decode cX1_inherit 40 = .ok (.iinc 3 1, 3) := by decide +kernel
theorem dX1_inherit_43 : decode cX1_inherit 43 = .ok (.iinc 4 1, 3) := by decide +kernel
theorem dX1_inherit_46 : decode cX1_inherit 46 = .ok (.goto (-41), 3) := by decide +kernel
theorem dX1_inherit_49 : decode cX1_inherit 49 = .ok (.iload_n 3, 1) := by decide +kernel
theorem dX1_inherit_50 : decode cX1_inherit 50 = .ok (.ireturn, 1) := by decide +kernel
theorem dX1_strokeAt_0 : decode cX1_strokeAt 0 = .ok (.aload_n 0, 1) := by decide +kernel
theorem dX1_strokeAt_1 : decode cX1_strokeAt 1 = .ok (.iload_n 1, 1) := by decide +kernel
theorem dX1_strokeAt_2 : decode cX1_strokeAt 2 = .ok (.iload_n 2, 1) := by decide +kernel
theorem dX1_strokeAt_3 : decode cX1_strokeAt 3 = .ok (.invokevirtual 70, 3) := by decide +kernel
theorem dX1_strokeAt_6 : decode cX1_strokeAt 6 = .ok (.ifCond .eq 17, 3) := by decide +kernel
theorem dX1_strokeAt_9 : decode cX1_strokeAt 9 = .ok (.aload_n 0, 1) := by decide +kernel
theorem dX1_strokeAt_10 : decode cX1_strokeAt 10 = .ok (.getfield 24, 3) := by decide +kernel
theorem dX1_strokeAt_13 : decode cX1_strokeAt 13 = .ok (.iload_n 1, 1) := by decide +kernel
theorem dX1_strokeAt_14 : decode cX1_strokeAt 14 = .ok (.bipush 9, 2) := by decide +kernel
theorem dX1_strokeAt_16 : decode cX1_strokeAt 16 = .ok (.imul, 1) := by decide +kernel
theorem dX1_strokeAt_17 : decode cX1_strokeAt 17 = .ok (.iload_n 2, 1) := by decide +kernel
theorem dX1_strokeAt_18 : decode cX1_strokeAt 18 = .ok (.iadd, 1) := by decide +kernel
theorem dX1_strokeAt_19 : decode cX1_strokeAt 19 = .ok (.iaload, 1) := by decide +kernel
theorem dX1_strokeAt_20 : decode cX1_strokeAt 20 = .ok (.goto 4, 3) := by decide +kernel
theorem dX1_strokeAt_23 : decode cX1_strokeAt 23 = .ok (.iconst (-1), 1) := by decide +kernel
theorem dX1_strokeAt_24 : decode cX1_strokeAt 24 = .ok (.ireturn, 1) := by decide +kernel
theorem dX1_depthAt_0 : decode cX1_depthAt 0 = .ok (.aload_n 0, 1) := by decide +kernel
theorem dX1_depthAt_1 : decode cX1_depthAt 1 = .ok (.iload_n 1, 1) := by decide +kernel
theorem dX1_depthAt_2 : decode cX1_depthAt 2 = .ok (.iload_n 2, 1) := by decide +kernel
theorem dX1_depthAt_3 : decode cX1_depthAt 3 = .ok (.invokevirtual 70, 3) := by decide +kernel
theorem dX1_depthAt_6 : decode cX1_depthAt 6 = .ok (.ifCond .eq 17, 3) := by decide +kernel
theorem dX1_depthAt_9 : decode cX1_depthAt 9 = .ok (.aload_n 0, 1) := by decide +kernel
theorem dX1_depthAt_10 : decode cX1_depthAt 10 = .ok (.getfield 27, 3) := by decide +kernel
theorem dX1_depthAt_13 : decode cX1_depthAt 13 = .ok (.iload_n 1, 1) := by decide +kernel
theorem dX1_depthAt_14 : decode cX1_depthAt 14 = .ok (.bipush 9, 2) := by decide +kernel
theorem dX1_depthAt_16 : decode cX1_depthAt 16 = .ok (.imul, 1) := by decide +kernel
theorem dX1_depthAt_17 : decode cX1_depthAt 17 = .ok (.iload_n 2, 1) := by decide +kernel
theorem dX1_depthAt_18 : decode cX1_depthAt 18 = .ok (.iadd, 1) := by decide +kernel
theorem dX1_depthAt_19 : decode cX1_depthAt 19 = .ok (.iaload, 1) := by decide +kernel
theorem dX1_depthAt_20 : decode cX1_depthAt 20 = .ok (.goto 4, 3) := by decide +kernel
theorem dX1_depthAt_23 : decode cX1_depthAt 23 = .ok (.iconst (-1), 1) := by decide +kernel
theorem dX1_depthAt_24 : decode cX1_depthAt 24 = .ok (.ireturn, 1) := by decide +kernel
theorem dX1_hasFace_0 : decode cX1_hasFace 0 = .ok (.iload_n 1, 1) := by decide +kernel
theorem dX1_hasFace_1 : decode cX1_hasFace 1 = .ok (.ifCond .lt 41, 3) := by decide +kernel
theorem dX1_hasFace_4 : decode cX1_hasFace 4 = .ok (.iload_n 1, 1) := by decide +kernel
theorem dX1_hasFace_5 : decode cX1_hasFace 5 = .ok (.aload_n 0, 1) := by decide +kernel
theorem dX1_hasFace_6 : decode cX1_hasFace 6 = .ok (.getfield 33, 3) := by decide +kernel
theorem dX1_hasFace_9 : decode cX1_hasFace 9 = .ok (.if_icmp .ge 33, 3) := by decide +kernel
theorem dX1_hasFace_12 : decode cX1_hasFace 12 = .ok (.iload_n 1, 1) := by decide +kernel
theorem dX1_hasFace_13 : decode cX1_hasFace 13 = .ok (.bipush 40, 2) := by decide +kernel
theorem dX1_hasFace_15 : decode cX1_hasFace 15 = .ok (.if_icmp .ge 27, 3) := by decide +kernel
theorem dX1_hasFace_18 : decode cX1_hasFace 18 = .ok (.iload_n 2, 1) := by decide +kernel
theorem dX1_hasFace_19 : decode cX1_hasFace 19 = .ok (.ifCond .lt 23, 3) := by decide +kernel
theorem dX1_hasFace_22 : decode cX1_hasFace 22 = .ok (.iload_n 2, 1) := by decide +kernel
theorem dX1_hasFace_23 : decode cX1_hasFace 23 = .ok (.aload_n 0, 1) := by decide +kernel
theorem dX1_hasFace_24 : decode cX1_hasFace 24 = .ok (.getfield 21, 3) := by decide +kernel
theorem dX1_hasFace_27 : decode cX1_hasFace 27 = .ok (.iload_n 1, 1) := by decide +kernel
theorem dX1_hasFace_28 : decode cX1_hasFace 28 = .ok (.iaload, 1) := by decide +kernel
theorem dX1_hasFace_29 : decode cX1_hasFace 29 = .ok (.if_icmp .ge 13, 3) := by decide +kernel
theorem dX1_hasFace_32 : decode cX1_hasFace 32 = .ok (.iload_n 2, 1) := by decide +kernel
theorem dX1_hasFace_33 : decode cX1_hasFace 33 = .ok (.bipush 9, 2) := by decide +kernel
theorem dX1_hasFace_35 : decode cX1_hasFace 35 = .ok (.if_icmp .ge 7, 3) := by decide +kernel
theorem dX1_hasFace_38 : decode cX1_hasFace 38 = .ok (.iconst 1, 1) := by decide +kernel
theorem dX1_hasFace_39 : decode cX1_hasFace 39 = .ok (.goto 4, 3) := by decide +kernel
theorem dX1_hasFace_42 : decode cX1_hasFace 42 = .ok (.iconst 0, 1) := by decide +kernel
theorem dX1_hasFace_43 : decode cX1_hasFace 43 = .ok (.ireturn, 1) := by decide +kernel
theorem dX1_cover_0 : decode cX1_cover 0 = .ok (.iload_n 1, 1) := by decide +kernel
theorem dX1_cover_1 : decode cX1_cover 1 = .ok (.ifCond .lt 17, 3) := by decide +kernel
theorem dX1_cover_4 : decode cX1_cover 4 = .ok (.iload_n 1, 1) := by decide +kernel
theorem dX1_cover_5 : decode cX1_cover 5 = .ok (.aload_n 0, 1) := by decide +kernel
theorem dX1_cover_6 : decode cX1_cover 6 = .ok (.getfield 33, 3) := by decide +kernel
theorem dX1_cover_9 : decode cX1_cover 9 = .ok (.if_icmp .ge 9, 3) := by decide +kernel
theorem dX1_cover_12 : decode cX1_cover 12 = .ok (.iload_n 1, 1) := by decide +kernel
theorem dX1_cover_13 : decode cX1_cover 13 = .ok (.bipush 40, 2) := by decide +kernel
theorem dX1_cover_15 : decode cX1_cover 15 = .ok (.if_icmp .lt 4, 3) := by decide +kernel
theorem dX1_cover_18 : decode cX1_cover 18 = .ok (.return_, 1) := by decide +kernel
theorem dX1_cover_19 : decode cX1_cover 19 = .ok (.aload_n 0, 1) := by decide +kernel
theorem dX1_cover_20 : decode cX1_cover 20 = .ok (.getfield 9, 3) := by decide +kernel
theorem dX1_cover_23 : decode cX1_cover 23 = .ok (.iload_n 1, 1) := by decide +kernel
theorem dX1_cover_24 : decode cX1_cover 24 = .ok (.dup2, 1) := by decide +kernel
theorem dX1_cover_25 : decode cX1_cover 25 = .ok (.iaload, 1) := by decide +kernel
theorem dX1_cover_26 : decode cX1_cover 26 = .ok (.iload_n 3, 1) := by decide +kernel
theorem dX1_cover_27 : decode cX1_cover 27 = .ok (.isub, 1) := by decide +kernel
theorem dX1_cover_28 : decode cX1_cover 28 = .ok (.iastore, 1) := by decide +kernel
theorem dX1_cover_29 : decode cX1_cover 29 = .ok (.aload_n 0, 1) := by decide +kernel
theorem dX1_cover_30 : decode cX1_cover 30 = .ok (.getfield 18, 3) := by decide +kernel
theorem dX1_cover_33 : decode cX1_cover 33 = .ok (.iload_n 1, 1) := by decide +kernel
theorem dX1_cover_34 : decode cX1_cover 34 = .ok (.dup2, 1) := by decide +kernel
theorem dX1_cover_35 : decode cX1_cover 35 = .ok (.iaload, 1) := by decide +kernel
theorem dX1_cover_36 : decode cX1_cover 36 = .ok (.iconst 1, 1) := by decide +kernel
theorem dX1_cover_37 : decode cX1_cover 37 = .ok (.iadd, 1) := by decide +kernel
theorem dX1_cover_38 : decode cX1_cover 38 = .ok (.iastore, 1) := by decide +kernel
theorem dX1_cover_39 : decode cX1_cover 39 = .ok (.iload_n 1, 1) := by decide +kernel
theorem dX1_cover_40 : decode cX1_cover 40 = .ok (.bipush 9, 2) := by decide +kernel
theorem dX1_cover_42 : decode cX1_cover 42 = .ok (.imul, 1) := by decide +kernel
theorem dX1_cover_43 : decode cX1_cover 43 = .ok (.istore 5, 2) := by decide +kernel
theorem dX1_cover_45 : decode cX1_cover 45 = .ok (.aload_n 0, 1) := by decide +kernel
theorem dX1_cover_46 : decode cX1_cover 46 = .ok (.iload_n 1, 1) := by decide +kernel
theorem dX1_cover_47 : decode cX1_cover 47 = .ok (.iload 4, 2) := by decide +kernel
theorem dX1_cover_49 : decode cX1_cover 49 = .ok (.invokevirtual 74, 3) := by decide +kernel
theorem dX1_cover_52 : decode cX1_cover 52 = .ok (.istore 6, 2) := by decide +kernel
theorem dX1_cover_54 : decode cX1_cover 54 = .ok (.iload 6, 2) := by decide +kernel
theorem dX1_cover_56 : decode cX1_cover 56 = .ok (.istore 7, 2) := by decide +kernel
theorem dX1_cover_58 : decode cX1_cover 58 = .ok (.iload 7, 2) := by decide +kernel
theorem dX1_cover_60 : decode cX1_cover 60 = .ok (.ifCond .le 56, 3) := by decide +kernel
theorem dX1_cover_63 : decode cX1_cover 63 = .ok (.aload_n 0, 1) := by decide +kernel
theorem dX1_cover_64 : decode cX1_cover 64 = .ok (.getfield 24, 3) := by decide +kernel
theorem dX1_cover_67 : decode cX1_cover 67 = .ok (.iload 5, 2) := by decide +kernel
theorem dX1_cover_69 : decode cX1_cover 69 = .ok (.iload 7, 2) := by decide +kernel
theorem dX1_cover_71 : decode cX1_cover 71 = .ok (.iadd, 1) := by decide +kernel
theorem dX1_cover_72 : decode cX1_cover 72 = .ok (.aload_n 0, 1) := by decide +kernel
theorem dX1_cover_73 : decode cX1_cover 73 = .ok (.getfield 24, 3) := by decide +kernel
theorem dX1_cover_76 : decode cX1_cover 76 = .ok (.iload 5, 2) := by decide +kernel
theorem dX1_cover_78 : decode cX1_cover 78 = .ok (.iload 7, 2) := by decide +kernel
theorem dX1_cover_80 : decode cX1_cover 80 = .ok (.iadd, 1) := by decide +kernel
theorem dX1_cover_81 : decode cX1_cover 81 = .ok (.iconst 1, 1) := by decide +kernel
theorem dX1_cover_82 : decode cX1_cover 82 = .ok (.isub, 1) := by decide +kernel
theorem dX1_cover_83 : decode cX1_cover 83 = .ok (.iaload, 1) := by decide +kernel
theorem dX1_cover_84 : decode cX1_cover 84 = .ok (.iastore, 1) := by decide +kernel
theorem dX1_cover_85 : decode cX1_cover 85 = .ok (.aload_n 0, 1) := by decide +kernel
theorem dX1_cover_86 : decode cX1_cover 86 = .ok (.getfield 27, 3) := by decide +kernel
theorem dX1_cover_89 : decode cX1_cover 89 = .ok (.iload 5, 2) := by decide +kernel
theorem dX1_cover_91 : decode cX1_cover 91 = .ok (.iload 7, 2) := by decide +kernel
theorem dX1_cover_93 : decode cX1_cover 93 = .ok (.iadd, 1) := by decide +kernel
theorem dX1_cover_94 : decode cX1_cover 94 = .ok (.aload_n 0, 1) := by decide +kernel
theorem dX1_cover_95 : decode cX1_cover 95 = .ok (.getfield 27, 3) := by decide +kernel
theorem dX1_cover_98 : decode cX1_cover 98 = .ok (.iload 5, 2) := by decide +kernel
theorem dX1_cover_100 : decode cX1_cover 100 = .ok (.iload 7, 2) := by decide +kernel
theorem dX1_cover_102 : decode cX1_cover 102 = .ok (.iadd, 1) := by decide +kernel
theorem dX1_cover_103 : decode cX1_cover 103 = .ok (.iconst 1, 1) := by decide +kernel
theorem dX1_cover_104 : decode cX1_cover 104 = .ok (.isub, 1) := by decide +kernel
theorem dX1_cover_105 : decode cX1_cover 105 = .ok (.iaload, 1) := by decide +kernel
theorem dX1_cover_106 : decode cX1_cover 106 = .ok (.iload 4, 2) := by decide +kernel
theorem dX1_cover_108 : decode cX1_cover 108 = .ok (.isub, 1) := by decide +kernel
theorem dX1_cover_109 : decode cX1_cover 109 = .ok (.iastore, 1) := by decide +kernel
theorem dX1_cover_110 : decode cX1_cover 110 = .ok (.iinc 7 (-1), 3) := by decide +kernel
theorem dX1_cover_113 : decode cX1_cover 113 = .ok (.goto (-55), 3) := by decide +kernel
theorem dX1_cover_116 : decode cX1_cover 116 = .ok (.aload_n 0, 1) := by decide +kernel
theorem dX1_cover_117 : decode cX1_cover 117 = .ok (.getfield 24, 3) := by decide +kernel
theorem dX1_cover_120 : decode cX1_cover 120 = .ok (.iload 5, 2) := by decide +kernel
theorem dX1_cover_122 : decode cX1_cover 122 = .ok (.iload_n 2, 1) := by decide +kernel
theorem dX1_cover_123 : decode cX1_cover 123 = .ok (.iastore, 1) := by decide +kernel
theorem dX1_cover_124 : decode cX1_cover 124 = .ok (.aload_n 0, 1) := by decide +kernel
theorem dX1_cover_125 : decode cX1_cover 125 = .ok (.getfield 27, 3) := by decide +kernel
theorem dX1_cover_128 : decode cX1_cover 128 = .ok (.iload 5, 2) := by decide +kernel
theorem dX1_cover_130 : decode cX1_cover 130 = .ok (.bipush 9, 2) := by decide +kernel
theorem dX1_cover_132 : decode cX1_cover 132 = .ok (.iastore, 1) := by decide +kernel
theorem dX1_cover_133 : decode cX1_cover 133 = .ok (.aload_n 0, 1) := by decide +kernel
theorem dX1_cover_134 : decode cX1_cover 134 = .ok (.getfield 21, 3) := by decide +kernel
theorem dX1_cover_137 : decode cX1_cover 137 = .ok (.iload_n 1, 1) := by decide +kernel
theorem dX1_cover_138 : decode cX1_cover 138 = .ok (.iload 6, 2) := by decide +kernel
theorem dX1_cover_140 : decode cX1_cover 140 = .ok (.iconst 1, 1) := by decide +kernel
theorem dX1_cover_141 : decode cX1_cover 141 = .ok (.iadd, 1) := by decide +kernel
theorem dX1_cover_142 : decode cX1_cover 142 = .ok (.iastore, 1) := by decide +kernel
theorem dX1_cover_143 : decode cX1_cover 143 = .ok (.return_, 1) := by decide +kernel
theorem dX1_facesLeft_0 : decode cX1_facesLeft 0 = .ok (.iconst 0, 1) := by decide +kernel
theorem dX1_facesLeft_1 : decode cX1_facesLeft 1 = .ok (.istore_n 3, 1) := by decide +kernel
theorem dX1_facesLeft_2 : decode cX1_facesLeft 2 = .ok (.iload_n 1, 1) := by decide +kernel
theorem dX1_facesLeft_3 : decode cX1_facesLeft 3 = .ok (.bipush 9, 2) := by decide +kernel
theorem dX1_facesLeft_5 : decode cX1_facesLeft 5 = .ok (.imul, 1) := by decide +kernel
theorem dX1_facesLeft_6 : decode cX1_facesLeft 6 = .ok (.istore 4, 2) := by decide +kernel
theorem dX1_facesLeft_8 : decode cX1_facesLeft 8 = .ok (.iload_n 3, 1) := by decide +kernel
theorem dX1_facesLeft_9 : decode cX1_facesLeft 9 = .ok (.bipush 8, 2) := by decide +kernel
theorem dX1_facesLeft_11 : decode cX1_facesLeft 11 = .ok (.if_icmp .ge 32, 3) := by decide +kernel
theorem dX1_facesLeft_14 : decode cX1_facesLeft 14 = .ok (.iload_n 3, 1) := by decide +kernel
theorem dX1_facesLeft_15 : decode cX1_facesLeft 15 = .ok (.aload_n 0, 1) := by decide +kernel
theorem dX1_facesLeft_16 : decode cX1_facesLeft 16 = .ok (.getfield 21, 3) := by decide +kernel
theorem dX1_facesLeft_19 : decode cX1_facesLeft 19 = .ok (.iload_n 1, 1) := by decide +kernel
theorem dX1_facesLeft_20 : decode cX1_facesLeft 20 = .ok (.iaload, 1) := by decide +kernel
theorem dX1_facesLeft_21 : decode cX1_facesLeft 21 = .ok (.if_icmp .ge 22, 3) := by decide +kernel
theorem dX1_facesLeft_24 : decode cX1_facesLeft 24 = .ok (.aload_n 0, 1) := by decide +kernel
theorem dX1_facesLeft_25 : decode cX1_facesLeft 25 = .ok (.getfield 27, 3) := by decide +kernel
theorem dX1_facesLeft_28 : decode cX1_facesLeft 28 = .ok (.iload 4, 2) := by decide +kernel
theorem dX1_facesLeft_30 : decode cX1_facesLeft 30 = .ok (.iload_n 3, 1) := by decide +kernel
theorem dX1_facesLeft_31 : decode cX1_facesLeft 31 = .ok (.iadd, 1) := by decide +kernel
theorem dX1_facesLeft_32 : decode cX1_facesLeft 32 = .ok (.iaload, 1) := by decide +kernel
theorem dX1_facesLeft_33 : decode cX1_facesLeft 33 = .ok (.iload_n 2, 1) := by decide +kernel
theorem dX1_facesLeft_34 : decode cX1_facesLeft 34 = .ok (.if_icmp .le 9, 3) := by decide +kernel
theorem dX1_facesLeft_37 : decode cX1_facesLeft 37 = .ok (.iinc 3 1, 3) := by decide +kernel
theorem dX1_facesLeft_40 : decode cX1_facesLeft 40 = .ok (.goto (-32), 3) := by decide +kernel
theorem dX1_facesLeft_43 : decode cX1_facesLeft 43 = .ok (.iload_n 3, 1) := by decide +kernel
theorem dX1_facesLeft_44 : decode cX1_facesLeft 44 = .ok (.ireturn, 1) := by decide +kernel
