theorem dX10_who_18 : decode cX10_who 18 = .ok (.ifCond .ne 8, 3) := by decide +kernel
theorem dX10_who_21 : decode cX10_who 21 = .ok (.aload_n 0, 1) := by decide +kernel
theorem dX10_who_22 : decode cX10_who 22 = .ok (.invokevirtual 246, 3) := by decide +kernel
theorem dX10_who_25 : decode cX10_who 25 = .ok (.ireturn, 1) := by decide +kernel
theorem dX10_who_26 : decode cX10_who 26 = .ok (.aload_n 0, 1) := by decide +kernel
theorem dX10_who_27 : decode cX10_who 27 = .ok (.iconst 0, 1) := by decide +kernel
theorem dX10_who_28 : decode cX10_who 28 = .ok (.putfield 83, 3) := by decide +kernel
theorem dX10_who_31 : decode cX10_who 31 = .ok (.iload_n 2, 1) := by decide +kernel
theorem dX10_who_32 : decode cX10_who 32 = .ok (.iconst 3, 1) := by decide +kernel
theorem dX10_who_33 : decode cX10_who 33 = .ok (.if_icmp .ge 10, 3) := by decide +kernel
theorem dX10_who_36 : decode cX10_who 36 = .ok (.aload_n 0, 1) := by decide +kernel
theorem dX10_who_37 : decode cX10_who 37 = .ok (.iload_n 1, 1) := by decide +kernel
theorem dX10_who_38 : decode cX10_who 38 = .ok (.iload_n 2, 1) := by decide +kernel
theorem dX10_who_39 : decode cX10_who 39 = .ok (.invokevirtual 249, 3) := by decide +kernel
theorem dX10_who_42 : decode cX10_who 42 = .ok (.ireturn, 1) := by decide +kernel
theorem dX10_who_43 : decode cX10_who 43 = .ok (.iconst 0, 1) := by decide +kernel
theorem dX10_who_44 : decode cX10_who 44 = .ok (.istore_n 3, 1) := by decide +kernel
theorem dX10_who_45 : decode cX10_who 45 = .ok (.iconst 0, 1) := by decide +kernel
theorem dX10_who_46 : decode cX10_who 46 = .ok (.istore 4, 2) := by decide +kernel
theorem dX10_who_48 : decode cX10_who 48 = .ok (.iload 4, 2) := by decide +kernel
theorem dX10_who_50 : decode cX10_who 50 = .ok (.aload_n 0, 1) := by decide +kernel
theorem dX10_who_51 : decode cX10_who 51 = .ok (.invokevirtual 188, 3) := by decide +kernel
theorem dX10_who_54 : decode cX10_who 54 = .ok (.if_icmp .ge 65, 3) := by decide +kernel
theorem dX10_who_57 : decode cX10_who 57 = .ok (.iload_n 2, 1) := by decide +kernel
theorem dX10_who_58 : decode cX10_who 58 = .ok (.iconst 5, 1) := by decide +kernel
theorem dX10_who_59 : decode cX10_who 59 = .ok (.if_icmp .ne 24, 3) := by decide +kernel
theorem dX10_who_62 : decode cX10_who 62 = .ok (.iload_n 3, 1) := by decide +kernel
theorem dX10_who_63 : decode cX10_who 63 = .ok (.aload_n 0, 1) := by decide +kernel
theorem dX10_who_64 : decode cX10_who 64 = .ok (.iload 4, 2) := by decide +kernel
theorem dX10_who_66 : decode cX10_who 66 = .ok (.invokevirtual 253, 3) := by decide +kernel
theorem dX10_who_69 : decode cX10_who 69 = .ok (.iload_n 1, 1) := by decide +kernel
theorem dX10_who_70 : decode cX10_who 70 = .ok (.if_icmp .ne 7, 3) := by decide +kernel
theorem dX10_who_73 : decode cX10_who 73 = .ok (.iconst 1, 1) := by decide +kernel
theorem dX10_who_74 : decode cX10_who 74 = .ok (.goto 4, 3) := by decide +kernel
theorem dX10_who_77 : decode cX10_who 77 = .ok (.iconst 0, 1) := by decide +kernel
theorem dX10_who_78 : decode cX10_who 78 = .ok (.iadd, 1) := by decide +kernel
theorem dX10_who_79 : decode cX10_who 79 = .ok (.istore_n 3, 1) := by decide +kernel
theorem dX10_who_80 : decode cX10_who 80 = .ok (.goto 33, 3) := by decide +kernel
theorem dX10_who_83 : decode cX10_who 83 = .ok (.aload_n 0, 1) := by decide +kernel
theorem dX10_who_84 : decode cX10_who 84 = .ok (.iload 4, 2) := by decide +kernel
theorem dX10_who_86 : decode cX10_who 86 = .ok (.iconst 1, 1) := by decide +kernel
theorem dX10_who_87 : decode cX10_who 87 = .ok (.invokevirtual 256, 3) := by decide +kernel
theorem dX10_who_90 : decode cX10_who 90 = .ok (.iload_n 1, 1) := by decide +kernel
theorem dX10_who_91 : decode cX10_who 91 = .ok (.if_icmp .ne 22, 3) := by decide +kernel
theorem dX10_who_94 : decode cX10_who 94 = .ok (.iload_n 3, 1) := by decide +kernel
theorem dX10_who_95 : decode cX10_who 95 = .ok (.iload_n 2, 1) := by decide +kernel
theorem dX10_who_96 : decode cX10_who 96 = .ok (.iconst 3, 1) := by decide +kernel
theorem dX10_who_97 : decode cX10_who 97 = .ok (.if_icmp .ne 7, 3) := by decide +kernel
theorem dX10_who_100 : decode cX10_who 100 = .ok (.iconst 1, 1) := by decide +kernel
theorem dX10_who_101 : decode cX10_who 101 = .ok (.goto 10, 3) := by decide +kernel
theorem dX10_who_104 : decode cX10_who 104 = .ok (.aload_n 0, 1) := by decide +kernel
theorem dX10_who_105 : decode cX10_who 105 = .ok (.iload 4, 2) := by decide +kernel
theorem dX10_who_107 : decode cX10_who 107 = .ok (.iconst 0, 1) := by decide +kernel
theorem dX10_who_108 : decode cX10_who 108 = .ok (.invokevirtual 256, 3) := by decide +kernel
theorem dX10_who_111 : decode cX10_who 111 = .ok (.iadd, 1) := by decide +kernel
theorem dX10_who_112 : decode cX10_who 112 = .ok (.istore_n 3, 1) := by decide +kernel
theorem dX10_who_113 : decode cX10_who 113 = .ok (.iinc 4 1, 3) := by decide +kernel
theorem dX10_who_116 : decode cX10_who 116 = .ok (.goto (-68), 3) := by decide +kernel
theorem dX10_who_119 : decode cX10_who 119 = .ok (.iload_n 3, 1) := by decide +kernel
theorem dX10_who_120 : decode cX10_who 120 = .ok (.ireturn, 1) := by decide +kernel
theorem dX10_mint_0 : decode cX10_mint 0 = .ok (.aload_n 0, 1) := by decide +kernel
theorem dX10_mint_1 : decode cX10_mint 1 = .ok (.invokevirtual 167, 3) := by decide +kernel
theorem dX10_mint_4 : decode cX10_mint 4 = .ok (.aload_n 0, 1) := by decide +kernel
theorem dX10_mint_5 : decode cX10_mint 5 = .ok (.iload_n 1, 1) := by decide +kernel
theorem dX10_mint_6 : decode cX10_mint 6 = .ok (.invokevirtual 259, 3) := by decide +kernel
theorem dX10_mint_9 : decode cX10_mint 9 = .ok (.ifCond .eq 12, 3) := by decide +kernel
theorem dX10_mint_12 : decode cX10_mint 12 = .ok (.iload_n 2, 1) := by decide +kernel
theorem dX10_mint_13 : decode cX10_mint 13 = .ok (.iconst 0, 1) := by decide +kernel
theorem dX10_mint_14 : decode cX10_mint 14 = .ok (.iconst 3, 1) := by decide +kernel
theorem dX10_mint_15 : decode cX10_mint 15 = .ok (.invokestatic 154, 3) := by decide +kernel
theorem dX10_mint_18 : decode cX10_mint 18 = .ok (.ifCond .ne 8, 3) := by decide +kernel
theorem dX10_mint_21 : decode cX10_mint 21 = .ok (.aload_n 0, 1) := by decide +kernel
theorem dX10_mint_22 : decode cX10_mint 22 = .ok (.invokevirtual 246, 3) := by decide +kernel
theorem dX10_mint_25 : decode cX10_mint 25 = .ok (.ireturn, 1) := by decide +kernel
theorem dX10_mint_26 : decode cX10_mint 26 = .ok (.aload_n 0, 1) := by decide +kernel
theorem dX10_mint_27 : decode cX10_mint 27 = .ok (.iconst 0, 1) := by decide +kernel
theorem dX10_mint_28 : decode cX10_mint 28 = .ok (.putfield 83, 3) := by decide +kernel
theorem dX10_mint_31 : decode cX10_mint 31 = .ok (.iload_n 2, 1) := by decide +kernel
theorem dX10_mint_32 : decode cX10_mint 32 = .ok (.iconst 3, 1) := by decide +kernel
theorem dX10_mint_33 : decode cX10_mint 33 = .ok (.if_icmp .ge 10, 3) := by decide +kernel
theorem dX10_mint_36 : decode cX10_mint 36 = .ok (.aload_n 0, 1) := by decide +kernel
theorem dX10_mint_37 : decode cX10_mint 37 = .ok (.iload_n 1, 1) := by decide +kernel
theorem dX10_mint_38 : decode cX10_mint 38 = .ok (.iload_n 2, 1) := by decide +kernel
theorem dX10_mint_39 : decode cX10_mint 39 = .ok (.invokevirtual 262, 3) := by decide +kernel
theorem dX10_mint_42 : decode cX10_mint 42 = .ok (.ireturn, 1) := by decide +kernel
theorem dX10_mint_43 : decode cX10_mint 43 = .ok (.iconst 0, 1) := by decide +kernel
theorem dX10_mint_44 : decode cX10_mint 44 = .ok (.istore_n 3, 1) := by decide +kernel
theorem dX10_mint_45 : decode cX10_mint 45 = .ok (.iconst 0, 1) := by decide +kernel
theorem dX10_mint_46 : decode cX10_mint 46 = .ok (.istore 4, 2) := by decide +kernel
theorem dX10_mint_48 : decode cX10_mint 48 = .ok (.iload 4, 2) := by decide +kernel
theorem dX10_mint_50 : decode cX10_mint 50 = .ok (.aload_n 0, 1) := by decide +kernel
theorem dX10_mint_51 : decode cX10_mint 51 = .ok (.getfield 13, 3) := by decide +kernel
theorem dX10_mint_54 : decode cX10_mint 54 = .ok (.bipush 112, 2) := by decide +kernel
theorem dX10_mint_56 : decode cX10_mint 56 = .ok (.iaload, 1) := by decide +kernel
theorem dX10_mint_57 : decode cX10_mint 57 = .ok (.if_icmp .ge 32, 3) := by decide +kernel
theorem dX10_mint_60 : decode cX10_mint 60 = .ok (.aload_n 0, 1) := by decide +kernel
theorem dX10_mint_61 : decode cX10_mint 61 = .ok (.getfield 13, 3) := by decide +kernel
theorem dX10_mint_64 : decode cX10_mint 64 = .ok (.sipush 1400, 3) := by decide +kernel
theorem dX10_mint_67 : decode cX10_mint 67 = .ok (.bipush 6, 2) := by decide +kernel
theorem dX10_mint_69 : decode cX10_mint 69 = .ok (.iload 4, 2) := by decide +kernel
theorem dX10_mint_71 : decode cX10_mint 71 = .ok (.imul, 1) := by decide +kernel
theorem dX10_mint_72 : decode cX10_mint 72 = .ok (.iadd, 1) := by decide +kernel
theorem dX10_mint_73 : decode cX10_mint 73 = .ok (.iconst 2, 1) := by decide +kernel
theorem dX10_mint_74 : decode cX10_mint 74 = .ok (.iadd, 1) := by decide +kernel
theorem dX10_mint_75 : decode cX10_mint 75 = .ok (.iaload, 1) := by decide +kernel
theorem dX10_mint_76 : decode cX10_mint 76 = .ok (.iload_n 1, 1) := by decide +kernel
theorem dX10_mint_77 : decode cX10_mint 77 = .ok (.if_icmp .ne 6, 3) := by decide +kernel
theorem dX10_mint_80 : decode cX10_mint 80 = .ok (.iinc 3 1, 3) := by decide +kernel
theorem dX10_mint_83 : decode cX10_mint 83 = .ok (.iinc 4 1, 3) := by decide +kernel
theorem dX10_mint_86 : decode cX10_mint 86 = .ok (.goto (-38), 3) := by decide +kernel
theorem dX10_mint_89 : decode cX10_mint 89 = .ok (.iload_n 3, 1) := by decide +kernel
theorem dX10_mint_90 : decode cX10_mint 90 = .ok (.ireturn, 1) := by decide +kernel
theorem dX10_topOf_0 : decode cX10_topOf 0 = .ok (.aload_n 0, 1) := by decide +kernel
theorem dX10_topOf_1 : decode cX10_topOf 1 = .ok (.iload_n 1, 1) := by decide +kernel
theorem dX10_topOf_2 : decode cX10_topOf 2 = .ok (.iconst 4, 1) := by decide +kernel
theorem dX10_topOf_3 : decode cX10_topOf 3 = .ok (.invokevirtual 256, 3) := by decide +kernel
theorem dX10_topOf_6 : decode cX10_topOf 6 = .ok (.ireturn, 1) := by decide +kernel
theorem dX10_wrongStroke_0 : decode cX10_wrongStroke 0 = .ok (.aload_n 0, 1) := by decide +kernel
theorem dX10_wrongStroke_1 : decode cX10_wrongStroke 1 = .ok (.iload_n 3, 1) := by decide +kernel
theorem dX10_wrongStroke_2 : decode cX10_wrongStroke 2 = .ok (.iconst 2, 1) := by decide +kernel
theorem dX10_wrongStroke_3 : decode cX10_wrongStroke 3 = .ok (.invokevirtual 262, 3) := by decide +kernel
theorem dX10_wrongStroke_6 : decode cX10_wrongStroke 6 = .ok (.ifCond .le 7, 3) := by decide +kernel
theorem dX10_wrongStroke_9 : decode cX10_wrongStroke 9 = .ok (.iconst 4, 1) := by decide +kernel
theorem dX10_wrongStroke_10 : decode cX10_wrongStroke 10 = .ok (.goto 41, 3) := by decide +kernel
theorem dX10_wrongStroke_13 : decode cX10_wrongStroke 13 = .ok (.iload_n 1, 1) := by decide +kernel
theorem dX10_wrongStroke_14 : decode cX10_wrongStroke 14 = .ok (.aload_n 0, 1) := by decide +kernel
theorem dX10_wrongStroke_15 : decode cX10_wrongStroke 15 = .ok (.iload_n 3, 1) := by decide +kernel
theorem dX10_wrongStroke_16 : decode cX10_wrongStroke 16 = .ok (.iconst 0, 1) := by decide +kernel
theorem dX10_wrongStroke_17 : decode cX10_wrongStroke 17 = .ok (.invokevirtual 262, 3) := by decide +kernel
theorem dX10_wrongStroke_20 : decode cX10_wrongStroke 20 = .ok (.isub, 1) := by decide +kernel
theorem dX10_wrongStroke_21 : decode cX10_wrongStroke 21 = .ok (.aload_n 0, 1) := by decide +kernel
theorem dX10_wrongStroke_22 : decode cX10_wrongStroke 22 = .ok (.getfield 13, 3) := by decide +kernel
theorem dX10_wrongStroke_25 : decode cX10_wrongStroke 25 = .ok (.iconst 5, 1) := by decide +kernel
theorem dX10_wrongStroke_26 : decode cX10_wrongStroke 26 = .ok (.iaload, 1) := by decide +kernel
theorem dX10_wrongStroke_27 : decode cX10_wrongStroke 27 = .ok (.if_icmp .ge 7, 3) := by decide +kernel
theorem dX10_wrongStroke_30 : decode cX10_wrongStroke 30 = .ok (.iconst 5, 1) := by decide +kernel
theorem dX10_wrongStroke_31 : decode cX10_wrongStroke 31 = .ok (.goto 20, 3) := by decide +kernel
theorem dX10_wrongStroke_34 : decode cX10_wrongStroke 34 = .ok (.iload_n 2, 1) := by decide +kernel
theorem dX10_wrongStroke_35 : decode cX10_wrongStroke 35 = .ok (.aload_n 0, 1) := by decide +kernel
theorem dX10_wrongStroke_36 : decode cX10_wrongStroke 36 = .ok (.getfield 13, 3) := by decide +kernel
theorem dX10_wrongStroke_39 : decode cX10_wrongStroke 39 = .ok (.bipush 6, 2) := by decide +kernel
theorem dX10_wrongStroke_41 : decode cX10_wrongStroke 41 = .ok (.iaload, 1) := by decide +kernel
theorem dX10_wrongStroke_42 : decode cX10_wrongStroke 42 = .ok (.if_icmp .lt 8, 3) := by decide +kernel
theorem dX10_wrongStroke_45 : decode cX10_wrongStroke 45 = .ok (.bipush 6, 2) := by decide +kernel
theorem dX10_wrongStroke_47 : decode cX10_wrongStroke 47 = .ok (.goto 4, 3) := by decide +kernel
theorem dX10_wrongStroke_50 : decode cX10_wrongStroke 50 = .ok (.iconst 0, 1) := by decide +kernel
theorem dX10_wrongStroke_51 : decode cX10_wrongStroke 51 = .ok (.ireturn, 1) := by decide +kernel
theorem dX10_wrongAt_0 : decode cX10_wrongAt 0 = .ok (.aload_n 0, 1) := by decide +kernel
theorem dX10_wrongAt_1 : decode cX10_wrongAt 1 = .ok (.aload_n 0, 1) := by decide +kernel
theorem dX10_wrongAt_2 : decode cX10_wrongAt 2 = .ok (.iload_n 1, 1) := by decide +kernel
theorem dX10_wrongAt_3 : decode cX10_wrongAt 3 = .ok (.iconst 0, 1) := by decide +kernel
theorem dX10_wrongAt_4 : decode cX10_wrongAt 4 = .ok (.invokevirtual 256, 3) := by decide +kernel
theorem dX10_wrongAt_7 : decode cX10_wrongAt 7 = .ok (.aload_n 0, 1) := by decide +kernel
theorem dX10_wrongAt_8 : decode cX10_wrongAt 8 = .ok (.iload_n 1, 1) := by decide +kernel
theorem dX10_wrongAt_9 : decode cX10_wrongAt 9 = .ok (.iconst 2, 1) := by decide +kernel
theorem dX10_wrongAt_10 : decode cX10_wrongAt 10 = .ok (.invokevirtual 256, 3) := by decide +kernel
theorem dX10_wrongAt_13 : decode cX10_wrongAt 13 = .ok (.iload_n 2, 1) := by decide +kernel
theorem dX10_wrongAt_14 : decode cX10_wrongAt 14 = .ok (.invokevirtual 265, 3) := by decide +kernel
theorem dX10_wrongAt_17 : decode cX10_wrongAt 17 = .ok (.ireturn, 1) := by decide +kernel
theorem dX10_strike_0 : decode cX10_strike 0 = .ok (.bipush 120, 2) := by decide +kernel
theorem dX10_strike_2 : decode cX10_strike 2 = .ok (.bipush 32, 2) := by decide +kernel
theorem dX10_strike_4 : decode cX10_strike 4 = .ok (.iload_n 1, 1) := by decide +kernel
theorem dX10_strike_5 : decode cX10_strike 5 = .ok (.imul, 1) := by decide +kernel
theorem dX10_strike_6 : decode cX10_strike 6 = .ok (.iadd, 1) := by decide +kernel
theorem dX10_strike_7 : decode cX10_strike 7 = .ok (.istore 6, 2) := by decide +kernel
theorem dX10_strike_9 : decode cX10_strike 9 = .ok (.aload_n 0, 1) := by decide +kernel
theorem dX10_strike_10 : decode cX10_strike 10 = .ok (.iload_n 3, 1) := by decide +kernel
theorem dX10_strike_11 : decode cX10_strike 11 = .ok (.iconst 0, 1) := by decide +kernel
theorem dX10_strike_12 : decode cX10_strike 12 = .ok (.invokevirtual 262, 3) := by decide +kernel
theorem dX10_strike_15 : decode cX10_strike 15 = .ok (.istore 7, 2) := by decide +kernel
theorem dX10_strike_17 : decode cX10_strike 17 = .ok (.aload_n 0, 1) := by decide +kernel
theorem dX10_strike_18 : decode cX10_strike 18 = .ok (.getfield 13, 3) := by decide +kernel
theorem dX10_strike_21 : decode cX10_strike 21 = .ok (.iload 6, 2) := by decide +kernel
theorem dX10_strike_23 : decode cX10_strike 23 = .ok (.iconst 0, 1) := by decide +kernel
theorem dX10_strike_24 : decode cX10_strike 24 = .ok (.iadd, 1) := by decide +kernel
theorem dX10_strike_25 : decode cX10_strike 25 = .ok (.dup2, 1) := by decide +kernel
theorem dX10_strike_26 : decode cX10_strike 26 = .ok (.iaload, 1) := by decide +kernel
theorem dX10_strike_27 : decode cX10_strike 27 = .ok (.iload 7, 2) := by decide +kernel
theorem dX10_strike_29 : decode cX10_strike 29 = .ok (.isub, 1) := by decide +kernel
theorem dX10_strike_30 : decode cX10_strike 30 = .ok (.iastore, 1) := by decide +kernel
theorem dX10_strike_31 : decode cX10_strike 31 = .ok (.aload_n 0, 1) := by decide +kernel
theorem dX10_strike_32 : decode cX10_strike 32 = .ok (.getfield 13, 3) := by decide +kernel
theorem dX10_strike_35 : decode cX10_strike 35 = .ok (.bipush 115, 2) := by decide +kernel
theorem dX10_strike_37 : decode cX10_strike 37 = .ok (.dup2, 1) := by decide +kernel
theorem dX10_strike_38 : decode cX10_strike 38 = .ok (.iaload, 1) := by decide +kernel
theorem dX10_strike_39 : decode cX10_strike 39 = .ok (.iload 7, 2) := by decide +kernel
theorem dX10_strike_41 : decode cX10_strike 41 = .ok (.iadd, 1) := by decide +kernel
theorem dX10_strike_42 : decode cX10_strike 42 = .ok (.iastore, 1) := by decide +kernel
theorem dX10_strike_43 : decode cX10_strike 43 = .ok (.iconst 0, 1) := by decide +kernel
theorem dX10_strike_44 : decode cX10_strike 44 = .ok (.istore 8, 2) := by decide +kernel
theorem dX10_strike_46 : decode cX10_strike 46 = .ok (.iconst 0, 1) := by decide +kernel
theorem dX10_strike_47 : decode cX10_strike 47 = .ok (.istore 9, 2) := by decide +kernel
theorem dX10_strike_49 : decode cX10_strike 49 = .ok (.iload 9, 2) := by decide +kernel
theorem dX10_strike_51 : decode cX10_strike 51 = .ok (.aload_n 0, 1) := by decide +kernel
theorem dX10_strike_52 : decode cX10_strike 52 = .ok (.getfield 13, 3) := by decide +kernel
theorem dX10_strike_55 : decode cX10_strike 55 = .ok (.iload 6, 2) := by decide +kernel
theorem dX10_strike_57 : decode cX10_strike 57 = .ok (.iconst 3, 1) := by decide +kernel
theorem dX10_strike_58 : decode cX10_strike 58 = .ok (.iadd, 1) := by decide +kernel
theorem dX10_strike_59 : decode cX10_strike 59 = .ok (.iaload, 1) := by decide +kernel
theorem dX10_strike_60 : decode cX10_strike 60 = .ok (.if_icmp .ge 103, 3) := by decide +kernel
theorem dX10_strike_63 : decode cX10_strike 63 = .ok (.iload 6, 2) := by decide +kernel
theorem dX10_strike_65 : decode cX10_strike 65 = .ok (.iconst 4, 1) := by decide +kernel
theorem dX10_strike_66 : decode cX10_strike 66 = .ok (.iadd, 1) := by decide +kernel
theorem dX10_strike_67 : decode cX10_strike 67 = .ok (.iconst 3, 1) := by decide +kernel
theorem dX10_strike_68 : decode cX10_strike 68 = .ok (.iload 9, 2) := by decide +kernel
theorem dX10_strike_70 : decode cX10_strike 70 = .ok (.imul, 1) := by decide +kernel
theorem dX10_strike_71 : decode cX10_strike 71 = .ok (.iadd, 1) := by decide +kernel
theorem dX10_strike_72 : decode cX10_strike 72 = .ok (.istore 10, 2) := by decide +kernel
theorem dX10_strike_74 : decode cX10_strike 74 = .ok (.aload_n 0, 1) := by decide +kernel
theorem dX10_strike_75 : decode cX10_strike 75 = .ok (.getfield 13, 3) := by decide +kernel
theorem dX10_strike_78 : decode cX10_strike 78 = .ok (.iload 10, 2) := by decide +kernel
theorem dX10_strike_80 : decode cX10_strike 80 = .ok (.iconst 1, 1) := by decide +kernel
theorem dX10_strike_81 : decode cX10_strike 81 = .ok (.iadd, 1) := by decide +kernel
theorem dX10_strike_82 : decode cX10_strike 82 = .ok (.iaload, 1) := by decide +kernel
theorem dX10_strike_83 : decode cX10_strike 83 = .ok (.aload_n 0, 1) := by decide +kernel
theorem dX10_strike_84 : decode cX10_strike 84 = .ok (.iload_n 3, 1) := by decide +kernel
theorem dX10_strike_85 : decode cX10_strike 85 = .ok (.iconst 1, 1) := by decide +kernel
theorem dX10_strike_86 : decode cX10_strike 86 = .ok (.invokevirtual 262, 3) := by decide +kernel
theorem dX10_strike_89 : decode cX10_strike 89 = .ok (.isub, 1) := by decide +kernel
theorem dX10_strike_90 : decode cX10_strike 90 = .ok (.istore 11, 2) := by decide +kernel
theorem dX10_strike_92 : decode cX10_strike 92 = .ok (.iload 11, 2) := by decide +kernel
theorem dX10_strike_94 : decode cX10_strike 94 = .ok (.ifCond .gt 6, 3) := by decide +kernel
theorem dX10_strike_97 : decode cX10_strike 97 = .ok (.goto 60, 3) := by decide +kernel
theorem dX10_strike_100 : decode cX10_strike 100 = .ok (.iload 6, 2) := by decide +kernel
theorem dX10_strike_102 : decode cX10_strike 102 = .ok (.iconst 4, 1) := by decide +kernel
theorem dX10_strike_103 : decode cX10_strike 103 = .ok (.iadd, 1) := by decide +kernel
theorem dX10_strike_104 : decode cX10_strike 104 = .ok (.iconst 3, 1) := by decide +kernel
theorem dX10_strike_105 : decode cX10_strike 105 = .ok (.iload 8, 2) := by decide +kernel
theorem dX10_strike_107 : decode cX10_strike 107 = .ok (.imul, 1) := by decide +kernel
theorem dX10_strike_108 : decode cX10_strike 108 = .ok (.iadd, 1) := by decide +kernel
theorem dX10_strike_109 : decode cX10_strike 109 = .ok (.istore 12, 2) := by decide +kernel
theorem dX10_strike_111 : decode cX10_strike 111 = .ok (.aload_n 0, 1) := by decide +kernel
theorem dX10_strike_112 : decode cX10_strike 112 = .ok (.getfield 13, 3) := by decide +kernel
theorem dX10_strike_115 : decode cX10_strike 115 = .ok (.iload 12, 2) := by decide +kernel
theorem dX10_strike_117 : decode cX10_strike 117 = .ok (.aload_n 0, 1) := by decide +kernel
theorem dX10_strike_118 : decode cX10_strike 118 = .ok (.getfield 13, 3) := by decide +kernel
theorem dX10_strike_121 : decode cX10_strike 121 = .ok (.iload 10, 2) := by decide +kernel
theorem dX10_strike_123 : decode cX10_strike 123 = .ok (.iaload, 1) := by decide +kernel
theorem dX10_strike_124 : decode cX10_strike 124 = .ok (.iastore, 1) := by decide +kernel
theorem dX10_strike_125 : decode cX10_strike 125 = .ok (.aload_n 0, 1) := by decide +kernel
theorem dX10_strike_126 : decode cX10_strike 126 = .ok (.getfield 13, 3) := by decide +kernel
theorem dX10_strike_129 : decode cX10_strike 129 = .ok (.iload 12, 2) := by decide +kernel
theorem dX10_strike_131 : decode cX10_strike 131 = .ok (.iconst 1, 1) := by decide +kernel
theorem dX10_strike_132 : decode cX10_strike 132 = .ok (.iadd, 1) := by decide +kernel
theorem dX10_strike_133 : decode cX10_strike 133 = .ok (.iload 11, 2) := by decide +kernel
theorem dX10_strike_135 : decode cX10_strike 135 = .ok (.iastore, 1) := by decide +kernel
theorem dX10_strike_136 : decode cX10_strike 136 = .ok (.aload_n 0, 1) := by decide +kernel
theorem dX10_strike_137 : decode cX10_strike 137 = .ok (.getfield 13, 3) := by decide +kernel
theorem dX10_strike_140 : decode cX10_strike 140 = .ok (.iload 12, 2) := by decide +kernel
theorem dX10_strike_142 : decode cX10_strike 142 = .ok (.iconst 2, 1) := by decide +kernel
theorem dX10_strike_143 : decode cX10_strike 143 = .ok (.iadd, 1) := by decide +kernel
theorem dX10_strike_144 : decode cX10_strike 144 = .ok (.aload_n 0, 1) := by decide +kernel
theorem dX10_strike_145 : decode cX10_strike 145 = .ok (.getfield 13, 3) := by decide +kernel
theorem dX10_strike_148 : decode cX10_strike 148 = .ok (.iload 10, 2) := by decide +kernel
theorem dX10_strike_150 : decode cX10_strike 150 = .ok (.iconst 2, 1) := by decide +kernel
theorem dX10_strike_151 : decode cX10_strike 151 = .ok (.iadd, 1) := by decide +kernel
theorem dX10_strike_152 : decode cX10_strike 152 = .ok (.iaload, 1) := by decide +kernel
theorem dX10_strike_153 : decode cX10_strike 153 = .ok (.iastore, 1) := by decide +kernel
theorem dX10_strike_154 : decode cX10_strike 154 = .ok (.iinc 8 1, 3) := by decide +kernel
theorem dX10_strike_157 : decode cX10_strike 157 = .ok (.iinc 9 1, 3) := by decide +kernel
theorem dX10_strike_160 : decode cX10_strike 160 = .ok (.goto (-111), 3) := by decide +kernel
theorem dX10_strike_163 : decode cX10_strike 163 = .ok (.iload 8, 2) := by decide +kernel
theorem dX10_strike_165 : decode cX10_strike 165 = .ok (.istore 9, 2) := by decide +kernel
theorem dX10_strike_167 : decode cX10_strike 167 = .ok (.iload 9, 2) := by decide +kernel
theorem dX10_strike_169 : decode cX10_strike 169 = .ok (.ifCond .le 60, 3) := by decide +kernel
theorem dX10_strike_172 : decode cX10_strike 172 = .ok (.iconst 0, 1) := by decide +kernel
theorem dX10_strike_173 : decode cX10_strike 173 = .ok (.istore 10, 2) := by decide +kernel
theorem dX10_strike_175 : decode cX10_strike 175 = .ok (.iload 10, 2) := by decide +kernel
theorem dX10_strike_177 : decode cX10_strike 177 = .ok (.iconst 3, 1) := by decide +kernel
theorem dX10_strike_178 : decode cX10_strike 178 = .ok (.if_icmp .ge 45, 3) := by decide +kernel
theorem dX10_strike_181 : decode cX10_strike 181 = .ok (.aload_n 0, 1) := by decide +kernel
theorem dX10_strike_182 : decode cX10_strike 182 = .ok (.getfield 13, 3) := by decide +kernel
theorem dX10_strike_185 : decode cX10_strike 185 = .ok (.iload 6, 2) := by decide +kernel
theorem dX10_strike_187 : decode cX10_strike 187 = .ok (.iconst 4, 1) := by decide +kernel
theorem dX10_strike_188 : decode cX10_strike 188 = .ok (.iadd, 1) := by decide +kernel
theorem dX10_strike_189 : decode cX10_strike 189 = .ok (.iconst 3, 1) := by decide +kernel
theorem dX10_strike_190 : decode cX10_strike 190 = .ok (.iload 9, 2) := by decide +kernel
theorem dX10_strike_192 : decode cX10_strike 192 = .ok (.imul, 1) := by decide +kernel
theorem dX10_strike_193 : decode cX10_strike 193 = .ok (.iadd, 1) := by decide +kernel
theorem dX10_strike_194 : decode cX10_strike 194 = .ok (.iload 10, 2) := by decide +kernel
theorem dX10_strike_196 : decode cX10_strike 196 = .ok (.iadd, 1) := by decide +kernel
theorem dX10_strike_197 : decode cX10_strike 197 = .ok (.aload_n 0, 1) := by decide +kernel
theorem dX10_strike_198 : decode cX10_strike 198 = .ok (.getfield 13, 3) := by decide +kernel
theorem dX10_strike_201 : decode cX10_strike 201 = .ok (.iload 6, 2) := by decide +kernel
theorem dX10_strike_203 : decode cX10_strike 203 = .ok (.iconst 4, 1) := by decide +kernel
theorem dX10_strike_204 : decode cX10_strike 204 = .ok (.iadd, 1) := by decide +kernel
theorem dX10_strike_205 : decode cX10_strike 205 = .ok (.iconst 3, 1) := by decide +kernel
theorem dX10_strike_206 : decode cX10_strike 206 = .ok (.iload 9, 2) := by decide +kernel
theorem dX10_strike_208 : decode cX10_strike 208 = .ok (.iconst 1, 1) := by decide +kernel
theorem dX10_strike_209 : decode cX10_strike 209 = .ok (.isub, 1) := by decide +kernel
theorem dX10_strike_210 : decode cX10_strike 210 = .ok (.imul, 1) := by decide +kernel
theorem dX10_strike_211 : decode cX10_strike 211 = .ok (.iadd, 1) := by decide +kernel
theorem dX10_strike_212 : decode cX10_strike 212 = .ok (.iload 10, 2) := by decide +kernel
theorem dX10_strike_214 : decode cX10_strike 214 = .ok (.iadd, 1) := by decide +kernel
theorem dX10_strike_215 : decode cX10_strike 215 = .ok (.iaload, 1) := by decide +kernel
theorem dX10_strike_216 : decode cX10_strike 216 = .ok (.iastore, 1) := by decide +kernel
theorem dX10_strike_217 : decode cX10_strike 217 = .ok (.iinc 10 1, 3) := by decide +kernel
theorem dX10_strike_220 : decode cX10_strike 220 = .ok (.goto (-45), 3) := by decide +kernel
theorem dX10_strike_223 : decode cX10_strike 223 = .ok (.iinc 9 (-1), 3) := by decide +kernel
theorem dX10_strike_226 : decode cX10_strike 226 = .ok (.goto (-59), 3) := by decide +kernel
theorem dX10_strike_229 : decode cX10_strike 229 = .ok (.aload_n 0, 1) := by decide +kernel
theorem dX10_strike_230 : decode cX10_strike 230 = .ok (.getfield 13, 3) := by decide +kernel
theorem dX10_strike_233 : decode cX10_strike 233 = .ok (.iload 6, 2) := by decide +kernel
theorem dX10_strike_235 : decode cX10_strike 235 = .ok (.iconst 4, 1) := by decide +kernel
theorem dX10_strike_236 : decode cX10_strike 236 = .ok (.iadd, 1) := by decide +kernel
theorem dX10_strike_237 : decode cX10_strike 237 = .ok (.iload_n 2, 1) := by decide +kernel
theorem dX10_strike_238 : decode cX10_strike 238 = .ok (.iastore, 1) := by decide +kernel
theorem dX10_strike_239 : decode cX10_strike 239 = .ok (.aload_n 0, 1) := by decide +kernel
theorem dX10_strike_240 : decode cX10_strike 240 = .ok (.getfield 13, 3) := by decide +kernel
theorem dX10_strike_243 : decode cX10_strike 243 = .ok (.iload 6, 2) := by decide +kernel
theorem dX10_strike_245 : decode cX10_strike 245 = .ok (.iconst 4, 1) := by decide +kernel
theorem dX10_strike_246 : decode cX10_strike 246 = .ok (.iadd, 1) := by decide +kernel
theorem dX10_strike_247 : decode cX10_strike 247 = .ok (.iconst 1, 1) := by decide +kernel
theorem dX10_strike_248 : decode cX10_strike 248 = .ok (.iadd, 1) := by decide +kernel
theorem dX10_strike_249 : decode cX10_strike 249 = .ok (.bipush 9, 2) := by decide +kernel
theorem dX10_strike_251 : decode cX10_strike 251 = .ok (.iastore, 1) := by decide +kernel
theorem dX10_strike_252 : decode cX10_strike 252 = .ok (.aload_n 0, 1) := by decide +kernel
theorem dX10_strike_253 : decode cX10_strike 253 = .ok (.getfield 13, 3) := by decide +kernel
theorem dX10_strike_256 : decode cX10_strike 256 = .ok (.iload 6, 2) := by decide +kernel
theorem dX10_strike_258 : decode cX10_strike 258 = .ok (.iconst 4, 1) := by decide +kernel
theorem dX10_strike_259 : decode cX10_strike 259 = .ok (.iadd, 1) := by decide +kernel
theorem dX10_strike_260 : decode cX10_strike 260 = .ok (.iconst 2, 1) := by decide +kernel
theorem dX10_strike_261 : decode cX10_strike 261 = .ok (.iadd, 1) := by decide +kernel
theorem dX10_strike_262 : decode cX10_strike 262 = .ok (.aload_n 0, 1) := by decide +kernel
theorem dX10_strike_263 : decode cX10_strike 263 = .ok (.getfield 13, 3) := by decide +kernel
theorem dX10_strike_266 : decode cX10_strike 266 = .ok (.bipush 112, 2) := by decide +kernel
theorem dX10_strike_268 : decode cX10_strike 268 = .ok (.iaload, 1) := by decide +kernel
theorem dX10_strike_269 : decode cX10_strike 269 = .ok (.iastore, 1) := by decide +kernel
theorem dX10_strike_270 : decode cX10_strike 270 = .ok (.aload_n 0, 1) := by decide +kernel
theorem dX10_strike_271 : decode cX10_strike 271 = .ok (.getfield 13, 3) := by decide +kernel
theorem dX10_strike_274 : decode cX10_strike 274 = .ok (.iload 6, 2) := by decide +kernel
theorem dX10_strike_276 : decode cX10_strike 276 = .ok (.iconst 3, 1) := by decide +kernel
theorem dX10_strike_277 : decode cX10_strike 277 = .ok (.iadd, 1) := by decide +kernel
theorem dX10_strike_278 : decode cX10_strike 278 = .ok (.iload 8, 2) := by decide +kernel
theorem dX10_strike_280 : decode cX10_strike 280 = .ok (.iconst 1, 1) := by decide +kernel
theorem dX10_strike_281 : decode cX10_strike 281 = .ok (.iadd, 1) := by decide +kernel
theorem dX10_strike_282 : decode cX10_strike 282 = .ok (.iastore, 1) := by decide +kernel
theorem dX10_strike_283 : decode cX10_strike 283 = .ok (.aload_n 0, 1) := by decide +kernel
theorem dX10_strike_284 : decode cX10_strike 284 = .ok (.getfield 13, 3) := by decide +kernel
theorem dX10_strike_287 : decode cX10_strike 287 = .ok (.iload 6, 2) := by decide +kernel
theorem dX10_strike_289 : decode cX10_strike 289 = .ok (.iconst 2, 1) := by decide +kernel
theorem dX10_strike_290 : decode cX10_strike 290 = .ok (.iadd, 1) := by decide +kernel
theorem dX10_strike_291 : decode cX10_strike 291 = .ok (.dup2, 1) := by decide +kernel
theorem dX10_strike_292 : decode cX10_strike 292 = .ok (.iaload, 1) := by decide +kernel
theorem dX10_strike_293 : decode cX10_strike 293 = .ok (.iconst 1, 1) := by decide +kernel
theorem dX10_strike_294 : decode cX10_strike 294 = .ok (.iadd, 1) := by decide +kernel
theorem dX10_strike_295 : decode cX10_strike 295 = .ok (.iastore, 1) := by decide +kernel
theorem dX10_strike_296 : decode cX10_strike 296 = .ok (.sipush 1400, 3) := by decide +kernel
theorem dX10_strike_299 : decode cX10_strike 299 = .ok (.bipush 6, 2) := by decide +kernel
theorem dX10_strike_301 : decode cX10_strike 301 = .ok (.aload_n 0, 1) := by decide +kernel
theorem dX10_strike_302 : decode cX10_strike 302 = .ok (.getfield 13, 3) := by decide +kernel
theorem dX10_strike_305 : decode cX10_strike 305 = .ok (.bipush 112, 2) := by decide +kernel
theorem dX10_strike_307 : decode cX10_strike 307 = .ok (.iaload, 1) := by decide +kernel
theorem dX10_strike_308 : decode cX10_strike 308 = .ok (.imul, 1) := by decide +kernel
theorem dX10_strike_309 : decode cX10_strike 309 = .ok (.iadd, 1) := by decide +kernel
theorem dX10_strike_310 : decode cX10_strike 310 = .ok (.istore 9, 2) := by decide +kernel
theorem dX10_strike_312 : decode cX10_strike 312 = .ok (.aload_n 0, 1) := by decide +kernel
theorem dX10_strike_313 : decode cX10_strike 313 = .ok (.getfield 13, 3) := by decide +kernel
theorem dX10_strike_316 : decode cX10_strike 316 = .ok (.iload 9, 2) := by decide +kernel
theorem dX10_strike_318 : decode cX10_strike 318 = .ok (.iload_n 1, 1) := by decide +kernel
theorem dX10_strike_319 : decode cX10_strike 319 = .ok (.iastore, 1) := by decide +kernel
theorem dX10_strike_320 : decode cX10_strike 320 = .ok (.aload_n 0, 1) := by decide +kernel
theorem dX10_strike_321 : decode cX10_strike 321 = .ok (.getfield 13, 3) := by decide +kernel
theorem dX10_strike_324 : decode cX10_strike 324 = .ok (.iload 9, 2) := by decide +kernel
theorem dX10_strike_326 : decode cX10_strike 326 = .ok (.iconst 1, 1) := by decide +kernel
theorem dX10_strike_327 : decode cX10_strike 327 = .ok (.iadd, 1) := by decide +kernel
theorem dX10_strike_328 : decode cX10_strike 328 = .ok (.iload_n 2, 1) := by decide +kernel
theorem dX10_strike_329 : decode cX10_strike 329 = .ok (.iastore, 1) := by decide +kernel
theorem dX10_strike_330 : decode cX10_strike 330 = .ok (.aload_n 0, 1) := by decide +kernel
theorem dX10_strike_331 : decode cX10_strike 331 = .ok (.getfield 13, 3) := by decide +kernel
theorem dX10_strike_334 : decode cX10_strike 334 = .ok (.iload 9, 2) := by decide +kernel
theorem dX10_strike_336 : decode cX10_strike 336 = .ok (.iconst 2, 1) := by decide +kernel
theorem dX10_strike_337 : decode cX10_strike 337 = .ok (.iadd, 1) := by decide +kernel
theorem dX10_strike_338 : decode cX10_strike 338 = .ok (.iload_n 3, 1) := by decide +kernel
theorem dX10_strike_339 : decode cX10_strike 339 = .ok (.iastore, 1) := by decide +kernel
theorem dX10_strike_340 : decode cX10_strike 340 = .ok (.aload_n 0, 1) := by decide +kernel
theorem dX10_strike_341 : decode cX10_strike 341 = .ok (.getfield 13, 3) := by decide +kernel
theorem dX10_strike_344 : decode cX10_strike 344 = .ok (.iload 9, 2) := by decide +kernel
theorem dX10_strike_346 : decode cX10_strike 346 = .ok (.iconst 3, 1) := by decide +kernel
theorem dX10_strike_347 : decode cX10_strike 347 = .ok (.iadd, 1) := by decide +kernel
theorem dX10_strike_348 : decode cX10_strike 348 = .ok (.aload_n 0, 1) := by decide +kernel
theorem dX10_strike_349 : decode cX10_strike 349 = .ok (.getfield 13, 3) := by decide +kernel
theorem dX10_strike_352 : decode cX10_strike 352 = .ok (.bipush 109, 2) := by decide +kernel
theorem dX10_strike_354 : decode cX10_strike 354 = .ok (.iaload, 1) := by decide +kernel
theorem dX10_strike_355 : decode cX10_strike 355 = .ok (.iastore, 1) := by decide +kernel
theorem dX10_strike_356 : decode cX10_strike 356 = .ok (.aload_n 0, 1) := by decide +kernel
theorem dX10_strike_357 : decode cX10_strike 357 = .ok (.getfield 13, 3) := by decide +kernel
theorem dX10_strike_360 : decode cX10_strike 360 = .ok (.iload 9, 2) := by decide +kernel
theorem dX10_strike_362 : decode cX10_strike 362 = .ok (.iconst 4, 1) := by decide +kernel
theorem dX10_strike_363 : decode cX10_strike 363 = .ok (.iadd, 1) := by decide +kernel
theorem dX10_strike_364 : decode cX10_strike 364 = .ok (.iload 4, 2) := by decide +kernel
theorem dX10_strike_366 : decode cX10_strike 366 = .ok (.iastore, 1) := by decide +kernel
theorem dX10_strike_367 : decode cX10_strike 367 = .ok (.aload_n 0, 1) := by decide +kernel
theorem dX10_strike_368 : decode cX10_strike 368 = .ok (.getfield 13, 3) := by decide +kernel
theorem dX10_strike_371 : decode cX10_strike 371 = .ok (.iload 9, 2) := by decide +kernel
theorem dX10_strike_373 : decode cX10_strike 373 = .ok (.iconst 5, 1) := by decide +kernel
theorem dX10_strike_374 : decode cX10_strike 374 = .ok (.iadd, 1) := by decide +kernel
theorem dX10_strike_375 : decode cX10_strike 375 = .ok (.iload 5, 2) := by decide +kernel
theorem dX10_strike_377 : decode cX10_strike 377 = .ok (.iastore, 1) := by decide +kernel
theorem dX10_strike_378 : decode cX10_strike 378 = .ok (.aload_n 0, 1) := by decide +kernel
theorem dX10_strike_379 : decode cX10_strike 379 = .ok (.getfield 13, 3) := by decide +kernel
theorem dX10_strike_382 : decode cX10_strike 382 = .ok (.bipush 112, 2) := by decide +kernel
theorem dX10_strike_384 : decode cX10_strike 384 = .ok (.dup2, 1) := by decide +kernel
theorem dX10_strike_385 : decode cX10_strike 385 = .ok (.iaload, 1) := by decide +kernel
theorem dX10_strike_386 : decode cX10_strike 386 = .ok (.iconst 1, 1) := by decide +kernel
theorem dX10_strike_387 : decode cX10_strike 387 = .ok (.iadd, 1) := by decide +kernel
theorem dX10_strike_388 : decode cX10_strike 388 = .ok (.iastore, 1) := by decide +kernel
theorem dX10_strike_389 : decode cX10_strike 389 = .ok (.return_, 1) := by decide +kernel
theorem dX10_snap_0 : decode cX10_snap 0 = .ok (.aload_n 0, 1) := by decide +kernel
theorem dX10_snap_1 : decode cX10_snap 1 = .ok (.getfield 240, 3) := by decide +kernel
theorem dX10_snap_4 : decode cX10_snap 4 = .ok (.bipush 6, 2) := by decide +kernel
theorem dX10_snap_6 : decode cX10_snap 6 = .ok (.if_icmp .ne 45, 3) := by decide +kernel
theorem dX10_snap_9 : decode cX10_snap 9 = .ok (.sipush 7900, 3) := by decide +kernel
theorem dX10_snap_12 : decode cX10_snap 12 = .ok (.istore_n 1, 1) := by decide +kernel
theorem dX10_snap_13 : decode cX10_snap 13 = .ok (.iload_n 1, 1) := by decide +kernel
theorem dX10_snap_14 : decode cX10_snap 14 = .ok (.ldc 22, 2) := by decide +kernel
theorem dX10_snap_16 : decode cX10_snap 16 = .ok (.if_icmp .ge 25, 3) := by decide +kernel
theorem dX10_snap_19 : decode cX10_snap 19 = .ok (.aload_n 0, 1) := by decide +kernel
theorem dX10_snap_20 : decode cX10_snap 20 = .ok (.getfield 23, 3) := by decide +kernel
theorem dX10_snap_23 : decode cX10_snap 23 = .ok (.iload_n 1, 1) := by decide +kernel
theorem dX10_snap_24 : decode cX10_snap 24 = .ok (.sipush 7900, 3) := by decide +kernel
theorem dX10_snap_27 : decode cX10_snap 27 = .ok (.isub, 1) := by decide +kernel
theorem dX10_snap_28 : decode cX10_snap 28 = .ok (.aload_n 0, 1) := by decide +kernel
theorem dX10_snap_29 : decode cX10_snap 29 = .ok (.getfield 23, 3) := by decide +kernel
theorem dX10_snap_32 : decode cX10_snap 32 = .ok (.iload_n 1, 1) := by decide +kernel
theorem dX10_snap_33 : decode cX10_snap 33 = .ok (.iaload, 1) := by decide +kernel
theorem dX10_snap_34 : decode cX10_snap 34 = .ok (.iastore, 1) := by decide +kernel
theorem dX10_snap_35 : decode cX10_snap 35 = .ok (.iinc 1 1, 3) := by decide +kernel
theorem dX10_snap_38 : decode cX10_snap 38 = .ok (.goto (-25), 3) := by decide +kernel
theorem dX10_snap_41 : decode cX10_snap 41 = .ok (.aload_n 0, 1) := by decide +kernel
theorem dX10_snap_42 : decode cX10_snap 42 = .ok (.dup, 1) := by decide +kernel
theorem dX10_snap_43 : decode cX10_snap 43 = .ok (.getfield 240, 3) := by decide +kernel
theorem dX10_snap_46 : decode cX10_snap 46 = .ok (.iconst 1, 1) := by decide +kernel
theorem dX10_snap_47 : decode cX10_snap 47 = .ok (.isub, 1) := by decide +kernel
theorem dX10_snap_48 : decode cX10_snap 48 = .ok (.putfield 240, 3) := by decide +kernel
theorem dX10_snap_51 : decode cX10_snap 51 = .ok (.iconst 0, 1) := by decide +kernel
theorem dX10_snap_52 : decode cX10_snap 52 = .ok (.istore_n 1, 1) := by decide +kernel
theorem dX10_snap_53 : decode cX10_snap 53 = .ok (.iload_n 1, 1) := by decide +kernel
theorem dX10_snap_54 : decode cX10_snap 54 = .ok (.sipush 7900, 3) := by decide +kernel
theorem dX10_snap_57 : decode cX10_snap 57 = .ok (.if_icmp .ge 30, 3) := by decide +kernel
theorem dX10_snap_60 : decode cX10_snap 60 = .ok (.aload_n 0, 1) := by decide +kernel
theorem dX10_snap_61 : decode cX10_snap 61 = .ok (.getfield 23, 3) := by decide +kernel
theorem dX10_snap_64 : decode cX10_snap 64 = .ok (.sipush 7900, 3) := by decide +kernel
theorem dX10_snap_67 : decode cX10_snap 67 = .ok (.aload_n 0, 1) := by decide +kernel
theorem dX10_snap_68 : decode cX10_snap 68 = .ok (.getfield 240, 3) := by decide +kernel
theorem dX10_snap_71 : decode cX10_snap 71 = .ok (.imul, 1) := by decide +kernel
theorem dX10_snap_72 : decode cX10_snap 72 = .ok (.iload_n 1, 1) := by decide +kernel
theorem dX10_snap_73 : decode cX10_snap 73 = .ok (.iadd, 1) := by decide +kernel
theorem dX10_snap_74 : decode cX10_snap 74 = .ok (.aload_n 0, 1) := by decide +kernel
theorem dX10_snap_75 : decode cX10_snap 75 = .ok (.getfield 13, 3) := by decide +kernel
theorem dX10_snap_78 : decode cX10_snap 78 = .ok (.iload_n 1, 1) := by decide +kernel
theorem dX10_snap_79 : decode cX10_snap 79 = .ok (.iaload, 1) := by decide +kernel
theorem dX10_snap_80 : decode cX10_snap 80 = .ok (.iastore, 1) := by decide +kernel
theorem dX10_snap_81 : decode cX10_snap 81 = .ok (.iinc 1 1, 3) := by decide +kernel
theorem dX10_snap_84 : decode cX10_snap 84 = .ok (.goto (-31), 3) := by decide +kernel
theorem dX10_snap_87 : decode cX10_snap 87 = .ok (.aload_n 0, 1) := by decide +kernel
theorem dX10_snap_88 : decode cX10_snap 88 = .ok (.dup, 1) := by decide +kernel
theorem dX10_snap_89 : decode cX10_snap 89 = .ok (.getfield 240, 3) := by decide +kernel
theorem dX10_snap_92 : decode cX10_snap 92 = .ok (.iconst 1, 1) := by decide +kernel
theorem dX10_snap_93 : decode cX10_snap 93 = .ok (.iadd, 1) := by decide +kernel
theorem dX10_snap_94 : decode cX10_snap 94 = .ok (.putfield 240, 3) := by decide +kernel
theorem dX10_snap_97 : decode cX10_snap 97 = .ok (.return_, 1) := by decide +kernel
theorem dX10_isFull_0 : decode cX10_isFull 0 = .ok (.aload_n 0, 1) := by decide +kernel
theorem dX10_isFull_1 : decode cX10_isFull 1 = .ok (.getfield 13, 3) := by decide +kernel
theorem dX10_isFull_4 : decode cX10_isFull 4 = .ok (.bipush 112, 2) := by decide +kernel
theorem dX10_isFull_6 : decode cX10_isFull 6 = .ok (.iaload, 1) := by decide +kernel
theorem dX10_isFull_7 : decode cX10_isFull 7 = .ok (.iload_n 1, 1) := by decide +kernel
theorem dX10_isFull_8 : decode cX10_isFull 8 = .ok (.iadd, 1) := by decide +kernel
theorem dX10_isFull_9 : decode cX10_isFull 9 = .ok (.sipush 500, 3) := by decide +kernel
theorem dX10_isFull_12 : decode cX10_isFull 12 = .ok (.if_icmp .le 7, 3) := by decide +kernel
theorem dX10_isFull_15 : decode cX10_isFull 15 = .ok (.iconst 1, 1) := by decide +kernel
theorem dX10_isFull_16 : decode cX10_isFull 16 = .ok (.goto 4, 3) := by decide +kernel
theorem dX10_isFull_19 : decode cX10_isFull 19 = .ok (.iconst 0, 1) := by decide +kernel
theorem dX10_isFull_20 : decode cX10_isFull 20 = .ok (.ireturn, 1) := by decide +kernel
theorem dX10_coin_0 : decode cX10_coin 0 = .ok (.aload_n 0, 1) := by decide +kernel
theorem dX10_coin_1 : decode cX10_coin 1 = .ok (.iconst 0, 1) := by decide +kernel
theorem dX10_coin_2 : decode cX10_coin 2 = .ok (.putfield 83, 3) := by decide +kernel
theorem dX10_coin_5 : decode cX10_coin 5 = .ok (.aload_n 0, 1) := by decide +kernel
theorem dX10_coin_6 : decode cX10_coin 6 = .ok (.invokevirtual 167, 3) := by decide +kernel
theorem dX10_coin_9 : decode cX10_coin 9 = .ok (.aload_n 0, 1) := by decide +kernel
theorem dX10_coin_10 : decode cX10_coin 10 = .ok (.iload_n 1, 1) := by decide +kernel
theorem dX10_coin_11 : decode cX10_coin 11 = .ok (.invokevirtual 243, 3) := by decide +kernel
theorem dX10_coin_14 : decode cX10_coin 14 = .ok (.ifCond .eq 58, 3) := by decide +kernel
theorem dX10_coin_17 : decode cX10_coin 17 = .ok (.aload_n 0, 1) := by decide +kernel
theorem dX10_coin_18 : decode cX10_coin 18 = .ok (.iload_n 1, 1) := by decide +kernel
theorem dX10_coin_19 : decode cX10_coin 19 = .ok (.iconst 2, 1) := by decide +kernel
theorem dX10_coin_20 : decode cX10_coin 20 = .ok (.invokevirtual 249, 3) := by decide +kernel
theorem dX10_coin_23 : decode cX10_coin 23 = .ok (.ifCond .gt 49, 3) := by decide +kernel
theorem dX10_coin_26 : decode cX10_coin 26 = .ok (.iload_n 2, 1) := by decide +kernel
theorem dX10_coin_27 : decode cX10_coin 27 = .ok (.iconst 1, 1) := by decide +kernel
theorem dX10_coin_28 : decode cX10_coin 28 = .ok (.sipush 9999, 3) := by decide +kernel
theorem dX10_coin_31 : decode cX10_coin 31 = .ok (.invokestatic 154, 3) := by decide +kernel
theorem dX10_coin_34 : decode cX10_coin 34 = .ok (.ifCond .eq 38, 3) := by decide +kernel
theorem dX10_coin_37 : decode cX10_coin 37 = .ok (.aload_n 0, 1) := by decide +kernel
theorem dX10_coin_38 : decode cX10_coin 38 = .ok (.iload_n 3, 1) := by decide +kernel
theorem dX10_coin_39 : decode cX10_coin 39 = .ok (.invokevirtual 259, 3) := by decide +kernel
theorem dX10_coin_42 : decode cX10_coin 42 = .ok (.ifCond .eq 30, 3) := by decide +kernel
theorem dX10_coin_45 : decode cX10_coin 45 = .ok (.aload_n 0, 1) := by decide +kernel
theorem dX10_coin_46 : decode cX10_coin 46 = .ok (.invokevirtual 188, 3) := by decide +kernel
theorem dX10_coin_49 : decode cX10_coin 49 = .ok (.bipush 40, 2) := by decide +kernel
theorem dX10_coin_51 : decode cX10_coin 51 = .ok (.if_icmp .eq 21, 3) := by decide +kernel
theorem dX10_coin_54 : decode cX10_coin 54 = .ok (.aload_n 0, 1) := by decide +kernel
theorem dX10_coin_55 : decode cX10_coin 55 = .ok (.iconst 1, 1) := by decide +kernel
theorem dX10_coin_56 : decode cX10_coin 56 = .ok (.invokevirtual 269, 3) := by decide +kernel
theorem dX10_coin_59 : decode cX10_coin 59 = .ok (.ifCond .ne 13, 3) := by decide +kernel
theorem dX10_coin_62 : decode cX10_coin 62 = .ok (.aload_n 0, 1) := by decide +kernel
theorem dX10_coin_63 : decode cX10_coin 63 = .ok (.iload_n 2, 1) := by decide +kernel
theorem dX10_coin_64 : decode cX10_coin 64 = .ok (.iconst 0, 1) := by decide +kernel
theorem dX10_coin_65 : decode cX10_coin 65 = .ok (.iload_n 3, 1) := by decide +kernel
theorem dX10_coin_66 : decode cX10_coin 66 = .ok (.invokevirtual 265, 3) := by decide +kernel
theorem dX10_coin_69 : decode cX10_coin 69 = .ok (.ifCond .eq 5, 3) := by decide +kernel
theorem dX10_coin_72 : decode cX10_coin 72 = .ok (.iconst (-1), 1) := by decide +kernel
theorem dX10_coin_73 : decode cX10_coin 73 = .ok (.ireturn, 1) := by decide +kernel
theorem dX10_coin_74 : decode cX10_coin 74 = .ok (.aload_n 0, 1) := by decide +kernel
theorem dX10_coin_75 : decode cX10_coin 75 = .ok (.invokevirtual 272, 3) := by decide +kernel
theorem dX10_coin_78 : decode cX10_coin 78 = .ok (.aload_n 0, 1) := by decide +kernel
theorem dX10_coin_79 : decode cX10_coin 79 = .ok (.invokevirtual 188, 3) := by decide +kernel
theorem dX10_coin_82 : decode cX10_coin 82 = .ok (.istore 4, 2) := by decide +kernel
theorem dX10_coin_84 : decode cX10_coin 84 = .ok (.bipush 120, 2) := by decide +kernel
theorem dX10_coin_86 : decode cX10_coin 86 = .ok (.bipush 32, 2) := by decide +kernel
theorem dX10_coin_88 : decode cX10_coin 88 = .ok (.iload 4, 2) := by decide +kernel
theorem dX10_coin_90 : decode cX10_coin 90 = .ok (.imul, 1) := by decide +kernel
theorem dX10_coin_91 : decode cX10_coin 91 = .ok (.iadd, 1) := by decide +kernel
theorem dX10_coin_92 : decode cX10_coin 92 = .ok (.istore 5, 2) := by decide +kernel
theorem dX10_coin_94 : decode cX10_coin 94 = .ok (.iconst 0, 1) := by decide +kernel
theorem dX10_coin_95 : decode cX10_coin 95 = .ok (.istore 6, 2) := by decide +kernel
theorem dX10_coin_97 : decode cX10_coin 97 = .ok (.iload 6, 2) := by decide +kernel
theorem dX10_coin_99 : decode cX10_coin 99 = .ok (.bipush 32, 2) := by decide +kernel
theorem dX10_coin_101 : decode cX10_coin 101 = .ok (.if_icmp .ge 20, 3) := by decide +kernel
theorem dX10_coin_104 : decode cX10_coin 104 = .ok (.aload_n 0, 1) := by decide +kernel
theorem dX10_coin_105 : decode cX10_coin 105 = .ok (.getfield 13, 3) := by decide +kernel
theorem dX10_coin_108 : decode cX10_coin 108 = .ok (.iload 5, 2) := by decide +kernel
theorem dX10_coin_110 : decode cX10_coin 110 = .ok (.iload 6, 2) := by decide +kernel
theorem dX10_coin_112 : decode cX10_coin 112 = .ok (.iadd, 1) := by decide +kernel
theorem dX10_coin_113 : decode cX10_coin 113 = .ok (.iconst 0, 1) := by decide +kernel
theorem dX10_coin_114 : decode cX10_coin 114 = .ok (.iastore, 1) := by decide +kernel
theorem dX10_coin_115 : decode cX10_coin 115 = .ok (.iinc 6 1, 3) := by decide +kernel
theorem dX10_coin_118 : decode cX10_coin 118 = .ok (.goto (-21), 3) := by decide +kernel
theorem dX10_coin_121 : decode cX10_coin 121 = .ok (.aload_n 0, 1) := by decide +kernel
theorem dX10_coin_122 : decode cX10_coin 122 = .ok (.getfield 13, 3) := by decide +kernel
theorem dX10_coin_125 : decode cX10_coin 125 = .ok (.iload 5, 2) := by decide +kernel
theorem dX10_coin_127 : decode cX10_coin 127 = .ok (.iconst 0, 1) := by decide +kernel
theorem dX10_coin_128 : decode cX10_coin 128 = .ok (.iadd, 1) := by decide +kernel
theorem dX10_coin_129 : decode cX10_coin 129 = .ok (.iload_n 2, 1) := by decide +kernel
theorem dX10_coin_130 : decode cX10_coin 130 = .ok (.iastore, 1) := by decide +kernel
theorem dX10_coin_131 : decode cX10_coin 131 = .ok (.aload_n 0, 1) := by decide +kernel
theorem dX10_coin_132 : decode cX10_coin 132 = .ok (.getfield 13, 3) := by decide +kernel
theorem dX10_coin_135 : decode cX10_coin 135 = .ok (.iload 5, 2) := by decide +kernel
theorem dX10_coin_137 : decode cX10_coin 137 = .ok (.iconst 1, 1) := by decide +kernel
theorem dX10_coin_138 : decode cX10_coin 138 = .ok (.iadd, 1) := by decide +kernel
theorem dX10_coin_139 : decode cX10_coin 139 = .ok (.iload_n 1, 1) := by decide +kernel
theorem dX10_coin_140 : decode cX10_coin 140 = .ok (.iastore, 1) := by decide +kernel
theorem dX10_coin_141 : decode cX10_coin 141 = .ok (.aload_n 0, 1) := by decide +kernel
theorem dX10_coin_142 : decode cX10_coin 142 = .ok (.getfield 13, 3) := by decide +kernel
theorem dX10_coin_145 : decode cX10_coin 145 = .ok (.bipush 108, 2) := by decide +kernel
theorem dX10_coin_147 : decode cX10_coin 147 = .ok (.dup2, 1) := by decide +kernel
theorem dX10_coin_148 : decode cX10_coin 148 = .ok (.iaload, 1) := by decide +kernel
theorem dX10_coin_149 : decode cX10_coin 149 = .ok (.iconst 1, 1) := by decide +kernel
theorem dX10_coin_150 : decode cX10_coin 150 = .ok (.iadd, 1) := by decide +kernel
theorem dX10_coin_151 : decode cX10_coin 151 = .ok (.iastore, 1) := by decide +kernel
theorem dX10_coin_152 : decode cX10_coin 152 = .ok (.aload_n 0, 1) := by decide +kernel
theorem dX10_coin_153 : decode cX10_coin 153 = .ok (.getfield 13, 3) := by decide +kernel
theorem dX10_coin_156 : decode cX10_coin 156 = .ok (.bipush 114, 2) := by decide +kernel
theorem dX10_coin_158 : decode cX10_coin 158 = .ok (.dup2, 1) := by decide +kernel
theorem dX10_coin_159 : decode cX10_coin 159 = .ok (.iaload, 1) := by decide +kernel
theorem dX10_coin_160 : decode cX10_coin 160 = .ok (.iload_n 2, 1) := by decide +kernel
theorem dX10_coin_161 : decode cX10_coin 161 = .ok (.iadd, 1) := by decide +kernel
theorem dX10_coin_162 : decode cX10_coin 162 = .ok (.iastore, 1) := by decide +kernel
theorem dX10_coin_163 : decode cX10_coin 163 = .ok (.aload_n 0, 1) := by decide +kernel
theorem dX10_coin_164 : decode cX10_coin 164 = .ok (.iload 4, 2) := by decide +kernel
theorem dX10_coin_166 : decode cX10_coin 166 = .ok (.iload_n 1, 1) := by decide +kernel
theorem dX10_coin_167 : decode cX10_coin 167 = .ok (.iload_n 3, 1) := by decide +kernel
theorem dX10_coin_168 : decode cX10_coin 168 = .ok (.iconst (-1), 1) := by decide +kernel
theorem dX10_coin_169 : decode cX10_coin 169 = .ok (.iconst 0, 1) := by decide +kernel
theorem dX10_coin_170 : decode cX10_coin 170 = .ok (.invokevirtual 275, 3) := by decide +kernel
theorem dX10_coin_173 : decode cX10_coin 173 = .ok (.iload 4, 2) := by decide +kernel
theorem dX10_coin_175 : decode cX10_coin 175 = .ok (.ireturn, 1) := by decide +kernel
theorem dX10_faceFalse_0 : decode cX10_faceFalse 0 = .ok (.aload_n 0, 1) := by decide +kernel
theorem dX10_faceFalse_1 : decode cX10_faceFalse 1 = .ok (.getfield 13, 3) := by decide +kernel
theorem dX10_faceFalse_4 : decode cX10_faceFalse 4 = .ok (.sipush 1400, 3) := by decide +kernel
theorem dX10_faceFalse_7 : decode cX10_faceFalse 7 = .ok (.bipush 6, 2) := by decide +kernel
theorem dX10_faceFalse_9 : decode cX10_faceFalse 9 = .ok (.aload_n 0, 1) := by decide +kernel
theorem dX10_faceFalse_10 : decode cX10_faceFalse 10 = .ok (.iload_n 1, 1) := by decide +kernel
theorem dX10_faceFalse_11 : decode cX10_faceFalse 11 = .ok (.iconst 4, 1) := by decide +kernel
theorem dX10_faceFalse_12 : decode cX10_faceFalse 12 = .ok (.iconst 3, 1) := by decide +kernel
theorem dX10_faceFalse_13 : decode cX10_faceFalse 13 = .ok (.iload_n 2, 1) := by decide +kernel
theorem dX10_faceFalse_14 : decode cX10_faceFalse 14 = .ok (.imul, 1) := by decide +kernel
theorem dX10_faceFalse_15 : decode cX10_faceFalse 15 = .ok (.iadd, 1) := by decide +kernel
theorem dX10_faceFalse_16 : decode cX10_faceFalse 16 = .ok (.iconst 2, 1) := by decide +kernel
theorem dX10_faceFalse_17 : decode cX10_faceFalse 17 = .ok (.iadd, 1) := by decide +kernel
theorem dX10_faceFalse_18 : decode cX10_faceFalse 18 = .ok (.invokevirtual 256, 3) := by decide +kernel
theorem dX10_faceFalse_21 : decode cX10_faceFalse 21 = .ok (.imul, 1) := by decide +kernel
theorem dX10_faceFalse_22 : decode cX10_faceFalse 22 = .ok (.iadd, 1) := by decide +kernel
theorem dX10_faceFalse_23 : decode cX10_faceFalse 23 = .ok (.iconst 5, 1) := by decide +kernel
theorem dX10_faceFalse_24 : decode cX10_faceFalse 24 = .ok (.iadd, 1) := by decide +kernel
theorem dX10_faceFalse_25 : decode cX10_faceFalse 25 = .ok (.iaload, 1) := by decide +kernel
theorem dX10_faceFalse_26 : decode cX10_faceFalse 26 = .ok (.ireturn, 1) := by decide +kernel
theorem dX10_showsFalse_0 : decode cX10_showsFalse 0 = .ok (.iconst 0, 1) := by decide +kernel
theorem dX10_showsFalse_1 : decode cX10_showsFalse 1 = .ok (.istore_n 2, 1) := by decide +kernel
theorem dX10_showsFalse_2 : decode cX10_showsFalse 2 = .ok (.iconst 0, 1) := by decide +kernel
theorem dX10_showsFalse_3 : decode cX10_showsFalse 3 = .ok (.istore_n 3, 1) := by decide +kernel
theorem dX10_showsFalse_4 : decode cX10_showsFalse 4 = .ok (.iload_n 3, 1) := by decide +kernel
theorem dX10_showsFalse_5 : decode cX10_showsFalse 5 = .ok (.aload_n 0, 1) := by decide +kernel
theorem dX10_showsFalse_6 : decode cX10_showsFalse 6 = .ok (.iload_n 1, 1) := by decide +kernel
theorem dX10_showsFalse_7 : decode cX10_showsFalse 7 = .ok (.iconst 3, 1) := by decide +kernel
theorem dX10_showsFalse_8 : decode cX10_showsFalse 8 = .ok (.invokevirtual 256, 3) := by decide +kernel
theorem dX10_showsFalse_11 : decode cX10_showsFalse 11 = .ok (.if_icmp .ge 18, 3) := by decide +kernel
theorem dX10_showsFalse_14 : decode cX10_showsFalse 14 = .ok (.iload_n 2, 1) := by decide +kernel
theorem dX10_showsFalse_15 : decode cX10_showsFalse 15 = .ok (.aload_n 0, 1) := by decide +kernel
theorem dX10_showsFalse_16 : decode cX10_showsFalse 16 = .ok (.iload_n 1, 1) := by decide +kernel
theorem dX10_showsFalse_17 : decode cX10_showsFalse 17 = .ok (.iload_n 3, 1) := by decide +kernel
theorem dX10_showsFalse_18 : decode cX10_showsFalse 18 = .ok (.invokevirtual 279, 3) := by decide +kernel
theorem dX10_showsFalse_21 : decode cX10_showsFalse 21 = .ok (.ior, 1) := by decide +kernel
theorem dX10_showsFalse_22 : decode cX10_showsFalse 22 = .ok (.istore_n 2, 1) := by decide +kernel
theorem dX10_showsFalse_23 : decode cX10_showsFalse 23 = .ok (.iinc 3 1, 3) := by decide +kernel
theorem dX10_showsFalse_26 : decode cX10_showsFalse 26 = .ok (.goto (-22), 3) := by decide +kernel
theorem dX10_showsFalse_29 : decode cX10_showsFalse 29 = .ok (.iload_n 2, 1) := by decide +kernel
theorem dX10_showsFalse_30 : decode cX10_showsFalse 30 = .ok (.ireturn, 1) := by decide +kernel
theorem dX10_of_0 : decode cX10_of 0 = .ok (.aload_n 0, 1) := by decide +kernel
theorem dX10_of_1 : decode cX10_of 1 = .ok (.invokevirtual 167, 3) := by decide +kernel
theorem dX10_of_4 : decode cX10_of 4 = .ok (.aload_n 0, 1) := by decide +kernel
theorem dX10_of_5 : decode cX10_of 5 = .ok (.iload_n 1, 1) := by decide +kernel
theorem dX10_of_6 : decode cX10_of 6 = .ok (.invokevirtual 282, 3) := by decide +kernel
theorem dX10_of_9 : decode cX10_of 9 = .ok (.ifCond .eq 12, 3) := by decide +kernel
theorem dX10_of_12 : decode cX10_of 12 = .ok (.iload_n 2, 1) := by decide +kernel
theorem dX10_of_13 : decode cX10_of 13 = .ok (.iconst 0, 1) := by decide +kernel
theorem dX10_of_14 : decode cX10_of 14 = .ok (.iconst 4, 1) := by decide +kernel
theorem dX10_of_15 : decode cX10_of 15 = .ok (.invokestatic 154, 3) := by decide +kernel
theorem dX10_of_18 : decode cX10_of 18 = .ok (.ifCond .ne 8, 3) := by decide +kernel
theorem dX10_of_21 : decode cX10_of 21 = .ok (.aload_n 0, 1) := by decide +kernel
theorem dX10_of_22 : decode cX10_of 22 = .ok (.invokevirtual 246, 3) := by decide +kernel
theorem dX10_of_25 : decode cX10_of 25 = .ok (.ireturn, 1) := by decide +kernel
theorem dX10_of_26 : decode cX10_of 26 = .ok (.aload_n 0, 1) := by decide +kernel
theorem dX10_of_27 : decode cX10_of 27 = .ok (.iconst 0, 1) := by decide +kernel
theorem dX10_of_28 : decode cX10_of 28 = .ok (.putfield 83, 3) := by decide +kernel
theorem dX10_of_31 : decode cX10_of 31 = .ok (.iload_n 2, 1) := by decide +kernel
theorem dX10_of_32 : decode cX10_of 32 = .ok (.ifCond .ne 12, 3) := by decide +kernel
theorem dX10_of_35 : decode cX10_of 35 = .ok (.aload_n 0, 1) := by decide +kernel
theorem dX10_of_36 : decode cX10_of 36 = .ok (.iload_n 1, 1) := by decide +kernel
theorem dX10_of_37 : decode cX10_of 37 = .ok (.iconst 0, 1) := by decide +kernel
theorem dX10_of_38 : decode cX10_of 38 = .ok (.invokevirtual 256, 3) := by decide +kernel
theorem dX10_of_41 : decode cX10_of 41 = .ok (.goto 50, 3) := by decide +kernel
theorem dX10_of_44 : decode cX10_of 44 = .ok (.iload_n 2, 1) := by decide +kernel
theorem dX10_of_45 : decode cX10_of 45 = .ok (.iconst 1, 1) := by decide +kernel
theorem dX10_of_46 : decode cX10_of 46 = .ok (.if_icmp .ne 12, 3) := by decide +kernel
theorem dX10_of_49 : decode cX10_of 49 = .ok (.aload_n 0, 1) := by decide +kernel
theorem dX10_of_50 : decode cX10_of 50 = .ok (.iload_n 1, 1) := by decide +kernel
theorem dX10_of_51 : decode cX10_of 51 = .ok (.iconst 1, 1) := by decide +kernel
theorem dX10_of_52 : decode cX10_of 52 = .ok (.invokevirtual 256, 3) := by decide +kernel
theorem dX10_of_55 : decode cX10_of 55 = .ok (.goto 36, 3) := by decide +kernel
theorem dX10_of_58 : decode cX10_of 58 = .ok (.iload_n 2, 1) := by decide +kernel
theorem dX10_of_59 : decode cX10_of 59 = .ok (.iconst 2, 1) := by decide +kernel
theorem dX10_of_60 : decode cX10_of 60 = .ok (.if_icmp .ne 12, 3) := by decide +kernel
theorem dX10_of_63 : decode cX10_of 63 = .ok (.aload_n 0, 1) := by decide +kernel
theorem dX10_of_64 : decode cX10_of 64 = .ok (.iload_n 1, 1) := by decide +kernel
theorem dX10_of_65 : decode cX10_of 65 = .ok (.iconst 3, 1) := by decide +kernel
theorem dX10_of_66 : decode cX10_of 66 = .ok (.invokevirtual 256, 3) := by decide +kernel
theorem dX10_of_69 : decode cX10_of 69 = .ok (.goto 22, 3) := by decide +kernel
theorem dX10_of_72 : decode cX10_of 72 = .ok (.iload_n 2, 1) := by decide +kernel
theorem dX10_of_73 : decode cX10_of 73 = .ok (.iconst 3, 1) := by decide +kernel
theorem dX10_of_74 : decode cX10_of 74 = .ok (.if_icmp .ne 12, 3) := by decide +kernel
theorem dX10_of_77 : decode cX10_of 77 = .ok (.aload_n 0, 1) := by decide +kernel
theorem dX10_of_78 : decode cX10_of 78 = .ok (.iload_n 1, 1) := by decide +kernel
theorem dX10_of_79 : decode cX10_of 79 = .ok (.iconst 2, 1) := by decide +kernel
theorem dX10_of_80 : decode cX10_of 80 = .ok (.invokevirtual 256, 3) := by decide +kernel
theorem dX10_of_83 : decode cX10_of 83 = .ok (.goto 8, 3) := by decide +kernel
theorem dX10_of_86 : decode cX10_of 86 = .ok (.aload_n 0, 1) := by decide +kernel
theorem dX10_of_87 : decode cX10_of 87 = .ok (.iload_n 1, 1) := by decide +kernel
theorem dX10_of_88 : decode cX10_of 88 = .ok (.invokevirtual 285, 3) := by decide +kernel
theorem dX10_of_91 : decode cX10_of 91 = .ok (.ireturn, 1) := by decide +kernel
theorem dX10_face_0 : decode cX10_face 0 = .ok (.aload_n 0, 1) := by decide +kernel
theorem dX10_face_1 : decode cX10_face 1 = .ok (.iconst 0, 1) := by decide +kernel
theorem dX10_face_2 : decode cX10_face 2 = .ok (.putfield 83, 3) := by decide +kernel
theorem dX10_face_5 : decode cX10_face 5 = .ok (.aload_n 0, 1) := by decide +kernel
theorem dX10_face_6 : decode cX10_face 6 = .ok (.invokevirtual 167, 3) := by decide +kernel
theorem dX10_face_9 : decode cX10_face 9 = .ok (.aload_n 0, 1) := by decide +kernel
theorem dX10_face_10 : decode cX10_face 10 = .ok (.iload_n 1, 1) := by decide +kernel
theorem dX10_face_11 : decode cX10_face 11 = .ok (.invokevirtual 282, 3) := by decide +kernel
theorem dX10_face_14 : decode cX10_face 14 = .ok (.ifCond .eq 41, 3) := by decide +kernel
theorem dX10_face_17 : decode cX10_face 17 = .ok (.iload_n 2, 1) := by decide +kernel
theorem dX10_face_18 : decode cX10_face 18 = .ok (.ifCond .lt 37, 3) := by decide +kernel
theorem dX10_face_21 : decode cX10_face 21 = .ok (.iload_n 2, 1) := by decide +kernel
theorem dX10_face_22 : decode cX10_face 22 = .ok (.aload_n 0, 1) := by decide +kernel
theorem dX10_face_23 : decode cX10_face 23 = .ok (.iload_n 1, 1) := by decide +kernel
theorem dX10_face_24 : decode cX10_face 24 = .ok (.iconst 3, 1) := by decide +kernel
theorem dX10_face_25 : decode cX10_face 25 = .ok (.invokevirtual 256, 3) := by decide +kernel
theorem dX10_face_28 : decode cX10_face 28 = .ok (.if_icmp .ge 27, 3) := by decide +kernel
theorem dX10_face_31 : decode cX10_face 31 = .ok (.iload_n 3, 1) := by decide +kernel
theorem dX10_face_32 : decode cX10_face 32 = .ok (.iconst 0, 1) := by decide +kernel
theorem dX10_face_33 : decode cX10_face 33 = .ok (.iconst 2, 1) := by decide +kernel
theorem dX10_face_34 : decode cX10_face 34 = .ok (.invokestatic 154, 3) := by decide +kernel
theorem dX10_face_37 : decode cX10_face 37 = .ok (.ifCond .eq 18, 3) := by decide +kernel
theorem dX10_face_40 : decode cX10_face 40 = .ok (.aload_n 0, 1) := by decide +kernel
theorem dX10_face_41 : decode cX10_face 41 = .ok (.iload_n 1, 1) := by decide +kernel
theorem dX10_face_42 : decode cX10_face 42 = .ok (.iconst 4, 1) := by decide +kernel
theorem dX10_face_43 : decode cX10_face 43 = .ok (.iconst 3, 1) := by decide +kernel
theorem dX10_face_44 : decode cX10_face 44 = .ok (.iload_n 2, 1) := by decide +kernel
theorem dX10_face_45 : decode cX10_face 45 = .ok (.imul, 1) := by decide +kernel
theorem dX10_face_46 : decode cX10_face 46 = .ok (.iadd, 1) := by decide +kernel
theorem dX10_face_47 : decode cX10_face 47 = .ok (.iload_n 3, 1) := by decide +kernel
