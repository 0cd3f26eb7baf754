theorem dX4_init_0 : decode cX4_init 0 = .ok (.aload_n 0, 1) := by decide +kernel
theorem dX4_init_1 : decode cX4_init 1 = .ok (.invokespecial 3, 3) := by decide +kernel
theorem dX4_init_4 : decode cX4_init 4 = .ok (.aload_n 0, 1) := by decide +kernel
theorem dX4_init_5 : decode cX4_init 5 = .ok (.bipush 9, 2) := by decide +kernel
theorem dX4_init_7 : decode cX4_init 7 = .ok (.newarray .int, 2) := by decide +kernel
theorem dX4_init_9 : decode cX4_init 9 = .ok (.putfield 9, 3) := by decide +kernel
theorem dX4_init_12 : decode cX4_init 12 = .ok (.aload_n 0, 1) := by decide +kernel
theorem dX4_init_13 : decode cX4_init 13 = .ok (.bipush 9, 2) := by decide +kernel
theorem dX4_init_15 : decode cX4_init 15 = .ok (.newarray .int, 2) := by decide +kernel
theorem dX4_init_17 : decode cX4_init 17 = .ok (.putfield 15, 3) := by decide +kernel
theorem dX4_init_20 : decode cX4_init 20 = .ok (.aload_n 0, 1) := by decide +kernel
theorem dX4_init_21 : decode cX4_init 21 = .ok (.bipush 9, 2) := by decide +kernel
theorem dX4_init_23 : decode cX4_init 23 = .ok (.newarray .int, 2) := by decide +kernel
theorem dX4_init_25 : decode cX4_init 25 = .ok (.putfield 18, 3) := by decide +kernel
theorem dX4_init_28 : decode cX4_init 28 = .ok (.return_, 1) := by decide +kernel
theorem dX4_tooMany_0 : decode cX4_tooMany 0 = .ok (.iconst 1, 1) := by decide +kernel
theorem dX4_tooMany_1 : decode cX4_tooMany 1 = .ok (.istore_n 2, 1) := by decide +kernel
theorem dX4_tooMany_2 : decode cX4_tooMany 2 = .ok (.iconst 0, 1) := by decide +kernel
theorem dX4_tooMany_3 : decode cX4_tooMany 3 = .ok (.istore_n 3, 1) := by decide +kernel
theorem dX4_tooMany_4 : decode cX4_tooMany 4 = .ok (.iload_n 3, 1) := by decide +kernel
theorem dX4_tooMany_5 : decode cX4_tooMany 5 = .ok (.iload_n 1, 1) := by decide +kernel
theorem dX4_tooMany_6 : decode cX4_tooMany 6 = .ok (.if_icmp .ge 27, 3) := by decide +kernel
theorem dX4_tooMany_9 : decode cX4_tooMany 9 = .ok (.iload_n 2, 1) := by decide +kernel
theorem dX4_tooMany_10 : decode cX4_tooMany 10 = .ok (.ldc 21, 2) := by decide +kernel
theorem dX4_tooMany_12 : decode cX4_tooMany 12 = .ok (.if_icmp .gt 21, 3) := by decide +kernel
theorem dX4_tooMany_15 : decode cX4_tooMany 15 = .ok (.iload_n 2, 1) := by decide +kernel
theorem dX4_tooMany_16 : decode cX4_tooMany 16 = .ok (.aload_n 0, 1) := by decide +kernel
theorem dX4_tooMany_17 : decode cX4_tooMany 17 = .ok (.getfield 22, 3) := by decide +kernel
theorem dX4_tooMany_20 : decode cX4_tooMany 20 = .ok (.aload_n 0, 1) := by decide +kernel
theorem dX4_tooMany_21 : decode cX4_tooMany 21 = .ok (.getfield 27, 3) := by decide +kernel
theorem dX4_tooMany_24 : decode cX4_tooMany 24 = .ok (.imul, 1) := by decide +kernel
theorem dX4_tooMany_25 : decode cX4_tooMany 25 = .ok (.imul, 1) := by decide +kernel
theorem dX4_tooMany_26 : decode cX4_tooMany 26 = .ok (.istore_n 2, 1) := by decide +kernel
theorem dX4_tooMany_27 : decode cX4_tooMany 27 = .ok (.iinc 3 1, 3) := by decide +kernel
theorem dX4_tooMany_30 : decode cX4_tooMany 30 = .ok (.goto (-26), 3) := by decide +kernel
theorem dX4_tooMany_33 : decode cX4_tooMany 33 = .ok (.iload_n 2, 1) := by decide +kernel
theorem dX4_tooMany_34 : decode cX4_tooMany 34 = .ok (.ldc 21, 2) := by decide +kernel
theorem dX4_tooMany_36 : decode cX4_tooMany 36 = .ok (.if_icmp .le 7, 3) := by decide +kernel
theorem dX4_tooMany_39 : decode cX4_tooMany 39 = .ok (.iconst 1, 1) := by decide +kernel
theorem dX4_tooMany_40 : decode cX4_tooMany 40 = .ok (.goto 4, 3) := by decide +kernel
theorem dX4_tooMany_43 : decode cX4_tooMany 43 = .ok (.iconst 0, 1) := by decide +kernel
theorem dX4_tooMany_44 : decode cX4_tooMany 44 = .ok (.ireturn, 1) := by decide +kernel
theorem dX4_find_0 : decode cX4_find 0 = .ok (.aload_n 0, 1) := by decide +kernel
theorem dX4_find_1 : decode cX4_find 1 = .ok (.iload 4, 2) := by decide +kernel
theorem dX4_find_3 : decode cX4_find 3 = .ok (.bipush 9, 2) := by decide +kernel
theorem dX4_find_5 : decode cX4_find 5 = .ok (.invokestatic 29, 3) := by decide +kernel
theorem dX4_find_8 : decode cX4_find 8 = .ok (.putfield 35, 3) := by decide +kernel
theorem dX4_find_11 : decode cX4_find 11 = .ok (.iconst 0, 1) := by decide +kernel
theorem dX4_find_12 : decode cX4_find 12 = .ok (.istore 5, 2) := by decide +kernel
theorem dX4_find_14 : decode cX4_find 14 = .ok (.iload 5, 2) := by decide +kernel
theorem dX4_find_16 : decode cX4_find 16 = .ok (.aload_n 0, 1) := by decide +kernel
theorem dX4_find_17 : decode cX4_find 17 = .ok (.getfield 35, 3) := by decide +kernel
theorem dX4_find_20 : decode cX4_find 20 = .ok (.if_icmp .ge 33, 3) := by decide +kernel
theorem dX4_find_23 : decode cX4_find 23 = .ok (.aload_n 0, 1) := by decide +kernel
theorem dX4_find_24 : decode cX4_find 24 = .ok (.getfield 9, 3) := by decide +kernel
theorem dX4_find_27 : decode cX4_find 27 = .ok (.iload 5, 2) := by decide +kernel
theorem dX4_find_29 : decode cX4_find 29 = .ok (.iconst 0, 1) := by decide +kernel
theorem dX4_find_30 : decode cX4_find 30 = .ok (.iastore, 1) := by decide +kernel
theorem dX4_find_31 : decode cX4_find 31 = .ok (.aload_n 0, 1) := by decide +kernel
theorem dX4_find_32 : decode cX4_find 32 = .ok (.getfield 15, 3) := by decide +kernel
theorem dX4_find_35 : decode cX4_find 35 = .ok (.iload 5, 2) := by decide +kernel
theorem dX4_find_37 : decode cX4_find 37 = .ok (.iconst 0, 1) := by decide +kernel
theorem dX4_find_38 : decode cX4_find 38 = .ok (.iastore, 1) := by decide +kernel
theorem dX4_find_39 : decode cX4_find 39 = .ok (.aload_n 0, 1) := by decide +kernel
theorem dX4_find_40 : decode cX4_find 40 = .ok (.getfield 18, 3) := by decide +kernel
theorem dX4_find_43 : decode cX4_find 43 = .ok (.iload 5, 2) := by decide +kernel
theorem dX4_find_45 : decode cX4_find 45 = .ok (.iconst 0, 1) := by decide +kernel
theorem dX4_find_46 : decode cX4_find 46 = .ok (.iastore, 1) := by decide +kernel
theorem dX4_find_47 : decode cX4_find 47 = .ok (.iinc 5 1, 3) := by decide +kernel
theorem dX4_find_50 : decode cX4_find 50 = .ok (.goto (-36), 3) := by decide +kernel
theorem dX4_find_53 : decode cX4_find 53 = .ok (.aload_n 0, 1) := by decide +kernel
theorem dX4_find_54 : decode cX4_find 54 = .ok (.getfield 35, 3) := by decide +kernel
theorem dX4_find_57 : decode cX4_find 57 = .ok (.aload_n 1, 1) := by decide +kernel
theorem dX4_find_58 : decode cX4_find 58 = .ok (.getfield 38, 3) := by decide +kernel
theorem dX4_find_61 : decode cX4_find 61 = .ok (.getfield 44, 3) := by decide +kernel
theorem dX4_find_64 : decode cX4_find 64 = .ok (.iconst 3, 1) := by decide +kernel
theorem dX4_find_65 : decode cX4_find 65 = .ok (.iaload, 1) := by decide +kernel
theorem dX4_find_66 : decode cX4_find 66 = .ok (.if_icmp .le 5, 3) := by decide +kernel
theorem dX4_find_69 : decode cX4_find 69 = .ok (.iconst 0, 1) := by decide +kernel
theorem dX4_find_70 : decode cX4_find 70 = .ok (.ireturn, 1) := by decide +kernel
theorem dX4_find_71 : decode cX4_find 71 = .ok (.iconst 0, 1) := by decide +kernel
theorem dX4_find_72 : decode cX4_find 72 = .ok (.istore 5, 2) := by decide +kernel
theorem dX4_find_74 : decode cX4_find 74 = .ok (.iconst 1, 1) := by decide +kernel
theorem dX4_find_75 : decode cX4_find 75 = .ok (.istore 6, 2) := by decide +kernel
theorem dX4_find_77 : decode cX4_find 77 = .ok (.iconst 0, 1) := by decide +kernel
theorem dX4_find_78 : decode cX4_find 78 = .ok (.istore 7, 2) := by decide +kernel
theorem dX4_find_80 : decode cX4_find 80 = .ok (.iload 7, 2) := by decide +kernel
theorem dX4_find_82 : decode cX4_find 82 = .ok (.ldc 21, 2) := by decide +kernel
theorem dX4_find_84 : decode cX4_find 84 = .ok (.if_icmp .ge 48, 3) := by decide +kernel
theorem dX4_find_87 : decode cX4_find 87 = .ok (.iload 6, 2) := by decide +kernel
theorem dX4_find_89 : decode cX4_find 89 = .ok (.ifCond .eq 43, 3) := by decide +kernel
theorem dX4_find_92 : decode cX4_find 92 = .ok (.aload_n 0, 1) := by decide +kernel
theorem dX4_find_93 : decode cX4_find 93 = .ok (.aload_n 1, 1) := by decide +kernel
theorem dX4_find_94 : decode cX4_find 94 = .ok (.iload_n 2, 1) := by decide +kernel
theorem dX4_find_95 : decode cX4_find 95 = .ok (.iload_n 3, 1) := by decide +kernel
theorem dX4_find_96 : decode cX4_find 96 = .ok (.invokevirtual 47, 3) := by decide +kernel
theorem dX4_find_99 : decode cX4_find 99 = .ok (.ifCond .eq 14, 3) := by decide +kernel
theorem dX4_find_102 : decode cX4_find 102 = .ok (.iload 5, 2) := by decide +kernel
theorem dX4_find_104 : decode cX4_find 104 = .ok (.aload_n 0, 1) := by decide +kernel
theorem dX4_find_105 : decode cX4_find 105 = .ok (.aload_n 1, 1) := by decide +kernel
theorem dX4_find_106 : decode cX4_find 106 = .ok (.iload_n 2, 1) := by decide +kernel
theorem dX4_find_107 : decode cX4_find 107 = .ok (.invokevirtual 51, 3) := by decide +kernel
theorem dX4_find_110 : decode cX4_find 110 = .ok (.iadd, 1) := by decide +kernel
theorem dX4_find_111 : decode cX4_find 111 = .ok (.istore 5, 2) := by decide +kernel
theorem dX4_find_113 : decode cX4_find 113 = .ok (.aload_n 0, 1) := by decide +kernel
theorem dX4_find_114 : decode cX4_find 114 = .ok (.aload_n 1, 1) := by decide +kernel
theorem dX4_find_115 : decode cX4_find 115 = .ok (.getfield 38, 3) := by decide +kernel
theorem dX4_find_118 : decode cX4_find 118 = .ok (.getfield 27, 3) := by decide +kernel
theorem dX4_find_121 : decode cX4_find 121 = .ok (.invokevirtual 55, 3) := by decide +kernel
theorem dX4_find_124 : decode cX4_find 124 = .ok (.istore 6, 2) := by decide +kernel
theorem dX4_find_126 : decode cX4_find 126 = .ok (.iinc 7 1, 3) := by decide +kernel
theorem dX4_find_129 : decode cX4_find 129 = .ok (.goto (-49), 3) := by decide +kernel
theorem dX4_find_132 : decode cX4_find 132 = .ok (.iload 5, 2) := by decide +kernel
theorem dX4_find_134 : decode cX4_find 134 = .ok (.ireturn, 1) := by decide +kernel
theorem dX4_turnRow_0 : decode cX4_turnRow 0 = .ok (.iconst 0, 1) := by decide +kernel
theorem dX4_turnRow_1 : decode cX4_turnRow 1 = .ok (.istore_n 2, 1) := by decide +kernel
theorem dX4_turnRow_2 : decode cX4_turnRow 2 = .ok (.iload_n 2, 1) := by decide +kernel
theorem dX4_turnRow_3 : decode cX4_turnRow 3 = .ok (.aload_n 0, 1) := by decide +kernel
theorem dX4_turnRow_4 : decode cX4_turnRow 4 = .ok (.getfield 35, 3) := by decide +kernel
theorem dX4_turnRow_7 : decode cX4_turnRow 7 = .ok (.if_icmp .ge 38, 3) := by decide +kernel
theorem dX4_turnRow_10 : decode cX4_turnRow 10 = .ok (.aload_n 0, 1) := by decide +kernel
theorem dX4_turnRow_11 : decode cX4_turnRow 11 = .ok (.getfield 18, 3) := by decide +kernel
theorem dX4_turnRow_14 : decode cX4_turnRow 14 = .ok (.iload_n 2, 1) := by decide +kernel
theorem dX4_turnRow_15 : decode cX4_turnRow 15 = .ok (.dup2, 1) := by decide +kernel
theorem dX4_turnRow_16 : decode cX4_turnRow 16 = .ok (.iaload, 1) := by decide +kernel
theorem dX4_turnRow_17 : decode cX4_turnRow 17 = .ok (.iconst 1, 1) := by decide +kernel
theorem dX4_turnRow_18 : decode cX4_turnRow 18 = .ok (.iadd, 1) := by decide +kernel
theorem dX4_turnRow_19 : decode cX4_turnRow 19 = .ok (.iastore, 1) := by decide +kernel
theorem dX4_turnRow_20 : decode cX4_turnRow 20 = .ok (.aload_n 0, 1) := by decide +kernel
theorem dX4_turnRow_21 : decode cX4_turnRow 21 = .ok (.getfield 18, 3) := by decide +kernel
theorem dX4_turnRow_24 : decode cX4_turnRow 24 = .ok (.iload_n 2, 1) := by decide +kernel
theorem dX4_turnRow_25 : decode cX4_turnRow 25 = .ok (.iaload, 1) := by decide +kernel
theorem dX4_turnRow_26 : decode cX4_turnRow 26 = .ok (.iload_n 1, 1) := by decide +kernel
theorem dX4_turnRow_27 : decode cX4_turnRow 27 = .ok (.if_icmp .ge 5, 3) := by decide +kernel
theorem dX4_turnRow_30 : decode cX4_turnRow 30 = .ok (.iconst 1, 1) := by decide +kernel
theorem dX4_turnRow_31 : decode cX4_turnRow 31 = .ok (.ireturn, 1) := by decide +kernel
theorem dX4_turnRow_32 : decode cX4_turnRow 32 = .ok (.aload_n 0, 1) := by decide +kernel
theorem dX4_turnRow_33 : decode cX4_turnRow 33 = .ok (.getfield 18, 3) := by decide +kernel
theorem dX4_turnRow_36 : decode cX4_turnRow 36 = .ok (.iload_n 2, 1) := by decide +kernel
theorem dX4_turnRow_37 : decode cX4_turnRow 37 = .ok (.iconst 0, 1) := by decide +kernel
theorem dX4_turnRow_38 : decode cX4_turnRow 38 = .ok (.iastore, 1) := by decide +kernel
theorem dX4_turnRow_39 : decode cX4_turnRow 39 = .ok (.iinc 2 1, 3) := by decide +kernel
theorem dX4_turnRow_42 : decode cX4_turnRow 42 = .ok (.goto (-40), 3) := by decide +kernel
theorem dX4_turnRow_45 : decode cX4_turnRow 45 = .ok (.iconst 0, 1) := by decide +kernel
theorem dX4_turnRow_46 : decode cX4_turnRow 46 = .ok (.ireturn, 1) := by decide +kernel
theorem dX4_fits_0 : decode cX4_fits 0 = .ok (.iload_n 3, 1) := by decide +kernel
theorem dX4_fits_1 : decode cX4_fits 1 = .ok (.istore 4, 2) := by decide +kernel
theorem dX4_fits_3 : decode cX4_fits 3 = .ok (.iconst 0, 1) := by decide +kernel
theorem dX4_fits_4 : decode cX4_fits 4 = .ok (.istore 5, 2) := by decide +kernel
theorem dX4_fits_6 : decode cX4_fits 6 = .ok (.iload 5, 2) := by decide +kernel
theorem dX4_fits_8 : decode cX4_fits 8 = .ok (.aload_n 0, 1) := by decide +kernel
theorem dX4_fits_9 : decode cX4_fits 9 = .ok (.getfield 35, 3) := by decide +kernel
theorem dX4_fits_12 : decode cX4_fits 12 = .ok (.if_icmp .ge 61, 3) := by decide +kernel
theorem dX4_fits_15 : decode cX4_fits 15 = .ok (.aload_n 1, 1) := by decide +kernel
theorem dX4_fits_16 : decode cX4_fits 16 = .ok (.aload_n 0, 1) := by decide +kernel
theorem dX4_fits_17 : decode cX4_fits 17 = .ok (.getfield 18, 3) := by decide +kernel
theorem dX4_fits_20 : decode cX4_fits 20 = .ok (.iload 5, 2) := by decide +kernel
theorem dX4_fits_22 : decode cX4_fits 22 = .ok (.iaload, 1) := by decide +kernel
theorem dX4_fits_23 : decode cX4_fits 23 = .ok (.invokevirtual 59, 3) := by decide +kernel
theorem dX4_fits_26 : decode cX4_fits 26 = .ok (.ifCond .ne 5, 3) := by decide +kernel
theorem dX4_fits_29 : decode cX4_fits 29 = .ok (.iconst 0, 1) := by decide +kernel
theorem dX4_fits_30 : decode cX4_fits 30 = .ok (.ireturn, 1) := by decide +kernel
theorem dX4_fits_31 : decode cX4_fits 31 = .ok (.iload 4, 2) := by decide +kernel
theorem dX4_fits_33 : decode cX4_fits 33 = .ok (.aload_n 1, 1) := by decide +kernel
theorem dX4_fits_34 : decode cX4_fits 34 = .ok (.getfield 38, 3) := by decide +kernel
theorem dX4_fits_37 : decode cX4_fits 37 = .ok (.getfield 62, 3) := by decide +kernel
theorem dX4_fits_40 : decode cX4_fits 40 = .ok (.aload_n 0, 1) := by decide +kernel
theorem dX4_fits_41 : decode cX4_fits 41 = .ok (.getfield 18, 3) := by decide +kernel
theorem dX4_fits_44 : decode cX4_fits 44 = .ok (.iload 5, 2) := by decide +kernel
theorem dX4_fits_46 : decode cX4_fits 46 = .ok (.iaload, 1) := by decide +kernel
theorem dX4_fits_47 : decode cX4_fits 47 = .ok (.iaload, 1) := by decide +kernel
theorem dX4_fits_48 : decode cX4_fits 48 = .ok (.isub, 1) := by decide +kernel
theorem dX4_fits_49 : decode cX4_fits 49 = .ok (.istore 4, 2) := by decide +kernel
theorem dX4_fits_51 : decode cX4_fits 51 = .ok (.iload 4, 2) := by decide +kernel
theorem dX4_fits_53 : decode cX4_fits 53 = .ok (.aload_n 1, 1) := by decide +kernel
theorem dX4_fits_54 : decode cX4_fits 54 = .ok (.getfield 38, 3) := by decide +kernel
theorem dX4_fits_57 : decode cX4_fits 57 = .ok (.getfield 44, 3) := by decide +kernel
theorem dX4_fits_60 : decode cX4_fits 60 = .ok (.iconst 2, 1) := by decide +kernel
theorem dX4_fits_61 : decode cX4_fits 61 = .ok (.iaload, 1) := by decide +kernel
theorem dX4_fits_62 : decode cX4_fits 62 = .ok (.if_icmp .ge 5, 3) := by decide +kernel
theorem dX4_fits_65 : decode cX4_fits 65 = .ok (.iconst 0, 1) := by decide +kernel
theorem dX4_fits_66 : decode cX4_fits 66 = .ok (.ireturn, 1) := by decide +kernel
theorem dX4_fits_67 : decode cX4_fits 67 = .ok (.iinc 5 1, 3) := by decide +kernel
theorem dX4_fits_70 : decode cX4_fits 70 = .ok (.goto (-64), 3) := by decide +kernel
theorem dX4_fits_73 : decode cX4_fits 73 = .ok (.iload 4, 2) := by decide +kernel
theorem dX4_fits_75 : decode cX4_fits 75 = .ok (.aload_n 1, 1) := by decide +kernel
theorem dX4_fits_76 : decode cX4_fits 76 = .ok (.getfield 65, 3) := by decide +kernel
theorem dX4_fits_79 : decode cX4_fits 79 = .ok (.getfield 69, 3) := by decide +kernel
theorem dX4_fits_82 : decode cX4_fits 82 = .ok (.iload_n 2, 1) := by decide +kernel
theorem dX4_fits_83 : decode cX4_fits 83 = .ok (.iaload, 1) := by decide +kernel
theorem dX4_fits_84 : decode cX4_fits 84 = .ok (.if_icmp .ne 16, 3) := by decide +kernel
theorem dX4_fits_87 : decode cX4_fits 87 = .ok (.aload_n 0, 1) := by decide +kernel
theorem dX4_fits_88 : decode cX4_fits 88 = .ok (.aload_n 1, 1) := by decide +kernel
theorem dX4_fits_89 : decode cX4_fits 89 = .ok (.iload_n 2, 1) := by decide +kernel
theorem dX4_fits_90 : decode cX4_fits 90 = .ok (.invokevirtual 74, 3) := by decide +kernel
theorem dX4_fits_93 : decode cX4_fits 93 = .ok (.ifCond .eq 7, 3) := by decide +kernel
theorem dX4_fits_96 : decode cX4_fits 96 = .ok (.iconst 1, 1) := by decide +kernel
theorem dX4_fits_97 : decode cX4_fits 97 = .ok (.goto 4, 3) := by decide +kernel
theorem dX4_fits_100 : decode cX4_fits 100 = .ok (.iconst 0, 1) := by decide +kernel
theorem dX4_fits_101 : decode cX4_fits 101 = .ok (.ireturn, 1) := by decide +kernel
theorem dX4_depthsFit_0 : decode cX4_depthsFit 0 = .ok (.bipush 9, 2) := by decide +kernel
theorem dX4_depthsFit_2 : decode cX4_depthsFit 2 = .ok (.istore_n 3, 1) := by decide +kernel
theorem dX4_depthsFit_3 : decode cX4_depthsFit 3 = .ok (.iconst 0, 1) := by decide +kernel
theorem dX4_depthsFit_4 : decode cX4_depthsFit 4 = .ok (.istore 4, 2) := by decide +kernel
theorem dX4_depthsFit_6 : decode cX4_depthsFit 6 = .ok (.aload_n 0, 1) := by decide +kernel
theorem dX4_depthsFit_7 : decode cX4_depthsFit 7 = .ok (.getfield 35, 3) := by decide +kernel
theorem dX4_depthsFit_10 : decode cX4_depthsFit 10 = .ok (.iconst 1, 1) := by decide +kernel
theorem dX4_depthsFit_11 : decode cX4_depthsFit 11 = .ok (.isub, 1) := by decide +kernel
theorem dX4_depthsFit_12 : decode cX4_depthsFit 12 = .ok (.istore 5, 2) := by decide +kernel
theorem dX4_depthsFit_14 : decode cX4_depthsFit 14 = .ok (.iload 5, 2) := by decide +kernel
theorem dX4_depthsFit_16 : decode cX4_depthsFit 16 = .ok (.ifCond .lt 50, 3) := by decide +kernel
theorem dX4_depthsFit_19 : decode cX4_depthsFit 19 = .ok (.iload_n 3, 1) := by decide +kernel
theorem dX4_depthsFit_20 : decode cX4_depthsFit 20 = .ok (.ifCond .le 46, 3) := by decide +kernel
theorem dX4_depthsFit_23 : decode cX4_depthsFit 23 = .ok (.aload_n 1, 1) := by decide +kernel
theorem dX4_depthsFit_24 : decode cX4_depthsFit 24 = .ok (.getfield 65, 3) := by decide +kernel
theorem dX4_depthsFit_27 : decode cX4_depthsFit 27 = .ok (.iload_n 2, 1) := by decide +kernel
theorem dX4_depthsFit_28 : decode cX4_depthsFit 28 = .ok (.iload 4, 2) := by decide +kernel
theorem dX4_depthsFit_30 : decode cX4_depthsFit 30 = .ok (.invokevirtual 78, 3) := by decide +kernel
theorem dX4_depthsFit_33 : decode cX4_depthsFit 33 = .ok (.iload_n 3, 1) := by decide +kernel
theorem dX4_depthsFit_34 : decode cX4_depthsFit 34 = .ok (.if_icmp .eq 5, 3) := by decide +kernel
theorem dX4_depthsFit_37 : decode cX4_depthsFit 37 = .ok (.iconst 0, 1) := by decide +kernel
theorem dX4_depthsFit_38 : decode cX4_depthsFit 38 = .ok (.ireturn, 1) := by decide +kernel
theorem dX4_depthsFit_39 : decode cX4_depthsFit 39 = .ok (.iinc 4 1, 3) := by decide +kernel
theorem dX4_depthsFit_42 : decode cX4_depthsFit 42 = .ok (.iload_n 3, 1) := by decide +kernel
theorem dX4_depthsFit_43 : decode cX4_depthsFit 43 = .ok (.aload_n 1, 1) := by decide +kernel
theorem dX4_depthsFit_44 : decode cX4_depthsFit 44 = .ok (.getfield 38, 3) := by decide +kernel
theorem dX4_depthsFit_47 : decode cX4_depthsFit 47 = .ok (.getfield 81, 3) := by decide +kernel
theorem dX4_depthsFit_50 : decode cX4_depthsFit 50 = .ok (.aload_n 0, 1) := by decide +kernel
theorem dX4_depthsFit_51 : decode cX4_depthsFit 51 = .ok (.getfield 18, 3) := by decide +kernel
theorem dX4_depthsFit_54 : decode cX4_depthsFit 54 = .ok (.iload 5, 2) := by decide +kernel
theorem dX4_depthsFit_56 : decode cX4_depthsFit 56 = .ok (.iaload, 1) := by decide +kernel
theorem dX4_depthsFit_57 : decode cX4_depthsFit 57 = .ok (.iaload, 1) := by decide +kernel
theorem dX4_depthsFit_58 : decode cX4_depthsFit 58 = .ok (.isub, 1) := by decide +kernel
theorem dX4_depthsFit_59 : decode cX4_depthsFit 59 = .ok (.istore_n 3, 1) := by decide +kernel
theorem dX4_depthsFit_60 : decode cX4_depthsFit 60 = .ok (.iinc 5 (-1), 3) := by decide +kernel
theorem dX4_depthsFit_63 : decode cX4_depthsFit 63 = .ok (.goto (-49), 3) := by decide +kernel
theorem dX4_depthsFit_66 : decode cX4_depthsFit 66 = .ok (.iload 4, 2) := by decide +kernel
theorem dX4_depthsFit_68 : decode cX4_depthsFit 68 = .ok (.aload_n 1, 1) := by decide +kernel
theorem dX4_depthsFit_69 : decode cX4_depthsFit 69 = .ok (.getfield 65, 3) := by decide +kernel
theorem dX4_depthsFit_72 : decode cX4_depthsFit 72 = .ok (.getfield 84, 3) := by decide +kernel
theorem dX4_depthsFit_75 : decode cX4_depthsFit 75 = .ok (.iload_n 2, 1) := by decide +kernel
theorem dX4_depthsFit_76 : decode cX4_depthsFit 76 = .ok (.iaload, 1) := by decide +kernel
theorem dX4_depthsFit_77 : decode cX4_depthsFit 77 = .ok (.if_icmp .ne 7, 3) := by decide +kernel
theorem dX4_depthsFit_80 : decode cX4_depthsFit 80 = .ok (.iconst 1, 1) := by decide +kernel
theorem dX4_depthsFit_81 : decode cX4_depthsFit 81 = .ok (.goto 4, 3) := by decide +kernel
theorem dX4_depthsFit_84 : decode cX4_depthsFit 84 = .ok (.iconst 0, 1) := by decide +kernel
theorem dX4_depthsFit_85 : decode cX4_depthsFit 85 = .ok (.ireturn, 1) := by decide +kernel
theorem dX4_note_0 : decode cX4_note 0 = .ok (.iconst 1, 1) := by decide +kernel
theorem dX4_note_1 : decode cX4_note 1 = .ok (.istore_n 3, 1) := by decide +kernel
theorem dX4_note_2 : decode cX4_note 2 = .ok (.iconst 0, 1) := by decide +kernel
theorem dX4_note_3 : decode cX4_note 3 = .ok (.istore 4, 2) := by decide +kernel
theorem dX4_note_5 : decode cX4_note 5 = .ok (.iload 4, 2) := by decide +kernel
theorem dX4_note_7 : decode cX4_note 7 = .ok (.aload_n 0, 1) := by decide +kernel
theorem dX4_note_8 : decode cX4_note 8 = .ok (.getfield 35, 3) := by decide +kernel
theorem dX4_note_11 : decode cX4_note 11 = .ok (.if_icmp .ge 98, 3) := by decide +kernel
theorem dX4_note_14 : decode cX4_note 14 = .ok (.aload_n 1, 1) := by decide +kernel
theorem dX4_note_15 : decode cX4_note 15 = .ok (.iload_n 2, 1) := by decide +kernel
theorem dX4_note_16 : decode cX4_note 16 = .ok (.aload_n 0, 1) := by decide +kernel
theorem dX4_note_17 : decode cX4_note 17 = .ok (.getfield 35, 3) := by decide +kernel
theorem dX4_note_20 : decode cX4_note 20 = .ok (.iconst 1, 1) := by decide +kernel
theorem dX4_note_21 : decode cX4_note 21 = .ok (.isub, 1) := by decide +kernel
theorem dX4_note_22 : decode cX4_note 22 = .ok (.iload 4, 2) := by decide +kernel
theorem dX4_note_24 : decode cX4_note 24 = .ok (.isub, 1) := by decide +kernel
theorem dX4_note_25 : decode cX4_note 25 = .ok (.invokevirtual 87, 3) := by decide +kernel
theorem dX4_note_28 : decode cX4_note 28 = .ok (.istore 5, 2) := by decide +kernel
theorem dX4_note_30 : decode cX4_note 30 = .ok (.aload_n 0, 1) := by decide +kernel
theorem dX4_note_31 : decode cX4_note 31 = .ok (.getfield 15, 3) := by decide +kernel
theorem dX4_note_34 : decode cX4_note 34 = .ok (.iload 4, 2) := by decide +kernel
theorem dX4_note_36 : decode cX4_note 36 = .ok (.dup2, 1) := by decide +kernel
theorem dX4_note_37 : decode cX4_note 37 = .ok (.iaload, 1) := by decide +kernel
theorem dX4_note_38 : decode cX4_note 38 = .ok (.iconst 1, 1) := by decide +kernel
theorem dX4_note_39 : decode cX4_note 39 = .ok (.aload_n 0, 1) := by decide +kernel
theorem dX4_note_40 : decode cX4_note 40 = .ok (.getfield 18, 3) := by decide +kernel
theorem dX4_note_43 : decode cX4_note 43 = .ok (.iload 4, 2) := by decide +kernel
theorem dX4_note_45 : decode cX4_note 45 = .ok (.iaload, 1) := by decide +kernel
theorem dX4_note_46 : decode cX4_note 46 = .ok (.ishl, 1) := by decide +kernel
theorem dX4_note_47 : decode cX4_note 47 = .ok (.ior, 1) := by decide +kernel
theorem dX4_note_48 : decode cX4_note 48 = .ok (.iastore, 1) := by decide +kernel
theorem dX4_note_49 : decode cX4_note 49 = .ok (.iload 5, 2) := by decide +kernel
theorem dX4_note_51 : decode cX4_note 51 = .ok (.iconst (-1), 1) := by decide +kernel
theorem dX4_note_52 : decode cX4_note 52 = .ok (.if_icmp .ne 37, 3) := by decide +kernel
theorem dX4_note_55 : decode cX4_note 55 = .ok (.aload_n 0, 1) := by decide +kernel
theorem dX4_note_56 : decode cX4_note 56 = .ok (.getfield 9, 3) := by decide +kernel
theorem dX4_note_59 : decode cX4_note 59 = .ok (.iload 4, 2) := by decide +kernel
theorem dX4_note_61 : decode cX4_note 61 = .ok (.dup2, 1) := by decide +kernel
theorem dX4_note_62 : decode cX4_note 62 = .ok (.iaload, 1) := by decide +kernel
theorem dX4_note_63 : decode cX4_note 63 = .ok (.iconst 1, 1) := by decide +kernel
theorem dX4_note_64 : decode cX4_note 64 = .ok (.aload_n 1, 1) := by decide +kernel
theorem dX4_note_65 : decode cX4_note 65 = .ok (.getfield 38, 3) := by decide +kernel
theorem dX4_note_68 : decode cX4_note 68 = .ok (.getfield 22, 3) := by decide +kernel
theorem dX4_note_71 : decode cX4_note 71 = .ok (.ishl, 1) := by decide +kernel
theorem dX4_note_72 : decode cX4_note 72 = .ok (.iconst 1, 1) := by decide +kernel
theorem dX4_note_73 : decode cX4_note 73 = .ok (.isub, 1) := by decide +kernel
theorem dX4_note_74 : decode cX4_note 74 = .ok (.ior, 1) := by decide +kernel
theorem dX4_note_75 : decode cX4_note 75 = .ok (.iastore, 1) := by decide +kernel
theorem dX4_note_76 : decode cX4_note 76 = .ok (.iload_n 3, 1) := by decide +kernel
theorem dX4_note_77 : decode cX4_note 77 = .ok (.aload_n 1, 1) := by decide +kernel
theorem dX4_note_78 : decode cX4_note 78 = .ok (.getfield 38, 3) := by decide +kernel
theorem dX4_note_81 : decode cX4_note 81 = .ok (.getfield 22, 3) := by decide +kernel
theorem dX4_note_84 : decode cX4_note 84 = .ok (.imul, 1) := by decide +kernel
theorem dX4_note_85 : decode cX4_note 85 = .ok (.istore_n 3, 1) := by decide +kernel
theorem dX4_note_86 : decode cX4_note 86 = .ok (.goto 17, 3) := by decide +kernel
theorem dX4_note_89 : decode cX4_note 89 = .ok (.aload_n 0, 1) := by decide +kernel
theorem dX4_note_90 : decode cX4_note 90 = .ok (.getfield 9, 3) := by decide +kernel
theorem dX4_note_93 : decode cX4_note 93 = .ok (.iload 4, 2) := by decide +kernel
theorem dX4_note_95 : decode cX4_note 95 = .ok (.dup2, 1) := by decide +kernel
theorem dX4_note_96 : decode cX4_note 96 = .ok (.iaload, 1) := by decide +kernel
theorem dX4_note_97 : decode cX4_note 97 = .ok (.iconst 1, 1) := by decide +kernel
theorem dX4_note_98 : decode cX4_note 98 = .ok (.iload 5, 2) := by decide +kernel
theorem dX4_note_100 : decode cX4_note 100 = .ok (.ishl, 1) := by decide +kernel
theorem dX4_note_101 : decode cX4_note 101 = .ok (.ior, 1) := by decide +kernel
theorem dX4_note_102 : decode cX4_note 102 = .ok (.iastore, 1) := by decide +kernel
theorem dX4_note_103 : decode cX4_note 103 = .ok (.iinc 4 1, 3) := by decide +kernel
theorem dX4_note_106 : decode cX4_note 106 = .ok (.goto (-101), 3) := by decide +kernel
theorem dX4_note_109 : decode cX4_note 109 = .ok (.iload_n 3, 1) := by decide +kernel
theorem dX4_note_110 : decode cX4_note 110 = .ok (.ireturn, 1) := by decide +kernel
