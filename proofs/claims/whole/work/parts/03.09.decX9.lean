theorem dX9_init_0 : decode cX9_init 0 = .ok (.aload_n 0, 1) := by decide +kernel
theorem dX9_init_1 : decode cX9_init 1 = .ok (.invokespecial 1, 3) := by decide +kernel
theorem dX9_init_4 : decode cX9_init 4 = .ok (.aload_n 0, 1) := by decide +kernel
theorem dX9_init_5 : decode cX9_init 5 = .ok (.new 7, 3) := by decide +kernel
theorem dX9_init_8 : decode cX9_init 8 = .ok (.dup, 1) := by decide +kernel
theorem dX9_init_9 : decode cX9_init 9 = .ok (.invokespecial 9, 3) := by decide +kernel
theorem dX9_init_12 : decode cX9_init 12 = .ok (.putfield 10, 3) := by decide +kernel
theorem dX9_init_15 : decode cX9_init 15 = .ok (.aload_n 0, 1) := by decide +kernel
theorem dX9_init_16 : decode cX9_init 16 = .ok (.new 16, 3) := by decide +kernel
theorem dX9_init_19 : decode cX9_init 19 = .ok (.dup, 1) := by decide +kernel
theorem dX9_init_20 : decode cX9_init 20 = .ok (.invokespecial 18, 3) := by decide +kernel
theorem dX9_init_23 : decode cX9_init 23 = .ok (.putfield 19, 3) := by decide +kernel
theorem dX9_init_26 : decode cX9_init 26 = .ok (.aload_n 0, 1) := by decide +kernel
theorem dX9_init_27 : decode cX9_init 27 = .ok (.new 23, 3) := by decide +kernel
theorem dX9_init_30 : decode cX9_init 30 = .ok (.dup, 1) := by decide +kernel
theorem dX9_init_31 : decode cX9_init 31 = .ok (.invokespecial 25, 3) := by decide +kernel
theorem dX9_init_34 : decode cX9_init 34 = .ok (.putfield 26, 3) := by decide +kernel
theorem dX9_init_37 : decode cX9_init 37 = .ok (.aload_n 0, 1) := by decide +kernel
theorem dX9_init_38 : decode cX9_init 38 = .ok (.new 30, 3) := by decide +kernel
theorem dX9_init_41 : decode cX9_init 41 = .ok (.dup, 1) := by decide +kernel
theorem dX9_init_42 : decode cX9_init 42 = .ok (.invokespecial 32, 3) := by decide +kernel
theorem dX9_init_45 : decode cX9_init 45 = .ok (.putfield 33, 3) := by decide +kernel
theorem dX9_init_48 : decode cX9_init 48 = .ok (.aload_n 0, 1) := by decide +kernel
theorem dX9_init_49 : decode cX9_init 49 = .ok (.new 37, 3) := by decide +kernel
theorem dX9_init_52 : decode cX9_init 52 = .ok (.dup, 1) := by decide +kernel
theorem dX9_init_53 : decode cX9_init 53 = .ok (.invokespecial 39, 3) := by decide +kernel
theorem dX9_init_56 : decode cX9_init 56 = .ok (.putfield 40, 3) := by decide +kernel
theorem dX9_init_59 : decode cX9_init 59 = .ok (.aload_n 0, 1) := by decide +kernel
theorem dX9_init_60 : decode cX9_init 60 = .ok (.iconst 2, 1) := by decide +kernel
theorem dX9_init_61 : decode cX9_init 61 = .ok (.anewarray 30, 3) := by decide +kernel
theorem dX9_init_64 : decode cX9_init 64 = .ok (.putfield 44, 3) := by decide +kernel
theorem dX9_init_67 : decode cX9_init 67 = .ok (.aload_n 0, 1) := by decide +kernel
theorem dX9_init_68 : decode cX9_init 68 = .ok (.new 48, 3) := by decide +kernel
theorem dX9_init_71 : decode cX9_init 71 = .ok (.dup, 1) := by decide +kernel
theorem dX9_init_72 : decode cX9_init 72 = .ok (.invokespecial 50, 3) := by decide +kernel
theorem dX9_init_75 : decode cX9_init 75 = .ok (.putfield 51, 3) := by decide +kernel
theorem dX9_init_78 : decode cX9_init 78 = .ok (.aload_n 0, 1) := by decide +kernel
theorem dX9_init_79 : decode cX9_init 79 = .ok (.bipush 40, 2) := by decide +kernel
theorem dX9_init_81 : decode cX9_init 81 = .ok (.newarray .int, 2) := by decide +kernel
theorem dX9_init_83 : decode cX9_init 83 = .ok (.putfield 55, 3) := by decide +kernel
theorem dX9_init_86 : decode cX9_init 86 = .ok (.iconst 0, 1) := by decide +kernel
theorem dX9_init_87 : decode cX9_init 87 = .ok (.istore_n 1, 1) := by decide +kernel
theorem dX9_init_88 : decode cX9_init 88 = .ok (.iload_n 1, 1) := by decide +kernel
theorem dX9_init_89 : decode cX9_init 89 = .ok (.bipush 40, 2) := by decide +kernel
theorem dX9_init_91 : decode cX9_init 91 = .ok (.if_icmp .ge 16, 3) := by decide +kernel
theorem dX9_init_94 : decode cX9_init 94 = .ok (.aload_n 0, 1) := by decide +kernel
theorem dX9_init_95 : decode cX9_init 95 = .ok (.getfield 55, 3) := by decide +kernel
theorem dX9_init_98 : decode cX9_init 98 = .ok (.iload_n 1, 1) := by decide +kernel
theorem dX9_init_99 : decode cX9_init 99 = .ok (.iconst (-1), 1) := by decide +kernel
theorem dX9_init_100 : decode cX9_init 100 = .ok (.iastore, 1) := by decide +kernel
theorem dX9_init_101 : decode cX9_init 101 = .ok (.iinc 1 1, 3) := by decide +kernel
theorem dX9_init_104 : decode cX9_init 104 = .ok (.goto (-16), 3) := by decide +kernel
theorem dX9_init_107 : decode cX9_init 107 = .ok (.aload_n 0, 1) := by decide +kernel
theorem dX9_init_108 : decode cX9_init 108 = .ok (.new 59, 3) := by decide +kernel
theorem dX9_init_111 : decode cX9_init 111 = .ok (.dup, 1) := by decide +kernel
theorem dX9_init_112 : decode cX9_init 112 = .ok (.invokespecial 61, 3) := by decide +kernel
theorem dX9_init_115 : decode cX9_init 115 = .ok (.putfield 62, 3) := by decide +kernel
theorem dX9_init_118 : decode cX9_init 118 = .ok (.return_, 1) := by decide +kernel
theorem dX9_feed_0 : decode cX9_feed 0 = .ok (.aload_n 0, 1) := by decide +kernel
theorem dX9_feed_1 : decode cX9_feed 1 = .ok (.getfield 10, 3) := by decide +kernel
theorem dX9_feed_4 : decode cX9_feed 4 = .ok (.getfield 66, 3) := by decide +kernel
theorem dX9_feed_7 : decode cX9_feed 7 = .ok (.bipush 20, 2) := by decide +kernel
theorem dX9_feed_9 : decode cX9_feed 9 = .ok (.iadd, 1) := by decide +kernel
theorem dX9_feed_10 : decode cX9_feed 10 = .ok (.sipush 740, 3) := by decide +kernel
theorem dX9_feed_13 : decode cX9_feed 13 = .ok (.if_icmp .le 5, 3) := by decide +kernel
theorem dX9_feed_16 : decode cX9_feed 16 = .ok (.iconst (-1), 1) := by decide +kernel
theorem dX9_feed_17 : decode cX9_feed 17 = .ok (.ireturn, 1) := by decide +kernel
theorem dX9_feed_18 : decode cX9_feed 18 = .ok (.aload_n 0, 1) := by decide +kernel
theorem dX9_feed_19 : decode cX9_feed 19 = .ok (.getfield 10, 3) := by decide +kernel
theorem dX9_feed_22 : decode cX9_feed 22 = .ok (.iload_n 1, 1) := by decide +kernel
theorem dX9_feed_23 : decode cX9_feed 23 = .ok (.invokevirtual 70, 3) := by decide +kernel
theorem dX9_feed_26 : decode cX9_feed 26 = .ok (.aload_n 0, 1) := by decide +kernel
theorem dX9_feed_27 : decode cX9_feed 27 = .ok (.getfield 10, 3) := by decide +kernel
theorem dX9_feed_30 : decode cX9_feed 30 = .ok (.iload_n 2, 1) := by decide +kernel
theorem dX9_feed_31 : decode cX9_feed 31 = .ok (.invokevirtual 70, 3) := by decide +kernel
theorem dX9_feed_34 : decode cX9_feed 34 = .ok (.aload_n 0, 1) := by decide +kernel
theorem dX9_feed_35 : decode cX9_feed 35 = .ok (.getfield 10, 3) := by decide +kernel
theorem dX9_feed_38 : decode cX9_feed 38 = .ok (.iload_n 3, 1) := by decide +kernel
theorem dX9_feed_39 : decode cX9_feed 39 = .ok (.invokevirtual 70, 3) := by decide +kernel
theorem dX9_feed_42 : decode cX9_feed 42 = .ok (.aload_n 0, 1) := by decide +kernel
theorem dX9_feed_43 : decode cX9_feed 43 = .ok (.getfield 10, 3) := by decide +kernel
theorem dX9_feed_46 : decode cX9_feed 46 = .ok (.iload 4, 2) := by decide +kernel
theorem dX9_feed_48 : decode cX9_feed 48 = .ok (.invokevirtual 70, 3) := by decide +kernel
theorem dX9_feed_51 : decode cX9_feed 51 = .ok (.aload_n 0, 1) := by decide +kernel
theorem dX9_feed_52 : decode cX9_feed 52 = .ok (.getfield 10, 3) := by decide +kernel
theorem dX9_feed_55 : decode cX9_feed 55 = .ok (.iload 5, 2) := by decide +kernel
theorem dX9_feed_57 : decode cX9_feed 57 = .ok (.invokevirtual 70, 3) := by decide +kernel
theorem dX9_feed_60 : decode cX9_feed 60 = .ok (.aload_n 0, 1) := by decide +kernel
theorem dX9_feed_61 : decode cX9_feed 61 = .ok (.getfield 10, 3) := by decide +kernel
theorem dX9_feed_64 : decode cX9_feed 64 = .ok (.getfield 66, 3) := by decide +kernel
theorem dX9_feed_67 : decode cX9_feed 67 = .ok (.ireturn, 1) := by decide +kernel
theorem dX9_end_0 : decode cX9_end 0 = .ok (.iload_n 1, 1) := by decide +kernel
theorem dX9_end_1 : decode cX9_end 1 = .ok (.ifCond .lt 14, 3) := by decide +kernel
theorem dX9_end_4 : decode cX9_end 4 = .ok (.iload_n 1, 1) := by decide +kernel
theorem dX9_end_5 : decode cX9_end 5 = .ok (.aload_n 0, 1) := by decide +kernel
theorem dX9_end_6 : decode cX9_end 6 = .ok (.getfield 10, 3) := by decide +kernel
theorem dX9_end_9 : decode cX9_end 9 = .ok (.getfield 66, 3) := by decide +kernel
theorem dX9_end_12 : decode cX9_end 12 = .ok (.if_icmp .le 5, 3) := by decide +kernel
theorem dX9_end_15 : decode cX9_end 15 = .ok (.iconst 0, 1) := by decide +kernel
theorem dX9_end_16 : decode cX9_end 16 = .ok (.ireturn, 1) := by decide +kernel
theorem dX9_end_17 : decode cX9_end 17 = .ok (.aload_n 0, 1) := by decide +kernel
theorem dX9_end_18 : decode cX9_end 18 = .ok (.getfield 10, 3) := by decide +kernel
theorem dX9_end_21 : decode cX9_end 21 = .ok (.iload_n 1, 1) := by decide +kernel
theorem dX9_end_22 : decode cX9_end 22 = .ok (.putfield 66, 3) := by decide +kernel
theorem dX9_end_25 : decode cX9_end 25 = .ok (.iconst 1, 1) := by decide +kernel
theorem dX9_end_26 : decode cX9_end 26 = .ok (.ireturn, 1) := by decide +kernel
theorem dX9_law_0 : decode cX9_law 0 = .ok (.aload_n 0, 1) := by decide +kernel
theorem dX9_law_1 : decode cX9_law 1 = .ok (.getfield 10, 3) := by decide +kernel
theorem dX9_law_4 : decode cX9_law 4 = .ok (.sipush 700, 3) := by decide +kernel
theorem dX9_law_7 : decode cX9_law 7 = .ok (.invokevirtual 74, 3) := by decide +kernel
theorem dX9_law_10 : decode cX9_law 10 = .ok (.aload_n 0, 1) := by decide +kernel
theorem dX9_law_11 : decode cX9_law 11 = .ok (.aload_n 0, 1) := by decide +kernel
theorem dX9_law_12 : decode cX9_law 12 = .ok (.getfield 19, 3) := by decide +kernel
theorem dX9_law_15 : decode cX9_law 15 = .ok (.aload_n 0, 1) := by decide +kernel
theorem dX9_law_16 : decode cX9_law 16 = .ok (.getfield 10, 3) := by decide +kernel
theorem dX9_law_19 : decode cX9_law 19 = .ok (.invokevirtual 77, 3) := by decide +kernel
theorem dX9_law_22 : decode cX9_law 22 = .ok (.putfield 81, 3) := by decide +kernel
theorem dX9_law_25 : decode cX9_law 25 = .ok (.aload_n 0, 1) := by decide +kernel
theorem dX9_law_26 : decode cX9_law 26 = .ok (.getfield 10, 3) := by decide +kernel
theorem dX9_law_29 : decode cX9_law 29 = .ok (.iconst 0, 1) := by decide +kernel
theorem dX9_law_30 : decode cX9_law 30 = .ok (.putfield 66, 3) := by decide +kernel
theorem dX9_law_33 : decode cX9_law 33 = .ok (.aload_n 0, 1) := by decide +kernel
theorem dX9_law_34 : decode cX9_law 34 = .ok (.getfield 81, 3) := by decide +kernel
theorem dX9_law_37 : decode cX9_law 37 = .ok (.ifCond .eq 13, 3) := by decide +kernel
theorem dX9_law_40 : decode cX9_law 40 = .ok (.iconst (-1), 1) := by decide +kernel
theorem dX9_law_41 : decode cX9_law 41 = .ok (.aload_n 0, 1) := by decide +kernel
theorem dX9_law_42 : decode cX9_law 42 = .ok (.getfield 10, 3) := by decide +kernel
theorem dX9_law_45 : decode cX9_law 45 = .ok (.getfield 84, 3) := by decide +kernel
theorem dX9_law_48 : decode cX9_law 48 = .ok (.isub, 1) := by decide +kernel
theorem dX9_law_49 : decode cX9_law 49 = .ok (.ireturn, 1) := by decide +kernel
theorem dX9_law_50 : decode cX9_law 50 = .ok (.aload_n 0, 1) := by decide +kernel
theorem dX9_law_51 : decode cX9_law 51 = .ok (.getfield 33, 3) := by decide +kernel
theorem dX9_law_54 : decode cX9_law 54 = .ok (.aload_n 0, 1) := by decide +kernel
theorem dX9_law_55 : decode cX9_law 55 = .ok (.getfield 19, 3) := by decide +kernel
theorem dX9_law_58 : decode cX9_law 58 = .ok (.invokevirtual 87, 3) := by decide +kernel
theorem dX9_law_61 : decode cX9_law 61 = .ok (.aload_n 0, 1) := by decide +kernel
theorem dX9_law_62 : decode cX9_law 62 = .ok (.getfield 40, 3) := by decide +kernel
theorem dX9_law_65 : decode cX9_law 65 = .ok (.invokevirtual 91, 3) := by decide +kernel
theorem dX9_law_68 : decode cX9_law 68 = .ok (.aload_n 0, 1) := by decide +kernel
theorem dX9_law_69 : decode cX9_law 69 = .ok (.getfield 19, 3) := by decide +kernel
theorem dX9_law_72 : decode cX9_law 72 = .ok (.getfield 94, 3) := by decide +kernel
theorem dX9_law_75 : decode cX9_law 75 = .ok (.ireturn, 1) := by decide +kernel
theorem dX9_fault_0 : decode cX9_fault 0 = .ok (.aload_n 0, 1) := by decide +kernel
theorem dX9_fault_1 : decode cX9_fault 1 = .ok (.getfield 81, 3) := by decide +kernel
theorem dX9_fault_4 : decode cX9_fault 4 = .ok (.ireturn, 1) := by decide +kernel
theorem dX9_who_0 : decode cX9_who 0 = .ok (.aload_n 0, 1) := by decide +kernel
theorem dX9_who_1 : decode cX9_who 1 = .ok (.getfield 33, 3) := by decide +kernel
theorem dX9_who_4 : decode cX9_who 4 = .ok (.iload_n 1, 1) := by decide +kernel
theorem dX9_who_5 : decode cX9_who 5 = .ok (.invokevirtual 97, 3) := by decide +kernel
theorem dX9_who_8 : decode cX9_who 8 = .ok (.ifCond .ne 13, 3) := by decide +kernel
theorem dX9_who_11 : decode cX9_who 11 = .ok (.new 101, 3) := by decide +kernel
theorem dX9_who_14 : decode cX9_who 14 = .ok (.dup, 1) := by decide +kernel
theorem dX9_who_15 : decode cX9_who 15 = .ok (.ldc 103, 2) := by decide +kernel
theorem dX9_who_17 : decode cX9_who 17 = .ok (.invokespecial 105, 3) := by decide +kernel
theorem dX9_who_20 : decode cX9_who 20 = .ok (.athrow, 1) := by decide +kernel
theorem dX9_who_21 : decode cX9_who 21 = .ok (.iload_n 2, 1) := by decide +kernel
theorem dX9_who_22 : decode cX9_who 22 = .ok (.tableswitch 117 0 5 #[38, 51, 64, 84, 96, 108], 38) := by decide +kernel
theorem dX9_who_60 : decode cX9_who 60 = .ok (.aload_n 0, 1) := by decide +kernel
theorem dX9_who_61 : decode cX9_who 61 = .ok (.getfield 33, 3) := by decide +kernel
theorem dX9_who_64 : decode cX9_who 64 = .ok (.getfield 108, 3) := by decide +kernel
theorem dX9_who_67 : decode cX9_who 67 = .ok (.getfield 111, 3) := by decide +kernel
theorem dX9_who_70 : decode cX9_who 70 = .ok (.iload_n 1, 1) := by decide +kernel
theorem dX9_who_71 : decode cX9_who 71 = .ok (.iaload, 1) := by decide +kernel
theorem dX9_who_72 : decode cX9_who 72 = .ok (.ireturn, 1) := by decide +kernel
theorem dX9_who_73 : decode cX9_who 73 = .ok (.aload_n 0, 1) := by decide +kernel
theorem dX9_who_74 : decode cX9_who 74 = .ok (.getfield 33, 3) := by decide +kernel
theorem dX9_who_77 : decode cX9_who 77 = .ok (.getfield 108, 3) := by decide +kernel
theorem dX9_who_80 : decode cX9_who 80 = .ok (.getfield 114, 3) := by decide +kernel
theorem dX9_who_83 : decode cX9_who 83 = .ok (.iload_n 1, 1) := by decide +kernel
theorem dX9_who_84 : decode cX9_who 84 = .ok (.iaload, 1) := by decide +kernel
theorem dX9_who_85 : decode cX9_who 85 = .ok (.ireturn, 1) := by decide +kernel
theorem dX9_who_86 : decode cX9_who 86 = .ok (.aload_n 0, 1) := by decide +kernel
theorem dX9_who_87 : decode cX9_who 87 = .ok (.getfield 33, 3) := by decide +kernel
theorem dX9_who_90 : decode cX9_who 90 = .ok (.getfield 117, 3) := by decide +kernel
theorem dX9_who_93 : decode cX9_who 93 = .ok (.iload_n 1, 1) := by decide +kernel
theorem dX9_who_94 : decode cX9_who 94 = .ok (.invokevirtual 121, 3) := by decide +kernel
theorem dX9_who_97 : decode cX9_who 97 = .ok (.ifCond .eq 7, 3) := by decide +kernel
theorem dX9_who_100 : decode cX9_who 100 = .ok (.iconst 1, 1) := by decide +kernel
theorem dX9_who_101 : decode cX9_who 101 = .ok (.goto 4, 3) := by decide +kernel
theorem dX9_who_104 : decode cX9_who 104 = .ok (.iconst 0, 1) := by decide +kernel
theorem dX9_who_105 : decode cX9_who 105 = .ok (.ireturn, 1) := by decide +kernel
theorem dX9_who_106 : decode cX9_who 106 = .ok (.aload_n 0, 1) := by decide +kernel
theorem dX9_who_107 : decode cX9_who 107 = .ok (.getfield 33, 3) := by decide +kernel
theorem dX9_who_110 : decode cX9_who 110 = .ok (.getfield 117, 3) := by decide +kernel
theorem dX9_who_113 : decode cX9_who 113 = .ok (.iload_n 1, 1) := by decide +kernel
theorem dX9_who_114 : decode cX9_who 114 = .ok (.invokevirtual 126, 3) := by decide +kernel
theorem dX9_who_117 : decode cX9_who 117 = .ok (.ireturn, 1) := by decide +kernel
theorem dX9_who_118 : decode cX9_who 118 = .ok (.aload_n 0, 1) := by decide +kernel
theorem dX9_who_119 : decode cX9_who 119 = .ok (.getfield 33, 3) := by decide +kernel
theorem dX9_who_122 : decode cX9_who 122 = .ok (.getfield 117, 3) := by decide +kernel
theorem dX9_who_125 : decode cX9_who 125 = .ok (.iload_n 1, 1) := by decide +kernel
theorem dX9_who_126 : decode cX9_who 126 = .ok (.invokevirtual 130, 3) := by decide +kernel
theorem dX9_who_129 : decode cX9_who 129 = .ok (.ireturn, 1) := by decide +kernel
theorem dX9_who_130 : decode cX9_who 130 = .ok (.aload_n 0, 1) := by decide +kernel
theorem dX9_who_131 : decode cX9_who 131 = .ok (.getfield 33, 3) := by decide +kernel
theorem dX9_who_134 : decode cX9_who 134 = .ok (.iload_n 1, 1) := by decide +kernel
theorem dX9_who_135 : decode cX9_who 135 = .ok (.invokevirtual 133, 3) := by decide +kernel
theorem dX9_who_138 : decode cX9_who 138 = .ok (.ireturn, 1) := by decide +kernel
theorem dX9_who_139 : decode cX9_who 139 = .ok (.new 101, 3) := by decide +kernel
theorem dX9_who_142 : decode cX9_who 142 = .ok (.dup, 1) := by decide +kernel
theorem dX9_who_143 : decode cX9_who 143 = .ok (.ldc 136, 2) := by decide +kernel
theorem dX9_who_145 : decode cX9_who 145 = .ok (.invokespecial 105, 3) := by decide +kernel
theorem dX9_who_148 : decode cX9_who 148 = .ok (.athrow, 1) := by decide +kernel
theorem dX9_mint_0 : decode cX9_mint 0 = .ok (.aload_n 0, 1) := by decide +kernel
theorem dX9_mint_1 : decode cX9_mint 1 = .ok (.getfield 33, 3) := by decide +kernel
theorem dX9_mint_4 : decode cX9_mint 4 = .ok (.iload_n 1, 1) := by decide +kernel
theorem dX9_mint_5 : decode cX9_mint 5 = .ok (.invokevirtual 138, 3) := by decide +kernel
theorem dX9_mint_8 : decode cX9_mint 8 = .ok (.ifCond .ne 13, 3) := by decide +kernel
theorem dX9_mint_11 : decode cX9_mint 11 = .ok (.new 101, 3) := by decide +kernel
theorem dX9_mint_14 : decode cX9_mint 14 = .ok (.dup, 1) := by decide +kernel
theorem dX9_mint_15 : decode cX9_mint 15 = .ok (.ldc 141, 2) := by decide +kernel
theorem dX9_mint_17 : decode cX9_mint 17 = .ok (.invokespecial 105, 3) := by decide +kernel
theorem dX9_mint_20 : decode cX9_mint 20 = .ok (.athrow, 1) := by decide +kernel
theorem dX9_mint_21 : decode cX9_mint 21 = .ok (.iload_n 2, 1) := by decide +kernel
theorem dX9_mint_22 : decode cX9_mint 22 = .ok (.tableswitch 85 0 3 #[30, 43, 56, 76], 30) := by decide +kernel
theorem dX9_mint_52 : decode cX9_mint 52 = .ok (.aload_n 0, 1) := by decide +kernel
theorem dX9_mint_53 : decode cX9_mint 53 = .ok (.getfield 33, 3) := by decide +kernel
theorem dX9_mint_56 : decode cX9_mint 56 = .ok (.getfield 108, 3) := by decide +kernel
theorem dX9_mint_59 : decode cX9_mint 59 = .ok (.getfield 143, 3) := by decide +kernel
theorem dX9_mint_62 : decode cX9_mint 62 = .ok (.iload_n 1, 1) := by decide +kernel
theorem dX9_mint_63 : decode cX9_mint 63 = .ok (.iaload, 1) := by decide +kernel
theorem dX9_mint_64 : decode cX9_mint 64 = .ok (.ireturn, 1) := by decide +kernel
theorem dX9_mint_65 : decode cX9_mint 65 = .ok (.aload_n 0, 1) := by decide +kernel
theorem dX9_mint_66 : decode cX9_mint 66 = .ok (.getfield 33, 3) := by decide +kernel
theorem dX9_mint_69 : decode cX9_mint 69 = .ok (.getfield 108, 3) := by decide +kernel
theorem dX9_mint_72 : decode cX9_mint 72 = .ok (.getfield 146, 3) := by decide +kernel
theorem dX9_mint_75 : decode cX9_mint 75 = .ok (.iload_n 1, 1) := by decide +kernel
theorem dX9_mint_76 : decode cX9_mint 76 = .ok (.iaload, 1) := by decide +kernel
theorem dX9_mint_77 : decode cX9_mint 77 = .ok (.ireturn, 1) := by decide +kernel
theorem dX9_mint_78 : decode cX9_mint 78 = .ok (.aload_n 0, 1) := by decide +kernel
theorem dX9_mint_79 : decode cX9_mint 79 = .ok (.getfield 33, 3) := by decide +kernel
theorem dX9_mint_82 : decode cX9_mint 82 = .ok (.getfield 117, 3) := by decide +kernel
theorem dX9_mint_85 : decode cX9_mint 85 = .ok (.iload_n 1, 1) := by decide +kernel
theorem dX9_mint_86 : decode cX9_mint 86 = .ok (.invokevirtual 149, 3) := by decide +kernel
theorem dX9_mint_89 : decode cX9_mint 89 = .ok (.ifCond .eq 7, 3) := by decide +kernel
theorem dX9_mint_92 : decode cX9_mint 92 = .ok (.iconst 1, 1) := by decide +kernel
theorem dX9_mint_93 : decode cX9_mint 93 = .ok (.goto 4, 3) := by decide +kernel
theorem dX9_mint_96 : decode cX9_mint 96 = .ok (.iconst 0, 1) := by decide +kernel
theorem dX9_mint_97 : decode cX9_mint 97 = .ok (.ireturn, 1) := by decide +kernel
theorem dX9_mint_98 : decode cX9_mint 98 = .ok (.aload_n 0, 1) := by decide +kernel
theorem dX9_mint_99 : decode cX9_mint 99 = .ok (.getfield 33, 3) := by decide +kernel
theorem dX9_mint_102 : decode cX9_mint 102 = .ok (.iload_n 1, 1) := by decide +kernel
theorem dX9_mint_103 : decode cX9_mint 103 = .ok (.invokevirtual 152, 3) := by decide +kernel
theorem dX9_mint_106 : decode cX9_mint 106 = .ok (.ireturn, 1) := by decide +kernel
theorem dX9_mint_107 : decode cX9_mint 107 = .ok (.new 101, 3) := by decide +kernel
theorem dX9_mint_110 : decode cX9_mint 110 = .ok (.dup, 1) := by decide +kernel
theorem dX9_mint_111 : decode cX9_mint 111 = .ok (.ldc 155, 2) := by decide +kernel
theorem dX9_mint_113 : decode cX9_mint 113 = .ok (.invokespecial 105, 3) := by decide +kernel
theorem dX9_mint_116 : decode cX9_mint 116 = .ok (.athrow, 1) := by decide +kernel
theorem dX9_coin_0 : decode cX9_coin 0 = .ok (.aload_n 0, 1) := by decide +kernel
theorem dX9_coin_1 : decode cX9_coin 1 = .ok (.getfield 33, 3) := by decide +kernel
theorem dX9_coin_4 : decode cX9_coin 4 = .ok (.iload_n 1, 1) := by decide +kernel
theorem dX9_coin_5 : decode cX9_coin 5 = .ok (.invokevirtual 157, 3) := by decide +kernel
theorem dX9_coin_8 : decode cX9_coin 8 = .ok (.ifCond .eq 14, 3) := by decide +kernel
theorem dX9_coin_11 : decode cX9_coin 11 = .ok (.aload_n 0, 1) := by decide +kernel
theorem dX9_coin_12 : decode cX9_coin 12 = .ok (.getfield 33, 3) := by decide +kernel
theorem dX9_coin_15 : decode cX9_coin 15 = .ok (.iload_n 3, 1) := by decide +kernel
theorem dX9_coin_16 : decode cX9_coin 16 = .ok (.invokevirtual 138, 3) := by decide +kernel
theorem dX9_coin_19 : decode cX9_coin 19 = .ok (.ifCond .ne 5, 3) := by decide +kernel
theorem dX9_coin_22 : decode cX9_coin 22 = .ok (.iconst (-1), 1) := by decide +kernel
theorem dX9_coin_23 : decode cX9_coin 23 = .ok (.ireturn, 1) := by decide +kernel
theorem dX9_coin_24 : decode cX9_coin 24 = .ok (.iload_n 2, 1) := by decide +kernel
theorem dX9_coin_25 : decode cX9_coin 25 = .ok (.iconst 1, 1) := by decide +kernel
theorem dX9_coin_26 : decode cX9_coin 26 = .ok (.if_icmp .lt 10, 3) := by decide +kernel
theorem dX9_coin_29 : decode cX9_coin 29 = .ok (.iload_n 2, 1) := by decide +kernel
theorem dX9_coin_30 : decode cX9_coin 30 = .ok (.sipush 9999, 3) := by decide +kernel
theorem dX9_coin_33 : decode cX9_coin 33 = .ok (.if_icmp .le 5, 3) := by decide +kernel
theorem dX9_coin_36 : decode cX9_coin 36 = .ok (.iconst (-1), 1) := by decide +kernel
theorem dX9_coin_37 : decode cX9_coin 37 = .ok (.ireturn, 1) := by decide +kernel
theorem dX9_coin_38 : decode cX9_coin 38 = .ok (.aload_n 0, 1) := by decide +kernel
theorem dX9_coin_39 : decode cX9_coin 39 = .ok (.getfield 33, 3) := by decide +kernel
theorem dX9_coin_42 : decode cX9_coin 42 = .ok (.iload_n 2, 1) := by decide +kernel
theorem dX9_coin_43 : decode cX9_coin 43 = .ok (.iconst 0, 1) := by decide +kernel
theorem dX9_coin_44 : decode cX9_coin 44 = .ok (.iload_n 3, 1) := by decide +kernel
theorem dX9_coin_45 : decode cX9_coin 45 = .ok (.invokevirtual 160, 3) := by decide +kernel
theorem dX9_coin_48 : decode cX9_coin 48 = .ok (.ifCond .eq 5, 3) := by decide +kernel
theorem dX9_coin_51 : decode cX9_coin 51 = .ok (.iconst (-1), 1) := by decide +kernel
theorem dX9_coin_52 : decode cX9_coin 52 = .ok (.ireturn, 1) := by decide +kernel
theorem dX9_coin_53 : decode cX9_coin 53 = .ok (.aload_n 0, 1) := by decide +kernel
theorem dX9_coin_54 : decode cX9_coin 54 = .ok (.getfield 33, 3) := by decide +kernel
theorem dX9_coin_57 : decode cX9_coin 57 = .ok (.getfield 117, 3) := by decide +kernel
theorem dX9_coin_60 : decode cX9_coin 60 = .ok (.getfield 164, 3) := by decide +kernel
theorem dX9_coin_63 : decode cX9_coin 63 = .ok (.bipush 40, 2) := by decide +kernel
theorem dX9_coin_65 : decode cX9_coin 65 = .ok (.if_icmp .ge 14, 3) := by decide +kernel
theorem dX9_coin_68 : decode cX9_coin 68 = .ok (.aload_n 0, 1) := by decide +kernel
theorem dX9_coin_69 : decode cX9_coin 69 = .ok (.getfield 33, 3) := by decide +kernel
theorem dX9_coin_72 : decode cX9_coin 72 = .ok (.invokevirtual 167, 3) := by decide +kernel
theorem dX9_coin_75 : decode cX9_coin 75 = .ok (.iconst 1, 1) := by decide +kernel
theorem dX9_coin_76 : decode cX9_coin 76 = .ok (.if_icmp .ge 5, 3) := by decide +kernel
theorem dX9_coin_79 : decode cX9_coin 79 = .ok (.iconst (-1), 1) := by decide +kernel
theorem dX9_coin_80 : decode cX9_coin 80 = .ok (.ireturn, 1) := by decide +kernel
theorem dX9_coin_81 : decode cX9_coin 81 = .ok (.aload_n 0, 1) := by decide +kernel
theorem dX9_coin_82 : decode cX9_coin 82 = .ok (.getfield 40, 3) := by decide +kernel
theorem dX9_coin_85 : decode cX9_coin 85 = .ok (.aload_n 0, 1) := by decide +kernel
theorem dX9_coin_86 : decode cX9_coin 86 = .ok (.getfield 33, 3) := by decide +kernel
theorem dX9_coin_89 : decode cX9_coin 89 = .ok (.getfield 117, 3) := by decide +kernel
theorem dX9_coin_92 : decode cX9_coin 92 = .ok (.invokevirtual 171, 3) := by decide +kernel
theorem dX9_coin_95 : decode cX9_coin 95 = .ok (.aload_n 0, 1) := by decide +kernel
theorem dX9_coin_96 : decode cX9_coin 96 = .ok (.getfield 33, 3) := by decide +kernel
theorem dX9_coin_99 : decode cX9_coin 99 = .ok (.getfield 117, 3) := by decide +kernel
theorem dX9_coin_102 : decode cX9_coin 102 = .ok (.iload_n 1, 1) := by decide +kernel
theorem dX9_coin_103 : decode cX9_coin 103 = .ok (.iload_n 2, 1) := by decide +kernel
theorem dX9_coin_104 : decode cX9_coin 104 = .ok (.invokevirtual 175, 3) := by decide +kernel
theorem dX9_coin_107 : decode cX9_coin 107 = .ok (.istore 4, 2) := by decide +kernel
theorem dX9_coin_109 : decode cX9_coin 109 = .ok (.aload_n 0, 1) := by decide +kernel
theorem dX9_coin_110 : decode cX9_coin 110 = .ok (.getfield 33, 3) := by decide +kernel
theorem dX9_coin_113 : decode cX9_coin 113 = .ok (.iload 4, 2) := by decide +kernel
theorem dX9_coin_115 : decode cX9_coin 115 = .ok (.iload_n 1, 1) := by decide +kernel
theorem dX9_coin_116 : decode cX9_coin 116 = .ok (.iload_n 3, 1) := by decide +kernel
theorem dX9_coin_117 : decode cX9_coin 117 = .ok (.iconst (-1), 1) := by decide +kernel
theorem dX9_coin_118 : decode cX9_coin 118 = .ok (.iconst 0, 1) := by decide +kernel
theorem dX9_coin_119 : decode cX9_coin 119 = .ok (.invokevirtual 179, 3) := by decide +kernel
theorem dX9_coin_122 : decode cX9_coin 122 = .ok (.iload 4, 2) := by decide +kernel
theorem dX9_coin_124 : decode cX9_coin 124 = .ok (.ireturn, 1) := by decide +kernel
theorem dX9_of_0 : decode cX9_of 0 = .ok (.aload_n 0, 1) := by decide +kernel
theorem dX9_of_1 : decode cX9_of 1 = .ok (.getfield 33, 3) := by decide +kernel
theorem dX9_of_4 : decode cX9_of 4 = .ok (.iload_n 1, 1) := by decide +kernel
theorem dX9_of_5 : decode cX9_of 5 = .ok (.invokevirtual 183, 3) := by decide +kernel
theorem dX9_of_8 : decode cX9_of 8 = .ok (.ifCond .ne 13, 3) := by decide +kernel
theorem dX9_of_11 : decode cX9_of 11 = .ok (.new 101, 3) := by decide +kernel
theorem dX9_of_14 : decode cX9_of 14 = .ok (.dup, 1) := by decide +kernel
theorem dX9_of_15 : decode cX9_of 15 = .ok (.ldc 186, 2) := by decide +kernel
theorem dX9_of_17 : decode cX9_of 17 = .ok (.invokespecial 105, 3) := by decide +kernel
theorem dX9_of_20 : decode cX9_of 20 = .ok (.athrow, 1) := by decide +kernel
theorem dX9_of_21 : decode cX9_of 21 = .ok (.iload_n 2, 1) := by decide +kernel
theorem dX9_of_22 : decode cX9_of 22 = .ok (.tableswitch 103 0 4 #[34, 47, 60, 73, 86], 34) := by decide +kernel
theorem dX9_of_56 : decode cX9_of 56 = .ok (.aload_n 0, 1) := by decide +kernel
theorem dX9_of_57 : decode cX9_of 57 = .ok (.getfield 33, 3) := by decide +kernel
theorem dX9_of_60 : decode cX9_of 60 = .ok (.getfield 117, 3) := by decide +kernel
theorem dX9_of_63 : decode cX9_of 63 = .ok (.getfield 188, 3) := by decide +kernel
theorem dX9_of_66 : decode cX9_of 66 = .ok (.iload_n 1, 1) := by decide +kernel
theorem dX9_of_67 : decode cX9_of 67 = .ok (.iaload, 1) := by decide +kernel
theorem dX9_of_68 : decode cX9_of 68 = .ok (.ireturn, 1) := by decide +kernel
theorem dX9_of_69 : decode cX9_of 69 = .ok (.aload_n 0, 1) := by decide +kernel
theorem dX9_of_70 : decode cX9_of 70 = .ok (.getfield 33, 3) := by decide +kernel
theorem dX9_of_73 : decode cX9_of 73 = .ok (.getfield 117, 3) := by decide +kernel
theorem dX9_of_76 : decode cX9_of 76 = .ok (.getfield 191, 3) := by decide +kernel
theorem dX9_of_79 : decode cX9_of 79 = .ok (.iload_n 1, 1) := by decide +kernel
theorem dX9_of_80 : decode cX9_of 80 = .ok (.iaload, 1) := by decide +kernel
theorem dX9_of_81 : decode cX9_of 81 = .ok (.ireturn, 1) := by decide +kernel
theorem dX9_of_82 : decode cX9_of 82 = .ok (.aload_n 0, 1) := by decide +kernel
theorem dX9_of_83 : decode cX9_of 83 = .ok (.getfield 33, 3) := by decide +kernel
theorem dX9_of_86 : decode cX9_of 86 = .ok (.getfield 117, 3) := by decide +kernel
theorem dX9_of_89 : decode cX9_of 89 = .ok (.getfield 194, 3) := by decide +kernel
theorem dX9_of_92 : decode cX9_of 92 = .ok (.iload_n 1, 1) := by decide +kernel
theorem dX9_of_93 : decode cX9_of 93 = .ok (.iaload, 1) := by decide +kernel
theorem dX9_of_94 : decode cX9_of 94 = .ok (.ireturn, 1) := by decide +kernel
theorem dX9_of_95 : decode cX9_of 95 = .ok (.aload_n 0, 1) := by decide +kernel
theorem dX9_of_96 : decode cX9_of 96 = .ok (.getfield 33, 3) := by decide +kernel
theorem dX9_of_99 : decode cX9_of 99 = .ok (.getfield 117, 3) := by decide +kernel
theorem dX9_of_102 : decode cX9_of 102 = .ok (.getfield 197, 3) := by decide +kernel
theorem dX9_of_105 : decode cX9_of 105 = .ok (.iload_n 1, 1) := by decide +kernel
theorem dX9_of_106 : decode cX9_of 106 = .ok (.iaload, 1) := by decide +kernel
theorem dX9_of_107 : decode cX9_of 107 = .ok (.ireturn, 1) := by decide +kernel
theorem dX9_of_108 : decode cX9_of 108 = .ok (.aload_n 0, 1) := by decide +kernel
theorem dX9_of_109 : decode cX9_of 109 = .ok (.getfield 33, 3) := by decide +kernel
theorem dX9_of_112 : decode cX9_of 112 = .ok (.iload_n 1, 1) := by decide +kernel
theorem dX9_of_113 : decode cX9_of 113 = .ok (.invokevirtual 200, 3) := by decide +kernel
theorem dX9_of_116 : decode cX9_of 116 = .ok (.ifCond .eq 7, 3) := by decide +kernel
theorem dX9_of_119 : decode cX9_of 119 = .ok (.iconst 1, 1) := by decide +kernel
theorem dX9_of_120 : decode cX9_of 120 = .ok (.goto 4, 3) := by decide +kernel
theorem dX9_of_123 : decode cX9_of 123 = .ok (.iconst 0, 1) := by decide +kernel
theorem dX9_of_124 : decode cX9_of 124 = .ok (.ireturn, 1) := by decide +kernel
theorem dX9_of_125 : decode cX9_of 125 = .ok (.new 101, 3) := by decide +kernel
theorem dX9_of_128 : decode cX9_of 128 = .ok (.dup, 1) := by decide +kernel
theorem dX9_of_129 : decode cX9_of 129 = .ok (.ldc 203, 2) := by decide +kernel
theorem dX9_of_131 : decode cX9_of 131 = .ok (.invokespecial 105, 3) := by decide +kernel
theorem dX9_of_134 : decode cX9_of 134 = .ok (.athrow, 1) := by decide +kernel
theorem dX9_face_0 : decode cX9_face 0 = .ok (.aload_n 0, 1) := by decide +kernel
theorem dX9_face_1 : decode cX9_face 1 = .ok (.getfield 33, 3) := by decide +kernel
theorem dX9_face_4 : decode cX9_face 4 = .ok (.iload_n 1, 1) := by decide +kernel
theorem dX9_face_5 : decode cX9_face 5 = .ok (.invokevirtual 183, 3) := by decide +kernel
theorem dX9_face_8 : decode cX9_face 8 = .ok (.ifCond .eq 23, 3) := by decide +kernel
theorem dX9_face_11 : decode cX9_face 11 = .ok (.iload_n 2, 1) := by decide +kernel
theorem dX9_face_12 : decode cX9_face 12 = .ok (.ifCond .lt 19, 3) := by decide +kernel
theorem dX9_face_15 : decode cX9_face 15 = .ok (.iload_n 2, 1) := by decide +kernel
theorem dX9_face_16 : decode cX9_face 16 = .ok (.aload_n 0, 1) := by decide +kernel
theorem dX9_face_17 : decode cX9_face 17 = .ok (.getfield 33, 3) := by decide +kernel
theorem dX9_face_20 : decode cX9_face 20 = .ok (.getfield 117, 3) := by decide +kernel
theorem dX9_face_23 : decode cX9_face 23 = .ok (.getfield 194, 3) := by decide +kernel
theorem dX9_face_26 : decode cX9_face 26 = .ok (.iload_n 1, 1) := by decide +kernel
theorem dX9_face_27 : decode cX9_face 27 = .ok (.iaload, 1) := by decide +kernel
theorem dX9_face_28 : decode cX9_face 28 = .ok (.if_icmp .lt 5, 3) := by decide +kernel
theorem dX9_face_31 : decode cX9_face 31 = .ok (.iconst (-1), 1) := by decide +kernel
theorem dX9_face_32 : decode cX9_face 32 = .ok (.ireturn, 1) := by decide +kernel
theorem dX9_face_33 : decode cX9_face 33 = .ok (.iload_n 3, 1) := by decide +kernel
theorem dX9_face_34 : decode cX9_face 34 = .ok (.tableswitch 62 0 2 #[26, 36, 49], 26) := by decide +kernel
theorem dX9_face_60 : decode cX9_face 60 = .ok (.aload_n 0, 1) := by decide +kernel
theorem dX9_face_61 : decode cX9_face 61 = .ok (.getfield 33, 3) := by decide +kernel
theorem dX9_face_64 : decode cX9_face 64 = .ok (.iload_n 1, 1) := by decide +kernel
theorem dX9_face_65 : decode cX9_face 65 = .ok (.iload_n 2, 1) := by decide +kernel
theorem dX9_face_66 : decode cX9_face 66 = .ok (.invokevirtual 205, 3) := by decide +kernel
theorem dX9_face_69 : decode cX9_face 69 = .ok (.ireturn, 1) := by decide +kernel
theorem dX9_face_70 : decode cX9_face 70 = .ok (.aload_n 0, 1) := by decide +kernel
theorem dX9_face_71 : decode cX9_face 71 = .ok (.getfield 33, 3) := by decide +kernel
theorem dX9_face_74 : decode cX9_face 74 = .ok (.getfield 117, 3) := by decide +kernel
theorem dX9_face_77 : decode cX9_face 77 = .ok (.iload_n 1, 1) := by decide +kernel
theorem dX9_face_78 : decode cX9_face 78 = .ok (.iload_n 2, 1) := by decide +kernel
theorem dX9_face_79 : decode cX9_face 79 = .ok (.invokevirtual 208, 3) := by decide +kernel
theorem dX9_face_82 : decode cX9_face 82 = .ok (.ireturn, 1) := by decide +kernel
theorem dX9_face_83 : decode cX9_face 83 = .ok (.aload_n 0, 1) := by decide +kernel
theorem dX9_face_84 : decode cX9_face 84 = .ok (.getfield 33, 3) := by decide +kernel
theorem dX9_face_87 : decode cX9_face 87 = .ok (.getfield 117, 3) := by decide +kernel
theorem dX9_face_90 : decode cX9_face 90 = .ok (.iload_n 1, 1) := by decide +kernel
theorem dX9_face_91 : decode cX9_face 91 = .ok (.iload_n 2, 1) := by decide +kernel
theorem dX9_face_92 : decode cX9_face 92 = .ok (.invokevirtual 211, 3) := by decide +kernel
theorem dX9_face_95 : decode cX9_face 95 = .ok (.ireturn, 1) := by decide +kernel
theorem dX9_face_96 : decode cX9_face 96 = .ok (.iconst (-1), 1) := by decide +kernel
theorem dX9_face_97 : decode cX9_face 97 = .ok (.ireturn, 1) := by decide +kernel
theorem dX9_value_0 : decode cX9_value 0 = .ok (.aload_n 0, 1) := by decide +kernel
theorem dX9_value_1 : decode cX9_value 1 = .ok (.getfield 33, 3) := by decide +kernel
theorem dX9_value_4 : decode cX9_value 4 = .ok (.iload_n 1, 1) := by decide +kernel
theorem dX9_value_5 : decode cX9_value 5 = .ok (.invokevirtual 97, 3) := by decide +kernel
theorem dX9_value_8 : decode cX9_value 8 = .ok (.ifCond .eq 14, 3) := by decide +kernel
theorem dX9_value_11 : decode cX9_value 11 = .ok (.aload_n 0, 1) := by decide +kernel
theorem dX9_value_12 : decode cX9_value 12 = .ok (.getfield 33, 3) := by decide +kernel
theorem dX9_value_15 : decode cX9_value 15 = .ok (.iload_n 2, 1) := by decide +kernel
theorem dX9_value_16 : decode cX9_value 16 = .ok (.invokevirtual 183, 3) := by decide +kernel
theorem dX9_value_19 : decode cX9_value 19 = .ok (.ifCond .ne 5, 3) := by decide +kernel
theorem dX9_value_22 : decode cX9_value 22 = .ok (.iconst (-1), 1) := by decide +kernel
theorem dX9_value_23 : decode cX9_value 23 = .ok (.ireturn, 1) := by decide +kernel
theorem dX9_value_24 : decode cX9_value 24 = .ok (.iload_n 3, 1) := by decide +kernel
theorem dX9_value_25 : decode cX9_value 25 = .ok (.lookupswitch 68 #[(0, 27), (1, 51)], 27) := by decide +kernel
theorem dX9_value_52 : decode cX9_value 52 = .ok (.aload_n 0, 1) := by decide +kernel
theorem dX9_value_53 : decode cX9_value 53 = .ok (.getfield 33, 3) := by decide +kernel
theorem dX9_value_56 : decode cX9_value 56 = .ok (.iload_n 1, 1) := by decide +kernel
theorem dX9_value_57 : decode cX9_value 57 = .ok (.aload_n 0, 1) := by decide +kernel
theorem dX9_value_58 : decode cX9_value 58 = .ok (.getfield 33, 3) := by decide +kernel
theorem dX9_value_61 : decode cX9_value 61 = .ok (.iload_n 2, 1) := by decide +kernel
theorem dX9_value_62 : decode cX9_value 62 = .ok (.invokevirtual 214, 3) := by decide +kernel
theorem dX9_value_65 : decode cX9_value 65 = .ok (.aload_n 0, 1) := by decide +kernel
theorem dX9_value_66 : decode cX9_value 66 = .ok (.getfield 33, 3) := by decide +kernel
theorem dX9_value_69 : decode cX9_value 69 = .ok (.invokevirtual 217, 3) := by decide +kernel
theorem dX9_value_72 : decode cX9_value 72 = .ok (.invokevirtual 220, 3) := by decide +kernel
theorem dX9_value_75 : decode cX9_value 75 = .ok (.ireturn, 1) := by decide +kernel
theorem dX9_value_76 : decode cX9_value 76 = .ok (.aload_n 0, 1) := by decide +kernel
theorem dX9_value_77 : decode cX9_value 77 = .ok (.getfield 33, 3) := by decide +kernel
theorem dX9_value_80 : decode cX9_value 80 = .ok (.iload_n 1, 1) := by decide +kernel
theorem dX9_value_81 : decode cX9_value 81 = .ok (.iload_n 2, 1) := by decide +kernel
theorem dX9_value_82 : decode cX9_value 82 = .ok (.aload_n 0, 1) := by decide +kernel
theorem dX9_value_83 : decode cX9_value 83 = .ok (.getfield 33, 3) := by decide +kernel
theorem dX9_value_86 : decode cX9_value 86 = .ok (.invokevirtual 217, 3) := by decide +kernel
theorem dX9_value_89 : decode cX9_value 89 = .ok (.invokevirtual 223, 3) := by decide +kernel
theorem dX9_value_92 : decode cX9_value 92 = .ok (.ireturn, 1) := by decide +kernel
theorem dX9_value_93 : decode cX9_value 93 = .ok (.iconst (-1), 1) := by decide +kernel
theorem dX9_value_94 : decode cX9_value 94 = .ok (.ireturn, 1) := by decide +kernel
theorem dX9_luck_0 : decode cX9_luck 0 = .ok (.aload_n 0, 1) := by decide +kernel
theorem dX9_luck_1 : decode cX9_luck 1 = .ok (.getfield 33, 3) := by decide +kernel
theorem dX9_luck_4 : decode cX9_luck 4 = .ok (.invokevirtual 217, 3) := by decide +kernel
theorem dX9_luck_7 : decode cX9_luck 7 = .ok (.ireturn, 1) := by decide +kernel
theorem dX9_bears_0 : decode cX9_bears 0 = .ok (.aload_n 0, 1) := by decide +kernel
theorem dX9_bears_1 : decode cX9_bears 1 = .ok (.getfield 33, 3) := by decide +kernel
theorem dX9_bears_4 : decode cX9_bears 4 = .ok (.iload_n 1, 1) := by decide +kernel
theorem dX9_bears_5 : decode cX9_bears 5 = .ok (.invokevirtual 183, 3) := by decide +kernel
theorem dX9_bears_8 : decode cX9_bears 8 = .ok (.ifCond .eq 14, 3) := by decide +kernel
theorem dX9_bears_11 : decode cX9_bears 11 = .ok (.aload_n 0, 1) := by decide +kernel
theorem dX9_bears_12 : decode cX9_bears 12 = .ok (.getfield 33, 3) := by decide +kernel
theorem dX9_bears_15 : decode cX9_bears 15 = .ok (.iload_n 2, 1) := by decide +kernel
theorem dX9_bears_16 : decode cX9_bears 16 = .ok (.invokevirtual 138, 3) := by decide +kernel
theorem dX9_bears_19 : decode cX9_bears 19 = .ok (.ifCond .ne 5, 3) := by decide +kernel
theorem dX9_bears_22 : decode cX9_bears 22 = .ok (.iconst (-1), 1) := by decide +kernel
theorem dX9_bears_23 : decode cX9_bears 23 = .ok (.ireturn, 1) := by decide +kernel
theorem dX9_bears_24 : decode cX9_bears 24 = .ok (.aload_n 0, 1) := by decide +kernel
theorem dX9_bears_25 : decode cX9_bears 25 = .ok (.getfield 33, 3) := by decide +kernel
theorem dX9_bears_28 : decode cX9_bears 28 = .ok (.getfield 117, 3) := by decide +kernel
theorem dX9_bears_31 : decode cX9_bears 31 = .ok (.getfield 188, 3) := by decide +kernel
theorem dX9_bears_34 : decode cX9_bears 34 = .ok (.iload_n 1, 1) := by decide +kernel
theorem dX9_bears_35 : decode cX9_bears 35 = .ok (.iaload, 1) := by decide +kernel
theorem dX9_bears_36 : decode cX9_bears 36 = .ok (.istore_n 3, 1) := by decide +kernel
theorem dX9_bears_37 : decode cX9_bears 37 = .ok (.aload_n 0, 1) := by decide +kernel
theorem dX9_bears_38 : decode cX9_bears 38 = .ok (.getfield 33, 3) := by decide +kernel
theorem dX9_bears_41 : decode cX9_bears 41 = .ok (.getfield 117, 3) := by decide +kernel
theorem dX9_bears_44 : decode cX9_bears 44 = .ok (.getfield 197, 3) := by decide +kernel
theorem dX9_bears_47 : decode cX9_bears 47 = .ok (.iload_n 1, 1) := by decide +kernel
theorem dX9_bears_48 : decode cX9_bears 48 = .ok (.iaload, 1) := by decide +kernel
theorem dX9_bears_49 : decode cX9_bears 49 = .ok (.istore 4, 2) := by decide +kernel
theorem dX9_bears_51 : decode cX9_bears 51 = .ok (.iconst 0, 1) := by decide +kernel
theorem dX9_bears_52 : decode cX9_bears 52 = .ok (.istore 5, 2) := by decide +kernel
theorem dX9_bears_54 : decode cX9_bears 54 = .ok (.iload 5, 2) := by decide +kernel
theorem dX9_bears_56 : decode cX9_bears 56 = .ok (.bipush 9, 2) := by decide +kernel
theorem dX9_bears_58 : decode cX9_bears 58 = .ok (.if_icmp .ge 41, 3) := by decide +kernel
theorem dX9_bears_61 : decode cX9_bears 61 = .ok (.aload_n 0, 1) := by decide +kernel
theorem dX9_bears_62 : decode cX9_bears 62 = .ok (.getfield 33, 3) := by decide +kernel
theorem dX9_bears_65 : decode cX9_bears 65 = .ok (.iload_n 3, 1) := by decide +kernel
theorem dX9_bears_66 : decode cX9_bears 66 = .ok (.iload 4, 2) := by decide +kernel
theorem dX9_bears_68 : decode cX9_bears 68 = .ok (.iload 5, 2) := by decide +kernel
theorem dX9_bears_70 : decode cX9_bears 70 = .ok (.iadd, 1) := by decide +kernel
theorem dX9_bears_71 : decode cX9_bears 71 = .ok (.iload_n 2, 1) := by decide +kernel
theorem dX9_bears_72 : decode cX9_bears 72 = .ok (.invokevirtual 160, 3) := by decide +kernel
theorem dX9_bears_75 : decode cX9_bears 75 = .ok (.ifCond .ne 24, 3) := by decide +kernel
theorem dX9_bears_78 : decode cX9_bears 78 = .ok (.iload_n 3, 1) := by decide +kernel
theorem dX9_bears_79 : decode cX9_bears 79 = .ok (.aload_n 0, 1) := by decide +kernel
theorem dX9_bears_80 : decode cX9_bears 80 = .ok (.getfield 33, 3) := by decide +kernel
theorem dX9_bears_83 : decode cX9_bears 83 = .ok (.getfield 108, 3) := by decide +kernel
theorem dX9_bears_86 : decode cX9_bears 86 = .ok (.getfield 143, 3) := by decide +kernel
theorem dX9_bears_89 : decode cX9_bears 89 = .ok (.iload_n 2, 1) := by decide +kernel
theorem dX9_bears_90 : decode cX9_bears 90 = .ok (.iaload, 1) := by decide +kernel
theorem dX9_bears_91 : decode cX9_bears 91 = .ok (.isub, 1) := by decide +kernel
theorem dX9_bears_92 : decode cX9_bears 92 = .ok (.istore_n 3, 1) := by decide +kernel
theorem dX9_bears_93 : decode cX9_bears 93 = .ok (.iinc 5 1, 3) := by decide +kernel
theorem dX9_bears_96 : decode cX9_bears 96 = .ok (.goto (-42), 3) := by decide +kernel
theorem dX9_bears_99 : decode cX9_bears 99 = .ok (.iload 5, 2) := by decide +kernel
theorem dX9_bears_101 : decode cX9_bears 101 = .ok (.ireturn, 1) := by decide +kernel
theorem dX9_sale_0 : decode cX9_sale 0 = .ok (.aload_n 0, 1) := by decide +kernel
theorem dX9_sale_1 : decode cX9_sale 1 = .ok (.getfield 10, 3) := by decide +kernel
theorem dX9_sale_4 : decode cX9_sale 4 = .ok (.getfield 66, 3) := by decide +kernel
theorem dX9_sale_7 : decode cX9_sale 7 = .ok (.istore 5, 2) := by decide +kernel
theorem dX9_sale_9 : decode cX9_sale 9 = .ok (.aload_n 0, 1) := by decide +kernel
theorem dX9_sale_10 : decode cX9_sale 10 = .ok (.getfield 10, 3) := by decide +kernel
theorem dX9_sale_13 : decode cX9_sale 13 = .ok (.iconst 0, 1) := by decide +kernel
theorem dX9_sale_14 : decode cX9_sale 14 = .ok (.putfield 66, 3) := by decide +kernel
theorem dX9_sale_17 : decode cX9_sale 17 = .ok (.aload_n 0, 1) := by decide +kernel
theorem dX9_sale_18 : decode cX9_sale 18 = .ok (.getfield 33, 3) := by decide +kernel
theorem dX9_sale_21 : decode cX9_sale 21 = .ok (.iload_n 1, 1) := by decide +kernel
theorem dX9_sale_22 : decode cX9_sale 22 = .ok (.invokevirtual 97, 3) := by decide +kernel
theorem dX9_sale_25 : decode cX9_sale 25 = .ok (.ifCond .eq 25, 3) := by decide +kernel
theorem dX9_sale_28 : decode cX9_sale 28 = .ok (.aload_n 0, 1) := by decide +kernel
theorem dX9_sale_29 : decode cX9_sale 29 = .ok (.getfield 33, 3) := by decide +kernel
theorem dX9_sale_32 : decode cX9_sale 32 = .ok (.iload_n 2, 1) := by decide +kernel
theorem dX9_sale_33 : decode cX9_sale 33 = .ok (.invokevirtual 97, 3) := by decide +kernel
theorem dX9_sale_36 : decode cX9_sale 36 = .ok (.ifCond .eq 14, 3) := by decide +kernel
theorem dX9_sale_39 : decode cX9_sale 39 = .ok (.aload_n 0, 1) := by decide +kernel
theorem dX9_sale_40 : decode cX9_sale 40 = .ok (.getfield 33, 3) := by decide +kernel
theorem dX9_sale_43 : decode cX9_sale 43 = .ok (.iload_n 3, 1) := by decide +kernel
theorem dX9_sale_44 : decode cX9_sale 44 = .ok (.invokevirtual 138, 3) := by decide +kernel
theorem dX9_sale_47 : decode cX9_sale 47 = .ok (.ifCond .ne 5, 3) := by decide +kernel
theorem dX9_sale_50 : decode cX9_sale 50 = .ok (.iconst (-1), 1) := by decide +kernel
theorem dX9_sale_51 : decode cX9_sale 51 = .ok (.ireturn, 1) := by decide +kernel
theorem dX9_sale_52 : decode cX9_sale 52 = .ok (.iload 4, 2) := by decide +kernel
theorem dX9_sale_54 : decode cX9_sale 54 = .ok (.iconst 1, 1) := by decide +kernel
theorem dX9_sale_55 : decode cX9_sale 55 = .ok (.if_icmp .lt 20, 3) := by decide +kernel
theorem dX9_sale_58 : decode cX9_sale 58 = .ok (.iload 4, 2) := by decide +kernel
theorem dX9_sale_60 : decode cX9_sale 60 = .ok (.sipush 9999, 3) := by decide +kernel
theorem dX9_sale_63 : decode cX9_sale 63 = .ok (.if_icmp .gt 12, 3) := by decide +kernel
theorem dX9_sale_66 : decode cX9_sale 66 = .ok (.aload_n 0, 1) := by decide +kernel
theorem dX9_sale_67 : decode cX9_sale 67 = .ok (.iload 5, 2) := by decide +kernel
theorem dX9_sale_69 : decode cX9_sale 69 = .ok (.invokevirtual 226, 3) := by decide +kernel
theorem dX9_sale_72 : decode cX9_sale 72 = .ok (.ifCond .ne 5, 3) := by decide +kernel
theorem dX9_sale_75 : decode cX9_sale 75 = .ok (.iconst (-1), 1) := by decide +kernel
theorem dX9_sale_76 : decode cX9_sale 76 = .ok (.ireturn, 1) := by decide +kernel
theorem dX9_sale_77 : decode cX9_sale 77 = .ok (.aload_n 0, 1) := by decide +kernel
theorem dX9_sale_78 : decode cX9_sale 78 = .ok (.getfield 33, 3) := by decide +kernel
theorem dX9_sale_81 : decode cX9_sale 81 = .ok (.iload_n 1, 1) := by decide +kernel
theorem dX9_sale_82 : decode cX9_sale 82 = .ok (.iload_n 2, 1) := by decide +kernel
theorem dX9_sale_83 : decode cX9_sale 83 = .ok (.invokevirtual 229, 3) := by decide +kernel
theorem dX9_sale_86 : decode cX9_sale 86 = .ok (.ifCond .ne 5, 3) := by decide +kernel
theorem dX9_sale_89 : decode cX9_sale 89 = .ok (.iconst 1, 1) := by decide +kernel
theorem dX9_sale_90 : decode cX9_sale 90 = .ok (.ireturn, 1) := by decide +kernel
theorem dX9_sale_91 : decode cX9_sale 91 = .ok (.aload_n 0, 1) := by decide +kernel
theorem dX9_sale_92 : decode cX9_sale 92 = .ok (.getfield 33, 3) := by decide +kernel
theorem dX9_sale_95 : decode cX9_sale 95 = .ok (.invokevirtual 217, 3) := by decide +kernel
theorem dX9_sale_98 : decode cX9_sale 98 = .ok (.istore 6, 2) := by decide +kernel
theorem dX9_sale_100 : decode cX9_sale 100 = .ok (.aload_n 0, 1) := by decide +kernel
theorem dX9_sale_101 : decode cX9_sale 101 = .ok (.iload_n 1, 1) := by decide +kernel
theorem dX9_sale_102 : decode cX9_sale 102 = .ok (.iload_n 2, 1) := by decide +kernel
theorem dX9_sale_103 : decode cX9_sale 103 = .ok (.iload_n 3, 1) := by decide +kernel
theorem dX9_sale_104 : decode cX9_sale 104 = .ok (.iload 5, 2) := by decide +kernel
theorem dX9_sale_106 : decode cX9_sale 106 = .ok (.iload 6, 2) := by decide +kernel
theorem dX9_sale_108 : decode cX9_sale 108 = .ok (.invokevirtual 233, 3) := by decide +kernel
theorem dX9_sale_111 : decode cX9_sale 111 = .ok (.istore 7, 2) := by decide +kernel
theorem dX9_sale_113 : decode cX9_sale 113 = .ok (.iload 7, 2) := by decide +kernel
theorem dX9_sale_115 : decode cX9_sale 115 = .ok (.ifCond .eq 6, 3) := by decide +kernel
theorem dX9_sale_118 : decode cX9_sale 118 = .ok (.iload 7, 2) := by decide +kernel
theorem dX9_sale_120 : decode cX9_sale 120 = .ok (.ireturn, 1) := by decide +kernel
theorem dX9_sale_121 : decode cX9_sale 121 = .ok (.iconst 0, 1) := by decide +kernel
theorem dX9_sale_122 : decode cX9_sale 122 = .ok (.istore 8, 2) := by decide +kernel
theorem dX9_sale_124 : decode cX9_sale 124 = .ok (.iconst 0, 1) := by decide +kernel
theorem dX9_sale_125 : decode cX9_sale 125 = .ok (.istore 9, 2) := by decide +kernel
theorem dX9_sale_127 : decode cX9_sale 127 = .ok (.iload 9, 2) := by decide +kernel
theorem dX9_sale_129 : decode cX9_sale 129 = .ok (.iload 5, 2) := by decide +kernel
theorem dX9_sale_131 : decode cX9_sale 131 = .ok (.if_icmp .ge 33, 3) := by decide +kernel
theorem dX9_sale_134 : decode cX9_sale 134 = .ok (.iload 8, 2) := by decide +kernel
theorem dX9_sale_136 : decode cX9_sale 136 = .ok (.aload_n 0, 1) := by decide +kernel
theorem dX9_sale_137 : decode cX9_sale 137 = .ok (.getfield 33, 3) := by decide +kernel
theorem dX9_sale_140 : decode cX9_sale 140 = .ok (.iload_n 2, 1) := by decide +kernel
theorem dX9_sale_141 : decode cX9_sale 141 = .ok (.aload_n 0, 1) := by decide +kernel
theorem dX9_sale_142 : decode cX9_sale 142 = .ok (.getfield 10, 3) := by decide +kernel
theorem dX9_sale_145 : decode cX9_sale 145 = .ok (.iload 9, 2) := by decide +kernel
theorem dX9_sale_147 : decode cX9_sale 147 = .ok (.invokevirtual 237, 3) := by decide +kernel
theorem dX9_sale_150 : decode cX9_sale 150 = .ok (.iload 6, 2) := by decide +kernel
theorem dX9_sale_152 : decode cX9_sale 152 = .ok (.invokevirtual 223, 3) := by decide +kernel
theorem dX9_sale_155 : decode cX9_sale 155 = .ok (.iadd, 1) := by decide +kernel
theorem dX9_sale_156 : decode cX9_sale 156 = .ok (.istore 8, 2) := by decide +kernel
theorem dX9_sale_158 : decode cX9_sale 158 = .ok (.iinc 9 1, 3) := by decide +kernel
theorem dX9_sale_161 : decode cX9_sale 161 = .ok (.goto (-34), 3) := by decide +kernel
theorem dX9_sale_164 : decode cX9_sale 164 = .ok (.iload 8, 2) := by decide +kernel
theorem dX9_sale_166 : decode cX9_sale 166 = .ok (.iload 4, 2) := by decide +kernel
theorem dX9_sale_168 : decode cX9_sale 168 = .ok (.if_icmp .ge 6, 3) := by decide +kernel
theorem dX9_sale_171 : decode cX9_sale 171 = .ok (.bipush 7, 2) := by decide +kernel
theorem dX9_sale_173 : decode cX9_sale 173 = .ok (.ireturn, 1) := by decide +kernel
theorem dX9_sale_174 : decode cX9_sale 174 = .ok (.aload_n 0, 1) := by decide +kernel
theorem dX9_sale_175 : decode cX9_sale 175 = .ok (.getfield 33, 3) := by decide +kernel
theorem dX9_sale_178 : decode cX9_sale 178 = .ok (.invokevirtual 167, 3) := by decide +kernel
theorem dX9_sale_181 : decode cX9_sale 181 = .ok (.iload 5, 2) := by decide +kernel
theorem dX9_sale_183 : decode cX9_sale 183 = .ok (.if_icmp .ge 5, 3) := by decide +kernel
theorem dX9_sale_186 : decode cX9_sale 186 = .ok (.iconst (-1), 1) := by decide +kernel
theorem dX9_sale_187 : decode cX9_sale 187 = .ok (.ireturn, 1) := by decide +kernel
theorem dX9_sale_188 : decode cX9_sale 188 = .ok (.aload_n 0, 1) := by decide +kernel
theorem dX9_sale_189 : decode cX9_sale 189 = .ok (.getfield 40, 3) := by decide +kernel
theorem dX9_sale_192 : decode cX9_sale 192 = .ok (.aload_n 0, 1) := by decide +kernel
theorem dX9_sale_193 : decode cX9_sale 193 = .ok (.getfield 33, 3) := by decide +kernel
theorem dX9_sale_196 : decode cX9_sale 196 = .ok (.getfield 117, 3) := by decide +kernel
theorem dX9_sale_199 : decode cX9_sale 199 = .ok (.invokevirtual 171, 3) := by decide +kernel
theorem dX9_sale_202 : decode cX9_sale 202 = .ok (.aload_n 0, 1) := by decide +kernel
theorem dX9_sale_203 : decode cX9_sale 203 = .ok (.getfield 33, 3) := by decide +kernel
theorem dX9_sale_206 : decode cX9_sale 206 = .ok (.iload_n 1, 1) := by decide +kernel
theorem dX9_sale_207 : decode cX9_sale 207 = .ok (.iload_n 2, 1) := by decide +kernel
theorem dX9_sale_208 : decode cX9_sale 208 = .ok (.iload_n 3, 1) := by decide +kernel
theorem dX9_sale_209 : decode cX9_sale 209 = .ok (.iload 4, 2) := by decide +kernel
theorem dX9_sale_211 : decode cX9_sale 211 = .ok (.iload 5, 2) := by decide +kernel
theorem dX9_sale_213 : decode cX9_sale 213 = .ok (.iload 8, 2) := by decide +kernel
theorem dX9_sale_215 : decode cX9_sale 215 = .ok (.invokevirtual 240, 3) := by decide +kernel
theorem dX9_sale_218 : decode cX9_sale 218 = .ok (.istore 9, 2) := by decide +kernel
theorem dX9_sale_220 : decode cX9_sale 220 = .ok (.iconst 0, 1) := by decide +kernel
theorem dX9_sale_221 : decode cX9_sale 221 = .ok (.istore 10, 2) := by decide +kernel
theorem dX9_sale_223 : decode cX9_sale 223 = .ok (.iload 10, 2) := by decide +kernel
theorem dX9_sale_225 : decode cX9_sale 225 = .ok (.iload 5, 2) := by decide +kernel
theorem dX9_sale_227 : decode cX9_sale 227 = .ok (.if_icmp .ge 29, 3) := by decide +kernel
theorem dX9_sale_230 : decode cX9_sale 230 = .ok (.aload_n 0, 1) := by decide +kernel
theorem dX9_sale_231 : decode cX9_sale 231 = .ok (.getfield 33, 3) := by decide +kernel
theorem dX9_sale_234 : decode cX9_sale 234 = .ok (.aload_n 0, 1) := by decide +kernel
theorem dX9_sale_235 : decode cX9_sale 235 = .ok (.getfield 10, 3) := by decide +kernel
theorem dX9_sale_238 : decode cX9_sale 238 = .ok (.iload 10, 2) := by decide +kernel
theorem dX9_sale_240 : decode cX9_sale 240 = .ok (.invokevirtual 237, 3) := by decide +kernel
theorem dX9_sale_243 : decode cX9_sale 243 = .ok (.iload_n 2, 1) := by decide +kernel
theorem dX9_sale_244 : decode cX9_sale 244 = .ok (.iload_n 3, 1) := by decide +kernel
theorem dX9_sale_245 : decode cX9_sale 245 = .ok (.iload 9, 2) := by decide +kernel
theorem dX9_sale_247 : decode cX9_sale 247 = .ok (.invokevirtual 244, 3) := by decide +kernel
theorem dX9_sale_250 : decode cX9_sale 250 = .ok (.iinc 10 1, 3) := by decide +kernel
theorem dX9_sale_253 : decode cX9_sale 253 = .ok (.goto (-30), 3) := by decide +kernel
theorem dX9_sale_256 : decode cX9_sale 256 = .ok (.iconst 0, 1) := by decide +kernel
theorem dX9_sale_257 : decode cX9_sale 257 = .ok (.ireturn, 1) := by decide +kernel
theorem dX9_tellsUnlikeCoins_0 : decode cX9_tellsUnlikeCoins 0 = .ok (.iload_n 1, 1) := by decide +kernel
theorem dX9_tellsUnlikeCoins_1 : decode cX9_tellsUnlikeCoins 1 = .ok (.iconst 1, 1) := by decide +kernel
theorem dX9_tellsUnlikeCoins_2 : decode cX9_tellsUnlikeCoins 2 = .ok (.if_icmp .lt 9, 3) := by decide +kernel
theorem dX9_tellsUnlikeCoins_5 : decode cX9_tellsUnlikeCoins 5 = .ok (.iload_n 1, 1) := by decide +kernel
theorem dX9_tellsUnlikeCoins_6 : decode cX9_tellsUnlikeCoins 6 = .ok (.bipush 40, 2) := by decide +kernel
theorem dX9_tellsUnlikeCoins_8 : decode cX9_tellsUnlikeCoins 8 = .ok (.if_icmp .le 5, 3) := by decide +kernel
theorem dX9_tellsUnlikeCoins_11 : decode cX9_tellsUnlikeCoins 11 = .ok (.iconst 0, 1) := by decide +kernel
theorem dX9_tellsUnlikeCoins_12 : decode cX9_tellsUnlikeCoins 12 = .ok (.ireturn, 1) := by decide +kernel
theorem dX9_tellsUnlikeCoins_13 : decode cX9_tellsUnlikeCoins 13 = .ok (.lconst 0, 1) := by decide +kernel
theorem dX9_tellsUnlikeCoins_14 : decode cX9_tellsUnlikeCoins 14 = .ok (.lstore_n 2, 1) := by decide +kernel
theorem dX9_tellsUnlikeCoins_15 : decode cX9_tellsUnlikeCoins 15 = .ok (.iconst 0, 1) := by decide +kernel
theorem dX9_tellsUnlikeCoins_16 : decode cX9_tellsUnlikeCoins 16 = .ok (.istore 4, 2) := by decide +kernel
theorem dX9_tellsUnlikeCoins_18 : decode cX9_tellsUnlikeCoins 18 = .ok (.iload 4, 2) := by decide +kernel
theorem dX9_tellsUnlikeCoins_20 : decode cX9_tellsUnlikeCoins 20 = .ok (.iload_n 1, 1) := by decide +kernel
theorem dX9_tellsUnlikeCoins_21 : decode cX9_tellsUnlikeCoins 21 = .ok (.if_icmp .ge 52, 3) := by decide +kernel
theorem dX9_tellsUnlikeCoins_24 : decode cX9_tellsUnlikeCoins 24 = .ok (.aload_n 0, 1) := by decide +kernel
theorem dX9_tellsUnlikeCoins_25 : decode cX9_tellsUnlikeCoins 25 = .ok (.getfield 10, 3) := by decide +kernel
theorem dX9_tellsUnlikeCoins_28 : decode cX9_tellsUnlikeCoins 28 = .ok (.iload 4, 2) := by decide +kernel
theorem dX9_tellsUnlikeCoins_30 : decode cX9_tellsUnlikeCoins 30 = .ok (.invokevirtual 237, 3) := by decide +kernel
theorem dX9_tellsUnlikeCoins_33 : decode cX9_tellsUnlikeCoins 33 = .ok (.istore 5, 2) := by decide +kernel
theorem dX9_tellsUnlikeCoins_35 : decode cX9_tellsUnlikeCoins 35 = .ok (.aload_n 0, 1) := by decide +kernel
theorem dX9_tellsUnlikeCoins_36 : decode cX9_tellsUnlikeCoins 36 = .ok (.getfield 33, 3) := by decide +kernel
theorem dX9_tellsUnlikeCoins_39 : decode cX9_tellsUnlikeCoins 39 = .ok (.iload 5, 2) := by decide +kernel
theorem dX9_tellsUnlikeCoins_41 : decode cX9_tellsUnlikeCoins 41 = .ok (.invokevirtual 183, 3) := by decide +kernel
theorem dX9_tellsUnlikeCoins_44 : decode cX9_tellsUnlikeCoins 44 = .ok (.ifCond .eq 14, 3) := by decide +kernel
theorem dX9_tellsUnlikeCoins_47 : decode cX9_tellsUnlikeCoins 47 = .ok (.lload_n 2, 1) := by decide +kernel
theorem dX9_tellsUnlikeCoins_48 : decode cX9_tellsUnlikeCoins 48 = .ok (.iload 5, 2) := by decide +kernel
theorem dX9_tellsUnlikeCoins_50 : decode cX9_tellsUnlikeCoins 50 = .ok (.lushr, 1) := by decide +kernel
theorem dX9_tellsUnlikeCoins_51 : decode cX9_tellsUnlikeCoins 51 = .ok (.lconst 1, 1) := by decide +kernel
theorem dX9_tellsUnlikeCoins_52 : decode cX9_tellsUnlikeCoins 52 = .ok (.land, 1) := by decide +kernel
theorem dX9_tellsUnlikeCoins_53 : decode cX9_tellsUnlikeCoins 53 = .ok (.lconst 0, 1) := by decide +kernel
theorem dX9_tellsUnlikeCoins_54 : decode cX9_tellsUnlikeCoins 54 = .ok (.lcmp, 1) := by decide +kernel
theorem dX9_tellsUnlikeCoins_55 : decode cX9_tellsUnlikeCoins 55 = .ok (.ifCond .eq 5, 3) := by decide +kernel
theorem dX9_tellsUnlikeCoins_58 : decode cX9_tellsUnlikeCoins 58 = .ok (.iconst 0, 1) := by decide +kernel
theorem dX9_tellsUnlikeCoins_59 : decode cX9_tellsUnlikeCoins 59 = .ok (.ireturn, 1) := by decide +kernel
theorem dX9_tellsUnlikeCoins_60 : decode cX9_tellsUnlikeCoins 60 = .ok (.lload_n 2, 1) := by decide +kernel
theorem dX9_tellsUnlikeCoins_61 : decode cX9_tellsUnlikeCoins 61 = .ok (.lconst 1, 1) := by decide +kernel
theorem dX9_tellsUnlikeCoins_62 : decode cX9_tellsUnlikeCoins 62 = .ok (.iload 5, 2) := by decide +kernel
theorem dX9_tellsUnlikeCoins_64 : decode cX9_tellsUnlikeCoins 64 = .ok (.lshl, 1) := by decide +kernel
theorem dX9_tellsUnlikeCoins_65 : decode cX9_tellsUnlikeCoins 65 = .ok (.lor, 1) := by decide +kernel
theorem dX9_tellsUnlikeCoins_66 : decode cX9_tellsUnlikeCoins 66 = .ok (.lstore_n 2, 1) := by decide +kernel
theorem dX9_tellsUnlikeCoins_67 : decode cX9_tellsUnlikeCoins 67 = .ok (.iinc 4 1, 3) := by decide +kernel
theorem dX9_tellsUnlikeCoins_70 : decode cX9_tellsUnlikeCoins 70 = .ok (.goto (-52), 3) := by decide +kernel
theorem dX9_tellsUnlikeCoins_73 : decode cX9_tellsUnlikeCoins 73 = .ok (.iconst 1, 1) := by decide +kernel
theorem dX9_tellsUnlikeCoins_74 : decode cX9_tellsUnlikeCoins 74 = .ok (.ireturn, 1) := by decide +kernel
theorem dX9_leastWrong_0 : decode cX9_leastWrong 0 = .ok (.iconst 0, 1) := by decide +kernel
theorem dX9_leastWrong_1 : decode cX9_leastWrong 1 = .ok (.istore 6, 2) := by decide +kernel
theorem dX9_leastWrong_3 : decode cX9_leastWrong 3 = .ok (.iconst 0, 1) := by decide +kernel
theorem dX9_leastWrong_4 : decode cX9_leastWrong 4 = .ok (.istore 7, 2) := by decide +kernel
theorem dX9_leastWrong_6 : decode cX9_leastWrong 6 = .ok (.iload 7, 2) := by decide +kernel
theorem dX9_leastWrong_8 : decode cX9_leastWrong 8 = .ok (.iload 4, 2) := by decide +kernel
theorem dX9_leastWrong_10 : decode cX9_leastWrong 10 = .ok (.if_icmp .ge 50, 3) := by decide +kernel
theorem dX9_leastWrong_13 : decode cX9_leastWrong 13 = .ok (.aload_n 0, 1) := by decide +kernel
theorem dX9_leastWrong_14 : decode cX9_leastWrong 14 = .ok (.iload_n 1, 1) := by decide +kernel
theorem dX9_leastWrong_15 : decode cX9_leastWrong 15 = .ok (.iload_n 2, 1) := by decide +kernel
theorem dX9_leastWrong_16 : decode cX9_leastWrong 16 = .ok (.iload_n 3, 1) := by decide +kernel
theorem dX9_leastWrong_17 : decode cX9_leastWrong 17 = .ok (.aload_n 0, 1) := by decide +kernel
theorem dX9_leastWrong_18 : decode cX9_leastWrong 18 = .ok (.getfield 10, 3) := by decide +kernel
theorem dX9_leastWrong_21 : decode cX9_leastWrong 21 = .ok (.iload 7, 2) := by decide +kernel
theorem dX9_leastWrong_23 : decode cX9_leastWrong 23 = .ok (.invokevirtual 237, 3) := by decide +kernel
theorem dX9_leastWrong_26 : decode cX9_leastWrong 26 = .ok (.iload 5, 2) := by decide +kernel
theorem dX9_leastWrong_28 : decode cX9_leastWrong 28 = .ok (.invokevirtual 248, 3) := by decide +kernel
theorem dX9_leastWrong_31 : decode cX9_leastWrong 31 = .ok (.istore 8, 2) := by decide +kernel
theorem dX9_leastWrong_33 : decode cX9_leastWrong 33 = .ok (.iload 8, 2) := by decide +kernel
theorem dX9_leastWrong_35 : decode cX9_leastWrong 35 = .ok (.ifCond .eq 19, 3) := by decide +kernel
theorem dX9_leastWrong_38 : decode cX9_leastWrong 38 = .ok (.iload 6, 2) := by decide +kernel
theorem dX9_leastWrong_40 : decode cX9_leastWrong 40 = .ok (.ifCond .eq 10, 3) := by decide +kernel
theorem dX9_leastWrong_43 : decode cX9_leastWrong 43 = .ok (.iload 8, 2) := by decide +kernel
