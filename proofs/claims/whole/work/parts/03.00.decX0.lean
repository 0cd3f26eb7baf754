theorem dX0_init_0 : decode cX0_init 0 = .ok (.aload_n 0, 1) := by decide +kernel
theorem dX0_init_1 : decode cX0_init 1 = .ok (.invokespecial 5, 3) := by decide +kernel
theorem dX0_init_4 : decode cX0_init 4 = .ok (.aload_n 0, 1) := by decide +kernel
theorem dX0_init_5 : decode cX0_init 5 = .ok (.bipush 12, 2) := by decide +kernel
theorem dX0_init_7 : decode cX0_init 7 = .ok (.newarray .int, 2) := by decide +kernel
theorem dX0_init_9 : decode cX0_init 9 = .ok (.putfield 11, 3) := by decide +kernel
theorem dX0_init_12 : decode cX0_init 12 = .ok (.aload_n 0, 1) := by decide +kernel
theorem dX0_init_13 : decode cX0_init 13 = .ok (.bipush 12, 2) := by decide +kernel
theorem dX0_init_15 : decode cX0_init 15 = .ok (.newarray .int, 2) := by decide +kernel
theorem dX0_init_17 : decode cX0_init 17 = .ok (.putfield 15, 3) := by decide +kernel
theorem dX0_init_20 : decode cX0_init 20 = .ok (.aload_n 0, 1) := by decide +kernel
theorem dX0_init_21 : decode cX0_init 21 = .ok (.bipush 72, 2) := by decide +kernel
theorem dX0_init_23 : decode cX0_init 23 = .ok (.newarray .int, 2) := by decide +kernel
theorem dX0_init_25 : decode cX0_init 25 = .ok (.putfield 18, 3) := by decide +kernel
theorem dX0_init_28 : decode cX0_init 28 = .ok (.aload_n 0, 1) := by decide +kernel
theorem dX0_init_29 : decode cX0_init 29 = .ok (.bipush 12, 2) := by decide +kernel
theorem dX0_init_31 : decode cX0_init 31 = .ok (.newarray .int, 2) := by decide +kernel
theorem dX0_init_33 : decode cX0_init 33 = .ok (.putfield 21, 3) := by decide +kernel
theorem dX0_init_36 : decode cX0_init 36 = .ok (.aload_n 0, 1) := by decide +kernel
theorem dX0_init_37 : decode cX0_init 37 = .ok (.bipush 12, 2) := by decide +kernel
theorem dX0_init_39 : decode cX0_init 39 = .ok (.newarray .int, 2) := by decide +kernel
theorem dX0_init_41 : decode cX0_init 41 = .ok (.putfield 24, 3) := by decide +kernel
theorem dX0_init_44 : decode cX0_init 44 = .ok (.aload_n 0, 1) := by decide +kernel
theorem dX0_init_45 : decode cX0_init 45 = .ok (.bipush 12, 2) := by decide +kernel
theorem dX0_init_47 : decode cX0_init 47 = .ok (.newarray .int, 2) := by decide +kernel
theorem dX0_init_49 : decode cX0_init 49 = .ok (.putfield 27, 3) := by decide +kernel
theorem dX0_init_52 : decode cX0_init 52 = .ok (.aload_n 0, 1) := by decide +kernel
theorem dX0_init_53 : decode cX0_init 53 = .ok (.bipush 12, 2) := by decide +kernel
theorem dX0_init_55 : decode cX0_init 55 = .ok (.newarray .int, 2) := by decide +kernel
theorem dX0_init_57 : decode cX0_init 57 = .ok (.putfield 30, 3) := by decide +kernel
theorem dX0_init_60 : decode cX0_init 60 = .ok (.return_, 1) := by decide +kernel
theorem dX0_find_0 : decode cX0_find 0 = .ok (.aload_n 0, 1) := by decide +kernel
theorem dX0_find_1 : decode cX0_find 1 = .ok (.aload_n 1, 1) := by decide +kernel
theorem dX0_find_2 : decode cX0_find 2 = .ok (.iload_n 2, 1) := by decide +kernel
theorem dX0_find_3 : decode cX0_find 3 = .ok (.invokevirtual 33, 3) := by decide +kernel
theorem dX0_find_6 : decode cX0_find 6 = .ok (.aload_n 0, 1) := by decide +kernel
theorem dX0_find_7 : decode cX0_find 7 = .ok (.iconst 0, 1) := by decide +kernel
theorem dX0_find_8 : decode cX0_find 8 = .ok (.putfield 37, 3) := by decide +kernel
theorem dX0_find_11 : decode cX0_find 11 = .ok (.aload_n 1, 1) := by decide +kernel
theorem dX0_find_12 : decode cX0_find 12 = .ok (.invokevirtual 41, 3) := by decide +kernel
theorem dX0_find_15 : decode cX0_find 15 = .ok (.istore 6, 2) := by decide +kernel
theorem dX0_find_17 : decode cX0_find 17 = .ok (.aload_n 1, 1) := by decide +kernel
theorem dX0_find_18 : decode cX0_find 18 = .ok (.iload_n 3, 1) := by decide +kernel
theorem dX0_find_19 : decode cX0_find 19 = .ok (.iload_n 2, 1) := by decide +kernel
theorem dX0_find_20 : decode cX0_find 20 = .ok (.iload 6, 2) := by decide +kernel
theorem dX0_find_22 : decode cX0_find 22 = .ok (.invokevirtual 47, 3) := by decide +kernel
theorem dX0_find_25 : decode cX0_find 25 = .ok (.istore 7, 2) := by decide +kernel
theorem dX0_find_27 : decode cX0_find 27 = .ok (.iconst 0, 1) := by decide +kernel
theorem dX0_find_28 : decode cX0_find 28 = .ok (.istore 8, 2) := by decide +kernel
theorem dX0_find_30 : decode cX0_find 30 = .ok (.iload 8, 2) := by decide +kernel
theorem dX0_find_32 : decode cX0_find 32 = .ok (.aload_n 0, 1) := by decide +kernel
theorem dX0_find_33 : decode cX0_find 33 = .ok (.getfield 51, 3) := by decide +kernel
theorem dX0_find_36 : decode cX0_find 36 = .ok (.if_icmp .ge 47, 3) := by decide +kernel
theorem dX0_find_39 : decode cX0_find 39 = .ok (.aload_n 0, 1) := by decide +kernel
theorem dX0_find_40 : decode cX0_find 40 = .ok (.getfield 15, 3) := by decide +kernel
theorem dX0_find_43 : decode cX0_find 43 = .ok (.iload 8, 2) := by decide +kernel
theorem dX0_find_45 : decode cX0_find 45 = .ok (.iconst 0, 1) := by decide +kernel
theorem dX0_find_46 : decode cX0_find 46 = .ok (.iastore, 1) := by decide +kernel
theorem dX0_find_47 : decode cX0_find 47 = .ok (.aload_n 0, 1) := by decide +kernel
theorem dX0_find_48 : decode cX0_find 48 = .ok (.aload_n 1, 1) := by decide +kernel
theorem dX0_find_49 : decode cX0_find 49 = .ok (.iload 8, 2) := by decide +kernel
theorem dX0_find_51 : decode cX0_find 51 = .ok (.iload_n 3, 1) := by decide +kernel
theorem dX0_find_52 : decode cX0_find 52 = .ok (.iload 4, 2) := by decide +kernel
theorem dX0_find_54 : decode cX0_find 54 = .ok (.iload 6, 2) := by decide +kernel
theorem dX0_find_56 : decode cX0_find 56 = .ok (.invokevirtual 54, 3) := by decide +kernel
theorem dX0_find_59 : decode cX0_find 59 = .ok (.aload_n 0, 1) := by decide +kernel
theorem dX0_find_60 : decode cX0_find 60 = .ok (.aload_n 1, 1) := by decide +kernel
theorem dX0_find_61 : decode cX0_find 61 = .ok (.iload 8, 2) := by decide +kernel
theorem dX0_find_63 : decode cX0_find 63 = .ok (.iload 4, 2) := by decide +kernel
theorem dX0_find_65 : decode cX0_find 65 = .ok (.iload 7, 2) := by decide +kernel
theorem dX0_find_67 : decode cX0_find 67 = .ok (.invokevirtual 58, 3) := by decide +kernel
theorem dX0_find_70 : decode cX0_find 70 = .ok (.aload_n 0, 1) := by decide +kernel
theorem dX0_find_71 : decode cX0_find 71 = .ok (.aload_n 1, 1) := by decide +kernel
theorem dX0_find_72 : decode cX0_find 72 = .ok (.iload 8, 2) := by decide +kernel
theorem dX0_find_74 : decode cX0_find 74 = .ok (.invokevirtual 62, 3) := by decide +kernel
theorem dX0_find_77 : decode cX0_find 77 = .ok (.iinc 8 1, 3) := by decide +kernel
theorem dX0_find_80 : decode cX0_find 80 = .ok (.goto (-50), 3) := by decide +kernel
theorem dX0_find_83 : decode cX0_find 83 = .ok (.aload_n 0, 1) := by decide +kernel
theorem dX0_find_84 : decode cX0_find 84 = .ok (.invokevirtual 65, 3) := by decide +kernel
theorem dX0_find_87 : decode cX0_find 87 = .ok (.aload_n 0, 1) := by decide +kernel
theorem dX0_find_88 : decode cX0_find 88 = .ok (.iconst (-1), 1) := by decide +kernel
theorem dX0_find_89 : decode cX0_find 89 = .ok (.putfield 68, 3) := by decide +kernel
theorem dX0_find_92 : decode cX0_find 92 = .ok (.aload_n 0, 1) := by decide +kernel
theorem dX0_find_93 : decode cX0_find 93 = .ok (.iconst 0, 1) := by decide +kernel
theorem dX0_find_94 : decode cX0_find 94 = .ok (.iconst 0, 1) := by decide +kernel
theorem dX0_find_95 : decode cX0_find 95 = .ok (.iconst 0, 1) := by decide +kernel
theorem dX0_find_96 : decode cX0_find 96 = .ok (.iload 5, 2) := by decide +kernel
theorem dX0_find_98 : decode cX0_find 98 = .ok (.invokevirtual 71, 3) := by decide +kernel
theorem dX0_find_101 : decode cX0_find 101 = .ok (.aload_n 0, 1) := by decide +kernel
theorem dX0_find_102 : decode cX0_find 102 = .ok (.getfield 68, 3) := by decide +kernel
theorem dX0_find_105 : decode cX0_find 105 = .ok (.iconst (-1), 1) := by decide +kernel
theorem dX0_find_106 : decode cX0_find 106 = .ok (.if_icmp .eq 9, 3) := by decide +kernel
theorem dX0_find_109 : decode cX0_find 109 = .ok (.aload_n 0, 1) := by decide +kernel
theorem dX0_find_110 : decode cX0_find 110 = .ok (.iload 5, 2) := by decide +kernel
theorem dX0_find_112 : decode cX0_find 112 = .ok (.invokevirtual 75, 3) := by decide +kernel
theorem dX0_find_115 : decode cX0_find 115 = .ok (.aload_n 0, 1) := by decide +kernel
theorem dX0_find_116 : decode cX0_find 116 = .ok (.getfield 68, 3) := by decide +kernel
theorem dX0_find_119 : decode cX0_find 119 = .ok (.ireturn, 1) := by decide +kernel
theorem dX0_lookAt_0 : decode cX0_lookAt 0 = .ok (.aload_n 0, 1) := by decide +kernel
theorem dX0_lookAt_1 : decode cX0_lookAt 1 = .ok (.iconst 0, 1) := by decide +kernel
theorem dX0_lookAt_2 : decode cX0_lookAt 2 = .ok (.putfield 51, 3) := by decide +kernel
theorem dX0_lookAt_5 : decode cX0_lookAt 5 = .ok (.iconst 0, 1) := by decide +kernel
theorem dX0_lookAt_6 : decode cX0_lookAt 6 = .ok (.istore_n 3, 1) := by decide +kernel
theorem dX0_lookAt_7 : decode cX0_lookAt 7 = .ok (.iload_n 3, 1) := by decide +kernel
theorem dX0_lookAt_8 : decode cX0_lookAt 8 = .ok (.aload_n 1, 1) := by decide +kernel
theorem dX0_lookAt_9 : decode cX0_lookAt 9 = .ok (.getfield 79, 3) := by decide +kernel
theorem dX0_lookAt_12 : decode cX0_lookAt 12 = .ok (.getfield 83, 3) := by decide +kernel
theorem dX0_lookAt_15 : decode cX0_lookAt 15 = .ok (.if_icmp .ge 59, 3) := by decide +kernel
theorem dX0_lookAt_18 : decode cX0_lookAt 18 = .ok (.aload_n 0, 1) := by decide +kernel
theorem dX0_lookAt_19 : decode cX0_lookAt 19 = .ok (.getfield 51, 3) := by decide +kernel
theorem dX0_lookAt_22 : decode cX0_lookAt 22 = .ok (.bipush 12, 2) := by decide +kernel
theorem dX0_lookAt_24 : decode cX0_lookAt 24 = .ok (.if_icmp .ge 50, 3) := by decide +kernel
theorem dX0_lookAt_27 : decode cX0_lookAt 27 = .ok (.aload_n 1, 1) := by decide +kernel
theorem dX0_lookAt_28 : decode cX0_lookAt 28 = .ok (.iload_n 3, 1) := by decide +kernel
theorem dX0_lookAt_29 : decode cX0_lookAt 29 = .ok (.invokevirtual 88, 3) := by decide +kernel
theorem dX0_lookAt_32 : decode cX0_lookAt 32 = .ok (.ifCond .eq 36, 3) := by decide +kernel
theorem dX0_lookAt_35 : decode cX0_lookAt 35 = .ok (.aload_n 1, 1) := by decide +kernel
theorem dX0_lookAt_36 : decode cX0_lookAt 36 = .ok (.getfield 79, 3) := by decide +kernel
theorem dX0_lookAt_39 : decode cX0_lookAt 39 = .ok (.getfield 92, 3) := by decide +kernel
theorem dX0_lookAt_42 : decode cX0_lookAt 42 = .ok (.iload_n 3, 1) := by decide +kernel
theorem dX0_lookAt_43 : decode cX0_lookAt 43 = .ok (.iaload, 1) := by decide +kernel
theorem dX0_lookAt_44 : decode cX0_lookAt 44 = .ok (.iload_n 2, 1) := by decide +kernel
theorem dX0_lookAt_45 : decode cX0_lookAt 45 = .ok (.if_icmp .ne 23, 3) := by decide +kernel
theorem dX0_lookAt_48 : decode cX0_lookAt 48 = .ok (.aload_n 0, 1) := by decide +kernel
theorem dX0_lookAt_49 : decode cX0_lookAt 49 = .ok (.getfield 11, 3) := by decide +kernel
theorem dX0_lookAt_52 : decode cX0_lookAt 52 = .ok (.aload_n 0, 1) := by decide +kernel
theorem dX0_lookAt_53 : decode cX0_lookAt 53 = .ok (.getfield 51, 3) := by decide +kernel
theorem dX0_lookAt_56 : decode cX0_lookAt 56 = .ok (.iload_n 3, 1) := by decide +kernel
theorem dX0_lookAt_57 : decode cX0_lookAt 57 = .ok (.iastore, 1) := by decide +kernel
theorem dX0_lookAt_58 : decode cX0_lookAt 58 = .ok (.aload_n 0, 1) := by decide +kernel
theorem dX0_lookAt_59 : decode cX0_lookAt 59 = .ok (.dup, 1) := by decide +kernel
theorem dX0_lookAt_60 : decode cX0_lookAt 60 = .ok (.getfield 51, 3) := by decide +kernel
theorem dX0_lookAt_63 : decode cX0_lookAt 63 = .ok (.iconst 1, 1) := by decide +kernel
theorem dX0_lookAt_64 : decode cX0_lookAt 64 = .ok (.iadd, 1) := by decide +kernel
theorem dX0_lookAt_65 : decode cX0_lookAt 65 = .ok (.putfield 51, 3) := by decide +kernel
theorem dX0_lookAt_68 : decode cX0_lookAt 68 = .ok (.iinc 3 1, 3) := by decide +kernel
theorem dX0_lookAt_71 : decode cX0_lookAt 71 = .ok (.goto (-64), 3) := by decide +kernel
theorem dX0_lookAt_74 : decode cX0_lookAt 74 = .ok (.return_, 1) := by decide +kernel
theorem dX0_appraiseGiven_0 : decode cX0_appraiseGiven 0 = .ok (.aload_n 0, 1) := by decide +kernel
theorem dX0_appraiseGiven_1 : decode cX0_appraiseGiven 1 = .ok (.getfield 11, 3) := by decide +kernel
theorem dX0_appraiseGiven_4 : decode cX0_appraiseGiven 4 = .ok (.iload_n 2, 1) := by decide +kernel
theorem dX0_appraiseGiven_5 : decode cX0_appraiseGiven 5 = .ok (.iaload, 1) := by decide +kernel
theorem dX0_appraiseGiven_6 : decode cX0_appraiseGiven 6 = .ok (.istore 6, 2) := by decide +kernel
theorem dX0_appraiseGiven_8 : decode cX0_appraiseGiven 8 = .ok (.aload_n 1, 1) := by decide +kernel
theorem dX0_appraiseGiven_9 : decode cX0_appraiseGiven 9 = .ok (.aload_n 1, 1) := by decide +kernel
theorem dX0_appraiseGiven_10 : decode cX0_appraiseGiven 10 = .ok (.getfield 79, 3) := by decide +kernel
theorem dX0_appraiseGiven_13 : decode cX0_appraiseGiven 13 = .ok (.getfield 95, 3) := by decide +kernel
theorem dX0_appraiseGiven_16 : decode cX0_appraiseGiven 16 = .ok (.iload 6, 2) := by decide +kernel
theorem dX0_appraiseGiven_18 : decode cX0_appraiseGiven 18 = .ok (.iaload, 1) := by decide +kernel
theorem dX0_appraiseGiven_19 : decode cX0_appraiseGiven 19 = .ok (.aload_n 1, 1) := by decide +kernel
theorem dX0_appraiseGiven_20 : decode cX0_appraiseGiven 20 = .ok (.getfield 79, 3) := by decide +kernel
theorem dX0_appraiseGiven_23 : decode cX0_appraiseGiven 23 = .ok (.getfield 98, 3) := by decide +kernel
theorem dX0_appraiseGiven_26 : decode cX0_appraiseGiven 26 = .ok (.iload 6, 2) := by decide +kernel
theorem dX0_appraiseGiven_28 : decode cX0_appraiseGiven 28 = .ok (.iaload, 1) := by decide +kernel
theorem dX0_appraiseGiven_29 : decode cX0_appraiseGiven 29 = .ok (.iload 4, 2) := by decide +kernel
theorem dX0_appraiseGiven_31 : decode cX0_appraiseGiven 31 = .ok (.invokevirtual 101, 3) := by decide +kernel
theorem dX0_appraiseGiven_34 : decode cX0_appraiseGiven 34 = .ok (.ifCond .ne 7, 3) := by decide +kernel
theorem dX0_appraiseGiven_37 : decode cX0_appraiseGiven 37 = .ok (.iconst 1, 1) := by decide +kernel
theorem dX0_appraiseGiven_38 : decode cX0_appraiseGiven 38 = .ok (.goto 4, 3) := by decide +kernel
theorem dX0_appraiseGiven_41 : decode cX0_appraiseGiven 41 = .ok (.iconst 0, 1) := by decide +kernel
theorem dX0_appraiseGiven_42 : decode cX0_appraiseGiven 42 = .ok (.istore 7, 2) := by decide +kernel
theorem dX0_appraiseGiven_44 : decode cX0_appraiseGiven 44 = .ok (.aload_n 0, 1) := by decide +kernel
theorem dX0_appraiseGiven_45 : decode cX0_appraiseGiven 45 = .ok (.getfield 18, 3) := by decide +kernel
theorem dX0_appraiseGiven_48 : decode cX0_appraiseGiven 48 = .ok (.iload_n 2, 1) := by decide +kernel
theorem dX0_appraiseGiven_49 : decode cX0_appraiseGiven 49 = .ok (.bipush 6, 2) := by decide +kernel
theorem dX0_appraiseGiven_51 : decode cX0_appraiseGiven 51 = .ok (.imul, 1) := by decide +kernel
theorem dX0_appraiseGiven_52 : decode cX0_appraiseGiven 52 = .ok (.iconst 1, 1) := by decide +kernel
theorem dX0_appraiseGiven_53 : decode cX0_appraiseGiven 53 = .ok (.iadd, 1) := by decide +kernel
theorem dX0_appraiseGiven_54 : decode cX0_appraiseGiven 54 = .ok (.iload 7, 2) := by decide +kernel
theorem dX0_appraiseGiven_56 : decode cX0_appraiseGiven 56 = .ok (.ifCond .eq 15, 3) := by decide +kernel
theorem dX0_appraiseGiven_59 : decode cX0_appraiseGiven 59 = .ok (.aload_n 1, 1) := by decide +kernel
theorem dX0_appraiseGiven_60 : decode cX0_appraiseGiven 60 = .ok (.iload_n 3, 1) := by decide +kernel
theorem dX0_appraiseGiven_61 : decode cX0_appraiseGiven 61 = .ok (.iload 6, 2) := by decide +kernel
theorem dX0_appraiseGiven_63 : decode cX0_appraiseGiven 63 = .ok (.iload 5, 2) := by decide +kernel
theorem dX0_appraiseGiven_65 : decode cX0_appraiseGiven 65 = .ok (.invokevirtual 104, 3) := by decide +kernel
theorem dX0_appraiseGiven_68 : decode cX0_appraiseGiven 68 = .ok (.goto 4, 3) := by decide +kernel
theorem dX0_appraiseGiven_71 : decode cX0_appraiseGiven 71 = .ok (.iconst 0, 1) := by decide +kernel
theorem dX0_appraiseGiven_72 : decode cX0_appraiseGiven 72 = .ok (.iastore, 1) := by decide +kernel
theorem dX0_appraiseGiven_73 : decode cX0_appraiseGiven 73 = .ok (.return_, 1) := by decide +kernel
theorem dX0_appraiseStruck_0 : decode cX0_appraiseStruck 0 = .ok (.aload_n 0, 1) := by decide +kernel
theorem dX0_appraiseStruck_1 : decode cX0_appraiseStruck 1 = .ok (.getfield 11, 3) := by decide +kernel
theorem dX0_appraiseStruck_4 : decode cX0_appraiseStruck 4 = .ok (.iload_n 2, 1) := by decide +kernel
theorem dX0_appraiseStruck_5 : decode cX0_appraiseStruck 5 = .ok (.iaload, 1) := by decide +kernel
theorem dX0_appraiseStruck_6 : decode cX0_appraiseStruck 6 = .ok (.istore 5, 2) := by decide +kernel
theorem dX0_appraiseStruck_8 : decode cX0_appraiseStruck 8 = .ok (.aload_n 1, 1) := by decide +kernel
theorem dX0_appraiseStruck_9 : decode cX0_appraiseStruck 9 = .ok (.getfield 79, 3) := by decide +kernel
theorem dX0_appraiseStruck_12 : decode cX0_appraiseStruck 12 = .ok (.getfield 98, 3) := by decide +kernel
theorem dX0_appraiseStruck_15 : decode cX0_appraiseStruck 15 = .ok (.iload 5, 2) := by decide +kernel
theorem dX0_appraiseStruck_17 : decode cX0_appraiseStruck 17 = .ok (.iaload, 1) := by decide +kernel
theorem dX0_appraiseStruck_18 : decode cX0_appraiseStruck 18 = .ok (.istore 6, 2) := by decide +kernel
theorem dX0_appraiseStruck_20 : decode cX0_appraiseStruck 20 = .ok (.iconst 0, 1) := by decide +kernel
theorem dX0_appraiseStruck_21 : decode cX0_appraiseStruck 21 = .ok (.istore 7, 2) := by decide +kernel
theorem dX0_appraiseStruck_23 : decode cX0_appraiseStruck 23 = .ok (.iload 7, 2) := by decide +kernel
theorem dX0_appraiseStruck_25 : decode cX0_appraiseStruck 25 = .ok (.iconst 4, 1) := by decide +kernel
theorem dX0_appraiseStruck_26 : decode cX0_appraiseStruck 26 = .ok (.if_icmp .ge 96, 3) := by decide +kernel
theorem dX0_appraiseStruck_29 : decode cX0_appraiseStruck 29 = .ok (.iconst 0, 1) := by decide +kernel
theorem dX0_appraiseStruck_30 : decode cX0_appraiseStruck 30 = .ok (.istore 8, 2) := by decide +kernel
theorem dX0_appraiseStruck_32 : decode cX0_appraiseStruck 32 = .ok (.aload_n 1, 1) := by decide +kernel
theorem dX0_appraiseStruck_33 : decode cX0_appraiseStruck 33 = .ok (.aload_n 1, 1) := by decide +kernel
theorem dX0_appraiseStruck_34 : decode cX0_appraiseStruck 34 = .ok (.getfield 79, 3) := by decide +kernel
theorem dX0_appraiseStruck_37 : decode cX0_appraiseStruck 37 = .ok (.getfield 95, 3) := by decide +kernel
theorem dX0_appraiseStruck_40 : decode cX0_appraiseStruck 40 = .ok (.iload 5, 2) := by decide +kernel
theorem dX0_appraiseStruck_42 : decode cX0_appraiseStruck 42 = .ok (.iaload, 1) := by decide +kernel
theorem dX0_appraiseStruck_43 : decode cX0_appraiseStruck 43 = .ok (.iload 6, 2) := by decide +kernel
theorem dX0_appraiseStruck_45 : decode cX0_appraiseStruck 45 = .ok (.iload 7, 2) := by decide +kernel
theorem dX0_appraiseStruck_47 : decode cX0_appraiseStruck 47 = .ok (.invokevirtual 101, 3) := by decide +kernel
theorem dX0_appraiseStruck_50 : decode cX0_appraiseStruck 50 = .ok (.ifCond .ne 50, 3) := by decide +kernel
theorem dX0_appraiseStruck_53 : decode cX0_appraiseStruck 53 = .ok (.aload_n 1, 1) := by decide +kernel
theorem dX0_appraiseStruck_54 : decode cX0_appraiseStruck 54 = .ok (.getfield 79, 3) := by decide +kernel
theorem dX0_appraiseStruck_57 : decode cX0_appraiseStruck 57 = .ok (.getfield 95, 3) := by decide +kernel
theorem dX0_appraiseStruck_60 : decode cX0_appraiseStruck 60 = .ok (.iload 5, 2) := by decide +kernel
theorem dX0_appraiseStruck_62 : decode cX0_appraiseStruck 62 = .ok (.iaload, 1) := by decide +kernel
theorem dX0_appraiseStruck_63 : decode cX0_appraiseStruck 63 = .ok (.aload_n 1, 1) := by decide +kernel
theorem dX0_appraiseStruck_64 : decode cX0_appraiseStruck 64 = .ok (.getfield 107, 3) := by decide +kernel
theorem dX0_appraiseStruck_67 : decode cX0_appraiseStruck 67 = .ok (.getfield 111, 3) := by decide +kernel
theorem dX0_appraiseStruck_70 : decode cX0_appraiseStruck 70 = .ok (.iload 7, 2) := by decide +kernel
theorem dX0_appraiseStruck_72 : decode cX0_appraiseStruck 72 = .ok (.iaload, 1) := by decide +kernel
theorem dX0_appraiseStruck_73 : decode cX0_appraiseStruck 73 = .ok (.isub, 1) := by decide +kernel
theorem dX0_appraiseStruck_74 : decode cX0_appraiseStruck 74 = .ok (.istore 9, 2) := by decide +kernel
theorem dX0_appraiseStruck_76 : decode cX0_appraiseStruck 76 = .ok (.aload_n 1, 1) := by decide +kernel
theorem dX0_appraiseStruck_77 : decode cX0_appraiseStruck 77 = .ok (.iload 9, 2) := by decide +kernel
theorem dX0_appraiseStruck_79 : decode cX0_appraiseStruck 79 = .ok (.iload 6, 2) := by decide +kernel
theorem dX0_appraiseStruck_81 : decode cX0_appraiseStruck 81 = .ok (.iconst 1, 1) := by decide +kernel
theorem dX0_appraiseStruck_82 : decode cX0_appraiseStruck 82 = .ok (.iadd, 1) := by decide +kernel
theorem dX0_appraiseStruck_83 : decode cX0_appraiseStruck 83 = .ok (.iload_n 3, 1) := by decide +kernel
theorem dX0_appraiseStruck_84 : decode cX0_appraiseStruck 84 = .ok (.invokevirtual 101, 3) := by decide +kernel
theorem dX0_appraiseStruck_87 : decode cX0_appraiseStruck 87 = .ok (.ifCond .ne 13, 3) := by decide +kernel
theorem dX0_appraiseStruck_90 : decode cX0_appraiseStruck 90 = .ok (.iload 9, 2) := by decide +kernel
theorem dX0_appraiseStruck_92 : decode cX0_appraiseStruck 92 = .ok (.iload 4, 2) := by decide +kernel
theorem dX0_appraiseStruck_94 : decode cX0_appraiseStruck 94 = .ok (.imul, 1) := by decide +kernel
theorem dX0_appraiseStruck_95 : decode cX0_appraiseStruck 95 = .ok (.bipush 100, 2) := by decide +kernel
theorem dX0_appraiseStruck_97 : decode cX0_appraiseStruck 97 = .ok (.idiv, 1) := by decide +kernel
theorem dX0_appraiseStruck_98 : decode cX0_appraiseStruck 98 = .ok (.istore 8, 2) := by decide +kernel
theorem dX0_appraiseStruck_100 : decode cX0_appraiseStruck 100 = .ok (.aload_n 0, 1) := by decide +kernel
theorem dX0_appraiseStruck_101 : decode cX0_appraiseStruck 101 = .ok (.getfield 18, 3) := by decide +kernel
theorem dX0_appraiseStruck_104 : decode cX0_appraiseStruck 104 = .ok (.iload_n 2, 1) := by decide +kernel
theorem dX0_appraiseStruck_105 : decode cX0_appraiseStruck 105 = .ok (.bipush 6, 2) := by decide +kernel
theorem dX0_appraiseStruck_107 : decode cX0_appraiseStruck 107 = .ok (.imul, 1) := by decide +kernel
theorem dX0_appraiseStruck_108 : decode cX0_appraiseStruck 108 = .ok (.iconst 2, 1) := by decide +kernel
theorem dX0_appraiseStruck_109 : decode cX0_appraiseStruck 109 = .ok (.iadd, 1) := by decide +kernel
theorem dX0_appraiseStruck_110 : decode cX0_appraiseStruck 110 = .ok (.iload 7, 2) := by decide +kernel
theorem dX0_appraiseStruck_112 : decode cX0_appraiseStruck 112 = .ok (.iadd, 1) := by decide +kernel
theorem dX0_appraiseStruck_113 : decode cX0_appraiseStruck 113 = .ok (.iload 8, 2) := by decide +kernel
theorem dX0_appraiseStruck_115 : decode cX0_appraiseStruck 115 = .ok (.iastore, 1) := by decide +kernel
theorem dX0_appraiseStruck_116 : decode cX0_appraiseStruck 116 = .ok (.iinc 7 1, 3) := by decide +kernel
theorem dX0_appraiseStruck_119 : decode cX0_appraiseStruck 119 = .ok (.goto (-96), 3) := by decide +kernel
theorem dX0_appraiseStruck_122 : decode cX0_appraiseStruck 122 = .ok (.return_, 1) := by decide +kernel
theorem dX0_noteUsable_0 : decode cX0_noteUsable 0 = .ok (.iconst 0, 1) := by decide +kernel
theorem dX0_noteUsable_1 : decode cX0_noteUsable 1 = .ok (.istore_n 3, 1) := by decide +kernel
theorem dX0_noteUsable_2 : decode cX0_noteUsable 2 = .ok (.iconst 1, 1) := by decide +kernel
theorem dX0_noteUsable_3 : decode cX0_noteUsable 3 = .ok (.istore 4, 2) := by decide +kernel
theorem dX0_noteUsable_5 : decode cX0_noteUsable 5 = .ok (.iload 4, 2) := by decide +kernel
theorem dX0_noteUsable_7 : decode cX0_noteUsable 7 = .ok (.bipush 6, 2) := by decide +kernel
theorem dX0_noteUsable_9 : decode cX0_noteUsable 9 = .ok (.if_icmp .ge 26, 3) := by decide +kernel
theorem dX0_noteUsable_12 : decode cX0_noteUsable 12 = .ok (.iload_n 3, 1) := by decide +kernel
theorem dX0_noteUsable_13 : decode cX0_noteUsable 13 = .ok (.aload_n 0, 1) := by decide +kernel
theorem dX0_noteUsable_14 : decode cX0_noteUsable 14 = .ok (.getfield 18, 3) := by decide +kernel
theorem dX0_noteUsable_17 : decode cX0_noteUsable 17 = .ok (.iload_n 2, 1) := by decide +kernel
theorem dX0_noteUsable_18 : decode cX0_noteUsable 18 = .ok (.bipush 6, 2) := by decide +kernel
theorem dX0_noteUsable_20 : decode cX0_noteUsable 20 = .ok (.imul, 1) := by decide +kernel
theorem dX0_noteUsable_21 : decode cX0_noteUsable 21 = .ok (.iload 4, 2) := by decide +kernel
theorem dX0_noteUsable_23 : decode cX0_noteUsable 23 = .ok (.iadd, 1) := by decide +kernel
theorem dX0_noteUsable_24 : decode cX0_noteUsable 24 = .ok (.iaload, 1) := by decide +kernel
theorem dX0_noteUsable_25 : decode cX0_noteUsable 25 = .ok (.invokestatic 116, 3) := by decide +kernel
theorem dX0_noteUsable_28 : decode cX0_noteUsable 28 = .ok (.istore_n 3, 1) := by decide +kernel
theorem dX0_noteUsable_29 : decode cX0_noteUsable 29 = .ok (.iinc 4 1, 3) := by decide +kernel
theorem dX0_noteUsable_32 : decode cX0_noteUsable 32 = .ok (.goto (-27), 3) := by decide +kernel
theorem dX0_noteUsable_35 : decode cX0_noteUsable 35 = .ok (.iload_n 3, 1) := by decide +kernel
theorem dX0_noteUsable_36 : decode cX0_noteUsable 36 = .ok (.ifCond .le 65, 3) := by decide +kernel
theorem dX0_noteUsable_39 : decode cX0_noteUsable 39 = .ok (.aload_n 0, 1) := by decide +kernel
theorem dX0_noteUsable_40 : decode cX0_noteUsable 40 = .ok (.getfield 37, 3) := by decide +kernel
theorem dX0_noteUsable_43 : decode cX0_noteUsable 43 = .ok (.bipush 12, 2) := by decide +kernel
theorem dX0_noteUsable_45 : decode cX0_noteUsable 45 = .ok (.if_icmp .ge 56, 3) := by decide +kernel
theorem dX0_noteUsable_48 : decode cX0_noteUsable 48 = .ok (.aload_n 0, 1) := by decide +kernel
theorem dX0_noteUsable_49 : decode cX0_noteUsable 49 = .ok (.getfield 21, 3) := by decide +kernel
theorem dX0_noteUsable_52 : decode cX0_noteUsable 52 = .ok (.aload_n 0, 1) := by decide +kernel
theorem dX0_noteUsable_53 : decode cX0_noteUsable 53 = .ok (.getfield 37, 3) := by decide +kernel
theorem dX0_noteUsable_56 : decode cX0_noteUsable 56 = .ok (.iload_n 2, 1) := by decide +kernel
theorem dX0_noteUsable_57 : decode cX0_noteUsable 57 = .ok (.iastore, 1) := by decide +kernel
theorem dX0_noteUsable_58 : decode cX0_noteUsable 58 = .ok (.aload_n 0, 1) := by decide +kernel
theorem dX0_noteUsable_59 : decode cX0_noteUsable 59 = .ok (.getfield 24, 3) := by decide +kernel
theorem dX0_noteUsable_62 : decode cX0_noteUsable 62 = .ok (.aload_n 0, 1) := by decide +kernel
theorem dX0_noteUsable_63 : decode cX0_noteUsable 63 = .ok (.getfield 37, 3) := by decide +kernel
theorem dX0_noteUsable_66 : decode cX0_noteUsable 66 = .ok (.aload_n 1, 1) := by decide +kernel
theorem dX0_noteUsable_67 : decode cX0_noteUsable 67 = .ok (.getfield 79, 3) := by decide +kernel
theorem dX0_noteUsable_70 : decode cX0_noteUsable 70 = .ok (.getfield 95, 3) := by decide +kernel
theorem dX0_noteUsable_73 : decode cX0_noteUsable 73 = .ok (.aload_n 0, 1) := by decide +kernel
theorem dX0_noteUsable_74 : decode cX0_noteUsable 74 = .ok (.getfield 11, 3) := by decide +kernel
theorem dX0_noteUsable_77 : decode cX0_noteUsable 77 = .ok (.iload_n 2, 1) := by decide +kernel
theorem dX0_noteUsable_78 : decode cX0_noteUsable 78 = .ok (.iaload, 1) := by decide +kernel
theorem dX0_noteUsable_79 : decode cX0_noteUsable 79 = .ok (.iaload, 1) := by decide +kernel
theorem dX0_noteUsable_80 : decode cX0_noteUsable 80 = .ok (.iastore, 1) := by decide +kernel
theorem dX0_noteUsable_81 : decode cX0_noteUsable 81 = .ok (.aload_n 0, 1) := by decide +kernel
theorem dX0_noteUsable_82 : decode cX0_noteUsable 82 = .ok (.getfield 27, 3) := by decide +kernel
theorem dX0_noteUsable_85 : decode cX0_noteUsable 85 = .ok (.aload_n 0, 1) := by decide +kernel
theorem dX0_noteUsable_86 : decode cX0_noteUsable 86 = .ok (.getfield 37, 3) := by decide +kernel
theorem dX0_noteUsable_89 : decode cX0_noteUsable 89 = .ok (.iload_n 3, 1) := by decide +kernel
theorem dX0_noteUsable_90 : decode cX0_noteUsable 90 = .ok (.iastore, 1) := by decide +kernel
theorem dX0_noteUsable_91 : decode cX0_noteUsable 91 = .ok (.aload_n 0, 1) := by decide +kernel
theorem dX0_noteUsable_92 : decode cX0_noteUsable 92 = .ok (.dup, 1) := by decide +kernel
theorem dX0_noteUsable_93 : decode cX0_noteUsable 93 = .ok (.getfield 37, 3) := by decide +kernel
theorem dX0_noteUsable_96 : decode cX0_noteUsable 96 = .ok (.iconst 1, 1) := by decide +kernel
theorem dX0_noteUsable_97 : decode cX0_noteUsable 97 = .ok (.iadd, 1) := by decide +kernel
theorem dX0_noteUsable_98 : decode cX0_noteUsable 98 = .ok (.putfield 37, 3) := by decide +kernel
theorem dX0_noteUsable_101 : decode cX0_noteUsable 101 = .ok (.return_, 1) := by decide +kernel
theorem dX0_sumWorth_0 : decode cX0_sumWorth 0 = .ok (.iconst 0, 1) := by decide +kernel
theorem dX0_sumWorth_1 : decode cX0_sumWorth 1 = .ok (.istore_n 1, 1) := by decide +kernel
theorem dX0_sumWorth_2 : decode cX0_sumWorth 2 = .ok (.aload_n 0, 1) := by decide +kernel
theorem dX0_sumWorth_3 : decode cX0_sumWorth 3 = .ok (.getfield 37, 3) := by decide +kernel
theorem dX0_sumWorth_6 : decode cX0_sumWorth 6 = .ok (.iconst 1, 1) := by decide +kernel
theorem dX0_sumWorth_7 : decode cX0_sumWorth 7 = .ok (.isub, 1) := by decide +kernel
theorem dX0_sumWorth_8 : decode cX0_sumWorth 8 = .ok (.istore_n 2, 1) := by decide +kernel
theorem dX0_sumWorth_9 : decode cX0_sumWorth 9 = .ok (.iload_n 2, 1) := by decide +kernel
theorem dX0_sumWorth_10 : decode cX0_sumWorth 10 = .ok (.ifCond .lt 25, 3) := by decide +kernel
theorem dX0_sumWorth_13 : decode cX0_sumWorth 13 = .ok (.iload_n 1, 1) := by decide +kernel
theorem dX0_sumWorth_14 : decode cX0_sumWorth 14 = .ok (.aload_n 0, 1) := by decide +kernel
theorem dX0_sumWorth_15 : decode cX0_sumWorth 15 = .ok (.getfield 27, 3) := by decide +kernel
theorem dX0_sumWorth_18 : decode cX0_sumWorth 18 = .ok (.iload_n 2, 1) := by decide +kernel
theorem dX0_sumWorth_19 : decode cX0_sumWorth 19 = .ok (.iaload, 1) := by decide +kernel
theorem dX0_sumWorth_20 : decode cX0_sumWorth 20 = .ok (.iadd, 1) := by decide +kernel
theorem dX0_sumWorth_21 : decode cX0_sumWorth 21 = .ok (.istore_n 1, 1) := by decide +kernel
theorem dX0_sumWorth_22 : decode cX0_sumWorth 22 = .ok (.aload_n 0, 1) := by decide +kernel
theorem dX0_sumWorth_23 : decode cX0_sumWorth 23 = .ok (.getfield 30, 3) := by decide +kernel
theorem dX0_sumWorth_26 : decode cX0_sumWorth 26 = .ok (.iload_n 2, 1) := by decide +kernel
theorem dX0_sumWorth_27 : decode cX0_sumWorth 27 = .ok (.iload_n 1, 1) := by decide +kernel
theorem dX0_sumWorth_28 : decode cX0_sumWorth 28 = .ok (.iastore, 1) := by decide +kernel
theorem dX0_sumWorth_29 : decode cX0_sumWorth 29 = .ok (.iinc 2 (-1), 3) := by decide +kernel
theorem dX0_sumWorth_32 : decode cX0_sumWorth 32 = .ok (.goto (-23), 3) := by decide +kernel
theorem dX0_sumWorth_35 : decode cX0_sumWorth 35 = .ok (.return_, 1) := by decide +kernel
theorem dX0_seekCheapest_0 : decode cX0_seekCheapest 0 = .ok (.iload 4, 2) := by decide +kernel
theorem dX0_seekCheapest_2 : decode cX0_seekCheapest 2 = .ok (.ifCond .gt 10, 3) := by decide +kernel
theorem dX0_seekCheapest_5 : decode cX0_seekCheapest 5 = .ok (.aload_n 0, 1) := by decide +kernel
theorem dX0_seekCheapest_6 : decode cX0_seekCheapest 6 = .ok (.iload_n 2, 1) := by decide +kernel
theorem dX0_seekCheapest_7 : decode cX0_seekCheapest 7 = .ok (.iload_n 3, 1) := by decide +kernel
theorem dX0_seekCheapest_8 : decode cX0_seekCheapest 8 = .ok (.invokevirtual 122, 3) := by decide +kernel
theorem dX0_seekCheapest_11 : decode cX0_seekCheapest 11 = .ok (.return_, 1) := by decide +kernel
theorem dX0_seekCheapest_12 : decode cX0_seekCheapest 12 = .ok (.iload_n 1, 1) := by decide +kernel
theorem dX0_seekCheapest_13 : decode cX0_seekCheapest 13 = .ok (.aload_n 0, 1) := by decide +kernel
theorem dX0_seekCheapest_14 : decode cX0_seekCheapest 14 = .ok (.getfield 37, 3) := by decide +kernel
theorem dX0_seekCheapest_17 : decode cX0_seekCheapest 17 = .ok (.if_icmp .ge 20, 3) := by decide +kernel
theorem dX0_seekCheapest_20 : decode cX0_seekCheapest 20 = .ok (.iload_n 1, 1) := by decide +kernel
theorem dX0_seekCheapest_21 : decode cX0_seekCheapest 21 = .ok (.bipush 12, 2) := by decide +kernel
theorem dX0_seekCheapest_23 : decode cX0_seekCheapest 23 = .ok (.if_icmp .ge 14, 3) := by decide +kernel
theorem dX0_seekCheapest_26 : decode cX0_seekCheapest 26 = .ok (.aload_n 0, 1) := by decide +kernel
theorem dX0_seekCheapest_27 : decode cX0_seekCheapest 27 = .ok (.getfield 30, 3) := by decide +kernel
theorem dX0_seekCheapest_30 : decode cX0_seekCheapest 30 = .ok (.iload_n 1, 1) := by decide +kernel
theorem dX0_seekCheapest_31 : decode cX0_seekCheapest 31 = .ok (.iaload, 1) := by decide +kernel
theorem dX0_seekCheapest_32 : decode cX0_seekCheapest 32 = .ok (.iload 4, 2) := by decide +kernel
theorem dX0_seekCheapest_34 : decode cX0_seekCheapest 34 = .ok (.if_icmp .ge 4, 3) := by decide +kernel
theorem dX0_seekCheapest_37 : decode cX0_seekCheapest 37 = .ok (.return_, 1) := by decide +kernel
theorem dX0_seekCheapest_38 : decode cX0_seekCheapest 38 = .ok (.aload_n 0, 1) := by decide +kernel
theorem dX0_seekCheapest_39 : decode cX0_seekCheapest 39 = .ok (.getfield 68, 3) := by decide +kernel
theorem dX0_seekCheapest_42 : decode cX0_seekCheapest 42 = .ok (.iconst (-1), 1) := by decide +kernel
theorem dX0_seekCheapest_43 : decode cX0_seekCheapest 43 = .ok (.if_icmp .eq 12, 3) := by decide +kernel
theorem dX0_seekCheapest_46 : decode cX0_seekCheapest 46 = .ok (.iload_n 2, 1) := by decide +kernel
theorem dX0_seekCheapest_47 : decode cX0_seekCheapest 47 = .ok (.aload_n 0, 1) := by decide +kernel
theorem dX0_seekCheapest_48 : decode cX0_seekCheapest 48 = .ok (.getfield 68, 3) := by decide +kernel
theorem dX0_seekCheapest_51 : decode cX0_seekCheapest 51 = .ok (.if_icmp .lt 4, 3) := by decide +kernel
theorem dX0_seekCheapest_54 : decode cX0_seekCheapest 54 = .ok (.return_, 1) := by decide +kernel
theorem dX0_seekCheapest_55 : decode cX0_seekCheapest 55 = .ok (.aload_n 0, 1) := by decide +kernel
theorem dX0_seekCheapest_56 : decode cX0_seekCheapest 56 = .ok (.iload_n 1, 1) := by decide +kernel
theorem dX0_seekCheapest_57 : decode cX0_seekCheapest 57 = .ok (.iconst 1, 1) := by decide +kernel
theorem dX0_seekCheapest_58 : decode cX0_seekCheapest 58 = .ok (.iadd, 1) := by decide +kernel
theorem dX0_seekCheapest_59 : decode cX0_seekCheapest 59 = .ok (.iload_n 2, 1) := by decide +kernel
theorem dX0_seekCheapest_60 : decode cX0_seekCheapest 60 = .ok (.aload_n 0, 1) := by decide +kernel
theorem dX0_seekCheapest_61 : decode cX0_seekCheapest 61 = .ok (.getfield 24, 3) := by decide +kernel
theorem dX0_seekCheapest_64 : decode cX0_seekCheapest 64 = .ok (.iload_n 1, 1) := by decide +kernel
theorem dX0_seekCheapest_65 : decode cX0_seekCheapest 65 = .ok (.iaload, 1) := by decide +kernel
theorem dX0_seekCheapest_66 : decode cX0_seekCheapest 66 = .ok (.iadd, 1) := by decide +kernel
theorem dX0_seekCheapest_67 : decode cX0_seekCheapest 67 = .ok (.iload_n 3, 1) := by decide +kernel
theorem dX0_seekCheapest_68 : decode cX0_seekCheapest 68 = .ok (.iconst 1, 1) := by decide +kernel
theorem dX0_seekCheapest_69 : decode cX0_seekCheapest 69 = .ok (.iadd, 1) := by decide +kernel
theorem dX0_seekCheapest_70 : decode cX0_seekCheapest 70 = .ok (.iload 4, 2) := by decide +kernel
theorem dX0_seekCheapest_72 : decode cX0_seekCheapest 72 = .ok (.aload_n 0, 1) := by decide +kernel
theorem dX0_seekCheapest_73 : decode cX0_seekCheapest 73 = .ok (.getfield 27, 3) := by decide +kernel
theorem dX0_seekCheapest_76 : decode cX0_seekCheapest 76 = .ok (.iload_n 1, 1) := by decide +kernel
theorem dX0_seekCheapest_77 : decode cX0_seekCheapest 77 = .ok (.iaload, 1) := by decide +kernel
theorem dX0_seekCheapest_78 : decode cX0_seekCheapest 78 = .ok (.isub, 1) := by decide +kernel
theorem dX0_seekCheapest_79 : decode cX0_seekCheapest 79 = .ok (.invokevirtual 71, 3) := by decide +kernel
theorem dX0_seekCheapest_82 : decode cX0_seekCheapest 82 = .ok (.aload_n 0, 1) := by decide +kernel
theorem dX0_seekCheapest_83 : decode cX0_seekCheapest 83 = .ok (.iload_n 1, 1) := by decide +kernel
theorem dX0_seekCheapest_84 : decode cX0_seekCheapest 84 = .ok (.iconst 1, 1) := by decide +kernel
theorem dX0_seekCheapest_85 : decode cX0_seekCheapest 85 = .ok (.iadd, 1) := by decide +kernel
theorem dX0_seekCheapest_86 : decode cX0_seekCheapest 86 = .ok (.iload_n 2, 1) := by decide +kernel
theorem dX0_seekCheapest_87 : decode cX0_seekCheapest 87 = .ok (.iload_n 3, 1) := by decide +kernel
theorem dX0_seekCheapest_88 : decode cX0_seekCheapest 88 = .ok (.iload 4, 2) := by decide +kernel
theorem dX0_seekCheapest_90 : decode cX0_seekCheapest 90 = .ok (.invokevirtual 71, 3) := by decide +kernel
theorem dX0_seekCheapest_93 : decode cX0_seekCheapest 93 = .ok (.return_, 1) := by decide +kernel
theorem dX0_noteCheapest_0 : decode cX0_noteCheapest 0 = .ok (.aload_n 0, 1) := by decide +kernel
theorem dX0_noteCheapest_1 : decode cX0_noteCheapest 1 = .ok (.getfield 68, 3) := by decide +kernel
theorem dX0_noteCheapest_4 : decode cX0_noteCheapest 4 = .ok (.iconst (-1), 1) := by decide +kernel
theorem dX0_noteCheapest_5 : decode cX0_noteCheapest 5 = .ok (.if_icmp .eq 27, 3) := by decide +kernel
theorem dX0_noteCheapest_8 : decode cX0_noteCheapest 8 = .ok (.iload_n 1, 1) := by decide +kernel
theorem dX0_noteCheapest_9 : decode cX0_noteCheapest 9 = .ok (.aload_n 0, 1) := by decide +kernel
theorem dX0_noteCheapest_10 : decode cX0_noteCheapest 10 = .ok (.getfield 68, 3) := by decide +kernel
theorem dX0_noteCheapest_13 : decode cX0_noteCheapest 13 = .ok (.if_icmp .lt 19, 3) := by decide +kernel
theorem dX0_noteCheapest_16 : decode cX0_noteCheapest 16 = .ok (.iload_n 1, 1) := by decide +kernel
theorem dX0_noteCheapest_17 : decode cX0_noteCheapest 17 = .ok (.aload_n 0, 1) := by decide +kernel
theorem dX0_noteCheapest_18 : decode cX0_noteCheapest 18 = .ok (.getfield 68, 3) := by decide +kernel
theorem dX0_noteCheapest_21 : decode cX0_noteCheapest 21 = .ok (.if_icmp .ne 15, 3) := by decide +kernel
theorem dX0_noteCheapest_24 : decode cX0_noteCheapest 24 = .ok (.iload_n 2, 1) := by decide +kernel
theorem dX0_noteCheapest_25 : decode cX0_noteCheapest 25 = .ok (.aload_n 0, 1) := by decide +kernel
theorem dX0_noteCheapest_26 : decode cX0_noteCheapest 26 = .ok (.getfield 126, 3) := by decide +kernel
theorem dX0_noteCheapest_29 : decode cX0_noteCheapest 29 = .ok (.if_icmp .ge 7, 3) := by decide +kernel
theorem dX0_noteCheapest_32 : decode cX0_noteCheapest 32 = .ok (.iconst 1, 1) := by decide +kernel
theorem dX0_noteCheapest_33 : decode cX0_noteCheapest 33 = .ok (.goto 4, 3) := by decide +kernel
theorem dX0_noteCheapest_36 : decode cX0_noteCheapest 36 = .ok (.iconst 0, 1) := by decide +kernel
theorem dX0_noteCheapest_37 : decode cX0_noteCheapest 37 = .ok (.istore_n 3, 1) := by decide +kernel
theorem dX0_noteCheapest_38 : decode cX0_noteCheapest 38 = .ok (.iload_n 3, 1) := by decide +kernel
theorem dX0_noteCheapest_39 : decode cX0_noteCheapest 39 = .ok (.ifCond .eq 13, 3) := by decide +kernel
theorem dX0_noteCheapest_42 : decode cX0_noteCheapest 42 = .ok (.aload_n 0, 1) := by decide +kernel
theorem dX0_noteCheapest_43 : decode cX0_noteCheapest 43 = .ok (.iload_n 1, 1) := by decide +kernel
theorem dX0_noteCheapest_44 : decode cX0_noteCheapest 44 = .ok (.putfield 68, 3) := by decide +kernel
theorem dX0_noteCheapest_47 : decode cX0_noteCheapest 47 = .ok (.aload_n 0, 1) := by decide +kernel
theorem dX0_noteCheapest_48 : decode cX0_noteCheapest 48 = .ok (.iload_n 2, 1) := by decide +kernel
theorem dX0_noteCheapest_49 : decode cX0_noteCheapest 49 = .ok (.putfield 126, 3) := by decide +kernel
theorem dX0_noteCheapest_52 : decode cX0_noteCheapest 52 = .ok (.return_, 1) := by decide +kernel
theorem dX0_chooseWays_0 : decode cX0_chooseWays 0 = .ok (.aload_n 0, 1) := by decide +kernel
theorem dX0_chooseWays_1 : decode cX0_chooseWays 1 = .ok (.getfield 68, 3) := by decide +kernel
theorem dX0_chooseWays_4 : decode cX0_chooseWays 4 = .ok (.istore_n 2, 1) := by decide +kernel
theorem dX0_chooseWays_5 : decode cX0_chooseWays 5 = .ok (.iload_n 1, 1) := by decide +kernel
theorem dX0_chooseWays_6 : decode cX0_chooseWays 6 = .ok (.istore_n 3, 1) := by decide +kernel
theorem dX0_chooseWays_7 : decode cX0_chooseWays 7 = .ok (.aload_n 0, 1) := by decide +kernel
theorem dX0_chooseWays_8 : decode cX0_chooseWays 8 = .ok (.iconst 0, 1) := by decide +kernel
theorem dX0_chooseWays_9 : decode cX0_chooseWays 9 = .ok (.putfield 129, 3) := by decide +kernel
theorem dX0_chooseWays_12 : decode cX0_chooseWays 12 = .ok (.aload_n 0, 1) := by decide +kernel
theorem dX0_chooseWays_13 : decode cX0_chooseWays 13 = .ok (.iconst 0, 1) := by decide +kernel
theorem dX0_chooseWays_14 : decode cX0_chooseWays 14 = .ok (.putfield 132, 3) := by decide +kernel
theorem dX0_chooseWays_17 : decode cX0_chooseWays 17 = .ok (.iconst 0, 1) := by decide +kernel
theorem dX0_chooseWays_18 : decode cX0_chooseWays 18 = .ok (.istore 4, 2) := by decide +kernel
theorem dX0_chooseWays_20 : decode cX0_chooseWays 20 = .ok (.iload 4, 2) := by decide +kernel
theorem dX0_chooseWays_22 : decode cX0_chooseWays 22 = .ok (.aload_n 0, 1) := by decide +kernel
theorem dX0_chooseWays_23 : decode cX0_chooseWays 23 = .ok (.getfield 37, 3) := by decide +kernel
theorem dX0_chooseWays_26 : decode cX0_chooseWays 26 = .ok (.if_icmp .ge 111, 3) := by decide +kernel
theorem dX0_chooseWays_29 : decode cX0_chooseWays 29 = .ok (.iload 4, 2) := by decide +kernel
theorem dX0_chooseWays_31 : decode cX0_chooseWays 31 = .ok (.bipush 12, 2) := by decide +kernel
theorem dX0_chooseWays_33 : decode cX0_chooseWays 33 = .ok (.if_icmp .ge 104, 3) := by decide +kernel
theorem dX0_chooseWays_36 : decode cX0_chooseWays 36 = .ok (.aload_n 0, 1) := by decide +kernel
theorem dX0_chooseWays_37 : decode cX0_chooseWays 37 = .ok (.iload 4, 2) := by decide +kernel
theorem dX0_chooseWays_39 : decode cX0_chooseWays 39 = .ok (.iload_n 2, 1) := by decide +kernel
theorem dX0_chooseWays_40 : decode cX0_chooseWays 40 = .ok (.aload_n 0, 1) := by decide +kernel
theorem dX0_chooseWays_41 : decode cX0_chooseWays 41 = .ok (.getfield 126, 3) := by decide +kernel
theorem dX0_chooseWays_44 : decode cX0_chooseWays 44 = .ok (.aload_n 0, 1) := by decide +kernel
theorem dX0_chooseWays_45 : decode cX0_chooseWays 45 = .ok (.getfield 129, 3) := by decide +kernel
theorem dX0_chooseWays_48 : decode cX0_chooseWays 48 = .ok (.isub, 1) := by decide +kernel
theorem dX0_chooseWays_49 : decode cX0_chooseWays 49 = .ok (.iload_n 3, 1) := by decide +kernel
theorem dX0_chooseWays_50 : decode cX0_chooseWays 50 = .ok (.invokevirtual 135, 3) := by decide +kernel
theorem dX0_chooseWays_53 : decode cX0_chooseWays 53 = .ok (.istore 5, 2) := by decide +kernel
theorem dX0_chooseWays_55 : decode cX0_chooseWays 55 = .ok (.aload_n 0, 1) := by decide +kernel
theorem dX0_chooseWays_56 : decode cX0_chooseWays 56 = .ok (.getfield 15, 3) := by decide +kernel
theorem dX0_chooseWays_59 : decode cX0_chooseWays 59 = .ok (.aload_n 0, 1) := by decide +kernel
theorem dX0_chooseWays_60 : decode cX0_chooseWays 60 = .ok (.getfield 21, 3) := by decide +kernel
theorem dX0_chooseWays_63 : decode cX0_chooseWays 63 = .ok (.iload 4, 2) := by decide +kernel
theorem dX0_chooseWays_65 : decode cX0_chooseWays 65 = .ok (.iaload, 1) := by decide +kernel
theorem dX0_chooseWays_66 : decode cX0_chooseWays 66 = .ok (.iload 5, 2) := by decide +kernel
theorem dX0_chooseWays_68 : decode cX0_chooseWays 68 = .ok (.iastore, 1) := by decide +kernel
theorem dX0_chooseWays_69 : decode cX0_chooseWays 69 = .ok (.iload 5, 2) := by decide +kernel
theorem dX0_chooseWays_71 : decode cX0_chooseWays 71 = .ok (.ifCond .eq 44, 3) := by decide +kernel
theorem dX0_chooseWays_74 : decode cX0_chooseWays 74 = .ok (.iload_n 2, 1) := by decide +kernel
theorem dX0_chooseWays_75 : decode cX0_chooseWays 75 = .ok (.aload_n 0, 1) := by decide +kernel
theorem dX0_chooseWays_76 : decode cX0_chooseWays 76 = .ok (.getfield 24, 3) := by decide +kernel
theorem dX0_chooseWays_79 : decode cX0_chooseWays 79 = .ok (.iload 4, 2) := by decide +kernel
theorem dX0_chooseWays_81 : decode cX0_chooseWays 81 = .ok (.iaload, 1) := by decide +kernel
theorem dX0_chooseWays_82 : decode cX0_chooseWays 82 = .ok (.isub, 1) := by decide +kernel
theorem dX0_chooseWays_83 : decode cX0_chooseWays 83 = .ok (.istore_n 2, 1) := by decide +kernel
theorem dX0_chooseWays_84 : decode cX0_chooseWays 84 = .ok (.iload_n 3, 1) := by decide +kernel
theorem dX0_chooseWays_85 : decode cX0_chooseWays 85 = .ok (.aload_n 0, 1) := by decide +kernel
theorem dX0_chooseWays_86 : decode cX0_chooseWays 86 = .ok (.getfield 18, 3) := by decide +kernel
theorem dX0_chooseWays_89 : decode cX0_chooseWays 89 = .ok (.aload_n 0, 1) := by decide +kernel
theorem dX0_chooseWays_90 : decode cX0_chooseWays 90 = .ok (.getfield 21, 3) := by decide +kernel
theorem dX0_chooseWays_93 : decode cX0_chooseWays 93 = .ok (.iload 4, 2) := by decide +kernel
theorem dX0_chooseWays_95 : decode cX0_chooseWays 95 = .ok (.iaload, 1) := by decide +kernel
theorem dX0_chooseWays_96 : decode cX0_chooseWays 96 = .ok (.bipush 6, 2) := by decide +kernel
theorem dX0_chooseWays_98 : decode cX0_chooseWays 98 = .ok (.imul, 1) := by decide +kernel
theorem dX0_chooseWays_99 : decode cX0_chooseWays 99 = .ok (.iload 5, 2) := by decide +kernel
theorem dX0_chooseWays_101 : decode cX0_chooseWays 101 = .ok (.iadd, 1) := by decide +kernel
theorem dX0_chooseWays_102 : decode cX0_chooseWays 102 = .ok (.iaload, 1) := by decide +kernel
theorem dX0_chooseWays_103 : decode cX0_chooseWays 103 = .ok (.isub, 1) := by decide +kernel
theorem dX0_chooseWays_104 : decode cX0_chooseWays 104 = .ok (.istore_n 3, 1) := by decide +kernel
theorem dX0_chooseWays_105 : decode cX0_chooseWays 105 = .ok (.aload_n 0, 1) := by decide +kernel
theorem dX0_chooseWays_106 : decode cX0_chooseWays 106 = .ok (.dup, 1) := by decide +kernel
theorem dX0_chooseWays_107 : decode cX0_chooseWays 107 = .ok (.getfield 129, 3) := by decide +kernel
theorem dX0_chooseWays_110 : decode cX0_chooseWays 110 = .ok (.iconst 1, 1) := by decide +kernel
theorem dX0_chooseWays_111 : decode cX0_chooseWays 111 = .ok (.iadd, 1) := by decide +kernel
theorem dX0_chooseWays_112 : decode cX0_chooseWays 112 = .ok (.putfield 129, 3) := by decide +kernel
theorem dX0_chooseWays_115 : decode cX0_chooseWays 115 = .ok (.iload 5, 2) := by decide +kernel
theorem dX0_chooseWays_117 : decode cX0_chooseWays 117 = .ok (.iconst 2, 1) := by decide +kernel
theorem dX0_chooseWays_118 : decode cX0_chooseWays 118 = .ok (.if_icmp .lt 13, 3) := by decide +kernel
theorem dX0_chooseWays_121 : decode cX0_chooseWays 121 = .ok (.aload_n 0, 1) := by decide +kernel
theorem dX0_chooseWays_122 : decode cX0_chooseWays 122 = .ok (.dup, 1) := by decide +kernel
theorem dX0_chooseWays_123 : decode cX0_chooseWays 123 = .ok (.getfield 132, 3) := by decide +kernel
theorem dX0_chooseWays_126 : decode cX0_chooseWays 126 = .ok (.iconst 1, 1) := by decide +kernel
theorem dX0_chooseWays_127 : decode cX0_chooseWays 127 = .ok (.iadd, 1) := by decide +kernel
theorem dX0_chooseWays_128 : decode cX0_chooseWays 128 = .ok (.putfield 132, 3) := by decide +kernel
theorem dX0_chooseWays_131 : decode cX0_chooseWays 131 = .ok (.iinc 4 1, 3) := by decide +kernel
theorem dX0_chooseWays_134 : decode cX0_chooseWays 134 = .ok (.goto (-114), 3) := by decide +kernel
theorem dX0_chooseWays_137 : decode cX0_chooseWays 137 = .ok (.aload_n 0, 1) := by decide +kernel
theorem dX0_chooseWays_138 : decode cX0_chooseWays 138 = .ok (.iload_n 1, 1) := by decide +kernel
theorem dX0_chooseWays_139 : decode cX0_chooseWays 139 = .ok (.iload_n 3, 1) := by decide +kernel
theorem dX0_chooseWays_140 : decode cX0_chooseWays 140 = .ok (.isub, 1) := by decide +kernel
theorem dX0_chooseWays_141 : decode cX0_chooseWays 141 = .ok (.putfield 139, 3) := by decide +kernel
theorem dX0_chooseWays_144 : decode cX0_chooseWays 144 = .ok (.return_, 1) := by decide +kernel
theorem dX0_firstWay_0 : decode cX0_firstWay 0 = .ok (.aload_n 0, 1) := by decide +kernel
theorem dX0_firstWay_1 : decode cX0_firstWay 1 = .ok (.iload_n 1, 1) := by decide +kernel
theorem dX0_firstWay_2 : decode cX0_firstWay 2 = .ok (.iconst 1, 1) := by decide +kernel
theorem dX0_firstWay_3 : decode cX0_firstWay 3 = .ok (.iadd, 1) := by decide +kernel
theorem dX0_firstWay_4 : decode cX0_firstWay 4 = .ok (.iload_n 2, 1) := by decide +kernel
theorem dX0_firstWay_5 : decode cX0_firstWay 5 = .ok (.iload_n 3, 1) := by decide +kernel
theorem dX0_firstWay_6 : decode cX0_firstWay 6 = .ok (.iload 4, 2) := by decide +kernel
theorem dX0_firstWay_8 : decode cX0_firstWay 8 = .ok (.invokevirtual 142, 3) := by decide +kernel
theorem dX0_firstWay_11 : decode cX0_firstWay 11 = .ok (.ifCond .eq 5, 3) := by decide +kernel
theorem dX0_firstWay_14 : decode cX0_firstWay 14 = .ok (.iconst 0, 1) := by decide +kernel
theorem dX0_firstWay_15 : decode cX0_firstWay 15 = .ok (.ireturn, 1) := by decide +kernel
theorem dX0_firstWay_16 : decode cX0_firstWay 16 = .ok (.iconst 1, 1) := by decide +kernel
theorem dX0_firstWay_17 : decode cX0_firstWay 17 = .ok (.istore 5, 2) := by decide +kernel
theorem dX0_firstWay_19 : decode cX0_firstWay 19 = .ok (.iload 5, 2) := by decide +kernel
theorem dX0_firstWay_21 : decode cX0_firstWay 21 = .ok (.bipush 6, 2) := by decide +kernel
theorem dX0_firstWay_23 : decode cX0_firstWay 23 = .ok (.if_icmp .ge 62, 3) := by decide +kernel
theorem dX0_firstWay_26 : decode cX0_firstWay 26 = .ok (.aload_n 0, 1) := by decide +kernel
theorem dX0_firstWay_27 : decode cX0_firstWay 27 = .ok (.getfield 18, 3) := by decide +kernel
theorem dX0_firstWay_30 : decode cX0_firstWay 30 = .ok (.aload_n 0, 1) := by decide +kernel
theorem dX0_firstWay_31 : decode cX0_firstWay 31 = .ok (.getfield 21, 3) := by decide +kernel
theorem dX0_firstWay_34 : decode cX0_firstWay 34 = .ok (.iload_n 1, 1) := by decide +kernel
theorem dX0_firstWay_35 : decode cX0_firstWay 35 = .ok (.iaload, 1) := by decide +kernel
theorem dX0_firstWay_36 : decode cX0_firstWay 36 = .ok (.bipush 6, 2) := by decide +kernel
theorem dX0_firstWay_38 : decode cX0_firstWay 38 = .ok (.imul, 1) := by decide +kernel
theorem dX0_firstWay_39 : decode cX0_firstWay 39 = .ok (.iload 5, 2) := by decide +kernel
theorem dX0_firstWay_41 : decode cX0_firstWay 41 = .ok (.iadd, 1) := by decide +kernel
theorem dX0_firstWay_42 : decode cX0_firstWay 42 = .ok (.iaload, 1) := by decide +kernel
theorem dX0_firstWay_43 : decode cX0_firstWay 43 = .ok (.istore 6, 2) := by decide +kernel
theorem dX0_firstWay_45 : decode cX0_firstWay 45 = .ok (.iload 6, 2) := by decide +kernel
theorem dX0_firstWay_47 : decode cX0_firstWay 47 = .ok (.ifCond .le 32, 3) := by decide +kernel
theorem dX0_firstWay_50 : decode cX0_firstWay 50 = .ok (.aload_n 0, 1) := by decide +kernel
theorem dX0_firstWay_51 : decode cX0_firstWay 51 = .ok (.iload_n 1, 1) := by decide +kernel
theorem dX0_firstWay_52 : decode cX0_firstWay 52 = .ok (.iconst 1, 1) := by decide +kernel
theorem dX0_firstWay_53 : decode cX0_firstWay 53 = .ok (.iadd, 1) := by decide +kernel
theorem dX0_firstWay_54 : decode cX0_firstWay 54 = .ok (.iload_n 2, 1) := by decide +kernel
theorem dX0_firstWay_55 : decode cX0_firstWay 55 = .ok (.aload_n 0, 1) := by decide +kernel
theorem dX0_firstWay_56 : decode cX0_firstWay 56 = .ok (.getfield 24, 3) := by decide +kernel
theorem dX0_firstWay_59 : decode cX0_firstWay 59 = .ok (.iload_n 1, 1) := by decide +kernel
theorem dX0_firstWay_60 : decode cX0_firstWay 60 = .ok (.iaload, 1) := by decide +kernel
theorem dX0_firstWay_61 : decode cX0_firstWay 61 = .ok (.isub, 1) := by decide +kernel
theorem dX0_firstWay_62 : decode cX0_firstWay 62 = .ok (.iload_n 3, 1) := by decide +kernel
theorem dX0_firstWay_63 : decode cX0_firstWay 63 = .ok (.iconst 1, 1) := by decide +kernel
theorem dX0_firstWay_64 : decode cX0_firstWay 64 = .ok (.isub, 1) := by decide +kernel
theorem dX0_firstWay_65 : decode cX0_firstWay 65 = .ok (.iload 4, 2) := by decide +kernel
theorem dX0_firstWay_67 : decode cX0_firstWay 67 = .ok (.iload 6, 2) := by decide +kernel
theorem dX0_firstWay_69 : decode cX0_firstWay 69 = .ok (.isub, 1) := by decide +kernel
theorem dX0_firstWay_70 : decode cX0_firstWay 70 = .ok (.invokevirtual 142, 3) := by decide +kernel
theorem dX0_firstWay_73 : decode cX0_firstWay 73 = .ok (.ifCond .eq 6, 3) := by decide +kernel
theorem dX0_firstWay_76 : decode cX0_firstWay 76 = .ok (.iload 5, 2) := by decide +kernel
theorem dX0_firstWay_78 : decode cX0_firstWay 78 = .ok (.ireturn, 1) := by decide +kernel
theorem dX0_firstWay_79 : decode cX0_firstWay 79 = .ok (.iinc 5 1, 3) := by decide +kernel
theorem dX0_firstWay_82 : decode cX0_firstWay 82 = .ok (.goto (-63), 3) := by decide +kernel
theorem dX0_firstWay_85 : decode cX0_firstWay 85 = .ok (.iconst 0, 1) := by decide +kernel
theorem dX0_firstWay_86 : decode cX0_firstWay 86 = .ok (.ireturn, 1) := by decide +kernel
theorem dX0_canMakeUp_0 : decode cX0_canMakeUp 0 = .ok (.iload_n 3, 1) := by decide +kernel
theorem dX0_canMakeUp_1 : decode cX0_canMakeUp 1 = .ok (.ifCond .gt 22, 3) := by decide +kernel
theorem dX0_canMakeUp_4 : decode cX0_canMakeUp 4 = .ok (.iload_n 3, 1) := by decide +kernel
theorem dX0_canMakeUp_5 : decode cX0_canMakeUp 5 = .ok (.ifCond .ne 16, 3) := by decide +kernel
theorem dX0_canMakeUp_8 : decode cX0_canMakeUp 8 = .ok (.iload_n 2, 1) := by decide +kernel
theorem dX0_canMakeUp_9 : decode cX0_canMakeUp 9 = .ok (.ifCond .ne 12, 3) := by decide +kernel
theorem dX0_canMakeUp_12 : decode cX0_canMakeUp 12 = .ok (.iload 4, 2) := by decide +kernel
theorem dX0_canMakeUp_14 : decode cX0_canMakeUp 14 = .ok (.ifCond .gt 7, 3) := by decide +kernel
theorem dX0_canMakeUp_17 : decode cX0_canMakeUp 17 = .ok (.iconst 1, 1) := by decide +kernel
theorem dX0_canMakeUp_18 : decode cX0_canMakeUp 18 = .ok (.goto 4, 3) := by decide +kernel
theorem dX0_canMakeUp_21 : decode cX0_canMakeUp 21 = .ok (.iconst 0, 1) := by decide +kernel
theorem dX0_canMakeUp_22 : decode cX0_canMakeUp 22 = .ok (.ireturn, 1) := by decide +kernel
theorem dX0_canMakeUp_23 : decode cX0_canMakeUp 23 = .ok (.iload_n 1, 1) := by decide +kernel
theorem dX0_canMakeUp_24 : decode cX0_canMakeUp 24 = .ok (.iload_n 3, 1) := by decide +kernel
theorem dX0_canMakeUp_25 : decode cX0_canMakeUp 25 = .ok (.iadd, 1) := by decide +kernel
theorem dX0_canMakeUp_26 : decode cX0_canMakeUp 26 = .ok (.aload_n 0, 1) := by decide +kernel
theorem dX0_canMakeUp_27 : decode cX0_canMakeUp 27 = .ok (.getfield 37, 3) := by decide +kernel
theorem dX0_canMakeUp_30 : decode cX0_canMakeUp 30 = .ok (.if_icmp .gt 24, 3) := by decide +kernel
theorem dX0_canMakeUp_33 : decode cX0_canMakeUp 33 = .ok (.iload_n 1, 1) := by decide +kernel
theorem dX0_canMakeUp_34 : decode cX0_canMakeUp 34 = .ok (.bipush 12, 2) := by decide +kernel
theorem dX0_canMakeUp_36 : decode cX0_canMakeUp 36 = .ok (.if_icmp .ge 18, 3) := by decide +kernel
theorem dX0_canMakeUp_39 : decode cX0_canMakeUp 39 = .ok (.iload_n 2, 1) := by decide +kernel
theorem dX0_canMakeUp_40 : decode cX0_canMakeUp 40 = .ok (.ifCond .le 14, 3) := by decide +kernel
theorem dX0_canMakeUp_43 : decode cX0_canMakeUp 43 = .ok (.aload_n 0, 1) := by decide +kernel
theorem dX0_canMakeUp_44 : decode cX0_canMakeUp 44 = .ok (.getfield 30, 3) := by decide +kernel
theorem dX0_canMakeUp_47 : decode cX0_canMakeUp 47 = .ok (.iload_n 1, 1) := by decide +kernel
theorem dX0_canMakeUp_48 : decode cX0_canMakeUp 48 = .ok (.iaload, 1) := by decide +kernel
theorem dX0_canMakeUp_49 : decode cX0_canMakeUp 49 = .ok (.iload 4, 2) := by decide +kernel
theorem dX0_canMakeUp_51 : decode cX0_canMakeUp 51 = .ok (.if_icmp .ge 5, 3) := by decide +kernel
theorem dX0_canMakeUp_54 : decode cX0_canMakeUp 54 = .ok (.iconst 0, 1) := by decide +kernel
theorem dX0_canMakeUp_55 : decode cX0_canMakeUp 55 = .ok (.ireturn, 1) := by decide +kernel
theorem dX0_canMakeUp_56 : decode cX0_canMakeUp 56 = .ok (.aload_n 0, 1) := by decide +kernel
theorem dX0_canMakeUp_57 : decode cX0_canMakeUp 57 = .ok (.iload_n 1, 1) := by decide +kernel
theorem dX0_canMakeUp_58 : decode cX0_canMakeUp 58 = .ok (.iconst 1, 1) := by decide +kernel
theorem dX0_canMakeUp_59 : decode cX0_canMakeUp 59 = .ok (.iadd, 1) := by decide +kernel
theorem dX0_canMakeUp_60 : decode cX0_canMakeUp 60 = .ok (.iload_n 2, 1) := by decide +kernel
theorem dX0_canMakeUp_61 : decode cX0_canMakeUp 61 = .ok (.aload_n 0, 1) := by decide +kernel
theorem dX0_canMakeUp_62 : decode cX0_canMakeUp 62 = .ok (.getfield 24, 3) := by decide +kernel
theorem dX0_canMakeUp_65 : decode cX0_canMakeUp 65 = .ok (.iload_n 1, 1) := by decide +kernel
theorem dX0_canMakeUp_66 : decode cX0_canMakeUp 66 = .ok (.iaload, 1) := by decide +kernel
theorem dX0_canMakeUp_67 : decode cX0_canMakeUp 67 = .ok (.isub, 1) := by decide +kernel
theorem dX0_canMakeUp_68 : decode cX0_canMakeUp 68 = .ok (.iload_n 3, 1) := by decide +kernel
theorem dX0_canMakeUp_69 : decode cX0_canMakeUp 69 = .ok (.iconst 1, 1) := by decide +kernel
theorem dX0_canMakeUp_70 : decode cX0_canMakeUp 70 = .ok (.isub, 1) := by decide +kernel
theorem dX0_canMakeUp_71 : decode cX0_canMakeUp 71 = .ok (.iload 4, 2) := by decide +kernel
theorem dX0_canMakeUp_73 : decode cX0_canMakeUp 73 = .ok (.aload_n 0, 1) := by decide +kernel
theorem dX0_canMakeUp_74 : decode cX0_canMakeUp 74 = .ok (.getfield 27, 3) := by decide +kernel
theorem dX0_canMakeUp_77 : decode cX0_canMakeUp 77 = .ok (.iload_n 1, 1) := by decide +kernel
theorem dX0_canMakeUp_78 : decode cX0_canMakeUp 78 = .ok (.iaload, 1) := by decide +kernel
theorem dX0_canMakeUp_79 : decode cX0_canMakeUp 79 = .ok (.isub, 1) := by decide +kernel
theorem dX0_canMakeUp_80 : decode cX0_canMakeUp 80 = .ok (.invokevirtual 142, 3) := by decide +kernel
theorem dX0_canMakeUp_83 : decode cX0_canMakeUp 83 = .ok (.ifCond .ne 17, 3) := by decide +kernel
theorem dX0_canMakeUp_86 : decode cX0_canMakeUp 86 = .ok (.aload_n 0, 1) := by decide +kernel
theorem dX0_canMakeUp_87 : decode cX0_canMakeUp 87 = .ok (.iload_n 1, 1) := by decide +kernel
theorem dX0_canMakeUp_88 : decode cX0_canMakeUp 88 = .ok (.iconst 1, 1) := by decide +kernel
theorem dX0_canMakeUp_89 : decode cX0_canMakeUp 89 = .ok (.iadd, 1) := by decide +kernel
theorem dX0_canMakeUp_90 : decode cX0_canMakeUp 90 = .ok (.iload_n 2, 1) := by decide +kernel
theorem dX0_canMakeUp_91 : decode cX0_canMakeUp 91 = .ok (.iload_n 3, 1) := by decide +kernel
theorem dX0_canMakeUp_92 : decode cX0_canMakeUp 92 = .ok (.iload 4, 2) := by decide +kernel
theorem dX0_canMakeUp_94 : decode cX0_canMakeUp 94 = .ok (.invokevirtual 142, 3) := by decide +kernel
theorem dX0_canMakeUp_97 : decode cX0_canMakeUp 97 = .ok (.ifCond .eq 7, 3) := by decide +kernel
theorem dX0_canMakeUp_100 : decode cX0_canMakeUp 100 = .ok (.iconst 1, 1) := by decide +kernel
theorem dX0_canMakeUp_101 : decode cX0_canMakeUp 101 = .ok (.goto 4, 3) := by decide +kernel
theorem dX0_canMakeUp_104 : decode cX0_canMakeUp 104 = .ok (.iconst 0, 1) := by decide +kernel
theorem dX0_canMakeUp_105 : decode cX0_canMakeUp 105 = .ok (.ireturn, 1) := by decide +kernel
theorem dX0_strokesNeeded_0 : decode cX0_strokesNeeded 0 = .ok (.aload_n 0, 1) := by decide +kernel
theorem dX0_strokesNeeded_1 : decode cX0_strokesNeeded 1 = .ok (.getfield 129, 3) := by decide +kernel
theorem dX0_strokesNeeded_4 : decode cX0_strokesNeeded 4 = .ok (.aload_n 0, 1) := by decide +kernel
theorem dX0_strokesNeeded_5 : decode cX0_strokesNeeded 5 = .ok (.getfield 132, 3) := by decide +kernel
theorem dX0_strokesNeeded_8 : decode cX0_strokesNeeded 8 = .ok (.iadd, 1) := by decide +kernel
theorem dX0_strokesNeeded_9 : decode cX0_strokesNeeded 9 = .ok (.ireturn, 1) := by decide +kernel
theorem dX0_settle_0 : decode cX0_settle 0 = .ok (.iconst 0, 1) := by decide +kernel
theorem dX0_settle_1 : decode cX0_settle 1 = .ok (.istore 6, 2) := by decide +kernel
theorem dX0_settle_3 : decode cX0_settle 3 = .ok (.iload 6, 2) := by decide +kernel
theorem dX0_settle_5 : decode cX0_settle 5 = .ok (.aload_n 0, 1) := by decide +kernel
theorem dX0_settle_6 : decode cX0_settle 6 = .ok (.getfield 51, 3) := by decide +kernel
theorem dX0_settle_9 : decode cX0_settle 9 = .ok (.if_icmp .ge 50, 3) := by decide +kernel
theorem dX0_settle_12 : decode cX0_settle 12 = .ok (.iload 6, 2) := by decide +kernel
theorem dX0_settle_14 : decode cX0_settle 14 = .ok (.bipush 12, 2) := by decide +kernel
theorem dX0_settle_16 : decode cX0_settle 16 = .ok (.if_icmp .ge 43, 3) := by decide +kernel
theorem dX0_settle_19 : decode cX0_settle 19 = .ok (.aload_n 0, 1) := by decide +kernel
theorem dX0_settle_20 : decode cX0_settle 20 = .ok (.getfield 15, 3) := by decide +kernel
theorem dX0_settle_23 : decode cX0_settle 23 = .ok (.iload 6, 2) := by decide +kernel
theorem dX0_settle_25 : decode cX0_settle 25 = .ok (.iaload, 1) := by decide +kernel
theorem dX0_settle_26 : decode cX0_settle 26 = .ok (.iconst 2, 1) := by decide +kernel
theorem dX0_settle_27 : decode cX0_settle 27 = .ok (.if_icmp .lt 26, 3) := by decide +kernel
theorem dX0_settle_30 : decode cX0_settle 30 = .ok (.aload_n 1, 1) := by decide +kernel
theorem dX0_settle_31 : decode cX0_settle 31 = .ok (.aload_n 0, 1) := by decide +kernel
theorem dX0_settle_32 : decode cX0_settle 32 = .ok (.getfield 11, 3) := by decide +kernel
theorem dX0_settle_35 : decode cX0_settle 35 = .ok (.iload 6, 2) := by decide +kernel
theorem dX0_settle_37 : decode cX0_settle 37 = .ok (.iaload, 1) := by decide +kernel
theorem dX0_settle_38 : decode cX0_settle 38 = .ok (.iload_n 2, 1) := by decide +kernel
theorem dX0_settle_39 : decode cX0_settle 39 = .ok (.aload_n 0, 1) := by decide +kernel
theorem dX0_settle_40 : decode cX0_settle 40 = .ok (.getfield 15, 3) := by decide +kernel
theorem dX0_settle_43 : decode cX0_settle 43 = .ok (.iload 6, 2) := by decide +kernel
theorem dX0_settle_45 : decode cX0_settle 45 = .ok (.iaload, 1) := by decide +kernel
theorem dX0_settle_46 : decode cX0_settle 46 = .ok (.iconst 2, 1) := by decide +kernel
theorem dX0_settle_47 : decode cX0_settle 47 = .ok (.isub, 1) := by decide +kernel
theorem dX0_settle_48 : decode cX0_settle 48 = .ok (.iconst (-1), 1) := by decide +kernel
theorem dX0_settle_49 : decode cX0_settle 49 = .ok (.iconst 0, 1) := by decide +kernel
theorem dX0_settle_50 : decode cX0_settle 50 = .ok (.invokevirtual 146, 3) := by decide +kernel
theorem dX0_settle_53 : decode cX0_settle 53 = .ok (.iinc 6 1, 3) := by decide +kernel
theorem dX0_settle_56 : decode cX0_settle 56 = .ok (.goto (-53), 3) := by decide +kernel
theorem dX0_settle_59 : decode cX0_settle 59 = .ok (.aload_n 1, 1) := by decide +kernel
theorem dX0_settle_60 : decode cX0_settle 60 = .ok (.iload_n 2, 1) := by decide +kernel
theorem dX0_settle_61 : decode cX0_settle 61 = .ok (.iload_n 3, 1) := by decide +kernel
theorem dX0_settle_62 : decode cX0_settle 62 = .ok (.iload 4, 2) := by decide +kernel
theorem dX0_settle_64 : decode cX0_settle 64 = .ok (.iload 5, 2) := by decide +kernel
theorem dX0_settle_66 : decode cX0_settle 66 = .ok (.aload_n 0, 1) := by decide +kernel
theorem dX0_settle_67 : decode cX0_settle 67 = .ok (.getfield 129, 3) := by decide +kernel
theorem dX0_settle_70 : decode cX0_settle 70 = .ok (.aload_n 0, 1) := by decide +kernel
theorem dX0_settle_71 : decode cX0_settle 71 = .ok (.getfield 139, 3) := by decide +kernel
theorem dX0_settle_74 : decode cX0_settle 74 = .ok (.invokevirtual 150, 3) := by decide +kernel
theorem dX0_settle_77 : decode cX0_settle 77 = .ok (.istore 6, 2) := by decide +kernel
theorem dX0_settle_79 : decode cX0_settle 79 = .ok (.iconst 0, 1) := by decide +kernel
theorem dX0_settle_80 : decode cX0_settle 80 = .ok (.istore 7, 2) := by decide +kernel
theorem dX0_settle_82 : decode cX0_settle 82 = .ok (.iload 7, 2) := by decide +kernel
theorem dX0_settle_84 : decode cX0_settle 84 = .ok (.aload_n 0, 1) := by decide +kernel
theorem dX0_settle_85 : decode cX0_settle 85 = .ok (.getfield 51, 3) := by decide +kernel
theorem dX0_settle_88 : decode cX0_settle 88 = .ok (.if_icmp .ge 42, 3) := by decide +kernel
theorem dX0_settle_91 : decode cX0_settle 91 = .ok (.iload 7, 2) := by decide +kernel
theorem dX0_settle_93 : decode cX0_settle 93 = .ok (.bipush 12, 2) := by decide +kernel
theorem dX0_settle_95 : decode cX0_settle 95 = .ok (.if_icmp .ge 35, 3) := by decide +kernel
theorem dX0_settle_98 : decode cX0_settle 98 = .ok (.aload_n 0, 1) := by decide +kernel
theorem dX0_settle_99 : decode cX0_settle 99 = .ok (.getfield 15, 3) := by decide +kernel
theorem dX0_settle_102 : decode cX0_settle 102 = .ok (.iload 7, 2) := by decide +kernel
theorem dX0_settle_104 : decode cX0_settle 104 = .ok (.iaload, 1) := by decide +kernel
theorem dX0_settle_105 : decode cX0_settle 105 = .ok (.ifCond .eq 19, 3) := by decide +kernel
theorem dX0_settle_108 : decode cX0_settle 108 = .ok (.aload_n 1, 1) := by decide +kernel
theorem dX0_settle_109 : decode cX0_settle 109 = .ok (.aload_n 0, 1) := by decide +kernel
theorem dX0_settle_110 : decode cX0_settle 110 = .ok (.getfield 11, 3) := by decide +kernel
theorem dX0_settle_113 : decode cX0_settle 113 = .ok (.iload 7, 2) := by decide +kernel
theorem dX0_settle_115 : decode cX0_settle 115 = .ok (.iaload, 1) := by decide +kernel
theorem dX0_settle_116 : decode cX0_settle 116 = .ok (.iload_n 3, 1) := by decide +kernel
theorem dX0_settle_117 : decode cX0_settle 117 = .ok (.iload 4, 2) := by decide +kernel
theorem dX0_settle_119 : decode cX0_settle 119 = .ok (.iload 6, 2) := by decide +kernel
theorem dX0_settle_121 : decode cX0_settle 121 = .ok (.invokevirtual 154, 3) := by decide +kernel
theorem dX0_settle_124 : decode cX0_settle 124 = .ok (.iinc 7 1, 3) := by decide +kernel
theorem dX0_settle_127 : decode cX0_settle 127 = .ok (.goto (-45), 3) := by decide +kernel
theorem dX0_settle_130 : decode cX0_settle 130 = .ok (.return_, 1) := by decide +kernel
