theorem dX10_strokes_5 : decode cX10_strokes 5 = .ok (.aload_n 0, 1) := by decide +kernel
theorem dX10_strokes_6 : decode cX10_strokes 6 = .ok (.getfield 13, 3) := by decide +kernel
theorem dX10_strokes_9 : decode cX10_strokes 9 = .ok (.bipush 112, 2) := by decide +kernel
theorem dX10_strokes_11 : decode cX10_strokes 11 = .ok (.iaload, 1) := by decide +kernel
theorem dX10_strokes_12 : decode cX10_strokes 12 = .ok (.ireturn, 1) := by decide +kernel
theorem dX10_isShown_0 : decode cX10_isShown 0 = .ok (.aload_n 0, 1) := by decide +kernel
theorem dX10_isShown_1 : decode cX10_isShown 1 = .ok (.getfield 13, 3) := by decide +kernel
theorem dX10_isShown_4 : decode cX10_isShown 4 = .ok (.sipush 1400, 3) := by decide +kernel
theorem dX10_isShown_7 : decode cX10_isShown 7 = .ok (.bipush 6, 2) := by decide +kernel
theorem dX10_isShown_9 : decode cX10_isShown 9 = .ok (.iload_n 1, 1) := by decide +kernel
theorem dX10_isShown_10 : decode cX10_isShown 10 = .ok (.imul, 1) := by decide +kernel
theorem dX10_isShown_11 : decode cX10_isShown 11 = .ok (.iadd, 1) := by decide +kernel
theorem dX10_isShown_12 : decode cX10_isShown 12 = .ok (.iaload, 1) := by decide +kernel
theorem dX10_isShown_13 : decode cX10_isShown 13 = .ok (.istore_n 2, 1) := by decide +kernel
theorem dX10_isShown_14 : decode cX10_isShown 14 = .ok (.iconst 0, 1) := by decide +kernel
theorem dX10_isShown_15 : decode cX10_isShown 15 = .ok (.istore_n 3, 1) := by decide +kernel
theorem dX10_isShown_16 : decode cX10_isShown 16 = .ok (.iload_n 3, 1) := by decide +kernel
theorem dX10_isShown_17 : decode cX10_isShown 17 = .ok (.aload_n 0, 1) := by decide +kernel
theorem dX10_isShown_18 : decode cX10_isShown 18 = .ok (.iload_n 2, 1) := by decide +kernel
theorem dX10_isShown_19 : decode cX10_isShown 19 = .ok (.iconst 3, 1) := by decide +kernel
theorem dX10_isShown_20 : decode cX10_isShown 20 = .ok (.invokevirtual 256, 3) := by decide +kernel
theorem dX10_isShown_23 : decode cX10_isShown 23 = .ok (.if_icmp .ge 27, 3) := by decide +kernel
theorem dX10_isShown_26 : decode cX10_isShown 26 = .ok (.aload_n 0, 1) := by decide +kernel
theorem dX10_isShown_27 : decode cX10_isShown 27 = .ok (.iload_n 2, 1) := by decide +kernel
theorem dX10_isShown_28 : decode cX10_isShown 28 = .ok (.iconst 4, 1) := by decide +kernel
theorem dX10_isShown_29 : decode cX10_isShown 29 = .ok (.iconst 3, 1) := by decide +kernel
theorem dX10_isShown_30 : decode cX10_isShown 30 = .ok (.iload_n 3, 1) := by decide +kernel
theorem dX10_isShown_31 : decode cX10_isShown 31 = .ok (.imul, 1) := by decide +kernel
theorem dX10_isShown_32 : decode cX10_isShown 32 = .ok (.iadd, 1) := by decide +kernel
theorem dX10_isShown_33 : decode cX10_isShown 33 = .ok (.iconst 2, 1) := by decide +kernel
theorem dX10_isShown_34 : decode cX10_isShown 34 = .ok (.iadd, 1) := by decide +kernel
theorem dX10_isShown_35 : decode cX10_isShown 35 = .ok (.invokevirtual 256, 3) := by decide +kernel
theorem dX10_isShown_38 : decode cX10_isShown 38 = .ok (.iload_n 1, 1) := by decide +kernel
theorem dX10_isShown_39 : decode cX10_isShown 39 = .ok (.if_icmp .ne 5, 3) := by decide +kernel
theorem dX10_isShown_42 : decode cX10_isShown 42 = .ok (.iconst 1, 1) := by decide +kernel
theorem dX10_isShown_43 : decode cX10_isShown 43 = .ok (.ireturn, 1) := by decide +kernel
theorem dX10_isShown_44 : decode cX10_isShown 44 = .ok (.iinc 3 1, 3) := by decide +kernel
theorem dX10_isShown_47 : decode cX10_isShown 47 = .ok (.goto (-31), 3) := by decide +kernel
theorem dX10_isShown_50 : decode cX10_isShown 50 = .ok (.iconst 0, 1) := by decide +kernel
theorem dX10_isShown_51 : decode cX10_isShown 51 = .ok (.ireturn, 1) := by decide +kernel
theorem dX10_stroke_0 : decode cX10_stroke 0 = .ok (.iload_n 1, 1) := by decide +kernel
theorem dX10_stroke_1 : decode cX10_stroke 1 = .ok (.ifCond .lt 24, 3) := by decide +kernel
theorem dX10_stroke_4 : decode cX10_stroke 4 = .ok (.iload_n 1, 1) := by decide +kernel
theorem dX10_stroke_5 : decode cX10_stroke 5 = .ok (.aload_n 0, 1) := by decide +kernel
theorem dX10_stroke_6 : decode cX10_stroke 6 = .ok (.getfield 13, 3) := by decide +kernel
theorem dX10_stroke_9 : decode cX10_stroke 9 = .ok (.bipush 112, 2) := by decide +kernel
theorem dX10_stroke_11 : decode cX10_stroke 11 = .ok (.iaload, 1) := by decide +kernel
theorem dX10_stroke_12 : decode cX10_stroke 12 = .ok (.if_icmp .ge 13, 3) := by decide +kernel
theorem dX10_stroke_15 : decode cX10_stroke 15 = .ok (.iload_n 2, 1) := by decide +kernel
theorem dX10_stroke_16 : decode cX10_stroke 16 = .ok (.iconst 0, 1) := by decide +kernel
theorem dX10_stroke_17 : decode cX10_stroke 17 = .ok (.bipush 6, 2) := by decide +kernel
theorem dX10_stroke_19 : decode cX10_stroke 19 = .ok (.invokestatic 154, 3) := by decide +kernel
theorem dX10_stroke_22 : decode cX10_stroke 22 = .ok (.ifCond .ne 8, 3) := by decide +kernel
theorem dX10_stroke_25 : decode cX10_stroke 25 = .ok (.aload_n 0, 1) := by decide +kernel
theorem dX10_stroke_26 : decode cX10_stroke 26 = .ok (.invokevirtual 246, 3) := by decide +kernel
theorem dX10_stroke_29 : decode cX10_stroke 29 = .ok (.ireturn, 1) := by decide +kernel
theorem dX10_stroke_30 : decode cX10_stroke 30 = .ok (.aload_n 0, 1) := by decide +kernel
theorem dX10_stroke_31 : decode cX10_stroke 31 = .ok (.iconst 0, 1) := by decide +kernel
theorem dX10_stroke_32 : decode cX10_stroke 32 = .ok (.putfield 83, 3) := by decide +kernel
theorem dX10_stroke_35 : decode cX10_stroke 35 = .ok (.iload_n 2, 1) := by decide +kernel
theorem dX10_stroke_36 : decode cX10_stroke 36 = .ok (.bipush 6, 2) := by decide +kernel
theorem dX10_stroke_38 : decode cX10_stroke 38 = .ok (.if_icmp .ge 21, 3) := by decide +kernel
theorem dX10_stroke_41 : decode cX10_stroke 41 = .ok (.aload_n 0, 1) := by decide +kernel
theorem dX10_stroke_42 : decode cX10_stroke 42 = .ok (.getfield 13, 3) := by decide +kernel
theorem dX10_stroke_45 : decode cX10_stroke 45 = .ok (.sipush 1400, 3) := by decide +kernel
theorem dX10_stroke_48 : decode cX10_stroke 48 = .ok (.bipush 6, 2) := by decide +kernel
theorem dX10_stroke_50 : decode cX10_stroke 50 = .ok (.iload_n 1, 1) := by decide +kernel
theorem dX10_stroke_51 : decode cX10_stroke 51 = .ok (.imul, 1) := by decide +kernel
theorem dX10_stroke_52 : decode cX10_stroke 52 = .ok (.iadd, 1) := by decide +kernel
theorem dX10_stroke_53 : decode cX10_stroke 53 = .ok (.iload_n 2, 1) := by decide +kernel
theorem dX10_stroke_54 : decode cX10_stroke 54 = .ok (.iadd, 1) := by decide +kernel
theorem dX10_stroke_55 : decode cX10_stroke 55 = .ok (.iaload, 1) := by decide +kernel
theorem dX10_stroke_56 : decode cX10_stroke 56 = .ok (.goto 8, 3) := by decide +kernel
theorem dX10_stroke_59 : decode cX10_stroke 59 = .ok (.aload_n 0, 1) := by decide +kernel
theorem dX10_stroke_60 : decode cX10_stroke 60 = .ok (.iload_n 1, 1) := by decide +kernel
theorem dX10_stroke_61 : decode cX10_stroke 61 = .ok (.invokevirtual 338, 3) := by decide +kernel
theorem dX10_stroke_64 : decode cX10_stroke 64 = .ok (.ireturn, 1) := by decide +kernel
theorem dX10_foreign_0 : decode cX10_foreign 0 = .ok (.aload_n 0, 1) := by decide +kernel
theorem dX10_foreign_1 : decode cX10_foreign 1 = .ok (.iconst 0, 1) := by decide +kernel
theorem dX10_foreign_2 : decode cX10_foreign 2 = .ok (.putfield 83, 3) := by decide +kernel
theorem dX10_foreign_5 : decode cX10_foreign 5 = .ok (.aload_n 0, 1) := by decide +kernel
theorem dX10_foreign_6 : decode cX10_foreign 6 = .ok (.invokevirtual 167, 3) := by decide +kernel
theorem dX10_foreign_9 : decode cX10_foreign 9 = .ok (.iconst 0, 1) := by decide +kernel
theorem dX10_foreign_10 : decode cX10_foreign 10 = .ok (.istore_n 2, 1) := by decide +kernel
theorem dX10_foreign_11 : decode cX10_foreign 11 = .ok (.iconst 0, 1) := by decide +kernel
theorem dX10_foreign_12 : decode cX10_foreign 12 = .ok (.istore_n 3, 1) := by decide +kernel
theorem dX10_foreign_13 : decode cX10_foreign 13 = .ok (.iload_n 3, 1) := by decide +kernel
theorem dX10_foreign_14 : decode cX10_foreign 14 = .ok (.aload_n 0, 1) := by decide +kernel
theorem dX10_foreign_15 : decode cX10_foreign 15 = .ok (.invokevirtual 188, 3) := by decide +kernel
theorem dX10_foreign_18 : decode cX10_foreign 18 = .ok (.if_icmp .ge 36, 3) := by decide +kernel
theorem dX10_foreign_21 : decode cX10_foreign 21 = .ok (.aload_n 0, 1) := by decide +kernel
theorem dX10_foreign_22 : decode cX10_foreign 22 = .ok (.iload_n 3, 1) := by decide +kernel
theorem dX10_foreign_23 : decode cX10_foreign 23 = .ok (.iconst 1, 1) := by decide +kernel
theorem dX10_foreign_24 : decode cX10_foreign 24 = .ok (.invokevirtual 256, 3) := by decide +kernel
theorem dX10_foreign_27 : decode cX10_foreign 27 = .ok (.aload_n 0, 1) := by decide +kernel
theorem dX10_foreign_28 : decode cX10_foreign 28 = .ok (.iload_n 3, 1) := by decide +kernel
theorem dX10_foreign_29 : decode cX10_foreign 29 = .ok (.invokevirtual 253, 3) := by decide +kernel
theorem dX10_foreign_32 : decode cX10_foreign 32 = .ok (.if_icmp .ne 6, 3) := by decide +kernel
theorem dX10_foreign_35 : decode cX10_foreign 35 = .ok (.goto 13, 3) := by decide +kernel
theorem dX10_foreign_38 : decode cX10_foreign 38 = .ok (.iload_n 2, 1) := by decide +kernel
theorem dX10_foreign_39 : decode cX10_foreign 39 = .ok (.iload_n 1, 1) := by decide +kernel
theorem dX10_foreign_40 : decode cX10_foreign 40 = .ok (.if_icmp .ne 5, 3) := by decide +kernel
theorem dX10_foreign_43 : decode cX10_foreign 43 = .ok (.iload_n 3, 1) := by decide +kernel
theorem dX10_foreign_44 : decode cX10_foreign 44 = .ok (.ireturn, 1) := by decide +kernel
theorem dX10_foreign_45 : decode cX10_foreign 45 = .ok (.iinc 2 1, 3) := by decide +kernel
theorem dX10_foreign_48 : decode cX10_foreign 48 = .ok (.iinc 3 1, 3) := by decide +kernel
theorem dX10_foreign_51 : decode cX10_foreign 51 = .ok (.goto (-38), 3) := by decide +kernel
theorem dX10_foreign_54 : decode cX10_foreign 54 = .ok (.iload_n 1, 1) := by decide +kernel
theorem dX10_foreign_55 : decode cX10_foreign 55 = .ok (.iconst (-1), 1) := by decide +kernel
theorem dX10_foreign_56 : decode cX10_foreign 56 = .ok (.if_icmp .ne 7, 3) := by decide +kernel
theorem dX10_foreign_59 : decode cX10_foreign 59 = .ok (.iload_n 2, 1) := by decide +kernel
theorem dX10_foreign_60 : decode cX10_foreign 60 = .ok (.goto 4, 3) := by decide +kernel
theorem dX10_foreign_63 : decode cX10_foreign 63 = .ok (.iconst (-1), 1) := by decide +kernel
theorem dX10_foreign_64 : decode cX10_foreign 64 = .ok (.ireturn, 1) := by decide +kernel
theorem dX10_silver_0 : decode cX10_silver 0 = .ok (.aload_n 0, 1) := by decide +kernel
theorem dX10_silver_1 : decode cX10_silver 1 = .ok (.iconst 0, 1) := by decide +kernel
theorem dX10_silver_2 : decode cX10_silver 2 = .ok (.putfield 83, 3) := by decide +kernel
theorem dX10_silver_5 : decode cX10_silver 5 = .ok (.aload_n 0, 1) := by decide +kernel
theorem dX10_silver_6 : decode cX10_silver 6 = .ok (.invokevirtual 167, 3) := by decide +kernel
theorem dX10_silver_9 : decode cX10_silver 9 = .ok (.iload_n 1, 1) := by decide +kernel
theorem dX10_silver_10 : decode cX10_silver 10 = .ok (.ifCond .ne 11, 3) := by decide +kernel
theorem dX10_silver_13 : decode cX10_silver 13 = .ok (.aload_n 0, 1) := by decide +kernel
theorem dX10_silver_14 : decode cX10_silver 14 = .ok (.getfield 13, 3) := by decide +kernel
theorem dX10_silver_17 : decode cX10_silver 17 = .ok (.bipush 114, 2) := by decide +kernel
theorem dX10_silver_19 : decode cX10_silver 19 = .ok (.iaload, 1) := by decide +kernel
theorem dX10_silver_20 : decode cX10_silver 20 = .ok (.ireturn, 1) := by decide +kernel
theorem dX10_silver_21 : decode cX10_silver 21 = .ok (.iload_n 1, 1) := by decide +kernel
theorem dX10_silver_22 : decode cX10_silver 22 = .ok (.iconst 2, 1) := by decide +kernel
theorem dX10_silver_23 : decode cX10_silver 23 = .ok (.if_icmp .ne 11, 3) := by decide +kernel
theorem dX10_silver_26 : decode cX10_silver 26 = .ok (.aload_n 0, 1) := by decide +kernel
theorem dX10_silver_27 : decode cX10_silver 27 = .ok (.getfield 13, 3) := by decide +kernel
theorem dX10_silver_30 : decode cX10_silver 30 = .ok (.bipush 115, 2) := by decide +kernel
theorem dX10_silver_32 : decode cX10_silver 32 = .ok (.iaload, 1) := by decide +kernel
theorem dX10_silver_33 : decode cX10_silver 33 = .ok (.ireturn, 1) := by decide +kernel
theorem dX10_silver_34 : decode cX10_silver 34 = .ok (.iload_n 1, 1) := by decide +kernel
theorem dX10_silver_35 : decode cX10_silver 35 = .ok (.iconst 1, 1) := by decide +kernel
theorem dX10_silver_36 : decode cX10_silver 36 = .ok (.if_icmp .eq 5, 3) := by decide +kernel
theorem dX10_silver_39 : decode cX10_silver 39 = .ok (.iconst (-1), 1) := by decide +kernel
theorem dX10_silver_40 : decode cX10_silver 40 = .ok (.ireturn, 1) := by decide +kernel
theorem dX10_silver_41 : decode cX10_silver 41 = .ok (.iconst 0, 1) := by decide +kernel
theorem dX10_silver_42 : decode cX10_silver 42 = .ok (.istore_n 2, 1) := by decide +kernel
theorem dX10_silver_43 : decode cX10_silver 43 = .ok (.iconst 0, 1) := by decide +kernel
theorem dX10_silver_44 : decode cX10_silver 44 = .ok (.istore_n 3, 1) := by decide +kernel
theorem dX10_silver_45 : decode cX10_silver 45 = .ok (.iload_n 3, 1) := by decide +kernel
theorem dX10_silver_46 : decode cX10_silver 46 = .ok (.aload_n 0, 1) := by decide +kernel
theorem dX10_silver_47 : decode cX10_silver 47 = .ok (.invokevirtual 188, 3) := by decide +kernel
theorem dX10_silver_50 : decode cX10_silver 50 = .ok (.if_icmp .ge 18, 3) := by decide +kernel
theorem dX10_silver_53 : decode cX10_silver 53 = .ok (.iload_n 2, 1) := by decide +kernel
theorem dX10_silver_54 : decode cX10_silver 54 = .ok (.aload_n 0, 1) := by decide +kernel
theorem dX10_silver_55 : decode cX10_silver 55 = .ok (.iload_n 3, 1) := by decide +kernel
theorem dX10_silver_56 : decode cX10_silver 56 = .ok (.iconst 0, 1) := by decide +kernel
theorem dX10_silver_57 : decode cX10_silver 57 = .ok (.invokevirtual 256, 3) := by decide +kernel
theorem dX10_silver_60 : decode cX10_silver 60 = .ok (.iadd, 1) := by decide +kernel
theorem dX10_silver_61 : decode cX10_silver 61 = .ok (.istore_n 2, 1) := by decide +kernel
theorem dX10_silver_62 : decode cX10_silver 62 = .ok (.iinc 3 1, 3) := by decide +kernel
theorem dX10_silver_65 : decode cX10_silver 65 = .ok (.goto (-20), 3) := by decide +kernel
theorem dX10_silver_68 : decode cX10_silver 68 = .ok (.iload_n 2, 1) := by decide +kernel
theorem dX10_silver_69 : decode cX10_silver 69 = .ok (.ireturn, 1) := by decide +kernel
theorem dX10_isLike_0 : decode cX10_isLike 0 = .ok (.iconst 0, 1) := by decide +kernel
theorem dX10_isLike_1 : decode cX10_isLike 1 = .ok (.istore_n 3, 1) := by decide +kernel
theorem dX10_isLike_2 : decode cX10_isLike 2 = .ok (.iconst 0, 1) := by decide +kernel
theorem dX10_isLike_3 : decode cX10_isLike 3 = .ok (.istore 4, 2) := by decide +kernel
theorem dX10_isLike_5 : decode cX10_isLike 5 = .ok (.iload_n 2, 1) := by decide +kernel
theorem dX10_isLike_6 : decode cX10_isLike 6 = .ok (.iconst 1, 1) := by decide +kernel
theorem dX10_isLike_7 : decode cX10_isLike 7 = .ok (.isub, 1) := by decide +kernel
theorem dX10_isLike_8 : decode cX10_isLike 8 = .ok (.istore 5, 2) := by decide +kernel
theorem dX10_isLike_10 : decode cX10_isLike 10 = .ok (.iload 5, 2) := by decide +kernel
theorem dX10_isLike_12 : decode cX10_isLike 12 = .ok (.ifCond .lt 65, 3) := by decide +kernel
theorem dX10_isLike_15 : decode cX10_isLike 15 = .ok (.bipush 9, 2) := by decide +kernel
theorem dX10_isLike_17 : decode cX10_isLike 17 = .ok (.iload 4, 2) := by decide +kernel
theorem dX10_isLike_19 : decode cX10_isLike 19 = .ok (.isub, 1) := by decide +kernel
theorem dX10_isLike_20 : decode cX10_isLike 20 = .ok (.istore 6, 2) := by decide +kernel
theorem dX10_isLike_22 : decode cX10_isLike 22 = .ok (.iload 4, 2) := by decide +kernel
theorem dX10_isLike_24 : decode cX10_isLike 24 = .ok (.aload_n 0, 1) := by decide +kernel
theorem dX10_isLike_25 : decode cX10_isLike 25 = .ok (.aload_n 0, 1) := by decide +kernel
theorem dX10_isLike_26 : decode cX10_isLike 26 = .ok (.getfield 65, 3) := by decide +kernel
theorem dX10_isLike_29 : decode cX10_isLike 29 = .ok (.iload 5, 2) := by decide +kernel
theorem dX10_isLike_31 : decode cX10_isLike 31 = .ok (.iaload, 1) := by decide +kernel
theorem dX10_isLike_32 : decode cX10_isLike 32 = .ok (.iconst 1, 1) := by decide +kernel
theorem dX10_isLike_33 : decode cX10_isLike 33 = .ok (.invokevirtual 262, 3) := by decide +kernel
theorem dX10_isLike_36 : decode cX10_isLike 36 = .ok (.iadd, 1) := by decide +kernel
theorem dX10_isLike_37 : decode cX10_isLike 37 = .ok (.istore 4, 2) := by decide +kernel
theorem dX10_isLike_39 : decode cX10_isLike 39 = .ok (.iload 6, 2) := by decide +kernel
theorem dX10_isLike_41 : decode cX10_isLike 41 = .ok (.ifCond .gt 6, 3) := by decide +kernel
theorem dX10_isLike_44 : decode cX10_isLike 44 = .ok (.goto 27, 3) := by decide +kernel
theorem dX10_isLike_47 : decode cX10_isLike 47 = .ok (.aload_n 0, 1) := by decide +kernel
theorem dX10_isLike_48 : decode cX10_isLike 48 = .ok (.getfield 74, 3) := by decide +kernel
theorem dX10_isLike_51 : decode cX10_isLike 51 = .ok (.iload_n 3, 1) := by decide +kernel
theorem dX10_isLike_52 : decode cX10_isLike 52 = .ok (.aload_n 0, 1) := by decide +kernel
theorem dX10_isLike_53 : decode cX10_isLike 53 = .ok (.getfield 62, 3) := by decide +kernel
theorem dX10_isLike_56 : decode cX10_isLike 56 = .ok (.iload 5, 2) := by decide +kernel
theorem dX10_isLike_58 : decode cX10_isLike 58 = .ok (.iaload, 1) := by decide +kernel
theorem dX10_isLike_59 : decode cX10_isLike 59 = .ok (.iastore, 1) := by decide +kernel
theorem dX10_isLike_60 : decode cX10_isLike 60 = .ok (.aload_n 0, 1) := by decide +kernel
theorem dX10_isLike_61 : decode cX10_isLike 61 = .ok (.getfield 77, 3) := by decide +kernel
theorem dX10_isLike_64 : decode cX10_isLike 64 = .ok (.iload_n 3, 1) := by decide +kernel
theorem dX10_isLike_65 : decode cX10_isLike 65 = .ok (.iload 6, 2) := by decide +kernel
theorem dX10_isLike_67 : decode cX10_isLike 67 = .ok (.iastore, 1) := by decide +kernel
theorem dX10_isLike_68 : decode cX10_isLike 68 = .ok (.iinc 3 1, 3) := by decide +kernel
theorem dX10_isLike_71 : decode cX10_isLike 71 = .ok (.iinc 5 (-1), 3) := by decide +kernel
theorem dX10_isLike_74 : decode cX10_isLike 74 = .ok (.goto (-64), 3) := by decide +kernel
theorem dX10_isLike_77 : decode cX10_isLike 77 = .ok (.iload_n 3, 1) := by decide +kernel
theorem dX10_isLike_78 : decode cX10_isLike 78 = .ok (.aload_n 0, 1) := by decide +kernel
theorem dX10_isLike_79 : decode cX10_isLike 79 = .ok (.iload_n 1, 1) := by decide +kernel
theorem dX10_isLike_80 : decode cX10_isLike 80 = .ok (.iconst 3, 1) := by decide +kernel
theorem dX10_isLike_81 : decode cX10_isLike 81 = .ok (.invokevirtual 256, 3) := by decide +kernel
theorem dX10_isLike_84 : decode cX10_isLike 84 = .ok (.if_icmp .eq 5, 3) := by decide +kernel
theorem dX10_isLike_87 : decode cX10_isLike 87 = .ok (.iconst 0, 1) := by decide +kernel
theorem dX10_isLike_88 : decode cX10_isLike 88 = .ok (.ireturn, 1) := by decide +kernel
theorem dX10_isLike_89 : decode cX10_isLike 89 = .ok (.iconst 0, 1) := by decide +kernel
theorem dX10_isLike_90 : decode cX10_isLike 90 = .ok (.istore 5, 2) := by decide +kernel
theorem dX10_isLike_92 : decode cX10_isLike 92 = .ok (.iload 5, 2) := by decide +kernel
theorem dX10_isLike_94 : decode cX10_isLike 94 = .ok (.iload_n 3, 1) := by decide +kernel
theorem dX10_isLike_95 : decode cX10_isLike 95 = .ok (.if_icmp .ge 55, 3) := by decide +kernel
theorem dX10_isLike_98 : decode cX10_isLike 98 = .ok (.aload_n 0, 1) := by decide +kernel
theorem dX10_isLike_99 : decode cX10_isLike 99 = .ok (.getfield 74, 3) := by decide +kernel
theorem dX10_isLike_102 : decode cX10_isLike 102 = .ok (.iload 5, 2) := by decide +kernel
theorem dX10_isLike_104 : decode cX10_isLike 104 = .ok (.iaload, 1) := by decide +kernel
theorem dX10_isLike_105 : decode cX10_isLike 105 = .ok (.aload_n 0, 1) := by decide +kernel
theorem dX10_isLike_106 : decode cX10_isLike 106 = .ok (.iload_n 1, 1) := by decide +kernel
theorem dX10_isLike_107 : decode cX10_isLike 107 = .ok (.iconst 4, 1) := by decide +kernel
theorem dX10_isLike_108 : decode cX10_isLike 108 = .ok (.iconst 3, 1) := by decide +kernel
theorem dX10_isLike_109 : decode cX10_isLike 109 = .ok (.iload 5, 2) := by decide +kernel
theorem dX10_isLike_111 : decode cX10_isLike 111 = .ok (.imul, 1) := by decide +kernel
theorem dX10_isLike_112 : decode cX10_isLike 112 = .ok (.iadd, 1) := by decide +kernel
theorem dX10_isLike_113 : decode cX10_isLike 113 = .ok (.invokevirtual 256, 3) := by decide +kernel
theorem dX10_isLike_116 : decode cX10_isLike 116 = .ok (.if_icmp .ne 26, 3) := by decide +kernel
theorem dX10_isLike_119 : decode cX10_isLike 119 = .ok (.aload_n 0, 1) := by decide +kernel
theorem dX10_isLike_120 : decode cX10_isLike 120 = .ok (.getfield 77, 3) := by decide +kernel
theorem dX10_isLike_123 : decode cX10_isLike 123 = .ok (.iload 5, 2) := by decide +kernel
theorem dX10_isLike_125 : decode cX10_isLike 125 = .ok (.iaload, 1) := by decide +kernel
theorem dX10_isLike_126 : decode cX10_isLike 126 = .ok (.aload_n 0, 1) := by decide +kernel
theorem dX10_isLike_127 : decode cX10_isLike 127 = .ok (.iload_n 1, 1) := by decide +kernel
theorem dX10_isLike_128 : decode cX10_isLike 128 = .ok (.iconst 4, 1) := by decide +kernel
theorem dX10_isLike_129 : decode cX10_isLike 129 = .ok (.iconst 3, 1) := by decide +kernel
theorem dX10_isLike_130 : decode cX10_isLike 130 = .ok (.iload 5, 2) := by decide +kernel
theorem dX10_isLike_132 : decode cX10_isLike 132 = .ok (.imul, 1) := by decide +kernel
theorem dX10_isLike_133 : decode cX10_isLike 133 = .ok (.iadd, 1) := by decide +kernel
theorem dX10_isLike_134 : decode cX10_isLike 134 = .ok (.iconst 1, 1) := by decide +kernel
theorem dX10_isLike_135 : decode cX10_isLike 135 = .ok (.iadd, 1) := by decide +kernel
theorem dX10_isLike_136 : decode cX10_isLike 136 = .ok (.invokevirtual 256, 3) := by decide +kernel
theorem dX10_isLike_139 : decode cX10_isLike 139 = .ok (.if_icmp .eq 5, 3) := by decide +kernel
theorem dX10_isLike_142 : decode cX10_isLike 142 = .ok (.iconst 0, 1) := by decide +kernel
theorem dX10_isLike_143 : decode cX10_isLike 143 = .ok (.ireturn, 1) := by decide +kernel
theorem dX10_isLike_144 : decode cX10_isLike 144 = .ok (.iinc 5 1, 3) := by decide +kernel
theorem dX10_isLike_147 : decode cX10_isLike 147 = .ok (.goto (-55), 3) := by decide +kernel
theorem dX10_isLike_150 : decode cX10_isLike 150 = .ok (.iconst 1, 1) := by decide +kernel
theorem dX10_isLike_151 : decode cX10_isLike 151 = .ok (.ireturn, 1) := by decide +kernel
theorem dX10_tryRows_0 : decode cX10_tryRows 0 = .ok (.iload 4, 2) := by decide +kernel
theorem dX10_tryRows_2 : decode cX10_tryRows 2 = .ok (.iload_n 3, 1) := by decide +kernel
theorem dX10_tryRows_3 : decode cX10_tryRows 3 = .ok (.if_icmp .ne 87, 3) := by decide +kernel
theorem dX10_tryRows_6 : decode cX10_tryRows 6 = .ok (.iload_n 2, 1) := by decide +kernel
theorem dX10_tryRows_7 : decode cX10_tryRows 7 = .ok (.aload_n 0, 1) := by decide +kernel
theorem dX10_tryRows_8 : decode cX10_tryRows 8 = .ok (.iload_n 1, 1) := by decide +kernel
theorem dX10_tryRows_9 : decode cX10_tryRows 9 = .ok (.iconst 0, 1) := by decide +kernel
theorem dX10_tryRows_10 : decode cX10_tryRows 10 = .ok (.invokevirtual 256, 3) := by decide +kernel
theorem dX10_tryRows_13 : decode cX10_tryRows 13 = .ok (.if_icmp .ne 12, 3) := by decide +kernel
theorem dX10_tryRows_16 : decode cX10_tryRows 16 = .ok (.aload_n 0, 1) := by decide +kernel
theorem dX10_tryRows_17 : decode cX10_tryRows 17 = .ok (.iload_n 1, 1) := by decide +kernel
theorem dX10_tryRows_18 : decode cX10_tryRows 18 = .ok (.iload_n 3, 1) := by decide +kernel
theorem dX10_tryRows_19 : decode cX10_tryRows 19 = .ok (.invokevirtual 341, 3) := by decide +kernel
theorem dX10_tryRows_22 : decode cX10_tryRows 22 = .ok (.ifCond .ne 4, 3) := by decide +kernel
theorem dX10_tryRows_25 : decode cX10_tryRows 25 = .ok (.return_, 1) := by decide +kernel
theorem dX10_tryRows_26 : decode cX10_tryRows 26 = .ok (.aload_n 0, 1) := by decide +kernel
theorem dX10_tryRows_27 : decode cX10_tryRows 27 = .ok (.dup, 1) := by decide +kernel
theorem dX10_tryRows_28 : decode cX10_tryRows 28 = .ok (.getfield 344, 3) := by decide +kernel
theorem dX10_tryRows_31 : decode cX10_tryRows 31 = .ok (.iconst 1, 1) := by decide +kernel
theorem dX10_tryRows_32 : decode cX10_tryRows 32 = .ok (.iadd, 1) := by decide +kernel
theorem dX10_tryRows_33 : decode cX10_tryRows 33 = .ok (.putfield 344, 3) := by decide +kernel
theorem dX10_tryRows_36 : decode cX10_tryRows 36 = .ok (.iconst 0, 1) := by decide +kernel
theorem dX10_tryRows_37 : decode cX10_tryRows 37 = .ok (.istore 5, 2) := by decide +kernel
theorem dX10_tryRows_39 : decode cX10_tryRows 39 = .ok (.iload 5, 2) := by decide +kernel
theorem dX10_tryRows_41 : decode cX10_tryRows 41 = .ok (.iload_n 3, 1) := by decide +kernel
theorem dX10_tryRows_42 : decode cX10_tryRows 42 = .ok (.if_icmp .ge 47, 3) := by decide +kernel
theorem dX10_tryRows_45 : decode cX10_tryRows 45 = .ok (.aload_n 0, 1) := by decide +kernel
theorem dX10_tryRows_46 : decode cX10_tryRows 46 = .ok (.getfield 68, 3) := by decide +kernel
theorem dX10_tryRows_49 : decode cX10_tryRows 49 = .ok (.iload 5, 2) := by decide +kernel
theorem dX10_tryRows_51 : decode cX10_tryRows 51 = .ok (.dup2, 1) := by decide +kernel
theorem dX10_tryRows_52 : decode cX10_tryRows 52 = .ok (.iaload, 1) := by decide +kernel
theorem dX10_tryRows_53 : decode cX10_tryRows 53 = .ok (.iconst 1, 1) := by decide +kernel
theorem dX10_tryRows_54 : decode cX10_tryRows 54 = .ok (.aload_n 0, 1) := by decide +kernel
theorem dX10_tryRows_55 : decode cX10_tryRows 55 = .ok (.getfield 62, 3) := by decide +kernel
theorem dX10_tryRows_58 : decode cX10_tryRows 58 = .ok (.iload 5, 2) := by decide +kernel
theorem dX10_tryRows_60 : decode cX10_tryRows 60 = .ok (.iaload, 1) := by decide +kernel
theorem dX10_tryRows_61 : decode cX10_tryRows 61 = .ok (.ishl, 1) := by decide +kernel
theorem dX10_tryRows_62 : decode cX10_tryRows 62 = .ok (.ior, 1) := by decide +kernel
theorem dX10_tryRows_63 : decode cX10_tryRows 63 = .ok (.iastore, 1) := by decide +kernel
theorem dX10_tryRows_64 : decode cX10_tryRows 64 = .ok (.aload_n 0, 1) := by decide +kernel
theorem dX10_tryRows_65 : decode cX10_tryRows 65 = .ok (.getfield 71, 3) := by decide +kernel
theorem dX10_tryRows_68 : decode cX10_tryRows 68 = .ok (.iload 5, 2) := by decide +kernel
theorem dX10_tryRows_70 : decode cX10_tryRows 70 = .ok (.dup2, 1) := by decide +kernel
theorem dX10_tryRows_71 : decode cX10_tryRows 71 = .ok (.iaload, 1) := by decide +kernel
theorem dX10_tryRows_72 : decode cX10_tryRows 72 = .ok (.iconst 1, 1) := by decide +kernel
theorem dX10_tryRows_73 : decode cX10_tryRows 73 = .ok (.aload_n 0, 1) := by decide +kernel
theorem dX10_tryRows_74 : decode cX10_tryRows 74 = .ok (.getfield 65, 3) := by decide +kernel
theorem dX10_tryRows_77 : decode cX10_tryRows 77 = .ok (.iload 5, 2) := by decide +kernel
theorem dX10_tryRows_79 : decode cX10_tryRows 79 = .ok (.iaload, 1) := by decide +kernel
theorem dX10_tryRows_80 : decode cX10_tryRows 80 = .ok (.ishl, 1) := by decide +kernel
theorem dX10_tryRows_81 : decode cX10_tryRows 81 = .ok (.ior, 1) := by decide +kernel
theorem dX10_tryRows_82 : decode cX10_tryRows 82 = .ok (.iastore, 1) := by decide +kernel
theorem dX10_tryRows_83 : decode cX10_tryRows 83 = .ok (.iinc 5 1, 3) := by decide +kernel
theorem dX10_tryRows_86 : decode cX10_tryRows 86 = .ok (.goto (-47), 3) := by decide +kernel
theorem dX10_tryRows_89 : decode cX10_tryRows 89 = .ok (.return_, 1) := by decide +kernel
theorem dX10_tryRows_90 : decode cX10_tryRows 90 = .ok (.iload 4, 2) := by decide +kernel
theorem dX10_tryRows_92 : decode cX10_tryRows 92 = .ok (.aload_n 0, 1) := by decide +kernel
theorem dX10_tryRows_93 : decode cX10_tryRows 93 = .ok (.getfield 13, 3) := by decide +kernel
theorem dX10_tryRows_96 : decode cX10_tryRows 96 = .ok (.bipush 6, 2) := by decide +kernel
theorem dX10_tryRows_98 : decode cX10_tryRows 98 = .ok (.iaload, 1) := by decide +kernel
theorem dX10_tryRows_99 : decode cX10_tryRows 99 = .ok (.if_icmp .lt 4, 3) := by decide +kernel
theorem dX10_tryRows_102 : decode cX10_tryRows 102 = .ok (.return_, 1) := by decide +kernel
theorem dX10_tryRows_103 : decode cX10_tryRows 103 = .ok (.iconst 0, 1) := by decide +kernel
theorem dX10_tryRows_104 : decode cX10_tryRows 104 = .ok (.istore 5, 2) := by decide +kernel
theorem dX10_tryRows_106 : decode cX10_tryRows 106 = .ok (.iload 5, 2) := by decide +kernel
theorem dX10_tryRows_108 : decode cX10_tryRows 108 = .ok (.aload_n 0, 1) := by decide +kernel
theorem dX10_tryRows_109 : decode cX10_tryRows 109 = .ok (.invokevirtual 185, 3) := by decide +kernel
theorem dX10_tryRows_112 : decode cX10_tryRows 112 = .ok (.if_icmp .ge 82, 3) := by decide +kernel
theorem dX10_tryRows_115 : decode cX10_tryRows 115 = .ok (.iload_n 2, 1) := by decide +kernel
theorem dX10_tryRows_116 : decode cX10_tryRows 116 = .ok (.aload_n 0, 1) := by decide +kernel
theorem dX10_tryRows_117 : decode cX10_tryRows 117 = .ok (.iload 5, 2) := by decide +kernel
theorem dX10_tryRows_119 : decode cX10_tryRows 119 = .ok (.iconst 0, 1) := by decide +kernel
theorem dX10_tryRows_120 : decode cX10_tryRows 120 = .ok (.invokevirtual 262, 3) := by decide +kernel
theorem dX10_tryRows_123 : decode cX10_tryRows 123 = .ok (.isub, 1) := by decide +kernel
theorem dX10_tryRows_124 : decode cX10_tryRows 124 = .ok (.istore 6, 2) := by decide +kernel
theorem dX10_tryRows_126 : decode cX10_tryRows 126 = .ok (.iload 6, 2) := by decide +kernel
theorem dX10_tryRows_128 : decode cX10_tryRows 128 = .ok (.aload_n 0, 1) := by decide +kernel
theorem dX10_tryRows_129 : decode cX10_tryRows 129 = .ok (.getfield 13, 3) := by decide +kernel
theorem dX10_tryRows_132 : decode cX10_tryRows 132 = .ok (.iconst 5, 1) := by decide +kernel
theorem dX10_tryRows_133 : decode cX10_tryRows 133 = .ok (.iaload, 1) := by decide +kernel
theorem dX10_tryRows_134 : decode cX10_tryRows 134 = .ok (.if_icmp .ge 6, 3) := by decide +kernel
theorem dX10_tryRows_137 : decode cX10_tryRows 137 = .ok (.goto 51, 3) := by decide +kernel
theorem dX10_tryRows_140 : decode cX10_tryRows 140 = .ok (.aload_n 0, 1) := by decide +kernel
theorem dX10_tryRows_141 : decode cX10_tryRows 141 = .ok (.getfield 65, 3) := by decide +kernel
theorem dX10_tryRows_144 : decode cX10_tryRows 144 = .ok (.iload 4, 2) := by decide +kernel
theorem dX10_tryRows_146 : decode cX10_tryRows 146 = .ok (.iload 5, 2) := by decide +kernel
theorem dX10_tryRows_148 : decode cX10_tryRows 148 = .ok (.iastore, 1) := by decide +kernel
theorem dX10_tryRows_149 : decode cX10_tryRows 149 = .ok (.iconst 0, 1) := by decide +kernel
theorem dX10_tryRows_150 : decode cX10_tryRows 150 = .ok (.istore 7, 2) := by decide +kernel
theorem dX10_tryRows_152 : decode cX10_tryRows 152 = .ok (.iload 7, 2) := by decide +kernel
theorem dX10_tryRows_154 : decode cX10_tryRows 154 = .ok (.aload_n 0, 1) := by decide +kernel
theorem dX10_tryRows_155 : decode cX10_tryRows 155 = .ok (.invokevirtual 182, 3) := by decide +kernel
theorem dX10_tryRows_158 : decode cX10_tryRows 158 = .ok (.if_icmp .ge 30, 3) := by decide +kernel
theorem dX10_tryRows_161 : decode cX10_tryRows 161 = .ok (.aload_n 0, 1) := by decide +kernel
theorem dX10_tryRows_162 : decode cX10_tryRows 162 = .ok (.getfield 62, 3) := by decide +kernel
theorem dX10_tryRows_165 : decode cX10_tryRows 165 = .ok (.iload 4, 2) := by decide +kernel
theorem dX10_tryRows_167 : decode cX10_tryRows 167 = .ok (.iload 7, 2) := by decide +kernel
theorem dX10_tryRows_169 : decode cX10_tryRows 169 = .ok (.iastore, 1) := by decide +kernel
theorem dX10_tryRows_170 : decode cX10_tryRows 170 = .ok (.aload_n 0, 1) := by decide +kernel
theorem dX10_tryRows_171 : decode cX10_tryRows 171 = .ok (.iload_n 1, 1) := by decide +kernel
theorem dX10_tryRows_172 : decode cX10_tryRows 172 = .ok (.iload 6, 2) := by decide +kernel
theorem dX10_tryRows_174 : decode cX10_tryRows 174 = .ok (.iload_n 3, 1) := by decide +kernel
theorem dX10_tryRows_175 : decode cX10_tryRows 175 = .ok (.iload 4, 2) := by decide +kernel
theorem dX10_tryRows_177 : decode cX10_tryRows 177 = .ok (.iconst 1, 1) := by decide +kernel
theorem dX10_tryRows_178 : decode cX10_tryRows 178 = .ok (.iadd, 1) := by decide +kernel
theorem dX10_tryRows_179 : decode cX10_tryRows 179 = .ok (.invokevirtual 347, 3) := by decide +kernel
theorem dX10_tryRows_182 : decode cX10_tryRows 182 = .ok (.iinc 7 1, 3) := by decide +kernel
theorem dX10_tryRows_185 : decode cX10_tryRows 185 = .ok (.goto (-33), 3) := by decide +kernel
theorem dX10_tryRows_188 : decode cX10_tryRows 188 = .ok (.iinc 5 1, 3) := by decide +kernel
theorem dX10_tryRows_191 : decode cX10_tryRows 191 = .ok (.goto (-85), 3) := by decide +kernel
theorem dX10_tryRows_194 : decode cX10_tryRows 194 = .ok (.return_, 1) := by decide +kernel
theorem dX10_rows_0 : decode cX10_rows 0 = .ok (.aload_n 0, 1) := by decide +kernel
theorem dX10_rows_1 : decode cX10_rows 1 = .ok (.iconst 0, 1) := by decide +kernel
theorem dX10_rows_2 : decode cX10_rows 2 = .ok (.putfield 83, 3) := by decide +kernel
theorem dX10_rows_5 : decode cX10_rows 5 = .ok (.aload_n 0, 1) := by decide +kernel
theorem dX10_rows_6 : decode cX10_rows 6 = .ok (.invokevirtual 167, 3) := by decide +kernel
theorem dX10_rows_9 : decode cX10_rows 9 = .ok (.aload_n 0, 1) := by decide +kernel
theorem dX10_rows_10 : decode cX10_rows 10 = .ok (.iload_n 1, 1) := by decide +kernel
theorem dX10_rows_11 : decode cX10_rows 11 = .ok (.invokevirtual 282, 3) := by decide +kernel
theorem dX10_rows_14 : decode cX10_rows 14 = .ok (.ifCond .eq 24, 3) := by decide +kernel
theorem dX10_rows_17 : decode cX10_rows 17 = .ok (.iload_n 2, 1) := by decide +kernel
theorem dX10_rows_18 : decode cX10_rows 18 = .ok (.iconst 1, 1) := by decide +kernel
theorem dX10_rows_19 : decode cX10_rows 19 = .ok (.sipush 9999, 3) := by decide +kernel
theorem dX10_rows_22 : decode cX10_rows 22 = .ok (.invokestatic 154, 3) := by decide +kernel
theorem dX10_rows_25 : decode cX10_rows 25 = .ok (.ifCond .eq 13, 3) := by decide +kernel
theorem dX10_rows_28 : decode cX10_rows 28 = .ok (.iload_n 3, 1) := by decide +kernel
theorem dX10_rows_29 : decode cX10_rows 29 = .ok (.iconst 1, 1) := by decide +kernel
theorem dX10_rows_30 : decode cX10_rows 30 = .ok (.bipush 9, 2) := by decide +kernel
theorem dX10_rows_32 : decode cX10_rows 32 = .ok (.invokestatic 154, 3) := by decide +kernel
theorem dX10_rows_35 : decode cX10_rows 35 = .ok (.ifCond .ne 5, 3) := by decide +kernel
theorem dX10_rows_38 : decode cX10_rows 38 = .ok (.iconst (-1), 1) := by decide +kernel
theorem dX10_rows_39 : decode cX10_rows 39 = .ok (.ireturn, 1) := by decide +kernel
theorem dX10_rows_40 : decode cX10_rows 40 = .ok (.lconst 1, 1) := by decide +kernel
theorem dX10_rows_41 : decode cX10_rows 41 = .ok (.lstore 4, 2) := by decide +kernel
theorem dX10_rows_43 : decode cX10_rows 43 = .ok (.iconst 0, 1) := by decide +kernel
theorem dX10_rows_44 : decode cX10_rows 44 = .ok (.istore 6, 2) := by decide +kernel
theorem dX10_rows_46 : decode cX10_rows 46 = .ok (.iload 6, 2) := by decide +kernel
theorem dX10_rows_48 : decode cX10_rows 48 = .ok (.iload_n 3, 1) := by decide +kernel
theorem dX10_rows_49 : decode cX10_rows 49 = .ok (.if_icmp .ge 37, 3) := by decide +kernel
theorem dX10_rows_52 : decode cX10_rows 52 = .ok (.lload 4, 2) := by decide +kernel
theorem dX10_rows_54 : decode cX10_rows 54 = .ok (.aload_n 0, 1) := by decide +kernel
theorem dX10_rows_55 : decode cX10_rows 55 = .ok (.invokevirtual 182, 3) := by decide +kernel
theorem dX10_rows_58 : decode cX10_rows 58 = .ok (.i2l, 1) := by decide +kernel
theorem dX10_rows_59 : decode cX10_rows 59 = .ok (.aload_n 0, 1) := by decide +kernel
theorem dX10_rows_60 : decode cX10_rows 60 = .ok (.invokevirtual 185, 3) := by decide +kernel
theorem dX10_rows_63 : decode cX10_rows 63 = .ok (.i2l, 1) := by decide +kernel
theorem dX10_rows_64 : decode cX10_rows 64 = .ok (.lmul, 1) := by decide +kernel
theorem dX10_rows_65 : decode cX10_rows 65 = .ok (.lmul, 1) := by decide +kernel
theorem dX10_rows_66 : decode cX10_rows 66 = .ok (.lstore 4, 2) := by decide +kernel
theorem dX10_rows_68 : decode cX10_rows 68 = .ok (.lload 4, 2) := by decide +kernel
theorem dX10_rows_70 : decode cX10_rows 70 = .ok (.ldc2_w 350, 3) := by decide +kernel
theorem dX10_rows_73 : decode cX10_rows 73 = .ok (.lcmp, 1) := by decide +kernel
theorem dX10_rows_74 : decode cX10_rows 74 = .ok (.ifCond .le 6, 3) := by decide +kernel
theorem dX10_rows_77 : decode cX10_rows 77 = .ok (.bipush (-2), 2) := by decide +kernel
theorem dX10_rows_79 : decode cX10_rows 79 = .ok (.ireturn, 1) := by decide +kernel
theorem dX10_rows_80 : decode cX10_rows 80 = .ok (.iinc 6 1, 3) := by decide +kernel
theorem dX10_rows_83 : decode cX10_rows 83 = .ok (.goto (-37), 3) := by decide +kernel
theorem dX10_rows_86 : decode cX10_rows 86 = .ok (.aload_n 0, 1) := by decide +kernel
theorem dX10_rows_87 : decode cX10_rows 87 = .ok (.iconst 0, 1) := by decide +kernel
theorem dX10_rows_88 : decode cX10_rows 88 = .ok (.putfield 344, 3) := by decide +kernel
theorem dX10_rows_91 : decode cX10_rows 91 = .ok (.aload_n 0, 1) := by decide +kernel
theorem dX10_rows_92 : decode cX10_rows 92 = .ok (.iload_n 3, 1) := by decide +kernel
theorem dX10_rows_93 : decode cX10_rows 93 = .ok (.putfield 352, 3) := by decide +kernel
theorem dX10_rows_96 : decode cX10_rows 96 = .ok (.iconst 0, 1) := by decide +kernel
theorem dX10_rows_97 : decode cX10_rows 97 = .ok (.istore 6, 2) := by decide +kernel
theorem dX10_rows_99 : decode cX10_rows 99 = .ok (.iload 6, 2) := by decide +kernel
theorem dX10_rows_101 : decode cX10_rows 101 = .ok (.bipush 9, 2) := by decide +kernel
theorem dX10_rows_103 : decode cX10_rows 103 = .ok (.if_icmp .ge 25, 3) := by decide +kernel
theorem dX10_rows_106 : decode cX10_rows 106 = .ok (.aload_n 0, 1) := by decide +kernel
theorem dX10_rows_107 : decode cX10_rows 107 = .ok (.getfield 68, 3) := by decide +kernel
theorem dX10_rows_110 : decode cX10_rows 110 = .ok (.iload 6, 2) := by decide +kernel
theorem dX10_rows_112 : decode cX10_rows 112 = .ok (.iconst 0, 1) := by decide +kernel
theorem dX10_rows_113 : decode cX10_rows 113 = .ok (.iastore, 1) := by decide +kernel
theorem dX10_rows_114 : decode cX10_rows 114 = .ok (.aload_n 0, 1) := by decide +kernel
theorem dX10_rows_115 : decode cX10_rows 115 = .ok (.getfield 71, 3) := by decide +kernel
theorem dX10_rows_118 : decode cX10_rows 118 = .ok (.iload 6, 2) := by decide +kernel
theorem dX10_rows_120 : decode cX10_rows 120 = .ok (.iconst 0, 1) := by decide +kernel
theorem dX10_rows_121 : decode cX10_rows 121 = .ok (.iastore, 1) := by decide +kernel
theorem dX10_rows_122 : decode cX10_rows 122 = .ok (.iinc 6 1, 3) := by decide +kernel
theorem dX10_rows_125 : decode cX10_rows 125 = .ok (.goto (-26), 3) := by decide +kernel
theorem dX10_rows_128 : decode cX10_rows 128 = .ok (.aload_n 0, 1) := by decide +kernel
theorem dX10_rows_129 : decode cX10_rows 129 = .ok (.iload_n 1, 1) := by decide +kernel
theorem dX10_rows_130 : decode cX10_rows 130 = .ok (.iload_n 2, 1) := by decide +kernel
theorem dX10_rows_131 : decode cX10_rows 131 = .ok (.iload_n 3, 1) := by decide +kernel
theorem dX10_rows_132 : decode cX10_rows 132 = .ok (.iconst 0, 1) := by decide +kernel
theorem dX10_rows_133 : decode cX10_rows 133 = .ok (.invokevirtual 347, 3) := by decide +kernel
theorem dX10_rows_136 : decode cX10_rows 136 = .ok (.aload_n 0, 1) := by decide +kernel
theorem dX10_rows_137 : decode cX10_rows 137 = .ok (.getfield 344, 3) := by decide +kernel
theorem dX10_rows_140 : decode cX10_rows 140 = .ok (.ireturn, 1) := by decide +kernel
theorem dX10_could_0 : decode cX10_could 0 = .ok (.aload_n 0, 1) := by decide +kernel
theorem dX10_could_1 : decode cX10_could 1 = .ok (.iconst 0, 1) := by decide +kernel
theorem dX10_could_2 : decode cX10_could 2 = .ok (.putfield 83, 3) := by decide +kernel
theorem dX10_could_5 : decode cX10_could 5 = .ok (.iload_n 1, 1) := by decide +kernel
theorem dX10_could_6 : decode cX10_could 6 = .ok (.ifCond .lt 42, 3) := by decide +kernel
theorem dX10_could_9 : decode cX10_could 9 = .ok (.iload_n 1, 1) := by decide +kernel
theorem dX10_could_10 : decode cX10_could 10 = .ok (.aload_n 0, 1) := by decide +kernel
theorem dX10_could_11 : decode cX10_could 11 = .ok (.getfield 352, 3) := by decide +kernel
theorem dX10_could_14 : decode cX10_could 14 = .ok (.if_icmp .ge 34, 3) := by decide +kernel
theorem dX10_could_17 : decode cX10_could 17 = .ok (.iload_n 2, 1) := by decide +kernel
theorem dX10_could_18 : decode cX10_could 18 = .ok (.iconst 0, 1) := by decide +kernel
theorem dX10_could_19 : decode cX10_could 19 = .ok (.iconst 1, 1) := by decide +kernel
theorem dX10_could_20 : decode cX10_could 20 = .ok (.invokestatic 154, 3) := by decide +kernel
theorem dX10_could_23 : decode cX10_could 23 = .ok (.ifCond .eq 25, 3) := by decide +kernel
theorem dX10_could_26 : decode cX10_could 26 = .ok (.iload_n 2, 1) := by decide +kernel
theorem dX10_could_27 : decode cX10_could 27 = .ok (.ifCond .ne 12, 3) := by decide +kernel
theorem dX10_could_30 : decode cX10_could 30 = .ok (.aload_n 0, 1) := by decide +kernel
theorem dX10_could_31 : decode cX10_could 31 = .ok (.getfield 68, 3) := by decide +kernel
theorem dX10_could_34 : decode cX10_could 34 = .ok (.iload_n 1, 1) := by decide +kernel
theorem dX10_could_35 : decode cX10_could 35 = .ok (.iaload, 1) := by decide +kernel
theorem dX10_could_36 : decode cX10_could 36 = .ok (.goto 13, 3) := by decide +kernel
theorem dX10_could_39 : decode cX10_could 39 = .ok (.aload_n 0, 1) := by decide +kernel
theorem dX10_could_40 : decode cX10_could 40 = .ok (.getfield 71, 3) := by decide +kernel
theorem dX10_could_43 : decode cX10_could 43 = .ok (.iload_n 1, 1) := by decide +kernel
theorem dX10_could_44 : decode cX10_could 44 = .ok (.iaload, 1) := by decide +kernel
theorem dX10_could_45 : decode cX10_could 45 = .ok (.goto 4, 3) := by decide +kernel
theorem dX10_could_48 : decode cX10_could 48 = .ok (.iconst (-1), 1) := by decide +kernel
theorem dX10_could_49 : decode cX10_could 49 = .ok (.ireturn, 1) := by decide +kernel
theorem dX10_draw_0 : decode cX10_draw 0 = .ok (.aload_n 0, 1) := by decide +kernel
theorem dX10_draw_1 : decode cX10_draw 1 = .ok (.aload_n 0, 1) := by decide +kernel
theorem dX10_draw_2 : decode cX10_draw 2 = .ok (.getfield 355, 3) := by decide +kernel
theorem dX10_draw_5 : decode cX10_draw 5 = .ok (.ldc_w 358, 3) := by decide +kernel
theorem dX10_draw_8 : decode cX10_draw 8 = .ok (.imul, 1) := by decide +kernel
theorem dX10_draw_9 : decode cX10_draw 9 = .ok (.sipush 12345, 3) := by decide +kernel
theorem dX10_draw_12 : decode cX10_draw 12 = .ok (.iadd, 1) := by decide +kernel
theorem dX10_draw_13 : decode cX10_draw 13 = .ok (.putfield 355, 3) := by decide +kernel
theorem dX10_draw_16 : decode cX10_draw 16 = .ok (.aload_n 0, 1) := by decide +kernel
theorem dX10_draw_17 : decode cX10_draw 17 = .ok (.getfield 355, 3) := by decide +kernel
theorem dX10_draw_20 : decode cX10_draw 20 = .ok (.bipush 8, 2) := by decide +kernel
theorem dX10_draw_22 : decode cX10_draw 22 = .ok (.iushr, 1) := by decide +kernel
theorem dX10_draw_23 : decode cX10_draw 23 = .ok (.iload_n 1, 1) := by decide +kernel
theorem dX10_draw_24 : decode cX10_draw 24 = .ok (.irem, 1) := by decide +kernel
theorem dX10_draw_25 : decode cX10_draw 25 = .ok (.ireturn, 1) := by decide +kernel
theorem dX10_market_0 : decode cX10_market 0 = .ok (.aload_n 0, 1) := by decide +kernel
theorem dX10_market_1 : decode cX10_market 1 = .ok (.iconst 0, 1) := by decide +kernel
theorem dX10_market_2 : decode cX10_market 2 = .ok (.putfield 83, 3) := by decide +kernel
theorem dX10_market_5 : decode cX10_market 5 = .ok (.aload_n 0, 1) := by decide +kernel
theorem dX10_market_6 : decode cX10_market 6 = .ok (.invokevirtual 167, 3) := by decide +kernel
theorem dX10_market_9 : decode cX10_market 9 = .ok (.iload_n 1, 1) := by decide +kernel
theorem dX10_market_10 : decode cX10_market 10 = .ok (.iconst 1, 1) := by decide +kernel
theorem dX10_market_11 : decode cX10_market 11 = .ok (.bipush 50, 2) := by decide +kernel
theorem dX10_market_13 : decode cX10_market 13 = .ok (.invokestatic 154, 3) := by decide +kernel
theorem dX10_market_16 : decode cX10_market 16 = .ok (.ifCond .eq 17, 3) := by decide +kernel
theorem dX10_market_19 : decode cX10_market 19 = .ok (.aload_n 0, 1) := by decide +kernel
theorem dX10_market_20 : decode cX10_market 20 = .ok (.invokevirtual 182, 3) := by decide +kernel
theorem dX10_market_23 : decode cX10_market 23 = .ok (.ifCond .eq 10, 3) := by decide +kernel
theorem dX10_market_26 : decode cX10_market 26 = .ok (.aload_n 0, 1) := by decide +kernel
theorem dX10_market_27 : decode cX10_market 27 = .ok (.invokevirtual 185, 3) := by decide +kernel
theorem dX10_market_30 : decode cX10_market 30 = .ok (.ifCond .ne 5, 3) := by decide +kernel
theorem dX10_market_33 : decode cX10_market 33 = .ok (.iconst (-1), 1) := by decide +kernel
theorem dX10_market_34 : decode cX10_market 34 = .ok (.ireturn, 1) := by decide +kernel
theorem dX10_market_35 : decode cX10_market 35 = .ok (.aload_n 0, 1) := by decide +kernel
theorem dX10_market_36 : decode cX10_market 36 = .ok (.invokevirtual 272, 3) := by decide +kernel
theorem dX10_market_39 : decode cX10_market 39 = .ok (.aload_n 0, 1) := by decide +kernel
theorem dX10_market_40 : decode cX10_market 40 = .ok (.iload_n 2, 1) := by decide +kernel
theorem dX10_market_41 : decode cX10_market 41 = .ok (.putfield 355, 3) := by decide +kernel
theorem dX10_market_44 : decode cX10_market 44 = .ok (.iconst 0, 1) := by decide +kernel
theorem dX10_market_45 : decode cX10_market 45 = .ok (.istore_n 3, 1) := by decide +kernel
theorem dX10_market_46 : decode cX10_market 46 = .ok (.iconst 0, 1) := by decide +kernel
theorem dX10_market_47 : decode cX10_market 47 = .ok (.istore 4, 2) := by decide +kernel
theorem dX10_market_49 : decode cX10_market 49 = .ok (.iload 4, 2) := by decide +kernel
theorem dX10_market_51 : decode cX10_market 51 = .ok (.iload_n 1, 1) := by decide +kernel
theorem dX10_market_52 : decode cX10_market 52 = .ok (.if_icmp .ge 112, 3) := by decide +kernel
theorem dX10_market_55 : decode cX10_market 55 = .ok (.aload_n 0, 1) := by decide +kernel
theorem dX10_market_56 : decode cX10_market 56 = .ok (.aload_n 0, 1) := by decide +kernel
theorem dX10_market_57 : decode cX10_market 57 = .ok (.invokevirtual 182, 3) := by decide +kernel
theorem dX10_market_60 : decode cX10_market 60 = .ok (.invokevirtual 359, 3) := by decide +kernel
theorem dX10_market_63 : decode cX10_market 63 = .ok (.istore 5, 2) := by decide +kernel
theorem dX10_market_65 : decode cX10_market 65 = .ok (.aload_n 0, 1) := by decide +kernel
theorem dX10_market_66 : decode cX10_market 66 = .ok (.aload_n 0, 1) := by decide +kernel
theorem dX10_market_67 : decode cX10_market 67 = .ok (.invokevirtual 182, 3) := by decide +kernel
theorem dX10_market_70 : decode cX10_market 70 = .ok (.invokevirtual 359, 3) := by decide +kernel
theorem dX10_market_73 : decode cX10_market 73 = .ok (.istore 6, 2) := by decide +kernel
theorem dX10_market_75 : decode cX10_market 75 = .ok (.iload 6, 2) := by decide +kernel
theorem dX10_market_77 : decode cX10_market 77 = .ok (.iload 5, 2) := by decide +kernel
theorem dX10_market_79 : decode cX10_market 79 = .ok (.if_icmp .ne 14, 3) := by decide +kernel
theorem dX10_market_82 : decode cX10_market 82 = .ok (.iload 6, 2) := by decide +kernel
theorem dX10_market_84 : decode cX10_market 84 = .ok (.iconst 1, 1) := by decide +kernel
theorem dX10_market_85 : decode cX10_market 85 = .ok (.iadd, 1) := by decide +kernel
theorem dX10_market_86 : decode cX10_market 86 = .ok (.aload_n 0, 1) := by decide +kernel
theorem dX10_market_87 : decode cX10_market 87 = .ok (.invokevirtual 182, 3) := by decide +kernel
theorem dX10_market_90 : decode cX10_market 90 = .ok (.irem, 1) := by decide +kernel
theorem dX10_market_91 : decode cX10_market 91 = .ok (.istore 6, 2) := by decide +kernel
theorem dX10_market_93 : decode cX10_market 93 = .ok (.aload_n 0, 1) := by decide +kernel
theorem dX10_market_94 : decode cX10_market 94 = .ok (.aload_n 0, 1) := by decide +kernel
theorem dX10_market_95 : decode cX10_market 95 = .ok (.invokevirtual 185, 3) := by decide +kernel
theorem dX10_market_98 : decode cX10_market 98 = .ok (.invokevirtual 359, 3) := by decide +kernel
theorem dX10_market_101 : decode cX10_market 101 = .ok (.istore 7, 2) := by decide +kernel
theorem dX10_market_103 : decode cX10_market 103 = .ok (.aload_n 0, 1) := by decide +kernel
theorem dX10_market_104 : decode cX10_market 104 = .ok (.sipush 200, 3) := by decide +kernel
theorem dX10_market_107 : decode cX10_market 107 = .ok (.invokevirtual 359, 3) := by decide +kernel
theorem dX10_market_110 : decode cX10_market 110 = .ok (.iconst 1, 1) := by decide +kernel
theorem dX10_market_111 : decode cX10_market 111 = .ok (.iadd, 1) := by decide +kernel
theorem dX10_market_112 : decode cX10_market 112 = .ok (.istore 8, 2) := by decide +kernel
theorem dX10_market_114 : decode cX10_market 114 = .ok (.aload_n 0, 1) := by decide +kernel
theorem dX10_market_115 : decode cX10_market 115 = .ok (.iload 5, 2) := by decide +kernel
theorem dX10_market_117 : decode cX10_market 117 = .ok (.iload 6, 2) := by decide +kernel
theorem dX10_market_119 : decode cX10_market 119 = .ok (.iload 7, 2) := by decide +kernel
theorem dX10_market_121 : decode cX10_market 121 = .ok (.iload 8, 2) := by decide +kernel
theorem dX10_market_123 : decode cX10_market 123 = .ok (.invokevirtual 321, 3) := by decide +kernel
theorem dX10_market_126 : decode cX10_market 126 = .ok (.ifCond .lt 32, 3) := by decide +kernel
theorem dX10_market_129 : decode cX10_market 129 = .ok (.aload_n 0, 1) := by decide +kernel
theorem dX10_market_130 : decode cX10_market 130 = .ok (.aload_n 0, 1) := by decide +kernel
theorem dX10_market_131 : decode cX10_market 131 = .ok (.invokevirtual 328, 3) := by decide +kernel
theorem dX10_market_134 : decode cX10_market 134 = .ok (.invokevirtual 269, 3) := by decide +kernel
theorem dX10_market_137 : decode cX10_market 137 = .ok (.ifCond .eq 6, 3) := by decide +kernel
theorem dX10_market_140 : decode cX10_market 140 = .ok (.goto 18, 3) := by decide +kernel
theorem dX10_market_143 : decode cX10_market 143 = .ok (.aload_n 0, 1) := by decide +kernel
theorem dX10_market_144 : decode cX10_market 144 = .ok (.iload 5, 2) := by decide +kernel
theorem dX10_market_146 : decode cX10_market 146 = .ok (.iload 6, 2) := by decide +kernel
theorem dX10_market_148 : decode cX10_market 148 = .ok (.iload 7, 2) := by decide +kernel
theorem dX10_market_150 : decode cX10_market 150 = .ok (.iload 8, 2) := by decide +kernel
theorem dX10_market_152 : decode cX10_market 152 = .ok (.invokevirtual 331, 3) := by decide +kernel
theorem dX10_market_155 : decode cX10_market 155 = .ok (.iinc 3 1, 3) := by decide +kernel
theorem dX10_market_158 : decode cX10_market 158 = .ok (.iinc 4 1, 3) := by decide +kernel
theorem dX10_market_161 : decode cX10_market 161 = .ok (.goto (-112), 3) := by decide +kernel
theorem dX10_market_164 : decode cX10_market 164 = .ok (.iload_n 3, 1) := by decide +kernel
theorem dX10_market_165 : decode cX10_market 165 = .ok (.ireturn, 1) := by decide +kernel
theorem dX10_undo_0 : decode cX10_undo 0 = .ok (.aload_n 0, 1) := by decide +kernel
theorem dX10_undo_1 : decode cX10_undo 1 = .ok (.iconst 0, 1) := by decide +kernel
theorem dX10_undo_2 : decode cX10_undo 2 = .ok (.putfield 83, 3) := by decide +kernel
theorem dX10_undo_5 : decode cX10_undo 5 = .ok (.aload_n 0, 1) := by decide +kernel
theorem dX10_undo_6 : decode cX10_undo 6 = .ok (.getfield 240, 3) := by decide +kernel
theorem dX10_undo_9 : decode cX10_undo 9 = .ok (.ifCond .ne 5, 3) := by decide +kernel
theorem dX10_undo_12 : decode cX10_undo 12 = .ok (.iconst (-1), 1) := by decide +kernel
theorem dX10_undo_13 : decode cX10_undo 13 = .ok (.ireturn, 1) := by decide +kernel
theorem dX10_undo_14 : decode cX10_undo 14 = .ok (.aload_n 0, 1) := by decide +kernel
theorem dX10_undo_15 : decode cX10_undo 15 = .ok (.dup, 1) := by decide +kernel
theorem dX10_undo_16 : decode cX10_undo 16 = .ok (.getfield 240, 3) := by decide +kernel
theorem dX10_undo_19 : decode cX10_undo 19 = .ok (.iconst 1, 1) := by decide +kernel
theorem dX10_undo_20 : decode cX10_undo 20 = .ok (.isub, 1) := by decide +kernel
theorem dX10_undo_21 : decode cX10_undo 21 = .ok (.putfield 240, 3) := by decide +kernel
theorem dX10_undo_24 : decode cX10_undo 24 = .ok (.aload_n 0, 1) := by decide +kernel
theorem dX10_undo_25 : decode cX10_undo 25 = .ok (.getfield 13, 3) := by decide +kernel
theorem dX10_undo_28 : decode cX10_undo 28 = .ok (.bipush 116, 2) := by decide +kernel
theorem dX10_undo_30 : decode cX10_undo 30 = .ok (.iaload, 1) := by decide +kernel
theorem dX10_undo_31 : decode cX10_undo 31 = .ok (.istore_n 1, 1) := by decide +kernel
theorem dX10_undo_32 : decode cX10_undo 32 = .ok (.aload_n 0, 1) := by decide +kernel
theorem dX10_undo_33 : decode cX10_undo 33 = .ok (.getfield 13, 3) := by decide +kernel
theorem dX10_undo_36 : decode cX10_undo 36 = .ok (.bipush 117, 2) := by decide +kernel
theorem dX10_undo_38 : decode cX10_undo 38 = .ok (.iaload, 1) := by decide +kernel
theorem dX10_undo_39 : decode cX10_undo 39 = .ok (.istore_n 2, 1) := by decide +kernel
theorem dX10_undo_40 : decode cX10_undo 40 = .ok (.iconst 0, 1) := by decide +kernel
theorem dX10_undo_41 : decode cX10_undo 41 = .ok (.istore_n 3, 1) := by decide +kernel
theorem dX10_undo_42 : decode cX10_undo 42 = .ok (.iload_n 3, 1) := by decide +kernel
theorem dX10_undo_43 : decode cX10_undo 43 = .ok (.sipush 7900, 3) := by decide +kernel
theorem dX10_undo_46 : decode cX10_undo 46 = .ok (.if_icmp .ge 30, 3) := by decide +kernel
theorem dX10_undo_49 : decode cX10_undo 49 = .ok (.aload_n 0, 1) := by decide +kernel
theorem dX10_undo_50 : decode cX10_undo 50 = .ok (.getfield 13, 3) := by decide +kernel
theorem dX10_undo_53 : decode cX10_undo 53 = .ok (.iload_n 3, 1) := by decide +kernel
theorem dX10_undo_54 : decode cX10_undo 54 = .ok (.aload_n 0, 1) := by decide +kernel
theorem dX10_undo_55 : decode cX10_undo 55 = .ok (.getfield 23, 3) := by decide +kernel
theorem dX10_undo_58 : decode cX10_undo 58 = .ok (.sipush 7900, 3) := by decide +kernel
theorem dX10_undo_61 : decode cX10_undo 61 = .ok (.aload_n 0, 1) := by decide +kernel
theorem dX10_undo_62 : decode cX10_undo 62 = .ok (.getfield 240, 3) := by decide +kernel
theorem dX10_undo_65 : decode cX10_undo 65 = .ok (.imul, 1) := by decide +kernel
theorem dX10_undo_66 : decode cX10_undo 66 = .ok (.iload_n 3, 1) := by decide +kernel
theorem dX10_undo_67 : decode cX10_undo 67 = .ok (.iadd, 1) := by decide +kernel
theorem dX10_undo_68 : decode cX10_undo 68 = .ok (.iaload, 1) := by decide +kernel
theorem dX10_undo_69 : decode cX10_undo 69 = .ok (.iastore, 1) := by decide +kernel
theorem dX10_undo_70 : decode cX10_undo 70 = .ok (.iinc 3 1, 3) := by decide +kernel
theorem dX10_undo_73 : decode cX10_undo 73 = .ok (.goto (-31), 3) := by decide +kernel
theorem dX10_undo_76 : decode cX10_undo 76 = .ok (.aload_n 0, 1) := by decide +kernel
theorem dX10_undo_77 : decode cX10_undo 77 = .ok (.getfield 13, 3) := by decide +kernel
theorem dX10_undo_80 : decode cX10_undo 80 = .ok (.bipush 116, 2) := by decide +kernel
theorem dX10_undo_82 : decode cX10_undo 82 = .ok (.iload_n 1, 1) := by decide +kernel
theorem dX10_undo_83 : decode cX10_undo 83 = .ok (.iastore, 1) := by decide +kernel
theorem dX10_undo_84 : decode cX10_undo 84 = .ok (.aload_n 0, 1) := by decide +kernel
theorem dX10_undo_85 : decode cX10_undo 85 = .ok (.getfield 13, 3) := by decide +kernel
theorem dX10_undo_88 : decode cX10_undo 88 = .ok (.bipush 117, 2) := by decide +kernel
theorem dX10_undo_90 : decode cX10_undo 90 = .ok (.iload_n 2, 1) := by decide +kernel
theorem dX10_undo_91 : decode cX10_undo 91 = .ok (.iastore, 1) := by decide +kernel
theorem dX10_undo_92 : decode cX10_undo 92 = .ok (.aload_n 0, 1) := by decide +kernel
theorem dX10_undo_93 : decode cX10_undo 93 = .ok (.getfield 240, 3) := by decide +kernel
theorem dX10_undo_96 : decode cX10_undo 96 = .ok (.ireturn, 1) := by decide +kernel
theorem dX10_lays_0 : decode cX10_lays 0 = .ok (.iconst 4, 1) := by decide +kernel
theorem dX10_lays_1 : decode cX10_lays 1 = .ok (.aload_n 0, 1) := by decide +kernel
theorem dX10_lays_2 : decode cX10_lays 2 = .ok (.getfield 362, 3) := by decide +kernel
theorem dX10_lays_5 : decode cX10_lays 5 = .ok (.imul, 1) := by decide +kernel
theorem dX10_lays_6 : decode cX10_lays 6 = .ok (.istore 5, 2) := by decide +kernel
theorem dX10_lays_8 : decode cX10_lays 8 = .ok (.aload_n 0, 1) := by decide +kernel
theorem dX10_lays_9 : decode cX10_lays 9 = .ok (.getfield 80, 3) := by decide +kernel
theorem dX10_lays_12 : decode cX10_lays 12 = .ok (.iload 5, 2) := by decide +kernel
theorem dX10_lays_14 : decode cX10_lays 14 = .ok (.iload_n 1, 1) := by decide +kernel
theorem dX10_lays_15 : decode cX10_lays 15 = .ok (.iastore, 1) := by decide +kernel
theorem dX10_lays_16 : decode cX10_lays 16 = .ok (.aload_n 0, 1) := by decide +kernel
theorem dX10_lays_17 : decode cX10_lays 17 = .ok (.getfield 80, 3) := by decide +kernel
theorem dX10_lays_20 : decode cX10_lays 20 = .ok (.iload 5, 2) := by decide +kernel
theorem dX10_lays_22 : decode cX10_lays 22 = .ok (.iconst 1, 1) := by decide +kernel
theorem dX10_lays_23 : decode cX10_lays 23 = .ok (.iadd, 1) := by decide +kernel
theorem dX10_lays_24 : decode cX10_lays 24 = .ok (.iload_n 2, 1) := by decide +kernel
theorem dX10_lays_25 : decode cX10_lays 25 = .ok (.iastore, 1) := by decide +kernel
theorem dX10_lays_26 : decode cX10_lays 26 = .ok (.aload_n 0, 1) := by decide +kernel
theorem dX10_lays_27 : decode cX10_lays 27 = .ok (.getfield 80, 3) := by decide +kernel
theorem dX10_lays_30 : decode cX10_lays 30 = .ok (.iload 5, 2) := by decide +kernel
theorem dX10_lays_32 : decode cX10_lays 32 = .ok (.iconst 2, 1) := by decide +kernel
theorem dX10_lays_33 : decode cX10_lays 33 = .ok (.iadd, 1) := by decide +kernel
theorem dX10_lays_34 : decode cX10_lays 34 = .ok (.iload_n 3, 1) := by decide +kernel
theorem dX10_lays_35 : decode cX10_lays 35 = .ok (.iastore, 1) := by decide +kernel
theorem dX10_lays_36 : decode cX10_lays 36 = .ok (.aload_n 0, 1) := by decide +kernel
theorem dX10_lays_37 : decode cX10_lays 37 = .ok (.getfield 80, 3) := by decide +kernel
theorem dX10_lays_40 : decode cX10_lays 40 = .ok (.iload 5, 2) := by decide +kernel
theorem dX10_lays_42 : decode cX10_lays 42 = .ok (.iconst 3, 1) := by decide +kernel
theorem dX10_lays_43 : decode cX10_lays 43 = .ok (.iadd, 1) := by decide +kernel
theorem dX10_lays_44 : decode cX10_lays 44 = .ok (.iload 4, 2) := by decide +kernel
theorem dX10_lays_46 : decode cX10_lays 46 = .ok (.iastore, 1) := by decide +kernel
theorem dX10_lays_47 : decode cX10_lays 47 = .ok (.aload_n 0, 1) := by decide +kernel
theorem dX10_lays_48 : decode cX10_lays 48 = .ok (.dup, 1) := by decide +kernel
theorem dX10_lays_49 : decode cX10_lays 49 = .ok (.getfield 362, 3) := by decide +kernel
theorem dX10_lays_52 : decode cX10_lays 52 = .ok (.iconst 1, 1) := by decide +kernel
theorem dX10_lays_53 : decode cX10_lays 53 = .ok (.iadd, 1) := by decide +kernel
theorem dX10_lays_54 : decode cX10_lays 54 = .ok (.putfield 362, 3) := by decide +kernel
theorem dX10_lays_57 : decode cX10_lays 57 = .ok (.aload_n 0, 1) := by decide +kernel
theorem dX10_lays_58 : decode cX10_lays 58 = .ok (.getfield 362, 3) := by decide +kernel
theorem dX10_lays_61 : decode cX10_lays 61 = .ok (.iconst 1, 1) := by decide +kernel
theorem dX10_lays_62 : decode cX10_lays 62 = .ok (.isub, 1) := by decide +kernel
theorem dX10_lays_63 : decode cX10_lays 63 = .ok (.ireturn, 1) := by decide +kernel
theorem dX10_readOr_0 : decode cX10_readOr 0 = .ok (.aload_n 0, 1) := by decide +kernel
theorem dX10_readOr_1 : decode cX10_readOr 1 = .ok (.invokevirtual 365, 3) := by decide +kernel
theorem dX10_readOr_4 : decode cX10_readOr 4 = .ok (.ifCond .ne 5, 3) := by decide +kernel
theorem dX10_readOr_7 : decode cX10_readOr 7 = .ok (.iconst 0, 1) := by decide +kernel
theorem dX10_readOr_8 : decode cX10_readOr 8 = .ok (.ireturn, 1) := by decide +kernel
theorem dX10_readOr_9 : decode cX10_readOr 9 = .ok (.aload_n 0, 1) := by decide +kernel
theorem dX10_readOr_10 : decode cX10_readOr 10 = .ok (.getfield 368, 3) := by decide +kernel
theorem dX10_readOr_13 : decode cX10_readOr 13 = .ok (.istore_n 1, 1) := by decide +kernel
theorem dX10_readOr_14 : decode cX10_readOr 14 = .ok (.aload_n 0, 1) := by decide +kernel
theorem dX10_readOr_15 : decode cX10_readOr 15 = .ok (.bipush 9, 2) := by decide +kernel
theorem dX10_readOr_17 : decode cX10_readOr 17 = .ok (.invokevirtual 202, 3) := by decide +kernel
theorem dX10_readOr_20 : decode cX10_readOr 20 = .ok (.ifCond .eq 31, 3) := by decide +kernel
theorem dX10_readOr_23 : decode cX10_readOr 23 = .ok (.aload_n 0, 1) := by decide +kernel
theorem dX10_readOr_24 : decode cX10_readOr 24 = .ok (.invokevirtual 161, 3) := by decide +kernel
theorem dX10_readOr_27 : decode cX10_readOr 27 = .ok (.aload_n 0, 1) := by decide +kernel
theorem dX10_readOr_28 : decode cX10_readOr 28 = .ok (.invokevirtual 365, 3) := by decide +kernel
theorem dX10_readOr_31 : decode cX10_readOr 31 = .ok (.ifCond .ne 5, 3) := by decide +kernel
theorem dX10_readOr_34 : decode cX10_readOr 34 = .ok (.iconst 0, 1) := by decide +kernel
theorem dX10_readOr_35 : decode cX10_readOr 35 = .ok (.ireturn, 1) := by decide +kernel
theorem dX10_readOr_36 : decode cX10_readOr 36 = .ok (.aload_n 0, 1) := by decide +kernel
theorem dX10_readOr_37 : decode cX10_readOr 37 = .ok (.iconst 3, 1) := by decide +kernel
theorem dX10_readOr_38 : decode cX10_readOr 38 = .ok (.iload_n 1, 1) := by decide +kernel
theorem dX10_readOr_39 : decode cX10_readOr 39 = .ok (.aload_n 0, 1) := by decide +kernel
theorem dX10_readOr_40 : decode cX10_readOr 40 = .ok (.getfield 368, 3) := by decide +kernel
theorem dX10_readOr_43 : decode cX10_readOr 43 = .ok (.iconst 0, 1) := by decide +kernel
theorem dX10_readOr_44 : decode cX10_readOr 44 = .ok (.invokevirtual 371, 3) := by decide +kernel
theorem dX10_readOr_47 : decode cX10_readOr 47 = .ok (.istore_n 1, 1) := by decide +kernel
theorem dX10_readOr_48 : decode cX10_readOr 48 = .ok (.goto (-34), 3) := by decide +kernel
theorem dX10_readOr_51 : decode cX10_readOr 51 = .ok (.aload_n 0, 1) := by decide +kernel
theorem dX10_readOr_52 : decode cX10_readOr 52 = .ok (.iload_n 1, 1) := by decide +kernel
theorem dX10_readOr_53 : decode cX10_readOr 53 = .ok (.putfield 368, 3) := by decide +kernel
theorem dX10_readOr_56 : decode cX10_readOr 56 = .ok (.iconst 1, 1) := by decide +kernel
theorem dX10_readOr_57 : decode cX10_readOr 57 = .ok (.ireturn, 1) := by decide +kernel
theorem dX10_readAnd_0 : decode cX10_readAnd 0 = .ok (.aload_n 0, 1) := by decide +kernel
theorem dX10_readAnd_1 : decode cX10_readAnd 1 = .ok (.invokevirtual 374, 3) := by decide +kernel
theorem dX10_readAnd_4 : decode cX10_readAnd 4 = .ok (.ifCond .ne 5, 3) := by decide +kernel
