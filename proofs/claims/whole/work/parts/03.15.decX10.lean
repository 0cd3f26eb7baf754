theorem dX10_face_48 : decode cX10_face 48 = .ok (.iadd, 1) := by decide +kernel
theorem dX10_face_49 : decode cX10_face 49 = .ok (.invokevirtual 256, 3) := by decide +kernel
theorem dX10_face_52 : decode cX10_face 52 = .ok (.goto 4, 3) := by decide +kernel
theorem dX10_face_55 : decode cX10_face 55 = .ok (.iconst (-1), 1) := by decide +kernel
theorem dX10_face_56 : decode cX10_face 56 = .ok (.ireturn, 1) := by decide +kernel
theorem dX10_luckOf_0 : decode cX10_luckOf 0 = .ok (.aload_n 0, 1) := by decide +kernel
theorem dX10_luckOf_1 : decode cX10_luckOf 1 = .ok (.getfield 13, 3) := by decide +kernel
theorem dX10_luckOf_4 : decode cX10_luckOf 4 = .ok (.iconst 3, 1) := by decide +kernel
theorem dX10_luckOf_5 : decode cX10_luckOf 5 = .ok (.iaload, 1) := by decide +kernel
theorem dX10_luckOf_6 : decode cX10_luckOf 6 = .ok (.istore_n 1, 1) := by decide +kernel
theorem dX10_luckOf_7 : decode cX10_luckOf 7 = .ok (.iconst 0, 1) := by decide +kernel
theorem dX10_luckOf_8 : decode cX10_luckOf 8 = .ok (.istore_n 2, 1) := by decide +kernel
theorem dX10_luckOf_9 : decode cX10_luckOf 9 = .ok (.iload_n 2, 1) := by decide +kernel
theorem dX10_luckOf_10 : decode cX10_luckOf 10 = .ok (.aload_n 0, 1) := by decide +kernel
theorem dX10_luckOf_11 : decode cX10_luckOf 11 = .ok (.invokevirtual 188, 3) := by decide +kernel
theorem dX10_luckOf_14 : decode cX10_luckOf 14 = .ok (.if_icmp .ge 25, 3) := by decide +kernel
theorem dX10_luckOf_17 : decode cX10_luckOf 17 = .ok (.aload_n 0, 1) := by decide +kernel
theorem dX10_luckOf_18 : decode cX10_luckOf 18 = .ok (.aload_n 0, 1) := by decide +kernel
theorem dX10_luckOf_19 : decode cX10_luckOf 19 = .ok (.iload_n 2, 1) := by decide +kernel
theorem dX10_luckOf_20 : decode cX10_luckOf 20 = .ok (.invokevirtual 253, 3) := by decide +kernel
theorem dX10_luckOf_23 : decode cX10_luckOf 23 = .ok (.iconst 0, 1) := by decide +kernel
theorem dX10_luckOf_24 : decode cX10_luckOf 24 = .ok (.invokevirtual 249, 3) := by decide +kernel
theorem dX10_luckOf_27 : decode cX10_luckOf 27 = .ok (.ifCond .le 6, 3) := by decide +kernel
theorem dX10_luckOf_30 : decode cX10_luckOf 30 = .ok (.iinc 1 (-1), 3) := by decide +kernel
theorem dX10_luckOf_33 : decode cX10_luckOf 33 = .ok (.iinc 2 1, 3) := by decide +kernel
theorem dX10_luckOf_36 : decode cX10_luckOf 36 = .ok (.goto (-27), 3) := by decide +kernel
theorem dX10_luckOf_39 : decode cX10_luckOf 39 = .ok (.iload_n 1, 1) := by decide +kernel
theorem dX10_luckOf_40 : decode cX10_luckOf 40 = .ok (.ifCond .le 7, 3) := by decide +kernel
theorem dX10_luckOf_43 : decode cX10_luckOf 43 = .ok (.iload_n 1, 1) := by decide +kernel
theorem dX10_luckOf_44 : decode cX10_luckOf 44 = .ok (.goto 4, 3) := by decide +kernel
theorem dX10_luckOf_47 : decode cX10_luckOf 47 = .ok (.iconst 0, 1) := by decide +kernel
theorem dX10_luckOf_48 : decode cX10_luckOf 48 = .ok (.ireturn, 1) := by decide +kernel
theorem dX10_luck_0 : decode cX10_luck 0 = .ok (.aload_n 0, 1) := by decide +kernel
theorem dX10_luck_1 : decode cX10_luck 1 = .ok (.iconst 0, 1) := by decide +kernel
theorem dX10_luck_2 : decode cX10_luck 2 = .ok (.putfield 83, 3) := by decide +kernel
theorem dX10_luck_5 : decode cX10_luck 5 = .ok (.aload_n 0, 1) := by decide +kernel
theorem dX10_luck_6 : decode cX10_luck 6 = .ok (.invokevirtual 167, 3) := by decide +kernel
theorem dX10_luck_9 : decode cX10_luck 9 = .ok (.aload_n 0, 1) := by decide +kernel
theorem dX10_luck_10 : decode cX10_luck 10 = .ok (.invokevirtual 288, 3) := by decide +kernel
theorem dX10_luck_13 : decode cX10_luck 13 = .ok (.ireturn, 1) := by decide +kernel
theorem dX10_hundredths_0 : decode cX10_hundredths 0 = .ok (.iload_n 2, 1) := by decide +kernel
theorem dX10_hundredths_1 : decode cX10_hundredths 1 = .ok (.iload_n 1, 1) := by decide +kernel
theorem dX10_hundredths_2 : decode cX10_hundredths 2 = .ok (.if_icmp .ne 6, 3) := by decide +kernel
theorem dX10_hundredths_5 : decode cX10_hundredths 5 = .ok (.bipush 100, 2) := by decide +kernel
theorem dX10_hundredths_7 : decode cX10_hundredths 7 = .ok (.ireturn, 1) := by decide +kernel
theorem dX10_hundredths_8 : decode cX10_hundredths 8 = .ok (.aload_n 0, 1) := by decide +kernel
theorem dX10_hundredths_9 : decode cX10_hundredths 9 = .ok (.iload_n 2, 1) := by decide +kernel
theorem dX10_hundredths_10 : decode cX10_hundredths 10 = .ok (.iconst 1, 1) := by decide +kernel
theorem dX10_hundredths_11 : decode cX10_hundredths 11 = .ok (.invokevirtual 249, 3) := by decide +kernel
theorem dX10_hundredths_14 : decode cX10_hundredths 14 = .ok (.ifCond .le 5, 3) := by decide +kernel
theorem dX10_hundredths_17 : decode cX10_hundredths 17 = .ok (.iconst 0, 1) := by decide +kernel
theorem dX10_hundredths_18 : decode cX10_hundredths 18 = .ok (.ireturn, 1) := by decide +kernel
theorem dX10_hundredths_19 : decode cX10_hundredths 19 = .ok (.aload_n 0, 1) := by decide +kernel
theorem dX10_hundredths_20 : decode cX10_hundredths 20 = .ok (.getfield 13, 3) := by decide +kernel
theorem dX10_hundredths_23 : decode cX10_hundredths 23 = .ok (.bipush 44, 2) := by decide +kernel
theorem dX10_hundredths_25 : decode cX10_hundredths 25 = .ok (.bipush 8, 2) := by decide +kernel
theorem dX10_hundredths_27 : decode cX10_hundredths 27 = .ok (.iload_n 1, 1) := by decide +kernel
theorem dX10_hundredths_28 : decode cX10_hundredths 28 = .ok (.imul, 1) := by decide +kernel
theorem dX10_hundredths_29 : decode cX10_hundredths 29 = .ok (.iadd, 1) := by decide +kernel
theorem dX10_hundredths_30 : decode cX10_hundredths 30 = .ok (.iload_n 2, 1) := by decide +kernel
theorem dX10_hundredths_31 : decode cX10_hundredths 31 = .ok (.iadd, 1) := by decide +kernel
theorem dX10_hundredths_32 : decode cX10_hundredths 32 = .ok (.iaload, 1) := by decide +kernel
theorem dX10_hundredths_33 : decode cX10_hundredths 33 = .ok (.istore 4, 2) := by decide +kernel
theorem dX10_hundredths_35 : decode cX10_hundredths 35 = .ok (.aload_n 0, 1) := by decide +kernel
theorem dX10_hundredths_36 : decode cX10_hundredths 36 = .ok (.iload_n 2, 1) := by decide +kernel
theorem dX10_hundredths_37 : decode cX10_hundredths 37 = .ok (.iconst 2, 1) := by decide +kernel
theorem dX10_hundredths_38 : decode cX10_hundredths 38 = .ok (.invokevirtual 249, 3) := by decide +kernel
theorem dX10_hundredths_41 : decode cX10_hundredths 41 = .ok (.ifCond .le 12, 3) := by decide +kernel
theorem dX10_hundredths_44 : decode cX10_hundredths 44 = .ok (.aload_n 0, 1) := by decide +kernel
theorem dX10_hundredths_45 : decode cX10_hundredths 45 = .ok (.getfield 13, 3) := by decide +kernel
theorem dX10_hundredths_48 : decode cX10_hundredths 48 = .ok (.iconst 4, 1) := by decide +kernel
theorem dX10_hundredths_49 : decode cX10_hundredths 49 = .ok (.iaload, 1) := by decide +kernel
theorem dX10_hundredths_50 : decode cX10_hundredths 50 = .ok (.goto 17, 3) := by decide +kernel
theorem dX10_hundredths_53 : decode cX10_hundredths 53 = .ok (.iload 4, 2) := by decide +kernel
theorem dX10_hundredths_55 : decode cX10_hundredths 55 = .ok (.ifCond .ne 8, 3) := by decide +kernel
theorem dX10_hundredths_58 : decode cX10_hundredths 58 = .ok (.bipush 100, 2) := by decide +kernel
theorem dX10_hundredths_60 : decode cX10_hundredths 60 = .ok (.goto 7, 3) := by decide +kernel
theorem dX10_hundredths_63 : decode cX10_hundredths 63 = .ok (.iload 4, 2) := by decide +kernel
theorem dX10_hundredths_65 : decode cX10_hundredths 65 = .ok (.iconst 1, 1) := by decide +kernel
theorem dX10_hundredths_66 : decode cX10_hundredths 66 = .ok (.isub, 1) := by decide +kernel
theorem dX10_hundredths_67 : decode cX10_hundredths 67 = .ok (.istore 5, 2) := by decide +kernel
theorem dX10_hundredths_69 : decode cX10_hundredths 69 = .ok (.aload_n 0, 1) := by decide +kernel
theorem dX10_hundredths_70 : decode cX10_hundredths 70 = .ok (.iload_n 2, 1) := by decide +kernel
theorem dX10_hundredths_71 : decode cX10_hundredths 71 = .ok (.iconst 0, 1) := by decide +kernel
theorem dX10_hundredths_72 : decode cX10_hundredths 72 = .ok (.invokevirtual 249, 3) := by decide +kernel
theorem dX10_hundredths_75 : decode cX10_hundredths 75 = .ok (.ifCond .le 10, 3) := by decide +kernel
theorem dX10_hundredths_78 : decode cX10_hundredths 78 = .ok (.iload 5, 2) := by decide +kernel
theorem dX10_hundredths_80 : decode cX10_hundredths 80 = .ok (.iload_n 3, 1) := by decide +kernel
theorem dX10_hundredths_81 : decode cX10_hundredths 81 = .ok (.iadd, 1) := by decide +kernel
theorem dX10_hundredths_82 : decode cX10_hundredths 82 = .ok (.goto 5, 3) := by decide +kernel
theorem dX10_hundredths_85 : decode cX10_hundredths 85 = .ok (.iload 5, 2) := by decide +kernel
theorem dX10_hundredths_87 : decode cX10_hundredths 87 = .ok (.ireturn, 1) := by decide +kernel
theorem dX10_valueOf_0 : decode cX10_valueOf 0 = .ok (.aload_n 0, 1) := by decide +kernel
theorem dX10_valueOf_1 : decode cX10_valueOf 1 = .ok (.iload_n 2, 1) := by decide +kernel
theorem dX10_valueOf_2 : decode cX10_valueOf 2 = .ok (.iconst 0, 1) := by decide +kernel
theorem dX10_valueOf_3 : decode cX10_valueOf 3 = .ok (.invokevirtual 256, 3) := by decide +kernel
theorem dX10_valueOf_6 : decode cX10_valueOf 6 = .ok (.aload_n 0, 1) := by decide +kernel
theorem dX10_valueOf_7 : decode cX10_valueOf 7 = .ok (.iload_n 1, 1) := by decide +kernel
theorem dX10_valueOf_8 : decode cX10_valueOf 8 = .ok (.aload_n 0, 1) := by decide +kernel
theorem dX10_valueOf_9 : decode cX10_valueOf 9 = .ok (.iload_n 2, 1) := by decide +kernel
theorem dX10_valueOf_10 : decode cX10_valueOf 10 = .ok (.invokevirtual 253, 3) := by decide +kernel
theorem dX10_valueOf_13 : decode cX10_valueOf 13 = .ok (.aload_n 0, 1) := by decide +kernel
theorem dX10_valueOf_14 : decode cX10_valueOf 14 = .ok (.invokevirtual 288, 3) := by decide +kernel
theorem dX10_valueOf_17 : decode cX10_valueOf 17 = .ok (.invokevirtual 291, 3) := by decide +kernel
theorem dX10_valueOf_20 : decode cX10_valueOf 20 = .ok (.imul, 1) := by decide +kernel
theorem dX10_valueOf_21 : decode cX10_valueOf 21 = .ok (.bipush 100, 2) := by decide +kernel
theorem dX10_valueOf_23 : decode cX10_valueOf 23 = .ok (.idiv, 1) := by decide +kernel
theorem dX10_valueOf_24 : decode cX10_valueOf 24 = .ok (.ireturn, 1) := by decide +kernel
theorem dX10_value_0 : decode cX10_value 0 = .ok (.aload_n 0, 1) := by decide +kernel
theorem dX10_value_1 : decode cX10_value 1 = .ok (.iconst 0, 1) := by decide +kernel
theorem dX10_value_2 : decode cX10_value 2 = .ok (.putfield 83, 3) := by decide +kernel
theorem dX10_value_5 : decode cX10_value 5 = .ok (.aload_n 0, 1) := by decide +kernel
theorem dX10_value_6 : decode cX10_value 6 = .ok (.invokevirtual 167, 3) := by decide +kernel
theorem dX10_value_9 : decode cX10_value 9 = .ok (.aload_n 0, 1) := by decide +kernel
theorem dX10_value_10 : decode cX10_value 10 = .ok (.iload_n 1, 1) := by decide +kernel
theorem dX10_value_11 : decode cX10_value 11 = .ok (.invokevirtual 243, 3) := by decide +kernel
theorem dX10_value_14 : decode cX10_value 14 = .ok (.ifCond .eq 20, 3) := by decide +kernel
theorem dX10_value_17 : decode cX10_value 17 = .ok (.aload_n 0, 1) := by decide +kernel
theorem dX10_value_18 : decode cX10_value 18 = .ok (.iload_n 2, 1) := by decide +kernel
theorem dX10_value_19 : decode cX10_value 19 = .ok (.invokevirtual 282, 3) := by decide +kernel
theorem dX10_value_22 : decode cX10_value 22 = .ok (.ifCond .eq 12, 3) := by decide +kernel
theorem dX10_value_25 : decode cX10_value 25 = .ok (.iload_n 3, 1) := by decide +kernel
theorem dX10_value_26 : decode cX10_value 26 = .ok (.iconst 0, 1) := by decide +kernel
theorem dX10_value_27 : decode cX10_value 27 = .ok (.iconst 1, 1) := by decide +kernel
theorem dX10_value_28 : decode cX10_value 28 = .ok (.invokestatic 154, 3) := by decide +kernel
theorem dX10_value_31 : decode cX10_value 31 = .ok (.ifCond .ne 5, 3) := by decide +kernel
theorem dX10_value_34 : decode cX10_value 34 = .ok (.iconst (-1), 1) := by decide +kernel
theorem dX10_value_35 : decode cX10_value 35 = .ok (.ireturn, 1) := by decide +kernel
theorem dX10_value_36 : decode cX10_value 36 = .ok (.iload_n 3, 1) := by decide +kernel
theorem dX10_value_37 : decode cX10_value 37 = .ok (.ifCond .ne 20, 3) := by decide +kernel
theorem dX10_value_40 : decode cX10_value 40 = .ok (.aload_n 0, 1) := by decide +kernel
theorem dX10_value_41 : decode cX10_value 41 = .ok (.iload_n 1, 1) := by decide +kernel
theorem dX10_value_42 : decode cX10_value 42 = .ok (.aload_n 0, 1) := by decide +kernel
theorem dX10_value_43 : decode cX10_value 43 = .ok (.iload_n 2, 1) := by decide +kernel
theorem dX10_value_44 : decode cX10_value 44 = .ok (.invokevirtual 253, 3) := by decide +kernel
theorem dX10_value_47 : decode cX10_value 47 = .ok (.aload_n 0, 1) := by decide +kernel
theorem dX10_value_48 : decode cX10_value 48 = .ok (.invokevirtual 288, 3) := by decide +kernel
theorem dX10_value_51 : decode cX10_value 51 = .ok (.invokevirtual 291, 3) := by decide +kernel
theorem dX10_value_54 : decode cX10_value 54 = .ok (.goto 9, 3) := by decide +kernel
theorem dX10_value_57 : decode cX10_value 57 = .ok (.aload_n 0, 1) := by decide +kernel
theorem dX10_value_58 : decode cX10_value 58 = .ok (.iload_n 1, 1) := by decide +kernel
theorem dX10_value_59 : decode cX10_value 59 = .ok (.iload_n 2, 1) := by decide +kernel
theorem dX10_value_60 : decode cX10_value 60 = .ok (.invokevirtual 294, 3) := by decide +kernel
theorem dX10_value_63 : decode cX10_value 63 = .ok (.ireturn, 1) := by decide +kernel
theorem dX10_bears_0 : decode cX10_bears 0 = .ok (.aload_n 0, 1) := by decide +kernel
theorem dX10_bears_1 : decode cX10_bears 1 = .ok (.iconst 0, 1) := by decide +kernel
theorem dX10_bears_2 : decode cX10_bears 2 = .ok (.putfield 83, 3) := by decide +kernel
theorem dX10_bears_5 : decode cX10_bears 5 = .ok (.aload_n 0, 1) := by decide +kernel
theorem dX10_bears_6 : decode cX10_bears 6 = .ok (.invokevirtual 167, 3) := by decide +kernel
theorem dX10_bears_9 : decode cX10_bears 9 = .ok (.aload_n 0, 1) := by decide +kernel
theorem dX10_bears_10 : decode cX10_bears 10 = .ok (.iload_n 1, 1) := by decide +kernel
theorem dX10_bears_11 : decode cX10_bears 11 = .ok (.invokevirtual 282, 3) := by decide +kernel
theorem dX10_bears_14 : decode cX10_bears 14 = .ok (.ifCond .eq 11, 3) := by decide +kernel
theorem dX10_bears_17 : decode cX10_bears 17 = .ok (.aload_n 0, 1) := by decide +kernel
theorem dX10_bears_18 : decode cX10_bears 18 = .ok (.iload_n 2, 1) := by decide +kernel
theorem dX10_bears_19 : decode cX10_bears 19 = .ok (.invokevirtual 259, 3) := by decide +kernel
theorem dX10_bears_22 : decode cX10_bears 22 = .ok (.ifCond .ne 5, 3) := by decide +kernel
theorem dX10_bears_25 : decode cX10_bears 25 = .ok (.iconst (-1), 1) := by decide +kernel
theorem dX10_bears_26 : decode cX10_bears 26 = .ok (.ireturn, 1) := by decide +kernel
theorem dX10_bears_27 : decode cX10_bears 27 = .ok (.iconst 0, 1) := by decide +kernel
theorem dX10_bears_28 : decode cX10_bears 28 = .ok (.istore_n 3, 1) := by decide +kernel
theorem dX10_bears_29 : decode cX10_bears 29 = .ok (.aload_n 0, 1) := by decide +kernel
theorem dX10_bears_30 : decode cX10_bears 30 = .ok (.aload_n 0, 1) := by decide +kernel
theorem dX10_bears_31 : decode cX10_bears 31 = .ok (.iload_n 1, 1) := by decide +kernel
theorem dX10_bears_32 : decode cX10_bears 32 = .ok (.iconst 0, 1) := by decide +kernel
theorem dX10_bears_33 : decode cX10_bears 33 = .ok (.invokevirtual 256, 3) := by decide +kernel
theorem dX10_bears_36 : decode cX10_bears 36 = .ok (.iload_n 3, 1) := by decide +kernel
theorem dX10_bears_37 : decode cX10_bears 37 = .ok (.aload_n 0, 1) := by decide +kernel
theorem dX10_bears_38 : decode cX10_bears 38 = .ok (.iload_n 2, 1) := by decide +kernel
theorem dX10_bears_39 : decode cX10_bears 39 = .ok (.iconst 0, 1) := by decide +kernel
theorem dX10_bears_40 : decode cX10_bears 40 = .ok (.invokevirtual 262, 3) := by decide +kernel
theorem dX10_bears_43 : decode cX10_bears 43 = .ok (.imul, 1) := by decide +kernel
theorem dX10_bears_44 : decode cX10_bears 44 = .ok (.isub, 1) := by decide +kernel
theorem dX10_bears_45 : decode cX10_bears 45 = .ok (.aload_n 0, 1) := by decide +kernel
theorem dX10_bears_46 : decode cX10_bears 46 = .ok (.iload_n 1, 1) := by decide +kernel
theorem dX10_bears_47 : decode cX10_bears 47 = .ok (.iconst 2, 1) := by decide +kernel
theorem dX10_bears_48 : decode cX10_bears 48 = .ok (.invokevirtual 256, 3) := by decide +kernel
theorem dX10_bears_51 : decode cX10_bears 51 = .ok (.iload_n 3, 1) := by decide +kernel
theorem dX10_bears_52 : decode cX10_bears 52 = .ok (.iadd, 1) := by decide +kernel
theorem dX10_bears_53 : decode cX10_bears 53 = .ok (.iload_n 2, 1) := by decide +kernel
theorem dX10_bears_54 : decode cX10_bears 54 = .ok (.invokevirtual 265, 3) := by decide +kernel
theorem dX10_bears_57 : decode cX10_bears 57 = .ok (.ifCond .ne 9, 3) := by decide +kernel
theorem dX10_bears_60 : decode cX10_bears 60 = .ok (.iinc 3 1, 3) := by decide +kernel
theorem dX10_bears_63 : decode cX10_bears 63 = .ok (.goto (-34), 3) := by decide +kernel
theorem dX10_bears_66 : decode cX10_bears 66 = .ok (.iload_n 3, 1) := by decide +kernel
theorem dX10_bears_67 : decode cX10_bears 67 = .ok (.ireturn, 1) := by decide +kernel
theorem dX10_keepSale_0 : decode cX10_keepSale 0 = .ok (.sipush 4400, 3) := by decide +kernel
theorem dX10_keepSale_3 : decode cX10_keepSale 3 = .ok (.bipush 7, 2) := by decide +kernel
theorem dX10_keepSale_5 : decode cX10_keepSale 5 = .ok (.aload_n 0, 1) := by decide +kernel
theorem dX10_keepSale_6 : decode cX10_keepSale 6 = .ok (.getfield 13, 3) := by decide +kernel
theorem dX10_keepSale_9 : decode cX10_keepSale 9 = .ok (.bipush 113, 2) := by decide +kernel
theorem dX10_keepSale_11 : decode cX10_keepSale 11 = .ok (.iaload, 1) := by decide +kernel
theorem dX10_keepSale_12 : decode cX10_keepSale 12 = .ok (.imul, 1) := by decide +kernel
theorem dX10_keepSale_13 : decode cX10_keepSale 13 = .ok (.iadd, 1) := by decide +kernel
theorem dX10_keepSale_14 : decode cX10_keepSale 14 = .ok (.istore 7, 2) := by decide +kernel
theorem dX10_keepSale_16 : decode cX10_keepSale 16 = .ok (.aload_n 0, 1) := by decide +kernel
theorem dX10_keepSale_17 : decode cX10_keepSale 17 = .ok (.getfield 13, 3) := by decide +kernel
theorem dX10_keepSale_20 : decode cX10_keepSale 20 = .ok (.iload 7, 2) := by decide +kernel
theorem dX10_keepSale_22 : decode cX10_keepSale 22 = .ok (.iload_n 1, 1) := by decide +kernel
theorem dX10_keepSale_23 : decode cX10_keepSale 23 = .ok (.iastore, 1) := by decide +kernel
theorem dX10_keepSale_24 : decode cX10_keepSale 24 = .ok (.aload_n 0, 1) := by decide +kernel
theorem dX10_keepSale_25 : decode cX10_keepSale 25 = .ok (.getfield 13, 3) := by decide +kernel
theorem dX10_keepSale_28 : decode cX10_keepSale 28 = .ok (.iload 7, 2) := by decide +kernel
theorem dX10_keepSale_30 : decode cX10_keepSale 30 = .ok (.iconst 1, 1) := by decide +kernel
theorem dX10_keepSale_31 : decode cX10_keepSale 31 = .ok (.iadd, 1) := by decide +kernel
theorem dX10_keepSale_32 : decode cX10_keepSale 32 = .ok (.iload_n 2, 1) := by decide +kernel
theorem dX10_keepSale_33 : decode cX10_keepSale 33 = .ok (.iastore, 1) := by decide +kernel
theorem dX10_keepSale_34 : decode cX10_keepSale 34 = .ok (.aload_n 0, 1) := by decide +kernel
theorem dX10_keepSale_35 : decode cX10_keepSale 35 = .ok (.getfield 13, 3) := by decide +kernel
theorem dX10_keepSale_38 : decode cX10_keepSale 38 = .ok (.iload 7, 2) := by decide +kernel
theorem dX10_keepSale_40 : decode cX10_keepSale 40 = .ok (.iconst 2, 1) := by decide +kernel
theorem dX10_keepSale_41 : decode cX10_keepSale 41 = .ok (.iadd, 1) := by decide +kernel
theorem dX10_keepSale_42 : decode cX10_keepSale 42 = .ok (.iload_n 3, 1) := by decide +kernel
theorem dX10_keepSale_43 : decode cX10_keepSale 43 = .ok (.iastore, 1) := by decide +kernel
theorem dX10_keepSale_44 : decode cX10_keepSale 44 = .ok (.aload_n 0, 1) := by decide +kernel
theorem dX10_keepSale_45 : decode cX10_keepSale 45 = .ok (.getfield 13, 3) := by decide +kernel
theorem dX10_keepSale_48 : decode cX10_keepSale 48 = .ok (.iload 7, 2) := by decide +kernel
theorem dX10_keepSale_50 : decode cX10_keepSale 50 = .ok (.iconst 3, 1) := by decide +kernel
theorem dX10_keepSale_51 : decode cX10_keepSale 51 = .ok (.iadd, 1) := by decide +kernel
theorem dX10_keepSale_52 : decode cX10_keepSale 52 = .ok (.iload 4, 2) := by decide +kernel
theorem dX10_keepSale_54 : decode cX10_keepSale 54 = .ok (.iastore, 1) := by decide +kernel
theorem dX10_keepSale_55 : decode cX10_keepSale 55 = .ok (.aload_n 0, 1) := by decide +kernel
theorem dX10_keepSale_56 : decode cX10_keepSale 56 = .ok (.getfield 13, 3) := by decide +kernel
theorem dX10_keepSale_59 : decode cX10_keepSale 59 = .ok (.iload 7, 2) := by decide +kernel
theorem dX10_keepSale_61 : decode cX10_keepSale 61 = .ok (.iconst 4, 1) := by decide +kernel
theorem dX10_keepSale_62 : decode cX10_keepSale 62 = .ok (.iadd, 1) := by decide +kernel
theorem dX10_keepSale_63 : decode cX10_keepSale 63 = .ok (.aload_n 0, 1) := by decide +kernel
theorem dX10_keepSale_64 : decode cX10_keepSale 64 = .ok (.getfield 13, 3) := by decide +kernel
theorem dX10_keepSale_67 : decode cX10_keepSale 67 = .ok (.bipush 109, 2) := by decide +kernel
theorem dX10_keepSale_69 : decode cX10_keepSale 69 = .ok (.iaload, 1) := by decide +kernel
theorem dX10_keepSale_70 : decode cX10_keepSale 70 = .ok (.iastore, 1) := by decide +kernel
theorem dX10_keepSale_71 : decode cX10_keepSale 71 = .ok (.aload_n 0, 1) := by decide +kernel
theorem dX10_keepSale_72 : decode cX10_keepSale 72 = .ok (.getfield 13, 3) := by decide +kernel
theorem dX10_keepSale_75 : decode cX10_keepSale 75 = .ok (.iload 7, 2) := by decide +kernel
theorem dX10_keepSale_77 : decode cX10_keepSale 77 = .ok (.iconst 5, 1) := by decide +kernel
theorem dX10_keepSale_78 : decode cX10_keepSale 78 = .ok (.iadd, 1) := by decide +kernel
theorem dX10_keepSale_79 : decode cX10_keepSale 79 = .ok (.iload 5, 2) := by decide +kernel
theorem dX10_keepSale_81 : decode cX10_keepSale 81 = .ok (.iastore, 1) := by decide +kernel
theorem dX10_keepSale_82 : decode cX10_keepSale 82 = .ok (.aload_n 0, 1) := by decide +kernel
theorem dX10_keepSale_83 : decode cX10_keepSale 83 = .ok (.getfield 13, 3) := by decide +kernel
theorem dX10_keepSale_86 : decode cX10_keepSale 86 = .ok (.iload 7, 2) := by decide +kernel
theorem dX10_keepSale_88 : decode cX10_keepSale 88 = .ok (.bipush 6, 2) := by decide +kernel
theorem dX10_keepSale_90 : decode cX10_keepSale 90 = .ok (.iadd, 1) := by decide +kernel
theorem dX10_keepSale_91 : decode cX10_keepSale 91 = .ok (.iload 6, 2) := by decide +kernel
theorem dX10_keepSale_93 : decode cX10_keepSale 93 = .ok (.iastore, 1) := by decide +kernel
theorem dX10_keepSale_94 : decode cX10_keepSale 94 = .ok (.aload_n 0, 1) := by decide +kernel
theorem dX10_keepSale_95 : decode cX10_keepSale 95 = .ok (.getfield 13, 3) := by decide +kernel
theorem dX10_keepSale_98 : decode cX10_keepSale 98 = .ok (.bipush 113, 2) := by decide +kernel
theorem dX10_keepSale_100 : decode cX10_keepSale 100 = .ok (.dup2, 1) := by decide +kernel
theorem dX10_keepSale_101 : decode cX10_keepSale 101 = .ok (.iaload, 1) := by decide +kernel
theorem dX10_keepSale_102 : decode cX10_keepSale 102 = .ok (.iconst 1, 1) := by decide +kernel
theorem dX10_keepSale_103 : decode cX10_keepSale 103 = .ok (.iadd, 1) := by decide +kernel
theorem dX10_keepSale_104 : decode cX10_keepSale 104 = .ok (.iastore, 1) := by decide +kernel
theorem dX10_keepSale_105 : decode cX10_keepSale 105 = .ok (.return_, 1) := by decide +kernel
theorem dX10_areUnfit_0 : decode cX10_areUnfit 0 = .ok (.iload_n 1, 1) := by decide +kernel
theorem dX10_areUnfit_1 : decode cX10_areUnfit 1 = .ok (.iload_n 2, 1) := by decide +kernel
theorem dX10_areUnfit_2 : decode cX10_areUnfit 2 = .ok (.if_icmp .eq 21, 3) := by decide +kernel
theorem dX10_areUnfit_5 : decode cX10_areUnfit 5 = .ok (.aload_n 0, 1) := by decide +kernel
theorem dX10_areUnfit_6 : decode cX10_areUnfit 6 = .ok (.iload_n 1, 1) := by decide +kernel
theorem dX10_areUnfit_7 : decode cX10_areUnfit 7 = .ok (.iconst 2, 1) := by decide +kernel
theorem dX10_areUnfit_8 : decode cX10_areUnfit 8 = .ok (.invokevirtual 249, 3) := by decide +kernel
theorem dX10_areUnfit_11 : decode cX10_areUnfit 11 = .ok (.ifCond .gt 12, 3) := by decide +kernel
theorem dX10_areUnfit_14 : decode cX10_areUnfit 14 = .ok (.aload_n 0, 1) := by decide +kernel
theorem dX10_areUnfit_15 : decode cX10_areUnfit 15 = .ok (.iload_n 2, 1) := by decide +kernel
theorem dX10_areUnfit_16 : decode cX10_areUnfit 16 = .ok (.iconst 2, 1) := by decide +kernel
theorem dX10_areUnfit_17 : decode cX10_areUnfit 17 = .ok (.invokevirtual 249, 3) := by decide +kernel
theorem dX10_areUnfit_20 : decode cX10_areUnfit 20 = .ok (.ifCond .le 7, 3) := by decide +kernel
theorem dX10_areUnfit_23 : decode cX10_areUnfit 23 = .ok (.iconst 1, 1) := by decide +kernel
theorem dX10_areUnfit_24 : decode cX10_areUnfit 24 = .ok (.goto 4, 3) := by decide +kernel
theorem dX10_areUnfit_27 : decode cX10_areUnfit 27 = .ok (.iconst 0, 1) := by decide +kernel
theorem dX10_areUnfit_28 : decode cX10_areUnfit 28 = .ok (.ireturn, 1) := by decide +kernel
theorem dX10_sale_0 : decode cX10_sale 0 = .ok (.aload_n 0, 1) := by decide +kernel
theorem dX10_sale_1 : decode cX10_sale 1 = .ok (.iconst 0, 1) := by decide +kernel
theorem dX10_sale_2 : decode cX10_sale 2 = .ok (.putfield 83, 3) := by decide +kernel
theorem dX10_sale_5 : decode cX10_sale 5 = .ok (.aload_n 0, 1) := by decide +kernel
theorem dX10_sale_6 : decode cX10_sale 6 = .ok (.invokevirtual 167, 3) := by decide +kernel
theorem dX10_sale_9 : decode cX10_sale 9 = .ok (.aload_n 0, 1) := by decide +kernel
theorem dX10_sale_10 : decode cX10_sale 10 = .ok (.invokevirtual 170, 3) := by decide +kernel
theorem dX10_sale_13 : decode cX10_sale 13 = .ok (.istore 5, 2) := by decide +kernel
theorem dX10_sale_15 : decode cX10_sale 15 = .ok (.aload_n 0, 1) := by decide +kernel
theorem dX10_sale_16 : decode cX10_sale 16 = .ok (.iload_n 1, 1) := by decide +kernel
theorem dX10_sale_17 : decode cX10_sale 17 = .ok (.invokevirtual 243, 3) := by decide +kernel
theorem dX10_sale_20 : decode cX10_sale 20 = .ok (.ifCond .eq 52, 3) := by decide +kernel
theorem dX10_sale_23 : decode cX10_sale 23 = .ok (.aload_n 0, 1) := by decide +kernel
theorem dX10_sale_24 : decode cX10_sale 24 = .ok (.iload_n 2, 1) := by decide +kernel
theorem dX10_sale_25 : decode cX10_sale 25 = .ok (.invokevirtual 243, 3) := by decide +kernel
theorem dX10_sale_28 : decode cX10_sale 28 = .ok (.ifCond .eq 44, 3) := by decide +kernel
theorem dX10_sale_31 : decode cX10_sale 31 = .ok (.aload_n 0, 1) := by decide +kernel
theorem dX10_sale_32 : decode cX10_sale 32 = .ok (.iload_n 3, 1) := by decide +kernel
theorem dX10_sale_33 : decode cX10_sale 33 = .ok (.invokevirtual 259, 3) := by decide +kernel
theorem dX10_sale_36 : decode cX10_sale 36 = .ok (.ifCond .eq 36, 3) := by decide +kernel
theorem dX10_sale_39 : decode cX10_sale 39 = .ok (.iload 4, 2) := by decide +kernel
theorem dX10_sale_41 : decode cX10_sale 41 = .ok (.iconst 1, 1) := by decide +kernel
theorem dX10_sale_42 : decode cX10_sale 42 = .ok (.sipush 9999, 3) := by decide +kernel
theorem dX10_sale_45 : decode cX10_sale 45 = .ok (.invokestatic 154, 3) := by decide +kernel
theorem dX10_sale_48 : decode cX10_sale 48 = .ok (.ifCond .eq 24, 3) := by decide +kernel
theorem dX10_sale_51 : decode cX10_sale 51 = .ok (.iload 5, 2) := by decide +kernel
theorem dX10_sale_53 : decode cX10_sale 53 = .ok (.ifCond .eq 19, 3) := by decide +kernel
theorem dX10_sale_56 : decode cX10_sale 56 = .ok (.iload 5, 2) := by decide +kernel
theorem dX10_sale_58 : decode cX10_sale 58 = .ok (.bipush 40, 2) := by decide +kernel
theorem dX10_sale_60 : decode cX10_sale 60 = .ok (.if_icmp .gt 12, 3) := by decide +kernel
theorem dX10_sale_63 : decode cX10_sale 63 = .ok (.aload_n 0, 1) := by decide +kernel
theorem dX10_sale_64 : decode cX10_sale 64 = .ok (.iload 5, 2) := by decide +kernel
theorem dX10_sale_66 : decode cX10_sale 66 = .ok (.invokevirtual 269, 3) := by decide +kernel
theorem dX10_sale_69 : decode cX10_sale 69 = .ok (.ifCond .eq 5, 3) := by decide +kernel
theorem dX10_sale_72 : decode cX10_sale 72 = .ok (.iconst (-1), 1) := by decide +kernel
theorem dX10_sale_73 : decode cX10_sale 73 = .ok (.ireturn, 1) := by decide +kernel
theorem dX10_sale_74 : decode cX10_sale 74 = .ok (.lconst 0, 1) := by decide +kernel
theorem dX10_sale_75 : decode cX10_sale 75 = .ok (.lstore 6, 2) := by decide +kernel
theorem dX10_sale_77 : decode cX10_sale 77 = .ok (.iconst 0, 1) := by decide +kernel
theorem dX10_sale_78 : decode cX10_sale 78 = .ok (.istore 8, 2) := by decide +kernel
theorem dX10_sale_80 : decode cX10_sale 80 = .ok (.iload 8, 2) := by decide +kernel
theorem dX10_sale_82 : decode cX10_sale 82 = .ok (.iload 5, 2) := by decide +kernel
theorem dX10_sale_84 : decode cX10_sale 84 = .ok (.if_icmp .ge 70, 3) := by decide +kernel
theorem dX10_sale_87 : decode cX10_sale 87 = .ok (.aload_n 0, 1) := by decide +kernel
theorem dX10_sale_88 : decode cX10_sale 88 = .ok (.getfield 40, 3) := by decide +kernel
theorem dX10_sale_91 : decode cX10_sale 91 = .ok (.iload 8, 2) := by decide +kernel
theorem dX10_sale_93 : decode cX10_sale 93 = .ok (.aload_n 0, 1) := by decide +kernel
theorem dX10_sale_94 : decode cX10_sale 94 = .ok (.getfield 7, 3) := by decide +kernel
theorem dX10_sale_97 : decode cX10_sale 97 = .ok (.iload 8, 2) := by decide +kernel
theorem dX10_sale_99 : decode cX10_sale 99 = .ok (.iaload, 1) := by decide +kernel
theorem dX10_sale_100 : decode cX10_sale 100 = .ok (.iastore, 1) := by decide +kernel
theorem dX10_sale_101 : decode cX10_sale 101 = .ok (.aload_n 0, 1) := by decide +kernel
theorem dX10_sale_102 : decode cX10_sale 102 = .ok (.aload_n 0, 1) := by decide +kernel
theorem dX10_sale_103 : decode cX10_sale 103 = .ok (.getfield 40, 3) := by decide +kernel
theorem dX10_sale_106 : decode cX10_sale 106 = .ok (.iload 8, 2) := by decide +kernel
theorem dX10_sale_108 : decode cX10_sale 108 = .ok (.iaload, 1) := by decide +kernel
theorem dX10_sale_109 : decode cX10_sale 109 = .ok (.invokevirtual 282, 3) := by decide +kernel
theorem dX10_sale_112 : decode cX10_sale 112 = .ok (.ifCond .eq 20, 3) := by decide +kernel
theorem dX10_sale_115 : decode cX10_sale 115 = .ok (.lload 6, 2) := by decide +kernel
theorem dX10_sale_117 : decode cX10_sale 117 = .ok (.aload_n 0, 1) := by decide +kernel
theorem dX10_sale_118 : decode cX10_sale 118 = .ok (.getfield 40, 3) := by decide +kernel
theorem dX10_sale_121 : decode cX10_sale 121 = .ok (.iload 8, 2) := by decide +kernel
theorem dX10_sale_123 : decode cX10_sale 123 = .ok (.iaload, 1) := by decide +kernel
theorem dX10_sale_124 : decode cX10_sale 124 = .ok (.lshr, 1) := by decide +kernel
theorem dX10_sale_125 : decode cX10_sale 125 = .ok (.lconst 1, 1) := by decide +kernel
theorem dX10_sale_126 : decode cX10_sale 126 = .ok (.land, 1) := by decide +kernel
theorem dX10_sale_127 : decode cX10_sale 127 = .ok (.lconst 1, 1) := by decide +kernel
theorem dX10_sale_128 : decode cX10_sale 128 = .ok (.lcmp, 1) := by decide +kernel
theorem dX10_sale_129 : decode cX10_sale 129 = .ok (.ifCond .ne 5, 3) := by decide +kernel
theorem dX10_sale_132 : decode cX10_sale 132 = .ok (.iconst (-1), 1) := by decide +kernel
theorem dX10_sale_133 : decode cX10_sale 133 = .ok (.ireturn, 1) := by decide +kernel
theorem dX10_sale_134 : decode cX10_sale 134 = .ok (.lload 6, 2) := by decide +kernel
theorem dX10_sale_136 : decode cX10_sale 136 = .ok (.lconst 1, 1) := by decide +kernel
theorem dX10_sale_137 : decode cX10_sale 137 = .ok (.aload_n 0, 1) := by decide +kernel
theorem dX10_sale_138 : decode cX10_sale 138 = .ok (.getfield 40, 3) := by decide +kernel
theorem dX10_sale_141 : decode cX10_sale 141 = .ok (.iload 8, 2) := by decide +kernel
theorem dX10_sale_143 : decode cX10_sale 143 = .ok (.iaload, 1) := by decide +kernel
theorem dX10_sale_144 : decode cX10_sale 144 = .ok (.lshl, 1) := by decide +kernel
theorem dX10_sale_145 : decode cX10_sale 145 = .ok (.lor, 1) := by decide +kernel
theorem dX10_sale_146 : decode cX10_sale 146 = .ok (.lstore 6, 2) := by decide +kernel
theorem dX10_sale_148 : decode cX10_sale 148 = .ok (.iinc 8 1, 3) := by decide +kernel
theorem dX10_sale_151 : decode cX10_sale 151 = .ok (.goto (-71), 3) := by decide +kernel
theorem dX10_sale_154 : decode cX10_sale 154 = .ok (.aload_n 0, 1) := by decide +kernel
theorem dX10_sale_155 : decode cX10_sale 155 = .ok (.iload_n 1, 1) := by decide +kernel
theorem dX10_sale_156 : decode cX10_sale 156 = .ok (.iload_n 2, 1) := by decide +kernel
theorem dX10_sale_157 : decode cX10_sale 157 = .ok (.invokevirtual 297, 3) := by decide +kernel
theorem dX10_sale_160 : decode cX10_sale 160 = .ok (.ifCond .eq 5, 3) := by decide +kernel
theorem dX10_sale_163 : decode cX10_sale 163 = .ok (.iconst 1, 1) := by decide +kernel
theorem dX10_sale_164 : decode cX10_sale 164 = .ok (.ireturn, 1) := by decide +kernel
theorem dX10_sale_165 : decode cX10_sale 165 = .ok (.bipush 8, 2) := by decide +kernel
theorem dX10_sale_167 : decode cX10_sale 167 = .ok (.istore 8, 2) := by decide +kernel
theorem dX10_sale_169 : decode cX10_sale 169 = .ok (.iconst 0, 1) := by decide +kernel
theorem dX10_sale_170 : decode cX10_sale 170 = .ok (.istore 9, 2) := by decide +kernel
theorem dX10_sale_172 : decode cX10_sale 172 = .ok (.iconst 0, 1) := by decide +kernel
theorem dX10_sale_173 : decode cX10_sale 173 = .ok (.istore 10, 2) := by decide +kernel
theorem dX10_sale_175 : decode cX10_sale 175 = .ok (.iload 10, 2) := by decide +kernel
theorem dX10_sale_177 : decode cX10_sale 177 = .ok (.iload 5, 2) := by decide +kernel
theorem dX10_sale_179 : decode cX10_sale 179 = .ok (.if_icmp .ge 89, 3) := by decide +kernel
theorem dX10_sale_182 : decode cX10_sale 182 = .ok (.aload_n 0, 1) := by decide +kernel
theorem dX10_sale_183 : decode cX10_sale 183 = .ok (.iload_n 2, 1) := by decide +kernel
theorem dX10_sale_184 : decode cX10_sale 184 = .ok (.aload_n 0, 1) := by decide +kernel
theorem dX10_sale_185 : decode cX10_sale 185 = .ok (.getfield 40, 3) := by decide +kernel
theorem dX10_sale_188 : decode cX10_sale 188 = .ok (.iload 10, 2) := by decide +kernel
theorem dX10_sale_190 : decode cX10_sale 190 = .ok (.iaload, 1) := by decide +kernel
theorem dX10_sale_191 : decode cX10_sale 191 = .ok (.invokevirtual 294, 3) := by decide +kernel
theorem dX10_sale_194 : decode cX10_sale 194 = .ok (.istore 11, 2) := by decide +kernel
theorem dX10_sale_196 : decode cX10_sale 196 = .ok (.iload 9, 2) := by decide +kernel
theorem dX10_sale_198 : decode cX10_sale 198 = .ok (.iload 11, 2) := by decide +kernel
theorem dX10_sale_200 : decode cX10_sale 200 = .ok (.iadd, 1) := by decide +kernel
theorem dX10_sale_201 : decode cX10_sale 201 = .ok (.istore 9, 2) := by decide +kernel
theorem dX10_sale_203 : decode cX10_sale 203 = .ok (.aload_n 0, 1) := by decide +kernel
theorem dX10_sale_204 : decode cX10_sale 204 = .ok (.aload_n 0, 1) := by decide +kernel
theorem dX10_sale_205 : decode cX10_sale 205 = .ok (.getfield 40, 3) := by decide +kernel
theorem dX10_sale_208 : decode cX10_sale 208 = .ok (.iload 10, 2) := by decide +kernel
theorem dX10_sale_210 : decode cX10_sale 210 = .ok (.iaload, 1) := by decide +kernel
theorem dX10_sale_211 : decode cX10_sale 211 = .ok (.iconst 1, 1) := by decide +kernel
theorem dX10_sale_212 : decode cX10_sale 212 = .ok (.invokevirtual 256, 3) := by decide +kernel
theorem dX10_sale_215 : decode cX10_sale 215 = .ok (.iload_n 1, 1) := by decide +kernel
theorem dX10_sale_216 : decode cX10_sale 216 = .ok (.if_icmp .eq 7, 3) := by decide +kernel
theorem dX10_sale_219 : decode cX10_sale 219 = .ok (.iconst 2, 1) := by decide +kernel
theorem dX10_sale_220 : decode cX10_sale 220 = .ok (.goto 24, 3) := by decide +kernel
theorem dX10_sale_223 : decode cX10_sale 223 = .ok (.iload 11, 2) := by decide +kernel
theorem dX10_sale_225 : decode cX10_sale 225 = .ok (.ifCond .ne 7, 3) := by decide +kernel
theorem dX10_sale_228 : decode cX10_sale 228 = .ok (.iconst 3, 1) := by decide +kernel
theorem dX10_sale_229 : decode cX10_sale 229 = .ok (.goto 15, 3) := by decide +kernel
theorem dX10_sale_232 : decode cX10_sale 232 = .ok (.aload_n 0, 1) := by decide +kernel
theorem dX10_sale_233 : decode cX10_sale 233 = .ok (.aload_n 0, 1) := by decide +kernel
theorem dX10_sale_234 : decode cX10_sale 234 = .ok (.getfield 40, 3) := by decide +kernel
theorem dX10_sale_237 : decode cX10_sale 237 = .ok (.iload 10, 2) := by decide +kernel
theorem dX10_sale_239 : decode cX10_sale 239 = .ok (.iaload, 1) := by decide +kernel
theorem dX10_sale_240 : decode cX10_sale 240 = .ok (.iload_n 3, 1) := by decide +kernel
theorem dX10_sale_241 : decode cX10_sale 241 = .ok (.invokevirtual 300, 3) := by decide +kernel
theorem dX10_sale_244 : decode cX10_sale 244 = .ok (.istore 12, 2) := by decide +kernel
theorem dX10_sale_246 : decode cX10_sale 246 = .ok (.iload 12, 2) := by decide +kernel
theorem dX10_sale_248 : decode cX10_sale 248 = .ok (.ifCond .le 14, 3) := by decide +kernel
theorem dX10_sale_251 : decode cX10_sale 251 = .ok (.iload 12, 2) := by decide +kernel
theorem dX10_sale_253 : decode cX10_sale 253 = .ok (.iload 8, 2) := by decide +kernel
theorem dX10_sale_255 : decode cX10_sale 255 = .ok (.if_icmp .ge 7, 3) := by decide +kernel
theorem dX10_sale_258 : decode cX10_sale 258 = .ok (.iload 12, 2) := by decide +kernel
theorem dX10_sale_260 : decode cX10_sale 260 = .ok (.istore 8, 2) := by decide +kernel
theorem dX10_sale_262 : decode cX10_sale 262 = .ok (.iinc 10 1, 3) := by decide +kernel
theorem dX10_sale_265 : decode cX10_sale 265 = .ok (.goto (-90), 3) := by decide +kernel
theorem dX10_sale_268 : decode cX10_sale 268 = .ok (.iload 8, 2) := by decide +kernel
theorem dX10_sale_270 : decode cX10_sale 270 = .ok (.bipush 8, 2) := by decide +kernel
theorem dX10_sale_272 : decode cX10_sale 272 = .ok (.if_icmp .ge 6, 3) := by decide +kernel
theorem dX10_sale_275 : decode cX10_sale 275 = .ok (.iload 8, 2) := by decide +kernel
theorem dX10_sale_277 : decode cX10_sale 277 = .ok (.ireturn, 1) := by decide +kernel
theorem dX10_sale_278 : decode cX10_sale 278 = .ok (.iload 9, 2) := by decide +kernel
theorem dX10_sale_280 : decode cX10_sale 280 = .ok (.iload 4, 2) := by decide +kernel
theorem dX10_sale_282 : decode cX10_sale 282 = .ok (.if_icmp .ge 6, 3) := by decide +kernel
theorem dX10_sale_285 : decode cX10_sale 285 = .ok (.bipush 7, 2) := by decide +kernel
theorem dX10_sale_287 : decode cX10_sale 287 = .ok (.ireturn, 1) := by decide +kernel
theorem dX10_sale_288 : decode cX10_sale 288 = .ok (.aload_n 0, 1) := by decide +kernel
theorem dX10_sale_289 : decode cX10_sale 289 = .ok (.invokevirtual 272, 3) := by decide +kernel
theorem dX10_sale_292 : decode cX10_sale 292 = .ok (.iconst 0, 1) := by decide +kernel
theorem dX10_sale_293 : decode cX10_sale 293 = .ok (.istore 10, 2) := by decide +kernel
theorem dX10_sale_295 : decode cX10_sale 295 = .ok (.iload 10, 2) := by decide +kernel
theorem dX10_sale_297 : decode cX10_sale 297 = .ok (.iload 5, 2) := by decide +kernel
theorem dX10_sale_299 : decode cX10_sale 299 = .ok (.if_icmp .ge 51, 3) := by decide +kernel
theorem dX10_sale_302 : decode cX10_sale 302 = .ok (.aload_n 0, 1) := by decide +kernel
theorem dX10_sale_303 : decode cX10_sale 303 = .ok (.aload_n 0, 1) := by decide +kernel
theorem dX10_sale_304 : decode cX10_sale 304 = .ok (.getfield 40, 3) := by decide +kernel
theorem dX10_sale_307 : decode cX10_sale 307 = .ok (.iload 10, 2) := by decide +kernel
theorem dX10_sale_309 : decode cX10_sale 309 = .ok (.iaload, 1) := by decide +kernel
theorem dX10_sale_310 : decode cX10_sale 310 = .ok (.iload_n 2, 1) := by decide +kernel
theorem dX10_sale_311 : decode cX10_sale 311 = .ok (.iload_n 3, 1) := by decide +kernel
theorem dX10_sale_312 : decode cX10_sale 312 = .ok (.aload_n 0, 1) := by decide +kernel
theorem dX10_sale_313 : decode cX10_sale 313 = .ok (.getfield 13, 3) := by decide +kernel
theorem dX10_sale_316 : decode cX10_sale 316 = .ok (.bipush 113, 2) := by decide +kernel
theorem dX10_sale_318 : decode cX10_sale 318 = .ok (.iaload, 1) := by decide +kernel
theorem dX10_sale_319 : decode cX10_sale 319 = .ok (.iconst 0, 1) := by decide +kernel
theorem dX10_sale_320 : decode cX10_sale 320 = .ok (.invokevirtual 275, 3) := by decide +kernel
theorem dX10_sale_323 : decode cX10_sale 323 = .ok (.aload_n 0, 1) := by decide +kernel
theorem dX10_sale_324 : decode cX10_sale 324 = .ok (.getfield 13, 3) := by decide +kernel
theorem dX10_sale_327 : decode cX10_sale 327 = .ok (.bipush 120, 2) := by decide +kernel
theorem dX10_sale_329 : decode cX10_sale 329 = .ok (.bipush 32, 2) := by decide +kernel
theorem dX10_sale_331 : decode cX10_sale 331 = .ok (.aload_n 0, 1) := by decide +kernel
theorem dX10_sale_332 : decode cX10_sale 332 = .ok (.getfield 40, 3) := by decide +kernel
theorem dX10_sale_335 : decode cX10_sale 335 = .ok (.iload 10, 2) := by decide +kernel
theorem dX10_sale_337 : decode cX10_sale 337 = .ok (.iaload, 1) := by decide +kernel
theorem dX10_sale_338 : decode cX10_sale 338 = .ok (.imul, 1) := by decide +kernel
theorem dX10_sale_339 : decode cX10_sale 339 = .ok (.iadd, 1) := by decide +kernel
theorem dX10_sale_340 : decode cX10_sale 340 = .ok (.iconst 1, 1) := by decide +kernel
theorem dX10_sale_341 : decode cX10_sale 341 = .ok (.iadd, 1) := by decide +kernel
theorem dX10_sale_342 : decode cX10_sale 342 = .ok (.iload_n 2, 1) := by decide +kernel
theorem dX10_sale_343 : decode cX10_sale 343 = .ok (.iastore, 1) := by decide +kernel
theorem dX10_sale_344 : decode cX10_sale 344 = .ok (.iinc 10 1, 3) := by decide +kernel
theorem dX10_sale_347 : decode cX10_sale 347 = .ok (.goto (-52), 3) := by decide +kernel
theorem dX10_sale_350 : decode cX10_sale 350 = .ok (.aload_n 0, 1) := by decide +kernel
theorem dX10_sale_351 : decode cX10_sale 351 = .ok (.iload_n 1, 1) := by decide +kernel
theorem dX10_sale_352 : decode cX10_sale 352 = .ok (.iload_n 2, 1) := by decide +kernel
theorem dX10_sale_353 : decode cX10_sale 353 = .ok (.iload_n 3, 1) := by decide +kernel
theorem dX10_sale_354 : decode cX10_sale 354 = .ok (.iload 4, 2) := by decide +kernel
theorem dX10_sale_356 : decode cX10_sale 356 = .ok (.iload 5, 2) := by decide +kernel
theorem dX10_sale_358 : decode cX10_sale 358 = .ok (.iload 9, 2) := by decide +kernel
theorem dX10_sale_360 : decode cX10_sale 360 = .ok (.invokevirtual 303, 3) := by decide +kernel
theorem dX10_sale_363 : decode cX10_sale 363 = .ok (.iconst 0, 1) := by decide +kernel
theorem dX10_sale_364 : decode cX10_sale 364 = .ok (.ireturn, 1) := by decide +kernel
theorem dX10_sales_0 : decode cX10_sales 0 = .ok (.aload_n 0, 1) := by decide +kernel
theorem dX10_sales_1 : decode cX10_sales 1 = .ok (.iconst 0, 1) := by decide +kernel
theorem dX10_sales_2 : decode cX10_sales 2 = .ok (.putfield 83, 3) := by decide +kernel
theorem dX10_sales_5 : decode cX10_sales 5 = .ok (.aload_n 0, 1) := by decide +kernel
theorem dX10_sales_6 : decode cX10_sales 6 = .ok (.getfield 13, 3) := by decide +kernel
theorem dX10_sales_9 : decode cX10_sales 9 = .ok (.bipush 113, 2) := by decide +kernel
theorem dX10_sales_11 : decode cX10_sales 11 = .ok (.iaload, 1) := by decide +kernel
theorem dX10_sales_12 : decode cX10_sales 12 = .ok (.ireturn, 1) := by decide +kernel
theorem dX10_sold_0 : decode cX10_sold 0 = .ok (.iload_n 1, 1) := by decide +kernel
theorem dX10_sold_1 : decode cX10_sold 1 = .ok (.ifCond .lt 24, 3) := by decide +kernel
theorem dX10_sold_4 : decode cX10_sold 4 = .ok (.iload_n 1, 1) := by decide +kernel
theorem dX10_sold_5 : decode cX10_sold 5 = .ok (.aload_n 0, 1) := by decide +kernel
theorem dX10_sold_6 : decode cX10_sold 6 = .ok (.getfield 13, 3) := by decide +kernel
theorem dX10_sold_9 : decode cX10_sold 9 = .ok (.bipush 113, 2) := by decide +kernel
theorem dX10_sold_11 : decode cX10_sold 11 = .ok (.iaload, 1) := by decide +kernel
theorem dX10_sold_12 : decode cX10_sold 12 = .ok (.if_icmp .ge 13, 3) := by decide +kernel
theorem dX10_sold_15 : decode cX10_sold 15 = .ok (.iload_n 2, 1) := by decide +kernel
theorem dX10_sold_16 : decode cX10_sold 16 = .ok (.iconst 0, 1) := by decide +kernel
theorem dX10_sold_17 : decode cX10_sold 17 = .ok (.bipush 6, 2) := by decide +kernel
theorem dX10_sold_19 : decode cX10_sold 19 = .ok (.invokestatic 154, 3) := by decide +kernel
theorem dX10_sold_22 : decode cX10_sold 22 = .ok (.ifCond .ne 8, 3) := by decide +kernel
theorem dX10_sold_25 : decode cX10_sold 25 = .ok (.aload_n 0, 1) := by decide +kernel
theorem dX10_sold_26 : decode cX10_sold 26 = .ok (.invokevirtual 246, 3) := by decide +kernel
theorem dX10_sold_29 : decode cX10_sold 29 = .ok (.ireturn, 1) := by decide +kernel
theorem dX10_sold_30 : decode cX10_sold 30 = .ok (.aload_n 0, 1) := by decide +kernel
theorem dX10_sold_31 : decode cX10_sold 31 = .ok (.iconst 0, 1) := by decide +kernel
theorem dX10_sold_32 : decode cX10_sold 32 = .ok (.putfield 83, 3) := by decide +kernel
theorem dX10_sold_35 : decode cX10_sold 35 = .ok (.aload_n 0, 1) := by decide +kernel
theorem dX10_sold_36 : decode cX10_sold 36 = .ok (.getfield 13, 3) := by decide +kernel
theorem dX10_sold_39 : decode cX10_sold 39 = .ok (.sipush 4400, 3) := by decide +kernel
theorem dX10_sold_42 : decode cX10_sold 42 = .ok (.bipush 7, 2) := by decide +kernel
theorem dX10_sold_44 : decode cX10_sold 44 = .ok (.iload_n 1, 1) := by decide +kernel
theorem dX10_sold_45 : decode cX10_sold 45 = .ok (.imul, 1) := by decide +kernel
theorem dX10_sold_46 : decode cX10_sold 46 = .ok (.iadd, 1) := by decide +kernel
theorem dX10_sold_47 : decode cX10_sold 47 = .ok (.iload_n 2, 1) := by decide +kernel
theorem dX10_sold_48 : decode cX10_sold 48 = .ok (.iadd, 1) := by decide +kernel
theorem dX10_sold_49 : decode cX10_sold 49 = .ok (.iaload, 1) := by decide +kernel
theorem dX10_sold_50 : decode cX10_sold 50 = .ok (.ireturn, 1) := by decide +kernel
theorem dX10_worthOf_0 : decode cX10_worthOf 0 = .ok (.aload_n 0, 1) := by decide +kernel
theorem dX10_worthOf_1 : decode cX10_worthOf 1 = .ok (.iload_n 1, 1) := by decide +kernel
theorem dX10_worthOf_2 : decode cX10_worthOf 2 = .ok (.iconst 0, 1) := by decide +kernel
theorem dX10_worthOf_3 : decode cX10_worthOf 3 = .ok (.invokevirtual 256, 3) := by decide +kernel
theorem dX10_worthOf_6 : decode cX10_worthOf 6 = .ok (.istore 7, 2) := by decide +kernel
theorem dX10_worthOf_8 : decode cX10_worthOf 8 = .ok (.aload_n 0, 1) := by decide +kernel
theorem dX10_worthOf_9 : decode cX10_worthOf 9 = .ok (.iload_n 1, 1) := by decide +kernel
theorem dX10_worthOf_10 : decode cX10_worthOf 10 = .ok (.iconst 2, 1) := by decide +kernel
theorem dX10_worthOf_11 : decode cX10_worthOf 11 = .ok (.invokevirtual 256, 3) := by decide +kernel
theorem dX10_worthOf_14 : decode cX10_worthOf 14 = .ok (.istore 8, 2) := by decide +kernel
theorem dX10_worthOf_16 : decode cX10_worthOf 16 = .ok (.aload_n 0, 1) := by decide +kernel
theorem dX10_worthOf_17 : decode cX10_worthOf 17 = .ok (.iload_n 1, 1) := by decide +kernel
theorem dX10_worthOf_18 : decode cX10_worthOf 18 = .ok (.invokevirtual 253, 3) := by decide +kernel
theorem dX10_worthOf_21 : decode cX10_worthOf 21 = .ok (.istore 9, 2) := by decide +kernel
theorem dX10_worthOf_23 : decode cX10_worthOf 23 = .ok (.iload_n 2, 1) := by decide +kernel
theorem dX10_worthOf_24 : decode cX10_worthOf 24 = .ok (.iconst 1, 1) := by decide +kernel
theorem dX10_worthOf_25 : decode cX10_worthOf 25 = .ok (.if_icmp .le 38, 3) := by decide +kernel
theorem dX10_worthOf_28 : decode cX10_worthOf 28 = .ok (.aload_n 0, 1) := by decide +kernel
theorem dX10_worthOf_29 : decode cX10_worthOf 29 = .ok (.iload 7, 2) := by decide +kernel
theorem dX10_worthOf_31 : decode cX10_worthOf 31 = .ok (.iload 8, 2) := by decide +kernel
theorem dX10_worthOf_33 : decode cX10_worthOf 33 = .ok (.iload_n 2, 1) := by decide +kernel
theorem dX10_worthOf_34 : decode cX10_worthOf 34 = .ok (.iconst 2, 1) := by decide +kernel
theorem dX10_worthOf_35 : decode cX10_worthOf 35 = .ok (.isub, 1) := by decide +kernel
theorem dX10_worthOf_36 : decode cX10_worthOf 36 = .ok (.invokevirtual 265, 3) := by decide +kernel
theorem dX10_worthOf_39 : decode cX10_worthOf 39 = .ok (.ifCond .eq 5, 3) := by decide +kernel
theorem dX10_worthOf_42 : decode cX10_worthOf 42 = .ok (.iconst 0, 1) := by decide +kernel
theorem dX10_worthOf_43 : decode cX10_worthOf 43 = .ok (.ireturn, 1) := by decide +kernel
theorem dX10_worthOf_44 : decode cX10_worthOf 44 = .ok (.iload 7, 2) := by decide +kernel
theorem dX10_worthOf_46 : decode cX10_worthOf 46 = .ok (.aload_n 0, 1) := by decide +kernel
theorem dX10_worthOf_47 : decode cX10_worthOf 47 = .ok (.iload_n 2, 1) := by decide +kernel
theorem dX10_worthOf_48 : decode cX10_worthOf 48 = .ok (.iconst 2, 1) := by decide +kernel
theorem dX10_worthOf_49 : decode cX10_worthOf 49 = .ok (.isub, 1) := by decide +kernel
theorem dX10_worthOf_50 : decode cX10_worthOf 50 = .ok (.iconst 0, 1) := by decide +kernel
theorem dX10_worthOf_51 : decode cX10_worthOf 51 = .ok (.invokevirtual 262, 3) := by decide +kernel
theorem dX10_worthOf_54 : decode cX10_worthOf 54 = .ok (.isub, 1) := by decide +kernel
theorem dX10_worthOf_55 : decode cX10_worthOf 55 = .ok (.istore 7, 2) := by decide +kernel
theorem dX10_worthOf_57 : decode cX10_worthOf 57 = .ok (.iinc 8 1, 3) := by decide +kernel
theorem dX10_worthOf_60 : decode cX10_worthOf 60 = .ok (.iload_n 3, 1) := by decide +kernel
theorem dX10_worthOf_61 : decode cX10_worthOf 61 = .ok (.istore 9, 2) := by decide +kernel
theorem dX10_worthOf_63 : decode cX10_worthOf 63 = .ok (.aload_n 0, 1) := by decide +kernel
theorem dX10_worthOf_64 : decode cX10_worthOf 64 = .ok (.iload 7, 2) := by decide +kernel
theorem dX10_worthOf_66 : decode cX10_worthOf 66 = .ok (.iload 8, 2) := by decide +kernel
theorem dX10_worthOf_68 : decode cX10_worthOf 68 = .ok (.iload 5, 2) := by decide +kernel
theorem dX10_worthOf_70 : decode cX10_worthOf 70 = .ok (.invokevirtual 265, 3) := by decide +kernel
theorem dX10_worthOf_73 : decode cX10_worthOf 73 = .ok (.ifCond .eq 7, 3) := by decide +kernel
theorem dX10_worthOf_76 : decode cX10_worthOf 76 = .ok (.iconst 0, 1) := by decide +kernel
theorem dX10_worthOf_77 : decode cX10_worthOf 77 = .ok (.goto 19, 3) := by decide +kernel
theorem dX10_worthOf_80 : decode cX10_worthOf 80 = .ok (.iload 7, 2) := by decide +kernel
theorem dX10_worthOf_82 : decode cX10_worthOf 82 = .ok (.aload_n 0, 1) := by decide +kernel
theorem dX10_worthOf_83 : decode cX10_worthOf 83 = .ok (.iload 4, 2) := by decide +kernel
theorem dX10_worthOf_85 : decode cX10_worthOf 85 = .ok (.iload 9, 2) := by decide +kernel
theorem dX10_worthOf_87 : decode cX10_worthOf 87 = .ok (.iload 6, 2) := by decide +kernel
theorem dX10_worthOf_89 : decode cX10_worthOf 89 = .ok (.invokevirtual 291, 3) := by decide +kernel
theorem dX10_worthOf_92 : decode cX10_worthOf 92 = .ok (.imul, 1) := by decide +kernel
theorem dX10_worthOf_93 : decode cX10_worthOf 93 = .ok (.bipush 100, 2) := by decide +kernel
theorem dX10_worthOf_95 : decode cX10_worthOf 95 = .ok (.idiv, 1) := by decide +kernel
theorem dX10_worthOf_96 : decode cX10_worthOf 96 = .ok (.ireturn, 1) := by decide +kernel
theorem dX10_layPayment_0 : decode cX10_layPayment 0 = .ok (.aload_n 0, 1) := by decide +kernel
theorem dX10_layPayment_1 : decode cX10_layPayment 1 = .ok (.iload_n 1, 1) := by decide +kernel
theorem dX10_layPayment_2 : decode cX10_layPayment 2 = .ok (.invokevirtual 243, 3) := by decide +kernel
theorem dX10_layPayment_5 : decode cX10_layPayment 5 = .ok (.ifCond .eq 40, 3) := by decide +kernel
theorem dX10_layPayment_8 : decode cX10_layPayment 8 = .ok (.aload_n 0, 1) := by decide +kernel
theorem dX10_layPayment_9 : decode cX10_layPayment 9 = .ok (.iload_n 2, 1) := by decide +kernel
theorem dX10_layPayment_10 : decode cX10_layPayment 10 = .ok (.invokevirtual 243, 3) := by decide +kernel
theorem dX10_layPayment_13 : decode cX10_layPayment 13 = .ok (.ifCond .eq 32, 3) := by decide +kernel
theorem dX10_layPayment_16 : decode cX10_layPayment 16 = .ok (.aload_n 0, 1) := by decide +kernel
theorem dX10_layPayment_17 : decode cX10_layPayment 17 = .ok (.iload_n 3, 1) := by decide +kernel
theorem dX10_layPayment_18 : decode cX10_layPayment 18 = .ok (.invokevirtual 259, 3) := by decide +kernel
theorem dX10_layPayment_21 : decode cX10_layPayment 21 = .ok (.ifCond .eq 24, 3) := by decide +kernel
theorem dX10_layPayment_24 : decode cX10_layPayment 24 = .ok (.iload 4, 2) := by decide +kernel
theorem dX10_layPayment_26 : decode cX10_layPayment 26 = .ok (.iconst 1, 1) := by decide +kernel
theorem dX10_layPayment_27 : decode cX10_layPayment 27 = .ok (.sipush 2000, 3) := by decide +kernel
theorem dX10_layPayment_30 : decode cX10_layPayment 30 = .ok (.invokestatic 154, 3) := by decide +kernel
theorem dX10_layPayment_33 : decode cX10_layPayment 33 = .ok (.ifCond .eq 12, 3) := by decide +kernel
theorem dX10_layPayment_36 : decode cX10_layPayment 36 = .ok (.aload_n 0, 1) := by decide +kernel
theorem dX10_layPayment_37 : decode cX10_layPayment 37 = .ok (.iload_n 1, 1) := by decide +kernel
theorem dX10_layPayment_38 : decode cX10_layPayment 38 = .ok (.iload_n 2, 1) := by decide +kernel
theorem dX10_layPayment_39 : decode cX10_layPayment 39 = .ok (.invokevirtual 297, 3) := by decide +kernel
theorem dX10_layPayment_42 : decode cX10_layPayment 42 = .ok (.ifCond .eq 6, 3) := by decide +kernel
theorem dX10_layPayment_45 : decode cX10_layPayment 45 = .ok (.bipush (-2), 2) := by decide +kernel
theorem dX10_layPayment_47 : decode cX10_layPayment 47 = .ok (.ireturn, 1) := by decide +kernel
theorem dX10_layPayment_48 : decode cX10_layPayment 48 = .ok (.aload_n 0, 1) := by decide +kernel
theorem dX10_layPayment_49 : decode cX10_layPayment 49 = .ok (.invokevirtual 288, 3) := by decide +kernel
theorem dX10_layPayment_52 : decode cX10_layPayment 52 = .ok (.istore 5, 2) := by decide +kernel
theorem dX10_layPayment_54 : decode cX10_layPayment 54 = .ok (.aload_n 0, 1) := by decide +kernel
theorem dX10_layPayment_55 : decode cX10_layPayment 55 = .ok (.iconst 0, 1) := by decide +kernel
theorem dX10_layPayment_56 : decode cX10_layPayment 56 = .ok (.putfield 307, 3) := by decide +kernel
theorem dX10_layPayment_59 : decode cX10_layPayment 59 = .ok (.iconst 0, 1) := by decide +kernel
theorem dX10_layPayment_60 : decode cX10_layPayment 60 = .ok (.istore 6, 2) := by decide +kernel
theorem dX10_layPayment_62 : decode cX10_layPayment 62 = .ok (.iload 6, 2) := by decide +kernel
theorem dX10_layPayment_64 : decode cX10_layPayment 64 = .ok (.aload_n 0, 1) := by decide +kernel
theorem dX10_layPayment_65 : decode cX10_layPayment 65 = .ok (.invokevirtual 188, 3) := by decide +kernel
theorem dX10_layPayment_68 : decode cX10_layPayment 68 = .ok (.if_icmp .ge 101, 3) := by decide +kernel
theorem dX10_layPayment_71 : decode cX10_layPayment 71 = .ok (.aload_n 0, 1) := by decide +kernel
theorem dX10_layPayment_72 : decode cX10_layPayment 72 = .ok (.getfield 307, 3) := by decide +kernel
theorem dX10_layPayment_75 : decode cX10_layPayment 75 = .ok (.bipush 12, 2) := by decide +kernel
theorem dX10_layPayment_77 : decode cX10_layPayment 77 = .ok (.if_icmp .ge 92, 3) := by decide +kernel
theorem dX10_layPayment_80 : decode cX10_layPayment 80 = .ok (.aload_n 0, 1) := by decide +kernel
theorem dX10_layPayment_81 : decode cX10_layPayment 81 = .ok (.iload 6, 2) := by decide +kernel
theorem dX10_layPayment_83 : decode cX10_layPayment 83 = .ok (.iconst 1, 1) := by decide +kernel
theorem dX10_layPayment_84 : decode cX10_layPayment 84 = .ok (.invokevirtual 256, 3) := by decide +kernel
theorem dX10_layPayment_87 : decode cX10_layPayment 87 = .ok (.iload_n 1, 1) := by decide +kernel
theorem dX10_layPayment_88 : decode cX10_layPayment 88 = .ok (.if_icmp .eq 6, 3) := by decide +kernel
theorem dX10_layPayment_91 : decode cX10_layPayment 91 = .ok (.goto 72, 3) := by decide +kernel
theorem dX10_layPayment_94 : decode cX10_layPayment 94 = .ok (.aload_n 0, 1) := by decide +kernel
theorem dX10_layPayment_95 : decode cX10_layPayment 95 = .ok (.getfield 43, 3) := by decide +kernel
theorem dX10_layPayment_98 : decode cX10_layPayment 98 = .ok (.aload_n 0, 1) := by decide +kernel
theorem dX10_layPayment_99 : decode cX10_layPayment 99 = .ok (.getfield 307, 3) := by decide +kernel
theorem dX10_layPayment_102 : decode cX10_layPayment 102 = .ok (.iload 6, 2) := by decide +kernel
theorem dX10_layPayment_104 : decode cX10_layPayment 104 = .ok (.iastore, 1) := by decide +kernel
theorem dX10_layPayment_105 : decode cX10_layPayment 105 = .ok (.iconst 1, 1) := by decide +kernel
theorem dX10_layPayment_106 : decode cX10_layPayment 106 = .ok (.istore 7, 2) := by decide +kernel
theorem dX10_layPayment_108 : decode cX10_layPayment 108 = .ok (.iload 7, 2) := by decide +kernel
theorem dX10_layPayment_110 : decode cX10_layPayment 110 = .ok (.iconst 2, 1) := by decide +kernel
theorem dX10_layPayment_111 : decode cX10_layPayment 111 = .ok (.aload_n 0, 1) := by decide +kernel
theorem dX10_layPayment_112 : decode cX10_layPayment 112 = .ok (.invokevirtual 185, 3) := by decide +kernel
theorem dX10_layPayment_115 : decode cX10_layPayment 115 = .ok (.iadd, 1) := by decide +kernel
theorem dX10_layPayment_116 : decode cX10_layPayment 116 = .ok (.if_icmp .ge 37, 3) := by decide +kernel
theorem dX10_layPayment_119 : decode cX10_layPayment 119 = .ok (.aload_n 0, 1) := by decide +kernel
theorem dX10_layPayment_120 : decode cX10_layPayment 120 = .ok (.getfield 46, 3) := by decide +kernel
theorem dX10_layPayment_123 : decode cX10_layPayment 123 = .ok (.bipush 6, 2) := by decide +kernel
theorem dX10_layPayment_125 : decode cX10_layPayment 125 = .ok (.aload_n 0, 1) := by decide +kernel
theorem dX10_layPayment_126 : decode cX10_layPayment 126 = .ok (.getfield 307, 3) := by decide +kernel
theorem dX10_layPayment_129 : decode cX10_layPayment 129 = .ok (.imul, 1) := by decide +kernel
theorem dX10_layPayment_130 : decode cX10_layPayment 130 = .ok (.iload 7, 2) := by decide +kernel
theorem dX10_layPayment_132 : decode cX10_layPayment 132 = .ok (.iadd, 1) := by decide +kernel
theorem dX10_layPayment_133 : decode cX10_layPayment 133 = .ok (.aload_n 0, 1) := by decide +kernel
theorem dX10_layPayment_134 : decode cX10_layPayment 134 = .ok (.iload 6, 2) := by decide +kernel
theorem dX10_layPayment_136 : decode cX10_layPayment 136 = .ok (.iload 7, 2) := by decide +kernel
theorem dX10_layPayment_138 : decode cX10_layPayment 138 = .ok (.iload_n 1, 1) := by decide +kernel
theorem dX10_layPayment_139 : decode cX10_layPayment 139 = .ok (.iload_n 2, 1) := by decide +kernel
theorem dX10_layPayment_140 : decode cX10_layPayment 140 = .ok (.iload_n 3, 1) := by decide +kernel
theorem dX10_layPayment_141 : decode cX10_layPayment 141 = .ok (.iload 5, 2) := by decide +kernel
theorem dX10_layPayment_143 : decode cX10_layPayment 143 = .ok (.invokevirtual 310, 3) := by decide +kernel
theorem dX10_layPayment_146 : decode cX10_layPayment 146 = .ok (.iastore, 1) := by decide +kernel
theorem dX10_layPayment_147 : decode cX10_layPayment 147 = .ok (.iinc 7 1, 3) := by decide +kernel
theorem dX10_layPayment_150 : decode cX10_layPayment 150 = .ok (.goto (-42), 3) := by decide +kernel
theorem dX10_layPayment_153 : decode cX10_layPayment 153 = .ok (.aload_n 0, 1) := by decide +kernel
theorem dX10_layPayment_154 : decode cX10_layPayment 154 = .ok (.dup, 1) := by decide +kernel
theorem dX10_layPayment_155 : decode cX10_layPayment 155 = .ok (.getfield 307, 3) := by decide +kernel
theorem dX10_layPayment_158 : decode cX10_layPayment 158 = .ok (.iconst 1, 1) := by decide +kernel
theorem dX10_layPayment_159 : decode cX10_layPayment 159 = .ok (.iadd, 1) := by decide +kernel
theorem dX10_layPayment_160 : decode cX10_layPayment 160 = .ok (.putfield 307, 3) := by decide +kernel
theorem dX10_layPayment_163 : decode cX10_layPayment 163 = .ok (.iinc 6 1, 3) := by decide +kernel
theorem dX10_layPayment_166 : decode cX10_layPayment 166 = .ok (.goto (-104), 3) := by decide +kernel
theorem dX10_layPayment_169 : decode cX10_layPayment 169 = .ok (.sipush 2001, 3) := by decide +kernel
theorem dX10_layPayment_172 : decode cX10_layPayment 172 = .ok (.istore 6, 2) := by decide +kernel
theorem dX10_layPayment_174 : decode cX10_layPayment 174 = .ok (.iconst 0, 1) := by decide +kernel
theorem dX10_layPayment_175 : decode cX10_layPayment 175 = .ok (.istore 7, 2) := by decide +kernel
theorem dX10_layPayment_177 : decode cX10_layPayment 177 = .ok (.iload 7, 2) := by decide +kernel
theorem dX10_layPayment_179 : decode cX10_layPayment 179 = .ok (.iload 4, 2) := by decide +kernel
theorem dX10_layPayment_181 : decode cX10_layPayment 181 = .ok (.if_icmp .gt 36, 3) := by decide +kernel
theorem dX10_layPayment_184 : decode cX10_layPayment 184 = .ok (.aload_n 0, 1) := by decide +kernel
theorem dX10_layPayment_185 : decode cX10_layPayment 185 = .ok (.getfield 49, 3) := by decide +kernel
theorem dX10_layPayment_188 : decode cX10_layPayment 188 = .ok (.iload 6, 2) := by decide +kernel
theorem dX10_layPayment_190 : decode cX10_layPayment 190 = .ok (.aload_n 0, 1) := by decide +kernel
theorem dX10_layPayment_191 : decode cX10_layPayment 191 = .ok (.getfield 307, 3) := by decide +kernel
theorem dX10_layPayment_194 : decode cX10_layPayment 194 = .ok (.imul, 1) := by decide +kernel
theorem dX10_layPayment_195 : decode cX10_layPayment 195 = .ok (.iload 7, 2) := by decide +kernel
theorem dX10_layPayment_197 : decode cX10_layPayment 197 = .ok (.iadd, 1) := by decide +kernel
theorem dX10_layPayment_198 : decode cX10_layPayment 198 = .ok (.iload 7, 2) := by decide +kernel
theorem dX10_layPayment_200 : decode cX10_layPayment 200 = .ok (.ifCond .ne 7, 3) := by decide +kernel
theorem dX10_layPayment_203 : decode cX10_layPayment 203 = .ok (.iconst 0, 1) := by decide +kernel
theorem dX10_layPayment_204 : decode cX10_layPayment 204 = .ok (.goto 6, 3) := by decide +kernel
theorem dX10_layPayment_207 : decode cX10_layPayment 207 = .ok (.ldc_w 314, 3) := by decide +kernel
theorem dX10_layPayment_210 : decode cX10_layPayment 210 = .ok (.iastore, 1) := by decide +kernel
theorem dX10_layPayment_211 : decode cX10_layPayment 211 = .ok (.iinc 7 1, 3) := by decide +kernel
theorem dX10_layPayment_214 : decode cX10_layPayment 214 = .ok (.goto (-37), 3) := by decide +kernel
theorem dX10_layPayment_217 : decode cX10_layPayment 217 = .ok (.aload_n 0, 1) := by decide +kernel
theorem dX10_layPayment_218 : decode cX10_layPayment 218 = .ok (.getfield 307, 3) := by decide +kernel
theorem dX10_layPayment_221 : decode cX10_layPayment 221 = .ok (.iconst 1, 1) := by decide +kernel
theorem dX10_layPayment_222 : decode cX10_layPayment 222 = .ok (.isub, 1) := by decide +kernel
theorem dX10_layPayment_223 : decode cX10_layPayment 223 = .ok (.istore 7, 2) := by decide +kernel
theorem dX10_layPayment_225 : decode cX10_layPayment 225 = .ok (.iload 7, 2) := by decide +kernel
theorem dX10_layPayment_227 : decode cX10_layPayment 227 = .ok (.ifCond .lt 46, 3) := by decide +kernel
theorem dX10_layPayment_230 : decode cX10_layPayment 230 = .ok (.iconst 0, 1) := by decide +kernel
theorem dX10_layPayment_231 : decode cX10_layPayment 231 = .ok (.istore 8, 2) := by decide +kernel
theorem dX10_layPayment_233 : decode cX10_layPayment 233 = .ok (.iload 8, 2) := by decide +kernel
theorem dX10_layPayment_235 : decode cX10_layPayment 235 = .ok (.iload 4, 2) := by decide +kernel
theorem dX10_layPayment_237 : decode cX10_layPayment 237 = .ok (.if_icmp .gt 30, 3) := by decide +kernel
theorem dX10_layPayment_240 : decode cX10_layPayment 240 = .ok (.aload_n 0, 1) := by decide +kernel
theorem dX10_layPayment_241 : decode cX10_layPayment 241 = .ok (.getfield 49, 3) := by decide +kernel
theorem dX10_layPayment_244 : decode cX10_layPayment 244 = .ok (.iload 6, 2) := by decide +kernel
theorem dX10_layPayment_246 : decode cX10_layPayment 246 = .ok (.iload 7, 2) := by decide +kernel
theorem dX10_layPayment_248 : decode cX10_layPayment 248 = .ok (.imul, 1) := by decide +kernel
theorem dX10_layPayment_249 : decode cX10_layPayment 249 = .ok (.iload 8, 2) := by decide +kernel
theorem dX10_layPayment_251 : decode cX10_layPayment 251 = .ok (.iadd, 1) := by decide +kernel
theorem dX10_layPayment_252 : decode cX10_layPayment 252 = .ok (.aload_n 0, 1) := by decide +kernel
theorem dX10_layPayment_253 : decode cX10_layPayment 253 = .ok (.iload 7, 2) := by decide +kernel
theorem dX10_layPayment_255 : decode cX10_layPayment 255 = .ok (.iload 8, 2) := by decide +kernel
theorem dX10_layPayment_257 : decode cX10_layPayment 257 = .ok (.invokevirtual 315, 3) := by decide +kernel
theorem dX10_layPayment_260 : decode cX10_layPayment 260 = .ok (.iastore, 1) := by decide +kernel
theorem dX10_layPayment_261 : decode cX10_layPayment 261 = .ok (.iinc 8 1, 3) := by decide +kernel
