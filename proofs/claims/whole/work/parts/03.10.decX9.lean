theorem dX9_leastWrong_45 : decode cX9_leastWrong 45 = .ok (.iload 6, 2) := by decide +kernel
theorem dX9_leastWrong_47 : decode cX9_leastWrong 47 = .ok (.if_icmp .ge 7, 3) := by decide +kernel
theorem dX9_leastWrong_50 : decode cX9_leastWrong 50 = .ok (.iload 8, 2) := by decide +kernel
theorem dX9_leastWrong_52 : decode cX9_leastWrong 52 = .ok (.istore 6, 2) := by decide +kernel
theorem dX9_leastWrong_54 : decode cX9_leastWrong 54 = .ok (.iinc 7 1, 3) := by decide +kernel
theorem dX9_leastWrong_57 : decode cX9_leastWrong 57 = .ok (.goto (-51), 3) := by decide +kernel
theorem dX9_leastWrong_60 : decode cX9_leastWrong 60 = .ok (.iload 6, 2) := by decide +kernel
theorem dX9_leastWrong_62 : decode cX9_leastWrong 62 = .ok (.ireturn, 1) := by decide +kernel
theorem dX9_coinWrong_0 : decode cX9_coinWrong 0 = .ok (.aload_n 0, 1) := by decide +kernel
theorem dX9_coinWrong_1 : decode cX9_coinWrong 1 = .ok (.getfield 33, 3) := by decide +kernel
theorem dX9_coinWrong_4 : decode cX9_coinWrong 4 = .ok (.iload 4, 2) := by decide +kernel
theorem dX9_coinWrong_6 : decode cX9_coinWrong 6 = .ok (.invokevirtual 183, 3) := by decide +kernel
theorem dX9_coinWrong_9 : decode cX9_coinWrong 9 = .ok (.ifCond .eq 20, 3) := by decide +kernel
theorem dX9_coinWrong_12 : decode cX9_coinWrong 12 = .ok (.aload_n 0, 1) := by decide +kernel
theorem dX9_coinWrong_13 : decode cX9_coinWrong 13 = .ok (.getfield 33, 3) := by decide +kernel
theorem dX9_coinWrong_16 : decode cX9_coinWrong 16 = .ok (.getfield 117, 3) := by decide +kernel
theorem dX9_coinWrong_19 : decode cX9_coinWrong 19 = .ok (.getfield 191, 3) := by decide +kernel
theorem dX9_coinWrong_22 : decode cX9_coinWrong 22 = .ok (.iload 4, 2) := by decide +kernel
theorem dX9_coinWrong_24 : decode cX9_coinWrong 24 = .ok (.iaload, 1) := by decide +kernel
theorem dX9_coinWrong_25 : decode cX9_coinWrong 25 = .ok (.iload_n 1, 1) := by decide +kernel
theorem dX9_coinWrong_26 : decode cX9_coinWrong 26 = .ok (.if_icmp .eq 5, 3) := by decide +kernel
theorem dX9_coinWrong_29 : decode cX9_coinWrong 29 = .ok (.iconst 2, 1) := by decide +kernel
theorem dX9_coinWrong_30 : decode cX9_coinWrong 30 = .ok (.ireturn, 1) := by decide +kernel
theorem dX9_coinWrong_31 : decode cX9_coinWrong 31 = .ok (.aload_n 0, 1) := by decide +kernel
theorem dX9_coinWrong_32 : decode cX9_coinWrong 32 = .ok (.getfield 33, 3) := by decide +kernel
theorem dX9_coinWrong_35 : decode cX9_coinWrong 35 = .ok (.iload_n 2, 1) := by decide +kernel
theorem dX9_coinWrong_36 : decode cX9_coinWrong 36 = .ok (.iload 4, 2) := by decide +kernel
theorem dX9_coinWrong_38 : decode cX9_coinWrong 38 = .ok (.iload 5, 2) := by decide +kernel
theorem dX9_coinWrong_40 : decode cX9_coinWrong 40 = .ok (.invokevirtual 223, 3) := by decide +kernel
theorem dX9_coinWrong_43 : decode cX9_coinWrong 43 = .ok (.ifCond .ne 5, 3) := by decide +kernel
theorem dX9_coinWrong_46 : decode cX9_coinWrong 46 = .ok (.iconst 3, 1) := by decide +kernel
theorem dX9_coinWrong_47 : decode cX9_coinWrong 47 = .ok (.ireturn, 1) := by decide +kernel
theorem dX9_coinWrong_48 : decode cX9_coinWrong 48 = .ok (.aload_n 0, 1) := by decide +kernel
theorem dX9_coinWrong_49 : decode cX9_coinWrong 49 = .ok (.getfield 33, 3) := by decide +kernel
theorem dX9_coinWrong_52 : decode cX9_coinWrong 52 = .ok (.aload_n 0, 1) := by decide +kernel
theorem dX9_coinWrong_53 : decode cX9_coinWrong 53 = .ok (.getfield 33, 3) := by decide +kernel
theorem dX9_coinWrong_56 : decode cX9_coinWrong 56 = .ok (.getfield 117, 3) := by decide +kernel
theorem dX9_coinWrong_59 : decode cX9_coinWrong 59 = .ok (.getfield 188, 3) := by decide +kernel
theorem dX9_coinWrong_62 : decode cX9_coinWrong 62 = .ok (.iload 4, 2) := by decide +kernel
theorem dX9_coinWrong_64 : decode cX9_coinWrong 64 = .ok (.iaload, 1) := by decide +kernel
theorem dX9_coinWrong_65 : decode cX9_coinWrong 65 = .ok (.aload_n 0, 1) := by decide +kernel
theorem dX9_coinWrong_66 : decode cX9_coinWrong 66 = .ok (.getfield 33, 3) := by decide +kernel
theorem dX9_coinWrong_69 : decode cX9_coinWrong 69 = .ok (.getfield 117, 3) := by decide +kernel
theorem dX9_coinWrong_72 : decode cX9_coinWrong 72 = .ok (.getfield 197, 3) := by decide +kernel
theorem dX9_coinWrong_75 : decode cX9_coinWrong 75 = .ok (.iload 4, 2) := by decide +kernel
theorem dX9_coinWrong_77 : decode cX9_coinWrong 77 = .ok (.iaload, 1) := by decide +kernel
theorem dX9_coinWrong_78 : decode cX9_coinWrong 78 = .ok (.iload_n 3, 1) := by decide +kernel
theorem dX9_coinWrong_79 : decode cX9_coinWrong 79 = .ok (.invokevirtual 160, 3) := by decide +kernel
theorem dX9_coinWrong_82 : decode cX9_coinWrong 82 = .ok (.ireturn, 1) := by decide +kernel
theorem dX9_sales_0 : decode cX9_sales 0 = .ok (.aload_n 0, 1) := by decide +kernel
theorem dX9_sales_1 : decode cX9_sales 1 = .ok (.getfield 33, 3) := by decide +kernel
theorem dX9_sales_4 : decode cX9_sales 4 = .ok (.getfield 117, 3) := by decide +kernel
theorem dX9_sales_7 : decode cX9_sales 7 = .ok (.getfield 251, 3) := by decide +kernel
theorem dX9_sales_10 : decode cX9_sales 10 = .ok (.ireturn, 1) := by decide +kernel
theorem dX9_sold_0 : decode cX9_sold 0 = .ok (.iload_n 1, 1) := by decide +kernel
theorem dX9_sold_1 : decode cX9_sold 1 = .ok (.ifCond .lt 17, 3) := by decide +kernel
theorem dX9_sold_4 : decode cX9_sold 4 = .ok (.iload_n 1, 1) := by decide +kernel
theorem dX9_sold_5 : decode cX9_sold 5 = .ok (.aload_n 0, 1) := by decide +kernel
theorem dX9_sold_6 : decode cX9_sold 6 = .ok (.getfield 33, 3) := by decide +kernel
theorem dX9_sold_9 : decode cX9_sold 9 = .ok (.getfield 117, 3) := by decide +kernel
theorem dX9_sold_12 : decode cX9_sold 12 = .ok (.getfield 251, 3) := by decide +kernel
theorem dX9_sold_15 : decode cX9_sold 15 = .ok (.if_icmp .lt 13, 3) := by decide +kernel
theorem dX9_sold_18 : decode cX9_sold 18 = .ok (.new 101, 3) := by decide +kernel
theorem dX9_sold_21 : decode cX9_sold 21 = .ok (.dup, 1) := by decide +kernel
theorem dX9_sold_22 : decode cX9_sold 22 = .ok (.ldc 254, 2) := by decide +kernel
theorem dX9_sold_24 : decode cX9_sold 24 = .ok (.invokespecial 105, 3) := by decide +kernel
theorem dX9_sold_27 : decode cX9_sold 27 = .ok (.athrow, 1) := by decide +kernel
theorem dX9_sold_28 : decode cX9_sold 28 = .ok (.iload_n 2, 1) := by decide +kernel
theorem dX9_sold_29 : decode cX9_sold 29 = .ok (.ifCond .lt 9, 3) := by decide +kernel
theorem dX9_sold_32 : decode cX9_sold 32 = .ok (.iload_n 2, 1) := by decide +kernel
theorem dX9_sold_33 : decode cX9_sold 33 = .ok (.bipush 7, 2) := by decide +kernel
theorem dX9_sold_35 : decode cX9_sold 35 = .ok (.if_icmp .lt 14, 3) := by decide +kernel
theorem dX9_sold_38 : decode cX9_sold 38 = .ok (.new 101, 3) := by decide +kernel
theorem dX9_sold_41 : decode cX9_sold 41 = .ok (.dup, 1) := by decide +kernel
theorem dX9_sold_42 : decode cX9_sold 42 = .ok (.ldc_w 256, 3) := by decide +kernel
theorem dX9_sold_45 : decode cX9_sold 45 = .ok (.invokespecial 105, 3) := by decide +kernel
theorem dX9_sold_48 : decode cX9_sold 48 = .ok (.athrow, 1) := by decide +kernel
theorem dX9_sold_49 : decode cX9_sold 49 = .ok (.aload_n 0, 1) := by decide +kernel
theorem dX9_sold_50 : decode cX9_sold 50 = .ok (.getfield 33, 3) := by decide +kernel
theorem dX9_sold_53 : decode cX9_sold 53 = .ok (.getfield 258, 3) := by decide +kernel
theorem dX9_sold_56 : decode cX9_sold 56 = .ok (.iload_n 1, 1) := by decide +kernel
theorem dX9_sold_57 : decode cX9_sold 57 = .ok (.iload_n 2, 1) := by decide +kernel
theorem dX9_sold_58 : decode cX9_sold 58 = .ok (.invokevirtual 261, 3) := by decide +kernel
theorem dX9_sold_61 : decode cX9_sold 61 = .ok (.ireturn, 1) := by decide +kernel
theorem dX9_payment_0 : decode cX9_payment 0 = .ok (.aload_n 0, 1) := by decide +kernel
theorem dX9_payment_1 : decode cX9_payment 1 = .ok (.iload_n 1, 1) := by decide +kernel
theorem dX9_payment_2 : decode cX9_payment 2 = .ok (.iload_n 2, 1) := by decide +kernel
theorem dX9_payment_3 : decode cX9_payment 3 = .ok (.iload_n 3, 1) := by decide +kernel
theorem dX9_payment_4 : decode cX9_payment 4 = .ok (.iload 4, 2) := by decide +kernel
theorem dX9_payment_6 : decode cX9_payment 6 = .ok (.invokevirtual 265, 3) := by decide +kernel
theorem dX9_payment_9 : decode cX9_payment 9 = .ok (.ifCond .ne 6, 3) := by decide +kernel
theorem dX9_payment_12 : decode cX9_payment 12 = .ok (.bipush (-2), 2) := by decide +kernel
theorem dX9_payment_14 : decode cX9_payment 14 = .ok (.ireturn, 1) := by decide +kernel
theorem dX9_payment_15 : decode cX9_payment 15 = .ok (.aload_n 0, 1) := by decide +kernel
theorem dX9_payment_16 : decode cX9_payment 16 = .ok (.getfield 51, 3) := by decide +kernel
theorem dX9_payment_19 : decode cX9_payment 19 = .ok (.aload_n 0, 1) := by decide +kernel
theorem dX9_payment_20 : decode cX9_payment 20 = .ok (.getfield 33, 3) := by decide +kernel
theorem dX9_payment_23 : decode cX9_payment 23 = .ok (.iload_n 1, 1) := by decide +kernel
theorem dX9_payment_24 : decode cX9_payment 24 = .ok (.iload_n 2, 1) := by decide +kernel
theorem dX9_payment_25 : decode cX9_payment 25 = .ok (.iload_n 3, 1) := by decide +kernel
theorem dX9_payment_26 : decode cX9_payment 26 = .ok (.iload 4, 2) := by decide +kernel
theorem dX9_payment_28 : decode cX9_payment 28 = .ok (.invokevirtual 269, 3) := by decide +kernel
theorem dX9_payment_31 : decode cX9_payment 31 = .ok (.istore 5, 2) := by decide +kernel
theorem dX9_payment_33 : decode cX9_payment 33 = .ok (.iload 5, 2) := by decide +kernel
theorem dX9_payment_35 : decode cX9_payment 35 = .ok (.iconst (-1), 1) := by decide +kernel
theorem dX9_payment_36 : decode cX9_payment 36 = .ok (.if_icmp .eq 7, 3) := by decide +kernel
theorem dX9_payment_39 : decode cX9_payment 39 = .ok (.aload_n 0, 1) := by decide +kernel
theorem dX9_payment_40 : decode cX9_payment 40 = .ok (.invokevirtual 273, 3) := by decide +kernel
theorem dX9_payment_43 : decode cX9_payment 43 = .ok (.iload 5, 2) := by decide +kernel
theorem dX9_payment_45 : decode cX9_payment 45 = .ok (.ireturn, 1) := by decide +kernel
theorem dX9_payable_0 : decode cX9_payable 0 = .ok (.aload_n 0, 1) := by decide +kernel
theorem dX9_payable_1 : decode cX9_payable 1 = .ok (.getfield 33, 3) := by decide +kernel
theorem dX9_payable_4 : decode cX9_payable 4 = .ok (.iload_n 1, 1) := by decide +kernel
theorem dX9_payable_5 : decode cX9_payable 5 = .ok (.iload_n 2, 1) := by decide +kernel
theorem dX9_payable_6 : decode cX9_payable 6 = .ok (.invokevirtual 229, 3) := by decide +kernel
theorem dX9_payable_9 : decode cX9_payable 9 = .ok (.ifCond .eq 32, 3) := by decide +kernel
theorem dX9_payable_12 : decode cX9_payable 12 = .ok (.aload_n 0, 1) := by decide +kernel
theorem dX9_payable_13 : decode cX9_payable 13 = .ok (.getfield 33, 3) := by decide +kernel
theorem dX9_payable_16 : decode cX9_payable 16 = .ok (.iload_n 3, 1) := by decide +kernel
theorem dX9_payable_17 : decode cX9_payable 17 = .ok (.invokevirtual 138, 3) := by decide +kernel
theorem dX9_payable_20 : decode cX9_payable 20 = .ok (.ifCond .eq 21, 3) := by decide +kernel
theorem dX9_payable_23 : decode cX9_payable 23 = .ok (.iload 4, 2) := by decide +kernel
theorem dX9_payable_25 : decode cX9_payable 25 = .ok (.iconst 1, 1) := by decide +kernel
theorem dX9_payable_26 : decode cX9_payable 26 = .ok (.if_icmp .lt 15, 3) := by decide +kernel
theorem dX9_payable_29 : decode cX9_payable 29 = .ok (.iload 4, 2) := by decide +kernel
theorem dX9_payable_31 : decode cX9_payable 31 = .ok (.sipush 2000, 3) := by decide +kernel
theorem dX9_payable_34 : decode cX9_payable 34 = .ok (.if_icmp .gt 7, 3) := by decide +kernel
theorem dX9_payable_37 : decode cX9_payable 37 = .ok (.iconst 1, 1) := by decide +kernel
theorem dX9_payable_38 : decode cX9_payable 38 = .ok (.goto 4, 3) := by decide +kernel
theorem dX9_payable_41 : decode cX9_payable 41 = .ok (.iconst 0, 1) := by decide +kernel
theorem dX9_payable_42 : decode cX9_payable 42 = .ok (.ireturn, 1) := by decide +kernel
theorem dX9_tellPaid_0 : decode cX9_tellPaid 0 = .ok (.iconst 0, 1) := by decide +kernel
theorem dX9_tellPaid_1 : decode cX9_tellPaid 1 = .ok (.istore_n 1, 1) := by decide +kernel
theorem dX9_tellPaid_2 : decode cX9_tellPaid 2 = .ok (.iload_n 1, 1) := by decide +kernel
theorem dX9_tellPaid_3 : decode cX9_tellPaid 3 = .ok (.bipush 40, 2) := by decide +kernel
theorem dX9_tellPaid_5 : decode cX9_tellPaid 5 = .ok (.if_icmp .ge 16, 3) := by decide +kernel
theorem dX9_tellPaid_8 : decode cX9_tellPaid 8 = .ok (.aload_n 0, 1) := by decide +kernel
theorem dX9_tellPaid_9 : decode cX9_tellPaid 9 = .ok (.getfield 55, 3) := by decide +kernel
theorem dX9_tellPaid_12 : decode cX9_tellPaid 12 = .ok (.iload_n 1, 1) := by decide +kernel
theorem dX9_tellPaid_13 : decode cX9_tellPaid 13 = .ok (.iconst (-1), 1) := by decide +kernel
theorem dX9_tellPaid_14 : decode cX9_tellPaid 14 = .ok (.iastore, 1) := by decide +kernel
theorem dX9_tellPaid_15 : decode cX9_tellPaid 15 = .ok (.iinc 1 1, 3) := by decide +kernel
theorem dX9_tellPaid_18 : decode cX9_tellPaid 18 = .ok (.goto (-16), 3) := by decide +kernel
theorem dX9_tellPaid_21 : decode cX9_tellPaid 21 = .ok (.iconst 0, 1) := by decide +kernel
theorem dX9_tellPaid_22 : decode cX9_tellPaid 22 = .ok (.istore_n 1, 1) := by decide +kernel
theorem dX9_tellPaid_23 : decode cX9_tellPaid 23 = .ok (.iload_n 1, 1) := by decide +kernel
theorem dX9_tellPaid_24 : decode cX9_tellPaid 24 = .ok (.aload_n 0, 1) := by decide +kernel
theorem dX9_tellPaid_25 : decode cX9_tellPaid 25 = .ok (.getfield 51, 3) := by decide +kernel
theorem dX9_tellPaid_28 : decode cX9_tellPaid 28 = .ok (.getfield 276, 3) := by decide +kernel
theorem dX9_tellPaid_31 : decode cX9_tellPaid 31 = .ok (.if_icmp .ge 50, 3) := by decide +kernel
theorem dX9_tellPaid_34 : decode cX9_tellPaid 34 = .ok (.iload_n 1, 1) := by decide +kernel
theorem dX9_tellPaid_35 : decode cX9_tellPaid 35 = .ok (.bipush 12, 2) := by decide +kernel
theorem dX9_tellPaid_37 : decode cX9_tellPaid 37 = .ok (.if_icmp .ge 44, 3) := by decide +kernel
theorem dX9_tellPaid_40 : decode cX9_tellPaid 40 = .ok (.aload_n 0, 1) := by decide +kernel
theorem dX9_tellPaid_41 : decode cX9_tellPaid 41 = .ok (.getfield 51, 3) := by decide +kernel
theorem dX9_tellPaid_44 : decode cX9_tellPaid 44 = .ok (.getfield 279, 3) := by decide +kernel
theorem dX9_tellPaid_47 : decode cX9_tellPaid 47 = .ok (.iload_n 1, 1) := by decide +kernel
theorem dX9_tellPaid_48 : decode cX9_tellPaid 48 = .ok (.iaload, 1) := by decide +kernel
theorem dX9_tellPaid_49 : decode cX9_tellPaid 49 = .ok (.istore_n 2, 1) := by decide +kernel
theorem dX9_tellPaid_50 : decode cX9_tellPaid 50 = .ok (.iload_n 2, 1) := by decide +kernel
theorem dX9_tellPaid_51 : decode cX9_tellPaid 51 = .ok (.ifCond .lt 24, 3) := by decide +kernel
theorem dX9_tellPaid_54 : decode cX9_tellPaid 54 = .ok (.iload_n 2, 1) := by decide +kernel
theorem dX9_tellPaid_55 : decode cX9_tellPaid 55 = .ok (.bipush 40, 2) := by decide +kernel
theorem dX9_tellPaid_57 : decode cX9_tellPaid 57 = .ok (.if_icmp .ge 18, 3) := by decide +kernel
theorem dX9_tellPaid_60 : decode cX9_tellPaid 60 = .ok (.aload_n 0, 1) := by decide +kernel
theorem dX9_tellPaid_61 : decode cX9_tellPaid 61 = .ok (.getfield 55, 3) := by decide +kernel
theorem dX9_tellPaid_64 : decode cX9_tellPaid 64 = .ok (.iload_n 2, 1) := by decide +kernel
theorem dX9_tellPaid_65 : decode cX9_tellPaid 65 = .ok (.aload_n 0, 1) := by decide +kernel
theorem dX9_tellPaid_66 : decode cX9_tellPaid 66 = .ok (.getfield 51, 3) := by decide +kernel
theorem dX9_tellPaid_69 : decode cX9_tellPaid 69 = .ok (.getfield 282, 3) := by decide +kernel
theorem dX9_tellPaid_72 : decode cX9_tellPaid 72 = .ok (.iload_n 1, 1) := by decide +kernel
theorem dX9_tellPaid_73 : decode cX9_tellPaid 73 = .ok (.iaload, 1) := by decide +kernel
theorem dX9_tellPaid_74 : decode cX9_tellPaid 74 = .ok (.iastore, 1) := by decide +kernel
theorem dX9_tellPaid_75 : decode cX9_tellPaid 75 = .ok (.iinc 1 1, 3) := by decide +kernel
theorem dX9_tellPaid_78 : decode cX9_tellPaid 78 = .ok (.goto (-55), 3) := by decide +kernel
theorem dX9_tellPaid_81 : decode cX9_tellPaid 81 = .ok (.return_, 1) := by decide +kernel
theorem dX9_paid_0 : decode cX9_paid 0 = .ok (.iload_n 1, 1) := by decide +kernel
theorem dX9_paid_1 : decode cX9_paid 1 = .ok (.ifCond .lt 18, 3) := by decide +kernel
theorem dX9_paid_4 : decode cX9_paid 4 = .ok (.iload_n 1, 1) := by decide +kernel
theorem dX9_paid_5 : decode cX9_paid 5 = .ok (.bipush 40, 2) := by decide +kernel
theorem dX9_paid_7 : decode cX9_paid 7 = .ok (.if_icmp .ge 12, 3) := by decide +kernel
theorem dX9_paid_10 : decode cX9_paid 10 = .ok (.aload_n 0, 1) := by decide +kernel
theorem dX9_paid_11 : decode cX9_paid 11 = .ok (.getfield 55, 3) := by decide +kernel
theorem dX9_paid_14 : decode cX9_paid 14 = .ok (.iload_n 1, 1) := by decide +kernel
theorem dX9_paid_15 : decode cX9_paid 15 = .ok (.iaload, 1) := by decide +kernel
theorem dX9_paid_16 : decode cX9_paid 16 = .ok (.goto 4, 3) := by decide +kernel
theorem dX9_paid_19 : decode cX9_paid 19 = .ok (.iconst (-1), 1) := by decide +kernel
theorem dX9_paid_20 : decode cX9_paid 20 = .ok (.ireturn, 1) := by decide +kernel
theorem dX9_buy_0 : decode cX9_buy 0 = .ok (.aload_n 0, 1) := by decide +kernel
theorem dX9_buy_1 : decode cX9_buy 1 = .ok (.iload_n 1, 1) := by decide +kernel
theorem dX9_buy_2 : decode cX9_buy 2 = .ok (.iload_n 2, 1) := by decide +kernel
theorem dX9_buy_3 : decode cX9_buy 3 = .ok (.iload_n 3, 1) := by decide +kernel
theorem dX9_buy_4 : decode cX9_buy 4 = .ok (.iload 4, 2) := by decide +kernel
theorem dX9_buy_6 : decode cX9_buy 6 = .ok (.invokevirtual 265, 3) := by decide +kernel
theorem dX9_buy_9 : decode cX9_buy 9 = .ok (.ifCond .ne 6, 3) := by decide +kernel
theorem dX9_buy_12 : decode cX9_buy 12 = .ok (.bipush (-2), 2) := by decide +kernel
theorem dX9_buy_14 : decode cX9_buy 14 = .ok (.ireturn, 1) := by decide +kernel
theorem dX9_buy_15 : decode cX9_buy 15 = .ok (.aload_n 0, 1) := by decide +kernel
theorem dX9_buy_16 : decode cX9_buy 16 = .ok (.getfield 51, 3) := by decide +kernel
theorem dX9_buy_19 : decode cX9_buy 19 = .ok (.aload_n 0, 1) := by decide +kernel
theorem dX9_buy_20 : decode cX9_buy 20 = .ok (.getfield 33, 3) := by decide +kernel
theorem dX9_buy_23 : decode cX9_buy 23 = .ok (.iload_n 1, 1) := by decide +kernel
theorem dX9_buy_24 : decode cX9_buy 24 = .ok (.iload_n 2, 1) := by decide +kernel
theorem dX9_buy_25 : decode cX9_buy 25 = .ok (.iload_n 3, 1) := by decide +kernel
theorem dX9_buy_26 : decode cX9_buy 26 = .ok (.iload 4, 2) := by decide +kernel
theorem dX9_buy_28 : decode cX9_buy 28 = .ok (.invokevirtual 269, 3) := by decide +kernel
theorem dX9_buy_31 : decode cX9_buy 31 = .ok (.istore 5, 2) := by decide +kernel
theorem dX9_buy_33 : decode cX9_buy 33 = .ok (.iload 5, 2) := by decide +kernel
theorem dX9_buy_35 : decode cX9_buy 35 = .ok (.iconst (-1), 1) := by decide +kernel
theorem dX9_buy_36 : decode cX9_buy 36 = .ok (.if_icmp .ne 5, 3) := by decide +kernel
theorem dX9_buy_39 : decode cX9_buy 39 = .ok (.iconst (-1), 1) := by decide +kernel
theorem dX9_buy_40 : decode cX9_buy 40 = .ok (.ireturn, 1) := by decide +kernel
theorem dX9_buy_41 : decode cX9_buy 41 = .ok (.aload_n 0, 1) := by decide +kernel
theorem dX9_buy_42 : decode cX9_buy 42 = .ok (.invokevirtual 273, 3) := by decide +kernel
theorem dX9_buy_45 : decode cX9_buy 45 = .ok (.aload_n 0, 1) := by decide +kernel
theorem dX9_buy_46 : decode cX9_buy 46 = .ok (.getfield 33, 3) := by decide +kernel
theorem dX9_buy_49 : decode cX9_buy 49 = .ok (.invokevirtual 167, 3) := by decide +kernel
theorem dX9_buy_52 : decode cX9_buy 52 = .ok (.aload_n 0, 1) := by decide +kernel
theorem dX9_buy_53 : decode cX9_buy 53 = .ok (.getfield 51, 3) := by decide +kernel
theorem dX9_buy_56 : decode cX9_buy 56 = .ok (.invokevirtual 285, 3) := by decide +kernel
theorem dX9_buy_59 : decode cX9_buy 59 = .ok (.if_icmp .ge 5, 3) := by decide +kernel
theorem dX9_buy_62 : decode cX9_buy 62 = .ok (.iconst (-1), 1) := by decide +kernel
theorem dX9_buy_63 : decode cX9_buy 63 = .ok (.ireturn, 1) := by decide +kernel
theorem dX9_buy_64 : decode cX9_buy 64 = .ok (.aload_n 0, 1) := by decide +kernel
theorem dX9_buy_65 : decode cX9_buy 65 = .ok (.getfield 40, 3) := by decide +kernel
theorem dX9_buy_68 : decode cX9_buy 68 = .ok (.aload_n 0, 1) := by decide +kernel
theorem dX9_buy_69 : decode cX9_buy 69 = .ok (.getfield 33, 3) := by decide +kernel
theorem dX9_buy_72 : decode cX9_buy 72 = .ok (.getfield 117, 3) := by decide +kernel
theorem dX9_buy_75 : decode cX9_buy 75 = .ok (.invokevirtual 171, 3) := by decide +kernel
theorem dX9_buy_78 : decode cX9_buy 78 = .ok (.aload_n 0, 1) := by decide +kernel
theorem dX9_buy_79 : decode cX9_buy 79 = .ok (.getfield 51, 3) := by decide +kernel
theorem dX9_buy_82 : decode cX9_buy 82 = .ok (.aload_n 0, 1) := by decide +kernel
theorem dX9_buy_83 : decode cX9_buy 83 = .ok (.getfield 33, 3) := by decide +kernel
theorem dX9_buy_86 : decode cX9_buy 86 = .ok (.iload_n 1, 1) := by decide +kernel
theorem dX9_buy_87 : decode cX9_buy 87 = .ok (.iload_n 2, 1) := by decide +kernel
theorem dX9_buy_88 : decode cX9_buy 88 = .ok (.iload_n 3, 1) := by decide +kernel
theorem dX9_buy_89 : decode cX9_buy 89 = .ok (.iload 4, 2) := by decide +kernel
theorem dX9_buy_91 : decode cX9_buy 91 = .ok (.invokevirtual 288, 3) := by decide +kernel
theorem dX9_buy_94 : decode cX9_buy 94 = .ok (.iload 5, 2) := by decide +kernel
theorem dX9_buy_96 : decode cX9_buy 96 = .ok (.ireturn, 1) := by decide +kernel
theorem dX9_steal_0 : decode cX9_steal 0 = .ok (.aload_n 0, 1) := by decide +kernel
theorem dX9_steal_1 : decode cX9_steal 1 = .ok (.getfield 33, 3) := by decide +kernel
theorem dX9_steal_4 : decode cX9_steal 4 = .ok (.iload_n 1, 1) := by decide +kernel
theorem dX9_steal_5 : decode cX9_steal 5 = .ok (.iload_n 2, 1) := by decide +kernel
theorem dX9_steal_6 : decode cX9_steal 6 = .ok (.invokevirtual 229, 3) := by decide +kernel
theorem dX9_steal_9 : decode cX9_steal 9 = .ok (.ifCond .eq 17, 3) := by decide +kernel
theorem dX9_steal_12 : decode cX9_steal 12 = .ok (.aload_n 0, 1) := by decide +kernel
theorem dX9_steal_13 : decode cX9_steal 13 = .ok (.getfield 33, 3) := by decide +kernel
theorem dX9_steal_16 : decode cX9_steal 16 = .ok (.getfield 117, 3) := by decide +kernel
theorem dX9_steal_19 : decode cX9_steal 19 = .ok (.getfield 292, 3) := by decide +kernel
theorem dX9_steal_22 : decode cX9_steal 22 = .ok (.iconst (-1), 1) := by decide +kernel
theorem dX9_steal_23 : decode cX9_steal 23 = .ok (.if_icmp .eq 5, 3) := by decide +kernel
theorem dX9_steal_26 : decode cX9_steal 26 = .ok (.iconst 0, 1) := by decide +kernel
theorem dX9_steal_27 : decode cX9_steal 27 = .ok (.ireturn, 1) := by decide +kernel
theorem dX9_steal_28 : decode cX9_steal 28 = .ok (.aload_n 0, 1) := by decide +kernel
theorem dX9_steal_29 : decode cX9_steal 29 = .ok (.getfield 40, 3) := by decide +kernel
theorem dX9_steal_32 : decode cX9_steal 32 = .ok (.aload_n 0, 1) := by decide +kernel
theorem dX9_steal_33 : decode cX9_steal 33 = .ok (.getfield 33, 3) := by decide +kernel
theorem dX9_steal_36 : decode cX9_steal 36 = .ok (.getfield 117, 3) := by decide +kernel
theorem dX9_steal_39 : decode cX9_steal 39 = .ok (.invokevirtual 171, 3) := by decide +kernel
theorem dX9_steal_42 : decode cX9_steal 42 = .ok (.aload_n 0, 1) := by decide +kernel
theorem dX9_steal_43 : decode cX9_steal 43 = .ok (.getfield 33, 3) := by decide +kernel
theorem dX9_steal_46 : decode cX9_steal 46 = .ok (.getfield 117, 3) := by decide +kernel
theorem dX9_steal_49 : decode cX9_steal 49 = .ok (.iload_n 2, 1) := by decide +kernel
theorem dX9_steal_50 : decode cX9_steal 50 = .ok (.putfield 292, 3) := by decide +kernel
theorem dX9_steal_53 : decode cX9_steal 53 = .ok (.aload_n 0, 1) := by decide +kernel
theorem dX9_steal_54 : decode cX9_steal 54 = .ok (.getfield 33, 3) := by decide +kernel
theorem dX9_steal_57 : decode cX9_steal 57 = .ok (.getfield 117, 3) := by decide +kernel
theorem dX9_steal_60 : decode cX9_steal 60 = .ok (.iload_n 1, 1) := by decide +kernel
theorem dX9_steal_61 : decode cX9_steal 61 = .ok (.putfield 295, 3) := by decide +kernel
theorem dX9_steal_64 : decode cX9_steal 64 = .ok (.iconst 1, 1) := by decide +kernel
theorem dX9_steal_65 : decode cX9_steal 65 = .ok (.ireturn, 1) := by decide +kernel
theorem dX9_forge_0 : decode cX9_forge 0 = .ok (.aload_n 0, 1) := by decide +kernel
theorem dX9_forge_1 : decode cX9_forge 1 = .ok (.getfield 33, 3) := by decide +kernel
theorem dX9_forge_4 : decode cX9_forge 4 = .ok (.iload_n 1, 1) := by decide +kernel
theorem dX9_forge_5 : decode cX9_forge 5 = .ok (.invokevirtual 183, 3) := by decide +kernel
theorem dX9_forge_8 : decode cX9_forge 8 = .ok (.ifCond .eq 14, 3) := by decide +kernel
theorem dX9_forge_11 : decode cX9_forge 11 = .ok (.aload_n 0, 1) := by decide +kernel
theorem dX9_forge_12 : decode cX9_forge 12 = .ok (.getfield 33, 3) := by decide +kernel
theorem dX9_forge_15 : decode cX9_forge 15 = .ok (.iload_n 2, 1) := by decide +kernel
theorem dX9_forge_16 : decode cX9_forge 16 = .ok (.invokevirtual 138, 3) := by decide +kernel
theorem dX9_forge_19 : decode cX9_forge 19 = .ok (.ifCond .ne 5, 3) := by decide +kernel
theorem dX9_forge_22 : decode cX9_forge 22 = .ok (.iconst (-1), 1) := by decide +kernel
theorem dX9_forge_23 : decode cX9_forge 23 = .ok (.ireturn, 1) := by decide +kernel
theorem dX9_forge_24 : decode cX9_forge 24 = .ok (.aload_n 0, 1) := by decide +kernel
theorem dX9_forge_25 : decode cX9_forge 25 = .ok (.getfield 33, 3) := by decide +kernel
theorem dX9_forge_28 : decode cX9_forge 28 = .ok (.getfield 117, 3) := by decide +kernel
theorem dX9_forge_31 : decode cX9_forge 31 = .ok (.getfield 292, 3) := by decide +kernel
theorem dX9_forge_34 : decode cX9_forge 34 = .ok (.iconst (-1), 1) := by decide +kernel
theorem dX9_forge_35 : decode cX9_forge 35 = .ok (.if_icmp .ne 5, 3) := by decide +kernel
theorem dX9_forge_38 : decode cX9_forge 38 = .ok (.iconst 1, 1) := by decide +kernel
theorem dX9_forge_39 : decode cX9_forge 39 = .ok (.ireturn, 1) := by decide +kernel
theorem dX9_forge_40 : decode cX9_forge 40 = .ok (.aload_n 0, 1) := by decide +kernel
theorem dX9_forge_41 : decode cX9_forge 41 = .ok (.getfield 33, 3) := by decide +kernel
theorem dX9_forge_44 : decode cX9_forge 44 = .ok (.getfield 117, 3) := by decide +kernel
theorem dX9_forge_47 : decode cX9_forge 47 = .ok (.getfield 191, 3) := by decide +kernel
theorem dX9_forge_50 : decode cX9_forge 50 = .ok (.iload_n 1, 1) := by decide +kernel
theorem dX9_forge_51 : decode cX9_forge 51 = .ok (.iaload, 1) := by decide +kernel
theorem dX9_forge_52 : decode cX9_forge 52 = .ok (.aload_n 0, 1) := by decide +kernel
theorem dX9_forge_53 : decode cX9_forge 53 = .ok (.getfield 33, 3) := by decide +kernel
theorem dX9_forge_56 : decode cX9_forge 56 = .ok (.getfield 117, 3) := by decide +kernel
theorem dX9_forge_59 : decode cX9_forge 59 = .ok (.getfield 295, 3) := by decide +kernel
theorem dX9_forge_62 : decode cX9_forge 62 = .ok (.if_icmp .eq 5, 3) := by decide +kernel
theorem dX9_forge_65 : decode cX9_forge 65 = .ok (.iconst 2, 1) := by decide +kernel
theorem dX9_forge_66 : decode cX9_forge 66 = .ok (.ireturn, 1) := by decide +kernel
theorem dX9_forge_67 : decode cX9_forge 67 = .ok (.aload_n 0, 1) := by decide +kernel
theorem dX9_forge_68 : decode cX9_forge 68 = .ok (.getfield 33, 3) := by decide +kernel
theorem dX9_forge_71 : decode cX9_forge 71 = .ok (.aload_n 0, 1) := by decide +kernel
theorem dX9_forge_72 : decode cX9_forge 72 = .ok (.getfield 33, 3) := by decide +kernel
theorem dX9_forge_75 : decode cX9_forge 75 = .ok (.getfield 117, 3) := by decide +kernel
theorem dX9_forge_78 : decode cX9_forge 78 = .ok (.getfield 188, 3) := by decide +kernel
theorem dX9_forge_81 : decode cX9_forge 81 = .ok (.iload_n 1, 1) := by decide +kernel
theorem dX9_forge_82 : decode cX9_forge 82 = .ok (.iaload, 1) := by decide +kernel
theorem dX9_forge_83 : decode cX9_forge 83 = .ok (.aload_n 0, 1) := by decide +kernel
theorem dX9_forge_84 : decode cX9_forge 84 = .ok (.getfield 33, 3) := by decide +kernel
theorem dX9_forge_87 : decode cX9_forge 87 = .ok (.getfield 117, 3) := by decide +kernel
theorem dX9_forge_90 : decode cX9_forge 90 = .ok (.getfield 197, 3) := by decide +kernel
theorem dX9_forge_93 : decode cX9_forge 93 = .ok (.iload_n 1, 1) := by decide +kernel
theorem dX9_forge_94 : decode cX9_forge 94 = .ok (.iaload, 1) := by decide +kernel
theorem dX9_forge_95 : decode cX9_forge 95 = .ok (.iload_n 2, 1) := by decide +kernel
theorem dX9_forge_96 : decode cX9_forge 96 = .ok (.invokevirtual 160, 3) := by decide +kernel
theorem dX9_forge_99 : decode cX9_forge 99 = .ok (.istore_n 3, 1) := by decide +kernel
theorem dX9_forge_100 : decode cX9_forge 100 = .ok (.iload_n 3, 1) := by decide +kernel
theorem dX9_forge_101 : decode cX9_forge 101 = .ok (.ifCond .eq 5, 3) := by decide +kernel
theorem dX9_forge_104 : decode cX9_forge 104 = .ok (.iload_n 3, 1) := by decide +kernel
theorem dX9_forge_105 : decode cX9_forge 105 = .ok (.ireturn, 1) := by decide +kernel
theorem dX9_forge_106 : decode cX9_forge 106 = .ok (.aload_n 0, 1) := by decide +kernel
theorem dX9_forge_107 : decode cX9_forge 107 = .ok (.getfield 33, 3) := by decide +kernel
theorem dX9_forge_110 : decode cX9_forge 110 = .ok (.invokevirtual 167, 3) := by decide +kernel
theorem dX9_forge_113 : decode cX9_forge 113 = .ok (.iconst 1, 1) := by decide +kernel
theorem dX9_forge_114 : decode cX9_forge 114 = .ok (.if_icmp .ge 5, 3) := by decide +kernel
theorem dX9_forge_117 : decode cX9_forge 117 = .ok (.iconst (-1), 1) := by decide +kernel
theorem dX9_forge_118 : decode cX9_forge 118 = .ok (.ireturn, 1) := by decide +kernel
theorem dX9_forge_119 : decode cX9_forge 119 = .ok (.aload_n 0, 1) := by decide +kernel
theorem dX9_forge_120 : decode cX9_forge 120 = .ok (.getfield 40, 3) := by decide +kernel
theorem dX9_forge_123 : decode cX9_forge 123 = .ok (.aload_n 0, 1) := by decide +kernel
theorem dX9_forge_124 : decode cX9_forge 124 = .ok (.getfield 33, 3) := by decide +kernel
theorem dX9_forge_127 : decode cX9_forge 127 = .ok (.getfield 117, 3) := by decide +kernel
theorem dX9_forge_130 : decode cX9_forge 130 = .ok (.invokevirtual 171, 3) := by decide +kernel
theorem dX9_forge_133 : decode cX9_forge 133 = .ok (.aload_n 0, 1) := by decide +kernel
theorem dX9_forge_134 : decode cX9_forge 134 = .ok (.getfield 33, 3) := by decide +kernel
theorem dX9_forge_137 : decode cX9_forge 137 = .ok (.iload_n 1, 1) := by decide +kernel
theorem dX9_forge_138 : decode cX9_forge 138 = .ok (.aload_n 0, 1) := by decide +kernel
theorem dX9_forge_139 : decode cX9_forge 139 = .ok (.getfield 33, 3) := by decide +kernel
theorem dX9_forge_142 : decode cX9_forge 142 = .ok (.getfield 117, 3) := by decide +kernel
theorem dX9_forge_145 : decode cX9_forge 145 = .ok (.getfield 292, 3) := by decide +kernel
theorem dX9_forge_148 : decode cX9_forge 148 = .ok (.iload_n 2, 1) := by decide +kernel
theorem dX9_forge_149 : decode cX9_forge 149 = .ok (.iconst (-1), 1) := by decide +kernel
theorem dX9_forge_150 : decode cX9_forge 150 = .ok (.iconst 1, 1) := by decide +kernel
theorem dX9_forge_151 : decode cX9_forge 151 = .ok (.invokevirtual 179, 3) := by decide +kernel
theorem dX9_forge_154 : decode cX9_forge 154 = .ok (.iconst 0, 1) := by decide +kernel
theorem dX9_forge_155 : decode cX9_forge 155 = .ok (.ireturn, 1) := by decide +kernel
theorem dX9_day_0 : decode cX9_day 0 = .ok (.aload_n 0, 1) := by decide +kernel
theorem dX9_day_1 : decode cX9_day 1 = .ok (.getfield 33, 3) := by decide +kernel
theorem dX9_day_4 : decode cX9_day 4 = .ok (.getfield 117, 3) := by decide +kernel
theorem dX9_day_7 : decode cX9_day 7 = .ok (.getfield 298, 3) := by decide +kernel
theorem dX9_day_10 : decode cX9_day 10 = .ok (.sipush 9999, 3) := by decide +kernel
theorem dX9_day_13 : decode cX9_day 13 = .ok (.if_icmp .lt 5, 3) := by decide +kernel
theorem dX9_day_16 : decode cX9_day 16 = .ok (.iconst (-1), 1) := by decide +kernel
theorem dX9_day_17 : decode cX9_day 17 = .ok (.ireturn, 1) := by decide +kernel
theorem dX9_day_18 : decode cX9_day 18 = .ok (.aload_n 0, 1) := by decide +kernel
theorem dX9_day_19 : decode cX9_day 19 = .ok (.getfield 40, 3) := by decide +kernel
theorem dX9_day_22 : decode cX9_day 22 = .ok (.aload_n 0, 1) := by decide +kernel
theorem dX9_day_23 : decode cX9_day 23 = .ok (.getfield 33, 3) := by decide +kernel
theorem dX9_day_26 : decode cX9_day 26 = .ok (.getfield 117, 3) := by decide +kernel
theorem dX9_day_29 : decode cX9_day 29 = .ok (.invokevirtual 171, 3) := by decide +kernel
theorem dX9_day_32 : decode cX9_day 32 = .ok (.aload_n 0, 1) := by decide +kernel
theorem dX9_day_33 : decode cX9_day 33 = .ok (.getfield 33, 3) := by decide +kernel
theorem dX9_day_36 : decode cX9_day 36 = .ok (.getfield 117, 3) := by decide +kernel
theorem dX9_day_39 : decode cX9_day 39 = .ok (.dup, 1) := by decide +kernel
theorem dX9_day_40 : decode cX9_day 40 = .ok (.getfield 298, 3) := by decide +kernel
theorem dX9_day_43 : decode cX9_day 43 = .ok (.iconst 1, 1) := by decide +kernel
theorem dX9_day_44 : decode cX9_day 44 = .ok (.iadd, 1) := by decide +kernel
theorem dX9_day_45 : decode cX9_day 45 = .ok (.putfield 298, 3) := by decide +kernel
theorem dX9_day_48 : decode cX9_day 48 = .ok (.aload_n 0, 1) := by decide +kernel
theorem dX9_day_49 : decode cX9_day 49 = .ok (.getfield 33, 3) := by decide +kernel
theorem dX9_day_52 : decode cX9_day 52 = .ok (.getfield 117, 3) := by decide +kernel
theorem dX9_day_55 : decode cX9_day 55 = .ok (.invokevirtual 301, 3) := by decide +kernel
theorem dX9_day_58 : decode cX9_day 58 = .ok (.aload_n 0, 1) := by decide +kernel
theorem dX9_day_59 : decode cX9_day 59 = .ok (.getfield 33, 3) := by decide +kernel
theorem dX9_day_62 : decode cX9_day 62 = .ok (.getfield 117, 3) := by decide +kernel
theorem dX9_day_65 : decode cX9_day 65 = .ok (.getfield 298, 3) := by decide +kernel
theorem dX9_day_68 : decode cX9_day 68 = .ok (.ireturn, 1) := by decide +kernel
theorem dX9_rob_0 : decode cX9_rob 0 = .ok (.aload_n 0, 1) := by decide +kernel
theorem dX9_rob_1 : decode cX9_rob 1 = .ok (.getfield 33, 3) := by decide +kernel
theorem dX9_rob_4 : decode cX9_rob 4 = .ok (.iload_n 1, 1) := by decide +kernel
theorem dX9_rob_5 : decode cX9_rob 5 = .ok (.invokevirtual 157, 3) := by decide +kernel
theorem dX9_rob_8 : decode cX9_rob 8 = .ok (.ifCond .eq 30, 3) := by decide +kernel
theorem dX9_rob_11 : decode cX9_rob 11 = .ok (.aload_n 0, 1) := by decide +kernel
theorem dX9_rob_12 : decode cX9_rob 12 = .ok (.getfield 33, 3) := by decide +kernel
theorem dX9_rob_15 : decode cX9_rob 15 = .ok (.iload_n 2, 1) := by decide +kernel
theorem dX9_rob_16 : decode cX9_rob 16 = .ok (.invokevirtual 183, 3) := by decide +kernel
theorem dX9_rob_19 : decode cX9_rob 19 = .ok (.ifCond .eq 19, 3) := by decide +kernel
theorem dX9_rob_22 : decode cX9_rob 22 = .ok (.aload_n 0, 1) := by decide +kernel
theorem dX9_rob_23 : decode cX9_rob 23 = .ok (.getfield 33, 3) := by decide +kernel
theorem dX9_rob_26 : decode cX9_rob 26 = .ok (.getfield 117, 3) := by decide +kernel
theorem dX9_rob_29 : decode cX9_rob 29 = .ok (.getfield 191, 3) := by decide +kernel
theorem dX9_rob_32 : decode cX9_rob 32 = .ok (.iload_n 2, 1) := by decide +kernel
theorem dX9_rob_33 : decode cX9_rob 33 = .ok (.iaload, 1) := by decide +kernel
theorem dX9_rob_34 : decode cX9_rob 34 = .ok (.iload_n 1, 1) := by decide +kernel
theorem dX9_rob_35 : decode cX9_rob 35 = .ok (.if_icmp .ne 5, 3) := by decide +kernel
theorem dX9_rob_38 : decode cX9_rob 38 = .ok (.iconst 0, 1) := by decide +kernel
theorem dX9_rob_39 : decode cX9_rob 39 = .ok (.ireturn, 1) := by decide +kernel
theorem dX9_rob_40 : decode cX9_rob 40 = .ok (.aload_n 0, 1) := by decide +kernel
theorem dX9_rob_41 : decode cX9_rob 41 = .ok (.getfield 40, 3) := by decide +kernel
theorem dX9_rob_44 : decode cX9_rob 44 = .ok (.aload_n 0, 1) := by decide +kernel
theorem dX9_rob_45 : decode cX9_rob 45 = .ok (.getfield 33, 3) := by decide +kernel
theorem dX9_rob_48 : decode cX9_rob 48 = .ok (.getfield 117, 3) := by decide +kernel
theorem dX9_rob_51 : decode cX9_rob 51 = .ok (.invokevirtual 171, 3) := by decide +kernel
theorem dX9_rob_54 : decode cX9_rob 54 = .ok (.aload_n 0, 1) := by decide +kernel
theorem dX9_rob_55 : decode cX9_rob 55 = .ok (.getfield 33, 3) := by decide +kernel
theorem dX9_rob_58 : decode cX9_rob 58 = .ok (.getfield 117, 3) := by decide +kernel
theorem dX9_rob_61 : decode cX9_rob 61 = .ok (.getfield 191, 3) := by decide +kernel
theorem dX9_rob_64 : decode cX9_rob 64 = .ok (.iload_n 2, 1) := by decide +kernel
theorem dX9_rob_65 : decode cX9_rob 65 = .ok (.iload_n 1, 1) := by decide +kernel
theorem dX9_rob_66 : decode cX9_rob 66 = .ok (.iastore, 1) := by decide +kernel
theorem dX9_rob_67 : decode cX9_rob 67 = .ok (.iconst 1, 1) := by decide +kernel
theorem dX9_rob_68 : decode cX9_rob 68 = .ok (.ireturn, 1) := by decide +kernel
theorem dX9_dies_0 : decode cX9_dies 0 = .ok (.aload_n 0, 1) := by decide +kernel
theorem dX9_dies_1 : decode cX9_dies 1 = .ok (.getfield 33, 3) := by decide +kernel
theorem dX9_dies_4 : decode cX9_dies 4 = .ok (.iload_n 1, 1) := by decide +kernel
theorem dX9_dies_5 : decode cX9_dies 5 = .ok (.iload_n 2, 1) := by decide +kernel
theorem dX9_dies_6 : decode cX9_dies 6 = .ok (.invokevirtual 229, 3) := by decide +kernel
theorem dX9_dies_9 : decode cX9_dies 9 = .ok (.ifCond .ne 5, 3) := by decide +kernel
theorem dX9_dies_12 : decode cX9_dies 12 = .ok (.iconst (-1), 1) := by decide +kernel
theorem dX9_dies_13 : decode cX9_dies 13 = .ok (.ireturn, 1) := by decide +kernel
theorem dX9_dies_14 : decode cX9_dies 14 = .ok (.aload_n 0, 1) := by decide +kernel
theorem dX9_dies_15 : decode cX9_dies 15 = .ok (.getfield 40, 3) := by decide +kernel
theorem dX9_dies_18 : decode cX9_dies 18 = .ok (.aload_n 0, 1) := by decide +kernel
theorem dX9_dies_19 : decode cX9_dies 19 = .ok (.getfield 33, 3) := by decide +kernel
theorem dX9_dies_22 : decode cX9_dies 22 = .ok (.getfield 117, 3) := by decide +kernel
theorem dX9_dies_25 : decode cX9_dies 25 = .ok (.invokevirtual 171, 3) := by decide +kernel
theorem dX9_dies_28 : decode cX9_dies 28 = .ok (.aload_n 0, 1) := by decide +kernel
theorem dX9_dies_29 : decode cX9_dies 29 = .ok (.getfield 33, 3) := by decide +kernel
theorem dX9_dies_32 : decode cX9_dies 32 = .ok (.getfield 117, 3) := by decide +kernel
theorem dX9_dies_35 : decode cX9_dies 35 = .ok (.getfield 292, 3) := by decide +kernel
theorem dX9_dies_38 : decode cX9_dies 38 = .ok (.iload_n 1, 1) := by decide +kernel
theorem dX9_dies_39 : decode cX9_dies 39 = .ok (.if_icmp .eq 17, 3) := by decide +kernel
theorem dX9_dies_42 : decode cX9_dies 42 = .ok (.aload_n 0, 1) := by decide +kernel
theorem dX9_dies_43 : decode cX9_dies 43 = .ok (.getfield 33, 3) := by decide +kernel
theorem dX9_dies_46 : decode cX9_dies 46 = .ok (.getfield 117, 3) := by decide +kernel
theorem dX9_dies_49 : decode cX9_dies 49 = .ok (.getfield 295, 3) := by decide +kernel
theorem dX9_dies_52 : decode cX9_dies 52 = .ok (.iload_n 1, 1) := by decide +kernel
theorem dX9_dies_53 : decode cX9_dies 53 = .ok (.if_icmp .ne 13, 3) := by decide +kernel
theorem dX9_dies_56 : decode cX9_dies 56 = .ok (.aload_n 0, 1) := by decide +kernel
theorem dX9_dies_57 : decode cX9_dies 57 = .ok (.getfield 33, 3) := by decide +kernel
theorem dX9_dies_60 : decode cX9_dies 60 = .ok (.getfield 117, 3) := by decide +kernel
theorem dX9_dies_63 : decode cX9_dies 63 = .ok (.invokevirtual 301, 3) := by decide +kernel
theorem dX9_dies_66 : decode cX9_dies 66 = .ok (.aload_n 0, 1) := by decide +kernel
theorem dX9_dies_67 : decode cX9_dies 67 = .ok (.getfield 33, 3) := by decide +kernel
theorem dX9_dies_70 : decode cX9_dies 70 = .ok (.getfield 117, 3) := by decide +kernel
theorem dX9_dies_73 : decode cX9_dies 73 = .ok (.iload_n 1, 1) := by decide +kernel
theorem dX9_dies_74 : decode cX9_dies 74 = .ok (.invokevirtual 304, 3) := by decide +kernel
theorem dX9_dies_77 : decode cX9_dies 77 = .ok (.aload_n 0, 1) := by decide +kernel
theorem dX9_dies_78 : decode cX9_dies 78 = .ok (.getfield 33, 3) := by decide +kernel
theorem dX9_dies_81 : decode cX9_dies 81 = .ok (.getfield 117, 3) := by decide +kernel
theorem dX9_dies_84 : decode cX9_dies 84 = .ok (.iload_n 1, 1) := by decide +kernel
theorem dX9_dies_85 : decode cX9_dies 85 = .ok (.iload_n 2, 1) := by decide +kernel
theorem dX9_dies_86 : decode cX9_dies 86 = .ok (.invokevirtual 307, 3) := by decide +kernel
theorem dX9_dies_89 : decode cX9_dies 89 = .ok (.ireturn, 1) := by decide +kernel
theorem dX9_close_0 : decode cX9_close 0 = .ok (.aload_n 0, 1) := by decide +kernel
theorem dX9_close_1 : decode cX9_close 1 = .ok (.getfield 33, 3) := by decide +kernel
theorem dX9_close_4 : decode cX9_close 4 = .ok (.iload_n 1, 1) := by decide +kernel
theorem dX9_close_5 : decode cX9_close 5 = .ok (.invokevirtual 138, 3) := by decide +kernel
theorem dX9_close_8 : decode cX9_close 8 = .ok (.ifCond .eq 17, 3) := by decide +kernel
theorem dX9_close_11 : decode cX9_close 11 = .ok (.aload_n 0, 1) := by decide +kernel
theorem dX9_close_12 : decode cX9_close 12 = .ok (.getfield 33, 3) := by decide +kernel
theorem dX9_close_15 : decode cX9_close 15 = .ok (.getfield 117, 3) := by decide +kernel
theorem dX9_close_18 : decode cX9_close 18 = .ok (.iload_n 1, 1) := by decide +kernel
theorem dX9_close_19 : decode cX9_close 19 = .ok (.invokevirtual 149, 3) := by decide +kernel
theorem dX9_close_22 : decode cX9_close 22 = .ok (.ifCond .eq 5, 3) := by decide +kernel
theorem dX9_close_25 : decode cX9_close 25 = .ok (.iconst 0, 1) := by decide +kernel
theorem dX9_close_26 : decode cX9_close 26 = .ok (.ireturn, 1) := by decide +kernel
theorem dX9_close_27 : decode cX9_close 27 = .ok (.aload_n 0, 1) := by decide +kernel
theorem dX9_close_28 : decode cX9_close 28 = .ok (.getfield 40, 3) := by decide +kernel
theorem dX9_close_31 : decode cX9_close 31 = .ok (.aload_n 0, 1) := by decide +kernel
theorem dX9_close_32 : decode cX9_close 32 = .ok (.getfield 33, 3) := by decide +kernel
theorem dX9_close_35 : decode cX9_close 35 = .ok (.getfield 117, 3) := by decide +kernel
theorem dX9_close_38 : decode cX9_close 38 = .ok (.invokevirtual 171, 3) := by decide +kernel
theorem dX9_close_41 : decode cX9_close 41 = .ok (.aload_n 0, 1) := by decide +kernel
theorem dX9_close_42 : decode cX9_close 42 = .ok (.getfield 33, 3) := by decide +kernel
theorem dX9_close_45 : decode cX9_close 45 = .ok (.getfield 117, 3) := by decide +kernel
theorem dX9_close_48 : decode cX9_close 48 = .ok (.iload_n 1, 1) := by decide +kernel
theorem dX9_close_49 : decode cX9_close 49 = .ok (.invokevirtual 310, 3) := by decide +kernel
theorem dX9_close_52 : decode cX9_close 52 = .ok (.iconst 1, 1) := by decide +kernel
theorem dX9_close_53 : decode cX9_close 53 = .ok (.ireturn, 1) := by decide +kernel
theorem dX9_strokes_0 : decode cX9_strokes 0 = .ok (.aload_n 0, 1) := by decide +kernel
theorem dX9_strokes_1 : decode cX9_strokes 1 = .ok (.getfield 33, 3) := by decide +kernel
theorem dX9_strokes_4 : decode cX9_strokes 4 = .ok (.getfield 117, 3) := by decide +kernel
theorem dX9_strokes_7 : decode cX9_strokes 7 = .ok (.getfield 313, 3) := by decide +kernel
theorem dX9_strokes_10 : decode cX9_strokes 10 = .ok (.ireturn, 1) := by decide +kernel
theorem dX9_stroke_0 : decode cX9_stroke 0 = .ok (.iload_n 1, 1) := by decide +kernel
theorem dX9_stroke_1 : decode cX9_stroke 1 = .ok (.ifCond .lt 17, 3) := by decide +kernel
theorem dX9_stroke_4 : decode cX9_stroke 4 = .ok (.iload_n 1, 1) := by decide +kernel
theorem dX9_stroke_5 : decode cX9_stroke 5 = .ok (.aload_n 0, 1) := by decide +kernel
theorem dX9_stroke_6 : decode cX9_stroke 6 = .ok (.getfield 33, 3) := by decide +kernel
theorem dX9_stroke_9 : decode cX9_stroke 9 = .ok (.getfield 117, 3) := by decide +kernel
theorem dX9_stroke_12 : decode cX9_stroke 12 = .ok (.getfield 313, 3) := by decide +kernel
theorem dX9_stroke_15 : decode cX9_stroke 15 = .ok (.if_icmp .lt 14, 3) := by decide +kernel
theorem dX9_stroke_18 : decode cX9_stroke 18 = .ok (.new 101, 3) := by decide +kernel
theorem dX9_stroke_21 : decode cX9_stroke 21 = .ok (.dup, 1) := by decide +kernel
theorem dX9_stroke_22 : decode cX9_stroke 22 = .ok (.ldc_w 316, 3) := by decide +kernel
theorem dX9_stroke_25 : decode cX9_stroke 25 = .ok (.invokespecial 105, 3) := by decide +kernel
theorem dX9_stroke_28 : decode cX9_stroke 28 = .ok (.athrow, 1) := by decide +kernel
theorem dX9_stroke_29 : decode cX9_stroke 29 = .ok (.iload_n 2, 1) := by decide +kernel
theorem dX9_stroke_30 : decode cX9_stroke 30 = .ok (.ifCond .lt 9, 3) := by decide +kernel
theorem dX9_stroke_33 : decode cX9_stroke 33 = .ok (.iload_n 2, 1) := by decide +kernel
theorem dX9_stroke_34 : decode cX9_stroke 34 = .ok (.bipush 6, 2) := by decide +kernel
theorem dX9_stroke_36 : decode cX9_stroke 36 = .ok (.if_icmp .le 14, 3) := by decide +kernel
theorem dX9_stroke_39 : decode cX9_stroke 39 = .ok (.new 101, 3) := by decide +kernel
theorem dX9_stroke_42 : decode cX9_stroke 42 = .ok (.dup, 1) := by decide +kernel
theorem dX9_stroke_43 : decode cX9_stroke 43 = .ok (.ldc_w 318, 3) := by decide +kernel
theorem dX9_stroke_46 : decode cX9_stroke 46 = .ok (.invokespecial 105, 3) := by decide +kernel
theorem dX9_stroke_49 : decode cX9_stroke 49 = .ok (.athrow, 1) := by decide +kernel
theorem dX9_stroke_50 : decode cX9_stroke 50 = .ok (.iload_n 2, 1) := by decide +kernel
theorem dX9_stroke_51 : decode cX9_stroke 51 = .ok (.bipush 6, 2) := by decide +kernel
theorem dX9_stroke_53 : decode cX9_stroke 53 = .ok (.if_icmp .ne 20, 3) := by decide +kernel
theorem dX9_stroke_56 : decode cX9_stroke 56 = .ok (.aload_n 0, 1) := by decide +kernel
theorem dX9_stroke_57 : decode cX9_stroke 57 = .ok (.getfield 33, 3) := by decide +kernel
theorem dX9_stroke_60 : decode cX9_stroke 60 = .ok (.iload_n 1, 1) := by decide +kernel
theorem dX9_stroke_61 : decode cX9_stroke 61 = .ok (.invokevirtual 320, 3) := by decide +kernel
theorem dX9_stroke_64 : decode cX9_stroke 64 = .ok (.ifCond .eq 7, 3) := by decide +kernel
theorem dX9_stroke_67 : decode cX9_stroke 67 = .ok (.iconst 1, 1) := by decide +kernel
theorem dX9_stroke_68 : decode cX9_stroke 68 = .ok (.goto 4, 3) := by decide +kernel
theorem dX9_stroke_71 : decode cX9_stroke 71 = .ok (.iconst 0, 1) := by decide +kernel
theorem dX9_stroke_72 : decode cX9_stroke 72 = .ok (.ireturn, 1) := by decide +kernel
theorem dX9_stroke_73 : decode cX9_stroke 73 = .ok (.aload_n 0, 1) := by decide +kernel
theorem dX9_stroke_74 : decode cX9_stroke 74 = .ok (.getfield 33, 3) := by decide +kernel
theorem dX9_stroke_77 : decode cX9_stroke 77 = .ok (.getfield 323, 3) := by decide +kernel
theorem dX9_stroke_80 : decode cX9_stroke 80 = .ok (.iload_n 1, 1) := by decide +kernel
theorem dX9_stroke_81 : decode cX9_stroke 81 = .ok (.iload_n 2, 1) := by decide +kernel
theorem dX9_stroke_82 : decode cX9_stroke 82 = .ok (.invokevirtual 261, 3) := by decide +kernel
theorem dX9_stroke_85 : decode cX9_stroke 85 = .ok (.ireturn, 1) := by decide +kernel
theorem dX9_foreign_0 : decode cX9_foreign 0 = .ok (.iconst 0, 1) := by decide +kernel
theorem dX9_foreign_1 : decode cX9_foreign 1 = .ok (.istore_n 2, 1) := by decide +kernel
theorem dX9_foreign_2 : decode cX9_foreign 2 = .ok (.iconst 0, 1) := by decide +kernel
theorem dX9_foreign_3 : decode cX9_foreign 3 = .ok (.istore_n 3, 1) := by decide +kernel
theorem dX9_foreign_4 : decode cX9_foreign 4 = .ok (.iload_n 3, 1) := by decide +kernel
theorem dX9_foreign_5 : decode cX9_foreign 5 = .ok (.aload_n 0, 1) := by decide +kernel
theorem dX9_foreign_6 : decode cX9_foreign 6 = .ok (.getfield 33, 3) := by decide +kernel
theorem dX9_foreign_9 : decode cX9_foreign 9 = .ok (.getfield 117, 3) := by decide +kernel
theorem dX9_foreign_12 : decode cX9_foreign 12 = .ok (.getfield 164, 3) := by decide +kernel
theorem dX9_foreign_15 : decode cX9_foreign 15 = .ok (.if_icmp .ge 48, 3) := by decide +kernel
theorem dX9_foreign_18 : decode cX9_foreign 18 = .ok (.iload_n 3, 1) := by decide +kernel
theorem dX9_foreign_19 : decode cX9_foreign 19 = .ok (.bipush 40, 2) := by decide +kernel
theorem dX9_foreign_21 : decode cX9_foreign 21 = .ok (.if_icmp .ge 42, 3) := by decide +kernel
theorem dX9_foreign_24 : decode cX9_foreign 24 = .ok (.aload_n 0, 1) := by decide +kernel
theorem dX9_foreign_25 : decode cX9_foreign 25 = .ok (.getfield 33, 3) := by decide +kernel
theorem dX9_foreign_28 : decode cX9_foreign 28 = .ok (.getfield 117, 3) := by decide +kernel
theorem dX9_foreign_31 : decode cX9_foreign 31 = .ok (.getfield 191, 3) := by decide +kernel
theorem dX9_foreign_34 : decode cX9_foreign 34 = .ok (.iload_n 3, 1) := by decide +kernel
theorem dX9_foreign_35 : decode cX9_foreign 35 = .ok (.iaload, 1) := by decide +kernel
theorem dX9_foreign_36 : decode cX9_foreign 36 = .ok (.aload_n 0, 1) := by decide +kernel
theorem dX9_foreign_37 : decode cX9_foreign 37 = .ok (.getfield 33, 3) := by decide +kernel
theorem dX9_foreign_40 : decode cX9_foreign 40 = .ok (.iload_n 3, 1) := by decide +kernel
theorem dX9_foreign_41 : decode cX9_foreign 41 = .ok (.invokevirtual 214, 3) := by decide +kernel
theorem dX9_foreign_44 : decode cX9_foreign 44 = .ok (.if_icmp .eq 13, 3) := by decide +kernel
theorem dX9_foreign_47 : decode cX9_foreign 47 = .ok (.iload_n 2, 1) := by decide +kernel
theorem dX9_foreign_48 : decode cX9_foreign 48 = .ok (.iload_n 1, 1) := by decide +kernel
theorem dX9_foreign_49 : decode cX9_foreign 49 = .ok (.if_icmp .ne 5, 3) := by decide +kernel
theorem dX9_foreign_52 : decode cX9_foreign 52 = .ok (.iload_n 3, 1) := by decide +kernel
theorem dX9_foreign_53 : decode cX9_foreign 53 = .ok (.ireturn, 1) := by decide +kernel
theorem dX9_foreign_54 : decode cX9_foreign 54 = .ok (.iinc 2 1, 3) := by decide +kernel
theorem dX9_foreign_57 : decode cX9_foreign 57 = .ok (.iinc 3 1, 3) := by decide +kernel
theorem dX9_foreign_60 : decode cX9_foreign 60 = .ok (.goto (-56), 3) := by decide +kernel
theorem dX9_foreign_63 : decode cX9_foreign 63 = .ok (.iload_n 1, 1) := by decide +kernel
theorem dX9_foreign_64 : decode cX9_foreign 64 = .ok (.iconst (-1), 1) := by decide +kernel
theorem dX9_foreign_65 : decode cX9_foreign 65 = .ok (.if_icmp .ne 7, 3) := by decide +kernel
theorem dX9_foreign_68 : decode cX9_foreign 68 = .ok (.iload_n 2, 1) := by decide +kernel
theorem dX9_foreign_69 : decode cX9_foreign 69 = .ok (.goto 4, 3) := by decide +kernel
theorem dX9_foreign_72 : decode cX9_foreign 72 = .ok (.iconst (-1), 1) := by decide +kernel
theorem dX9_foreign_73 : decode cX9_foreign 73 = .ok (.ireturn, 1) := by decide +kernel
theorem dX9_silver_0 : decode cX9_silver 0 = .ok (.aload_n 0, 1) := by decide +kernel
theorem dX9_silver_1 : decode cX9_silver 1 = .ok (.getfield 33, 3) := by decide +kernel
theorem dX9_silver_4 : decode cX9_silver 4 = .ok (.getfield 117, 3) := by decide +kernel
theorem dX9_silver_7 : decode cX9_silver 7 = .ok (.invokevirtual 325, 3) := by decide +kernel
theorem dX9_silver_10 : decode cX9_silver 10 = .ok (.istore_n 2, 1) := by decide +kernel
theorem dX9_silver_11 : decode cX9_silver 11 = .ok (.iload_n 1, 1) := by decide +kernel
theorem dX9_silver_12 : decode cX9_silver 12 = .ok (.tableswitch 54 0 2 #[28, 39, 41], 28) := by decide +kernel
theorem dX9_silver_40 : decode cX9_silver 40 = .ok (.aload_n 0, 1) := by decide +kernel
theorem dX9_silver_41 : decode cX9_silver 41 = .ok (.getfield 33, 3) := by decide +kernel
theorem dX9_silver_44 : decode cX9_silver 44 = .ok (.getfield 117, 3) := by decide +kernel
theorem dX9_silver_47 : decode cX9_silver 47 = .ok (.getfield 328, 3) := by decide +kernel
theorem dX9_silver_50 : decode cX9_silver 50 = .ok (.ireturn, 1) := by decide +kernel
theorem dX9_silver_51 : decode cX9_silver 51 = .ok (.iload_n 2, 1) := by decide +kernel
theorem dX9_silver_52 : decode cX9_silver 52 = .ok (.ireturn, 1) := by decide +kernel
theorem dX9_silver_53 : decode cX9_silver 53 = .ok (.aload_n 0, 1) := by decide +kernel
theorem dX9_silver_54 : decode cX9_silver 54 = .ok (.getfield 33, 3) := by decide +kernel
theorem dX9_silver_57 : decode cX9_silver 57 = .ok (.getfield 117, 3) := by decide +kernel
theorem dX9_silver_60 : decode cX9_silver 60 = .ok (.getfield 328, 3) := by decide +kernel
theorem dX9_silver_63 : decode cX9_silver 63 = .ok (.iload_n 2, 1) := by decide +kernel
theorem dX9_silver_64 : decode cX9_silver 64 = .ok (.isub, 1) := by decide +kernel
theorem dX9_silver_65 : decode cX9_silver 65 = .ok (.ireturn, 1) := by decide +kernel
theorem dX9_silver_66 : decode cX9_silver 66 = .ok (.iconst (-1), 1) := by decide +kernel
theorem dX9_silver_67 : decode cX9_silver 67 = .ok (.ireturn, 1) := by decide +kernel
theorem dX9_rows_0 : decode cX9_rows 0 = .ok (.aload_n 0, 1) := by decide +kernel
theorem dX9_rows_1 : decode cX9_rows 1 = .ok (.getfield 33, 3) := by decide +kernel
theorem dX9_rows_4 : decode cX9_rows 4 = .ok (.iload_n 1, 1) := by decide +kernel
theorem dX9_rows_5 : decode cX9_rows 5 = .ok (.invokevirtual 183, 3) := by decide +kernel
theorem dX9_rows_8 : decode cX9_rows 8 = .ok (.ifCond .eq 15, 3) := by decide +kernel
theorem dX9_rows_11 : decode cX9_rows 11 = .ok (.iload_n 2, 1) := by decide +kernel
theorem dX9_rows_12 : decode cX9_rows 12 = .ok (.iconst 1, 1) := by decide +kernel
theorem dX9_rows_13 : decode cX9_rows 13 = .ok (.if_icmp .lt 10, 3) := by decide +kernel
theorem dX9_rows_16 : decode cX9_rows 16 = .ok (.iload_n 2, 1) := by decide +kernel
theorem dX9_rows_17 : decode cX9_rows 17 = .ok (.sipush 9999, 3) := by decide +kernel
theorem dX9_rows_20 : decode cX9_rows 20 = .ok (.if_icmp .le 5, 3) := by decide +kernel
theorem dX9_rows_23 : decode cX9_rows 23 = .ok (.iconst (-1), 1) := by decide +kernel
theorem dX9_rows_24 : decode cX9_rows 24 = .ok (.ireturn, 1) := by decide +kernel
theorem dX9_rows_25 : decode cX9_rows 25 = .ok (.iload_n 3, 1) := by decide +kernel
theorem dX9_rows_26 : decode cX9_rows 26 = .ok (.iconst 1, 1) := by decide +kernel
theorem dX9_rows_27 : decode cX9_rows 27 = .ok (.if_icmp .lt 9, 3) := by decide +kernel
theorem dX9_rows_30 : decode cX9_rows 30 = .ok (.iload_n 3, 1) := by decide +kernel
theorem dX9_rows_31 : decode cX9_rows 31 = .ok (.bipush 9, 2) := by decide +kernel
theorem dX9_rows_33 : decode cX9_rows 33 = .ok (.if_icmp .le 5, 3) := by decide +kernel
theorem dX9_rows_36 : decode cX9_rows 36 = .ok (.iconst (-1), 1) := by decide +kernel
theorem dX9_rows_37 : decode cX9_rows 37 = .ok (.ireturn, 1) := by decide +kernel
theorem dX9_rows_38 : decode cX9_rows 38 = .ok (.aload_n 0, 1) := by decide +kernel
theorem dX9_rows_39 : decode cX9_rows 39 = .ok (.getfield 33, 3) := by decide +kernel
theorem dX9_rows_42 : decode cX9_rows 42 = .ok (.getfield 108, 3) := by decide +kernel
theorem dX9_rows_45 : decode cX9_rows 45 = .ok (.iload_n 3, 1) := by decide +kernel
theorem dX9_rows_46 : decode cX9_rows 46 = .ok (.invokestatic 331, 3) := by decide +kernel
theorem dX9_rows_49 : decode cX9_rows 49 = .ok (.ifCond .eq 6, 3) := by decide +kernel
theorem dX9_rows_52 : decode cX9_rows 52 = .ok (.bipush (-2), 2) := by decide +kernel
theorem dX9_rows_54 : decode cX9_rows 54 = .ok (.ireturn, 1) := by decide +kernel
theorem dX9_rows_55 : decode cX9_rows 55 = .ok (.aload_n 0, 1) := by decide +kernel
theorem dX9_rows_56 : decode cX9_rows 56 = .ok (.getfield 62, 3) := by decide +kernel
theorem dX9_rows_59 : decode cX9_rows 59 = .ok (.aload_n 0, 1) := by decide +kernel
theorem dX9_rows_60 : decode cX9_rows 60 = .ok (.getfield 33, 3) := by decide +kernel
theorem dX9_rows_63 : decode cX9_rows 63 = .ok (.iload_n 1, 1) := by decide +kernel
theorem dX9_rows_64 : decode cX9_rows 64 = .ok (.iload_n 2, 1) := by decide +kernel
theorem dX9_rows_65 : decode cX9_rows 65 = .ok (.iload_n 3, 1) := by decide +kernel
theorem dX9_rows_66 : decode cX9_rows 66 = .ok (.invokevirtual 335, 3) := by decide +kernel
theorem dX9_rows_69 : decode cX9_rows 69 = .ok (.ireturn, 1) := by decide +kernel
theorem dX9_could_0 : decode cX9_could 0 = .ok (.iload_n 1, 1) := by decide +kernel
theorem dX9_could_1 : decode cX9_could 1 = .ok (.ifCond .lt 20, 3) := by decide +kernel
theorem dX9_could_4 : decode cX9_could 4 = .ok (.iload_n 1, 1) := by decide +kernel
theorem dX9_could_5 : decode cX9_could 5 = .ok (.aload_n 0, 1) := by decide +kernel
theorem dX9_could_6 : decode cX9_could 6 = .ok (.getfield 62, 3) := by decide +kernel
theorem dX9_could_9 : decode cX9_could 9 = .ok (.getfield 338, 3) := by decide +kernel
theorem dX9_could_12 : decode cX9_could 12 = .ok (.if_icmp .ge 9, 3) := by decide +kernel
theorem dX9_could_15 : decode cX9_could 15 = .ok (.iload_n 1, 1) := by decide +kernel
theorem dX9_could_16 : decode cX9_could 16 = .ok (.bipush 9, 2) := by decide +kernel
theorem dX9_could_18 : decode cX9_could 18 = .ok (.if_icmp .lt 5, 3) := by decide +kernel
theorem dX9_could_21 : decode cX9_could 21 = .ok (.iconst (-1), 1) := by decide +kernel
theorem dX9_could_22 : decode cX9_could 22 = .ok (.ireturn, 1) := by decide +kernel
theorem dX9_could_23 : decode cX9_could 23 = .ok (.iload_n 2, 1) := by decide +kernel
theorem dX9_could_24 : decode cX9_could 24 = .ok (.lookupswitch 48 #[(0, 28), (1, 38)], 28) := by decide +kernel
theorem dX9_could_52 : decode cX9_could 52 = .ok (.aload_n 0, 1) := by decide +kernel
theorem dX9_could_53 : decode cX9_could 53 = .ok (.getfield 62, 3) := by decide +kernel
theorem dX9_could_56 : decode cX9_could 56 = .ok (.getfield 339, 3) := by decide +kernel
theorem dX9_could_59 : decode cX9_could 59 = .ok (.iload_n 1, 1) := by decide +kernel
theorem dX9_could_60 : decode cX9_could 60 = .ok (.iaload, 1) := by decide +kernel
theorem dX9_could_61 : decode cX9_could 61 = .ok (.ireturn, 1) := by decide +kernel
theorem dX9_could_62 : decode cX9_could 62 = .ok (.aload_n 0, 1) := by decide +kernel
theorem dX9_could_63 : decode cX9_could 63 = .ok (.getfield 62, 3) := by decide +kernel
theorem dX9_could_66 : decode cX9_could 66 = .ok (.getfield 342, 3) := by decide +kernel
theorem dX9_could_69 : decode cX9_could 69 = .ok (.iload_n 1, 1) := by decide +kernel
theorem dX9_could_70 : decode cX9_could 70 = .ok (.iaload, 1) := by decide +kernel
theorem dX9_could_71 : decode cX9_could 71 = .ok (.ireturn, 1) := by decide +kernel
theorem dX9_could_72 : decode cX9_could 72 = .ok (.iconst (-1), 1) := by decide +kernel
theorem dX9_could_73 : decode cX9_could 73 = .ok (.ireturn, 1) := by decide +kernel
theorem dX9_market_0 : decode cX9_market 0 = .ok (.aload_n 0, 1) := by decide +kernel
theorem dX9_market_1 : decode cX9_market 1 = .ok (.getfield 33, 3) := by decide +kernel
theorem dX9_market_4 : decode cX9_market 4 = .ok (.getfield 108, 3) := by decide +kernel
theorem dX9_market_7 : decode cX9_market 7 = .ok (.getfield 345, 3) := by decide +kernel
theorem dX9_market_10 : decode cX9_market 10 = .ok (.istore_n 3, 1) := by decide +kernel
theorem dX9_market_11 : decode cX9_market 11 = .ok (.aload_n 0, 1) := by decide +kernel
theorem dX9_market_12 : decode cX9_market 12 = .ok (.getfield 33, 3) := by decide +kernel
theorem dX9_market_15 : decode cX9_market 15 = .ok (.getfield 108, 3) := by decide +kernel
theorem dX9_market_18 : decode cX9_market 18 = .ok (.getfield 347, 3) := by decide +kernel
theorem dX9_market_21 : decode cX9_market 21 = .ok (.istore 4, 2) := by decide +kernel
theorem dX9_market_23 : decode cX9_market 23 = .ok (.iload_n 1, 1) := by decide +kernel
theorem dX9_market_24 : decode cX9_market 24 = .ok (.iconst 1, 1) := by decide +kernel
theorem dX9_market_25 : decode cX9_market 25 = .ok (.if_icmp .lt 20, 3) := by decide +kernel
theorem dX9_market_28 : decode cX9_market 28 = .ok (.iload_n 1, 1) := by decide +kernel
theorem dX9_market_29 : decode cX9_market 29 = .ok (.bipush 50, 2) := by decide +kernel
theorem dX9_market_31 : decode cX9_market 31 = .ok (.if_icmp .gt 14, 3) := by decide +kernel
theorem dX9_market_34 : decode cX9_market 34 = .ok (.iload_n 3, 1) := by decide +kernel
theorem dX9_market_35 : decode cX9_market 35 = .ok (.iconst 1, 1) := by decide +kernel
theorem dX9_market_36 : decode cX9_market 36 = .ok (.if_icmp .lt 9, 3) := by decide +kernel
theorem dX9_market_39 : decode cX9_market 39 = .ok (.iload 4, 2) := by decide +kernel
theorem dX9_market_41 : decode cX9_market 41 = .ok (.iconst 1, 1) := by decide +kernel
theorem dX9_market_42 : decode cX9_market 42 = .ok (.if_icmp .ge 5, 3) := by decide +kernel
theorem dX9_market_45 : decode cX9_market 45 = .ok (.iconst (-1), 1) := by decide +kernel
theorem dX9_market_46 : decode cX9_market 46 = .ok (.ireturn, 1) := by decide +kernel
theorem dX9_market_47 : decode cX9_market 47 = .ok (.aload_n 0, 1) := by decide +kernel
theorem dX9_market_48 : decode cX9_market 48 = .ok (.getfield 40, 3) := by decide +kernel
theorem dX9_market_51 : decode cX9_market 51 = .ok (.aload_n 0, 1) := by decide +kernel
theorem dX9_market_52 : decode cX9_market 52 = .ok (.getfield 33, 3) := by decide +kernel
theorem dX9_market_55 : decode cX9_market 55 = .ok (.getfield 117, 3) := by decide +kernel
theorem dX9_market_58 : decode cX9_market 58 = .ok (.invokevirtual 171, 3) := by decide +kernel
theorem dX9_market_61 : decode cX9_market 61 = .ok (.iload_n 2, 1) := by decide +kernel
theorem dX9_market_62 : decode cX9_market 62 = .ok (.istore 5, 2) := by decide +kernel
theorem dX9_market_64 : decode cX9_market 64 = .ok (.iconst 0, 1) := by decide +kernel
theorem dX9_market_65 : decode cX9_market 65 = .ok (.istore 6, 2) := by decide +kernel
theorem dX9_market_67 : decode cX9_market 67 = .ok (.iconst 0, 1) := by decide +kernel
theorem dX9_market_68 : decode cX9_market 68 = .ok (.istore 7, 2) := by decide +kernel
theorem dX9_market_70 : decode cX9_market 70 = .ok (.iload 7, 2) := by decide +kernel
theorem dX9_market_72 : decode cX9_market 72 = .ok (.iload_n 1, 1) := by decide +kernel
theorem dX9_market_73 : decode cX9_market 73 = .ok (.if_icmp .ge 113, 3) := by decide +kernel
