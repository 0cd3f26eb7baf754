theorem dX10_bad_26 : decode cX10_bad 26 = .ok (.ireturn, 1) := by decide +kernel
theorem dX10_readNumber_0 : decode cX10_readNumber 0 = .ok (.aload_n 0, 1) := by decide +kernel
theorem dX10_readNumber_1 : decode cX10_readNumber 1 = .ok (.getfield 105, 3) := by decide +kernel
theorem dX10_readNumber_4 : decode cX10_readNumber 4 = .ok (.iconst 3, 1) := by decide +kernel
theorem dX10_readNumber_5 : decode cX10_readNumber 5 = .ok (.if_icmp .eq 9, 3) := by decide +kernel
theorem dX10_readNumber_8 : decode cX10_readNumber 8 = .ok (.aload_n 0, 1) := by decide +kernel
theorem dX10_readNumber_9 : decode cX10_readNumber 9 = .ok (.iconst 1, 1) := by decide +kernel
theorem dX10_readNumber_10 : decode cX10_readNumber 10 = .ok (.invokevirtual 151, 3) := by decide +kernel
theorem dX10_readNumber_13 : decode cX10_readNumber 13 = .ok (.ireturn, 1) := by decide +kernel
theorem dX10_readNumber_14 : decode cX10_readNumber 14 = .ok (.aload_n 0, 1) := by decide +kernel
theorem dX10_readNumber_15 : decode cX10_readNumber 15 = .ok (.getfield 122, 3) := by decide +kernel
theorem dX10_readNumber_18 : decode cX10_readNumber 18 = .ok (.iload_n 1, 1) := by decide +kernel
theorem dX10_readNumber_19 : decode cX10_readNumber 19 = .ok (.iload_n 2, 1) := by decide +kernel
theorem dX10_readNumber_20 : decode cX10_readNumber 20 = .ok (.invokestatic 154, 3) := by decide +kernel
theorem dX10_readNumber_23 : decode cX10_readNumber 23 = .ok (.ifCond .ne 9, 3) := by decide +kernel
theorem dX10_readNumber_26 : decode cX10_readNumber 26 = .ok (.aload_n 0, 1) := by decide +kernel
theorem dX10_readNumber_27 : decode cX10_readNumber 27 = .ok (.iconst 2, 1) := by decide +kernel
theorem dX10_readNumber_28 : decode cX10_readNumber 28 = .ok (.invokevirtual 151, 3) := by decide +kernel
theorem dX10_readNumber_31 : decode cX10_readNumber 31 = .ok (.ireturn, 1) := by decide +kernel
theorem dX10_readNumber_32 : decode cX10_readNumber 32 = .ok (.aload_n 0, 1) := by decide +kernel
theorem dX10_readNumber_33 : decode cX10_readNumber 33 = .ok (.aload_n 0, 1) := by decide +kernel
theorem dX10_readNumber_34 : decode cX10_readNumber 34 = .ok (.getfield 122, 3) := by decide +kernel
theorem dX10_readNumber_37 : decode cX10_readNumber 37 = .ok (.putfield 158, 3) := by decide +kernel
theorem dX10_readNumber_40 : decode cX10_readNumber 40 = .ok (.aload_n 0, 1) := by decide +kernel
theorem dX10_readNumber_41 : decode cX10_readNumber 41 = .ok (.invokevirtual 161, 3) := by decide +kernel
theorem dX10_readNumber_44 : decode cX10_readNumber 44 = .ok (.iconst 1, 1) := by decide +kernel
theorem dX10_readNumber_45 : decode cX10_readNumber 45 = .ok (.ireturn, 1) := by decide +kernel
theorem dX10_readEnd_0 : decode cX10_readEnd 0 = .ok (.aload_n 0, 1) := by decide +kernel
theorem dX10_readEnd_1 : decode cX10_readEnd 1 = .ok (.bipush 59, 2) := by decide +kernel
theorem dX10_readEnd_3 : decode cX10_readEnd 3 = .ok (.invokevirtual 164, 3) := by decide +kernel
theorem dX10_readEnd_6 : decode cX10_readEnd 6 = .ok (.ifCond .ne 9, 3) := by decide +kernel
theorem dX10_readEnd_9 : decode cX10_readEnd 9 = .ok (.aload_n 0, 1) := by decide +kernel
theorem dX10_readEnd_10 : decode cX10_readEnd 10 = .ok (.iconst 1, 1) := by decide +kernel
theorem dX10_readEnd_11 : decode cX10_readEnd 11 = .ok (.invokevirtual 151, 3) := by decide +kernel
theorem dX10_readEnd_14 : decode cX10_readEnd 14 = .ok (.ireturn, 1) := by decide +kernel
theorem dX10_readEnd_15 : decode cX10_readEnd 15 = .ok (.aload_n 0, 1) := by decide +kernel
theorem dX10_readEnd_16 : decode cX10_readEnd 16 = .ok (.invokevirtual 161, 3) := by decide +kernel
theorem dX10_readEnd_19 : decode cX10_readEnd 19 = .ok (.iconst 1, 1) := by decide +kernel
theorem dX10_readEnd_20 : decode cX10_readEnd 20 = .ok (.ireturn, 1) := by decide +kernel
theorem dX10_begin_0 : decode cX10_begin 0 = .ok (.aload_n 0, 1) := by decide +kernel
theorem dX10_begin_1 : decode cX10_begin 1 = .ok (.iconst 0, 1) := by decide +kernel
theorem dX10_begin_2 : decode cX10_begin 2 = .ok (.putfield 83, 3) := by decide +kernel
theorem dX10_begin_5 : decode cX10_begin 5 = .ok (.aload_n 0, 1) := by decide +kernel
theorem dX10_begin_6 : decode cX10_begin 6 = .ok (.invokevirtual 167, 3) := by decide +kernel
theorem dX10_begin_9 : decode cX10_begin 9 = .ok (.aload_n 0, 1) := by decide +kernel
theorem dX10_begin_10 : decode cX10_begin 10 = .ok (.aload_n 0, 1) := by decide +kernel
theorem dX10_begin_11 : decode cX10_begin 11 = .ok (.invokevirtual 170, 3) := by decide +kernel
theorem dX10_begin_14 : decode cX10_begin 14 = .ok (.putfield 93, 3) := by decide +kernel
theorem dX10_begin_17 : decode cX10_begin 17 = .ok (.aload_n 0, 1) := by decide +kernel
theorem dX10_begin_18 : decode cX10_begin 18 = .ok (.iload_n 1, 1) := by decide +kernel
theorem dX10_begin_19 : decode cX10_begin 19 = .ok (.putfield 102, 3) := by decide +kernel
theorem dX10_begin_22 : decode cX10_begin 22 = .ok (.aload_n 0, 1) := by decide +kernel
theorem dX10_begin_23 : decode cX10_begin 23 = .ok (.iconst 0, 1) := by decide +kernel
theorem dX10_begin_24 : decode cX10_begin 24 = .ok (.putfield 145, 3) := by decide +kernel
theorem dX10_begin_27 : decode cX10_begin 27 = .ok (.aload_n 0, 1) := by decide +kernel
theorem dX10_begin_28 : decode cX10_begin 28 = .ok (.iconst 0, 1) := by decide +kernel
theorem dX10_begin_29 : decode cX10_begin 29 = .ok (.putfield 96, 3) := by decide +kernel
theorem dX10_begin_32 : decode cX10_begin 32 = .ok (.aload_n 0, 1) := by decide +kernel
theorem dX10_begin_33 : decode cX10_begin 33 = .ok (.invokevirtual 161, 3) := by decide +kernel
theorem dX10_begin_36 : decode cX10_begin 36 = .ok (.return_, 1) := by decide +kernel
theorem dX10_plain_0 : decode cX10_plain 0 = .ok (.aload_n 1, 1) := by decide +kernel
theorem dX10_plain_1 : decode cX10_plain 1 = .ok (.iconst 4, 1) := by decide +kernel
theorem dX10_plain_2 : decode cX10_plain 2 = .ok (.bipush 50, 2) := by decide +kernel
theorem dX10_plain_4 : decode cX10_plain 4 = .ok (.iastore, 1) := by decide +kernel
theorem dX10_plain_5 : decode cX10_plain 5 = .ok (.aload_n 1, 1) := by decide +kernel
theorem dX10_plain_6 : decode cX10_plain 6 = .ok (.iconst 5, 1) := by decide +kernel
theorem dX10_plain_7 : decode cX10_plain 7 = .ok (.bipush 50, 2) := by decide +kernel
theorem dX10_plain_9 : decode cX10_plain 9 = .ok (.iastore, 1) := by decide +kernel
theorem dX10_plain_10 : decode cX10_plain 10 = .ok (.aload_n 1, 1) := by decide +kernel
theorem dX10_plain_11 : decode cX10_plain 11 = .ok (.bipush 6, 2) := by decide +kernel
theorem dX10_plain_13 : decode cX10_plain 13 = .ok (.iconst 5, 1) := by decide +kernel
theorem dX10_plain_14 : decode cX10_plain 14 = .ok (.iastore, 1) := by decide +kernel
theorem dX10_plain_15 : decode cX10_plain 15 = .ok (.return_, 1) := by decide +kernel
theorem dX10_lay_0 : decode cX10_lay 0 = .ok (.aload_n 0, 1) := by decide +kernel
theorem dX10_lay_1 : decode cX10_lay 1 = .ok (.getfield 174, 3) := by decide +kernel
theorem dX10_lay_4 : decode cX10_lay 4 = .ok (.ifCond .eq 4, 3) := by decide +kernel
theorem dX10_lay_7 : decode cX10_lay 7 = .ok (.return_, 1) := by decide +kernel
theorem dX10_lay_8 : decode cX10_lay 8 = .ok (.aload_n 0, 1) := by decide +kernel
theorem dX10_lay_9 : decode cX10_lay 9 = .ok (.iconst 1, 1) := by decide +kernel
theorem dX10_lay_10 : decode cX10_lay 10 = .ok (.putfield 174, 3) := by decide +kernel
theorem dX10_lay_13 : decode cX10_lay 13 = .ok (.aload_n 0, 1) := by decide +kernel
theorem dX10_lay_14 : decode cX10_lay 14 = .ok (.aload_n 0, 1) := by decide +kernel
theorem dX10_lay_15 : decode cX10_lay 15 = .ok (.getfield 13, 3) := by decide +kernel
theorem dX10_lay_18 : decode cX10_lay 18 = .ok (.invokevirtual 178, 3) := by decide +kernel
theorem dX10_lay_21 : decode cX10_lay 21 = .ok (.aload_n 0, 1) := by decide +kernel
theorem dX10_lay_22 : decode cX10_lay 22 = .ok (.getfield 13, 3) := by decide +kernel
theorem dX10_lay_25 : decode cX10_lay 25 = .ok (.bipush 110, 2) := by decide +kernel
theorem dX10_lay_27 : decode cX10_lay 27 = .ok (.iconst (-1), 1) := by decide +kernel
theorem dX10_lay_28 : decode cX10_lay 28 = .ok (.iastore, 1) := by decide +kernel
theorem dX10_lay_29 : decode cX10_lay 29 = .ok (.aload_n 0, 1) := by decide +kernel
theorem dX10_lay_30 : decode cX10_lay 30 = .ok (.getfield 13, 3) := by decide +kernel
theorem dX10_lay_33 : decode cX10_lay 33 = .ok (.bipush 111, 2) := by decide +kernel
theorem dX10_lay_35 : decode cX10_lay 35 = .ok (.iconst (-1), 1) := by decide +kernel
theorem dX10_lay_36 : decode cX10_lay 36 = .ok (.iastore, 1) := by decide +kernel
theorem dX10_lay_37 : decode cX10_lay 37 = .ok (.return_, 1) := by decide +kernel
theorem dX10_people_0 : decode cX10_people 0 = .ok (.aload_n 0, 1) := by decide +kernel
theorem dX10_people_1 : decode cX10_people 1 = .ok (.getfield 13, 3) := by decide +kernel
theorem dX10_people_4 : decode cX10_people 4 = .ok (.iconst 0, 1) := by decide +kernel
theorem dX10_people_5 : decode cX10_people 5 = .ok (.iaload, 1) := by decide +kernel
theorem dX10_people_6 : decode cX10_people 6 = .ok (.ireturn, 1) := by decide +kernel
theorem dX10_mints_0 : decode cX10_mints 0 = .ok (.aload_n 0, 1) := by decide +kernel
theorem dX10_mints_1 : decode cX10_mints 1 = .ok (.getfield 13, 3) := by decide +kernel
theorem dX10_mints_4 : decode cX10_mints 4 = .ok (.iconst 1, 1) := by decide +kernel
theorem dX10_mints_5 : decode cX10_mints 5 = .ok (.iaload, 1) := by decide +kernel
theorem dX10_mints_6 : decode cX10_mints 6 = .ok (.ireturn, 1) := by decide +kernel
theorem dX10_coins_0 : decode cX10_coins 0 = .ok (.aload_n 0, 1) := by decide +kernel
theorem dX10_coins_1 : decode cX10_coins 1 = .ok (.getfield 13, 3) := by decide +kernel
theorem dX10_coins_4 : decode cX10_coins 4 = .ok (.bipush 108, 2) := by decide +kernel
theorem dX10_coins_6 : decode cX10_coins 6 = .ok (.iaload, 1) := by decide +kernel
theorem dX10_coins_7 : decode cX10_coins 7 = .ok (.ireturn, 1) := by decide +kernel
theorem dX10_isWho_0 : decode cX10_isWho 0 = .ok (.iload_n 1, 1) := by decide +kernel
theorem dX10_isWho_1 : decode cX10_isWho 1 = .ok (.ifCond .lt 15, 3) := by decide +kernel
theorem dX10_isWho_4 : decode cX10_isWho 4 = .ok (.iload_n 1, 1) := by decide +kernel
theorem dX10_isWho_5 : decode cX10_isWho 5 = .ok (.aload_n 0, 1) := by decide +kernel
theorem dX10_isWho_6 : decode cX10_isWho 6 = .ok (.invokevirtual 182, 3) := by decide +kernel
theorem dX10_isWho_9 : decode cX10_isWho 9 = .ok (.if_icmp .ge 7, 3) := by decide +kernel
theorem dX10_isWho_12 : decode cX10_isWho 12 = .ok (.iconst 1, 1) := by decide +kernel
theorem dX10_isWho_13 : decode cX10_isWho 13 = .ok (.goto 4, 3) := by decide +kernel
theorem dX10_isWho_16 : decode cX10_isWho 16 = .ok (.iconst 0, 1) := by decide +kernel
theorem dX10_isWho_17 : decode cX10_isWho 17 = .ok (.ireturn, 1) := by decide +kernel
theorem dX10_isMint_0 : decode cX10_isMint 0 = .ok (.iload_n 1, 1) := by decide +kernel
theorem dX10_isMint_1 : decode cX10_isMint 1 = .ok (.ifCond .lt 15, 3) := by decide +kernel
theorem dX10_isMint_4 : decode cX10_isMint 4 = .ok (.iload_n 1, 1) := by decide +kernel
theorem dX10_isMint_5 : decode cX10_isMint 5 = .ok (.aload_n 0, 1) := by decide +kernel
theorem dX10_isMint_6 : decode cX10_isMint 6 = .ok (.invokevirtual 185, 3) := by decide +kernel
theorem dX10_isMint_9 : decode cX10_isMint 9 = .ok (.if_icmp .ge 7, 3) := by decide +kernel
theorem dX10_isMint_12 : decode cX10_isMint 12 = .ok (.iconst 1, 1) := by decide +kernel
theorem dX10_isMint_13 : decode cX10_isMint 13 = .ok (.goto 4, 3) := by decide +kernel
theorem dX10_isMint_16 : decode cX10_isMint 16 = .ok (.iconst 0, 1) := by decide +kernel
theorem dX10_isMint_17 : decode cX10_isMint 17 = .ok (.ireturn, 1) := by decide +kernel
theorem dX10_isCoin_0 : decode cX10_isCoin 0 = .ok (.iload_n 1, 1) := by decide +kernel
theorem dX10_isCoin_1 : decode cX10_isCoin 1 = .ok (.ifCond .lt 15, 3) := by decide +kernel
theorem dX10_isCoin_4 : decode cX10_isCoin 4 = .ok (.iload_n 1, 1) := by decide +kernel
theorem dX10_isCoin_5 : decode cX10_isCoin 5 = .ok (.aload_n 0, 1) := by decide +kernel
theorem dX10_isCoin_6 : decode cX10_isCoin 6 = .ok (.invokevirtual 188, 3) := by decide +kernel
theorem dX10_isCoin_9 : decode cX10_isCoin 9 = .ok (.if_icmp .ge 7, 3) := by decide +kernel
theorem dX10_isCoin_12 : decode cX10_isCoin 12 = .ok (.iconst 1, 1) := by decide +kernel
theorem dX10_isCoin_13 : decode cX10_isCoin 13 = .ok (.goto 4, 3) := by decide +kernel
theorem dX10_isCoin_16 : decode cX10_isCoin 16 = .ok (.iconst 0, 1) := by decide +kernel
theorem dX10_isCoin_17 : decode cX10_isCoin 17 = .ok (.ireturn, 1) := by decide +kernel
theorem dX10_ofWho_0 : decode cX10_ofWho 0 = .ok (.aload_n 0, 1) := by decide +kernel
theorem dX10_ofWho_1 : decode cX10_ofWho 1 = .ok (.getfield 13, 3) := by decide +kernel
theorem dX10_ofWho_4 : decode cX10_ofWho 4 = .ok (.bipush 8, 2) := by decide +kernel
theorem dX10_ofWho_6 : decode cX10_ofWho 6 = .ok (.iconst 3, 1) := by decide +kernel
theorem dX10_ofWho_7 : decode cX10_ofWho 7 = .ok (.iload_n 1, 1) := by decide +kernel
theorem dX10_ofWho_8 : decode cX10_ofWho 8 = .ok (.imul, 1) := by decide +kernel
theorem dX10_ofWho_9 : decode cX10_ofWho 9 = .ok (.iadd, 1) := by decide +kernel
theorem dX10_ofWho_10 : decode cX10_ofWho 10 = .ok (.iload_n 2, 1) := by decide +kernel
theorem dX10_ofWho_11 : decode cX10_ofWho 11 = .ok (.iadd, 1) := by decide +kernel
theorem dX10_ofWho_12 : decode cX10_ofWho 12 = .ok (.iaload, 1) := by decide +kernel
theorem dX10_ofWho_13 : decode cX10_ofWho 13 = .ok (.ireturn, 1) := by decide +kernel
theorem dX10_ofMint_0 : decode cX10_ofMint 0 = .ok (.aload_n 0, 1) := by decide +kernel
theorem dX10_ofMint_1 : decode cX10_ofMint 1 = .ok (.getfield 13, 3) := by decide +kernel
theorem dX10_ofMint_4 : decode cX10_ofMint 4 = .ok (.bipush 32, 2) := by decide +kernel
theorem dX10_ofMint_6 : decode cX10_ofMint 6 = .ok (.iconst 3, 1) := by decide +kernel
theorem dX10_ofMint_7 : decode cX10_ofMint 7 = .ok (.iload_n 1, 1) := by decide +kernel
theorem dX10_ofMint_8 : decode cX10_ofMint 8 = .ok (.imul, 1) := by decide +kernel
theorem dX10_ofMint_9 : decode cX10_ofMint 9 = .ok (.iadd, 1) := by decide +kernel
theorem dX10_ofMint_10 : decode cX10_ofMint 10 = .ok (.iload_n 2, 1) := by decide +kernel
theorem dX10_ofMint_11 : decode cX10_ofMint 11 = .ok (.iadd, 1) := by decide +kernel
theorem dX10_ofMint_12 : decode cX10_ofMint 12 = .ok (.iaload, 1) := by decide +kernel
theorem dX10_ofMint_13 : decode cX10_ofMint 13 = .ok (.ireturn, 1) := by decide +kernel
theorem dX10_ofCoin_0 : decode cX10_ofCoin 0 = .ok (.aload_n 0, 1) := by decide +kernel
theorem dX10_ofCoin_1 : decode cX10_ofCoin 1 = .ok (.getfield 13, 3) := by decide +kernel
theorem dX10_ofCoin_4 : decode cX10_ofCoin 4 = .ok (.bipush 120, 2) := by decide +kernel
theorem dX10_ofCoin_6 : decode cX10_ofCoin 6 = .ok (.bipush 32, 2) := by decide +kernel
theorem dX10_ofCoin_8 : decode cX10_ofCoin 8 = .ok (.iload_n 1, 1) := by decide +kernel
theorem dX10_ofCoin_9 : decode cX10_ofCoin 9 = .ok (.imul, 1) := by decide +kernel
theorem dX10_ofCoin_10 : decode cX10_ofCoin 10 = .ok (.iadd, 1) := by decide +kernel
theorem dX10_ofCoin_11 : decode cX10_ofCoin 11 = .ok (.iload_n 2, 1) := by decide +kernel
theorem dX10_ofCoin_12 : decode cX10_ofCoin 12 = .ok (.iadd, 1) := by decide +kernel
theorem dX10_ofCoin_13 : decode cX10_ofCoin 13 = .ok (.iaload, 1) := by decide +kernel
theorem dX10_ofCoin_14 : decode cX10_ofCoin 14 = .ok (.ireturn, 1) := by decide +kernel
theorem dX10_findIn_0 : decode cX10_findIn 0 = .ok (.iconst 0, 1) := by decide +kernel
theorem dX10_findIn_1 : decode cX10_findIn 1 = .ok (.istore 4, 2) := by decide +kernel
theorem dX10_findIn_3 : decode cX10_findIn 3 = .ok (.iload 4, 2) := by decide +kernel
theorem dX10_findIn_5 : decode cX10_findIn 5 = .ok (.iload_n 3, 1) := by decide +kernel
theorem dX10_findIn_6 : decode cX10_findIn 6 = .ok (.if_icmp .ge 26, 3) := by decide +kernel
theorem dX10_findIn_9 : decode cX10_findIn 9 = .ok (.aload_n 1, 1) := by decide +kernel
theorem dX10_findIn_10 : decode cX10_findIn 10 = .ok (.iload_n 2, 1) := by decide +kernel
theorem dX10_findIn_11 : decode cX10_findIn 11 = .ok (.iload 4, 2) := by decide +kernel
theorem dX10_findIn_13 : decode cX10_findIn 13 = .ok (.iadd, 1) := by decide +kernel
theorem dX10_findIn_14 : decode cX10_findIn 14 = .ok (.laload, 1) := by decide +kernel
theorem dX10_findIn_15 : decode cX10_findIn 15 = .ok (.aload_n 0, 1) := by decide +kernel
theorem dX10_findIn_16 : decode cX10_findIn 16 = .ok (.getfield 118, 3) := by decide +kernel
theorem dX10_findIn_19 : decode cX10_findIn 19 = .ok (.lcmp, 1) := by decide +kernel
theorem dX10_findIn_20 : decode cX10_findIn 20 = .ok (.ifCond .ne 6, 3) := by decide +kernel
theorem dX10_findIn_23 : decode cX10_findIn 23 = .ok (.iload 4, 2) := by decide +kernel
theorem dX10_findIn_25 : decode cX10_findIn 25 = .ok (.ireturn, 1) := by decide +kernel
theorem dX10_findIn_26 : decode cX10_findIn 26 = .ok (.iinc 4 1, 3) := by decide +kernel
theorem dX10_findIn_29 : decode cX10_findIn 29 = .ok (.goto (-26), 3) := by decide +kernel
theorem dX10_findIn_32 : decode cX10_findIn 32 = .ok (.iconst (-1), 1) := by decide +kernel
theorem dX10_findIn_33 : decode cX10_findIn 33 = .ok (.ireturn, 1) := by decide +kernel
theorem dX10_readNew_0 : decode cX10_readNew 0 = .ok (.aload_n 0, 1) := by decide +kernel
theorem dX10_readNew_1 : decode cX10_readNew 1 = .ok (.invokevirtual 191, 3) := by decide +kernel
theorem dX10_readNew_4 : decode cX10_readNew 4 = .ok (.ifCond .ne 9, 3) := by decide +kernel
theorem dX10_readNew_7 : decode cX10_readNew 7 = .ok (.aload_n 0, 1) := by decide +kernel
theorem dX10_readNew_8 : decode cX10_readNew 8 = .ok (.iconst 1, 1) := by decide +kernel
theorem dX10_readNew_9 : decode cX10_readNew 9 = .ok (.invokevirtual 151, 3) := by decide +kernel
theorem dX10_readNew_12 : decode cX10_readNew 12 = .ok (.ireturn, 1) := by decide +kernel
theorem dX10_readNew_13 : decode cX10_readNew 13 = .ok (.aload_n 0, 1) := by decide +kernel
theorem dX10_readNew_14 : decode cX10_readNew 14 = .ok (.aload_n 0, 1) := by decide +kernel
theorem dX10_readNew_15 : decode cX10_readNew 15 = .ok (.getfield 30, 3) := by decide +kernel
theorem dX10_readNew_18 : decode cX10_readNew 18 = .ok (.iconst 0, 1) := by decide +kernel
theorem dX10_readNew_19 : decode cX10_readNew 19 = .ok (.aload_n 0, 1) := by decide +kernel
theorem dX10_readNew_20 : decode cX10_readNew 20 = .ok (.getfield 16, 3) := by decide +kernel
theorem dX10_readNew_23 : decode cX10_readNew 23 = .ok (.iconst 0, 1) := by decide +kernel
theorem dX10_readNew_24 : decode cX10_readNew 24 = .ok (.iaload, 1) := by decide +kernel
theorem dX10_readNew_25 : decode cX10_readNew 25 = .ok (.invokevirtual 195, 3) := by decide +kernel
theorem dX10_readNew_28 : decode cX10_readNew 28 = .ok (.iconst (-1), 1) := by decide +kernel
theorem dX10_readNew_29 : decode cX10_readNew 29 = .ok (.if_icmp .ne 23, 3) := by decide +kernel
theorem dX10_readNew_32 : decode cX10_readNew 32 = .ok (.aload_n 0, 1) := by decide +kernel
theorem dX10_readNew_33 : decode cX10_readNew 33 = .ok (.aload_n 0, 1) := by decide +kernel
theorem dX10_readNew_34 : decode cX10_readNew 34 = .ok (.getfield 30, 3) := by decide +kernel
theorem dX10_readNew_37 : decode cX10_readNew 37 = .ok (.bipush 8, 2) := by decide +kernel
theorem dX10_readNew_39 : decode cX10_readNew 39 = .ok (.aload_n 0, 1) := by decide +kernel
theorem dX10_readNew_40 : decode cX10_readNew 40 = .ok (.getfield 16, 3) := by decide +kernel
theorem dX10_readNew_43 : decode cX10_readNew 43 = .ok (.iconst 1, 1) := by decide +kernel
theorem dX10_readNew_44 : decode cX10_readNew 44 = .ok (.iaload, 1) := by decide +kernel
theorem dX10_readNew_45 : decode cX10_readNew 45 = .ok (.invokevirtual 195, 3) := by decide +kernel
theorem dX10_readNew_48 : decode cX10_readNew 48 = .ok (.iconst (-1), 1) := by decide +kernel
theorem dX10_readNew_49 : decode cX10_readNew 49 = .ok (.if_icmp .eq 9, 3) := by decide +kernel
theorem dX10_readNew_52 : decode cX10_readNew 52 = .ok (.aload_n 0, 1) := by decide +kernel
theorem dX10_readNew_53 : decode cX10_readNew 53 = .ok (.iconst 3, 1) := by decide +kernel
theorem dX10_readNew_54 : decode cX10_readNew 54 = .ok (.invokevirtual 151, 3) := by decide +kernel
theorem dX10_readNew_57 : decode cX10_readNew 57 = .ok (.ireturn, 1) := by decide +kernel
theorem dX10_readNew_58 : decode cX10_readNew 58 = .ok (.aload_n 0, 1) := by decide +kernel
theorem dX10_readNew_59 : decode cX10_readNew 59 = .ok (.getfield 30, 3) := by decide +kernel
theorem dX10_readNew_62 : decode cX10_readNew 62 = .ok (.iload_n 1, 1) := by decide +kernel
theorem dX10_readNew_63 : decode cX10_readNew 63 = .ok (.aload_n 0, 1) := by decide +kernel
theorem dX10_readNew_64 : decode cX10_readNew 64 = .ok (.getfield 118, 3) := by decide +kernel
theorem dX10_readNew_67 : decode cX10_readNew 67 = .ok (.lastore, 1) := by decide +kernel
theorem dX10_readNew_68 : decode cX10_readNew 68 = .ok (.aload_n 0, 1) := by decide +kernel
theorem dX10_readNew_69 : decode cX10_readNew 69 = .ok (.invokevirtual 161, 3) := by decide +kernel
theorem dX10_readNew_72 : decode cX10_readNew 72 = .ok (.iconst 1, 1) := by decide +kernel
theorem dX10_readNew_73 : decode cX10_readNew 73 = .ok (.ireturn, 1) := by decide +kernel
theorem dX10_readWho_0 : decode cX10_readWho 0 = .ok (.aload_n 0, 1) := by decide +kernel
theorem dX10_readWho_1 : decode cX10_readWho 1 = .ok (.getfield 16, 3) := by decide +kernel
theorem dX10_readWho_4 : decode cX10_readWho 4 = .ok (.iconst 0, 1) := by decide +kernel
theorem dX10_readWho_5 : decode cX10_readWho 5 = .ok (.iaload, 1) := by decide +kernel
theorem dX10_readWho_6 : decode cX10_readWho 6 = .ok (.istore_n 1, 1) := by decide +kernel
theorem dX10_readWho_7 : decode cX10_readWho 7 = .ok (.iload_n 1, 1) := by decide +kernel
theorem dX10_readWho_8 : decode cX10_readWho 8 = .ok (.bipush 8, 2) := by decide +kernel
theorem dX10_readWho_10 : decode cX10_readWho 10 = .ok (.if_icmp .ne 9, 3) := by decide +kernel
theorem dX10_readWho_13 : decode cX10_readWho 13 = .ok (.aload_n 0, 1) := by decide +kernel
theorem dX10_readWho_14 : decode cX10_readWho 14 = .ok (.iconst 4, 1) := by decide +kernel
theorem dX10_readWho_15 : decode cX10_readWho 15 = .ok (.invokevirtual 151, 3) := by decide +kernel
theorem dX10_readWho_18 : decode cX10_readWho 18 = .ok (.ireturn, 1) := by decide +kernel
theorem dX10_readWho_19 : decode cX10_readWho 19 = .ok (.aload_n 0, 1) := by decide +kernel
theorem dX10_readWho_20 : decode cX10_readWho 20 = .ok (.invokevirtual 161, 3) := by decide +kernel
theorem dX10_readWho_23 : decode cX10_readWho 23 = .ok (.aload_n 0, 1) := by decide +kernel
theorem dX10_readWho_24 : decode cX10_readWho 24 = .ok (.iload_n 1, 1) := by decide +kernel
theorem dX10_readWho_25 : decode cX10_readWho 25 = .ok (.invokevirtual 199, 3) := by decide +kernel
theorem dX10_readWho_28 : decode cX10_readWho 28 = .ok (.ifCond .ne 5, 3) := by decide +kernel
theorem dX10_readWho_31 : decode cX10_readWho 31 = .ok (.iconst 0, 1) := by decide +kernel
theorem dX10_readWho_32 : decode cX10_readWho 32 = .ok (.ireturn, 1) := by decide +kernel
theorem dX10_readWho_33 : decode cX10_readWho 33 = .ok (.aload_n 0, 1) := by decide +kernel
theorem dX10_readWho_34 : decode cX10_readWho 34 = .ok (.getfield 16, 3) := by decide +kernel
theorem dX10_readWho_37 : decode cX10_readWho 37 = .ok (.bipush 8, 2) := by decide +kernel
theorem dX10_readWho_39 : decode cX10_readWho 39 = .ok (.iconst 3, 1) := by decide +kernel
theorem dX10_readWho_40 : decode cX10_readWho 40 = .ok (.iload_n 1, 1) := by decide +kernel
theorem dX10_readWho_41 : decode cX10_readWho 41 = .ok (.imul, 1) := by decide +kernel
theorem dX10_readWho_42 : decode cX10_readWho 42 = .ok (.iadd, 1) := by decide +kernel
theorem dX10_readWho_43 : decode cX10_readWho 43 = .ok (.iconst 0, 1) := by decide +kernel
theorem dX10_readWho_44 : decode cX10_readWho 44 = .ok (.iadd, 1) := by decide +kernel
theorem dX10_readWho_45 : decode cX10_readWho 45 = .ok (.aload_n 0, 1) := by decide +kernel
theorem dX10_readWho_46 : decode cX10_readWho 46 = .ok (.iconst 1, 1) := by decide +kernel
theorem dX10_readWho_47 : decode cX10_readWho 47 = .ok (.invokevirtual 202, 3) := by decide +kernel
theorem dX10_readWho_50 : decode cX10_readWho 50 = .ok (.ifCond .eq 7, 3) := by decide +kernel
theorem dX10_readWho_53 : decode cX10_readWho 53 = .ok (.iconst 1, 1) := by decide +kernel
theorem dX10_readWho_54 : decode cX10_readWho 54 = .ok (.goto 4, 3) := by decide +kernel
theorem dX10_readWho_57 : decode cX10_readWho 57 = .ok (.iconst 0, 1) := by decide +kernel
theorem dX10_readWho_58 : decode cX10_readWho 58 = .ok (.iastore, 1) := by decide +kernel
theorem dX10_readWho_59 : decode cX10_readWho 59 = .ok (.aload_n 0, 1) := by decide +kernel
theorem dX10_readWho_60 : decode cX10_readWho 60 = .ok (.iconst 1, 1) := by decide +kernel
theorem dX10_readWho_61 : decode cX10_readWho 61 = .ok (.invokevirtual 202, 3) := by decide +kernel
theorem dX10_readWho_64 : decode cX10_readWho 64 = .ok (.ifCond .eq 7, 3) := by decide +kernel
theorem dX10_readWho_67 : decode cX10_readWho 67 = .ok (.aload_n 0, 1) := by decide +kernel
theorem dX10_readWho_68 : decode cX10_readWho 68 = .ok (.invokevirtual 161, 3) := by decide +kernel
theorem dX10_readWho_71 : decode cX10_readWho 71 = .ok (.aload_n 0, 1) := by decide +kernel
theorem dX10_readWho_72 : decode cX10_readWho 72 = .ok (.getfield 16, 3) := by decide +kernel
theorem dX10_readWho_75 : decode cX10_readWho 75 = .ok (.bipush 8, 2) := by decide +kernel
theorem dX10_readWho_77 : decode cX10_readWho 77 = .ok (.iconst 3, 1) := by decide +kernel
theorem dX10_readWho_78 : decode cX10_readWho 78 = .ok (.iload_n 1, 1) := by decide +kernel
theorem dX10_readWho_79 : decode cX10_readWho 79 = .ok (.imul, 1) := by decide +kernel
theorem dX10_readWho_80 : decode cX10_readWho 80 = .ok (.iadd, 1) := by decide +kernel
theorem dX10_readWho_81 : decode cX10_readWho 81 = .ok (.iconst 1, 1) := by decide +kernel
theorem dX10_readWho_82 : decode cX10_readWho 82 = .ok (.iadd, 1) := by decide +kernel
theorem dX10_readWho_83 : decode cX10_readWho 83 = .ok (.aload_n 0, 1) := by decide +kernel
theorem dX10_readWho_84 : decode cX10_readWho 84 = .ok (.iconst 2, 1) := by decide +kernel
theorem dX10_readWho_85 : decode cX10_readWho 85 = .ok (.invokevirtual 202, 3) := by decide +kernel
theorem dX10_readWho_88 : decode cX10_readWho 88 = .ok (.ifCond .eq 7, 3) := by decide +kernel
theorem dX10_readWho_91 : decode cX10_readWho 91 = .ok (.iconst 1, 1) := by decide +kernel
theorem dX10_readWho_92 : decode cX10_readWho 92 = .ok (.goto 4, 3) := by decide +kernel
theorem dX10_readWho_95 : decode cX10_readWho 95 = .ok (.iconst 0, 1) := by decide +kernel
theorem dX10_readWho_96 : decode cX10_readWho 96 = .ok (.iastore, 1) := by decide +kernel
theorem dX10_readWho_97 : decode cX10_readWho 97 = .ok (.aload_n 0, 1) := by decide +kernel
theorem dX10_readWho_98 : decode cX10_readWho 98 = .ok (.iconst 2, 1) := by decide +kernel
theorem dX10_readWho_99 : decode cX10_readWho 99 = .ok (.invokevirtual 202, 3) := by decide +kernel
theorem dX10_readWho_102 : decode cX10_readWho 102 = .ok (.ifCond .eq 7, 3) := by decide +kernel
theorem dX10_readWho_105 : decode cX10_readWho 105 = .ok (.aload_n 0, 1) := by decide +kernel
theorem dX10_readWho_106 : decode cX10_readWho 106 = .ok (.invokevirtual 161, 3) := by decide +kernel
theorem dX10_readWho_109 : decode cX10_readWho 109 = .ok (.aload_n 0, 1) := by decide +kernel
theorem dX10_readWho_110 : decode cX10_readWho 110 = .ok (.getfield 16, 3) := by decide +kernel
theorem dX10_readWho_113 : decode cX10_readWho 113 = .ok (.iconst 0, 1) := by decide +kernel
theorem dX10_readWho_114 : decode cX10_readWho 114 = .ok (.dup2, 1) := by decide +kernel
theorem dX10_readWho_115 : decode cX10_readWho 115 = .ok (.iaload, 1) := by decide +kernel
theorem dX10_readWho_116 : decode cX10_readWho 116 = .ok (.iconst 1, 1) := by decide +kernel
theorem dX10_readWho_117 : decode cX10_readWho 117 = .ok (.iadd, 1) := by decide +kernel
theorem dX10_readWho_118 : decode cX10_readWho 118 = .ok (.iastore, 1) := by decide +kernel
theorem dX10_readWho_119 : decode cX10_readWho 119 = .ok (.iconst 1, 1) := by decide +kernel
theorem dX10_readWho_120 : decode cX10_readWho 120 = .ok (.ireturn, 1) := by decide +kernel
theorem dX10_readMint_0 : decode cX10_readMint 0 = .ok (.aload_n 0, 1) := by decide +kernel
theorem dX10_readMint_1 : decode cX10_readMint 1 = .ok (.getfield 16, 3) := by decide +kernel
theorem dX10_readMint_4 : decode cX10_readMint 4 = .ok (.iconst 1, 1) := by decide +kernel
theorem dX10_readMint_5 : decode cX10_readMint 5 = .ok (.iaload, 1) := by decide +kernel
theorem dX10_readMint_6 : decode cX10_readMint 6 = .ok (.istore_n 1, 1) := by decide +kernel
theorem dX10_readMint_7 : decode cX10_readMint 7 = .ok (.iload_n 1, 1) := by decide +kernel
theorem dX10_readMint_8 : decode cX10_readMint 8 = .ok (.iconst 4, 1) := by decide +kernel
theorem dX10_readMint_9 : decode cX10_readMint 9 = .ok (.if_icmp .ne 9, 3) := by decide +kernel
theorem dX10_readMint_12 : decode cX10_readMint 12 = .ok (.aload_n 0, 1) := by decide +kernel
theorem dX10_readMint_13 : decode cX10_readMint 13 = .ok (.iconst 4, 1) := by decide +kernel
theorem dX10_readMint_14 : decode cX10_readMint 14 = .ok (.invokevirtual 151, 3) := by decide +kernel
theorem dX10_readMint_17 : decode cX10_readMint 17 = .ok (.ireturn, 1) := by decide +kernel
theorem dX10_readMint_18 : decode cX10_readMint 18 = .ok (.aload_n 0, 1) := by decide +kernel
theorem dX10_readMint_19 : decode cX10_readMint 19 = .ok (.invokevirtual 161, 3) := by decide +kernel
theorem dX10_readMint_22 : decode cX10_readMint 22 = .ok (.aload_n 0, 1) := by decide +kernel
theorem dX10_readMint_23 : decode cX10_readMint 23 = .ok (.bipush 8, 2) := by decide +kernel
theorem dX10_readMint_25 : decode cX10_readMint 25 = .ok (.iload_n 1, 1) := by decide +kernel
theorem dX10_readMint_26 : decode cX10_readMint 26 = .ok (.iadd, 1) := by decide +kernel
theorem dX10_readMint_27 : decode cX10_readMint 27 = .ok (.invokevirtual 199, 3) := by decide +kernel
theorem dX10_readMint_30 : decode cX10_readMint 30 = .ok (.ifCond .eq 13, 3) := by decide +kernel
theorem dX10_readMint_33 : decode cX10_readMint 33 = .ok (.aload_n 0, 1) := by decide +kernel
theorem dX10_readMint_34 : decode cX10_readMint 34 = .ok (.iconst 1, 1) := by decide +kernel
theorem dX10_readMint_35 : decode cX10_readMint 35 = .ok (.bipush 50, 2) := by decide +kernel
theorem dX10_readMint_37 : decode cX10_readMint 37 = .ok (.invokevirtual 205, 3) := by decide +kernel
theorem dX10_readMint_40 : decode cX10_readMint 40 = .ok (.ifCond .ne 5, 3) := by decide +kernel
theorem dX10_readMint_43 : decode cX10_readMint 43 = .ok (.iconst 0, 1) := by decide +kernel
theorem dX10_readMint_44 : decode cX10_readMint 44 = .ok (.ireturn, 1) := by decide +kernel
theorem dX10_readMint_45 : decode cX10_readMint 45 = .ok (.aload_n 0, 1) := by decide +kernel
theorem dX10_readMint_46 : decode cX10_readMint 46 = .ok (.getfield 16, 3) := by decide +kernel
theorem dX10_readMint_49 : decode cX10_readMint 49 = .ok (.bipush 32, 2) := by decide +kernel
theorem dX10_readMint_51 : decode cX10_readMint 51 = .ok (.iconst 3, 1) := by decide +kernel
theorem dX10_readMint_52 : decode cX10_readMint 52 = .ok (.iload_n 1, 1) := by decide +kernel
theorem dX10_readMint_53 : decode cX10_readMint 53 = .ok (.imul, 1) := by decide +kernel
theorem dX10_readMint_54 : decode cX10_readMint 54 = .ok (.iadd, 1) := by decide +kernel
theorem dX10_readMint_55 : decode cX10_readMint 55 = .ok (.iconst 0, 1) := by decide +kernel
theorem dX10_readMint_56 : decode cX10_readMint 56 = .ok (.iadd, 1) := by decide +kernel
theorem dX10_readMint_57 : decode cX10_readMint 57 = .ok (.aload_n 0, 1) := by decide +kernel
theorem dX10_readMint_58 : decode cX10_readMint 58 = .ok (.getfield 158, 3) := by decide +kernel
theorem dX10_readMint_61 : decode cX10_readMint 61 = .ok (.iastore, 1) := by decide +kernel
theorem dX10_readMint_62 : decode cX10_readMint 62 = .ok (.aload_n 0, 1) := by decide +kernel
theorem dX10_readMint_63 : decode cX10_readMint 63 = .ok (.iconst 1, 1) := by decide +kernel
theorem dX10_readMint_64 : decode cX10_readMint 64 = .ok (.bipush 9, 2) := by decide +kernel
theorem dX10_readMint_66 : decode cX10_readMint 66 = .ok (.invokevirtual 205, 3) := by decide +kernel
theorem dX10_readMint_69 : decode cX10_readMint 69 = .ok (.ifCond .ne 5, 3) := by decide +kernel
theorem dX10_readMint_72 : decode cX10_readMint 72 = .ok (.iconst 0, 1) := by decide +kernel
theorem dX10_readMint_73 : decode cX10_readMint 73 = .ok (.ireturn, 1) := by decide +kernel
theorem dX10_readMint_74 : decode cX10_readMint 74 = .ok (.aload_n 0, 1) := by decide +kernel
theorem dX10_readMint_75 : decode cX10_readMint 75 = .ok (.getfield 16, 3) := by decide +kernel
theorem dX10_readMint_78 : decode cX10_readMint 78 = .ok (.bipush 32, 2) := by decide +kernel
theorem dX10_readMint_80 : decode cX10_readMint 80 = .ok (.iconst 3, 1) := by decide +kernel
theorem dX10_readMint_81 : decode cX10_readMint 81 = .ok (.iload_n 1, 1) := by decide +kernel
theorem dX10_readMint_82 : decode cX10_readMint 82 = .ok (.imul, 1) := by decide +kernel
theorem dX10_readMint_83 : decode cX10_readMint 83 = .ok (.iadd, 1) := by decide +kernel
theorem dX10_readMint_84 : decode cX10_readMint 84 = .ok (.iconst 1, 1) := by decide +kernel
theorem dX10_readMint_85 : decode cX10_readMint 85 = .ok (.iadd, 1) := by decide +kernel
theorem dX10_readMint_86 : decode cX10_readMint 86 = .ok (.aload_n 0, 1) := by decide +kernel
theorem dX10_readMint_87 : decode cX10_readMint 87 = .ok (.getfield 158, 3) := by decide +kernel
theorem dX10_readMint_90 : decode cX10_readMint 90 = .ok (.iastore, 1) := by decide +kernel
theorem dX10_readMint_91 : decode cX10_readMint 91 = .ok (.aload_n 0, 1) := by decide +kernel
theorem dX10_readMint_92 : decode cX10_readMint 92 = .ok (.getfield 16, 3) := by decide +kernel
theorem dX10_readMint_95 : decode cX10_readMint 95 = .ok (.iconst 1, 1) := by decide +kernel
theorem dX10_readMint_96 : decode cX10_readMint 96 = .ok (.dup2, 1) := by decide +kernel
theorem dX10_readMint_97 : decode cX10_readMint 97 = .ok (.iaload, 1) := by decide +kernel
theorem dX10_readMint_98 : decode cX10_readMint 98 = .ok (.iconst 1, 1) := by decide +kernel
theorem dX10_readMint_99 : decode cX10_readMint 99 = .ok (.iadd, 1) := by decide +kernel
theorem dX10_readMint_100 : decode cX10_readMint 100 = .ok (.iastore, 1) := by decide +kernel
theorem dX10_readMint_101 : decode cX10_readMint 101 = .ok (.iconst 1, 1) := by decide +kernel
theorem dX10_readMint_102 : decode cX10_readMint 102 = .ok (.ireturn, 1) := by decide +kernel
theorem dX10_readWhoTold_0 : decode cX10_readWhoTold 0 = .ok (.aload_n 0, 1) := by decide +kernel
theorem dX10_readWhoTold_1 : decode cX10_readWhoTold 1 = .ok (.invokevirtual 191, 3) := by decide +kernel
theorem dX10_readWhoTold_4 : decode cX10_readWhoTold 4 = .ok (.ifCond .ne 9, 3) := by decide +kernel
theorem dX10_readWhoTold_7 : decode cX10_readWhoTold 7 = .ok (.aload_n 0, 1) := by decide +kernel
theorem dX10_readWhoTold_8 : decode cX10_readWhoTold 8 = .ok (.iconst 1, 1) := by decide +kernel
theorem dX10_readWhoTold_9 : decode cX10_readWhoTold 9 = .ok (.invokevirtual 151, 3) := by decide +kernel
theorem dX10_readWhoTold_12 : decode cX10_readWhoTold 12 = .ok (.ireturn, 1) := by decide +kernel
theorem dX10_readWhoTold_13 : decode cX10_readWhoTold 13 = .ok (.aload_n 0, 1) := by decide +kernel
theorem dX10_readWhoTold_14 : decode cX10_readWhoTold 14 = .ok (.aload_n 0, 1) := by decide +kernel
theorem dX10_readWhoTold_15 : decode cX10_readWhoTold 15 = .ok (.aload_n 0, 1) := by decide +kernel
theorem dX10_readWhoTold_16 : decode cX10_readWhoTold 16 = .ok (.getfield 30, 3) := by decide +kernel
theorem dX10_readWhoTold_19 : decode cX10_readWhoTold 19 = .ok (.iconst 0, 1) := by decide +kernel
theorem dX10_readWhoTold_20 : decode cX10_readWhoTold 20 = .ok (.aload_n 0, 1) := by decide +kernel
theorem dX10_readWhoTold_21 : decode cX10_readWhoTold 21 = .ok (.getfield 16, 3) := by decide +kernel
theorem dX10_readWhoTold_24 : decode cX10_readWhoTold 24 = .ok (.iconst 0, 1) := by decide +kernel
theorem dX10_readWhoTold_25 : decode cX10_readWhoTold 25 = .ok (.iaload, 1) := by decide +kernel
theorem dX10_readWhoTold_26 : decode cX10_readWhoTold 26 = .ok (.invokevirtual 195, 3) := by decide +kernel
theorem dX10_readWhoTold_29 : decode cX10_readWhoTold 29 = .ok (.putfield 158, 3) := by decide +kernel
theorem dX10_readWhoTold_32 : decode cX10_readWhoTold 32 = .ok (.aload_n 0, 1) := by decide +kernel
theorem dX10_readWhoTold_33 : decode cX10_readWhoTold 33 = .ok (.getfield 158, 3) := by decide +kernel
theorem dX10_readWhoTold_36 : decode cX10_readWhoTold 36 = .ok (.iconst (-1), 1) := by decide +kernel
theorem dX10_readWhoTold_37 : decode cX10_readWhoTold 37 = .ok (.if_icmp .ne 11, 3) := by decide +kernel
theorem dX10_readWhoTold_40 : decode cX10_readWhoTold 40 = .ok (.aload_n 0, 1) := by decide +kernel
theorem dX10_readWhoTold_41 : decode cX10_readWhoTold 41 = .ok (.iconst 3, 1) := by decide +kernel
theorem dX10_readWhoTold_42 : decode cX10_readWhoTold 42 = .ok (.invokevirtual 151, 3) := by decide +kernel
theorem dX10_readWhoTold_45 : decode cX10_readWhoTold 45 = .ok (.ifCond .eq 7, 3) := by decide +kernel
theorem dX10_readWhoTold_48 : decode cX10_readWhoTold 48 = .ok (.iconst 1, 1) := by decide +kernel
theorem dX10_readWhoTold_49 : decode cX10_readWhoTold 49 = .ok (.goto 4, 3) := by decide +kernel
theorem dX10_readWhoTold_52 : decode cX10_readWhoTold 52 = .ok (.iconst 0, 1) := by decide +kernel
theorem dX10_readWhoTold_53 : decode cX10_readWhoTold 53 = .ok (.ireturn, 1) := by decide +kernel
theorem dX10_readTakes_0 : decode cX10_readTakes 0 = .ok (.aload_n 0, 1) := by decide +kernel
theorem dX10_readTakes_1 : decode cX10_readTakes 1 = .ok (.invokevirtual 161, 3) := by decide +kernel
theorem dX10_readTakes_4 : decode cX10_readTakes 4 = .ok (.aload_n 0, 1) := by decide +kernel
theorem dX10_readTakes_5 : decode cX10_readTakes 5 = .ok (.invokevirtual 209, 3) := by decide +kernel
theorem dX10_readTakes_8 : decode cX10_readTakes 8 = .ok (.ifCond .ne 5, 3) := by decide +kernel
theorem dX10_readTakes_11 : decode cX10_readTakes 11 = .ok (.iconst 0, 1) := by decide +kernel
theorem dX10_readTakes_12 : decode cX10_readTakes 12 = .ok (.ireturn, 1) := by decide +kernel
theorem dX10_readTakes_13 : decode cX10_readTakes 13 = .ok (.aload_n 0, 1) := by decide +kernel
theorem dX10_readTakes_14 : decode cX10_readTakes 14 = .ok (.getfield 158, 3) := by decide +kernel
theorem dX10_readTakes_17 : decode cX10_readTakes 17 = .ok (.istore_n 1, 1) := by decide +kernel
theorem dX10_readTakes_18 : decode cX10_readTakes 18 = .ok (.aload_n 0, 1) := by decide +kernel
theorem dX10_readTakes_19 : decode cX10_readTakes 19 = .ok (.invokevirtual 161, 3) := by decide +kernel
theorem dX10_readTakes_22 : decode cX10_readTakes 22 = .ok (.aload_n 0, 1) := by decide +kernel
theorem dX10_readTakes_23 : decode cX10_readTakes 23 = .ok (.invokevirtual 209, 3) := by decide +kernel
theorem dX10_readTakes_26 : decode cX10_readTakes 26 = .ok (.ifCond .ne 5, 3) := by decide +kernel
theorem dX10_readTakes_29 : decode cX10_readTakes 29 = .ok (.iconst 0, 1) := by decide +kernel
theorem dX10_readTakes_30 : decode cX10_readTakes 30 = .ok (.ireturn, 1) := by decide +kernel
theorem dX10_readTakes_31 : decode cX10_readTakes 31 = .ok (.bipush 44, 2) := by decide +kernel
theorem dX10_readTakes_33 : decode cX10_readTakes 33 = .ok (.bipush 8, 2) := by decide +kernel
theorem dX10_readTakes_35 : decode cX10_readTakes 35 = .ok (.iload_n 1, 1) := by decide +kernel
theorem dX10_readTakes_36 : decode cX10_readTakes 36 = .ok (.imul, 1) := by decide +kernel
theorem dX10_readTakes_37 : decode cX10_readTakes 37 = .ok (.iadd, 1) := by decide +kernel
theorem dX10_readTakes_38 : decode cX10_readTakes 38 = .ok (.aload_n 0, 1) := by decide +kernel
theorem dX10_readTakes_39 : decode cX10_readTakes 39 = .ok (.getfield 158, 3) := by decide +kernel
theorem dX10_readTakes_42 : decode cX10_readTakes 42 = .ok (.iadd, 1) := by decide +kernel
theorem dX10_readTakes_43 : decode cX10_readTakes 43 = .ok (.istore_n 2, 1) := by decide +kernel
theorem dX10_readTakes_44 : decode cX10_readTakes 44 = .ok (.aload_n 0, 1) := by decide +kernel
theorem dX10_readTakes_45 : decode cX10_readTakes 45 = .ok (.getfield 16, 3) := by decide +kernel
theorem dX10_readTakes_48 : decode cX10_readTakes 48 = .ok (.iload_n 2, 1) := by decide +kernel
theorem dX10_readTakes_49 : decode cX10_readTakes 49 = .ok (.iaload, 1) := by decide +kernel
theorem dX10_readTakes_50 : decode cX10_readTakes 50 = .ok (.ifCond .le 9, 3) := by decide +kernel
theorem dX10_readTakes_53 : decode cX10_readTakes 53 = .ok (.aload_n 0, 1) := by decide +kernel
theorem dX10_readTakes_54 : decode cX10_readTakes 54 = .ok (.iconst 3, 1) := by decide +kernel
theorem dX10_readTakes_55 : decode cX10_readTakes 55 = .ok (.invokevirtual 151, 3) := by decide +kernel
theorem dX10_readTakes_58 : decode cX10_readTakes 58 = .ok (.ireturn, 1) := by decide +kernel
theorem dX10_readTakes_59 : decode cX10_readTakes 59 = .ok (.aload_n 0, 1) := by decide +kernel
theorem dX10_readTakes_60 : decode cX10_readTakes 60 = .ok (.invokevirtual 161, 3) := by decide +kernel
theorem dX10_readTakes_63 : decode cX10_readTakes 63 = .ok (.aload_n 0, 1) := by decide +kernel
theorem dX10_readTakes_64 : decode cX10_readTakes 64 = .ok (.iconst 0, 1) := by decide +kernel
theorem dX10_readTakes_65 : decode cX10_readTakes 65 = .ok (.sipush 200, 3) := by decide +kernel
theorem dX10_readTakes_68 : decode cX10_readTakes 68 = .ok (.invokevirtual 205, 3) := by decide +kernel
theorem dX10_readTakes_71 : decode cX10_readTakes 71 = .ok (.ifCond .ne 5, 3) := by decide +kernel
theorem dX10_readTakes_74 : decode cX10_readTakes 74 = .ok (.iconst 0, 1) := by decide +kernel
theorem dX10_readTakes_75 : decode cX10_readTakes 75 = .ok (.ireturn, 1) := by decide +kernel
theorem dX10_readTakes_76 : decode cX10_readTakes 76 = .ok (.aload_n 0, 1) := by decide +kernel
theorem dX10_readTakes_77 : decode cX10_readTakes 77 = .ok (.getfield 16, 3) := by decide +kernel
theorem dX10_readTakes_80 : decode cX10_readTakes 80 = .ok (.iload_n 2, 1) := by decide +kernel
theorem dX10_readTakes_81 : decode cX10_readTakes 81 = .ok (.aload_n 0, 1) := by decide +kernel
theorem dX10_readTakes_82 : decode cX10_readTakes 82 = .ok (.getfield 158, 3) := by decide +kernel
theorem dX10_readTakes_85 : decode cX10_readTakes 85 = .ok (.iconst 1, 1) := by decide +kernel
theorem dX10_readTakes_86 : decode cX10_readTakes 86 = .ok (.iadd, 1) := by decide +kernel
theorem dX10_readTakes_87 : decode cX10_readTakes 87 = .ok (.iastore, 1) := by decide +kernel
theorem dX10_readTakes_88 : decode cX10_readTakes 88 = .ok (.aload_n 0, 1) := by decide +kernel
theorem dX10_readTakes_89 : decode cX10_readTakes 89 = .ok (.getfield 16, 3) := by decide +kernel
theorem dX10_readTakes_92 : decode cX10_readTakes 92 = .ok (.iconst 2, 1) := by decide +kernel
theorem dX10_readTakes_93 : decode cX10_readTakes 93 = .ok (.dup2, 1) := by decide +kernel
theorem dX10_readTakes_94 : decode cX10_readTakes 94 = .ok (.iaload, 1) := by decide +kernel
theorem dX10_readTakes_95 : decode cX10_readTakes 95 = .ok (.iconst 1, 1) := by decide +kernel
theorem dX10_readTakes_96 : decode cX10_readTakes 96 = .ok (.iadd, 1) := by decide +kernel
theorem dX10_readTakes_97 : decode cX10_readTakes 97 = .ok (.iastore, 1) := by decide +kernel
theorem dX10_readTakes_98 : decode cX10_readTakes 98 = .ok (.iconst 1, 1) := by decide +kernel
theorem dX10_readTakes_99 : decode cX10_readTakes 99 = .ok (.ireturn, 1) := by decide +kernel
theorem dX10_readOnce_0 : decode cX10_readOnce 0 = .ok (.aload_n 0, 1) := by decide +kernel
theorem dX10_readOnce_1 : decode cX10_readOnce 1 = .ok (.getfield 212, 3) := by decide +kernel
theorem dX10_readOnce_4 : decode cX10_readOnce 4 = .ok (.iload_n 1, 1) := by decide +kernel
theorem dX10_readOnce_5 : decode cX10_readOnce 5 = .ok (.invokestatic 215, 3) := by decide +kernel
theorem dX10_readOnce_8 : decode cX10_readOnce 8 = .ok (.ifCond .eq 9, 3) := by decide +kernel
theorem dX10_readOnce_11 : decode cX10_readOnce 11 = .ok (.aload_n 0, 1) := by decide +kernel
theorem dX10_readOnce_12 : decode cX10_readOnce 12 = .ok (.iconst 3, 1) := by decide +kernel
theorem dX10_readOnce_13 : decode cX10_readOnce 13 = .ok (.invokevirtual 151, 3) := by decide +kernel
theorem dX10_readOnce_16 : decode cX10_readOnce 16 = .ok (.ireturn, 1) := by decide +kernel
theorem dX10_readOnce_17 : decode cX10_readOnce 17 = .ok (.aload_n 0, 1) := by decide +kernel
theorem dX10_readOnce_18 : decode cX10_readOnce 18 = .ok (.dup, 1) := by decide +kernel
theorem dX10_readOnce_19 : decode cX10_readOnce 19 = .ok (.getfield 212, 3) := by decide +kernel
theorem dX10_readOnce_22 : decode cX10_readOnce 22 = .ok (.iconst 1, 1) := by decide +kernel
theorem dX10_readOnce_23 : decode cX10_readOnce 23 = .ok (.iload_n 1, 1) := by decide +kernel
theorem dX10_readOnce_24 : decode cX10_readOnce 24 = .ok (.ishl, 1) := by decide +kernel
theorem dX10_readOnce_25 : decode cX10_readOnce 25 = .ok (.ior, 1) := by decide +kernel
theorem dX10_readOnce_26 : decode cX10_readOnce 26 = .ok (.putfield 212, 3) := by decide +kernel
theorem dX10_readOnce_29 : decode cX10_readOnce 29 = .ok (.aload_n 0, 1) := by decide +kernel
theorem dX10_readOnce_30 : decode cX10_readOnce 30 = .ok (.invokevirtual 161, 3) := by decide +kernel
theorem dX10_readOnce_33 : decode cX10_readOnce 33 = .ok (.aload_n 0, 1) := by decide +kernel
theorem dX10_readOnce_34 : decode cX10_readOnce 34 = .ok (.iload_n 3, 1) := by decide +kernel
theorem dX10_readOnce_35 : decode cX10_readOnce 35 = .ok (.iload 4, 2) := by decide +kernel
theorem dX10_readOnce_37 : decode cX10_readOnce 37 = .ok (.invokevirtual 205, 3) := by decide +kernel
theorem dX10_readOnce_40 : decode cX10_readOnce 40 = .ok (.ifCond .ne 5, 3) := by decide +kernel
theorem dX10_readOnce_43 : decode cX10_readOnce 43 = .ok (.iconst 0, 1) := by decide +kernel
theorem dX10_readOnce_44 : decode cX10_readOnce 44 = .ok (.ireturn, 1) := by decide +kernel
theorem dX10_readOnce_45 : decode cX10_readOnce 45 = .ok (.aload_n 0, 1) := by decide +kernel
theorem dX10_readOnce_46 : decode cX10_readOnce 46 = .ok (.getfield 16, 3) := by decide +kernel
theorem dX10_readOnce_49 : decode cX10_readOnce 49 = .ok (.iload_n 2, 1) := by decide +kernel
theorem dX10_readOnce_50 : decode cX10_readOnce 50 = .ok (.aload_n 0, 1) := by decide +kernel
theorem dX10_readOnce_51 : decode cX10_readOnce 51 = .ok (.getfield 158, 3) := by decide +kernel
theorem dX10_readOnce_54 : decode cX10_readOnce 54 = .ok (.iastore, 1) := by decide +kernel
theorem dX10_readOnce_55 : decode cX10_readOnce 55 = .ok (.iconst 1, 1) := by decide +kernel
theorem dX10_readOnce_56 : decode cX10_readOnce 56 = .ok (.ireturn, 1) := by decide +kernel
theorem dX10_readLine_0 : decode cX10_readLine 0 = .ok (.aload_n 0, 1) := by decide +kernel
theorem dX10_readLine_1 : decode cX10_readLine 1 = .ok (.iconst 0, 1) := by decide +kernel
theorem dX10_readLine_2 : decode cX10_readLine 2 = .ok (.invokevirtual 202, 3) := by decide +kernel
theorem dX10_readLine_5 : decode cX10_readLine 5 = .ok (.ifCond .eq 11, 3) := by decide +kernel
theorem dX10_readLine_8 : decode cX10_readLine 8 = .ok (.aload_n 0, 1) := by decide +kernel
theorem dX10_readLine_9 : decode cX10_readLine 9 = .ok (.invokevirtual 218, 3) := by decide +kernel
theorem dX10_readLine_12 : decode cX10_readLine 12 = .ok (.istore_n 1, 1) := by decide +kernel
theorem dX10_readLine_13 : decode cX10_readLine 13 = .ok (.goto 130, 3) := by decide +kernel
theorem dX10_readLine_16 : decode cX10_readLine 16 = .ok (.aload_n 0, 1) := by decide +kernel
theorem dX10_readLine_17 : decode cX10_readLine 17 = .ok (.iconst 3, 1) := by decide +kernel
theorem dX10_readLine_18 : decode cX10_readLine 18 = .ok (.invokevirtual 202, 3) := by decide +kernel
theorem dX10_readLine_21 : decode cX10_readLine 21 = .ok (.ifCond .eq 11, 3) := by decide +kernel
theorem dX10_readLine_24 : decode cX10_readLine 24 = .ok (.aload_n 0, 1) := by decide +kernel
theorem dX10_readLine_25 : decode cX10_readLine 25 = .ok (.invokevirtual 221, 3) := by decide +kernel
theorem dX10_readLine_28 : decode cX10_readLine 28 = .ok (.istore_n 1, 1) := by decide +kernel
theorem dX10_readLine_29 : decode cX10_readLine 29 = .ok (.goto 114, 3) := by decide +kernel
theorem dX10_readLine_32 : decode cX10_readLine 32 = .ok (.aload_n 0, 1) := by decide +kernel
theorem dX10_readLine_33 : decode cX10_readLine 33 = .ok (.iconst 4, 1) := by decide +kernel
theorem dX10_readLine_34 : decode cX10_readLine 34 = .ok (.invokevirtual 202, 3) := by decide +kernel
theorem dX10_readLine_37 : decode cX10_readLine 37 = .ok (.ifCond .eq 11, 3) := by decide +kernel
theorem dX10_readLine_40 : decode cX10_readLine 40 = .ok (.aload_n 0, 1) := by decide +kernel
theorem dX10_readLine_41 : decode cX10_readLine 41 = .ok (.invokevirtual 224, 3) := by decide +kernel
theorem dX10_readLine_44 : decode cX10_readLine 44 = .ok (.istore_n 1, 1) := by decide +kernel
theorem dX10_readLine_45 : decode cX10_readLine 45 = .ok (.goto 98, 3) := by decide +kernel
theorem dX10_readLine_48 : decode cX10_readLine 48 = .ok (.aload_n 0, 1) := by decide +kernel
theorem dX10_readLine_49 : decode cX10_readLine 49 = .ok (.iconst 5, 1) := by decide +kernel
theorem dX10_readLine_50 : decode cX10_readLine 50 = .ok (.invokevirtual 202, 3) := by decide +kernel
theorem dX10_readLine_53 : decode cX10_readLine 53 = .ok (.ifCond .eq 16, 3) := by decide +kernel
theorem dX10_readLine_56 : decode cX10_readLine 56 = .ok (.aload_n 0, 1) := by decide +kernel
theorem dX10_readLine_57 : decode cX10_readLine 57 = .ok (.iconst 0, 1) := by decide +kernel
theorem dX10_readLine_58 : decode cX10_readLine 58 = .ok (.iconst 3, 1) := by decide +kernel
theorem dX10_readLine_59 : decode cX10_readLine 59 = .ok (.iconst 0, 1) := by decide +kernel
theorem dX10_readLine_60 : decode cX10_readLine 60 = .ok (.bipush 100, 2) := by decide +kernel
theorem dX10_readLine_62 : decode cX10_readLine 62 = .ok (.invokevirtual 227, 3) := by decide +kernel
theorem dX10_readLine_65 : decode cX10_readLine 65 = .ok (.istore_n 1, 1) := by decide +kernel
theorem dX10_readLine_66 : decode cX10_readLine 66 = .ok (.goto 77, 3) := by decide +kernel
theorem dX10_readLine_69 : decode cX10_readLine 69 = .ok (.aload_n 0, 1) := by decide +kernel
theorem dX10_readLine_70 : decode cX10_readLine 70 = .ok (.bipush 6, 2) := by decide +kernel
theorem dX10_readLine_72 : decode cX10_readLine 72 = .ok (.invokevirtual 202, 3) := by decide +kernel
theorem dX10_readLine_75 : decode cX10_readLine 75 = .ok (.ifCond .eq 17, 3) := by decide +kernel
theorem dX10_readLine_78 : decode cX10_readLine 78 = .ok (.aload_n 0, 1) := by decide +kernel
theorem dX10_readLine_79 : decode cX10_readLine 79 = .ok (.iconst 1, 1) := by decide +kernel
theorem dX10_readLine_80 : decode cX10_readLine 80 = .ok (.iconst 4, 1) := by decide +kernel
theorem dX10_readLine_81 : decode cX10_readLine 81 = .ok (.iconst 0, 1) := by decide +kernel
theorem dX10_readLine_82 : decode cX10_readLine 82 = .ok (.sipush 200, 3) := by decide +kernel
theorem dX10_readLine_85 : decode cX10_readLine 85 = .ok (.invokevirtual 227, 3) := by decide +kernel
theorem dX10_readLine_88 : decode cX10_readLine 88 = .ok (.istore_n 1, 1) := by decide +kernel
theorem dX10_readLine_89 : decode cX10_readLine 89 = .ok (.goto 54, 3) := by decide +kernel
theorem dX10_readLine_92 : decode cX10_readLine 92 = .ok (.aload_n 0, 1) := by decide +kernel
theorem dX10_readLine_93 : decode cX10_readLine 93 = .ok (.bipush 7, 2) := by decide +kernel
theorem dX10_readLine_95 : decode cX10_readLine 95 = .ok (.invokevirtual 202, 3) := by decide +kernel
theorem dX10_readLine_98 : decode cX10_readLine 98 = .ok (.ifCond .eq 17, 3) := by decide +kernel
theorem dX10_readLine_101 : decode cX10_readLine 101 = .ok (.aload_n 0, 1) := by decide +kernel
theorem dX10_readLine_102 : decode cX10_readLine 102 = .ok (.iconst 2, 1) := by decide +kernel
theorem dX10_readLine_103 : decode cX10_readLine 103 = .ok (.iconst 5, 1) := by decide +kernel
theorem dX10_readLine_104 : decode cX10_readLine 104 = .ok (.iconst 1, 1) := by decide +kernel
theorem dX10_readLine_105 : decode cX10_readLine 105 = .ok (.sipush 999, 3) := by decide +kernel
theorem dX10_readLine_108 : decode cX10_readLine 108 = .ok (.invokevirtual 227, 3) := by decide +kernel
theorem dX10_readLine_111 : decode cX10_readLine 111 = .ok (.istore_n 1, 1) := by decide +kernel
theorem dX10_readLine_112 : decode cX10_readLine 112 = .ok (.goto 31, 3) := by decide +kernel
theorem dX10_readLine_115 : decode cX10_readLine 115 = .ok (.aload_n 0, 1) := by decide +kernel
theorem dX10_readLine_116 : decode cX10_readLine 116 = .ok (.bipush 8, 2) := by decide +kernel
theorem dX10_readLine_118 : decode cX10_readLine 118 = .ok (.invokevirtual 202, 3) := by decide +kernel
theorem dX10_readLine_121 : decode cX10_readLine 121 = .ok (.ifCond .eq 16, 3) := by decide +kernel
theorem dX10_readLine_124 : decode cX10_readLine 124 = .ok (.aload_n 0, 1) := by decide +kernel
theorem dX10_readLine_125 : decode cX10_readLine 125 = .ok (.iconst 3, 1) := by decide +kernel
theorem dX10_readLine_126 : decode cX10_readLine 126 = .ok (.bipush 6, 2) := by decide +kernel
theorem dX10_readLine_128 : decode cX10_readLine 128 = .ok (.iconst 1, 1) := by decide +kernel
theorem dX10_readLine_129 : decode cX10_readLine 129 = .ok (.bipush 9, 2) := by decide +kernel
theorem dX10_readLine_131 : decode cX10_readLine 131 = .ok (.invokevirtual 227, 3) := by decide +kernel
theorem dX10_readLine_134 : decode cX10_readLine 134 = .ok (.goto 8, 3) := by decide +kernel
theorem dX10_readLine_137 : decode cX10_readLine 137 = .ok (.aload_n 0, 1) := by decide +kernel
theorem dX10_readLine_138 : decode cX10_readLine 138 = .ok (.iconst 1, 1) := by decide +kernel
theorem dX10_readLine_139 : decode cX10_readLine 139 = .ok (.invokevirtual 151, 3) := by decide +kernel
theorem dX10_readLine_142 : decode cX10_readLine 142 = .ok (.istore_n 1, 1) := by decide +kernel
theorem dX10_readLine_143 : decode cX10_readLine 143 = .ok (.iload_n 1, 1) := by decide +kernel
theorem dX10_readLine_144 : decode cX10_readLine 144 = .ok (.ifCond .eq 14, 3) := by decide +kernel
theorem dX10_readLine_147 : decode cX10_readLine 147 = .ok (.aload_n 0, 1) := by decide +kernel
theorem dX10_readLine_148 : decode cX10_readLine 148 = .ok (.invokevirtual 231, 3) := by decide +kernel
theorem dX10_readLine_151 : decode cX10_readLine 151 = .ok (.ifCond .eq 7, 3) := by decide +kernel
theorem dX10_readLine_154 : decode cX10_readLine 154 = .ok (.iconst 1, 1) := by decide +kernel
theorem dX10_readLine_155 : decode cX10_readLine 155 = .ok (.goto 4, 3) := by decide +kernel
theorem dX10_readLine_158 : decode cX10_readLine 158 = .ok (.iconst 0, 1) := by decide +kernel
theorem dX10_readLine_159 : decode cX10_readLine 159 = .ok (.ireturn, 1) := by decide +kernel
theorem dX10_law_0 : decode cX10_law 0 = .ok (.aload_n 0, 1) := by decide +kernel
theorem dX10_law_1 : decode cX10_law 1 = .ok (.sipush 700, 3) := by decide +kernel
theorem dX10_law_4 : decode cX10_law 4 = .ok (.invokevirtual 234, 3) := by decide +kernel
theorem dX10_law_7 : decode cX10_law 7 = .ok (.iconst 0, 1) := by decide +kernel
theorem dX10_law_8 : decode cX10_law 8 = .ok (.istore_n 1, 1) := by decide +kernel
theorem dX10_law_9 : decode cX10_law 9 = .ok (.iload_n 1, 1) := by decide +kernel
theorem dX10_law_10 : decode cX10_law 10 = .ok (.bipush 108, 2) := by decide +kernel
theorem dX10_law_12 : decode cX10_law 12 = .ok (.if_icmp .ge 16, 3) := by decide +kernel
theorem dX10_law_15 : decode cX10_law 15 = .ok (.aload_n 0, 1) := by decide +kernel
theorem dX10_law_16 : decode cX10_law 16 = .ok (.getfield 16, 3) := by decide +kernel
theorem dX10_law_19 : decode cX10_law 19 = .ok (.iload_n 1, 1) := by decide +kernel
theorem dX10_law_20 : decode cX10_law 20 = .ok (.iconst 0, 1) := by decide +kernel
theorem dX10_law_21 : decode cX10_law 21 = .ok (.iastore, 1) := by decide +kernel
theorem dX10_law_22 : decode cX10_law 22 = .ok (.iinc 1 1, 3) := by decide +kernel
theorem dX10_law_25 : decode cX10_law 25 = .ok (.goto (-16), 3) := by decide +kernel
theorem dX10_law_28 : decode cX10_law 28 = .ok (.aload_n 0, 1) := by decide +kernel
theorem dX10_law_29 : decode cX10_law 29 = .ok (.aload_n 0, 1) := by decide +kernel
theorem dX10_law_30 : decode cX10_law 30 = .ok (.getfield 16, 3) := by decide +kernel
theorem dX10_law_33 : decode cX10_law 33 = .ok (.invokevirtual 178, 3) := by decide +kernel
theorem dX10_law_36 : decode cX10_law 36 = .ok (.aload_n 0, 1) := by decide +kernel
theorem dX10_law_37 : decode cX10_law 37 = .ok (.iconst 0, 1) := by decide +kernel
theorem dX10_law_38 : decode cX10_law 38 = .ok (.putfield 212, 3) := by decide +kernel
theorem dX10_law_41 : decode cX10_law 41 = .ok (.iconst 0, 1) := by decide +kernel
theorem dX10_law_42 : decode cX10_law 42 = .ok (.istore_n 1, 1) := by decide +kernel
theorem dX10_law_43 : decode cX10_law 43 = .ok (.aload_n 0, 1) := by decide +kernel
theorem dX10_law_44 : decode cX10_law 44 = .ok (.getfield 105, 3) := by decide +kernel
theorem dX10_law_47 : decode cX10_law 47 = .ok (.ifCond .eq 23, 3) := by decide +kernel
theorem dX10_law_50 : decode cX10_law 50 = .ok (.aload_n 0, 1) := by decide +kernel
theorem dX10_law_51 : decode cX10_law 51 = .ok (.invokevirtual 237, 3) := by decide +kernel
theorem dX10_law_54 : decode cX10_law 54 = .ok (.ifCond .ne 10, 3) := by decide +kernel
theorem dX10_law_57 : decode cX10_law 57 = .ok (.iconst (-1), 1) := by decide +kernel
theorem dX10_law_58 : decode cX10_law 58 = .ok (.aload_n 0, 1) := by decide +kernel
theorem dX10_law_59 : decode cX10_law 59 = .ok (.getfield 148, 3) := by decide +kernel
theorem dX10_law_62 : decode cX10_law 62 = .ok (.isub, 1) := by decide +kernel
theorem dX10_law_63 : decode cX10_law 63 = .ok (.ireturn, 1) := by decide +kernel
theorem dX10_law_64 : decode cX10_law 64 = .ok (.iinc 1 1, 3) := by decide +kernel
theorem dX10_law_67 : decode cX10_law 67 = .ok (.goto (-24), 3) := by decide +kernel
theorem dX10_law_70 : decode cX10_law 70 = .ok (.iconst 0, 1) := by decide +kernel
theorem dX10_law_71 : decode cX10_law 71 = .ok (.istore_n 2, 1) := by decide +kernel
theorem dX10_law_72 : decode cX10_law 72 = .ok (.iload_n 2, 1) := by decide +kernel
theorem dX10_law_73 : decode cX10_law 73 = .ok (.bipush 108, 2) := by decide +kernel
theorem dX10_law_75 : decode cX10_law 75 = .ok (.if_icmp .ge 21, 3) := by decide +kernel
theorem dX10_law_78 : decode cX10_law 78 = .ok (.aload_n 0, 1) := by decide +kernel
theorem dX10_law_79 : decode cX10_law 79 = .ok (.getfield 13, 3) := by decide +kernel
theorem dX10_law_82 : decode cX10_law 82 = .ok (.iload_n 2, 1) := by decide +kernel
theorem dX10_law_83 : decode cX10_law 83 = .ok (.aload_n 0, 1) := by decide +kernel
theorem dX10_law_84 : decode cX10_law 84 = .ok (.getfield 16, 3) := by decide +kernel
theorem dX10_law_87 : decode cX10_law 87 = .ok (.iload_n 2, 1) := by decide +kernel
theorem dX10_law_88 : decode cX10_law 88 = .ok (.iaload, 1) := by decide +kernel
theorem dX10_law_89 : decode cX10_law 89 = .ok (.iastore, 1) := by decide +kernel
theorem dX10_law_90 : decode cX10_law 90 = .ok (.iinc 2 1, 3) := by decide +kernel
theorem dX10_law_93 : decode cX10_law 93 = .ok (.goto (-21), 3) := by decide +kernel
theorem dX10_law_96 : decode cX10_law 96 = .ok (.bipush 108, 2) := by decide +kernel
theorem dX10_law_98 : decode cX10_law 98 = .ok (.istore_n 2, 1) := by decide +kernel
theorem dX10_law_99 : decode cX10_law 99 = .ok (.iload_n 2, 1) := by decide +kernel
theorem dX10_law_100 : decode cX10_law 100 = .ok (.bipush 120, 2) := by decide +kernel
theorem dX10_law_102 : decode cX10_law 102 = .ok (.if_icmp .ge 16, 3) := by decide +kernel
theorem dX10_law_105 : decode cX10_law 105 = .ok (.aload_n 0, 1) := by decide +kernel
theorem dX10_law_106 : decode cX10_law 106 = .ok (.getfield 13, 3) := by decide +kernel
theorem dX10_law_109 : decode cX10_law 109 = .ok (.iload_n 2, 1) := by decide +kernel
theorem dX10_law_110 : decode cX10_law 110 = .ok (.iconst 0, 1) := by decide +kernel
theorem dX10_law_111 : decode cX10_law 111 = .ok (.iastore, 1) := by decide +kernel
theorem dX10_law_112 : decode cX10_law 112 = .ok (.iinc 2 1, 3) := by decide +kernel
theorem dX10_law_115 : decode cX10_law 115 = .ok (.goto (-16), 3) := by decide +kernel
theorem dX10_law_118 : decode cX10_law 118 = .ok (.aload_n 0, 1) := by decide +kernel
theorem dX10_law_119 : decode cX10_law 119 = .ok (.getfield 13, 3) := by decide +kernel
theorem dX10_law_122 : decode cX10_law 122 = .ok (.bipush 110, 2) := by decide +kernel
theorem dX10_law_124 : decode cX10_law 124 = .ok (.iconst (-1), 1) := by decide +kernel
theorem dX10_law_125 : decode cX10_law 125 = .ok (.iastore, 1) := by decide +kernel
theorem dX10_law_126 : decode cX10_law 126 = .ok (.aload_n 0, 1) := by decide +kernel
theorem dX10_law_127 : decode cX10_law 127 = .ok (.getfield 13, 3) := by decide +kernel
theorem dX10_law_130 : decode cX10_law 130 = .ok (.bipush 111, 2) := by decide +kernel
theorem dX10_law_132 : decode cX10_law 132 = .ok (.iconst (-1), 1) := by decide +kernel
theorem dX10_law_133 : decode cX10_law 133 = .ok (.iastore, 1) := by decide +kernel
theorem dX10_law_134 : decode cX10_law 134 = .ok (.iconst 0, 1) := by decide +kernel
theorem dX10_law_135 : decode cX10_law 135 = .ok (.istore_n 2, 1) := by decide +kernel
theorem dX10_law_136 : decode cX10_law 136 = .ok (.iload_n 2, 1) := by decide +kernel
theorem dX10_law_137 : decode cX10_law 137 = .ok (.bipush 12, 2) := by decide +kernel
theorem dX10_law_139 : decode cX10_law 139 = .ok (.if_icmp .ge 21, 3) := by decide +kernel
theorem dX10_law_142 : decode cX10_law 142 = .ok (.aload_n 0, 1) := by decide +kernel
theorem dX10_law_143 : decode cX10_law 143 = .ok (.getfield 26, 3) := by decide +kernel
theorem dX10_law_146 : decode cX10_law 146 = .ok (.iload_n 2, 1) := by decide +kernel
theorem dX10_law_147 : decode cX10_law 147 = .ok (.aload_n 0, 1) := by decide +kernel
theorem dX10_law_148 : decode cX10_law 148 = .ok (.getfield 30, 3) := by decide +kernel
theorem dX10_law_151 : decode cX10_law 151 = .ok (.iload_n 2, 1) := by decide +kernel
theorem dX10_law_152 : decode cX10_law 152 = .ok (.laload, 1) := by decide +kernel
theorem dX10_law_153 : decode cX10_law 153 = .ok (.lastore, 1) := by decide +kernel
theorem dX10_law_154 : decode cX10_law 154 = .ok (.iinc 2 1, 3) := by decide +kernel
theorem dX10_law_157 : decode cX10_law 157 = .ok (.goto (-21), 3) := by decide +kernel
theorem dX10_law_160 : decode cX10_law 160 = .ok (.aload_n 0, 1) := by decide +kernel
theorem dX10_law_161 : decode cX10_law 161 = .ok (.iconst 0, 1) := by decide +kernel
theorem dX10_law_162 : decode cX10_law 162 = .ok (.putfield 240, 3) := by decide +kernel
theorem dX10_law_165 : decode cX10_law 165 = .ok (.iload_n 1, 1) := by decide +kernel
theorem dX10_law_166 : decode cX10_law 166 = .ok (.ireturn, 1) := by decide +kernel
theorem dX10_fault_0 : decode cX10_fault 0 = .ok (.aload_n 0, 1) := by decide +kernel
theorem dX10_fault_1 : decode cX10_fault 1 = .ok (.iconst 0, 1) := by decide +kernel
theorem dX10_fault_2 : decode cX10_fault 2 = .ok (.putfield 83, 3) := by decide +kernel
theorem dX10_fault_5 : decode cX10_fault 5 = .ok (.aload_n 0, 1) := by decide +kernel
theorem dX10_fault_6 : decode cX10_fault 6 = .ok (.getfield 145, 3) := by decide +kernel
theorem dX10_fault_9 : decode cX10_fault 9 = .ok (.ireturn, 1) := by decide +kernel
theorem dX10_who_0 : decode cX10_who 0 = .ok (.aload_n 0, 1) := by decide +kernel
theorem dX10_who_1 : decode cX10_who 1 = .ok (.invokevirtual 167, 3) := by decide +kernel
theorem dX10_who_4 : decode cX10_who 4 = .ok (.aload_n 0, 1) := by decide +kernel
theorem dX10_who_5 : decode cX10_who 5 = .ok (.iload_n 1, 1) := by decide +kernel
theorem dX10_who_6 : decode cX10_who 6 = .ok (.invokevirtual 243, 3) := by decide +kernel
theorem dX10_who_9 : decode cX10_who 9 = .ok (.ifCond .eq 12, 3) := by decide +kernel
theorem dX10_who_12 : decode cX10_who 12 = .ok (.iload_n 2, 1) := by decide +kernel
theorem dX10_who_13 : decode cX10_who 13 = .ok (.iconst 0, 1) := by decide +kernel
theorem dX10_who_14 : decode cX10_who 14 = .ok (.iconst 5, 1) := by decide +kernel
theorem dX10_who_15 : decode cX10_who 15 = .ok (.invokestatic 154, 3) := by decide +kernel
