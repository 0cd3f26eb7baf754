theorem dX8_init_0 : decode cX8_init 0 = .ok (.aload_n 0, 1) := by decide +kernel
theorem dX8_init_1 : decode cX8_init 1 = .ok (.invokespecial 3, 3) := by decide +kernel
theorem dX8_init_4 : decode cX8_init 4 = .ok (.aload_n 0, 1) := by decide +kernel
theorem dX8_init_5 : decode cX8_init 5 = .ok (.new 9, 3) := by decide +kernel
theorem dX8_init_8 : decode cX8_init 8 = .ok (.dup, 1) := by decide +kernel
theorem dX8_init_9 : decode cX8_init 9 = .ok (.invokespecial 11, 3) := by decide +kernel
theorem dX8_init_12 : decode cX8_init 12 = .ok (.putfield 12, 3) := by decide +kernel
theorem dX8_init_15 : decode cX8_init 15 = .ok (.aload_n 0, 1) := by decide +kernel
theorem dX8_init_16 : decode cX8_init 16 = .ok (.new 18, 3) := by decide +kernel
theorem dX8_init_19 : decode cX8_init 19 = .ok (.dup, 1) := by decide +kernel
theorem dX8_init_20 : decode cX8_init 20 = .ok (.invokespecial 20, 3) := by decide +kernel
theorem dX8_init_23 : decode cX8_init 23 = .ok (.putfield 21, 3) := by decide +kernel
theorem dX8_init_26 : decode cX8_init 26 = .ok (.aload_n 0, 1) := by decide +kernel
theorem dX8_init_27 : decode cX8_init 27 = .ok (.new 25, 3) := by decide +kernel
theorem dX8_init_30 : decode cX8_init 30 = .ok (.dup, 1) := by decide +kernel
theorem dX8_init_31 : decode cX8_init 31 = .ok (.sipush 500, 3) := by decide +kernel
theorem dX8_init_34 : decode cX8_init 34 = .ok (.bipush 6, 2) := by decide +kernel
theorem dX8_init_36 : decode cX8_init 36 = .ok (.invokespecial 27, 3) := by decide +kernel
theorem dX8_init_39 : decode cX8_init 39 = .ok (.putfield 30, 3) := by decide +kernel
theorem dX8_init_42 : decode cX8_init 42 = .ok (.aload_n 0, 1) := by decide +kernel
theorem dX8_init_43 : decode cX8_init 43 = .ok (.new 25, 3) := by decide +kernel
theorem dX8_init_46 : decode cX8_init 46 = .ok (.dup, 1) := by decide +kernel
theorem dX8_init_47 : decode cX8_init 47 = .ok (.sipush 500, 3) := by decide +kernel
theorem dX8_init_50 : decode cX8_init 50 = .ok (.bipush 7, 2) := by decide +kernel
theorem dX8_init_52 : decode cX8_init 52 = .ok (.invokespecial 27, 3) := by decide +kernel
theorem dX8_init_55 : decode cX8_init 55 = .ok (.putfield 34, 3) := by decide +kernel
theorem dX8_init_58 : decode cX8_init 58 = .ok (.aload_n 0, 1) := by decide +kernel
theorem dX8_init_59 : decode cX8_init 59 = .ok (.new 37, 3) := by decide +kernel
theorem dX8_init_62 : decode cX8_init 62 = .ok (.dup, 1) := by decide +kernel
theorem dX8_init_63 : decode cX8_init 63 = .ok (.invokespecial 39, 3) := by decide +kernel
theorem dX8_init_66 : decode cX8_init 66 = .ok (.putfield 40, 3) := by decide +kernel
theorem dX8_init_69 : decode cX8_init 69 = .ok (.return_, 1) := by decide +kernel
theorem dX8_copyFrom_0 : decode cX8_copyFrom 0 = .ok (.aload_n 0, 1) := by decide +kernel
theorem dX8_copyFrom_1 : decode cX8_copyFrom 1 = .ok (.getfield 12, 3) := by decide +kernel
theorem dX8_copyFrom_4 : decode cX8_copyFrom 4 = .ok (.aload_n 1, 1) := by decide +kernel
theorem dX8_copyFrom_5 : decode cX8_copyFrom 5 = .ok (.getfield 12, 3) := by decide +kernel
theorem dX8_copyFrom_8 : decode cX8_copyFrom 8 = .ok (.invokevirtual 44, 3) := by decide +kernel
theorem dX8_copyFrom_11 : decode cX8_copyFrom 11 = .ok (.aload_n 0, 1) := by decide +kernel
theorem dX8_copyFrom_12 : decode cX8_copyFrom 12 = .ok (.getfield 21, 3) := by decide +kernel
theorem dX8_copyFrom_15 : decode cX8_copyFrom 15 = .ok (.aload_n 1, 1) := by decide +kernel
theorem dX8_copyFrom_16 : decode cX8_copyFrom 16 = .ok (.getfield 21, 3) := by decide +kernel
theorem dX8_copyFrom_19 : decode cX8_copyFrom 19 = .ok (.invokevirtual 48, 3) := by decide +kernel
theorem dX8_copyFrom_22 : decode cX8_copyFrom 22 = .ok (.aload_n 0, 1) := by decide +kernel
theorem dX8_copyFrom_23 : decode cX8_copyFrom 23 = .ok (.getfield 30, 3) := by decide +kernel
theorem dX8_copyFrom_26 : decode cX8_copyFrom 26 = .ok (.aload_n 1, 1) := by decide +kernel
theorem dX8_copyFrom_27 : decode cX8_copyFrom 27 = .ok (.getfield 30, 3) := by decide +kernel
theorem dX8_copyFrom_30 : decode cX8_copyFrom 30 = .ok (.aload_n 1, 1) := by decide +kernel
theorem dX8_copyFrom_31 : decode cX8_copyFrom 31 = .ok (.getfield 21, 3) := by decide +kernel
theorem dX8_copyFrom_34 : decode cX8_copyFrom 34 = .ok (.getfield 51, 3) := by decide +kernel
theorem dX8_copyFrom_37 : decode cX8_copyFrom 37 = .ok (.invokevirtual 54, 3) := by decide +kernel
theorem dX8_copyFrom_40 : decode cX8_copyFrom 40 = .ok (.aload_n 0, 1) := by decide +kernel
theorem dX8_copyFrom_41 : decode cX8_copyFrom 41 = .ok (.getfield 34, 3) := by decide +kernel
theorem dX8_copyFrom_44 : decode cX8_copyFrom 44 = .ok (.aload_n 1, 1) := by decide +kernel
theorem dX8_copyFrom_45 : decode cX8_copyFrom 45 = .ok (.getfield 34, 3) := by decide +kernel
theorem dX8_copyFrom_48 : decode cX8_copyFrom 48 = .ok (.aload_n 1, 1) := by decide +kernel
theorem dX8_copyFrom_49 : decode cX8_copyFrom 49 = .ok (.getfield 21, 3) := by decide +kernel
theorem dX8_copyFrom_52 : decode cX8_copyFrom 52 = .ok (.getfield 57, 3) := by decide +kernel
theorem dX8_copyFrom_55 : decode cX8_copyFrom 55 = .ok (.invokevirtual 54, 3) := by decide +kernel
theorem dX8_copyFrom_58 : decode cX8_copyFrom 58 = .ok (.aload_n 0, 1) := by decide +kernel
theorem dX8_copyFrom_59 : decode cX8_copyFrom 59 = .ok (.getfield 40, 3) := by decide +kernel
theorem dX8_copyFrom_62 : decode cX8_copyFrom 62 = .ok (.aload_n 1, 1) := by decide +kernel
theorem dX8_copyFrom_63 : decode cX8_copyFrom 63 = .ok (.getfield 40, 3) := by decide +kernel
theorem dX8_copyFrom_66 : decode cX8_copyFrom 66 = .ok (.invokevirtual 59, 3) := by decide +kernel
theorem dX8_copyFrom_69 : decode cX8_copyFrom 69 = .ok (.return_, 1) := by decide +kernel
theorem dX8_enact_0 : decode cX8_enact 0 = .ok (.aload_n 0, 1) := by decide +kernel
theorem dX8_enact_1 : decode cX8_enact 1 = .ok (.getfield 12, 3) := by decide +kernel
theorem dX8_enact_4 : decode cX8_enact 4 = .ok (.aload_n 1, 1) := by decide +kernel
theorem dX8_enact_5 : decode cX8_enact 5 = .ok (.invokevirtual 44, 3) := by decide +kernel
theorem dX8_enact_8 : decode cX8_enact 8 = .ok (.aload_n 0, 1) := by decide +kernel
theorem dX8_enact_9 : decode cX8_enact 9 = .ok (.getfield 21, 3) := by decide +kernel
theorem dX8_enact_12 : decode cX8_enact 12 = .ok (.invokevirtual 62, 3) := by decide +kernel
theorem dX8_enact_15 : decode cX8_enact 15 = .ok (.aload_n 0, 1) := by decide +kernel
theorem dX8_enact_16 : decode cX8_enact 16 = .ok (.getfield 40, 3) := by decide +kernel
theorem dX8_enact_19 : decode cX8_enact 19 = .ok (.invokevirtual 65, 3) := by decide +kernel
theorem dX8_enact_22 : decode cX8_enact 22 = .ok (.return_, 1) := by decide +kernel
theorem dX8_isWho_0 : decode cX8_isWho 0 = .ok (.iload_n 1, 1) := by decide +kernel
theorem dX8_isWho_1 : decode cX8_isWho 1 = .ok (.ifCond .lt 24, 3) := by decide +kernel
theorem dX8_isWho_4 : decode cX8_isWho 4 = .ok (.iload_n 1, 1) := by decide +kernel
theorem dX8_isWho_5 : decode cX8_isWho 5 = .ok (.aload_n 0, 1) := by decide +kernel
theorem dX8_isWho_6 : decode cX8_isWho 6 = .ok (.getfield 12, 3) := by decide +kernel
theorem dX8_isWho_9 : decode cX8_isWho 9 = .ok (.getfield 66, 3) := by decide +kernel
theorem dX8_isWho_12 : decode cX8_isWho 12 = .ok (.if_icmp .ge 13, 3) := by decide +kernel
theorem dX8_isWho_15 : decode cX8_isWho 15 = .ok (.iload_n 1, 1) := by decide +kernel
theorem dX8_isWho_16 : decode cX8_isWho 16 = .ok (.bipush 8, 2) := by decide +kernel
theorem dX8_isWho_18 : decode cX8_isWho 18 = .ok (.if_icmp .ge 7, 3) := by decide +kernel
theorem dX8_isWho_21 : decode cX8_isWho 21 = .ok (.iconst 1, 1) := by decide +kernel
theorem dX8_isWho_22 : decode cX8_isWho 22 = .ok (.goto 4, 3) := by decide +kernel
theorem dX8_isWho_25 : decode cX8_isWho 25 = .ok (.iconst 0, 1) := by decide +kernel
theorem dX8_isWho_26 : decode cX8_isWho 26 = .ok (.ireturn, 1) := by decide +kernel
theorem dX8_isAlive_0 : decode cX8_isAlive 0 = .ok (.aload_n 0, 1) := by decide +kernel
theorem dX8_isAlive_1 : decode cX8_isAlive 1 = .ok (.iload_n 1, 1) := by decide +kernel
theorem dX8_isAlive_2 : decode cX8_isAlive 2 = .ok (.invokevirtual 69, 3) := by decide +kernel
theorem dX8_isAlive_5 : decode cX8_isAlive 5 = .ok (.ifCond .eq 18, 3) := by decide +kernel
theorem dX8_isAlive_8 : decode cX8_isAlive 8 = .ok (.aload_n 0, 1) := by decide +kernel
theorem dX8_isAlive_9 : decode cX8_isAlive 9 = .ok (.getfield 21, 3) := by decide +kernel
theorem dX8_isAlive_12 : decode cX8_isAlive 12 = .ok (.iload_n 1, 1) := by decide +kernel
theorem dX8_isAlive_13 : decode cX8_isAlive 13 = .ok (.invokevirtual 73, 3) := by decide +kernel
theorem dX8_isAlive_16 : decode cX8_isAlive 16 = .ok (.ifCond .ne 7, 3) := by decide +kernel
theorem dX8_isAlive_19 : decode cX8_isAlive 19 = .ok (.iconst 1, 1) := by decide +kernel
theorem dX8_isAlive_20 : decode cX8_isAlive 20 = .ok (.goto 4, 3) := by decide +kernel
theorem dX8_isAlive_23 : decode cX8_isAlive 23 = .ok (.iconst 0, 1) := by decide +kernel
theorem dX8_isAlive_24 : decode cX8_isAlive 24 = .ok (.ireturn, 1) := by decide +kernel
theorem dX8_canTrade_0 : decode cX8_canTrade 0 = .ok (.aload_n 0, 1) := by decide +kernel
theorem dX8_canTrade_1 : decode cX8_canTrade 1 = .ok (.iload_n 1, 1) := by decide +kernel
theorem dX8_canTrade_2 : decode cX8_canTrade 2 = .ok (.invokevirtual 76, 3) := by decide +kernel
theorem dX8_canTrade_5 : decode cX8_canTrade 5 = .ok (.ifCond .eq 20, 3) := by decide +kernel
theorem dX8_canTrade_8 : decode cX8_canTrade 8 = .ok (.aload_n 0, 1) := by decide +kernel
theorem dX8_canTrade_9 : decode cX8_canTrade 9 = .ok (.iload_n 2, 1) := by decide +kernel
theorem dX8_canTrade_10 : decode cX8_canTrade 10 = .ok (.invokevirtual 76, 3) := by decide +kernel
theorem dX8_canTrade_13 : decode cX8_canTrade 13 = .ok (.ifCond .eq 12, 3) := by decide +kernel
theorem dX8_canTrade_16 : decode cX8_canTrade 16 = .ok (.iload_n 1, 1) := by decide +kernel
theorem dX8_canTrade_17 : decode cX8_canTrade 17 = .ok (.iload_n 2, 1) := by decide +kernel
theorem dX8_canTrade_18 : decode cX8_canTrade 18 = .ok (.if_icmp .eq 7, 3) := by decide +kernel
theorem dX8_canTrade_21 : decode cX8_canTrade 21 = .ok (.iconst 1, 1) := by decide +kernel
theorem dX8_canTrade_22 : decode cX8_canTrade 22 = .ok (.goto 4, 3) := by decide +kernel
theorem dX8_canTrade_25 : decode cX8_canTrade 25 = .ok (.iconst 0, 1) := by decide +kernel
theorem dX8_canTrade_26 : decode cX8_canTrade 26 = .ok (.ireturn, 1) := by decide +kernel
theorem dX8_isMint_0 : decode cX8_isMint 0 = .ok (.iload_n 1, 1) := by decide +kernel
theorem dX8_isMint_1 : decode cX8_isMint 1 = .ok (.ifCond .lt 23, 3) := by decide +kernel
theorem dX8_isMint_4 : decode cX8_isMint 4 = .ok (.iload_n 1, 1) := by decide +kernel
theorem dX8_isMint_5 : decode cX8_isMint 5 = .ok (.aload_n 0, 1) := by decide +kernel
theorem dX8_isMint_6 : decode cX8_isMint 6 = .ok (.getfield 12, 3) := by decide +kernel
theorem dX8_isMint_9 : decode cX8_isMint 9 = .ok (.getfield 79, 3) := by decide +kernel
theorem dX8_isMint_12 : decode cX8_isMint 12 = .ok (.if_icmp .ge 12, 3) := by decide +kernel
theorem dX8_isMint_15 : decode cX8_isMint 15 = .ok (.iload_n 1, 1) := by decide +kernel
theorem dX8_isMint_16 : decode cX8_isMint 16 = .ok (.iconst 4, 1) := by decide +kernel
theorem dX8_isMint_17 : decode cX8_isMint 17 = .ok (.if_icmp .ge 7, 3) := by decide +kernel
theorem dX8_isMint_20 : decode cX8_isMint 20 = .ok (.iconst 1, 1) := by decide +kernel
theorem dX8_isMint_21 : decode cX8_isMint 21 = .ok (.goto 4, 3) := by decide +kernel
theorem dX8_isMint_24 : decode cX8_isMint 24 = .ok (.iconst 0, 1) := by decide +kernel
theorem dX8_isMint_25 : decode cX8_isMint 25 = .ok (.ireturn, 1) := by decide +kernel
theorem dX8_isCoin_0 : decode cX8_isCoin 0 = .ok (.iload_n 1, 1) := by decide +kernel
theorem dX8_isCoin_1 : decode cX8_isCoin 1 = .ok (.ifCond .lt 24, 3) := by decide +kernel
theorem dX8_isCoin_4 : decode cX8_isCoin 4 = .ok (.iload_n 1, 1) := by decide +kernel
theorem dX8_isCoin_5 : decode cX8_isCoin 5 = .ok (.aload_n 0, 1) := by decide +kernel
theorem dX8_isCoin_6 : decode cX8_isCoin 6 = .ok (.getfield 21, 3) := by decide +kernel
theorem dX8_isCoin_9 : decode cX8_isCoin 9 = .ok (.getfield 82, 3) := by decide +kernel
theorem dX8_isCoin_12 : decode cX8_isCoin 12 = .ok (.if_icmp .ge 13, 3) := by decide +kernel
theorem dX8_isCoin_15 : decode cX8_isCoin 15 = .ok (.iload_n 1, 1) := by decide +kernel
theorem dX8_isCoin_16 : decode cX8_isCoin 16 = .ok (.bipush 40, 2) := by decide +kernel
theorem dX8_isCoin_18 : decode cX8_isCoin 18 = .ok (.if_icmp .ge 7, 3) := by decide +kernel
theorem dX8_isCoin_21 : decode cX8_isCoin 21 = .ok (.iconst 1, 1) := by decide +kernel
theorem dX8_isCoin_22 : decode cX8_isCoin 22 = .ok (.goto 4, 3) := by decide +kernel
theorem dX8_isCoin_25 : decode cX8_isCoin 25 = .ok (.iconst 0, 1) := by decide +kernel
theorem dX8_isCoin_26 : decode cX8_isCoin 26 = .ok (.ireturn, 1) := by decide +kernel
theorem dX8_strokesLeft_0 : decode cX8_strokesLeft 0 = .ok (.sipush 500, 3) := by decide +kernel
theorem dX8_strokesLeft_3 : decode cX8_strokesLeft 3 = .ok (.aload_n 0, 1) := by decide +kernel
theorem dX8_strokesLeft_4 : decode cX8_strokesLeft 4 = .ok (.getfield 21, 3) := by decide +kernel
theorem dX8_strokesLeft_7 : decode cX8_strokesLeft 7 = .ok (.getfield 51, 3) := by decide +kernel
theorem dX8_strokesLeft_10 : decode cX8_strokesLeft 10 = .ok (.isub, 1) := by decide +kernel
theorem dX8_strokesLeft_11 : decode cX8_strokesLeft 11 = .ok (.ireturn, 1) := by decide +kernel
theorem dX8_whoOnTop_0 : decode cX8_whoOnTop 0 = .ok (.aload_n 0, 1) := by decide +kernel
theorem dX8_whoOnTop_1 : decode cX8_whoOnTop 1 = .ok (.iload_n 1, 1) := by decide +kernel
theorem dX8_whoOnTop_2 : decode cX8_whoOnTop 2 = .ok (.invokevirtual 85, 3) := by decide +kernel
theorem dX8_whoOnTop_5 : decode cX8_whoOnTop 5 = .ok (.ifCond .eq 26, 3) := by decide +kernel
theorem dX8_whoOnTop_8 : decode cX8_whoOnTop 8 = .ok (.aload_n 0, 1) := by decide +kernel
theorem dX8_whoOnTop_9 : decode cX8_whoOnTop 9 = .ok (.getfield 30, 3) := by decide +kernel
theorem dX8_whoOnTop_12 : decode cX8_whoOnTop 12 = .ok (.aload_n 0, 1) := by decide +kernel
theorem dX8_whoOnTop_13 : decode cX8_whoOnTop 13 = .ok (.getfield 21, 3) := by decide +kernel
theorem dX8_whoOnTop_16 : decode cX8_whoOnTop 16 = .ok (.getfield 88, 3) := by decide +kernel
theorem dX8_whoOnTop_19 : decode cX8_whoOnTop 19 = .ok (.iload_n 1, 1) := by decide +kernel
theorem dX8_whoOnTop_20 : decode cX8_whoOnTop 20 = .ok (.bipush 9, 2) := by decide +kernel
theorem dX8_whoOnTop_22 : decode cX8_whoOnTop 22 = .ok (.imul, 1) := by decide +kernel
theorem dX8_whoOnTop_23 : decode cX8_whoOnTop 23 = .ok (.iaload, 1) := by decide +kernel
theorem dX8_whoOnTop_24 : decode cX8_whoOnTop 24 = .ok (.iconst 1, 1) := by decide +kernel
theorem dX8_whoOnTop_25 : decode cX8_whoOnTop 25 = .ok (.invokevirtual 92, 3) := by decide +kernel
theorem dX8_whoOnTop_28 : decode cX8_whoOnTop 28 = .ok (.goto 4, 3) := by decide +kernel
theorem dX8_whoOnTop_31 : decode cX8_whoOnTop 31 = .ok (.iconst (-1), 1) := by decide +kernel
theorem dX8_whoOnTop_32 : decode cX8_whoOnTop 32 = .ok (.ireturn, 1) := by decide +kernel
theorem dX8_whoShown_0 : decode cX8_whoShown 0 = .ok (.aload_n 0, 1) := by decide +kernel
theorem dX8_whoShown_1 : decode cX8_whoShown 1 = .ok (.getfield 30, 3) := by decide +kernel
theorem dX8_whoShown_4 : decode cX8_whoShown 4 = .ok (.aload_n 0, 1) := by decide +kernel
theorem dX8_whoShown_5 : decode cX8_whoShown 5 = .ok (.getfield 21, 3) := by decide +kernel
theorem dX8_whoShown_8 : decode cX8_whoShown 8 = .ok (.iload_n 1, 1) := by decide +kernel
theorem dX8_whoShown_9 : decode cX8_whoShown 9 = .ok (.iload_n 2, 1) := by decide +kernel
theorem dX8_whoShown_10 : decode cX8_whoShown 10 = .ok (.invokevirtual 96, 3) := by decide +kernel
theorem dX8_whoShown_13 : decode cX8_whoShown 13 = .ok (.iconst 1, 1) := by decide +kernel
theorem dX8_whoShown_14 : decode cX8_whoShown 14 = .ok (.invokevirtual 92, 3) := by decide +kernel
theorem dX8_whoShown_17 : decode cX8_whoShown 17 = .ok (.ireturn, 1) := by decide +kernel
theorem dX8_showsWho_0 : decode cX8_showsWho 0 = .ok (.iconst 0, 1) := by decide +kernel
theorem dX8_showsWho_1 : decode cX8_showsWho 1 = .ok (.istore_n 3, 1) := by decide +kernel
theorem dX8_showsWho_2 : decode cX8_showsWho 2 = .ok (.iload_n 3, 1) := by decide +kernel
theorem dX8_showsWho_3 : decode cX8_showsWho 3 = .ok (.bipush 9, 2) := by decide +kernel
theorem dX8_showsWho_5 : decode cX8_showsWho 5 = .ok (.if_icmp .ge 34, 3) := by decide +kernel
theorem dX8_showsWho_8 : decode cX8_showsWho 8 = .ok (.aload_n 0, 1) := by decide +kernel
theorem dX8_showsWho_9 : decode cX8_showsWho 9 = .ok (.getfield 21, 3) := by decide +kernel
theorem dX8_showsWho_12 : decode cX8_showsWho 12 = .ok (.iload_n 1, 1) := by decide +kernel
theorem dX8_showsWho_13 : decode cX8_showsWho 13 = .ok (.iload_n 3, 1) := by decide +kernel
theorem dX8_showsWho_14 : decode cX8_showsWho 14 = .ok (.invokevirtual 96, 3) := by decide +kernel
theorem dX8_showsWho_17 : decode cX8_showsWho 17 = .ok (.iconst (-1), 1) := by decide +kernel
theorem dX8_showsWho_18 : decode cX8_showsWho 18 = .ok (.if_icmp .eq 21, 3) := by decide +kernel
theorem dX8_showsWho_21 : decode cX8_showsWho 21 = .ok (.aload_n 0, 1) := by decide +kernel
theorem dX8_showsWho_22 : decode cX8_showsWho 22 = .ok (.iload_n 1, 1) := by decide +kernel
theorem dX8_showsWho_23 : decode cX8_showsWho 23 = .ok (.iload_n 3, 1) := by decide +kernel
theorem dX8_showsWho_24 : decode cX8_showsWho 24 = .ok (.invokevirtual 99, 3) := by decide +kernel
theorem dX8_showsWho_27 : decode cX8_showsWho 27 = .ok (.iload_n 2, 1) := by decide +kernel
theorem dX8_showsWho_28 : decode cX8_showsWho 28 = .ok (.if_icmp .ne 5, 3) := by decide +kernel
theorem dX8_showsWho_31 : decode cX8_showsWho 31 = .ok (.iconst 1, 1) := by decide +kernel
theorem dX8_showsWho_32 : decode cX8_showsWho 32 = .ok (.ireturn, 1) := by decide +kernel
theorem dX8_showsWho_33 : decode cX8_showsWho 33 = .ok (.iinc 3 1, 3) := by decide +kernel
theorem dX8_showsWho_36 : decode cX8_showsWho 36 = .ok (.goto (-34), 3) := by decide +kernel
theorem dX8_showsWho_39 : decode cX8_showsWho 39 = .ok (.iconst 0, 1) := by decide +kernel
theorem dX8_showsWho_40 : decode cX8_showsWho 40 = .ok (.ireturn, 1) := by decide +kernel
theorem dX8_showsFalse_0 : decode cX8_showsFalse 0 = .ok (.iconst 0, 1) := by decide +kernel
theorem dX8_showsFalse_1 : decode cX8_showsFalse 1 = .ok (.istore_n 2, 1) := by decide +kernel
theorem dX8_showsFalse_2 : decode cX8_showsFalse 2 = .ok (.iload_n 2, 1) := by decide +kernel
theorem dX8_showsFalse_3 : decode cX8_showsFalse 3 = .ok (.bipush 9, 2) := by decide +kernel
theorem dX8_showsFalse_5 : decode cX8_showsFalse 5 = .ok (.if_icmp .ge 45, 3) := by decide +kernel
theorem dX8_showsFalse_8 : decode cX8_showsFalse 8 = .ok (.aload_n 0, 1) := by decide +kernel
theorem dX8_showsFalse_9 : decode cX8_showsFalse 9 = .ok (.getfield 21, 3) := by decide +kernel
theorem dX8_showsFalse_12 : decode cX8_showsFalse 12 = .ok (.iload_n 1, 1) := by decide +kernel
theorem dX8_showsFalse_13 : decode cX8_showsFalse 13 = .ok (.iload_n 2, 1) := by decide +kernel
theorem dX8_showsFalse_14 : decode cX8_showsFalse 14 = .ok (.invokevirtual 96, 3) := by decide +kernel
theorem dX8_showsFalse_17 : decode cX8_showsFalse 17 = .ok (.iconst (-1), 1) := by decide +kernel
theorem dX8_showsFalse_18 : decode cX8_showsFalse 18 = .ok (.if_icmp .eq 32, 3) := by decide +kernel
theorem dX8_showsFalse_21 : decode cX8_showsFalse 21 = .ok (.aload_n 0, 1) := by decide +kernel
theorem dX8_showsFalse_22 : decode cX8_showsFalse 22 = .ok (.getfield 30, 3) := by decide +kernel
theorem dX8_showsFalse_25 : decode cX8_showsFalse 25 = .ok (.aload_n 0, 1) := by decide +kernel
theorem dX8_showsFalse_26 : decode cX8_showsFalse 26 = .ok (.getfield 21, 3) := by decide +kernel
theorem dX8_showsFalse_29 : decode cX8_showsFalse 29 = .ok (.iload_n 1, 1) := by decide +kernel
theorem dX8_showsFalse_30 : decode cX8_showsFalse 30 = .ok (.iload_n 2, 1) := by decide +kernel
theorem dX8_showsFalse_31 : decode cX8_showsFalse 31 = .ok (.invokevirtual 96, 3) := by decide +kernel
theorem dX8_showsFalse_34 : decode cX8_showsFalse 34 = .ok (.iconst 5, 1) := by decide +kernel
theorem dX8_showsFalse_35 : decode cX8_showsFalse 35 = .ok (.invokevirtual 92, 3) := by decide +kernel
theorem dX8_showsFalse_38 : decode cX8_showsFalse 38 = .ok (.iconst 1, 1) := by decide +kernel
theorem dX8_showsFalse_39 : decode cX8_showsFalse 39 = .ok (.if_icmp .ne 5, 3) := by decide +kernel
theorem dX8_showsFalse_42 : decode cX8_showsFalse 42 = .ok (.iconst 1, 1) := by decide +kernel
theorem dX8_showsFalse_43 : decode cX8_showsFalse 43 = .ok (.ireturn, 1) := by decide +kernel
theorem dX8_showsFalse_44 : decode cX8_showsFalse 44 = .ok (.iinc 2 1, 3) := by decide +kernel
theorem dX8_showsFalse_47 : decode cX8_showsFalse 47 = .ok (.goto (-45), 3) := by decide +kernel
theorem dX8_showsFalse_50 : decode cX8_showsFalse 50 = .ok (.iconst 0, 1) := by decide +kernel
theorem dX8_showsFalse_51 : decode cX8_showsFalse 51 = .ok (.ireturn, 1) := by decide +kernel
theorem dX8_isShown_0 : decode cX8_isShown 0 = .ok (.aload_n 0, 1) := by decide +kernel
theorem dX8_isShown_1 : decode cX8_isShown 1 = .ok (.getfield 30, 3) := by decide +kernel
theorem dX8_isShown_4 : decode cX8_isShown 4 = .ok (.iload_n 1, 1) := by decide +kernel
theorem dX8_isShown_5 : decode cX8_isShown 5 = .ok (.iconst 0, 1) := by decide +kernel
theorem dX8_isShown_6 : decode cX8_isShown 6 = .ok (.invokevirtual 92, 3) := by decide +kernel
theorem dX8_isShown_9 : decode cX8_isShown 9 = .ok (.istore_n 2, 1) := by decide +kernel
theorem dX8_isShown_10 : decode cX8_isShown 10 = .ok (.iconst 0, 1) := by decide +kernel
theorem dX8_isShown_11 : decode cX8_isShown 11 = .ok (.istore_n 3, 1) := by decide +kernel
theorem dX8_isShown_12 : decode cX8_isShown 12 = .ok (.iload_n 3, 1) := by decide +kernel
theorem dX8_isShown_13 : decode cX8_isShown 13 = .ok (.bipush 9, 2) := by decide +kernel
theorem dX8_isShown_15 : decode cX8_isShown 15 = .ok (.if_icmp .ge 37, 3) := by decide +kernel
theorem dX8_isShown_18 : decode cX8_isShown 18 = .ok (.aload_n 0, 1) := by decide +kernel
theorem dX8_isShown_19 : decode cX8_isShown 19 = .ok (.getfield 21, 3) := by decide +kernel
theorem dX8_isShown_22 : decode cX8_isShown 22 = .ok (.iload_n 2, 1) := by decide +kernel
theorem dX8_isShown_23 : decode cX8_isShown 23 = .ok (.iload_n 3, 1) := by decide +kernel
theorem dX8_isShown_24 : decode cX8_isShown 24 = .ok (.invokevirtual 96, 3) := by decide +kernel
theorem dX8_isShown_27 : decode cX8_isShown 27 = .ok (.iconst (-1), 1) := by decide +kernel
theorem dX8_isShown_28 : decode cX8_isShown 28 = .ok (.if_icmp .eq 24, 3) := by decide +kernel
theorem dX8_isShown_31 : decode cX8_isShown 31 = .ok (.aload_n 0, 1) := by decide +kernel
theorem dX8_isShown_32 : decode cX8_isShown 32 = .ok (.getfield 21, 3) := by decide +kernel
theorem dX8_isShown_35 : decode cX8_isShown 35 = .ok (.iload_n 2, 1) := by decide +kernel
theorem dX8_isShown_36 : decode cX8_isShown 36 = .ok (.iload_n 3, 1) := by decide +kernel
theorem dX8_isShown_37 : decode cX8_isShown 37 = .ok (.invokevirtual 96, 3) := by decide +kernel
theorem dX8_isShown_40 : decode cX8_isShown 40 = .ok (.iload_n 1, 1) := by decide +kernel
theorem dX8_isShown_41 : decode cX8_isShown 41 = .ok (.if_icmp .ne 5, 3) := by decide +kernel
theorem dX8_isShown_44 : decode cX8_isShown 44 = .ok (.iconst 1, 1) := by decide +kernel
theorem dX8_isShown_45 : decode cX8_isShown 45 = .ok (.ireturn, 1) := by decide +kernel
theorem dX8_isShown_46 : decode cX8_isShown 46 = .ok (.iinc 3 1, 3) := by decide +kernel
theorem dX8_isShown_49 : decode cX8_isShown 49 = .ok (.goto (-37), 3) := by decide +kernel
theorem dX8_isShown_52 : decode cX8_isShown 52 = .ok (.iconst 0, 1) := by decide +kernel
theorem dX8_isShown_53 : decode cX8_isShown 53 = .ok (.ireturn, 1) := by decide +kernel
theorem dX8_coinsBearing_0 : decode cX8_coinsBearing 0 = .ok (.iconst 0, 1) := by decide +kernel
theorem dX8_coinsBearing_1 : decode cX8_coinsBearing 1 = .ok (.istore_n 2, 1) := by decide +kernel
theorem dX8_coinsBearing_2 : decode cX8_coinsBearing 2 = .ok (.iconst 0, 1) := by decide +kernel
theorem dX8_coinsBearing_3 : decode cX8_coinsBearing 3 = .ok (.istore_n 3, 1) := by decide +kernel
theorem dX8_coinsBearing_4 : decode cX8_coinsBearing 4 = .ok (.iload_n 3, 1) := by decide +kernel
theorem dX8_coinsBearing_5 : decode cX8_coinsBearing 5 = .ok (.aload_n 0, 1) := by decide +kernel
theorem dX8_coinsBearing_6 : decode cX8_coinsBearing 6 = .ok (.getfield 21, 3) := by decide +kernel
theorem dX8_coinsBearing_9 : decode cX8_coinsBearing 9 = .ok (.getfield 82, 3) := by decide +kernel
theorem dX8_coinsBearing_12 : decode cX8_coinsBearing 12 = .ok (.if_icmp .ge 21, 3) := by decide +kernel
theorem dX8_coinsBearing_15 : decode cX8_coinsBearing 15 = .ok (.aload_n 0, 1) := by decide +kernel
theorem dX8_coinsBearing_16 : decode cX8_coinsBearing 16 = .ok (.iload_n 3, 1) := by decide +kernel
theorem dX8_coinsBearing_17 : decode cX8_coinsBearing 17 = .ok (.invokevirtual 102, 3) := by decide +kernel
theorem dX8_coinsBearing_20 : decode cX8_coinsBearing 20 = .ok (.iload_n 1, 1) := by decide +kernel
theorem dX8_coinsBearing_21 : decode cX8_coinsBearing 21 = .ok (.if_icmp .ne 6, 3) := by decide +kernel
theorem dX8_coinsBearing_24 : decode cX8_coinsBearing 24 = .ok (.iinc 2 1, 3) := by decide +kernel
theorem dX8_coinsBearing_27 : decode cX8_coinsBearing 27 = .ok (.iinc 3 1, 3) := by decide +kernel
theorem dX8_coinsBearing_30 : decode cX8_coinsBearing 30 = .ok (.goto (-26), 3) := by decide +kernel
theorem dX8_coinsBearing_33 : decode cX8_coinsBearing 33 = .ok (.iload_n 2, 1) := by decide +kernel
theorem dX8_coinsBearing_34 : decode cX8_coinsBearing 34 = .ok (.ireturn, 1) := by decide +kernel
theorem dX8_strokesAt_0 : decode cX8_strokesAt 0 = .ok (.iconst 0, 1) := by decide +kernel
theorem dX8_strokesAt_1 : decode cX8_strokesAt 1 = .ok (.istore_n 2, 1) := by decide +kernel
theorem dX8_strokesAt_2 : decode cX8_strokesAt 2 = .ok (.iconst 0, 1) := by decide +kernel
theorem dX8_strokesAt_3 : decode cX8_strokesAt 3 = .ok (.istore_n 3, 1) := by decide +kernel
theorem dX8_strokesAt_4 : decode cX8_strokesAt 4 = .ok (.iload_n 3, 1) := by decide +kernel
theorem dX8_strokesAt_5 : decode cX8_strokesAt 5 = .ok (.aload_n 0, 1) := by decide +kernel
theorem dX8_strokesAt_6 : decode cX8_strokesAt 6 = .ok (.getfield 21, 3) := by decide +kernel
theorem dX8_strokesAt_9 : decode cX8_strokesAt 9 = .ok (.getfield 51, 3) := by decide +kernel
theorem dX8_strokesAt_12 : decode cX8_strokesAt 12 = .ok (.if_icmp .ge 25, 3) := by decide +kernel
theorem dX8_strokesAt_15 : decode cX8_strokesAt 15 = .ok (.aload_n 0, 1) := by decide +kernel
theorem dX8_strokesAt_16 : decode cX8_strokesAt 16 = .ok (.getfield 30, 3) := by decide +kernel
theorem dX8_strokesAt_19 : decode cX8_strokesAt 19 = .ok (.iload_n 3, 1) := by decide +kernel
theorem dX8_strokesAt_20 : decode cX8_strokesAt 20 = .ok (.iconst 2, 1) := by decide +kernel
theorem dX8_strokesAt_21 : decode cX8_strokesAt 21 = .ok (.invokevirtual 92, 3) := by decide +kernel
theorem dX8_strokesAt_24 : decode cX8_strokesAt 24 = .ok (.iload_n 1, 1) := by decide +kernel
theorem dX8_strokesAt_25 : decode cX8_strokesAt 25 = .ok (.if_icmp .ne 6, 3) := by decide +kernel
theorem dX8_strokesAt_28 : decode cX8_strokesAt 28 = .ok (.iinc 2 1, 3) := by decide +kernel
theorem dX8_strokesAt_31 : decode cX8_strokesAt 31 = .ok (.iinc 3 1, 3) := by decide +kernel
theorem dX8_strokesAt_34 : decode cX8_strokesAt 34 = .ok (.goto (-30), 3) := by decide +kernel
theorem dX8_strokesAt_37 : decode cX8_strokesAt 37 = .ok (.iload_n 2, 1) := by decide +kernel
theorem dX8_strokesAt_38 : decode cX8_strokesAt 38 = .ok (.ireturn, 1) := by decide +kernel
theorem dX8_luckNow_0 : decode cX8_luckNow 0 = .ok (.aload_n 0, 1) := by decide +kernel
theorem dX8_luckNow_1 : decode cX8_luckNow 1 = .ok (.getfield 12, 3) := by decide +kernel
theorem dX8_luckNow_4 : decode cX8_luckNow 4 = .ok (.getfield 106, 3) := by decide +kernel
theorem dX8_luckNow_7 : decode cX8_luckNow 7 = .ok (.iconst 0, 1) := by decide +kernel
theorem dX8_luckNow_8 : decode cX8_luckNow 8 = .ok (.iaload, 1) := by decide +kernel
theorem dX8_luckNow_9 : decode cX8_luckNow 9 = .ok (.istore_n 1, 1) := by decide +kernel
theorem dX8_luckNow_10 : decode cX8_luckNow 10 = .ok (.iconst 0, 1) := by decide +kernel
theorem dX8_luckNow_11 : decode cX8_luckNow 11 = .ok (.istore_n 2, 1) := by decide +kernel
theorem dX8_luckNow_12 : decode cX8_luckNow 12 = .ok (.iload_n 2, 1) := by decide +kernel
theorem dX8_luckNow_13 : decode cX8_luckNow 13 = .ok (.aload_n 0, 1) := by decide +kernel
theorem dX8_luckNow_14 : decode cX8_luckNow 14 = .ok (.getfield 21, 3) := by decide +kernel
theorem dX8_luckNow_17 : decode cX8_luckNow 17 = .ok (.getfield 82, 3) := by decide +kernel
theorem dX8_luckNow_20 : decode cX8_luckNow 20 = .ok (.if_icmp .ge 39, 3) := by decide +kernel
theorem dX8_luckNow_23 : decode cX8_luckNow 23 = .ok (.aload_n 0, 1) := by decide +kernel
theorem dX8_luckNow_24 : decode cX8_luckNow 24 = .ok (.iload_n 2, 1) := by decide +kernel
theorem dX8_luckNow_25 : decode cX8_luckNow 25 = .ok (.invokevirtual 102, 3) := by decide +kernel
theorem dX8_luckNow_28 : decode cX8_luckNow 28 = .ok (.istore_n 3, 1) := by decide +kernel
theorem dX8_luckNow_29 : decode cX8_luckNow 29 = .ok (.aload_n 0, 1) := by decide +kernel
theorem dX8_luckNow_30 : decode cX8_luckNow 30 = .ok (.iload_n 3, 1) := by decide +kernel
theorem dX8_luckNow_31 : decode cX8_luckNow 31 = .ok (.invokevirtual 69, 3) := by decide +kernel
theorem dX8_luckNow_34 : decode cX8_luckNow 34 = .ok (.ifCond .eq 19, 3) := by decide +kernel
theorem dX8_luckNow_37 : decode cX8_luckNow 37 = .ok (.aload_n 0, 1) := by decide +kernel
theorem dX8_luckNow_38 : decode cX8_luckNow 38 = .ok (.getfield 12, 3) := by decide +kernel
theorem dX8_luckNow_41 : decode cX8_luckNow 41 = .ok (.getfield 109, 3) := by decide +kernel
theorem dX8_luckNow_44 : decode cX8_luckNow 44 = .ok (.iload_n 3, 1) := by decide +kernel
theorem dX8_luckNow_45 : decode cX8_luckNow 45 = .ok (.iaload, 1) := by decide +kernel
theorem dX8_luckNow_46 : decode cX8_luckNow 46 = .ok (.iconst 1, 1) := by decide +kernel
theorem dX8_luckNow_47 : decode cX8_luckNow 47 = .ok (.if_icmp .ne 6, 3) := by decide +kernel
theorem dX8_luckNow_50 : decode cX8_luckNow 50 = .ok (.iinc 1 (-1), 3) := by decide +kernel
theorem dX8_luckNow_53 : decode cX8_luckNow 53 = .ok (.iinc 2 1, 3) := by decide +kernel
theorem dX8_luckNow_56 : decode cX8_luckNow 56 = .ok (.goto (-44), 3) := by decide +kernel
theorem dX8_luckNow_59 : decode cX8_luckNow 59 = .ok (.iconst 0, 1) := by decide +kernel
theorem dX8_luckNow_60 : decode cX8_luckNow 60 = .ok (.iload_n 1, 1) := by decide +kernel
theorem dX8_luckNow_61 : decode cX8_luckNow 61 = .ok (.invokestatic 112, 3) := by decide +kernel
theorem dX8_luckNow_64 : decode cX8_luckNow 64 = .ok (.ireturn, 1) := by decide +kernel
theorem dX8_hundredths_0 : decode cX8_hundredths 0 = .ok (.iload_n 2, 1) := by decide +kernel
theorem dX8_hundredths_1 : decode cX8_hundredths 1 = .ok (.iload_n 1, 1) := by decide +kernel
theorem dX8_hundredths_2 : decode cX8_hundredths 2 = .ok (.if_icmp .ne 6, 3) := by decide +kernel
theorem dX8_hundredths_5 : decode cX8_hundredths 5 = .ok (.bipush 100, 2) := by decide +kernel
theorem dX8_hundredths_7 : decode cX8_hundredths 7 = .ok (.ireturn, 1) := by decide +kernel
theorem dX8_hundredths_8 : decode cX8_hundredths 8 = .ok (.aload_n 0, 1) := by decide +kernel
theorem dX8_hundredths_9 : decode cX8_hundredths 9 = .ok (.iload_n 2, 1) := by decide +kernel
theorem dX8_hundredths_10 : decode cX8_hundredths 10 = .ok (.invokevirtual 69, 3) := by decide +kernel
theorem dX8_hundredths_13 : decode cX8_hundredths 13 = .ok (.ifCond .eq 16, 3) := by decide +kernel
theorem dX8_hundredths_16 : decode cX8_hundredths 16 = .ok (.aload_n 0, 1) := by decide +kernel
theorem dX8_hundredths_17 : decode cX8_hundredths 17 = .ok (.getfield 12, 3) := by decide +kernel
theorem dX8_hundredths_20 : decode cX8_hundredths 20 = .ok (.getfield 117, 3) := by decide +kernel
theorem dX8_hundredths_23 : decode cX8_hundredths 23 = .ok (.iload_n 2, 1) := by decide +kernel
theorem dX8_hundredths_24 : decode cX8_hundredths 24 = .ok (.iaload, 1) := by decide +kernel
theorem dX8_hundredths_25 : decode cX8_hundredths 25 = .ok (.iconst 1, 1) := by decide +kernel
theorem dX8_hundredths_26 : decode cX8_hundredths 26 = .ok (.if_icmp .ne 5, 3) := by decide +kernel
theorem dX8_hundredths_29 : decode cX8_hundredths 29 = .ok (.iconst 0, 1) := by decide +kernel
theorem dX8_hundredths_30 : decode cX8_hundredths 30 = .ok (.ireturn, 1) := by decide +kernel
theorem dX8_hundredths_31 : decode cX8_hundredths 31 = .ok (.aload_n 0, 1) := by decide +kernel
theorem dX8_hundredths_32 : decode cX8_hundredths 32 = .ok (.getfield 21, 3) := by decide +kernel
theorem dX8_hundredths_35 : decode cX8_hundredths 35 = .ok (.iload_n 2, 1) := by decide +kernel
theorem dX8_hundredths_36 : decode cX8_hundredths 36 = .ok (.invokevirtual 73, 3) := by decide +kernel
theorem dX8_hundredths_39 : decode cX8_hundredths 39 = .ok (.ifCond .eq 15, 3) := by decide +kernel
theorem dX8_hundredths_42 : decode cX8_hundredths 42 = .ok (.aload_n 0, 1) := by decide +kernel
theorem dX8_hundredths_43 : decode cX8_hundredths 43 = .ok (.getfield 12, 3) := by decide +kernel
theorem dX8_hundredths_46 : decode cX8_hundredths 46 = .ok (.getfield 106, 3) := by decide +kernel
theorem dX8_hundredths_49 : decode cX8_hundredths 49 = .ok (.iconst 1, 1) := by decide +kernel
theorem dX8_hundredths_50 : decode cX8_hundredths 50 = .ok (.iaload, 1) := by decide +kernel
theorem dX8_hundredths_51 : decode cX8_hundredths 51 = .ok (.goto 12, 3) := by decide +kernel
theorem dX8_hundredths_54 : decode cX8_hundredths 54 = .ok (.aload_n 0, 1) := by decide +kernel
theorem dX8_hundredths_55 : decode cX8_hundredths 55 = .ok (.getfield 12, 3) := by decide +kernel
theorem dX8_hundredths_58 : decode cX8_hundredths 58 = .ok (.iload_n 1, 1) := by decide +kernel
theorem dX8_hundredths_59 : decode cX8_hundredths 59 = .ok (.iload_n 2, 1) := by decide +kernel
theorem dX8_hundredths_60 : decode cX8_hundredths 60 = .ok (.invokevirtual 120, 3) := by decide +kernel
theorem dX8_hundredths_63 : decode cX8_hundredths 63 = .ok (.istore 4, 2) := by decide +kernel
theorem dX8_hundredths_65 : decode cX8_hundredths 65 = .ok (.aload_n 0, 1) := by decide +kernel
theorem dX8_hundredths_66 : decode cX8_hundredths 66 = .ok (.getfield 12, 3) := by decide +kernel
theorem dX8_hundredths_69 : decode cX8_hundredths 69 = .ok (.getfield 109, 3) := by decide +kernel
theorem dX8_hundredths_72 : decode cX8_hundredths 72 = .ok (.iload_n 2, 1) := by decide +kernel
theorem dX8_hundredths_73 : decode cX8_hundredths 73 = .ok (.iaload, 1) := by decide +kernel
theorem dX8_hundredths_74 : decode cX8_hundredths 74 = .ok (.iconst 1, 1) := by decide +kernel
theorem dX8_hundredths_75 : decode cX8_hundredths 75 = .ok (.if_icmp .ne 10, 3) := by decide +kernel
theorem dX8_hundredths_78 : decode cX8_hundredths 78 = .ok (.iload 4, 2) := by decide +kernel
theorem dX8_hundredths_80 : decode cX8_hundredths 80 = .ok (.iload_n 3, 1) := by decide +kernel
theorem dX8_hundredths_81 : decode cX8_hundredths 81 = .ok (.iadd, 1) := by decide +kernel
theorem dX8_hundredths_82 : decode cX8_hundredths 82 = .ok (.goto 5, 3) := by decide +kernel
theorem dX8_hundredths_85 : decode cX8_hundredths 85 = .ok (.iload 4, 2) := by decide +kernel
theorem dX8_hundredths_87 : decode cX8_hundredths 87 = .ok (.ireturn, 1) := by decide +kernel
theorem dX8_worth_0 : decode cX8_worth 0 = .ok (.aload_n 0, 1) := by decide +kernel
theorem dX8_worth_1 : decode cX8_worth 1 = .ok (.iload_n 2, 1) := by decide +kernel
theorem dX8_worth_2 : decode cX8_worth 2 = .ok (.invokevirtual 85, 3) := by decide +kernel
theorem dX8_worth_5 : decode cX8_worth 5 = .ok (.ifCond .ne 5, 3) := by decide +kernel
theorem dX8_worth_8 : decode cX8_worth 8 = .ok (.iconst 0, 1) := by decide +kernel
theorem dX8_worth_9 : decode cX8_worth 9 = .ok (.ireturn, 1) := by decide +kernel
theorem dX8_worth_10 : decode cX8_worth 10 = .ok (.aload_n 0, 1) := by decide +kernel
theorem dX8_worth_11 : decode cX8_worth 11 = .ok (.getfield 21, 3) := by decide +kernel
theorem dX8_worth_14 : decode cX8_worth 14 = .ok (.getfield 123, 3) := by decide +kernel
theorem dX8_worth_17 : decode cX8_worth 17 = .ok (.iload_n 2, 1) := by decide +kernel
theorem dX8_worth_18 : decode cX8_worth 18 = .ok (.iaload, 1) := by decide +kernel
theorem dX8_worth_19 : decode cX8_worth 19 = .ok (.aload_n 0, 1) := by decide +kernel
theorem dX8_worth_20 : decode cX8_worth 20 = .ok (.iload_n 1, 1) := by decide +kernel
theorem dX8_worth_21 : decode cX8_worth 21 = .ok (.aload_n 0, 1) := by decide +kernel
theorem dX8_worth_22 : decode cX8_worth 22 = .ok (.iload_n 2, 1) := by decide +kernel
theorem dX8_worth_23 : decode cX8_worth 23 = .ok (.invokevirtual 102, 3) := by decide +kernel
theorem dX8_worth_26 : decode cX8_worth 26 = .ok (.iload_n 3, 1) := by decide +kernel
theorem dX8_worth_27 : decode cX8_worth 27 = .ok (.invokevirtual 126, 3) := by decide +kernel
theorem dX8_worth_30 : decode cX8_worth 30 = .ok (.imul, 1) := by decide +kernel
theorem dX8_worth_31 : decode cX8_worth 31 = .ok (.bipush 100, 2) := by decide +kernel
theorem dX8_worth_33 : decode cX8_worth 33 = .ok (.idiv, 1) := by decide +kernel
theorem dX8_worth_34 : decode cX8_worth 34 = .ok (.ireturn, 1) := by decide +kernel
theorem dX8_obstacle_0 : decode cX8_obstacle 0 = .ok (.aload_n 0, 1) := by decide +kernel
theorem dX8_obstacle_1 : decode cX8_obstacle 1 = .ok (.iload_n 3, 1) := by decide +kernel
theorem dX8_obstacle_2 : decode cX8_obstacle 2 = .ok (.invokevirtual 130, 3) := by decide +kernel
theorem dX8_obstacle_5 : decode cX8_obstacle 5 = .ok (.ifCond .eq 14, 3) := by decide +kernel
theorem dX8_obstacle_8 : decode cX8_obstacle 8 = .ok (.aload_n 0, 1) := by decide +kernel
theorem dX8_obstacle_9 : decode cX8_obstacle 9 = .ok (.getfield 21, 3) := by decide +kernel
theorem dX8_obstacle_12 : decode cX8_obstacle 12 = .ok (.iload_n 3, 1) := by decide +kernel
theorem dX8_obstacle_13 : decode cX8_obstacle 13 = .ok (.invokevirtual 133, 3) := by decide +kernel
theorem dX8_obstacle_16 : decode cX8_obstacle 16 = .ok (.ifCond .eq 5, 3) := by decide +kernel
theorem dX8_obstacle_19 : decode cX8_obstacle 19 = .ok (.iconst 4, 1) := by decide +kernel
theorem dX8_obstacle_20 : decode cX8_obstacle 20 = .ok (.ireturn, 1) := by decide +kernel
theorem dX8_obstacle_21 : decode cX8_obstacle 21 = .ok (.iload_n 1, 1) := by decide +kernel
theorem dX8_obstacle_22 : decode cX8_obstacle 22 = .ok (.aload_n 0, 1) := by decide +kernel
theorem dX8_obstacle_23 : decode cX8_obstacle 23 = .ok (.getfield 12, 3) := by decide +kernel
theorem dX8_obstacle_26 : decode cX8_obstacle 26 = .ok (.getfield 136, 3) := by decide +kernel
theorem dX8_obstacle_29 : decode cX8_obstacle 29 = .ok (.iload_n 3, 1) := by decide +kernel
theorem dX8_obstacle_30 : decode cX8_obstacle 30 = .ok (.iaload, 1) := by decide +kernel
theorem dX8_obstacle_31 : decode cX8_obstacle 31 = .ok (.isub, 1) := by decide +kernel
theorem dX8_obstacle_32 : decode cX8_obstacle 32 = .ok (.aload_n 0, 1) := by decide +kernel
theorem dX8_obstacle_33 : decode cX8_obstacle 33 = .ok (.getfield 12, 3) := by decide +kernel
theorem dX8_obstacle_36 : decode cX8_obstacle 36 = .ok (.getfield 106, 3) := by decide +kernel
theorem dX8_obstacle_39 : decode cX8_obstacle 39 = .ok (.iconst 2, 1) := by decide +kernel
theorem dX8_obstacle_40 : decode cX8_obstacle 40 = .ok (.iaload, 1) := by decide +kernel
theorem dX8_obstacle_41 : decode cX8_obstacle 41 = .ok (.if_icmp .ge 5, 3) := by decide +kernel
theorem dX8_obstacle_44 : decode cX8_obstacle 44 = .ok (.iconst 5, 1) := by decide +kernel
theorem dX8_obstacle_45 : decode cX8_obstacle 45 = .ok (.ireturn, 1) := by decide +kernel
theorem dX8_obstacle_46 : decode cX8_obstacle 46 = .ok (.iload_n 2, 1) := by decide +kernel
theorem dX8_obstacle_47 : decode cX8_obstacle 47 = .ok (.aload_n 0, 1) := by decide +kernel
theorem dX8_obstacle_48 : decode cX8_obstacle 48 = .ok (.getfield 12, 3) := by decide +kernel
theorem dX8_obstacle_51 : decode cX8_obstacle 51 = .ok (.getfield 106, 3) := by decide +kernel
theorem dX8_obstacle_54 : decode cX8_obstacle 54 = .ok (.iconst 3, 1) := by decide +kernel
theorem dX8_obstacle_55 : decode cX8_obstacle 55 = .ok (.iaload, 1) := by decide +kernel
theorem dX8_obstacle_56 : decode cX8_obstacle 56 = .ok (.if_icmp .lt 8, 3) := by decide +kernel
theorem dX8_obstacle_59 : decode cX8_obstacle 59 = .ok (.bipush 6, 2) := by decide +kernel
theorem dX8_obstacle_61 : decode cX8_obstacle 61 = .ok (.goto 4, 3) := by decide +kernel
theorem dX8_obstacle_64 : decode cX8_obstacle 64 = .ok (.iconst 0, 1) := by decide +kernel
theorem dX8_obstacle_65 : decode cX8_obstacle 65 = .ok (.ireturn, 1) := by decide +kernel
theorem dX8_strike_0 : decode cX8_strike 0 = .ok (.aload_n 0, 1) := by decide +kernel
theorem dX8_strike_1 : decode cX8_strike 1 = .ok (.iload_n 3, 1) := by decide +kernel
theorem dX8_strike_2 : decode cX8_strike 2 = .ok (.invokevirtual 130, 3) := by decide +kernel
theorem dX8_strike_5 : decode cX8_strike 5 = .ok (.ifCond .eq 11, 3) := by decide +kernel
theorem dX8_strike_8 : decode cX8_strike 8 = .ok (.aload_n 0, 1) := by decide +kernel
theorem dX8_strike_9 : decode cX8_strike 9 = .ok (.invokevirtual 139, 3) := by decide +kernel
theorem dX8_strike_12 : decode cX8_strike 12 = .ok (.iconst 1, 1) := by decide +kernel
theorem dX8_strike_13 : decode cX8_strike 13 = .ok (.if_icmp .ge 4, 3) := by decide +kernel
theorem dX8_strike_16 : decode cX8_strike 16 = .ok (.return_, 1) := by decide +kernel
theorem dX8_strike_17 : decode cX8_strike 17 = .ok (.aload_n 0, 1) := by decide +kernel
theorem dX8_strike_18 : decode cX8_strike 18 = .ok (.getfield 21, 3) := by decide +kernel
theorem dX8_strike_21 : decode cX8_strike 21 = .ok (.getfield 51, 3) := by decide +kernel
theorem dX8_strike_24 : decode cX8_strike 24 = .ok (.istore 6, 2) := by decide +kernel
theorem dX8_strike_26 : decode cX8_strike 26 = .ok (.aload_n 0, 1) := by decide +kernel
theorem dX8_strike_27 : decode cX8_strike 27 = .ok (.getfield 30, 3) := by decide +kernel
theorem dX8_strike_30 : decode cX8_strike 30 = .ok (.iload 6, 2) := by decide +kernel
theorem dX8_strike_32 : decode cX8_strike 32 = .ok (.iconst 0, 1) := by decide +kernel
theorem dX8_strike_33 : decode cX8_strike 33 = .ok (.iload_n 1, 1) := by decide +kernel
theorem dX8_strike_34 : decode cX8_strike 34 = .ok (.invokevirtual 143, 3) := by decide +kernel
theorem dX8_strike_37 : decode cX8_strike 37 = .ok (.aload_n 0, 1) := by decide +kernel
theorem dX8_strike_38 : decode cX8_strike 38 = .ok (.getfield 30, 3) := by decide +kernel
theorem dX8_strike_41 : decode cX8_strike 41 = .ok (.iload 6, 2) := by decide +kernel
theorem dX8_strike_43 : decode cX8_strike 43 = .ok (.iconst 1, 1) := by decide +kernel
theorem dX8_strike_44 : decode cX8_strike 44 = .ok (.iload_n 2, 1) := by decide +kernel
theorem dX8_strike_45 : decode cX8_strike 45 = .ok (.invokevirtual 143, 3) := by decide +kernel
theorem dX8_strike_48 : decode cX8_strike 48 = .ok (.aload_n 0, 1) := by decide +kernel
theorem dX8_strike_49 : decode cX8_strike 49 = .ok (.getfield 30, 3) := by decide +kernel
theorem dX8_strike_52 : decode cX8_strike 52 = .ok (.iload 6, 2) := by decide +kernel
theorem dX8_strike_54 : decode cX8_strike 54 = .ok (.iconst 2, 1) := by decide +kernel
theorem dX8_strike_55 : decode cX8_strike 55 = .ok (.iload_n 3, 1) := by decide +kernel
theorem dX8_strike_56 : decode cX8_strike 56 = .ok (.invokevirtual 143, 3) := by decide +kernel
theorem dX8_strike_59 : decode cX8_strike 59 = .ok (.aload_n 0, 1) := by decide +kernel
theorem dX8_strike_60 : decode cX8_strike 60 = .ok (.getfield 30, 3) := by decide +kernel
theorem dX8_strike_63 : decode cX8_strike 63 = .ok (.iload 6, 2) := by decide +kernel
theorem dX8_strike_65 : decode cX8_strike 65 = .ok (.iconst 3, 1) := by decide +kernel
theorem dX8_strike_66 : decode cX8_strike 66 = .ok (.aload_n 0, 1) := by decide +kernel
theorem dX8_strike_67 : decode cX8_strike 67 = .ok (.getfield 21, 3) := by decide +kernel
theorem dX8_strike_70 : decode cX8_strike 70 = .ok (.getfield 147, 3) := by decide +kernel
theorem dX8_strike_73 : decode cX8_strike 73 = .ok (.invokevirtual 143, 3) := by decide +kernel
theorem dX8_strike_76 : decode cX8_strike 76 = .ok (.aload_n 0, 1) := by decide +kernel
theorem dX8_strike_77 : decode cX8_strike 77 = .ok (.getfield 30, 3) := by decide +kernel
theorem dX8_strike_80 : decode cX8_strike 80 = .ok (.iload 6, 2) := by decide +kernel
theorem dX8_strike_82 : decode cX8_strike 82 = .ok (.iconst 4, 1) := by decide +kernel
theorem dX8_strike_83 : decode cX8_strike 83 = .ok (.iload 4, 2) := by decide +kernel
theorem dX8_strike_85 : decode cX8_strike 85 = .ok (.invokevirtual 143, 3) := by decide +kernel
theorem dX8_strike_88 : decode cX8_strike 88 = .ok (.aload_n 0, 1) := by decide +kernel
theorem dX8_strike_89 : decode cX8_strike 89 = .ok (.getfield 30, 3) := by decide +kernel
theorem dX8_strike_92 : decode cX8_strike 92 = .ok (.iload 6, 2) := by decide +kernel
theorem dX8_strike_94 : decode cX8_strike 94 = .ok (.iconst 5, 1) := by decide +kernel
theorem dX8_strike_95 : decode cX8_strike 95 = .ok (.iload 5, 2) := by decide +kernel
theorem dX8_strike_97 : decode cX8_strike 97 = .ok (.invokevirtual 143, 3) := by decide +kernel
theorem dX8_strike_100 : decode cX8_strike 100 = .ok (.aload_n 0, 1) := by decide +kernel
theorem dX8_strike_101 : decode cX8_strike 101 = .ok (.getfield 21, 3) := by decide +kernel
theorem dX8_strike_104 : decode cX8_strike 104 = .ok (.dup, 1) := by decide +kernel
theorem dX8_strike_105 : decode cX8_strike 105 = .ok (.getfield 51, 3) := by decide +kernel
theorem dX8_strike_108 : decode cX8_strike 108 = .ok (.iconst 1, 1) := by decide +kernel
theorem dX8_strike_109 : decode cX8_strike 109 = .ok (.iadd, 1) := by decide +kernel
theorem dX8_strike_110 : decode cX8_strike 110 = .ok (.putfield 51, 3) := by decide +kernel
theorem dX8_strike_113 : decode cX8_strike 113 = .ok (.aload_n 0, 1) := by decide +kernel
theorem dX8_strike_114 : decode cX8_strike 114 = .ok (.getfield 21, 3) := by decide +kernel
theorem dX8_strike_117 : decode cX8_strike 117 = .ok (.iload_n 1, 1) := by decide +kernel
theorem dX8_strike_118 : decode cX8_strike 118 = .ok (.iload 6, 2) := by decide +kernel
theorem dX8_strike_120 : decode cX8_strike 120 = .ok (.aload_n 0, 1) := by decide +kernel
theorem dX8_strike_121 : decode cX8_strike 121 = .ok (.getfield 12, 3) := by decide +kernel
theorem dX8_strike_124 : decode cX8_strike 124 = .ok (.getfield 136, 3) := by decide +kernel
theorem dX8_strike_127 : decode cX8_strike 127 = .ok (.iload_n 3, 1) := by decide +kernel
theorem dX8_strike_128 : decode cX8_strike 128 = .ok (.iaload, 1) := by decide +kernel
theorem dX8_strike_129 : decode cX8_strike 129 = .ok (.aload_n 0, 1) := by decide +kernel
theorem dX8_strike_130 : decode cX8_strike 130 = .ok (.getfield 12, 3) := by decide +kernel
theorem dX8_strike_133 : decode cX8_strike 133 = .ok (.getfield 150, 3) := by decide +kernel
theorem dX8_strike_136 : decode cX8_strike 136 = .ok (.iload_n 3, 1) := by decide +kernel
theorem dX8_strike_137 : decode cX8_strike 137 = .ok (.iaload, 1) := by decide +kernel
theorem dX8_strike_138 : decode cX8_strike 138 = .ok (.invokevirtual 153, 3) := by decide +kernel
theorem dX8_strike_141 : decode cX8_strike 141 = .ok (.return_, 1) := by decide +kernel
theorem dX8_recordSale_0 : decode cX8_recordSale 0 = .ok (.aload_n 0, 1) := by decide +kernel
theorem dX8_recordSale_1 : decode cX8_recordSale 1 = .ok (.getfield 21, 3) := by decide +kernel
theorem dX8_recordSale_4 : decode cX8_recordSale 4 = .ok (.getfield 57, 3) := by decide +kernel
theorem dX8_recordSale_7 : decode cX8_recordSale 7 = .ok (.istore 7, 2) := by decide +kernel
theorem dX8_recordSale_9 : decode cX8_recordSale 9 = .ok (.iload 7, 2) := by decide +kernel
theorem dX8_recordSale_11 : decode cX8_recordSale 11 = .ok (.sipush 500, 3) := by decide +kernel
theorem dX8_recordSale_14 : decode cX8_recordSale 14 = .ok (.if_icmp .lt 5, 3) := by decide +kernel
theorem dX8_recordSale_17 : decode cX8_recordSale 17 = .ok (.iconst (-1), 1) := by decide +kernel
theorem dX8_recordSale_18 : decode cX8_recordSale 18 = .ok (.ireturn, 1) := by decide +kernel
theorem dX8_recordSale_19 : decode cX8_recordSale 19 = .ok (.aload_n 0, 1) := by decide +kernel
theorem dX8_recordSale_20 : decode cX8_recordSale 20 = .ok (.getfield 34, 3) := by decide +kernel
theorem dX8_recordSale_23 : decode cX8_recordSale 23 = .ok (.iload 7, 2) := by decide +kernel
theorem dX8_recordSale_25 : decode cX8_recordSale 25 = .ok (.iconst 0, 1) := by decide +kernel
theorem dX8_recordSale_26 : decode cX8_recordSale 26 = .ok (.iload_n 1, 1) := by decide +kernel
theorem dX8_recordSale_27 : decode cX8_recordSale 27 = .ok (.invokevirtual 143, 3) := by decide +kernel
theorem dX8_recordSale_30 : decode cX8_recordSale 30 = .ok (.aload_n 0, 1) := by decide +kernel
theorem dX8_recordSale_31 : decode cX8_recordSale 31 = .ok (.getfield 34, 3) := by decide +kernel
theorem dX8_recordSale_34 : decode cX8_recordSale 34 = .ok (.iload 7, 2) := by decide +kernel
theorem dX8_recordSale_36 : decode cX8_recordSale 36 = .ok (.iconst 1, 1) := by decide +kernel
theorem dX8_recordSale_37 : decode cX8_recordSale 37 = .ok (.iload_n 2, 1) := by decide +kernel
theorem dX8_recordSale_38 : decode cX8_recordSale 38 = .ok (.invokevirtual 143, 3) := by decide +kernel
theorem dX8_recordSale_41 : decode cX8_recordSale 41 = .ok (.aload_n 0, 1) := by decide +kernel
theorem dX8_recordSale_42 : decode cX8_recordSale 42 = .ok (.getfield 34, 3) := by decide +kernel
theorem dX8_recordSale_45 : decode cX8_recordSale 45 = .ok (.iload 7, 2) := by decide +kernel
theorem dX8_recordSale_47 : decode cX8_recordSale 47 = .ok (.iconst 2, 1) := by decide +kernel
theorem dX8_recordSale_48 : decode cX8_recordSale 48 = .ok (.iload_n 3, 1) := by decide +kernel
theorem dX8_recordSale_49 : decode cX8_recordSale 49 = .ok (.invokevirtual 143, 3) := by decide +kernel
theorem dX8_recordSale_52 : decode cX8_recordSale 52 = .ok (.aload_n 0, 1) := by decide +kernel
theorem dX8_recordSale_53 : decode cX8_recordSale 53 = .ok (.getfield 34, 3) := by decide +kernel
theorem dX8_recordSale_56 : decode cX8_recordSale 56 = .ok (.iload 7, 2) := by decide +kernel
theorem dX8_recordSale_58 : decode cX8_recordSale 58 = .ok (.iconst 3, 1) := by decide +kernel
theorem dX8_recordSale_59 : decode cX8_recordSale 59 = .ok (.iload 4, 2) := by decide +kernel
theorem dX8_recordSale_61 : decode cX8_recordSale 61 = .ok (.invokevirtual 143, 3) := by decide +kernel
theorem dX8_recordSale_64 : decode cX8_recordSale 64 = .ok (.aload_n 0, 1) := by decide +kernel
theorem dX8_recordSale_65 : decode cX8_recordSale 65 = .ok (.getfield 34, 3) := by decide +kernel
theorem dX8_recordSale_68 : decode cX8_recordSale 68 = .ok (.iload 7, 2) := by decide +kernel
theorem dX8_recordSale_70 : decode cX8_recordSale 70 = .ok (.iconst 4, 1) := by decide +kernel
theorem dX8_recordSale_71 : decode cX8_recordSale 71 = .ok (.aload_n 0, 1) := by decide +kernel
theorem dX8_recordSale_72 : decode cX8_recordSale 72 = .ok (.getfield 21, 3) := by decide +kernel
theorem dX8_recordSale_75 : decode cX8_recordSale 75 = .ok (.getfield 147, 3) := by decide +kernel
theorem dX8_recordSale_78 : decode cX8_recordSale 78 = .ok (.invokevirtual 143, 3) := by decide +kernel
theorem dX8_recordSale_81 : decode cX8_recordSale 81 = .ok (.aload_n 0, 1) := by decide +kernel
theorem dX8_recordSale_82 : decode cX8_recordSale 82 = .ok (.getfield 34, 3) := by decide +kernel
theorem dX8_recordSale_85 : decode cX8_recordSale 85 = .ok (.iload 7, 2) := by decide +kernel
theorem dX8_recordSale_87 : decode cX8_recordSale 87 = .ok (.iconst 5, 1) := by decide +kernel
theorem dX8_recordSale_88 : decode cX8_recordSale 88 = .ok (.iload 5, 2) := by decide +kernel
theorem dX8_recordSale_90 : decode cX8_recordSale 90 = .ok (.invokevirtual 143, 3) := by decide +kernel
theorem dX8_recordSale_93 : decode cX8_recordSale 93 = .ok (.aload_n 0, 1) := by decide +kernel
theorem dX8_recordSale_94 : decode cX8_recordSale 94 = .ok (.getfield 34, 3) := by decide +kernel
theorem dX8_recordSale_97 : decode cX8_recordSale 97 = .ok (.iload 7, 2) := by decide +kernel
theorem dX8_recordSale_99 : decode cX8_recordSale 99 = .ok (.bipush 6, 2) := by decide +kernel
theorem dX8_recordSale_101 : decode cX8_recordSale 101 = .ok (.iload 6, 2) := by decide +kernel
theorem dX8_recordSale_103 : decode cX8_recordSale 103 = .ok (.invokevirtual 143, 3) := by decide +kernel
theorem dX8_recordSale_106 : decode cX8_recordSale 106 = .ok (.aload_n 0, 1) := by decide +kernel
theorem dX8_recordSale_107 : decode cX8_recordSale 107 = .ok (.getfield 21, 3) := by decide +kernel
theorem dX8_recordSale_110 : decode cX8_recordSale 110 = .ok (.dup, 1) := by decide +kernel
theorem dX8_recordSale_111 : decode cX8_recordSale 111 = .ok (.getfield 57, 3) := by decide +kernel
theorem dX8_recordSale_114 : decode cX8_recordSale 114 = .ok (.iconst 1, 1) := by decide +kernel
theorem dX8_recordSale_115 : decode cX8_recordSale 115 = .ok (.iadd, 1) := by decide +kernel
theorem dX8_recordSale_116 : decode cX8_recordSale 116 = .ok (.putfield 57, 3) := by decide +kernel
theorem dX8_recordSale_119 : decode cX8_recordSale 119 = .ok (.iload 7, 2) := by decide +kernel
theorem dX8_recordSale_121 : decode cX8_recordSale 121 = .ok (.ireturn, 1) := by decide +kernel
theorem dX8_handOver_0 : decode cX8_handOver 0 = .ok (.aload_n 0, 1) := by decide +kernel
theorem dX8_handOver_1 : decode cX8_handOver 1 = .ok (.iload_n 1, 1) := by decide +kernel
theorem dX8_handOver_2 : decode cX8_handOver 2 = .ok (.invokevirtual 85, 3) := by decide +kernel
theorem dX8_handOver_5 : decode cX8_handOver 5 = .ok (.ifCond .ne 4, 3) := by decide +kernel
theorem dX8_handOver_8 : decode cX8_handOver 8 = .ok (.return_, 1) := by decide +kernel
theorem dX8_handOver_9 : decode cX8_handOver 9 = .ok (.aload_n 0, 1) := by decide +kernel
theorem dX8_handOver_10 : decode cX8_handOver 10 = .ok (.iload_n 1, 1) := by decide +kernel
theorem dX8_handOver_11 : decode cX8_handOver 11 = .ok (.iload_n 2, 1) := by decide +kernel
theorem dX8_handOver_12 : decode cX8_handOver 12 = .ok (.iload_n 3, 1) := by decide +kernel
theorem dX8_handOver_13 : decode cX8_handOver 13 = .ok (.iload 4, 2) := by decide +kernel
theorem dX8_handOver_15 : decode cX8_handOver 15 = .ok (.iconst 0, 1) := by decide +kernel
theorem dX8_handOver_16 : decode cX8_handOver 16 = .ok (.invokevirtual 157, 3) := by decide +kernel
theorem dX8_handOver_19 : decode cX8_handOver 19 = .ok (.aload_n 0, 1) := by decide +kernel
theorem dX8_handOver_20 : decode cX8_handOver 20 = .ok (.getfield 21, 3) := by decide +kernel
theorem dX8_handOver_23 : decode cX8_handOver 23 = .ok (.getfield 161, 3) := by decide +kernel
theorem dX8_handOver_26 : decode cX8_handOver 26 = .ok (.iload_n 1, 1) := by decide +kernel
theorem dX8_handOver_27 : decode cX8_handOver 27 = .ok (.iload_n 2, 1) := by decide +kernel
theorem dX8_handOver_28 : decode cX8_handOver 28 = .ok (.iastore, 1) := by decide +kernel
theorem dX8_handOver_29 : decode cX8_handOver 29 = .ok (.return_, 1) := by decide +kernel
