theorem dX5_init_0 : decode cX5_init 0 = .ok (.aload_n 0, 1) := by decide +kernel
theorem dX5_init_1 : decode cX5_init 1 = .ok (.invokespecial 5, 3) := by decide +kernel
theorem dX5_init_4 : decode cX5_init 4 = .ok (.aload_n 0, 1) := by decide +kernel
theorem dX5_init_5 : decode cX5_init 5 = .ok (.bipush 40, 2) := by decide +kernel
theorem dX5_init_7 : decode cX5_init 7 = .ok (.newarray .int, 2) := by decide +kernel
theorem dX5_init_9 : decode cX5_init 9 = .ok (.putfield 11, 3) := by decide +kernel
theorem dX5_init_12 : decode cX5_init 12 = .ok (.aload_n 0, 1) := by decide +kernel
theorem dX5_init_13 : decode cX5_init 13 = .ok (.bipush 40, 2) := by decide +kernel
theorem dX5_init_15 : decode cX5_init 15 = .ok (.newarray .int, 2) := by decide +kernel
theorem dX5_init_17 : decode cX5_init 17 = .ok (.putfield 15, 3) := by decide +kernel
theorem dX5_init_20 : decode cX5_init 20 = .ok (.aload_n 0, 1) := by decide +kernel
theorem dX5_init_21 : decode cX5_init 21 = .ok (.bipush 40, 2) := by decide +kernel
theorem dX5_init_23 : decode cX5_init 23 = .ok (.newarray .int, 2) := by decide +kernel
theorem dX5_init_25 : decode cX5_init 25 = .ok (.putfield 18, 3) := by decide +kernel
theorem dX5_init_28 : decode cX5_init 28 = .ok (.return_, 1) := by decide +kernel
theorem dX5_clear_0 : decode cX5_clear 0 = .ok (.aload_n 0, 1) := by decide +kernel
theorem dX5_clear_1 : decode cX5_clear 1 = .ok (.iconst 0, 1) := by decide +kernel
theorem dX5_clear_2 : decode cX5_clear 2 = .ok (.putfield 21, 3) := by decide +kernel
theorem dX5_clear_5 : decode cX5_clear 5 = .ok (.aload_n 0, 1) := by decide +kernel
theorem dX5_clear_6 : decode cX5_clear 6 = .ok (.iconst 0, 1) := by decide +kernel
theorem dX5_clear_7 : decode cX5_clear 7 = .ok (.putfield 25, 3) := by decide +kernel
theorem dX5_clear_10 : decode cX5_clear 10 = .ok (.return_, 1) := by decide +kernel
theorem dX5_copyFrom_0 : decode cX5_copyFrom 0 = .ok (.aload_n 0, 1) := by decide +kernel
theorem dX5_copyFrom_1 : decode cX5_copyFrom 1 = .ok (.aload_n 1, 1) := by decide +kernel
theorem dX5_copyFrom_2 : decode cX5_copyFrom 2 = .ok (.getfield 21, 3) := by decide +kernel
theorem dX5_copyFrom_5 : decode cX5_copyFrom 5 = .ok (.putfield 21, 3) := by decide +kernel
theorem dX5_copyFrom_8 : decode cX5_copyFrom 8 = .ok (.aload_n 0, 1) := by decide +kernel
theorem dX5_copyFrom_9 : decode cX5_copyFrom 9 = .ok (.aload_n 1, 1) := by decide +kernel
theorem dX5_copyFrom_10 : decode cX5_copyFrom 10 = .ok (.getfield 25, 3) := by decide +kernel
theorem dX5_copyFrom_13 : decode cX5_copyFrom 13 = .ok (.putfield 25, 3) := by decide +kernel
theorem dX5_copyFrom_16 : decode cX5_copyFrom 16 = .ok (.aload_n 1, 1) := by decide +kernel
theorem dX5_copyFrom_17 : decode cX5_copyFrom 17 = .ok (.getfield 11, 3) := by decide +kernel
theorem dX5_copyFrom_20 : decode cX5_copyFrom 20 = .ok (.iconst 0, 1) := by decide +kernel
theorem dX5_copyFrom_21 : decode cX5_copyFrom 21 = .ok (.aload_n 0, 1) := by decide +kernel
theorem dX5_copyFrom_22 : decode cX5_copyFrom 22 = .ok (.getfield 11, 3) := by decide +kernel
theorem dX5_copyFrom_25 : decode cX5_copyFrom 25 = .ok (.iconst 0, 1) := by decide +kernel
theorem dX5_copyFrom_26 : decode cX5_copyFrom 26 = .ok (.bipush 40, 2) := by decide +kernel
theorem dX5_copyFrom_28 : decode cX5_copyFrom 28 = .ok (.invokestatic 28, 3) := by decide +kernel
theorem dX5_copyFrom_31 : decode cX5_copyFrom 31 = .ok (.aload_n 1, 1) := by decide +kernel
theorem dX5_copyFrom_32 : decode cX5_copyFrom 32 = .ok (.getfield 15, 3) := by decide +kernel
theorem dX5_copyFrom_35 : decode cX5_copyFrom 35 = .ok (.iconst 0, 1) := by decide +kernel
theorem dX5_copyFrom_36 : decode cX5_copyFrom 36 = .ok (.aload_n 0, 1) := by decide +kernel
theorem dX5_copyFrom_37 : decode cX5_copyFrom 37 = .ok (.getfield 15, 3) := by decide +kernel
theorem dX5_copyFrom_40 : decode cX5_copyFrom 40 = .ok (.iconst 0, 1) := by decide +kernel
theorem dX5_copyFrom_41 : decode cX5_copyFrom 41 = .ok (.bipush 40, 2) := by decide +kernel
theorem dX5_copyFrom_43 : decode cX5_copyFrom 43 = .ok (.invokestatic 28, 3) := by decide +kernel
theorem dX5_copyFrom_46 : decode cX5_copyFrom 46 = .ok (.aload_n 1, 1) := by decide +kernel
theorem dX5_copyFrom_47 : decode cX5_copyFrom 47 = .ok (.getfield 18, 3) := by decide +kernel
theorem dX5_copyFrom_50 : decode cX5_copyFrom 50 = .ok (.iconst 0, 1) := by decide +kernel
theorem dX5_copyFrom_51 : decode cX5_copyFrom 51 = .ok (.aload_n 0, 1) := by decide +kernel
theorem dX5_copyFrom_52 : decode cX5_copyFrom 52 = .ok (.getfield 18, 3) := by decide +kernel
theorem dX5_copyFrom_55 : decode cX5_copyFrom 55 = .ok (.iconst 0, 1) := by decide +kernel
theorem dX5_copyFrom_56 : decode cX5_copyFrom 56 = .ok (.bipush 40, 2) := by decide +kernel
theorem dX5_copyFrom_58 : decode cX5_copyFrom 58 = .ok (.invokestatic 28, 3) := by decide +kernel
theorem dX5_copyFrom_61 : decode cX5_copyFrom 61 = .ok (.return_, 1) := by decide +kernel
theorem dX5_add_0 : decode cX5_add 0 = .ok (.aload_n 0, 1) := by decide +kernel
theorem dX5_add_1 : decode cX5_add 1 = .ok (.getfield 25, 3) := by decide +kernel
theorem dX5_add_4 : decode cX5_add 4 = .ok (.bipush 40, 2) := by decide +kernel
theorem dX5_add_6 : decode cX5_add 6 = .ok (.if_icmp .lt 4, 3) := by decide +kernel
theorem dX5_add_9 : decode cX5_add 9 = .ok (.return_, 1) := by decide +kernel
theorem dX5_add_10 : decode cX5_add 10 = .ok (.aload_n 0, 1) := by decide +kernel
theorem dX5_add_11 : decode cX5_add 11 = .ok (.getfield 11, 3) := by decide +kernel
theorem dX5_add_14 : decode cX5_add 14 = .ok (.aload_n 0, 1) := by decide +kernel
theorem dX5_add_15 : decode cX5_add 15 = .ok (.getfield 25, 3) := by decide +kernel
theorem dX5_add_18 : decode cX5_add 18 = .ok (.iload_n 1, 1) := by decide +kernel
theorem dX5_add_19 : decode cX5_add 19 = .ok (.iastore, 1) := by decide +kernel
theorem dX5_add_20 : decode cX5_add 20 = .ok (.aload_n 0, 1) := by decide +kernel
theorem dX5_add_21 : decode cX5_add 21 = .ok (.getfield 15, 3) := by decide +kernel
theorem dX5_add_24 : decode cX5_add 24 = .ok (.aload_n 0, 1) := by decide +kernel
theorem dX5_add_25 : decode cX5_add 25 = .ok (.getfield 25, 3) := by decide +kernel
theorem dX5_add_28 : decode cX5_add 28 = .ok (.iload_n 2, 1) := by decide +kernel
theorem dX5_add_29 : decode cX5_add 29 = .ok (.iastore, 1) := by decide +kernel
theorem dX5_add_30 : decode cX5_add 30 = .ok (.aload_n 0, 1) := by decide +kernel
theorem dX5_add_31 : decode cX5_add 31 = .ok (.getfield 18, 3) := by decide +kernel
theorem dX5_add_34 : decode cX5_add 34 = .ok (.aload_n 0, 1) := by decide +kernel
theorem dX5_add_35 : decode cX5_add 35 = .ok (.getfield 25, 3) := by decide +kernel
theorem dX5_add_38 : decode cX5_add 38 = .ok (.iload_n 3, 1) := by decide +kernel
theorem dX5_add_39 : decode cX5_add 39 = .ok (.iastore, 1) := by decide +kernel
theorem dX5_add_40 : decode cX5_add 40 = .ok (.aload_n 0, 1) := by decide +kernel
theorem dX5_add_41 : decode cX5_add 41 = .ok (.dup, 1) := by decide +kernel
theorem dX5_add_42 : decode cX5_add 42 = .ok (.getfield 25, 3) := by decide +kernel
theorem dX5_add_45 : decode cX5_add 45 = .ok (.iconst 1, 1) := by decide +kernel
theorem dX5_add_46 : decode cX5_add 46 = .ok (.iadd, 1) := by decide +kernel
theorem dX5_add_47 : decode cX5_add 47 = .ok (.putfield 25, 3) := by decide +kernel
theorem dX5_add_50 : decode cX5_add 50 = .ok (.return_, 1) := by decide +kernel
theorem dX5_readFrom_0 : decode cX5_readFrom 0 = .ok (.aload_n 0, 1) := by decide +kernel
theorem dX5_readFrom_1 : decode cX5_readFrom 1 = .ok (.invokevirtual 34, 3) := by decide +kernel
theorem dX5_readFrom_4 : decode cX5_readFrom 4 = .ok (.aload_n 1, 1) := by decide +kernel
theorem dX5_readFrom_5 : decode cX5_readFrom 5 = .ok (.invokevirtual 37, 3) := by decide +kernel
theorem dX5_readFrom_8 : decode cX5_readFrom 8 = .ok (.aload_n 0, 1) := by decide +kernel
theorem dX5_readFrom_9 : decode cX5_readFrom 9 = .ok (.aload_n 1, 1) := by decide +kernel
theorem dX5_readFrom_10 : decode cX5_readFrom 10 = .ok (.aload_n 2, 1) := by decide +kernel
theorem dX5_readFrom_11 : decode cX5_readFrom 11 = .ok (.iconst 1, 1) := by decide +kernel
theorem dX5_readFrom_12 : decode cX5_readFrom 12 = .ok (.invokevirtual 42, 3) := by decide +kernel
theorem dX5_readFrom_15 : decode cX5_readFrom 15 = .ok (.istore_n 3, 1) := by decide +kernel
theorem dX5_readFrom_16 : decode cX5_readFrom 16 = .ok (.iload_n 3, 1) := by decide +kernel
theorem dX5_readFrom_17 : decode cX5_readFrom 17 = .ok (.ifCond .ne 14, 3) := by decide +kernel
theorem dX5_readFrom_20 : decode cX5_readFrom 20 = .ok (.aload_n 1, 1) := by decide +kernel
theorem dX5_readFrom_21 : decode cX5_readFrom 21 = .ok (.getfield 46, 3) := by decide +kernel
theorem dX5_readFrom_24 : decode cX5_readFrom 24 = .ok (.ifCond .eq 7, 3) := by decide +kernel
theorem dX5_readFrom_27 : decode cX5_readFrom 27 = .ok (.iconst 1, 1) := by decide +kernel
theorem dX5_readFrom_28 : decode cX5_readFrom 28 = .ok (.goto 4, 3) := by decide +kernel
theorem dX5_readFrom_31 : decode cX5_readFrom 31 = .ok (.iload_n 3, 1) := by decide +kernel
theorem dX5_readFrom_32 : decode cX5_readFrom 32 = .ok (.ireturn, 1) := by decide +kernel
theorem dX5_readCond_0 : decode cX5_readCond 0 = .ok (.aload_n 0, 1) := by decide +kernel
theorem dX5_readCond_1 : decode cX5_readCond 1 = .ok (.aload_n 1, 1) := by decide +kernel
theorem dX5_readCond_2 : decode cX5_readCond 2 = .ok (.aload_n 2, 1) := by decide +kernel
theorem dX5_readCond_3 : decode cX5_readCond 3 = .ok (.iload_n 3, 1) := by decide +kernel
theorem dX5_readCond_4 : decode cX5_readCond 4 = .ok (.invokevirtual 49, 3) := by decide +kernel
theorem dX5_readCond_7 : decode cX5_readCond 7 = .ok (.istore 4, 2) := by decide +kernel
theorem dX5_readCond_9 : decode cX5_readCond 9 = .ok (.iconst 0, 1) := by decide +kernel
theorem dX5_readCond_10 : decode cX5_readCond 10 = .ok (.istore 5, 2) := by decide +kernel
theorem dX5_readCond_12 : decode cX5_readCond 12 = .ok (.iload 5, 2) := by decide +kernel
theorem dX5_readCond_14 : decode cX5_readCond 14 = .ok (.bipush 20, 2) := by decide +kernel
theorem dX5_readCond_16 : decode cX5_readCond 16 = .ok (.if_icmp .ge 44, 3) := by decide +kernel
theorem dX5_readCond_19 : decode cX5_readCond 19 = .ok (.iload 4, 2) := by decide +kernel
theorem dX5_readCond_21 : decode cX5_readCond 21 = .ok (.ifCond .ne 39, 3) := by decide +kernel
theorem dX5_readCond_24 : decode cX5_readCond 24 = .ok (.aload_n 1, 1) := by decide +kernel
theorem dX5_readCond_25 : decode cX5_readCond 25 = .ok (.getfield 46, 3) := by decide +kernel
theorem dX5_readCond_28 : decode cX5_readCond 28 = .ok (.bipush 19, 2) := by decide +kernel
theorem dX5_readCond_30 : decode cX5_readCond 30 = .ok (.if_icmp .ne 30, 3) := by decide +kernel
theorem dX5_readCond_33 : decode cX5_readCond 33 = .ok (.aload_n 1, 1) := by decide +kernel
theorem dX5_readCond_34 : decode cX5_readCond 34 = .ok (.invokevirtual 37, 3) := by decide +kernel
theorem dX5_readCond_37 : decode cX5_readCond 37 = .ok (.aload_n 0, 1) := by decide +kernel
theorem dX5_readCond_38 : decode cX5_readCond 38 = .ok (.aload_n 1, 1) := by decide +kernel
theorem dX5_readCond_39 : decode cX5_readCond 39 = .ok (.aload_n 2, 1) := by decide +kernel
theorem dX5_readCond_40 : decode cX5_readCond 40 = .ok (.iload_n 3, 1) := by decide +kernel
theorem dX5_readCond_41 : decode cX5_readCond 41 = .ok (.invokevirtual 49, 3) := by decide +kernel
theorem dX5_readCond_44 : decode cX5_readCond 44 = .ok (.istore 4, 2) := by decide +kernel
theorem dX5_readCond_46 : decode cX5_readCond 46 = .ok (.aload_n 0, 1) := by decide +kernel
theorem dX5_readCond_47 : decode cX5_readCond 47 = .ok (.bipush 19, 2) := by decide +kernel
theorem dX5_readCond_49 : decode cX5_readCond 49 = .ok (.iconst 0, 1) := by decide +kernel
theorem dX5_readCond_50 : decode cX5_readCond 50 = .ok (.iconst 0, 1) := by decide +kernel
theorem dX5_readCond_51 : decode cX5_readCond 51 = .ok (.invokevirtual 52, 3) := by decide +kernel
theorem dX5_readCond_54 : decode cX5_readCond 54 = .ok (.iinc 5 1, 3) := by decide +kernel
theorem dX5_readCond_57 : decode cX5_readCond 57 = .ok (.goto (-45), 3) := by decide +kernel
theorem dX5_readCond_60 : decode cX5_readCond 60 = .ok (.iload 4, 2) := by decide +kernel
theorem dX5_readCond_62 : decode cX5_readCond 62 = .ok (.ireturn, 1) := by decide +kernel
theorem dX5_readAll_0 : decode cX5_readAll 0 = .ok (.aload_n 0, 1) := by decide +kernel
theorem dX5_readAll_1 : decode cX5_readAll 1 = .ok (.aload_n 1, 1) := by decide +kernel
theorem dX5_readAll_2 : decode cX5_readAll 2 = .ok (.aload_n 2, 1) := by decide +kernel
theorem dX5_readAll_3 : decode cX5_readAll 3 = .ok (.iload_n 3, 1) := by decide +kernel
theorem dX5_readAll_4 : decode cX5_readAll 4 = .ok (.invokevirtual 56, 3) := by decide +kernel
theorem dX5_readAll_7 : decode cX5_readAll 7 = .ok (.istore 4, 2) := by decide +kernel
theorem dX5_readAll_9 : decode cX5_readAll 9 = .ok (.iconst 0, 1) := by decide +kernel
theorem dX5_readAll_10 : decode cX5_readAll 10 = .ok (.istore 5, 2) := by decide +kernel
theorem dX5_readAll_12 : decode cX5_readAll 12 = .ok (.iload 5, 2) := by decide +kernel
theorem dX5_readAll_14 : decode cX5_readAll 14 = .ok (.bipush 20, 2) := by decide +kernel
theorem dX5_readAll_16 : decode cX5_readAll 16 = .ok (.if_icmp .ge 44, 3) := by decide +kernel
theorem dX5_readAll_19 : decode cX5_readAll 19 = .ok (.iload 4, 2) := by decide +kernel
theorem dX5_readAll_21 : decode cX5_readAll 21 = .ok (.ifCond .ne 39, 3) := by decide +kernel
theorem dX5_readAll_24 : decode cX5_readAll 24 = .ok (.aload_n 1, 1) := by decide +kernel
theorem dX5_readAll_25 : decode cX5_readAll 25 = .ok (.getfield 46, 3) := by decide +kernel
theorem dX5_readAll_28 : decode cX5_readAll 28 = .ok (.bipush 20, 2) := by decide +kernel
theorem dX5_readAll_30 : decode cX5_readAll 30 = .ok (.if_icmp .ne 30, 3) := by decide +kernel
theorem dX5_readAll_33 : decode cX5_readAll 33 = .ok (.aload_n 1, 1) := by decide +kernel
theorem dX5_readAll_34 : decode cX5_readAll 34 = .ok (.invokevirtual 37, 3) := by decide +kernel
theorem dX5_readAll_37 : decode cX5_readAll 37 = .ok (.aload_n 0, 1) := by decide +kernel
theorem dX5_readAll_38 : decode cX5_readAll 38 = .ok (.aload_n 1, 1) := by decide +kernel
theorem dX5_readAll_39 : decode cX5_readAll 39 = .ok (.aload_n 2, 1) := by decide +kernel
theorem dX5_readAll_40 : decode cX5_readAll 40 = .ok (.iload_n 3, 1) := by decide +kernel
theorem dX5_readAll_41 : decode cX5_readAll 41 = .ok (.invokevirtual 56, 3) := by decide +kernel
theorem dX5_readAll_44 : decode cX5_readAll 44 = .ok (.istore 4, 2) := by decide +kernel
theorem dX5_readAll_46 : decode cX5_readAll 46 = .ok (.aload_n 0, 1) := by decide +kernel
theorem dX5_readAll_47 : decode cX5_readAll 47 = .ok (.bipush 20, 2) := by decide +kernel
theorem dX5_readAll_49 : decode cX5_readAll 49 = .ok (.iconst 0, 1) := by decide +kernel
theorem dX5_readAll_50 : decode cX5_readAll 50 = .ok (.iconst 0, 1) := by decide +kernel
theorem dX5_readAll_51 : decode cX5_readAll 51 = .ok (.invokevirtual 52, 3) := by decide +kernel
theorem dX5_readAll_54 : decode cX5_readAll 54 = .ok (.iinc 5 1, 3) := by decide +kernel
theorem dX5_readAll_57 : decode cX5_readAll 57 = .ok (.goto (-45), 3) := by decide +kernel
theorem dX5_readAll_60 : decode cX5_readAll 60 = .ok (.iload 4, 2) := by decide +kernel
theorem dX5_readAll_62 : decode cX5_readAll 62 = .ok (.ireturn, 1) := by decide +kernel
theorem dX5_readOne_0 : decode cX5_readOne 0 = .ok (.aload_n 1, 1) := by decide +kernel
theorem dX5_readOne_1 : decode cX5_readOne 1 = .ok (.getfield 46, 3) := by decide +kernel
theorem dX5_readOne_4 : decode cX5_readOne 4 = .ok (.istore 4, 2) := by decide +kernel
theorem dX5_readOne_6 : decode cX5_readOne 6 = .ok (.iload 4, 2) := by decide +kernel
theorem dX5_readOne_8 : decode cX5_readOne 8 = .ok (.bipush 8, 2) := by decide +kernel
theorem dX5_readOne_10 : decode cX5_readOne 10 = .ok (.if_icmp .eq 19, 3) := by decide +kernel
theorem dX5_readOne_13 : decode cX5_readOne 13 = .ok (.iload 4, 2) := by decide +kernel
theorem dX5_readOne_15 : decode cX5_readOne 15 = .ok (.bipush 21, 2) := by decide +kernel
theorem dX5_readOne_17 : decode cX5_readOne 17 = .ok (.if_icmp .lt 10, 3) := by decide +kernel
theorem dX5_readOne_20 : decode cX5_readOne 20 = .ok (.iload 4, 2) := by decide +kernel
theorem dX5_readOne_22 : decode cX5_readOne 22 = .ok (.bipush 28, 2) := by decide +kernel
theorem dX5_readOne_24 : decode cX5_readOne 24 = .ok (.if_icmp .le 5, 3) := by decide +kernel
theorem dX5_readOne_27 : decode cX5_readOne 27 = .ok (.iconst 1, 1) := by decide +kernel
theorem dX5_readOne_28 : decode cX5_readOne 28 = .ok (.ireturn, 1) := by decide +kernel
theorem dX5_readOne_29 : decode cX5_readOne 29 = .ok (.aload_n 0, 1) := by decide +kernel
theorem dX5_readOne_30 : decode cX5_readOne 30 = .ok (.getfield 21, 3) := by decide +kernel
theorem dX5_readOne_33 : decode cX5_readOne 33 = .ok (.bipush 20, 2) := by decide +kernel
theorem dX5_readOne_35 : decode cX5_readOne 35 = .ok (.if_icmp .ge 9, 3) := by decide +kernel
theorem dX5_readOne_38 : decode cX5_readOne 38 = .ok (.iload_n 3, 1) := by decide +kernel
theorem dX5_readOne_39 : decode cX5_readOne 39 = .ok (.bipush 8, 2) := by decide +kernel
theorem dX5_readOne_41 : decode cX5_readOne 41 = .ok (.if_icmp .le 5, 3) := by decide +kernel
theorem dX5_readOne_44 : decode cX5_readOne 44 = .ok (.iconst 4, 1) := by decide +kernel
theorem dX5_readOne_45 : decode cX5_readOne 45 = .ok (.ireturn, 1) := by decide +kernel
theorem dX5_readOne_46 : decode cX5_readOne 46 = .ok (.aload_n 0, 1) := by decide +kernel
theorem dX5_readOne_47 : decode cX5_readOne 47 = .ok (.dup, 1) := by decide +kernel
theorem dX5_readOne_48 : decode cX5_readOne 48 = .ok (.getfield 21, 3) := by decide +kernel
theorem dX5_readOne_51 : decode cX5_readOne 51 = .ok (.iconst 1, 1) := by decide +kernel
theorem dX5_readOne_52 : decode cX5_readOne 52 = .ok (.iadd, 1) := by decide +kernel
theorem dX5_readOne_53 : decode cX5_readOne 53 = .ok (.putfield 21, 3) := by decide +kernel
theorem dX5_readOne_56 : decode cX5_readOne 56 = .ok (.aload_n 1, 1) := by decide +kernel
theorem dX5_readOne_57 : decode cX5_readOne 57 = .ok (.invokevirtual 37, 3) := by decide +kernel
theorem dX5_readOne_60 : decode cX5_readOne 60 = .ok (.iload 4, 2) := by decide +kernel
theorem dX5_readOne_62 : decode cX5_readOne 62 = .ok (.tableswitch 121 8 25 #[94, 121, 121, 121, 121, 121, 121, 121, 121, 121, 121, 121, 121, 86, 112, 112, 112, 102], 86) := by decide +kernel
theorem dX5_readOne_148 : decode cX5_readOne 148 = .ok (.aload_n 0, 1) := by decide +kernel
theorem dX5_readOne_149 : decode cX5_readOne 149 = .ok (.aload_n 1, 1) := by decide +kernel
theorem dX5_readOne_150 : decode cX5_readOne 150 = .ok (.aload_n 2, 1) := by decide +kernel
theorem dX5_readOne_151 : decode cX5_readOne 151 = .ok (.iload_n 3, 1) := by decide +kernel
theorem dX5_readOne_152 : decode cX5_readOne 152 = .ok (.invokevirtual 59, 3) := by decide +kernel
theorem dX5_readOne_155 : decode cX5_readOne 155 = .ok (.ireturn, 1) := by decide +kernel
theorem dX5_readOne_156 : decode cX5_readOne 156 = .ok (.aload_n 0, 1) := by decide +kernel
theorem dX5_readOne_157 : decode cX5_readOne 157 = .ok (.aload_n 1, 1) := by decide +kernel
theorem dX5_readOne_158 : decode cX5_readOne 158 = .ok (.aload_n 2, 1) := by decide +kernel
theorem dX5_readOne_159 : decode cX5_readOne 159 = .ok (.iload_n 3, 1) := by decide +kernel
theorem dX5_readOne_160 : decode cX5_readOne 160 = .ok (.invokevirtual 62, 3) := by decide +kernel
theorem dX5_readOne_163 : decode cX5_readOne 163 = .ok (.ireturn, 1) := by decide +kernel
theorem dX5_readOne_164 : decode cX5_readOne 164 = .ok (.aload_n 0, 1) := by decide +kernel
theorem dX5_readOne_165 : decode cX5_readOne 165 = .ok (.iload 4, 2) := by decide +kernel
theorem dX5_readOne_167 : decode cX5_readOne 167 = .ok (.iconst 0, 1) := by decide +kernel
theorem dX5_readOne_168 : decode cX5_readOne 168 = .ok (.iconst 0, 1) := by decide +kernel
theorem dX5_readOne_169 : decode cX5_readOne 169 = .ok (.invokevirtual 52, 3) := by decide +kernel
theorem dX5_readOne_172 : decode cX5_readOne 172 = .ok (.iconst 0, 1) := by decide +kernel
theorem dX5_readOne_173 : decode cX5_readOne 173 = .ok (.ireturn, 1) := by decide +kernel
theorem dX5_readOne_174 : decode cX5_readOne 174 = .ok (.aload_n 0, 1) := by decide +kernel
theorem dX5_readOne_175 : decode cX5_readOne 175 = .ok (.aload_n 1, 1) := by decide +kernel
theorem dX5_readOne_176 : decode cX5_readOne 176 = .ok (.aload_n 2, 1) := by decide +kernel
theorem dX5_readOne_177 : decode cX5_readOne 177 = .ok (.iload 4, 2) := by decide +kernel
theorem dX5_readOne_179 : decode cX5_readOne 179 = .ok (.invokevirtual 65, 3) := by decide +kernel
theorem dX5_readOne_182 : decode cX5_readOne 182 = .ok (.ireturn, 1) := by decide +kernel
theorem dX5_readOne_183 : decode cX5_readOne 183 = .ok (.aload_n 0, 1) := by decide +kernel
theorem dX5_readOne_184 : decode cX5_readOne 184 = .ok (.aload_n 1, 1) := by decide +kernel
theorem dX5_readOne_185 : decode cX5_readOne 185 = .ok (.iload 4, 2) := by decide +kernel
theorem dX5_readOne_187 : decode cX5_readOne 187 = .ok (.invokevirtual 68, 3) := by decide +kernel
theorem dX5_readOne_190 : decode cX5_readOne 190 = .ok (.ireturn, 1) := by decide +kernel
theorem dX5_readNot_0 : decode cX5_readNot 0 = .ok (.aload_n 0, 1) := by decide +kernel
theorem dX5_readNot_1 : decode cX5_readNot 1 = .ok (.aload_n 1, 1) := by decide +kernel
theorem dX5_readNot_2 : decode cX5_readNot 2 = .ok (.aload_n 2, 1) := by decide +kernel
theorem dX5_readNot_3 : decode cX5_readNot 3 = .ok (.iload_n 3, 1) := by decide +kernel
theorem dX5_readNot_4 : decode cX5_readNot 4 = .ok (.iconst 1, 1) := by decide +kernel
theorem dX5_readNot_5 : decode cX5_readNot 5 = .ok (.iadd, 1) := by decide +kernel
theorem dX5_readNot_6 : decode cX5_readNot 6 = .ok (.invokevirtual 56, 3) := by decide +kernel
theorem dX5_readNot_9 : decode cX5_readNot 9 = .ok (.istore 4, 2) := by decide +kernel
theorem dX5_readNot_11 : decode cX5_readNot 11 = .ok (.aload_n 0, 1) := by decide +kernel
theorem dX5_readNot_12 : decode cX5_readNot 12 = .ok (.bipush 21, 2) := by decide +kernel
theorem dX5_readNot_14 : decode cX5_readNot 14 = .ok (.iconst 0, 1) := by decide +kernel
theorem dX5_readNot_15 : decode cX5_readNot 15 = .ok (.iconst 0, 1) := by decide +kernel
theorem dX5_readNot_16 : decode cX5_readNot 16 = .ok (.invokevirtual 52, 3) := by decide +kernel
theorem dX5_readNot_19 : decode cX5_readNot 19 = .ok (.iload 4, 2) := by decide +kernel
theorem dX5_readNot_21 : decode cX5_readNot 21 = .ok (.ireturn, 1) := by decide +kernel
theorem dX5_readBracket_0 : decode cX5_readBracket 0 = .ok (.aload_n 0, 1) := by decide +kernel
theorem dX5_readBracket_1 : decode cX5_readBracket 1 = .ok (.aload_n 1, 1) := by decide +kernel
theorem dX5_readBracket_2 : decode cX5_readBracket 2 = .ok (.aload_n 2, 1) := by decide +kernel
theorem dX5_readBracket_3 : decode cX5_readBracket 3 = .ok (.iload_n 3, 1) := by decide +kernel
theorem dX5_readBracket_4 : decode cX5_readBracket 4 = .ok (.iconst 1, 1) := by decide +kernel
theorem dX5_readBracket_5 : decode cX5_readBracket 5 = .ok (.iadd, 1) := by decide +kernel
theorem dX5_readBracket_6 : decode cX5_readBracket 6 = .ok (.invokevirtual 42, 3) := by decide +kernel
theorem dX5_readBracket_9 : decode cX5_readBracket 9 = .ok (.istore 4, 2) := by decide +kernel
theorem dX5_readBracket_11 : decode cX5_readBracket 11 = .ok (.iload 4, 2) := by decide +kernel
theorem dX5_readBracket_13 : decode cX5_readBracket 13 = .ok (.ifCond .eq 6, 3) := by decide +kernel
theorem dX5_readBracket_16 : decode cX5_readBracket 16 = .ok (.iload 4, 2) := by decide +kernel
theorem dX5_readBracket_18 : decode cX5_readBracket 18 = .ok (.ireturn, 1) := by decide +kernel
theorem dX5_readBracket_19 : decode cX5_readBracket 19 = .ok (.aload_n 1, 1) := by decide +kernel
theorem dX5_readBracket_20 : decode cX5_readBracket 20 = .ok (.getfield 46, 3) := by decide +kernel
theorem dX5_readBracket_23 : decode cX5_readBracket 23 = .ok (.bipush 9, 2) := by decide +kernel
theorem dX5_readBracket_25 : decode cX5_readBracket 25 = .ok (.if_icmp .eq 5, 3) := by decide +kernel
theorem dX5_readBracket_28 : decode cX5_readBracket 28 = .ok (.iconst 1, 1) := by decide +kernel
theorem dX5_readBracket_29 : decode cX5_readBracket 29 = .ok (.ireturn, 1) := by decide +kernel
theorem dX5_readBracket_30 : decode cX5_readBracket 30 = .ok (.aload_n 1, 1) := by decide +kernel
theorem dX5_readBracket_31 : decode cX5_readBracket 31 = .ok (.invokevirtual 37, 3) := by decide +kernel
theorem dX5_readBracket_34 : decode cX5_readBracket 34 = .ok (.iconst 0, 1) := by decide +kernel
theorem dX5_readBracket_35 : decode cX5_readBracket 35 = .ok (.ireturn, 1) := by decide +kernel
theorem dX5_readOfWho_0 : decode cX5_readOfWho 0 = .ok (.aload_n 2, 1) := by decide +kernel
theorem dX5_readOfWho_1 : decode cX5_readOfWho 1 = .ok (.aload_n 1, 1) := by decide +kernel
theorem dX5_readOfWho_2 : decode cX5_readOfWho 2 = .ok (.invokevirtual 72, 3) := by decide +kernel
theorem dX5_readOfWho_5 : decode cX5_readOfWho 5 = .ok (.istore 4, 2) := by decide +kernel
theorem dX5_readOfWho_7 : decode cX5_readOfWho 7 = .ok (.iload 4, 2) := by decide +kernel
theorem dX5_readOfWho_9 : decode cX5_readOfWho 9 = .ok (.ifCond .eq 6, 3) := by decide +kernel
theorem dX5_readOfWho_12 : decode cX5_readOfWho 12 = .ok (.iload 4, 2) := by decide +kernel
theorem dX5_readOfWho_14 : decode cX5_readOfWho 14 = .ok (.ireturn, 1) := by decide +kernel
theorem dX5_readOfWho_15 : decode cX5_readOfWho 15 = .ok (.aload_n 0, 1) := by decide +kernel
theorem dX5_readOfWho_16 : decode cX5_readOfWho 16 = .ok (.iload_n 3, 1) := by decide +kernel
theorem dX5_readOfWho_17 : decode cX5_readOfWho 17 = .ok (.iconst 0, 1) := by decide +kernel
theorem dX5_readOfWho_18 : decode cX5_readOfWho 18 = .ok (.aload_n 2, 1) := by decide +kernel
theorem dX5_readOfWho_19 : decode cX5_readOfWho 19 = .ok (.aload_n 1, 1) := by decide +kernel
theorem dX5_readOfWho_20 : decode cX5_readOfWho 20 = .ok (.getfield 78, 3) := by decide +kernel
theorem dX5_readOfWho_23 : decode cX5_readOfWho 23 = .ok (.invokevirtual 81, 3) := by decide +kernel
theorem dX5_readOfWho_26 : decode cX5_readOfWho 26 = .ok (.invokevirtual 52, 3) := by decide +kernel
theorem dX5_readOfWho_29 : decode cX5_readOfWho 29 = .ok (.aload_n 1, 1) := by decide +kernel
theorem dX5_readOfWho_30 : decode cX5_readOfWho 30 = .ok (.invokevirtual 37, 3) := by decide +kernel
theorem dX5_readOfWho_33 : decode cX5_readOfWho 33 = .ok (.iconst 0, 1) := by decide +kernel
theorem dX5_readOfWho_34 : decode cX5_readOfWho 34 = .ok (.ireturn, 1) := by decide +kernel
theorem dX5_readMeasure_0 : decode cX5_readMeasure 0 = .ok (.aload_n 1, 1) := by decide +kernel
theorem dX5_readMeasure_1 : decode cX5_readMeasure 1 = .ok (.getfield 46, 3) := by decide +kernel
theorem dX5_readMeasure_4 : decode cX5_readMeasure 4 = .ok (.istore_n 3, 1) := by decide +kernel
theorem dX5_readMeasure_5 : decode cX5_readMeasure 5 = .ok (.iload_n 3, 1) := by decide +kernel
theorem dX5_readMeasure_6 : decode cX5_readMeasure 6 = .ok (.iconst 5, 1) := by decide +kernel
theorem dX5_readMeasure_7 : decode cX5_readMeasure 7 = .ok (.if_icmp .eq 17, 3) := by decide +kernel
theorem dX5_readMeasure_10 : decode cX5_readMeasure 10 = .ok (.iload_n 3, 1) := by decide +kernel
theorem dX5_readMeasure_11 : decode cX5_readMeasure 11 = .ok (.bipush 6, 2) := by decide +kernel
theorem dX5_readMeasure_13 : decode cX5_readMeasure 13 = .ok (.if_icmp .eq 11, 3) := by decide +kernel
theorem dX5_readMeasure_16 : decode cX5_readMeasure 16 = .ok (.iload_n 3, 1) := by decide +kernel
theorem dX5_readMeasure_17 : decode cX5_readMeasure 17 = .ok (.bipush 7, 2) := by decide +kernel
theorem dX5_readMeasure_19 : decode cX5_readMeasure 19 = .ok (.if_icmp .eq 5, 3) := by decide +kernel
theorem dX5_readMeasure_22 : decode cX5_readMeasure 22 = .ok (.iconst 1, 1) := by decide +kernel
theorem dX5_readMeasure_23 : decode cX5_readMeasure 23 = .ok (.ireturn, 1) := by decide +kernel
theorem dX5_readMeasure_24 : decode cX5_readMeasure 24 = .ok (.aload_n 1, 1) := by decide +kernel
theorem dX5_readMeasure_25 : decode cX5_readMeasure 25 = .ok (.invokevirtual 37, 3) := by decide +kernel
theorem dX5_readMeasure_28 : decode cX5_readMeasure 28 = .ok (.aload_n 1, 1) := by decide +kernel
theorem dX5_readMeasure_29 : decode cX5_readMeasure 29 = .ok (.getfield 46, 3) := by decide +kernel
theorem dX5_readMeasure_32 : decode cX5_readMeasure 32 = .ok (.iconst 2, 1) := by decide +kernel
theorem dX5_readMeasure_33 : decode cX5_readMeasure 33 = .ok (.if_icmp .eq 5, 3) := by decide +kernel
theorem dX5_readMeasure_36 : decode cX5_readMeasure 36 = .ok (.iconst 1, 1) := by decide +kernel
theorem dX5_readMeasure_37 : decode cX5_readMeasure 37 = .ok (.ireturn, 1) := by decide +kernel
theorem dX5_readMeasure_38 : decode cX5_readMeasure 38 = .ok (.aload_n 0, 1) := by decide +kernel
theorem dX5_readMeasure_39 : decode cX5_readMeasure 39 = .ok (.iload_n 2, 1) := by decide +kernel
theorem dX5_readMeasure_40 : decode cX5_readMeasure 40 = .ok (.iload_n 3, 1) := by decide +kernel
theorem dX5_readMeasure_41 : decode cX5_readMeasure 41 = .ok (.aload_n 1, 1) := by decide +kernel
theorem dX5_readMeasure_42 : decode cX5_readMeasure 42 = .ok (.getfield 85, 3) := by decide +kernel
theorem dX5_readMeasure_45 : decode cX5_readMeasure 45 = .ok (.invokevirtual 52, 3) := by decide +kernel
theorem dX5_readMeasure_48 : decode cX5_readMeasure 48 = .ok (.aload_n 1, 1) := by decide +kernel
theorem dX5_readMeasure_49 : decode cX5_readMeasure 49 = .ok (.invokevirtual 37, 3) := by decide +kernel
theorem dX5_readMeasure_52 : decode cX5_readMeasure 52 = .ok (.iconst 0, 1) := by decide +kernel
theorem dX5_readMeasure_53 : decode cX5_readMeasure 53 = .ok (.ireturn, 1) := by decide +kernel
theorem dX5_holds_0 : decode cX5_holds 0 = .ok (.iconst 0, 1) := by decide +kernel
theorem dX5_holds_1 : decode cX5_holds 1 = .ok (.istore_n 3, 1) := by decide +kernel
theorem dX5_holds_2 : decode cX5_holds 2 = .ok (.iconst 0, 1) := by decide +kernel
theorem dX5_holds_3 : decode cX5_holds 3 = .ok (.istore 4, 2) := by decide +kernel
theorem dX5_holds_5 : decode cX5_holds 5 = .ok (.iload 4, 2) := by decide +kernel
theorem dX5_holds_7 : decode cX5_holds 7 = .ok (.aload_n 0, 1) := by decide +kernel
theorem dX5_holds_8 : decode cX5_holds 8 = .ok (.getfield 25, 3) := by decide +kernel
theorem dX5_holds_11 : decode cX5_holds 11 = .ok (.if_icmp .ge 121, 3) := by decide +kernel
theorem dX5_holds_14 : decode cX5_holds 14 = .ok (.iload 4, 2) := by decide +kernel
theorem dX5_holds_16 : decode cX5_holds 16 = .ok (.bipush 40, 2) := by decide +kernel
theorem dX5_holds_18 : decode cX5_holds 18 = .ok (.if_icmp .ge 114, 3) := by decide +kernel
theorem dX5_holds_21 : decode cX5_holds 21 = .ok (.iload_n 3, 1) := by decide +kernel
theorem dX5_holds_22 : decode cX5_holds 22 = .ok (.iconst 1, 1) := by decide +kernel
theorem dX5_holds_23 : decode cX5_holds 23 = .ok (.iand, 1) := by decide +kernel
theorem dX5_holds_24 : decode cX5_holds 24 = .ok (.istore 5, 2) := by decide +kernel
theorem dX5_holds_26 : decode cX5_holds 26 = .ok (.iload_n 3, 1) := by decide +kernel
theorem dX5_holds_27 : decode cX5_holds 27 = .ok (.iconst 1, 1) := by decide +kernel
theorem dX5_holds_28 : decode cX5_holds 28 = .ok (.iushr, 1) := by decide +kernel
theorem dX5_holds_29 : decode cX5_holds 29 = .ok (.iconst 1, 1) := by decide +kernel
theorem dX5_holds_30 : decode cX5_holds 30 = .ok (.iand, 1) := by decide +kernel
theorem dX5_holds_31 : decode cX5_holds 31 = .ok (.istore 6, 2) := by decide +kernel
theorem dX5_holds_33 : decode cX5_holds 33 = .ok (.aload_n 0, 1) := by decide +kernel
theorem dX5_holds_34 : decode cX5_holds 34 = .ok (.getfield 11, 3) := by decide +kernel
theorem dX5_holds_37 : decode cX5_holds 37 = .ok (.iload 4, 2) := by decide +kernel
theorem dX5_holds_39 : decode cX5_holds 39 = .ok (.iaload, 1) := by decide +kernel
theorem dX5_holds_40 : decode cX5_holds 40 = .ok (.tableswitch 65 19 21 #[50, 35, 28], 28) := by decide +kernel
theorem dX5_holds_68 : decode cX5_holds 68 = .ok (.iload_n 3, 1) := by decide +kernel
theorem dX5_holds_69 : decode cX5_holds 69 = .ok (.iconst 1, 1) := by decide +kernel
theorem dX5_holds_70 : decode cX5_holds 70 = .ok (.ixor, 1) := by decide +kernel
theorem dX5_holds_71 : decode cX5_holds 71 = .ok (.istore_n 3, 1) := by decide +kernel
theorem dX5_holds_72 : decode cX5_holds 72 = .ok (.goto 54, 3) := by decide +kernel
theorem dX5_holds_75 : decode cX5_holds 75 = .ok (.iload_n 3, 1) := by decide +kernel
theorem dX5_holds_76 : decode cX5_holds 76 = .ok (.iconst 2, 1) := by decide +kernel
theorem dX5_holds_77 : decode cX5_holds 77 = .ok (.iushr, 1) := by decide +kernel
theorem dX5_holds_78 : decode cX5_holds 78 = .ok (.iconst 1, 1) := by decide +kernel
theorem dX5_holds_79 : decode cX5_holds 79 = .ok (.ishl, 1) := by decide +kernel
theorem dX5_holds_80 : decode cX5_holds 80 = .ok (.iload 5, 2) := by decide +kernel
theorem dX5_holds_82 : decode cX5_holds 82 = .ok (.iload 6, 2) := by decide +kernel
theorem dX5_holds_84 : decode cX5_holds 84 = .ok (.iand, 1) := by decide +kernel
theorem dX5_holds_85 : decode cX5_holds 85 = .ok (.ior, 1) := by decide +kernel
theorem dX5_holds_86 : decode cX5_holds 86 = .ok (.istore_n 3, 1) := by decide +kernel
theorem dX5_holds_87 : decode cX5_holds 87 = .ok (.goto 39, 3) := by decide +kernel
theorem dX5_holds_90 : decode cX5_holds 90 = .ok (.iload_n 3, 1) := by decide +kernel
theorem dX5_holds_91 : decode cX5_holds 91 = .ok (.iconst 2, 1) := by decide +kernel
theorem dX5_holds_92 : decode cX5_holds 92 = .ok (.iushr, 1) := by decide +kernel
theorem dX5_holds_93 : decode cX5_holds 93 = .ok (.iconst 1, 1) := by decide +kernel
theorem dX5_holds_94 : decode cX5_holds 94 = .ok (.ishl, 1) := by decide +kernel
theorem dX5_holds_95 : decode cX5_holds 95 = .ok (.iload 5, 2) := by decide +kernel
theorem dX5_holds_97 : decode cX5_holds 97 = .ok (.ior, 1) := by decide +kernel
theorem dX5_holds_98 : decode cX5_holds 98 = .ok (.iload 6, 2) := by decide +kernel
theorem dX5_holds_100 : decode cX5_holds 100 = .ok (.ior, 1) := by decide +kernel
theorem dX5_holds_101 : decode cX5_holds 101 = .ok (.istore_n 3, 1) := by decide +kernel
theorem dX5_holds_102 : decode cX5_holds 102 = .ok (.goto 24, 3) := by decide +kernel
theorem dX5_holds_105 : decode cX5_holds 105 = .ok (.iload_n 3, 1) := by decide +kernel
theorem dX5_holds_106 : decode cX5_holds 106 = .ok (.iconst 1, 1) := by decide +kernel
theorem dX5_holds_107 : decode cX5_holds 107 = .ok (.ishl, 1) := by decide +kernel
theorem dX5_holds_108 : decode cX5_holds 108 = .ok (.aload_n 0, 1) := by decide +kernel
theorem dX5_holds_109 : decode cX5_holds 109 = .ok (.aload_n 1, 1) := by decide +kernel
theorem dX5_holds_110 : decode cX5_holds 110 = .ok (.iload_n 2, 1) := by decide +kernel
theorem dX5_holds_111 : decode cX5_holds 111 = .ok (.iload 4, 2) := by decide +kernel
theorem dX5_holds_113 : decode cX5_holds 113 = .ok (.invokevirtual 87, 3) := by decide +kernel
theorem dX5_holds_116 : decode cX5_holds 116 = .ok (.ifCond .eq 7, 3) := by decide +kernel
theorem dX5_holds_119 : decode cX5_holds 119 = .ok (.iconst 1, 1) := by decide +kernel
theorem dX5_holds_120 : decode cX5_holds 120 = .ok (.goto 4, 3) := by decide +kernel
theorem dX5_holds_123 : decode cX5_holds 123 = .ok (.iconst 0, 1) := by decide +kernel
theorem dX5_holds_124 : decode cX5_holds 124 = .ok (.ior, 1) := by decide +kernel
theorem dX5_holds_125 : decode cX5_holds 125 = .ok (.istore_n 3, 1) := by decide +kernel
theorem dX5_holds_126 : decode cX5_holds 126 = .ok (.iinc 4 1, 3) := by decide +kernel
theorem dX5_holds_129 : decode cX5_holds 129 = .ok (.goto (-124), 3) := by decide +kernel
theorem dX5_holds_132 : decode cX5_holds 132 = .ok (.iload_n 3, 1) := by decide +kernel
theorem dX5_holds_133 : decode cX5_holds 133 = .ok (.iconst 1, 1) := by decide +kernel
theorem dX5_holds_134 : decode cX5_holds 134 = .ok (.iand, 1) := by decide +kernel
theorem dX5_holds_135 : decode cX5_holds 135 = .ok (.ifCond .eq 7, 3) := by decide +kernel
theorem dX5_holds_138 : decode cX5_holds 138 = .ok (.iconst 1, 1) := by decide +kernel
theorem dX5_holds_139 : decode cX5_holds 139 = .ok (.goto 4, 3) := by decide +kernel
theorem dX5_holds_142 : decode cX5_holds 142 = .ok (.iconst 0, 1) := by decide +kernel
theorem dX5_holds_143 : decode cX5_holds 143 = .ok (.ireturn, 1) := by decide +kernel
theorem dX5_stepHolds_0 : decode cX5_stepHolds 0 = .ok (.aload_n 0, 1) := by decide +kernel
theorem dX5_stepHolds_1 : decode cX5_stepHolds 1 = .ok (.getfield 11, 3) := by decide +kernel
theorem dX5_stepHolds_4 : decode cX5_stepHolds 4 = .ok (.iload_n 3, 1) := by decide +kernel
theorem dX5_stepHolds_5 : decode cX5_stepHolds 5 = .ok (.iaload, 1) := by decide +kernel
theorem dX5_stepHolds_6 : decode cX5_stepHolds 6 = .ok (.tableswitch 130 22 27 #[38, 58, 70, 94, 100, 115], 38) := by decide +kernel
theorem dX5_stepHolds_44 : decode cX5_stepHolds 44 = .ok (.aload_n 1, 1) := by decide +kernel
theorem dX5_stepHolds_45 : decode cX5_stepHolds 45 = .ok (.iload_n 2, 1) := by decide +kernel
theorem dX5_stepHolds_46 : decode cX5_stepHolds 46 = .ok (.invokevirtual 91, 3) := by decide +kernel
theorem dX5_stepHolds_49 : decode cX5_stepHolds 49 = .ok (.aload_n 0, 1) := by decide +kernel
theorem dX5_stepHolds_50 : decode cX5_stepHolds 50 = .ok (.getfield 18, 3) := by decide +kernel
theorem dX5_stepHolds_53 : decode cX5_stepHolds 53 = .ok (.iload_n 3, 1) := by decide +kernel
theorem dX5_stepHolds_54 : decode cX5_stepHolds 54 = .ok (.iaload, 1) := by decide +kernel
theorem dX5_stepHolds_55 : decode cX5_stepHolds 55 = .ok (.if_icmp .ne 7, 3) := by decide +kernel
theorem dX5_stepHolds_58 : decode cX5_stepHolds 58 = .ok (.iconst 1, 1) := by decide +kernel
theorem dX5_stepHolds_59 : decode cX5_stepHolds 59 = .ok (.goto 4, 3) := by decide +kernel
theorem dX5_stepHolds_62 : decode cX5_stepHolds 62 = .ok (.iconst 0, 1) := by decide +kernel
theorem dX5_stepHolds_63 : decode cX5_stepHolds 63 = .ok (.ireturn, 1) := by decide +kernel
theorem dX5_stepHolds_64 : decode cX5_stepHolds 64 = .ok (.aload_n 1, 1) := by decide +kernel
theorem dX5_stepHolds_65 : decode cX5_stepHolds 65 = .ok (.iload_n 2, 1) := by decide +kernel
theorem dX5_stepHolds_66 : decode cX5_stepHolds 66 = .ok (.aload_n 0, 1) := by decide +kernel
theorem dX5_stepHolds_67 : decode cX5_stepHolds 67 = .ok (.getfield 18, 3) := by decide +kernel
theorem dX5_stepHolds_70 : decode cX5_stepHolds 70 = .ok (.iload_n 3, 1) := by decide +kernel
theorem dX5_stepHolds_71 : decode cX5_stepHolds 71 = .ok (.iaload, 1) := by decide +kernel
theorem dX5_stepHolds_72 : decode cX5_stepHolds 72 = .ok (.invokevirtual 96, 3) := by decide +kernel
theorem dX5_stepHolds_75 : decode cX5_stepHolds 75 = .ok (.ireturn, 1) := by decide +kernel
theorem dX5_stepHolds_76 : decode cX5_stepHolds 76 = .ok (.aload_n 1, 1) := by decide +kernel
theorem dX5_stepHolds_77 : decode cX5_stepHolds 77 = .ok (.getfield 100, 3) := by decide +kernel
theorem dX5_stepHolds_80 : decode cX5_stepHolds 80 = .ok (.getfield 104, 3) := by decide +kernel
theorem dX5_stepHolds_83 : decode cX5_stepHolds 83 = .ok (.iload_n 2, 1) := by decide +kernel
theorem dX5_stepHolds_84 : decode cX5_stepHolds 84 = .ok (.iaload, 1) := by decide +kernel
theorem dX5_stepHolds_85 : decode cX5_stepHolds 85 = .ok (.aload_n 0, 1) := by decide +kernel
theorem dX5_stepHolds_86 : decode cX5_stepHolds 86 = .ok (.getfield 18, 3) := by decide +kernel
theorem dX5_stepHolds_89 : decode cX5_stepHolds 89 = .ok (.iload_n 3, 1) := by decide +kernel
theorem dX5_stepHolds_90 : decode cX5_stepHolds 90 = .ok (.iaload, 1) := by decide +kernel
theorem dX5_stepHolds_91 : decode cX5_stepHolds 91 = .ok (.if_icmp .ne 7, 3) := by decide +kernel
theorem dX5_stepHolds_94 : decode cX5_stepHolds 94 = .ok (.iconst 1, 1) := by decide +kernel
theorem dX5_stepHolds_95 : decode cX5_stepHolds 95 = .ok (.goto 4, 3) := by decide +kernel
theorem dX5_stepHolds_98 : decode cX5_stepHolds 98 = .ok (.iconst 0, 1) := by decide +kernel
theorem dX5_stepHolds_99 : decode cX5_stepHolds 99 = .ok (.ireturn, 1) := by decide +kernel
theorem dX5_stepHolds_100 : decode cX5_stepHolds 100 = .ok (.aload_n 1, 1) := by decide +kernel
theorem dX5_stepHolds_101 : decode cX5_stepHolds 101 = .ok (.iload_n 2, 1) := by decide +kernel
theorem dX5_stepHolds_102 : decode cX5_stepHolds 102 = .ok (.invokevirtual 109, 3) := by decide +kernel
theorem dX5_stepHolds_105 : decode cX5_stepHolds 105 = .ok (.ireturn, 1) := by decide +kernel
theorem dX5_stepHolds_106 : decode cX5_stepHolds 106 = .ok (.aload_n 0, 1) := by decide +kernel
theorem dX5_stepHolds_107 : decode cX5_stepHolds 107 = .ok (.aload_n 1, 1) := by decide +kernel
theorem dX5_stepHolds_108 : decode cX5_stepHolds 108 = .ok (.getfield 100, 3) := by decide +kernel
theorem dX5_stepHolds_111 : decode cX5_stepHolds 111 = .ok (.getfield 113, 3) := by decide +kernel
theorem dX5_stepHolds_114 : decode cX5_stepHolds 114 = .ok (.iload_n 2, 1) := by decide +kernel
theorem dX5_stepHolds_115 : decode cX5_stepHolds 115 = .ok (.iaload, 1) := by decide +kernel
theorem dX5_stepHolds_116 : decode cX5_stepHolds 116 = .ok (.iload_n 3, 1) := by decide +kernel
theorem dX5_stepHolds_117 : decode cX5_stepHolds 117 = .ok (.invokevirtual 116, 3) := by decide +kernel
theorem dX5_stepHolds_120 : decode cX5_stepHolds 120 = .ok (.ireturn, 1) := by decide +kernel
theorem dX5_stepHolds_121 : decode cX5_stepHolds 121 = .ok (.aload_n 0, 1) := by decide +kernel
theorem dX5_stepHolds_122 : decode cX5_stepHolds 122 = .ok (.aload_n 1, 1) := by decide +kernel
theorem dX5_stepHolds_123 : decode cX5_stepHolds 123 = .ok (.getfield 100, 3) := by decide +kernel
theorem dX5_stepHolds_126 : decode cX5_stepHolds 126 = .ok (.getfield 119, 3) := by decide +kernel
theorem dX5_stepHolds_129 : decode cX5_stepHolds 129 = .ok (.iload_n 2, 1) := by decide +kernel
theorem dX5_stepHolds_130 : decode cX5_stepHolds 130 = .ok (.iaload, 1) := by decide +kernel
theorem dX5_stepHolds_131 : decode cX5_stepHolds 131 = .ok (.iload_n 3, 1) := by decide +kernel
theorem dX5_stepHolds_132 : decode cX5_stepHolds 132 = .ok (.invokevirtual 116, 3) := by decide +kernel
theorem dX5_stepHolds_135 : decode cX5_stepHolds 135 = .ok (.ireturn, 1) := by decide +kernel
theorem dX5_stepHolds_136 : decode cX5_stepHolds 136 = .ok (.aload_n 0, 1) := by decide +kernel
theorem dX5_stepHolds_137 : decode cX5_stepHolds 137 = .ok (.aload_n 1, 1) := by decide +kernel
theorem dX5_stepHolds_138 : decode cX5_stepHolds 138 = .ok (.getfield 100, 3) := by decide +kernel
theorem dX5_stepHolds_141 : decode cX5_stepHolds 141 = .ok (.getfield 122, 3) := by decide +kernel
theorem dX5_stepHolds_144 : decode cX5_stepHolds 144 = .ok (.iload_n 2, 1) := by decide +kernel
theorem dX5_stepHolds_145 : decode cX5_stepHolds 145 = .ok (.iaload, 1) := by decide +kernel
theorem dX5_stepHolds_146 : decode cX5_stepHolds 146 = .ok (.iload_n 3, 1) := by decide +kernel
theorem dX5_stepHolds_147 : decode cX5_stepHolds 147 = .ok (.invokevirtual 116, 3) := by decide +kernel
theorem dX5_stepHolds_150 : decode cX5_stepHolds 150 = .ok (.ireturn, 1) := by decide +kernel
theorem dX5_compares_0 : decode cX5_compares 0 = .ok (.aload_n 0, 1) := by decide +kernel
theorem dX5_compares_1 : decode cX5_compares 1 = .ok (.getfield 15, 3) := by decide +kernel
theorem dX5_compares_4 : decode cX5_compares 4 = .ok (.iload_n 2, 1) := by decide +kernel
theorem dX5_compares_5 : decode cX5_compares 5 = .ok (.iaload, 1) := by decide +kernel
theorem dX5_compares_6 : decode cX5_compares 6 = .ok (.iconst 5, 1) := by decide +kernel
theorem dX5_compares_7 : decode cX5_compares 7 = .ok (.if_icmp .ne 19, 3) := by decide +kernel
theorem dX5_compares_10 : decode cX5_compares 10 = .ok (.iload_n 1, 1) := by decide +kernel
theorem dX5_compares_11 : decode cX5_compares 11 = .ok (.aload_n 0, 1) := by decide +kernel
theorem dX5_compares_12 : decode cX5_compares 12 = .ok (.getfield 18, 3) := by decide +kernel
theorem dX5_compares_15 : decode cX5_compares 15 = .ok (.iload_n 2, 1) := by decide +kernel
theorem dX5_compares_16 : decode cX5_compares 16 = .ok (.iaload, 1) := by decide +kernel
theorem dX5_compares_17 : decode cX5_compares 17 = .ok (.if_icmp .ge 7, 3) := by decide +kernel
theorem dX5_compares_20 : decode cX5_compares 20 = .ok (.iconst 1, 1) := by decide +kernel
theorem dX5_compares_21 : decode cX5_compares 21 = .ok (.goto 4, 3) := by decide +kernel
theorem dX5_compares_24 : decode cX5_compares 24 = .ok (.iconst 0, 1) := by decide +kernel
theorem dX5_compares_25 : decode cX5_compares 25 = .ok (.ireturn, 1) := by decide +kernel
theorem dX5_compares_26 : decode cX5_compares 26 = .ok (.aload_n 0, 1) := by decide +kernel
theorem dX5_compares_27 : decode cX5_compares 27 = .ok (.getfield 15, 3) := by decide +kernel
theorem dX5_compares_30 : decode cX5_compares 30 = .ok (.iload_n 2, 1) := by decide +kernel
theorem dX5_compares_31 : decode cX5_compares 31 = .ok (.iaload, 1) := by decide +kernel
theorem dX5_compares_32 : decode cX5_compares 32 = .ok (.bipush 7, 2) := by decide +kernel
theorem dX5_compares_34 : decode cX5_compares 34 = .ok (.if_icmp .ne 19, 3) := by decide +kernel
theorem dX5_compares_37 : decode cX5_compares 37 = .ok (.iload_n 1, 1) := by decide +kernel
theorem dX5_compares_38 : decode cX5_compares 38 = .ok (.aload_n 0, 1) := by decide +kernel
theorem dX5_compares_39 : decode cX5_compares 39 = .ok (.getfield 18, 3) := by decide +kernel
theorem dX5_compares_42 : decode cX5_compares 42 = .ok (.iload_n 2, 1) := by decide +kernel
theorem dX5_compares_43 : decode cX5_compares 43 = .ok (.iaload, 1) := by decide +kernel
theorem dX5_compares_44 : decode cX5_compares 44 = .ok (.if_icmp .le 7, 3) := by decide +kernel
theorem dX5_compares_47 : decode cX5_compares 47 = .ok (.iconst 1, 1) := by decide +kernel
theorem dX5_compares_48 : decode cX5_compares 48 = .ok (.goto 4, 3) := by decide +kernel
theorem dX5_compares_51 : decode cX5_compares 51 = .ok (.iconst 0, 1) := by decide +kernel
theorem dX5_compares_52 : decode cX5_compares 52 = .ok (.ireturn, 1) := by decide +kernel
theorem dX5_compares_53 : decode cX5_compares 53 = .ok (.iload_n 1, 1) := by decide +kernel
theorem dX5_compares_54 : decode cX5_compares 54 = .ok (.aload_n 0, 1) := by decide +kernel
theorem dX5_compares_55 : decode cX5_compares 55 = .ok (.getfield 18, 3) := by decide +kernel
theorem dX5_compares_58 : decode cX5_compares 58 = .ok (.iload_n 2, 1) := by decide +kernel
theorem dX5_compares_59 : decode cX5_compares 59 = .ok (.iaload, 1) := by decide +kernel
theorem dX5_compares_60 : decode cX5_compares 60 = .ok (.if_icmp .ne 7, 3) := by decide +kernel
theorem dX5_compares_63 : decode cX5_compares 63 = .ok (.iconst 1, 1) := by decide +kernel
theorem dX5_compares_64 : decode cX5_compares 64 = .ok (.goto 4, 3) := by decide +kernel
theorem dX5_compares_67 : decode cX5_compares 67 = .ok (.iconst 0, 1) := by decide +kernel
theorem dX5_compares_68 : decode cX5_compares 68 = .ok (.ireturn, 1) := by decide +kernel
