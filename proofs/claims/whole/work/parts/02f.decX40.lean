theorem dX4_init_0 : decode cX4_init 0 = .ok (.aload_n 0, 1) := by decide +kernel
theorem dX4_init_1 : decode cX4_init 1 = .ok (.invokespecial 5, 3) := by decide +kernel
theorem dX4_init_4 : decode cX4_init 4 = .ok (.aload_n 0, 1) := by decide +kernel
theorem dX4_init_5 : decode cX4_init 5 = .ok (.bipush 28, 2) := by decide +kernel
theorem dX4_init_7 : decode cX4_init 7 = .ok (.newarray .int, 2) := by decide +kernel
theorem dX4_init_9 : decode cX4_init 9 = .ok (.putfield 11, 3) := by decide +kernel
theorem dX4_init_12 : decode cX4_init 12 = .ok (.aload_n 0, 1) := by decide +kernel
theorem dX4_init_13 : decode cX4_init 13 = .ok (.aload_n 1, 1) := by decide +kernel
theorem dX4_init_14 : decode cX4_init 14 = .ok (.putfield 15, 3) := by decide +kernel
theorem dX4_init_17 : decode cX4_init 17 = .ok (.aload_n 0, 1) := by decide +kernel
theorem dX4_init_18 : decode cX4_init 18 = .ok (.aload_n 2, 1) := by decide +kernel
theorem dX4_init_19 : decode cX4_init 19 = .ok (.putfield 19, 3) := by decide +kernel
theorem dX4_init_22 : decode cX4_init 22 = .ok (.return_, 1) := by decide +kernel
theorem dX4_open_0 : decode cX4_open 0 = .ok (.aload_n 0, 1) := by decide +kernel
theorem dX4_open_1 : decode cX4_open 1 = .ok (.getfield 11, 3) := by decide +kernel
theorem dX4_open_4 : decode cX4_open 4 = .ok (.iconst 0, 1) := by decide +kernel
theorem dX4_open_5 : decode cX4_open 5 = .ok (.invokestatic 23, 3) := by decide +kernel
theorem dX4_open_8 : decode cX4_open 8 = .ok (.iconst 0, 1) := by decide +kernel
theorem dX4_open_9 : decode cX4_open 9 = .ok (.istore_n 1, 1) := by decide +kernel
theorem dX4_open_10 : decode cX4_open 10 = .ok (.iload_n 1, 1) := by decide +kernel
theorem dX4_open_11 : decode cX4_open 11 = .ok (.aload_n 0, 1) := by decide +kernel
theorem dX4_open_12 : decode cX4_open 12 = .ok (.getfield 15, 3) := by decide +kernel
theorem dX4_open_15 : decode cX4_open 15 = .ok (.getfield 29, 3) := by decide +kernel
theorem dX4_open_18 : decode cX4_open 18 = .ok (.if_icmp .ge 44, 3) := by decide +kernel
theorem dX4_open_21 : decode cX4_open 21 = .ok (.aload_n 0, 1) := by decide +kernel
theorem dX4_open_22 : decode cX4_open 22 = .ok (.getfield 11, 3) := by decide +kernel
theorem dX4_open_25 : decode cX4_open 25 = .ok (.iconst 3, 1) := by decide +kernel
theorem dX4_open_26 : decode cX4_open 26 = .ok (.iload_n 1, 1) := by decide +kernel
theorem dX4_open_27 : decode cX4_open 27 = .ok (.iadd, 1) := by decide +kernel
theorem dX4_open_28 : decode cX4_open 28 = .ok (.aload_n 0, 1) := by decide +kernel
theorem dX4_open_29 : decode cX4_open 29 = .ok (.getfield 15, 3) := by decide +kernel
theorem dX4_open_32 : decode cX4_open 32 = .ok (.getfield 35, 3) := by decide +kernel
theorem dX4_open_35 : decode cX4_open 35 = .ok (.iload_n 1, 1) := by decide +kernel
theorem dX4_open_36 : decode cX4_open 36 = .ok (.iaload, 1) := by decide +kernel
theorem dX4_open_37 : decode cX4_open 37 = .ok (.iastore, 1) := by decide +kernel
theorem dX4_open_38 : decode cX4_open 38 = .ok (.aload_n 0, 1) := by decide +kernel
theorem dX4_open_39 : decode cX4_open 39 = .ok (.getfield 11, 3) := by decide +kernel
theorem dX4_open_42 : decode cX4_open 42 = .ok (.bipush 8, 2) := by decide +kernel
theorem dX4_open_44 : decode cX4_open 44 = .ok (.iload_n 1, 1) := by decide +kernel
theorem dX4_open_45 : decode cX4_open 45 = .ok (.iadd, 1) := by decide +kernel
theorem dX4_open_46 : decode cX4_open 46 = .ok (.aload_n 0, 1) := by decide +kernel
theorem dX4_open_47 : decode cX4_open 47 = .ok (.getfield 15, 3) := by decide +kernel
theorem dX4_open_50 : decode cX4_open 50 = .ok (.getfield 38, 3) := by decide +kernel
theorem dX4_open_53 : decode cX4_open 53 = .ok (.iload_n 1, 1) := by decide +kernel
theorem dX4_open_54 : decode cX4_open 54 = .ok (.iaload, 1) := by decide +kernel
theorem dX4_open_55 : decode cX4_open 55 = .ok (.iastore, 1) := by decide +kernel
theorem dX4_open_56 : decode cX4_open 56 = .ok (.iinc 1 1, 3) := by decide +kernel
theorem dX4_open_59 : decode cX4_open 59 = .ok (.goto (-49), 3) := by decide +kernel
theorem dX4_open_62 : decode cX4_open 62 = .ok (.return_, 1) := by decide +kernel
theorem dX4_copyFrom_0 : decode cX4_copyFrom 0 = .ok (.aload_n 1, 1) := by decide +kernel
theorem dX4_copyFrom_1 : decode cX4_copyFrom 1 = .ok (.getfield 11, 3) := by decide +kernel
theorem dX4_copyFrom_4 : decode cX4_copyFrom 4 = .ok (.iconst 0, 1) := by decide +kernel
theorem dX4_copyFrom_5 : decode cX4_copyFrom 5 = .ok (.aload_n 0, 1) := by decide +kernel
theorem dX4_copyFrom_6 : decode cX4_copyFrom 6 = .ok (.getfield 11, 3) := by decide +kernel
theorem dX4_copyFrom_9 : decode cX4_copyFrom 9 = .ok (.iconst 0, 1) := by decide +kernel
theorem dX4_copyFrom_10 : decode cX4_copyFrom 10 = .ok (.bipush 28, 2) := by decide +kernel
theorem dX4_copyFrom_12 : decode cX4_copyFrom 12 = .ok (.invokestatic 41, 3) := by decide +kernel
theorem dX4_copyFrom_15 : decode cX4_copyFrom 15 = .ok (.return_, 1) := by decide +kernel
theorem dX4_has_0 : decode cX4_has 0 = .ok (.aload_n 0, 1) := by decide +kernel
theorem dX4_has_1 : decode cX4_has 1 = .ok (.getfield 11, 3) := by decide +kernel
theorem dX4_has_4 : decode cX4_has 4 = .ok (.bipush 13, 2) := by decide +kernel
theorem dX4_has_6 : decode cX4_has 6 = .ok (.iload_n 1, 1) := by decide +kernel
theorem dX4_has_7 : decode cX4_has 7 = .ok (.iadd, 1) := by decide +kernel
theorem dX4_has_8 : decode cX4_has 8 = .ok (.iaload, 1) := by decide +kernel
theorem dX4_has_9 : decode cX4_has 9 = .ok (.ifCond .le 7, 3) := by decide +kernel
theorem dX4_has_12 : decode cX4_has 12 = .ok (.iconst 1, 1) := by decide +kernel
theorem dX4_has_13 : decode cX4_has 13 = .ok (.goto 4, 3) := by decide +kernel
theorem dX4_has_16 : decode cX4_has 16 = .ok (.iconst 0, 1) := by decide +kernel
theorem dX4_has_17 : decode cX4_has 17 = .ok (.ireturn, 1) := by decide +kernel
theorem dX4_holders_0 : decode cX4_holders 0 = .ok (.iconst 0, 1) := by decide +kernel
theorem dX4_holders_1 : decode cX4_holders 1 = .ok (.istore_n 1, 1) := by decide +kernel
theorem dX4_holders_2 : decode cX4_holders 2 = .ok (.iconst 0, 1) := by decide +kernel
theorem dX4_holders_3 : decode cX4_holders 3 = .ok (.istore_n 2, 1) := by decide +kernel
theorem dX4_holders_4 : decode cX4_holders 4 = .ok (.iload_n 2, 1) := by decide +kernel
theorem dX4_holders_5 : decode cX4_holders 5 = .ok (.iconst 5, 1) := by decide +kernel
theorem dX4_holders_6 : decode cX4_holders 6 = .ok (.if_icmp .ge 23, 3) := by decide +kernel
theorem dX4_holders_9 : decode cX4_holders 9 = .ok (.aload_n 0, 1) := by decide +kernel
theorem dX4_holders_10 : decode cX4_holders 10 = .ok (.iload_n 2, 1) := by decide +kernel
theorem dX4_holders_11 : decode cX4_holders 11 = .ok (.invokevirtual 47, 3) := by decide +kernel
theorem dX4_holders_14 : decode cX4_holders 14 = .ok (.ifCond .eq 9, 3) := by decide +kernel
theorem dX4_holders_17 : decode cX4_holders 17 = .ok (.iload_n 1, 1) := by decide +kernel
theorem dX4_holders_18 : decode cX4_holders 18 = .ok (.iconst 1, 1) := by decide +kernel
theorem dX4_holders_19 : decode cX4_holders 19 = .ok (.iload_n 2, 1) := by decide +kernel
theorem dX4_holders_20 : decode cX4_holders 20 = .ok (.ishl, 1) := by decide +kernel
theorem dX4_holders_21 : decode cX4_holders 21 = .ok (.ior, 1) := by decide +kernel
theorem dX4_holders_22 : decode cX4_holders 22 = .ok (.istore_n 1, 1) := by decide +kernel
theorem dX4_holders_23 : decode cX4_holders 23 = .ok (.iinc 2 1, 3) := by decide +kernel
theorem dX4_holders_26 : decode cX4_holders 26 = .ok (.goto (-22), 3) := by decide +kernel
theorem dX4_holders_29 : decode cX4_holders 29 = .ok (.iload_n 1, 1) := by decide +kernel
theorem dX4_holders_30 : decode cX4_holders 30 = .ok (.ireturn, 1) := by decide +kernel
theorem dX4_moneyOfAll_0 : decode cX4_moneyOfAll 0 = .ok (.iconst 0, 1) := by decide +kernel
theorem dX4_moneyOfAll_1 : decode cX4_moneyOfAll 1 = .ok (.istore_n 1, 1) := by decide +kernel
theorem dX4_moneyOfAll_2 : decode cX4_moneyOfAll 2 = .ok (.iconst 0, 1) := by decide +kernel
theorem dX4_moneyOfAll_3 : decode cX4_moneyOfAll 3 = .ok (.istore_n 2, 1) := by decide +kernel
theorem dX4_moneyOfAll_4 : decode cX4_moneyOfAll 4 = .ok (.iload_n 2, 1) := by decide +kernel
theorem dX4_moneyOfAll_5 : decode cX4_moneyOfAll 5 = .ok (.iconst 5, 1) := by decide +kernel
theorem dX4_moneyOfAll_6 : decode cX4_moneyOfAll 6 = .ok (.if_icmp .ge 20, 3) := by decide +kernel
theorem dX4_moneyOfAll_9 : decode cX4_moneyOfAll 9 = .ok (.iload_n 1, 1) := by decide +kernel
theorem dX4_moneyOfAll_10 : decode cX4_moneyOfAll 10 = .ok (.aload_n 0, 1) := by decide +kernel
theorem dX4_moneyOfAll_11 : decode cX4_moneyOfAll 11 = .ok (.getfield 11, 3) := by decide +kernel
theorem dX4_moneyOfAll_14 : decode cX4_moneyOfAll 14 = .ok (.iconst 3, 1) := by decide +kernel
theorem dX4_moneyOfAll_15 : decode cX4_moneyOfAll 15 = .ok (.iload_n 2, 1) := by decide +kernel
theorem dX4_moneyOfAll_16 : decode cX4_moneyOfAll 16 = .ok (.iadd, 1) := by decide +kernel
theorem dX4_moneyOfAll_17 : decode cX4_moneyOfAll 17 = .ok (.iaload, 1) := by decide +kernel
theorem dX4_moneyOfAll_18 : decode cX4_moneyOfAll 18 = .ok (.iadd, 1) := by decide +kernel
theorem dX4_moneyOfAll_19 : decode cX4_moneyOfAll 19 = .ok (.istore_n 1, 1) := by decide +kernel
theorem dX4_moneyOfAll_20 : decode cX4_moneyOfAll 20 = .ok (.iinc 2 1, 3) := by decide +kernel
theorem dX4_moneyOfAll_23 : decode cX4_moneyOfAll 23 = .ok (.goto (-19), 3) := by decide +kernel
theorem dX4_moneyOfAll_26 : decode cX4_moneyOfAll 26 = .ok (.iload_n 1, 1) := by decide +kernel
theorem dX4_moneyOfAll_27 : decode cX4_moneyOfAll 27 = .ok (.ireturn, 1) := by decide +kernel
theorem dX4_farFrom_0 : decode cX4_farFrom 0 = .ok (.aload_n 0, 1) := by decide +kernel
theorem dX4_farFrom_1 : decode cX4_farFrom 1 = .ok (.getfield 11, 3) := by decide +kernel
theorem dX4_farFrom_4 : decode cX4_farFrom 4 = .ok (.bipush 18, 2) := by decide +kernel
theorem dX4_farFrom_6 : decode cX4_farFrom 6 = .ok (.iload_n 1, 1) := by decide +kernel
theorem dX4_farFrom_7 : decode cX4_farFrom 7 = .ok (.iadd, 1) := by decide +kernel
theorem dX4_farFrom_8 : decode cX4_farFrom 8 = .ok (.iaload, 1) := by decide +kernel
theorem dX4_farFrom_9 : decode cX4_farFrom 9 = .ok (.aload_n 0, 1) := by decide +kernel
theorem dX4_farFrom_10 : decode cX4_farFrom 10 = .ok (.getfield 15, 3) := by decide +kernel
theorem dX4_farFrom_13 : decode cX4_farFrom 13 = .ok (.getfield 51, 3) := by decide +kernel
theorem dX4_farFrom_16 : decode cX4_farFrom 16 = .ok (.iload_n 2, 1) := by decide +kernel
theorem dX4_farFrom_17 : decode cX4_farFrom 17 = .ok (.iaload, 1) := by decide +kernel
theorem dX4_farFrom_18 : decode cX4_farFrom 18 = .ok (.isub, 1) := by decide +kernel
theorem dX4_farFrom_19 : decode cX4_farFrom 19 = .ok (.invokestatic 54, 3) := by decide +kernel
theorem dX4_farFrom_22 : decode cX4_farFrom 22 = .ok (.ireturn, 1) := by decide +kernel
theorem dX4_sees_0 : decode cX4_sees 0 = .ok (.aload_n 0, 1) := by decide +kernel
theorem dX4_sees_1 : decode cX4_sees 1 = .ok (.iload_n 1, 1) := by decide +kernel
theorem dX4_sees_2 : decode cX4_sees 2 = .ok (.invokevirtual 47, 3) := by decide +kernel
theorem dX4_sees_5 : decode cX4_sees 5 = .ok (.ifCond .eq 25, 3) := by decide +kernel
theorem dX4_sees_8 : decode cX4_sees 8 = .ok (.aload_n 0, 1) := by decide +kernel
theorem dX4_sees_9 : decode cX4_sees 9 = .ok (.iload_n 1, 1) := by decide +kernel
theorem dX4_sees_10 : decode cX4_sees 10 = .ok (.iload_n 2, 1) := by decide +kernel
theorem dX4_sees_11 : decode cX4_sees 11 = .ok (.invokevirtual 60, 3) := by decide +kernel
theorem dX4_sees_14 : decode cX4_sees 14 = .ok (.aload_n 0, 1) := by decide +kernel
theorem dX4_sees_15 : decode cX4_sees 15 = .ok (.getfield 11, 3) := by decide +kernel
theorem dX4_sees_18 : decode cX4_sees 18 = .ok (.bipush 13, 2) := by decide +kernel
theorem dX4_sees_20 : decode cX4_sees 20 = .ok (.iload_n 1, 1) := by decide +kernel
theorem dX4_sees_21 : decode cX4_sees 21 = .ok (.iadd, 1) := by decide +kernel
theorem dX4_sees_22 : decode cX4_sees 22 = .ok (.iaload, 1) := by decide +kernel
theorem dX4_sees_23 : decode cX4_sees 23 = .ok (.if_icmp .gt 7, 3) := by decide +kernel
theorem dX4_sees_26 : decode cX4_sees 26 = .ok (.iconst 1, 1) := by decide +kernel
theorem dX4_sees_27 : decode cX4_sees 27 = .ok (.goto 4, 3) := by decide +kernel
theorem dX4_sees_30 : decode cX4_sees 30 = .ok (.iconst 0, 1) := by decide +kernel
theorem dX4_sees_31 : decode cX4_sees 31 = .ok (.ireturn, 1) := by decide +kernel
theorem dX4_seenBy_0 : decode cX4_seenBy 0 = .ok (.iconst 0, 1) := by decide +kernel
theorem dX4_seenBy_1 : decode cX4_seenBy 1 = .ok (.istore_n 2, 1) := by decide +kernel
theorem dX4_seenBy_2 : decode cX4_seenBy 2 = .ok (.iconst 0, 1) := by decide +kernel
theorem dX4_seenBy_3 : decode cX4_seenBy 3 = .ok (.istore_n 3, 1) := by decide +kernel
theorem dX4_seenBy_4 : decode cX4_seenBy 4 = .ok (.iload_n 3, 1) := by decide +kernel
theorem dX4_seenBy_5 : decode cX4_seenBy 5 = .ok (.iconst 5, 1) := by decide +kernel
theorem dX4_seenBy_6 : decode cX4_seenBy 6 = .ok (.if_icmp .ge 24, 3) := by decide +kernel
theorem dX4_seenBy_9 : decode cX4_seenBy 9 = .ok (.aload_n 0, 1) := by decide +kernel
theorem dX4_seenBy_10 : decode cX4_seenBy 10 = .ok (.iload_n 3, 1) := by decide +kernel
theorem dX4_seenBy_11 : decode cX4_seenBy 11 = .ok (.iload_n 1, 1) := by decide +kernel
theorem dX4_seenBy_12 : decode cX4_seenBy 12 = .ok (.invokevirtual 64, 3) := by decide +kernel
theorem dX4_seenBy_15 : decode cX4_seenBy 15 = .ok (.ifCond .eq 9, 3) := by decide +kernel
theorem dX4_seenBy_18 : decode cX4_seenBy 18 = .ok (.iload_n 2, 1) := by decide +kernel
theorem dX4_seenBy_19 : decode cX4_seenBy 19 = .ok (.iconst 1, 1) := by decide +kernel
theorem dX4_seenBy_20 : decode cX4_seenBy 20 = .ok (.iload_n 3, 1) := by decide +kernel
theorem dX4_seenBy_21 : decode cX4_seenBy 21 = .ok (.ishl, 1) := by decide +kernel
theorem dX4_seenBy_22 : decode cX4_seenBy 22 = .ok (.ior, 1) := by decide +kernel
theorem dX4_seenBy_23 : decode cX4_seenBy 23 = .ok (.istore_n 2, 1) := by decide +kernel
theorem dX4_seenBy_24 : decode cX4_seenBy 24 = .ok (.iinc 3 1, 3) := by decide +kernel
theorem dX4_seenBy_27 : decode cX4_seenBy 27 = .ok (.goto (-23), 3) := by decide +kernel
theorem dX4_seenBy_30 : decode cX4_seenBy 30 = .ok (.iload_n 2, 1) := by decide +kernel
theorem dX4_seenBy_31 : decode cX4_seenBy 31 = .ok (.ireturn, 1) := by decide +kernel
theorem dX4_viewsSeen_0 : decode cX4_viewsSeen 0 = .ok (.iconst 0, 1) := by decide +kernel
theorem dX4_viewsSeen_1 : decode cX4_viewsSeen 1 = .ok (.istore_n 2, 1) := by decide +kernel
theorem dX4_viewsSeen_2 : decode cX4_viewsSeen 2 = .ok (.iconst 0, 1) := by decide +kernel
theorem dX4_viewsSeen_3 : decode cX4_viewsSeen 3 = .ok (.istore_n 3, 1) := by decide +kernel
theorem dX4_viewsSeen_4 : decode cX4_viewsSeen 4 = .ok (.iload_n 3, 1) := by decide +kernel
theorem dX4_viewsSeen_5 : decode cX4_viewsSeen 5 = .ok (.aload_n 0, 1) := by decide +kernel
theorem dX4_viewsSeen_6 : decode cX4_viewsSeen 6 = .ok (.getfield 15, 3) := by decide +kernel
theorem dX4_viewsSeen_9 : decode cX4_viewsSeen 9 = .ok (.getfield 68, 3) := by decide +kernel
theorem dX4_viewsSeen_12 : decode cX4_viewsSeen 12 = .ok (.if_icmp .ge 24, 3) := by decide +kernel
theorem dX4_viewsSeen_15 : decode cX4_viewsSeen 15 = .ok (.aload_n 0, 1) := by decide +kernel
theorem dX4_viewsSeen_16 : decode cX4_viewsSeen 16 = .ok (.iload_n 1, 1) := by decide +kernel
theorem dX4_viewsSeen_17 : decode cX4_viewsSeen 17 = .ok (.iload_n 3, 1) := by decide +kernel
theorem dX4_viewsSeen_18 : decode cX4_viewsSeen 18 = .ok (.invokevirtual 64, 3) := by decide +kernel
theorem dX4_viewsSeen_21 : decode cX4_viewsSeen 21 = .ok (.ifCond .eq 9, 3) := by decide +kernel
theorem dX4_viewsSeen_24 : decode cX4_viewsSeen 24 = .ok (.iload_n 2, 1) := by decide +kernel
theorem dX4_viewsSeen_25 : decode cX4_viewsSeen 25 = .ok (.iconst 1, 1) := by decide +kernel
theorem dX4_viewsSeen_26 : decode cX4_viewsSeen 26 = .ok (.iload_n 3, 1) := by decide +kernel
theorem dX4_viewsSeen_27 : decode cX4_viewsSeen 27 = .ok (.ishl, 1) := by decide +kernel
theorem dX4_viewsSeen_28 : decode cX4_viewsSeen 28 = .ok (.ior, 1) := by decide +kernel
theorem dX4_viewsSeen_29 : decode cX4_viewsSeen 29 = .ok (.istore_n 2, 1) := by decide +kernel
theorem dX4_viewsSeen_30 : decode cX4_viewsSeen 30 = .ok (.iinc 3 1, 3) := by decide +kernel
theorem dX4_viewsSeen_33 : decode cX4_viewsSeen 33 = .ok (.goto (-29), 3) := by decide +kernel
theorem dX4_viewsSeen_36 : decode cX4_viewsSeen 36 = .ok (.iload_n 2, 1) := by decide +kernel
theorem dX4_viewsSeen_37 : decode cX4_viewsSeen 37 = .ok (.ireturn, 1) := by decide +kernel
theorem dX4_owner_0 : decode cX4_owner 0 = .ok (.iconst (-1), 1) := by decide +kernel
theorem dX4_owner_1 : decode cX4_owner 1 = .ok (.istore_n 2, 1) := by decide +kernel
theorem dX4_owner_2 : decode cX4_owner 2 = .ok (.bipush 100, 2) := by decide +kernel
theorem dX4_owner_4 : decode cX4_owner 4 = .ok (.istore_n 3, 1) := by decide +kernel
theorem dX4_owner_5 : decode cX4_owner 5 = .ok (.iconst 0, 1) := by decide +kernel
theorem dX4_owner_6 : decode cX4_owner 6 = .ok (.istore 4, 2) := by decide +kernel
theorem dX4_owner_8 : decode cX4_owner 8 = .ok (.iload 4, 2) := by decide +kernel
theorem dX4_owner_10 : decode cX4_owner 10 = .ok (.iconst 5, 1) := by decide +kernel
theorem dX4_owner_11 : decode cX4_owner 11 = .ok (.if_icmp .ge 74, 3) := by decide +kernel
theorem dX4_owner_14 : decode cX4_owner 14 = .ok (.aload_n 0, 1) := by decide +kernel
theorem dX4_owner_15 : decode cX4_owner 15 = .ok (.getfield 11, 3) := by decide +kernel
theorem dX4_owner_18 : decode cX4_owner 18 = .ok (.bipush 18, 2) := by decide +kernel
theorem dX4_owner_20 : decode cX4_owner 20 = .ok (.iload 4, 2) := by decide +kernel
theorem dX4_owner_22 : decode cX4_owner 22 = .ok (.iadd, 1) := by decide +kernel
theorem dX4_owner_23 : decode cX4_owner 23 = .ok (.iaload, 1) := by decide +kernel
theorem dX4_owner_24 : decode cX4_owner 24 = .ok (.aload_n 0, 1) := by decide +kernel
theorem dX4_owner_25 : decode cX4_owner 25 = .ok (.getfield 15, 3) := by decide +kernel
theorem dX4_owner_28 : decode cX4_owner 28 = .ok (.getfield 51, 3) := by decide +kernel
theorem dX4_owner_31 : decode cX4_owner 31 = .ok (.iload_n 1, 1) := by decide +kernel
theorem dX4_owner_32 : decode cX4_owner 32 = .ok (.iaload, 1) := by decide +kernel
theorem dX4_owner_33 : decode cX4_owner 33 = .ok (.isub, 1) := by decide +kernel
theorem dX4_owner_34 : decode cX4_owner 34 = .ok (.invokestatic 54, 3) := by decide +kernel
theorem dX4_owner_37 : decode cX4_owner 37 = .ok (.istore 5, 2) := by decide +kernel
theorem dX4_owner_39 : decode cX4_owner 39 = .ok (.aload_n 0, 1) := by decide +kernel
theorem dX4_owner_40 : decode cX4_owner 40 = .ok (.getfield 11, 3) := by decide +kernel
theorem dX4_owner_43 : decode cX4_owner 43 = .ok (.bipush 13, 2) := by decide +kernel
theorem dX4_owner_45 : decode cX4_owner 45 = .ok (.iload 4, 2) := by decide +kernel
theorem dX4_owner_47 : decode cX4_owner 47 = .ok (.iadd, 1) := by decide +kernel
theorem dX4_owner_48 : decode cX4_owner 48 = .ok (.iaload, 1) := by decide +kernel
theorem dX4_owner_49 : decode cX4_owner 49 = .ok (.ifCond .le 30, 3) := by decide +kernel
theorem dX4_owner_52 : decode cX4_owner 52 = .ok (.iload 5, 2) := by decide +kernel
theorem dX4_owner_54 : decode cX4_owner 54 = .ok (.aload_n 0, 1) := by decide +kernel
theorem dX4_owner_55 : decode cX4_owner 55 = .ok (.getfield 11, 3) := by decide +kernel
theorem dX4_owner_58 : decode cX4_owner 58 = .ok (.bipush 13, 2) := by decide +kernel
theorem dX4_owner_60 : decode cX4_owner 60 = .ok (.iload 4, 2) := by decide +kernel
theorem dX4_owner_62 : decode cX4_owner 62 = .ok (.iadd, 1) := by decide +kernel
theorem dX4_owner_63 : decode cX4_owner 63 = .ok (.iaload, 1) := by decide +kernel
theorem dX4_owner_64 : decode cX4_owner 64 = .ok (.if_icmp .gt 15, 3) := by decide +kernel
theorem dX4_owner_67 : decode cX4_owner 67 = .ok (.iload 5, 2) := by decide +kernel
theorem dX4_owner_69 : decode cX4_owner 69 = .ok (.iload_n 3, 1) := by decide +kernel
theorem dX4_owner_70 : decode cX4_owner 70 = .ok (.if_icmp .ge 9, 3) := by decide +kernel
theorem dX4_owner_73 : decode cX4_owner 73 = .ok (.iload 4, 2) := by decide +kernel
theorem dX4_owner_75 : decode cX4_owner 75 = .ok (.istore_n 2, 1) := by decide +kernel
theorem dX4_owner_76 : decode cX4_owner 76 = .ok (.iload 5, 2) := by decide +kernel
theorem dX4_owner_78 : decode cX4_owner 78 = .ok (.istore_n 3, 1) := by decide +kernel
theorem dX4_owner_79 : decode cX4_owner 79 = .ok (.iinc 4 1, 3) := by decide +kernel
theorem dX4_owner_82 : decode cX4_owner 82 = .ok (.goto (-74), 3) := by decide +kernel
theorem dX4_owner_85 : decode cX4_owner 85 = .ok (.iload_n 2, 1) := by decide +kernel
theorem dX4_owner_86 : decode cX4_owner 86 = .ok (.ireturn, 1) := by decide +kernel
theorem dX4_ownerOrNobody_0 : decode cX4_ownerOrNobody 0 = .ok (.aload_n 0, 1) := by decide +kernel
theorem dX4_ownerOrNobody_1 : decode cX4_ownerOrNobody 1 = .ok (.iload_n 1, 1) := by decide +kernel
theorem dX4_ownerOrNobody_2 : decode cX4_ownerOrNobody 2 = .ok (.invokevirtual 71, 3) := by decide +kernel
theorem dX4_ownerOrNobody_5 : decode cX4_ownerOrNobody 5 = .ok (.istore_n 2, 1) := by decide +kernel
theorem dX4_ownerOrNobody_6 : decode cX4_ownerOrNobody 6 = .ok (.iload_n 2, 1) := by decide +kernel
theorem dX4_ownerOrNobody_7 : decode cX4_ownerOrNobody 7 = .ok (.iconst (-1), 1) := by decide +kernel
theorem dX4_ownerOrNobody_8 : decode cX4_ownerOrNobody 8 = .ok (.if_icmp .ne 7, 3) := by decide +kernel
theorem dX4_ownerOrNobody_11 : decode cX4_ownerOrNobody 11 = .ok (.iconst 5, 1) := by decide +kernel
theorem dX4_ownerOrNobody_12 : decode cX4_ownerOrNobody 12 = .ok (.goto 4, 3) := by decide +kernel
theorem dX4_ownerOrNobody_15 : decode cX4_ownerOrNobody 15 = .ok (.iload_n 2, 1) := by decide +kernel
theorem dX4_ownerOrNobody_16 : decode cX4_ownerOrNobody 16 = .ok (.ireturn, 1) := by decide +kernel
theorem dX4_viewsHad_0 : decode cX4_viewsHad 0 = .ok (.iconst 0, 1) := by decide +kernel
theorem dX4_viewsHad_1 : decode cX4_viewsHad 1 = .ok (.istore_n 2, 1) := by decide +kernel
theorem dX4_viewsHad_2 : decode cX4_viewsHad 2 = .ok (.iconst 0, 1) := by decide +kernel
theorem dX4_viewsHad_3 : decode cX4_viewsHad 3 = .ok (.istore_n 3, 1) := by decide +kernel
theorem dX4_viewsHad_4 : decode cX4_viewsHad 4 = .ok (.iload_n 3, 1) := by decide +kernel
theorem dX4_viewsHad_5 : decode cX4_viewsHad 5 = .ok (.aload_n 0, 1) := by decide +kernel
theorem dX4_viewsHad_6 : decode cX4_viewsHad 6 = .ok (.getfield 15, 3) := by decide +kernel
theorem dX4_viewsHad_9 : decode cX4_viewsHad 9 = .ok (.getfield 68, 3) := by decide +kernel
theorem dX4_viewsHad_12 : decode cX4_viewsHad 12 = .ok (.if_icmp .ge 24, 3) := by decide +kernel
theorem dX4_viewsHad_15 : decode cX4_viewsHad 15 = .ok (.aload_n 0, 1) := by decide +kernel
theorem dX4_viewsHad_16 : decode cX4_viewsHad 16 = .ok (.iload_n 3, 1) := by decide +kernel
theorem dX4_viewsHad_17 : decode cX4_viewsHad 17 = .ok (.invokevirtual 71, 3) := by decide +kernel
theorem dX4_viewsHad_20 : decode cX4_viewsHad 20 = .ok (.iload_n 1, 1) := by decide +kernel
theorem dX4_viewsHad_21 : decode cX4_viewsHad 21 = .ok (.if_icmp .ne 9, 3) := by decide +kernel
theorem dX4_viewsHad_24 : decode cX4_viewsHad 24 = .ok (.iload_n 2, 1) := by decide +kernel
theorem dX4_viewsHad_25 : decode cX4_viewsHad 25 = .ok (.iconst 1, 1) := by decide +kernel
theorem dX4_viewsHad_26 : decode cX4_viewsHad 26 = .ok (.iload_n 3, 1) := by decide +kernel
theorem dX4_viewsHad_27 : decode cX4_viewsHad 27 = .ok (.ishl, 1) := by decide +kernel
theorem dX4_viewsHad_28 : decode cX4_viewsHad 28 = .ok (.ior, 1) := by decide +kernel
theorem dX4_viewsHad_29 : decode cX4_viewsHad 29 = .ok (.istore_n 2, 1) := by decide +kernel
theorem dX4_viewsHad_30 : decode cX4_viewsHad 30 = .ok (.iinc 3 1, 3) := by decide +kernel
theorem dX4_viewsHad_33 : decode cX4_viewsHad 33 = .ok (.goto (-29), 3) := by decide +kernel
theorem dX4_viewsHad_36 : decode cX4_viewsHad 36 = .ok (.iload_n 2, 1) := by decide +kernel
theorem dX4_viewsHad_37 : decode cX4_viewsHad 37 = .ok (.ireturn, 1) := by decide +kernel
theorem dX4_worthOf_0 : decode cX4_worthOf 0 = .ok (.iconst 0, 1) := by decide +kernel
theorem dX4_worthOf_1 : decode cX4_worthOf 1 = .ok (.istore_n 2, 1) := by decide +kernel
theorem dX4_worthOf_2 : decode cX4_worthOf 2 = .ok (.iconst 0, 1) := by decide +kernel
theorem dX4_worthOf_3 : decode cX4_worthOf 3 = .ok (.istore_n 3, 1) := by decide +kernel
theorem dX4_worthOf_4 : decode cX4_worthOf 4 = .ok (.iload_n 3, 1) := by decide +kernel
theorem dX4_worthOf_5 : decode cX4_worthOf 5 = .ok (.aload_n 0, 1) := by decide +kernel
theorem dX4_worthOf_6 : decode cX4_worthOf 6 = .ok (.getfield 15, 3) := by decide +kernel
theorem dX4_worthOf_9 : decode cX4_worthOf 9 = .ok (.getfield 68, 3) := by decide +kernel
theorem dX4_worthOf_12 : decode cX4_worthOf 12 = .ok (.if_icmp .ge 34, 3) := by decide +kernel
theorem dX4_worthOf_15 : decode cX4_worthOf 15 = .ok (.iload_n 2, 1) := by decide +kernel
theorem dX4_worthOf_16 : decode cX4_worthOf 16 = .ok (.aload_n 0, 1) := by decide +kernel
theorem dX4_worthOf_17 : decode cX4_worthOf 17 = .ok (.iload_n 3, 1) := by decide +kernel
theorem dX4_worthOf_18 : decode cX4_worthOf 18 = .ok (.invokevirtual 71, 3) := by decide +kernel
theorem dX4_worthOf_21 : decode cX4_worthOf 21 = .ok (.iload_n 1, 1) := by decide +kernel
theorem dX4_worthOf_22 : decode cX4_worthOf 22 = .ok (.if_icmp .ne 15, 3) := by decide +kernel
theorem dX4_worthOf_25 : decode cX4_worthOf 25 = .ok (.aload_n 0, 1) := by decide +kernel
theorem dX4_worthOf_26 : decode cX4_worthOf 26 = .ok (.getfield 15, 3) := by decide +kernel
theorem dX4_worthOf_29 : decode cX4_worthOf 29 = .ok (.getfield 74, 3) := by decide +kernel
theorem dX4_worthOf_32 : decode cX4_worthOf 32 = .ok (.iload_n 3, 1) := by decide +kernel
theorem dX4_worthOf_33 : decode cX4_worthOf 33 = .ok (.iaload, 1) := by decide +kernel
theorem dX4_worthOf_34 : decode cX4_worthOf 34 = .ok (.goto 4, 3) := by decide +kernel
theorem dX4_worthOf_37 : decode cX4_worthOf 37 = .ok (.iconst 0, 1) := by decide +kernel
theorem dX4_worthOf_38 : decode cX4_worthOf 38 = .ok (.iadd, 1) := by decide +kernel
theorem dX4_worthOf_39 : decode cX4_worthOf 39 = .ok (.istore_n 2, 1) := by decide +kernel
theorem dX4_worthOf_40 : decode cX4_worthOf 40 = .ok (.iinc 3 1, 3) := by decide +kernel
theorem dX4_worthOf_43 : decode cX4_worthOf 43 = .ok (.goto (-39), 3) := by decide +kernel
theorem dX4_worthOf_46 : decode cX4_worthOf 46 = .ok (.iload_n 2, 1) := by decide +kernel
theorem dX4_worthOf_47 : decode cX4_worthOf 47 = .ok (.ireturn, 1) := by decide +kernel
theorem dX4_worthHad_0 : decode cX4_worthHad 0 = .ok (.iconst 0, 1) := by decide +kernel
theorem dX4_worthHad_1 : decode cX4_worthHad 1 = .ok (.istore_n 1, 1) := by decide +kernel
theorem dX4_worthHad_2 : decode cX4_worthHad 2 = .ok (.iconst 0, 1) := by decide +kernel
theorem dX4_worthHad_3 : decode cX4_worthHad 3 = .ok (.istore_n 2, 1) := by decide +kernel
theorem dX4_worthHad_4 : decode cX4_worthHad 4 = .ok (.iload_n 2, 1) := by decide +kernel
theorem dX4_worthHad_5 : decode cX4_worthHad 5 = .ok (.aload_n 0, 1) := by decide +kernel
theorem dX4_worthHad_6 : decode cX4_worthHad 6 = .ok (.getfield 15, 3) := by decide +kernel
theorem dX4_worthHad_9 : decode cX4_worthHad 9 = .ok (.getfield 68, 3) := by decide +kernel
theorem dX4_worthHad_12 : decode cX4_worthHad 12 = .ok (.if_icmp .ge 34, 3) := by decide +kernel
theorem dX4_worthHad_15 : decode cX4_worthHad 15 = .ok (.iload_n 1, 1) := by decide +kernel
theorem dX4_worthHad_16 : decode cX4_worthHad 16 = .ok (.aload_n 0, 1) := by decide +kernel
theorem dX4_worthHad_17 : decode cX4_worthHad 17 = .ok (.iload_n 2, 1) := by decide +kernel
theorem dX4_worthHad_18 : decode cX4_worthHad 18 = .ok (.invokevirtual 71, 3) := by decide +kernel
theorem dX4_worthHad_21 : decode cX4_worthHad 21 = .ok (.iconst (-1), 1) := by decide +kernel
theorem dX4_worthHad_22 : decode cX4_worthHad 22 = .ok (.if_icmp .ne 7, 3) := by decide +kernel
theorem dX4_worthHad_25 : decode cX4_worthHad 25 = .ok (.iconst 0, 1) := by decide +kernel
theorem dX4_worthHad_26 : decode cX4_worthHad 26 = .ok (.goto 12, 3) := by decide +kernel
theorem dX4_worthHad_29 : decode cX4_worthHad 29 = .ok (.aload_n 0, 1) := by decide +kernel
theorem dX4_worthHad_30 : decode cX4_worthHad 30 = .ok (.getfield 15, 3) := by decide +kernel
theorem dX4_worthHad_33 : decode cX4_worthHad 33 = .ok (.getfield 74, 3) := by decide +kernel
theorem dX4_worthHad_36 : decode cX4_worthHad 36 = .ok (.iload_n 2, 1) := by decide +kernel
theorem dX4_worthHad_37 : decode cX4_worthHad 37 = .ok (.iaload, 1) := by decide +kernel
theorem dX4_worthHad_38 : decode cX4_worthHad 38 = .ok (.iadd, 1) := by decide +kernel
theorem dX4_worthHad_39 : decode cX4_worthHad 39 = .ok (.istore_n 1, 1) := by decide +kernel
theorem dX4_worthHad_40 : decode cX4_worthHad 40 = .ok (.iinc 2 1, 3) := by decide +kernel
theorem dX4_worthHad_43 : decode cX4_worthHad 43 = .ok (.goto (-39), 3) := by decide +kernel
theorem dX4_worthHad_46 : decode cX4_worthHad 46 = .ok (.iload_n 1, 1) := by decide +kernel
theorem dX4_worthHad_47 : decode cX4_worthHad 47 = .ok (.ireturn, 1) := by decide +kernel
theorem dX4_overlapOf_0 : decode cX4_overlapOf 0 = .ok (.aload_n 0, 1) := by decide +kernel
theorem dX4_overlapOf_1 : decode cX4_overlapOf 1 = .ok (.getfield 11, 3) := by decide +kernel
theorem dX4_overlapOf_4 : decode cX4_overlapOf 4 = .ok (.bipush 13, 2) := by decide +kernel
theorem dX4_overlapOf_6 : decode cX4_overlapOf 6 = .ok (.iload_n 1, 1) := by decide +kernel
theorem dX4_overlapOf_7 : decode cX4_overlapOf 7 = .ok (.iadd, 1) := by decide +kernel
theorem dX4_overlapOf_8 : decode cX4_overlapOf 8 = .ok (.iaload, 1) := by decide +kernel
theorem dX4_overlapOf_9 : decode cX4_overlapOf 9 = .ok (.aload_n 0, 1) := by decide +kernel
theorem dX4_overlapOf_10 : decode cX4_overlapOf 10 = .ok (.getfield 11, 3) := by decide +kernel
theorem dX4_overlapOf_13 : decode cX4_overlapOf 13 = .ok (.bipush 13, 2) := by decide +kernel
theorem dX4_overlapOf_15 : decode cX4_overlapOf 15 = .ok (.iload_n 2, 1) := by decide +kernel
theorem dX4_overlapOf_16 : decode cX4_overlapOf 16 = .ok (.iadd, 1) := by decide +kernel
theorem dX4_overlapOf_17 : decode cX4_overlapOf 17 = .ok (.iaload, 1) := by decide +kernel
theorem dX4_overlapOf_18 : decode cX4_overlapOf 18 = .ok (.iadd, 1) := by decide +kernel
theorem dX4_overlapOf_19 : decode cX4_overlapOf 19 = .ok (.aload_n 0, 1) := by decide +kernel
theorem dX4_overlapOf_20 : decode cX4_overlapOf 20 = .ok (.getfield 11, 3) := by decide +kernel
theorem dX4_overlapOf_23 : decode cX4_overlapOf 23 = .ok (.bipush 18, 2) := by decide +kernel
theorem dX4_overlapOf_25 : decode cX4_overlapOf 25 = .ok (.iload_n 1, 1) := by decide +kernel
theorem dX4_overlapOf_26 : decode cX4_overlapOf 26 = .ok (.iadd, 1) := by decide +kernel
theorem dX4_overlapOf_27 : decode cX4_overlapOf 27 = .ok (.iaload, 1) := by decide +kernel
theorem dX4_overlapOf_28 : decode cX4_overlapOf 28 = .ok (.aload_n 0, 1) := by decide +kernel
theorem dX4_overlapOf_29 : decode cX4_overlapOf 29 = .ok (.getfield 11, 3) := by decide +kernel
theorem dX4_overlapOf_32 : decode cX4_overlapOf 32 = .ok (.bipush 18, 2) := by decide +kernel
theorem dX4_overlapOf_34 : decode cX4_overlapOf 34 = .ok (.iload_n 2, 1) := by decide +kernel
theorem dX4_overlapOf_35 : decode cX4_overlapOf 35 = .ok (.iadd, 1) := by decide +kernel
theorem dX4_overlapOf_36 : decode cX4_overlapOf 36 = .ok (.iaload, 1) := by decide +kernel
theorem dX4_overlapOf_37 : decode cX4_overlapOf 37 = .ok (.isub, 1) := by decide +kernel
theorem dX4_overlapOf_38 : decode cX4_overlapOf 38 = .ok (.invokestatic 54, 3) := by decide +kernel
theorem dX4_overlapOf_41 : decode cX4_overlapOf 41 = .ok (.isub, 1) := by decide +kernel
theorem dX4_overlapOf_42 : decode cX4_overlapOf 42 = .ok (.ireturn, 1) := by decide +kernel
theorem dX4_touching_0 : decode cX4_touching 0 = .ok (.iconst 0, 1) := by decide +kernel
theorem dX4_touching_1 : decode cX4_touching 1 = .ok (.istore_n 2, 1) := by decide +kernel
theorem dX4_touching_2 : decode cX4_touching 2 = .ok (.iconst 0, 1) := by decide +kernel
theorem dX4_touching_3 : decode cX4_touching 3 = .ok (.istore_n 3, 1) := by decide +kernel
theorem dX4_touching_4 : decode cX4_touching 4 = .ok (.iload_n 3, 1) := by decide +kernel
theorem dX4_touching_5 : decode cX4_touching 5 = .ok (.iconst 5, 1) := by decide +kernel
theorem dX4_touching_6 : decode cX4_touching 6 = .ok (.if_icmp .ge 45, 3) := by decide +kernel
theorem dX4_touching_9 : decode cX4_touching 9 = .ok (.iload_n 3, 1) := by decide +kernel
theorem dX4_touching_10 : decode cX4_touching 10 = .ok (.iload_n 1, 1) := by decide +kernel
theorem dX4_touching_11 : decode cX4_touching 11 = .ok (.if_icmp .eq 34, 3) := by decide +kernel
theorem dX4_touching_14 : decode cX4_touching 14 = .ok (.aload_n 0, 1) := by decide +kernel
theorem dX4_touching_15 : decode cX4_touching 15 = .ok (.iload_n 3, 1) := by decide +kernel
theorem dX4_touching_16 : decode cX4_touching 16 = .ok (.invokevirtual 47, 3) := by decide +kernel
theorem dX4_touching_19 : decode cX4_touching 19 = .ok (.ifCond .eq 26, 3) := by decide +kernel
theorem dX4_touching_22 : decode cX4_touching 22 = .ok (.aload_n 0, 1) := by decide +kernel
theorem dX4_touching_23 : decode cX4_touching 23 = .ok (.iload_n 1, 1) := by decide +kernel
theorem dX4_touching_24 : decode cX4_touching 24 = .ok (.invokevirtual 47, 3) := by decide +kernel
theorem dX4_touching_27 : decode cX4_touching 27 = .ok (.ifCond .eq 18, 3) := by decide +kernel
theorem dX4_touching_30 : decode cX4_touching 30 = .ok (.aload_n 0, 1) := by decide +kernel
theorem dX4_touching_31 : decode cX4_touching 31 = .ok (.iload_n 1, 1) := by decide +kernel
theorem dX4_touching_32 : decode cX4_touching 32 = .ok (.iload_n 3, 1) := by decide +kernel
theorem dX4_touching_33 : decode cX4_touching 33 = .ok (.invokevirtual 77, 3) := by decide +kernel
theorem dX4_touching_36 : decode cX4_touching 36 = .ok (.ifCond .lt 9, 3) := by decide +kernel
theorem dX4_touching_39 : decode cX4_touching 39 = .ok (.iload_n 2, 1) := by decide +kernel
theorem dX4_touching_40 : decode cX4_touching 40 = .ok (.iconst 1, 1) := by decide +kernel
theorem dX4_touching_41 : decode cX4_touching 41 = .ok (.iload_n 3, 1) := by decide +kernel
theorem dX4_touching_42 : decode cX4_touching 42 = .ok (.ishl, 1) := by decide +kernel
theorem dX4_touching_43 : decode cX4_touching 43 = .ok (.ior, 1) := by decide +kernel
theorem dX4_touching_44 : decode cX4_touching 44 = .ok (.istore_n 2, 1) := by decide +kernel
theorem dX4_touching_45 : decode cX4_touching 45 = .ok (.iinc 3 1, 3) := by decide +kernel
theorem dX4_touching_48 : decode cX4_touching 48 = .ok (.goto (-44), 3) := by decide +kernel
theorem dX4_touching_51 : decode cX4_touching 51 = .ok (.iload_n 2, 1) := by decide +kernel
theorem dX4_touching_52 : decode cX4_touching 52 = .ok (.ireturn, 1) := by decide +kernel
theorem dX4_touchingTwos_0 : decode cX4_touchingTwos 0 = .ok (.iconst 0, 1) := by decide +kernel
theorem dX4_touchingTwos_1 : decode cX4_touchingTwos 1 = .ok (.istore_n 1, 1) := by decide +kernel
theorem dX4_touchingTwos_2 : decode cX4_touchingTwos 2 = .ok (.iconst 0, 1) := by decide +kernel
theorem dX4_touchingTwos_3 : decode cX4_touchingTwos 3 = .ok (.istore_n 2, 1) := by decide +kernel
theorem dX4_touchingTwos_4 : decode cX4_touchingTwos 4 = .ok (.iload_n 2, 1) := by decide +kernel
theorem dX4_touchingTwos_5 : decode cX4_touchingTwos 5 = .ok (.iconst 5, 1) := by decide +kernel
theorem dX4_touchingTwos_6 : decode cX4_touchingTwos 6 = .ok (.if_icmp .ge 20, 3) := by decide +kernel
theorem dX4_touchingTwos_9 : decode cX4_touchingTwos 9 = .ok (.iload_n 1, 1) := by decide +kernel
theorem dX4_touchingTwos_10 : decode cX4_touchingTwos 10 = .ok (.aload_n 0, 1) := by decide +kernel
theorem dX4_touchingTwos_11 : decode cX4_touchingTwos 11 = .ok (.iload_n 2, 1) := by decide +kernel
theorem dX4_touchingTwos_12 : decode cX4_touchingTwos 12 = .ok (.invokevirtual 80, 3) := by decide +kernel
theorem dX4_touchingTwos_15 : decode cX4_touchingTwos 15 = .ok (.invokestatic 83, 3) := by decide +kernel
theorem dX4_touchingTwos_18 : decode cX4_touchingTwos 18 = .ok (.iadd, 1) := by decide +kernel
theorem dX4_touchingTwos_19 : decode cX4_touchingTwos 19 = .ok (.istore_n 1, 1) := by decide +kernel
theorem dX4_touchingTwos_20 : decode cX4_touchingTwos 20 = .ok (.iinc 2 1, 3) := by decide +kernel
theorem dX4_touchingTwos_23 : decode cX4_touchingTwos 23 = .ok (.goto (-19), 3) := by decide +kernel
theorem dX4_touchingTwos_26 : decode cX4_touchingTwos 26 = .ok (.iload_n 1, 1) := by decide +kernel
theorem dX4_touchingTwos_27 : decode cX4_touchingTwos 27 = .ok (.iconst 2, 1) := by decide +kernel
theorem dX4_touchingTwos_28 : decode cX4_touchingTwos 28 = .ok (.idiv, 1) := by decide +kernel
theorem dX4_touchingTwos_29 : decode cX4_touchingTwos 29 = .ok (.ireturn, 1) := by decide +kernel
theorem dX4_life_0 : decode cX4_life 0 = .ok (.aload_n 0, 1) := by decide +kernel
theorem dX4_life_1 : decode cX4_life 1 = .ok (.getfield 19, 3) := by decide +kernel
theorem dX4_life_4 : decode cX4_life 4 = .ok (.getfield 88, 3) := by decide +kernel
theorem dX4_life_7 : decode cX4_life 7 = .ok (.iconst 0, 1) := by decide +kernel
theorem dX4_life_8 : decode cX4_life 8 = .ok (.aload_n 0, 1) := by decide +kernel
theorem dX4_life_9 : decode cX4_life 9 = .ok (.getfield 11, 3) := by decide +kernel
theorem dX4_life_12 : decode cX4_life 12 = .ok (.bipush 13, 2) := by decide +kernel
theorem dX4_life_14 : decode cX4_life 14 = .ok (.iload_n 1, 1) := by decide +kernel
theorem dX4_life_15 : decode cX4_life 15 = .ok (.iadd, 1) := by decide +kernel
theorem dX4_life_16 : decode cX4_life 16 = .ok (.iaload, 1) := by decide +kernel
theorem dX4_life_17 : decode cX4_life 17 = .ok (.iastore, 1) := by decide +kernel
theorem dX4_life_18 : decode cX4_life 18 = .ok (.aload_n 0, 1) := by decide +kernel
theorem dX4_life_19 : decode cX4_life 19 = .ok (.getfield 19, 3) := by decide +kernel
theorem dX4_life_22 : decode cX4_life 22 = .ok (.getfield 88, 3) := by decide +kernel
theorem dX4_life_25 : decode cX4_life 25 = .ok (.iconst 1, 1) := by decide +kernel
theorem dX4_life_26 : decode cX4_life 26 = .ok (.aload_n 0, 1) := by decide +kernel
theorem dX4_life_27 : decode cX4_life 27 = .ok (.getfield 15, 3) := by decide +kernel
theorem dX4_life_30 : decode cX4_life 30 = .ok (.getfield 93, 3) := by decide +kernel
theorem dX4_life_33 : decode cX4_life 33 = .ok (.iastore, 1) := by decide +kernel
theorem dX4_life_34 : decode cX4_life 34 = .ok (.aload_n 0, 1) := by decide +kernel
theorem dX4_life_35 : decode cX4_life 35 = .ok (.getfield 19, 3) := by decide +kernel
theorem dX4_life_38 : decode cX4_life 38 = .ok (.getfield 88, 3) := by decide +kernel
theorem dX4_life_41 : decode cX4_life 41 = .ok (.iconst 2, 1) := by decide +kernel
theorem dX4_life_42 : decode cX4_life 42 = .ok (.aload_n 0, 1) := by decide +kernel
theorem dX4_life_43 : decode cX4_life 43 = .ok (.getfield 19, 3) := by decide +kernel
theorem dX4_life_46 : decode cX4_life 46 = .ok (.iconst 2, 1) := by decide +kernel
theorem dX4_life_47 : decode cX4_life 47 = .ok (.invokevirtual 96, 3) := by decide +kernel
theorem dX4_life_50 : decode cX4_life 50 = .ok (.ifCond .eq 14, 3) := by decide +kernel
theorem dX4_life_53 : decode cX4_life 53 = .ok (.aload_n 0, 1) := by decide +kernel
theorem dX4_life_54 : decode cX4_life 54 = .ok (.iload_n 1, 1) := by decide +kernel
theorem dX4_life_55 : decode cX4_life 55 = .ok (.invokevirtual 80, 3) := by decide +kernel
theorem dX4_life_58 : decode cX4_life 58 = .ok (.invokestatic 83, 3) := by decide +kernel
theorem dX4_life_61 : decode cX4_life 61 = .ok (.goto 4, 3) := by decide +kernel
theorem dX4_life_64 : decode cX4_life 64 = .ok (.iconst 0, 1) := by decide +kernel
theorem dX4_life_65 : decode cX4_life 65 = .ok (.iastore, 1) := by decide +kernel
theorem dX4_life_66 : decode cX4_life 66 = .ok (.aload_n 0, 1) := by decide +kernel
theorem dX4_life_67 : decode cX4_life 67 = .ok (.getfield 19, 3) := by decide +kernel
theorem dX4_life_70 : decode cX4_life 70 = .ok (.getfield 88, 3) := by decide +kernel
theorem dX4_life_73 : decode cX4_life 73 = .ok (.iconst 3, 1) := by decide +kernel
theorem dX4_life_74 : decode cX4_life 74 = .ok (.aload_n 0, 1) := by decide +kernel
theorem dX4_life_75 : decode cX4_life 75 = .ok (.getfield 11, 3) := by decide +kernel
theorem dX4_life_78 : decode cX4_life 78 = .ok (.bipush 18, 2) := by decide +kernel
theorem dX4_life_80 : decode cX4_life 80 = .ok (.iload_n 1, 1) := by decide +kernel
theorem dX4_life_81 : decode cX4_life 81 = .ok (.iadd, 1) := by decide +kernel
theorem dX4_life_82 : decode cX4_life 82 = .ok (.iaload, 1) := by decide +kernel
theorem dX4_life_83 : decode cX4_life 83 = .ok (.iastore, 1) := by decide +kernel
theorem dX4_life_84 : decode cX4_life 84 = .ok (.aload_n 0, 1) := by decide +kernel
theorem dX4_life_85 : decode cX4_life 85 = .ok (.getfield 19, 3) := by decide +kernel
theorem dX4_life_88 : decode cX4_life 88 = .ok (.getfield 88, 3) := by decide +kernel
theorem dX4_life_91 : decode cX4_life 91 = .ok (.iconst 4, 1) := by decide +kernel
theorem dX4_life_92 : decode cX4_life 92 = .ok (.aload_n 0, 1) := by decide +kernel
theorem dX4_life_93 : decode cX4_life 93 = .ok (.getfield 19, 3) := by decide +kernel
theorem dX4_life_96 : decode cX4_life 96 = .ok (.iconst 4, 1) := by decide +kernel
theorem dX4_life_97 : decode cX4_life 97 = .ok (.invokevirtual 96, 3) := by decide +kernel
theorem dX4_life_100 : decode cX4_life 100 = .ok (.ifCond .eq 11, 3) := by decide +kernel
theorem dX4_life_103 : decode cX4_life 103 = .ok (.aload_n 0, 1) := by decide +kernel
theorem dX4_life_104 : decode cX4_life 104 = .ok (.iload_n 1, 1) := by decide +kernel
theorem dX4_life_105 : decode cX4_life 105 = .ok (.invokevirtual 99, 3) := by decide +kernel
theorem dX4_life_108 : decode cX4_life 108 = .ok (.goto 4, 3) := by decide +kernel
theorem dX4_life_111 : decode cX4_life 111 = .ok (.iconst 0, 1) := by decide +kernel
theorem dX4_life_112 : decode cX4_life 112 = .ok (.iastore, 1) := by decide +kernel
theorem dX4_life_113 : decode cX4_life 113 = .ok (.aload_n 0, 1) := by decide +kernel
theorem dX4_life_114 : decode cX4_life 114 = .ok (.getfield 19, 3) := by decide +kernel
theorem dX4_life_117 : decode cX4_life 117 = .ok (.getfield 88, 3) := by decide +kernel
theorem dX4_life_120 : decode cX4_life 120 = .ok (.iconst 5, 1) := by decide +kernel
theorem dX4_life_121 : decode cX4_life 121 = .ok (.aload_n 0, 1) := by decide +kernel
theorem dX4_life_122 : decode cX4_life 122 = .ok (.getfield 11, 3) := by decide +kernel
theorem dX4_life_125 : decode cX4_life 125 = .ok (.iconst 0, 1) := by decide +kernel
theorem dX4_life_126 : decode cX4_life 126 = .ok (.iaload, 1) := by decide +kernel
theorem dX4_life_127 : decode cX4_life 127 = .ok (.iastore, 1) := by decide +kernel
theorem dX4_life_128 : decode cX4_life 128 = .ok (.aload_n 0, 1) := by decide +kernel
theorem dX4_life_129 : decode cX4_life 129 = .ok (.getfield 19, 3) := by decide +kernel
theorem dX4_life_132 : decode cX4_life 132 = .ok (.getfield 88, 3) := by decide +kernel
theorem dX4_life_135 : decode cX4_life 135 = .ok (.bipush 6, 2) := by decide +kernel
theorem dX4_life_137 : decode cX4_life 137 = .ok (.aload_n 0, 1) := by decide +kernel
theorem dX4_life_138 : decode cX4_life 138 = .ok (.getfield 11, 3) := by decide +kernel
theorem dX4_life_141 : decode cX4_life 141 = .ok (.iconst 1, 1) := by decide +kernel
theorem dX4_life_142 : decode cX4_life 142 = .ok (.iaload, 1) := by decide +kernel
theorem dX4_life_143 : decode cX4_life 143 = .ok (.iastore, 1) := by decide +kernel
theorem dX4_life_144 : decode cX4_life 144 = .ok (.aload_n 0, 1) := by decide +kernel
theorem dX4_life_145 : decode cX4_life 145 = .ok (.getfield 19, 3) := by decide +kernel
theorem dX4_life_148 : decode cX4_life 148 = .ok (.getfield 88, 3) := by decide +kernel
theorem dX4_life_151 : decode cX4_life 151 = .ok (.bipush 7, 2) := by decide +kernel
theorem dX4_life_153 : decode cX4_life 153 = .ok (.iload_n 1, 1) := by decide +kernel
theorem dX4_life_154 : decode cX4_life 154 = .ok (.iastore, 1) := by decide +kernel
theorem dX4_life_155 : decode cX4_life 155 = .ok (.aload_n 0, 1) := by decide +kernel
theorem dX4_life_156 : decode cX4_life 156 = .ok (.getfield 19, 3) := by decide +kernel
theorem dX4_life_159 : decode cX4_life 159 = .ok (.invokevirtual 102, 3) := by decide +kernel
theorem dX4_life_162 : decode cX4_life 162 = .ok (.ireturn, 1) := by decide +kernel
theorem dX4_canBlow_0 : decode cX4_canBlow 0 = .ok (.aload_n 0, 1) := by decide +kernel
theorem dX4_canBlow_1 : decode cX4_canBlow 1 = .ok (.iload_n 1, 1) := by decide +kernel
theorem dX4_canBlow_2 : decode cX4_canBlow 2 = .ok (.invokevirtual 47, 3) := by decide +kernel
theorem dX4_canBlow_5 : decode cX4_canBlow 5 = .ok (.ifCond .ne 22, 3) := by decide +kernel
theorem dX4_canBlow_8 : decode cX4_canBlow 8 = .ok (.aload_n 0, 1) := by decide +kernel
theorem dX4_canBlow_9 : decode cX4_canBlow 9 = .ok (.getfield 11, 3) := by decide +kernel
theorem dX4_canBlow_12 : decode cX4_canBlow 12 = .ok (.iconst 3, 1) := by decide +kernel
theorem dX4_canBlow_13 : decode cX4_canBlow 13 = .ok (.iload_n 1, 1) := by decide +kernel
theorem dX4_canBlow_14 : decode cX4_canBlow 14 = .ok (.iadd, 1) := by decide +kernel
theorem dX4_canBlow_15 : decode cX4_canBlow 15 = .ok (.iaload, 1) := by decide +kernel
theorem dX4_canBlow_16 : decode cX4_canBlow 16 = .ok (.iload_n 2, 1) := by decide +kernel
theorem dX4_canBlow_17 : decode cX4_canBlow 17 = .ok (.invokestatic 106, 3) := by decide +kernel
theorem dX4_canBlow_20 : decode cX4_canBlow 20 = .ok (.if_icmp .lt 7, 3) := by decide +kernel
theorem dX4_canBlow_23 : decode cX4_canBlow 23 = .ok (.iconst 1, 1) := by decide +kernel
theorem dX4_canBlow_24 : decode cX4_canBlow 24 = .ok (.goto 4, 3) := by decide +kernel
theorem dX4_canBlow_27 : decode cX4_canBlow 27 = .ok (.iconst 0, 1) := by decide +kernel
theorem dX4_canBlow_28 : decode cX4_canBlow 28 = .ok (.ireturn, 1) := by decide +kernel
theorem dX4_price_0 : decode cX4_price 0 = .ok (.iconst 1, 1) := by decide +kernel
theorem dX4_price_1 : decode cX4_price 1 = .ok (.iload_n 0, 1) := by decide +kernel
theorem dX4_price_2 : decode cX4_price 2 = .ok (.iconst 5, 1) := by decide +kernel
theorem dX4_price_3 : decode cX4_price 3 = .ok (.idiv, 1) := by decide +kernel
theorem dX4_price_4 : decode cX4_price 4 = .ok (.iadd, 1) := by decide +kernel
theorem dX4_price_5 : decode cX4_price 5 = .ok (.ireturn, 1) := by decide +kernel
theorem dX4_blow_0 : decode cX4_blow 0 = .ok (.aload_n 0, 1) := by decide +kernel
theorem dX4_blow_1 : decode cX4_blow 1 = .ok (.iload_n 1, 1) := by decide +kernel
theorem dX4_blow_2 : decode cX4_blow 2 = .ok (.iload_n 2, 1) := by decide +kernel
theorem dX4_blow_3 : decode cX4_blow 3 = .ok (.invokevirtual 109, 3) := by decide +kernel
theorem dX4_blow_6 : decode cX4_blow 6 = .ok (.ifCond .ne 5, 3) := by decide +kernel
theorem dX4_blow_9 : decode cX4_blow 9 = .ok (.iconst 0, 1) := by decide +kernel
theorem dX4_blow_10 : decode cX4_blow 10 = .ok (.ireturn, 1) := by decide +kernel
theorem dX4_blow_11 : decode cX4_blow 11 = .ok (.aload_n 0, 1) := by decide +kernel
theorem dX4_blow_12 : decode cX4_blow 12 = .ok (.getfield 11, 3) := by decide +kernel
theorem dX4_blow_15 : decode cX4_blow 15 = .ok (.iconst 3, 1) := by decide +kernel
theorem dX4_blow_16 : decode cX4_blow 16 = .ok (.iload_n 1, 1) := by decide +kernel
theorem dX4_blow_17 : decode cX4_blow 17 = .ok (.iadd, 1) := by decide +kernel
theorem dX4_blow_18 : decode cX4_blow 18 = .ok (.dup2, 1) := by decide +kernel
theorem dX4_blow_19 : decode cX4_blow 19 = .ok (.iaload, 1) := by decide +kernel
theorem dX4_blow_20 : decode cX4_blow 20 = .ok (.iload_n 2, 1) := by decide +kernel
theorem dX4_blow_21 : decode cX4_blow 21 = .ok (.invokestatic 106, 3) := by decide +kernel
theorem dX4_blow_24 : decode cX4_blow 24 = .ok (.isub, 1) := by decide +kernel
theorem dX4_blow_25 : decode cX4_blow 25 = .ok (.iastore, 1) := by decide +kernel
theorem dX4_blow_26 : decode cX4_blow 26 = .ok (.aload_n 0, 1) := by decide +kernel
theorem dX4_blow_27 : decode cX4_blow 27 = .ok (.getfield 11, 3) := by decide +kernel
theorem dX4_blow_30 : decode cX4_blow 30 = .ok (.iconst 1, 1) := by decide +kernel
theorem dX4_blow_31 : decode cX4_blow 31 = .ok (.dup2, 1) := by decide +kernel
theorem dX4_blow_32 : decode cX4_blow 32 = .ok (.iaload, 1) := by decide +kernel
theorem dX4_blow_33 : decode cX4_blow 33 = .ok (.iconst 1, 1) := by decide +kernel
theorem dX4_blow_34 : decode cX4_blow 34 = .ok (.iadd, 1) := by decide +kernel
theorem dX4_blow_35 : decode cX4_blow 35 = .ok (.iastore, 1) := by decide +kernel
theorem dX4_blow_36 : decode cX4_blow 36 = .ok (.aload_n 0, 1) := by decide +kernel
theorem dX4_blow_37 : decode cX4_blow 37 = .ok (.iload_n 1, 1) := by decide +kernel
theorem dX4_blow_38 : decode cX4_blow 38 = .ok (.iload_n 2, 1) := by decide +kernel
theorem dX4_blow_39 : decode cX4_blow 39 = .ok (.aload_n 0, 1) := by decide +kernel
theorem dX4_blow_40 : decode cX4_blow 40 = .ok (.getfield 11, 3) := by decide +kernel
theorem dX4_blow_43 : decode cX4_blow 43 = .ok (.bipush 8, 2) := by decide +kernel
theorem dX4_blow_45 : decode cX4_blow 45 = .ok (.iload_n 1, 1) := by decide +kernel
theorem dX4_blow_46 : decode cX4_blow 46 = .ok (.iadd, 1) := by decide +kernel
theorem dX4_blow_47 : decode cX4_blow 47 = .ok (.iaload, 1) := by decide +kernel
theorem dX4_blow_48 : decode cX4_blow 48 = .ok (.iconst 0, 1) := by decide +kernel
theorem dX4_blow_49 : decode cX4_blow 49 = .ok (.invokevirtual 112, 3) := by decide +kernel
theorem dX4_blow_52 : decode cX4_blow 52 = .ok (.iconst 1, 1) := by decide +kernel
theorem dX4_blow_53 : decode cX4_blow 53 = .ok (.ireturn, 1) := by decide +kernel
theorem dX4_putBubble_0 : decode cX4_putBubble 0 = .ok (.aload_n 0, 1) := by decide +kernel
theorem dX4_putBubble_1 : decode cX4_putBubble 1 = .ok (.getfield 11, 3) := by decide +kernel
theorem dX4_putBubble_4 : decode cX4_putBubble 4 = .ok (.bipush 13, 2) := by decide +kernel
theorem dX4_putBubble_6 : decode cX4_putBubble 6 = .ok (.iload_n 1, 1) := by decide +kernel
theorem dX4_putBubble_7 : decode cX4_putBubble 7 = .ok (.iadd, 1) := by decide +kernel
theorem dX4_putBubble_8 : decode cX4_putBubble 8 = .ok (.iload_n 2, 1) := by decide +kernel
theorem dX4_putBubble_9 : decode cX4_putBubble 9 = .ok (.iastore, 1) := by decide +kernel
theorem dX4_putBubble_10 : decode cX4_putBubble 10 = .ok (.aload_n 0, 1) := by decide +kernel
theorem dX4_putBubble_11 : decode cX4_putBubble 11 = .ok (.getfield 11, 3) := by decide +kernel
theorem dX4_putBubble_14 : decode cX4_putBubble 14 = .ok (.bipush 18, 2) := by decide +kernel
theorem dX4_putBubble_16 : decode cX4_putBubble 16 = .ok (.iload_n 1, 1) := by decide +kernel
theorem dX4_putBubble_17 : decode cX4_putBubble 17 = .ok (.iadd, 1) := by decide +kernel
theorem dX4_putBubble_18 : decode cX4_putBubble 18 = .ok (.iload_n 3, 1) := by decide +kernel
theorem dX4_putBubble_19 : decode cX4_putBubble 19 = .ok (.iastore, 1) := by decide +kernel
theorem dX4_putBubble_20 : decode cX4_putBubble 20 = .ok (.aload_n 0, 1) := by decide +kernel
theorem dX4_putBubble_21 : decode cX4_putBubble 21 = .ok (.getfield 11, 3) := by decide +kernel
theorem dX4_putBubble_24 : decode cX4_putBubble 24 = .ok (.bipush 23, 2) := by decide +kernel
theorem dX4_putBubble_26 : decode cX4_putBubble 26 = .ok (.iload_n 1, 1) := by decide +kernel
theorem dX4_putBubble_27 : decode cX4_putBubble 27 = .ok (.iadd, 1) := by decide +kernel
theorem dX4_putBubble_28 : decode cX4_putBubble 28 = .ok (.iload 4, 2) := by decide +kernel
theorem dX4_putBubble_30 : decode cX4_putBubble 30 = .ok (.iastore, 1) := by decide +kernel
theorem dX4_putBubble_31 : decode cX4_putBubble 31 = .ok (.return_, 1) := by decide +kernel
theorem dX4_carriedOff_0 : decode cX4_carriedOff 0 = .ok (.iconst 0, 1) := by decide +kernel
theorem dX4_carriedOff_1 : decode cX4_carriedOff 1 = .ok (.istore_n 2, 1) := by decide +kernel
theorem dX4_carriedOff_2 : decode cX4_carriedOff 2 = .ok (.iconst 0, 1) := by decide +kernel
theorem dX4_carriedOff_3 : decode cX4_carriedOff 3 = .ok (.istore_n 3, 1) := by decide +kernel
theorem dX4_carriedOff_4 : decode cX4_carriedOff 4 = .ok (.iload_n 3, 1) := by decide +kernel
theorem dX4_carriedOff_5 : decode cX4_carriedOff 5 = .ok (.iconst 5, 1) := by decide +kernel
theorem dX4_carriedOff_6 : decode cX4_carriedOff 6 = .ok (.if_icmp .ge 48, 3) := by decide +kernel
theorem dX4_carriedOff_9 : decode cX4_carriedOff 9 = .ok (.aload_n 0, 1) := by decide +kernel
theorem dX4_carriedOff_10 : decode cX4_carriedOff 10 = .ok (.getfield 11, 3) := by decide +kernel
theorem dX4_carriedOff_13 : decode cX4_carriedOff 13 = .ok (.bipush 18, 2) := by decide +kernel
theorem dX4_carriedOff_15 : decode cX4_carriedOff 15 = .ok (.iload_n 3, 1) := by decide +kernel
theorem dX4_carriedOff_16 : decode cX4_carriedOff 16 = .ok (.iadd, 1) := by decide +kernel
theorem dX4_carriedOff_17 : decode cX4_carriedOff 17 = .ok (.iaload, 1) := by decide +kernel
theorem dX4_carriedOff_18 : decode cX4_carriedOff 18 = .ok (.iload_n 1, 1) := by decide +kernel
theorem dX4_carriedOff_19 : decode cX4_carriedOff 19 = .ok (.iadd, 1) := by decide +kernel
theorem dX4_carriedOff_20 : decode cX4_carriedOff 20 = .ok (.istore 4, 2) := by decide +kernel
theorem dX4_carriedOff_22 : decode cX4_carriedOff 22 = .ok (.aload_n 0, 1) := by decide +kernel
theorem dX4_carriedOff_23 : decode cX4_carriedOff 23 = .ok (.iload_n 3, 1) := by decide +kernel
theorem dX4_carriedOff_24 : decode cX4_carriedOff 24 = .ok (.invokevirtual 47, 3) := by decide +kernel
theorem dX4_carriedOff_27 : decode cX4_carriedOff 27 = .ok (.ifCond .eq 21, 3) := by decide +kernel
theorem dX4_carriedOff_30 : decode cX4_carriedOff 30 = .ok (.iload 4, 2) := by decide +kernel
theorem dX4_carriedOff_32 : decode cX4_carriedOff 32 = .ok (.ifCond .lt 10, 3) := by decide +kernel
theorem dX4_carriedOff_35 : decode cX4_carriedOff 35 = .ok (.iload 4, 2) := by decide +kernel
theorem dX4_carriedOff_37 : decode cX4_carriedOff 37 = .ok (.bipush 99, 2) := by decide +kernel
theorem dX4_carriedOff_39 : decode cX4_carriedOff 39 = .ok (.if_icmp .le 9, 3) := by decide +kernel
theorem dX4_carriedOff_42 : decode cX4_carriedOff 42 = .ok (.iload_n 2, 1) := by decide +kernel
theorem dX4_carriedOff_43 : decode cX4_carriedOff 43 = .ok (.iconst 1, 1) := by decide +kernel
theorem dX4_carriedOff_44 : decode cX4_carriedOff 44 = .ok (.iload_n 3, 1) := by decide +kernel
theorem dX4_carriedOff_45 : decode cX4_carriedOff 45 = .ok (.ishl, 1) := by decide +kernel
theorem dX4_carriedOff_46 : decode cX4_carriedOff 46 = .ok (.ior, 1) := by decide +kernel
theorem dX4_carriedOff_47 : decode cX4_carriedOff 47 = .ok (.istore_n 2, 1) := by decide +kernel
theorem dX4_carriedOff_48 : decode cX4_carriedOff 48 = .ok (.iinc 3 1, 3) := by decide +kernel
theorem dX4_carriedOff_51 : decode cX4_carriedOff 51 = .ok (.goto (-47), 3) := by decide +kernel
theorem dX4_carriedOff_54 : decode cX4_carriedOff 54 = .ok (.iload_n 2, 1) := by decide +kernel
theorem dX4_carriedOff_55 : decode cX4_carriedOff 55 = .ok (.ireturn, 1) := by decide +kernel
theorem dX4_drift_0 : decode cX4_drift 0 = .ok (.aload_n 0, 1) := by decide +kernel
theorem dX4_drift_1 : decode cX4_drift 1 = .ok (.invokevirtual 116, 3) := by decide +kernel
theorem dX4_drift_4 : decode cX4_drift 4 = .ok (.ifCond .ne 5, 3) := by decide +kernel
theorem dX4_drift_7 : decode cX4_drift 7 = .ok (.iconst 0, 1) := by decide +kernel
theorem dX4_drift_8 : decode cX4_drift 8 = .ok (.ireturn, 1) := by decide +kernel
theorem dX4_drift_9 : decode cX4_drift 9 = .ok (.aload_n 0, 1) := by decide +kernel
theorem dX4_drift_10 : decode cX4_drift 10 = .ok (.aload_n 0, 1) := by decide +kernel
theorem dX4_drift_11 : decode cX4_drift 11 = .ok (.iload_n 1, 1) := by decide +kernel
theorem dX4_drift_12 : decode cX4_drift 12 = .ok (.invokevirtual 119, 3) := by decide +kernel
theorem dX4_drift_15 : decode cX4_drift 15 = .ok (.invokevirtual 122, 3) := by decide +kernel
theorem dX4_drift_18 : decode cX4_drift 18 = .ok (.iconst 0, 1) := by decide +kernel
theorem dX4_drift_19 : decode cX4_drift 19 = .ok (.istore_n 2, 1) := by decide +kernel
theorem dX4_drift_20 : decode cX4_drift 20 = .ok (.iload_n 2, 1) := by decide +kernel
theorem dX4_drift_21 : decode cX4_drift 21 = .ok (.iconst 5, 1) := by decide +kernel
theorem dX4_drift_22 : decode cX4_drift 22 = .ok (.if_icmp .ge 30, 3) := by decide +kernel
theorem dX4_drift_25 : decode cX4_drift 25 = .ok (.aload_n 0, 1) := by decide +kernel
theorem dX4_drift_26 : decode cX4_drift 26 = .ok (.iload_n 2, 1) := by decide +kernel
theorem dX4_drift_27 : decode cX4_drift 27 = .ok (.invokevirtual 47, 3) := by decide +kernel
theorem dX4_drift_30 : decode cX4_drift 30 = .ok (.ifCond .eq 16, 3) := by decide +kernel
theorem dX4_drift_33 : decode cX4_drift 33 = .ok (.aload_n 0, 1) := by decide +kernel
theorem dX4_drift_34 : decode cX4_drift 34 = .ok (.getfield 11, 3) := by decide +kernel
theorem dX4_drift_37 : decode cX4_drift 37 = .ok (.bipush 18, 2) := by decide +kernel
theorem dX4_drift_39 : decode cX4_drift 39 = .ok (.iload_n 2, 1) := by decide +kernel
theorem dX4_drift_40 : decode cX4_drift 40 = .ok (.iadd, 1) := by decide +kernel
theorem dX4_drift_41 : decode cX4_drift 41 = .ok (.dup2, 1) := by decide +kernel
theorem dX4_drift_42 : decode cX4_drift 42 = .ok (.iaload, 1) := by decide +kernel
theorem dX4_drift_43 : decode cX4_drift 43 = .ok (.iload_n 1, 1) := by decide +kernel
theorem dX4_drift_44 : decode cX4_drift 44 = .ok (.iadd, 1) := by decide +kernel
theorem dX4_drift_45 : decode cX4_drift 45 = .ok (.iastore, 1) := by decide +kernel
theorem dX4_drift_46 : decode cX4_drift 46 = .ok (.iinc 2 1, 3) := by decide +kernel
theorem dX4_drift_49 : decode cX4_drift 49 = .ok (.goto (-29), 3) := by decide +kernel
theorem dX4_drift_52 : decode cX4_drift 52 = .ok (.iconst 1, 1) := by decide +kernel
theorem dX4_drift_53 : decode cX4_drift 53 = .ok (.ireturn, 1) := by decide +kernel
theorem dX4_runTo_0 : decode cX4_runTo 0 = .ok (.aload_n 0, 1) := by decide +kernel
theorem dX4_runTo_1 : decode cX4_runTo 1 = .ok (.getfield 11, 3) := by decide +kernel
theorem dX4_runTo_4 : decode cX4_runTo 4 = .ok (.bipush 8, 2) := by decide +kernel
theorem dX4_runTo_6 : decode cX4_runTo 6 = .ok (.iload_n 1, 1) := by decide +kernel
theorem dX4_runTo_7 : decode cX4_runTo 7 = .ok (.iadd, 1) := by decide +kernel
theorem dX4_runTo_8 : decode cX4_runTo 8 = .ok (.iaload, 1) := by decide +kernel
theorem dX4_runTo_9 : decode cX4_runTo 9 = .ok (.iload_n 2, 1) := by decide +kernel
theorem dX4_runTo_10 : decode cX4_runTo 10 = .ok (.if_icmp .ne 5, 3) := by decide +kernel
theorem dX4_runTo_13 : decode cX4_runTo 13 = .ok (.iconst 0, 1) := by decide +kernel
theorem dX4_runTo_14 : decode cX4_runTo 14 = .ok (.ireturn, 1) := by decide +kernel
theorem dX4_runTo_15 : decode cX4_runTo 15 = .ok (.aload_n 0, 1) := by decide +kernel
theorem dX4_runTo_16 : decode cX4_runTo 16 = .ok (.getfield 11, 3) := by decide +kernel
theorem dX4_runTo_19 : decode cX4_runTo 19 = .ok (.bipush 8, 2) := by decide +kernel
theorem dX4_runTo_21 : decode cX4_runTo 21 = .ok (.iload_n 1, 1) := by decide +kernel
theorem dX4_runTo_22 : decode cX4_runTo 22 = .ok (.iadd, 1) := by decide +kernel
theorem dX4_runTo_23 : decode cX4_runTo 23 = .ok (.iload_n 2, 1) := by decide +kernel
theorem dX4_runTo_24 : decode cX4_runTo 24 = .ok (.iastore, 1) := by decide +kernel
theorem dX4_runTo_25 : decode cX4_runTo 25 = .ok (.iconst 1, 1) := by decide +kernel
theorem dX4_runTo_26 : decode cX4_runTo 26 = .ok (.ireturn, 1) := by decide +kernel
theorem dX4_canSell_0 : decode cX4_canSell 0 = .ok (.iload_n 1, 1) := by decide +kernel
theorem dX4_canSell_1 : decode cX4_canSell 1 = .ok (.iload_n 2, 1) := by decide +kernel
theorem dX4_canSell_2 : decode cX4_canSell 2 = .ok (.if_icmp .eq 35, 3) := by decide +kernel
theorem dX4_canSell_5 : decode cX4_canSell 5 = .ok (.aload_n 0, 1) := by decide +kernel
theorem dX4_canSell_6 : decode cX4_canSell 6 = .ok (.iload_n 1, 1) := by decide +kernel
theorem dX4_canSell_7 : decode cX4_canSell 7 = .ok (.invokevirtual 47, 3) := by decide +kernel
theorem dX4_canSell_10 : decode cX4_canSell 10 = .ok (.ifCond .eq 27, 3) := by decide +kernel
theorem dX4_canSell_13 : decode cX4_canSell 13 = .ok (.aload_n 0, 1) := by decide +kernel
theorem dX4_canSell_14 : decode cX4_canSell 14 = .ok (.iload_n 2, 1) := by decide +kernel
theorem dX4_canSell_15 : decode cX4_canSell 15 = .ok (.invokevirtual 47, 3) := by decide +kernel
theorem dX4_canSell_18 : decode cX4_canSell 18 = .ok (.ifCond .ne 19, 3) := by decide +kernel
theorem dX4_canSell_21 : decode cX4_canSell 21 = .ok (.aload_n 0, 1) := by decide +kernel
theorem dX4_canSell_22 : decode cX4_canSell 22 = .ok (.getfield 11, 3) := by decide +kernel
theorem dX4_canSell_25 : decode cX4_canSell 25 = .ok (.iconst 3, 1) := by decide +kernel
theorem dX4_canSell_26 : decode cX4_canSell 26 = .ok (.iload_n 2, 1) := by decide +kernel
theorem dX4_canSell_27 : decode cX4_canSell 27 = .ok (.iadd, 1) := by decide +kernel
theorem dX4_canSell_28 : decode cX4_canSell 28 = .ok (.iaload, 1) := by decide +kernel
theorem dX4_canSell_29 : decode cX4_canSell 29 = .ok (.iload_n 3, 1) := by decide +kernel
theorem dX4_canSell_30 : decode cX4_canSell 30 = .ok (.if_icmp .lt 7, 3) := by decide +kernel
theorem dX4_canSell_33 : decode cX4_canSell 33 = .ok (.iconst 1, 1) := by decide +kernel
theorem dX4_canSell_34 : decode cX4_canSell 34 = .ok (.goto 4, 3) := by decide +kernel
theorem dX4_canSell_37 : decode cX4_canSell 37 = .ok (.iconst 0, 1) := by decide +kernel
theorem dX4_canSell_38 : decode cX4_canSell 38 = .ok (.ireturn, 1) := by decide +kernel
theorem dX4_sellFor_0 : decode cX4_sellFor 0 = .ok (.aload_n 0, 1) := by decide +kernel
theorem dX4_sellFor_1 : decode cX4_sellFor 1 = .ok (.iload_n 1, 1) := by decide +kernel
theorem dX4_sellFor_2 : decode cX4_sellFor 2 = .ok (.iload_n 2, 1) := by decide +kernel
theorem dX4_sellFor_3 : decode cX4_sellFor 3 = .ok (.iload_n 3, 1) := by decide +kernel
theorem dX4_sellFor_4 : decode cX4_sellFor 4 = .ok (.invokevirtual 126, 3) := by decide +kernel
theorem dX4_sellFor_7 : decode cX4_sellFor 7 = .ok (.ifCond .ne 5, 3) := by decide +kernel
theorem dX4_sellFor_10 : decode cX4_sellFor 10 = .ok (.iconst 0, 1) := by decide +kernel
theorem dX4_sellFor_11 : decode cX4_sellFor 11 = .ok (.ireturn, 1) := by decide +kernel
theorem dX4_sellFor_12 : decode cX4_sellFor 12 = .ok (.aload_n 0, 1) := by decide +kernel
theorem dX4_sellFor_13 : decode cX4_sellFor 13 = .ok (.getfield 11, 3) := by decide +kernel
theorem dX4_sellFor_16 : decode cX4_sellFor 16 = .ok (.iconst 3, 1) := by decide +kernel
theorem dX4_sellFor_17 : decode cX4_sellFor 17 = .ok (.iload_n 1, 1) := by decide +kernel
theorem dX4_sellFor_18 : decode cX4_sellFor 18 = .ok (.iadd, 1) := by decide +kernel
theorem dX4_sellFor_19 : decode cX4_sellFor 19 = .ok (.dup2, 1) := by decide +kernel
theorem dX4_sellFor_20 : decode cX4_sellFor 20 = .ok (.iaload, 1) := by decide +kernel
theorem dX4_sellFor_21 : decode cX4_sellFor 21 = .ok (.iload_n 3, 1) := by decide +kernel
theorem dX4_sellFor_22 : decode cX4_sellFor 22 = .ok (.iadd, 1) := by decide +kernel
theorem dX4_sellFor_23 : decode cX4_sellFor 23 = .ok (.iastore, 1) := by decide +kernel
theorem dX4_sellFor_24 : decode cX4_sellFor 24 = .ok (.aload_n 0, 1) := by decide +kernel
theorem dX4_sellFor_25 : decode cX4_sellFor 25 = .ok (.getfield 11, 3) := by decide +kernel
theorem dX4_sellFor_28 : decode cX4_sellFor 28 = .ok (.iconst 3, 1) := by decide +kernel
theorem dX4_sellFor_29 : decode cX4_sellFor 29 = .ok (.iload_n 2, 1) := by decide +kernel
theorem dX4_sellFor_30 : decode cX4_sellFor 30 = .ok (.iadd, 1) := by decide +kernel
theorem dX4_sellFor_31 : decode cX4_sellFor 31 = .ok (.dup2, 1) := by decide +kernel
theorem dX4_sellFor_32 : decode cX4_sellFor 32 = .ok (.iaload, 1) := by decide +kernel
theorem dX4_sellFor_33 : decode cX4_sellFor 33 = .ok (.iload_n 3, 1) := by decide +kernel
theorem dX4_sellFor_34 : decode cX4_sellFor 34 = .ok (.isub, 1) := by decide +kernel
theorem dX4_sellFor_35 : decode cX4_sellFor 35 = .ok (.iastore, 1) := by decide +kernel
theorem dX4_sellFor_36 : decode cX4_sellFor 36 = .ok (.aload_n 0, 1) := by decide +kernel
theorem dX4_sellFor_37 : decode cX4_sellFor 37 = .ok (.iload_n 2, 1) := by decide +kernel
theorem dX4_sellFor_38 : decode cX4_sellFor 38 = .ok (.aload_n 0, 1) := by decide +kernel
theorem dX4_sellFor_39 : decode cX4_sellFor 39 = .ok (.getfield 11, 3) := by decide +kernel
theorem dX4_sellFor_42 : decode cX4_sellFor 42 = .ok (.bipush 13, 2) := by decide +kernel
theorem dX4_sellFor_44 : decode cX4_sellFor 44 = .ok (.iload_n 1, 1) := by decide +kernel
theorem dX4_sellFor_45 : decode cX4_sellFor 45 = .ok (.iadd, 1) := by decide +kernel
theorem dX4_sellFor_46 : decode cX4_sellFor 46 = .ok (.iaload, 1) := by decide +kernel
theorem dX4_sellFor_47 : decode cX4_sellFor 47 = .ok (.aload_n 0, 1) := by decide +kernel
theorem dX4_sellFor_48 : decode cX4_sellFor 48 = .ok (.getfield 11, 3) := by decide +kernel
theorem dX4_sellFor_51 : decode cX4_sellFor 51 = .ok (.bipush 18, 2) := by decide +kernel
theorem dX4_sellFor_53 : decode cX4_sellFor 53 = .ok (.iload_n 1, 1) := by decide +kernel
theorem dX4_sellFor_54 : decode cX4_sellFor 54 = .ok (.iadd, 1) := by decide +kernel
theorem dX4_sellFor_55 : decode cX4_sellFor 55 = .ok (.iaload, 1) := by decide +kernel
theorem dX4_sellFor_56 : decode cX4_sellFor 56 = .ok (.aload_n 0, 1) := by decide +kernel
theorem dX4_sellFor_57 : decode cX4_sellFor 57 = .ok (.getfield 11, 3) := by decide +kernel
theorem dX4_sellFor_60 : decode cX4_sellFor 60 = .ok (.bipush 23, 2) := by decide +kernel
theorem dX4_sellFor_62 : decode cX4_sellFor 62 = .ok (.iload_n 1, 1) := by decide +kernel
theorem dX4_sellFor_63 : decode cX4_sellFor 63 = .ok (.iadd, 1) := by decide +kernel
theorem dX4_sellFor_64 : decode cX4_sellFor 64 = .ok (.iaload, 1) := by decide +kernel
theorem dX4_sellFor_65 : decode cX4_sellFor 65 = .ok (.invokevirtual 112, 3) := by decide +kernel
theorem dX4_sellFor_68 : decode cX4_sellFor 68 = .ok (.aload_n 0, 1) := by decide +kernel
theorem dX4_sellFor_69 : decode cX4_sellFor 69 = .ok (.iload_n 1, 1) := by decide +kernel
theorem dX4_sellFor_70 : decode cX4_sellFor 70 = .ok (.iconst 0, 1) := by decide +kernel
theorem dX4_sellFor_71 : decode cX4_sellFor 71 = .ok (.iconst 0, 1) := by decide +kernel
theorem dX4_sellFor_72 : decode cX4_sellFor 72 = .ok (.iconst 0, 1) := by decide +kernel
theorem dX4_sellFor_73 : decode cX4_sellFor 73 = .ok (.invokevirtual 112, 3) := by decide +kernel
theorem dX4_sellFor_76 : decode cX4_sellFor 76 = .ok (.iconst 1, 1) := by decide +kernel
theorem dX4_sellFor_77 : decode cX4_sellFor 77 = .ok (.ireturn, 1) := by decide +kernel
theorem dX4_canKeep_0 : decode cX4_canKeep 0 = .ok (.aload_n 0, 1) := by decide +kernel
theorem dX4_canKeep_1 : decode cX4_canKeep 1 = .ok (.iload_n 1, 1) := by decide +kernel
theorem dX4_canKeep_2 : decode cX4_canKeep 2 = .ok (.invokevirtual 47, 3) := by decide +kernel
theorem dX4_canKeep_5 : decode cX4_canKeep 5 = .ok (.ifCond .eq 53, 3) := by decide +kernel
theorem dX4_canKeep_8 : decode cX4_canKeep 8 = .ok (.aload_n 0, 1) := by decide +kernel
theorem dX4_canKeep_9 : decode cX4_canKeep 9 = .ok (.getfield 11, 3) := by decide +kernel
theorem dX4_canKeep_12 : decode cX4_canKeep 12 = .ok (.bipush 23, 2) := by decide +kernel
theorem dX4_canKeep_14 : decode cX4_canKeep 14 = .ok (.iload_n 1, 1) := by decide +kernel
theorem dX4_canKeep_15 : decode cX4_canKeep 15 = .ok (.iadd, 1) := by decide +kernel
theorem dX4_canKeep_16 : decode cX4_canKeep 16 = .ok (.iaload, 1) := by decide +kernel
theorem dX4_canKeep_17 : decode cX4_canKeep 17 = .ok (.ifCond .le 41, 3) := by decide +kernel
theorem dX4_canKeep_20 : decode cX4_canKeep 20 = .ok (.aload_n 0, 1) := by decide +kernel
theorem dX4_canKeep_21 : decode cX4_canKeep 21 = .ok (.getfield 11, 3) := by decide +kernel
theorem dX4_canKeep_24 : decode cX4_canKeep 24 = .ok (.bipush 8, 2) := by decide +kernel
theorem dX4_canKeep_26 : decode cX4_canKeep 26 = .ok (.iload_n 1, 1) := by decide +kernel
theorem dX4_canKeep_27 : decode cX4_canKeep 27 = .ok (.iadd, 1) := by decide +kernel
theorem dX4_canKeep_28 : decode cX4_canKeep 28 = .ok (.iaload, 1) := by decide +kernel
theorem dX4_canKeep_29 : decode cX4_canKeep 29 = .ok (.aload_n 0, 1) := by decide +kernel
theorem dX4_canKeep_30 : decode cX4_canKeep 30 = .ok (.getfield 11, 3) := by decide +kernel
theorem dX4_canKeep_33 : decode cX4_canKeep 33 = .ok (.bipush 18, 2) := by decide +kernel
theorem dX4_canKeep_35 : decode cX4_canKeep 35 = .ok (.iload_n 1, 1) := by decide +kernel
theorem dX4_canKeep_36 : decode cX4_canKeep 36 = .ok (.iadd, 1) := by decide +kernel
theorem dX4_canKeep_37 : decode cX4_canKeep 37 = .ok (.iaload, 1) := by decide +kernel
theorem dX4_canKeep_38 : decode cX4_canKeep 38 = .ok (.isub, 1) := by decide +kernel
theorem dX4_canKeep_39 : decode cX4_canKeep 39 = .ok (.invokestatic 54, 3) := by decide +kernel
theorem dX4_canKeep_42 : decode cX4_canKeep 42 = .ok (.aload_n 0, 1) := by decide +kernel
theorem dX4_canKeep_43 : decode cX4_canKeep 43 = .ok (.getfield 11, 3) := by decide +kernel
theorem dX4_canKeep_46 : decode cX4_canKeep 46 = .ok (.bipush 13, 2) := by decide +kernel
theorem dX4_canKeep_48 : decode cX4_canKeep 48 = .ok (.iload_n 1, 1) := by decide +kernel
theorem dX4_canKeep_49 : decode cX4_canKeep 49 = .ok (.iadd, 1) := by decide +kernel
theorem dX4_canKeep_50 : decode cX4_canKeep 50 = .ok (.iaload, 1) := by decide +kernel
theorem dX4_canKeep_51 : decode cX4_canKeep 51 = .ok (.if_icmp .gt 7, 3) := by decide +kernel
theorem dX4_canKeep_54 : decode cX4_canKeep 54 = .ok (.iconst 1, 1) := by decide +kernel
theorem dX4_canKeep_55 : decode cX4_canKeep 55 = .ok (.goto 4, 3) := by decide +kernel
theorem dX4_canKeep_58 : decode cX4_canKeep 58 = .ok (.iconst 0, 1) := by decide +kernel
theorem dX4_canKeep_59 : decode cX4_canKeep 59 = .ok (.ireturn, 1) := by decide +kernel
theorem dX4_keepUp_0 : decode cX4_keepUp 0 = .ok (.aload_n 0, 1) := by decide +kernel
theorem dX4_keepUp_1 : decode cX4_keepUp 1 = .ok (.iload_n 1, 1) := by decide +kernel
theorem dX4_keepUp_2 : decode cX4_keepUp 2 = .ok (.invokevirtual 130, 3) := by decide +kernel
theorem dX4_keepUp_5 : decode cX4_keepUp 5 = .ok (.ifCond .ne 5, 3) := by decide +kernel
theorem dX4_keepUp_8 : decode cX4_keepUp 8 = .ok (.iconst 0, 1) := by decide +kernel
theorem dX4_keepUp_9 : decode cX4_keepUp 9 = .ok (.ireturn, 1) := by decide +kernel
theorem dX4_keepUp_10 : decode cX4_keepUp 10 = .ok (.aload_n 0, 1) := by decide +kernel
theorem dX4_keepUp_11 : decode cX4_keepUp 11 = .ok (.getfield 11, 3) := by decide +kernel
theorem dX4_keepUp_14 : decode cX4_keepUp 14 = .ok (.bipush 23, 2) := by decide +kernel
theorem dX4_keepUp_16 : decode cX4_keepUp 16 = .ok (.iload_n 1, 1) := by decide +kernel
theorem dX4_keepUp_17 : decode cX4_keepUp 17 = .ok (.iadd, 1) := by decide +kernel
theorem dX4_keepUp_18 : decode cX4_keepUp 18 = .ok (.iconst 0, 1) := by decide +kernel
theorem dX4_keepUp_19 : decode cX4_keepUp 19 = .ok (.iastore, 1) := by decide +kernel
theorem dX4_keepUp_20 : decode cX4_keepUp 20 = .ok (.iconst 1, 1) := by decide +kernel
theorem dX4_keepUp_21 : decode cX4_keepUp 21 = .ok (.ireturn, 1) := by decide +kernel
theorem dX4_breathe_0 : decode cX4_breathe 0 = .ok (.aload_n 0, 1) := by decide +kernel
theorem dX4_breathe_1 : decode cX4_breathe 1 = .ok (.getfield 11, 3) := by decide +kernel
theorem dX4_breathe_4 : decode cX4_breathe 4 = .ok (.iconst 0, 1) := by decide +kernel
theorem dX4_breathe_5 : decode cX4_breathe 5 = .ok (.iaload, 1) := by decide +kernel
theorem dX4_breathe_6 : decode cX4_breathe 6 = .ok (.iload_n 1, 1) := by decide +kernel
theorem dX4_breathe_7 : decode cX4_breathe 7 = .ok (.if_icmp .lt 5, 3) := by decide +kernel
theorem dX4_breathe_10 : decode cX4_breathe 10 = .ok (.iconst 0, 1) := by decide +kernel
theorem dX4_breathe_11 : decode cX4_breathe 11 = .ok (.ireturn, 1) := by decide +kernel
theorem dX4_breathe_12 : decode cX4_breathe 12 = .ok (.iconst 0, 1) := by decide +kernel
theorem dX4_breathe_13 : decode cX4_breathe 13 = .ok (.istore_n 2, 1) := by decide +kernel
theorem dX4_breathe_14 : decode cX4_breathe 14 = .ok (.iload_n 2, 1) := by decide +kernel
theorem dX4_breathe_15 : decode cX4_breathe 15 = .ok (.iconst 5, 1) := by decide +kernel
theorem dX4_breathe_16 : decode cX4_breathe 16 = .ok (.if_icmp .ge 34, 3) := by decide +kernel
theorem dX4_breathe_19 : decode cX4_breathe 19 = .ok (.aload_n 0, 1) := by decide +kernel
theorem dX4_breathe_20 : decode cX4_breathe 20 = .ok (.getfield 11, 3) := by decide +kernel
theorem dX4_breathe_23 : decode cX4_breathe 23 = .ok (.bipush 23, 2) := by decide +kernel
theorem dX4_breathe_25 : decode cX4_breathe 25 = .ok (.iload_n 2, 1) := by decide +kernel
theorem dX4_breathe_26 : decode cX4_breathe 26 = .ok (.iadd, 1) := by decide +kernel
theorem dX4_breathe_27 : decode cX4_breathe 27 = .ok (.dup2, 1) := by decide +kernel
theorem dX4_breathe_28 : decode cX4_breathe 28 = .ok (.iaload, 1) := by decide +kernel
theorem dX4_breathe_29 : decode cX4_breathe 29 = .ok (.aload_n 0, 1) := by decide +kernel
theorem dX4_breathe_30 : decode cX4_breathe 30 = .ok (.iload_n 2, 1) := by decide +kernel
theorem dX4_breathe_31 : decode cX4_breathe 31 = .ok (.invokevirtual 47, 3) := by decide +kernel
theorem dX4_breathe_34 : decode cX4_breathe 34 = .ok (.ifCond .eq 7, 3) := by decide +kernel
theorem dX4_breathe_37 : decode cX4_breathe 37 = .ok (.iconst 1, 1) := by decide +kernel
theorem dX4_breathe_38 : decode cX4_breathe 38 = .ok (.goto 4, 3) := by decide +kernel
theorem dX4_breathe_41 : decode cX4_breathe 41 = .ok (.iconst 0, 1) := by decide +kernel
theorem dX4_breathe_42 : decode cX4_breathe 42 = .ok (.iadd, 1) := by decide +kernel
theorem dX4_breathe_43 : decode cX4_breathe 43 = .ok (.iastore, 1) := by decide +kernel
theorem dX4_breathe_44 : decode cX4_breathe 44 = .ok (.iinc 2 1, 3) := by decide +kernel
theorem dX4_breathe_47 : decode cX4_breathe 47 = .ok (.goto (-33), 3) := by decide +kernel
theorem dX4_breathe_50 : decode cX4_breathe 50 = .ok (.iconst 0, 1) := by decide +kernel
theorem dX4_breathe_51 : decode cX4_breathe 51 = .ok (.istore_n 2, 1) := by decide +kernel
theorem dX4_breathe_52 : decode cX4_breathe 52 = .ok (.iconst 0, 1) := by decide +kernel
theorem dX4_breathe_53 : decode cX4_breathe 53 = .ok (.istore_n 3, 1) := by decide +kernel
theorem dX4_breathe_54 : decode cX4_breathe 54 = .ok (.iload_n 3, 1) := by decide +kernel
theorem dX4_breathe_55 : decode cX4_breathe 55 = .ok (.iconst 5, 1) := by decide +kernel
theorem dX4_breathe_56 : decode cX4_breathe 56 = .ok (.if_icmp .ge 40, 3) := by decide +kernel
theorem dX4_breathe_59 : decode cX4_breathe 59 = .ok (.aload_n 0, 1) := by decide +kernel
theorem dX4_breathe_60 : decode cX4_breathe 60 = .ok (.iload_n 3, 1) := by decide +kernel
theorem dX4_breathe_61 : decode cX4_breathe 61 = .ok (.invokevirtual 47, 3) := by decide +kernel
theorem dX4_breathe_64 : decode cX4_breathe 64 = .ok (.ifCond .eq 26, 3) := by decide +kernel
theorem dX4_breathe_67 : decode cX4_breathe 67 = .ok (.aload_n 0, 1) := by decide +kernel
theorem dX4_breathe_68 : decode cX4_breathe 68 = .ok (.getfield 11, 3) := by decide +kernel
theorem dX4_breathe_71 : decode cX4_breathe 71 = .ok (.bipush 23, 2) := by decide +kernel
theorem dX4_breathe_73 : decode cX4_breathe 73 = .ok (.iload_n 3, 1) := by decide +kernel
theorem dX4_breathe_74 : decode cX4_breathe 74 = .ok (.iadd, 1) := by decide +kernel
theorem dX4_breathe_75 : decode cX4_breathe 75 = .ok (.iaload, 1) := by decide +kernel
theorem dX4_breathe_76 : decode cX4_breathe 76 = .ok (.aload_n 0, 1) := by decide +kernel
theorem dX4_breathe_77 : decode cX4_breathe 77 = .ok (.iload_n 3, 1) := by decide +kernel
theorem dX4_breathe_78 : decode cX4_breathe 78 = .ok (.invokevirtual 133, 3) := by decide +kernel
theorem dX4_breathe_81 : decode cX4_breathe 81 = .ok (.if_icmp .lt 9, 3) := by decide +kernel
theorem dX4_breathe_84 : decode cX4_breathe 84 = .ok (.iload_n 2, 1) := by decide +kernel
theorem dX4_breathe_85 : decode cX4_breathe 85 = .ok (.iconst 1, 1) := by decide +kernel
theorem dX4_breathe_86 : decode cX4_breathe 86 = .ok (.iload_n 3, 1) := by decide +kernel
theorem dX4_breathe_87 : decode cX4_breathe 87 = .ok (.ishl, 1) := by decide +kernel
theorem dX4_breathe_88 : decode cX4_breathe 88 = .ok (.ior, 1) := by decide +kernel
theorem dX4_breathe_89 : decode cX4_breathe 89 = .ok (.istore_n 2, 1) := by decide +kernel
theorem dX4_breathe_90 : decode cX4_breathe 90 = .ok (.iinc 3 1, 3) := by decide +kernel
theorem dX4_breathe_93 : decode cX4_breathe 93 = .ok (.goto (-39), 3) := by decide +kernel
theorem dX4_breathe_96 : decode cX4_breathe 96 = .ok (.aload_n 0, 1) := by decide +kernel
theorem dX4_breathe_97 : decode cX4_breathe 97 = .ok (.iload_n 2, 1) := by decide +kernel
theorem dX4_breathe_98 : decode cX4_breathe 98 = .ok (.invokevirtual 122, 3) := by decide +kernel
theorem dX4_breathe_101 : decode cX4_breathe 101 = .ok (.aload_n 0, 1) := by decide +kernel
theorem dX4_breathe_102 : decode cX4_breathe 102 = .ok (.getfield 11, 3) := by decide +kernel
theorem dX4_breathe_105 : decode cX4_breathe 105 = .ok (.iconst 0, 1) := by decide +kernel
theorem dX4_breathe_106 : decode cX4_breathe 106 = .ok (.dup2, 1) := by decide +kernel
theorem dX4_breathe_107 : decode cX4_breathe 107 = .ok (.iaload, 1) := by decide +kernel
theorem dX4_breathe_108 : decode cX4_breathe 108 = .ok (.iconst 1, 1) := by decide +kernel
theorem dX4_breathe_109 : decode cX4_breathe 109 = .ok (.iadd, 1) := by decide +kernel
theorem dX4_breathe_110 : decode cX4_breathe 110 = .ok (.iastore, 1) := by decide +kernel
theorem dX4_breathe_111 : decode cX4_breathe 111 = .ok (.iconst 1, 1) := by decide +kernel
theorem dX4_breathe_112 : decode cX4_breathe 112 = .ok (.ireturn, 1) := by decide +kernel
theorem dX4_burstAll_0 : decode cX4_burstAll 0 = .ok (.iconst 0, 1) := by decide +kernel
theorem dX4_burstAll_1 : decode cX4_burstAll 1 = .ok (.istore_n 2, 1) := by decide +kernel
theorem dX4_burstAll_2 : decode cX4_burstAll 2 = .ok (.iload_n 2, 1) := by decide +kernel
theorem dX4_burstAll_3 : decode cX4_burstAll 3 = .ok (.iconst 5, 1) := by decide +kernel
theorem dX4_burstAll_4 : decode cX4_burstAll 4 = .ok (.if_icmp .ge 36, 3) := by decide +kernel
theorem dX4_burstAll_7 : decode cX4_burstAll 7 = .ok (.iload_n 1, 1) := by decide +kernel
theorem dX4_burstAll_8 : decode cX4_burstAll 8 = .ok (.iload_n 2, 1) := by decide +kernel
theorem dX4_burstAll_9 : decode cX4_burstAll 9 = .ok (.ishr, 1) := by decide +kernel
theorem dX4_burstAll_10 : decode cX4_burstAll 10 = .ok (.iconst 1, 1) := by decide +kernel
theorem dX4_burstAll_11 : decode cX4_burstAll 11 = .ok (.iand, 1) := by decide +kernel
theorem dX4_burstAll_12 : decode cX4_burstAll 12 = .ok (.iconst 1, 1) := by decide +kernel
theorem dX4_burstAll_13 : decode cX4_burstAll 13 = .ok (.if_icmp .ne 21, 3) := by decide +kernel
theorem dX4_burstAll_16 : decode cX4_burstAll 16 = .ok (.aload_n 0, 1) := by decide +kernel
theorem dX4_burstAll_17 : decode cX4_burstAll 17 = .ok (.iload_n 2, 1) := by decide +kernel
theorem dX4_burstAll_18 : decode cX4_burstAll 18 = .ok (.iconst 0, 1) := by decide +kernel
theorem dX4_burstAll_19 : decode cX4_burstAll 19 = .ok (.iconst 0, 1) := by decide +kernel
theorem dX4_burstAll_20 : decode cX4_burstAll 20 = .ok (.iconst 0, 1) := by decide +kernel
theorem dX4_burstAll_21 : decode cX4_burstAll 21 = .ok (.invokevirtual 112, 3) := by decide +kernel
theorem dX4_burstAll_24 : decode cX4_burstAll 24 = .ok (.aload_n 0, 1) := by decide +kernel
theorem dX4_burstAll_25 : decode cX4_burstAll 25 = .ok (.getfield 11, 3) := by decide +kernel
theorem dX4_burstAll_28 : decode cX4_burstAll 28 = .ok (.iconst 2, 1) := by decide +kernel
theorem dX4_burstAll_29 : decode cX4_burstAll 29 = .ok (.dup2, 1) := by decide +kernel
theorem dX4_burstAll_30 : decode cX4_burstAll 30 = .ok (.iaload, 1) := by decide +kernel
theorem dX4_burstAll_31 : decode cX4_burstAll 31 = .ok (.iconst 1, 1) := by decide +kernel
theorem dX4_burstAll_32 : decode cX4_burstAll 32 = .ok (.iadd, 1) := by decide +kernel
theorem dX4_burstAll_33 : decode cX4_burstAll 33 = .ok (.iastore, 1) := by decide +kernel
theorem dX4_burstAll_34 : decode cX4_burstAll 34 = .ok (.iinc 2 1, 3) := by decide +kernel
theorem dX4_burstAll_37 : decode cX4_burstAll 37 = .ok (.goto (-35), 3) := by decide +kernel
theorem dX4_burstAll_40 : decode cX4_burstAll 40 = .ok (.return_, 1) := by decide +kernel
