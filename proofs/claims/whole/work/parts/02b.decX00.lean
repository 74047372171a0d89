theorem dX0_init_0 : decode cX0_init 0 = .ok (.aload_n 0, 1) := by decide +kernel
theorem dX0_init_1 : decode cX0_init 1 = .ok (.invokespecial 3, 3) := by decide +kernel
theorem dX0_init_4 : decode cX0_init 4 = .ok (.aload_n 0, 1) := by decide +kernel
theorem dX0_init_5 : decode cX0_init 5 = .ok (.bipush 8, 2) := by decide +kernel
theorem dX0_init_7 : decode cX0_init 7 = .ok (.newarray .int, 2) := by decide +kernel
theorem dX0_init_9 : decode cX0_init 9 = .ok (.putfield 9, 3) := by decide +kernel
theorem dX0_init_12 : decode cX0_init 12 = .ok (.aload_n 0, 1) := by decide +kernel
theorem dX0_init_13 : decode cX0_init 13 = .ok (.iconst 0, 1) := by decide +kernel
theorem dX0_init_14 : decode cX0_init 14 = .ok (.putfield 15, 3) := by decide +kernel
theorem dX0_init_17 : decode cX0_init 17 = .ok (.aload_n 0, 1) := by decide +kernel
theorem dX0_init_18 : decode cX0_init 18 = .ok (.bipush 8, 2) := by decide +kernel
theorem dX0_init_20 : decode cX0_init 20 = .ok (.newarray .int, 2) := by decide +kernel
theorem dX0_init_22 : decode cX0_init 22 = .ok (.putfield 19, 3) := by decide +kernel
theorem dX0_init_25 : decode cX0_init 25 = .ok (.aload_n 0, 1) := by decide +kernel
theorem dX0_init_26 : decode cX0_init 26 = .ok (.getfield 9, 3) := by decide +kernel
theorem dX0_init_29 : decode cX0_init 29 = .ok (.iconst (-1), 1) := by decide +kernel
theorem dX0_init_30 : decode cX0_init 30 = .ok (.invokestatic 22, 3) := by decide +kernel
theorem dX0_init_33 : decode cX0_init 33 = .ok (.return_, 1) := by decide +kernel
theorem dX0_forget_0 : decode cX0_forget 0 = .ok (.aload_n 0, 1) := by decide +kernel
theorem dX0_forget_1 : decode cX0_forget 1 = .ok (.getfield 9, 3) := by decide +kernel
theorem dX0_forget_4 : decode cX0_forget 4 = .ok (.iconst (-1), 1) := by decide +kernel
theorem dX0_forget_5 : decode cX0_forget 5 = .ok (.invokestatic 22, 3) := by decide +kernel
theorem dX0_forget_8 : decode cX0_forget 8 = .ok (.aload_n 0, 1) := by decide +kernel
theorem dX0_forget_9 : decode cX0_forget 9 = .ok (.iconst 0, 1) := by decide +kernel
theorem dX0_forget_10 : decode cX0_forget 10 = .ok (.putfield 15, 3) := by decide +kernel
theorem dX0_forget_13 : decode cX0_forget 13 = .ok (.return_, 1) := by decide +kernel
theorem dX0_read_0 : decode cX0_read 0 = .ok (.aload_n 0, 1) := by decide +kernel
theorem dX0_read_1 : decode cX0_read 1 = .ok (.getfield 19, 3) := by decide +kernel
theorem dX0_read_4 : decode cX0_read 4 = .ok (.iconst (-1), 1) := by decide +kernel
theorem dX0_read_5 : decode cX0_read 5 = .ok (.invokestatic 22, 3) := by decide +kernel
theorem dX0_read_8 : decode cX0_read 8 = .ok (.iconst 0, 1) := by decide +kernel
theorem dX0_read_9 : decode cX0_read 9 = .ok (.istore_n 3, 1) := by decide +kernel
theorem dX0_read_10 : decode cX0_read 10 = .ok (.iconst 0, 1) := by decide +kernel
theorem dX0_read_11 : decode cX0_read 11 = .ok (.istore 4, 2) := by decide +kernel
theorem dX0_read_13 : decode cX0_read 13 = .ok (.iload 4, 2) := by decide +kernel
theorem dX0_read_15 : decode cX0_read 15 = .ok (.bipush 8, 2) := by decide +kernel
theorem dX0_read_17 : decode cX0_read 17 = .ok (.if_icmp .gt 30, 3) := by decide +kernel
theorem dX0_read_20 : decode cX0_read 20 = .ok (.aload_n 1, 1) := by decide +kernel
theorem dX0_read_21 : decode cX0_read 21 = .ok (.invokevirtual 28, 3) := by decide +kernel
theorem dX0_read_24 : decode cX0_read 24 = .ok (.ifCond .eq 23, 3) := by decide +kernel
theorem dX0_read_27 : decode cX0_read 27 = .ok (.aload_n 0, 1) := by decide +kernel
theorem dX0_read_28 : decode cX0_read 28 = .ok (.aload_n 1, 1) := by decide +kernel
theorem dX0_read_29 : decode cX0_read 29 = .ok (.iload_n 2, 1) := by decide +kernel
theorem dX0_read_30 : decode cX0_read 30 = .ok (.invokevirtual 34, 3) := by decide +kernel
theorem dX0_read_33 : decode cX0_read 33 = .ok (.ifCond .ne 5, 3) := by decide +kernel
theorem dX0_read_36 : decode cX0_read 36 = .ok (.iconst 0, 1) := by decide +kernel
theorem dX0_read_37 : decode cX0_read 37 = .ok (.ireturn, 1) := by decide +kernel
theorem dX0_read_38 : decode cX0_read 38 = .ok (.iinc 3 1, 3) := by decide +kernel
theorem dX0_read_41 : decode cX0_read 41 = .ok (.iinc 4 1, 3) := by decide +kernel
theorem dX0_read_44 : decode cX0_read 44 = .ok (.goto (-31), 3) := by decide +kernel
theorem dX0_read_47 : decode cX0_read 47 = .ok (.aload_n 0, 1) := by decide +kernel
theorem dX0_read_48 : decode cX0_read 48 = .ok (.iload_n 3, 1) := by decide +kernel
theorem dX0_read_49 : decode cX0_read 49 = .ok (.putfield 15, 3) := by decide +kernel
theorem dX0_read_52 : decode cX0_read 52 = .ok (.aload_n 0, 1) := by decide +kernel
theorem dX0_read_53 : decode cX0_read 53 = .ok (.getfield 19, 3) := by decide +kernel
theorem dX0_read_56 : decode cX0_read 56 = .ok (.iconst 0, 1) := by decide +kernel
theorem dX0_read_57 : decode cX0_read 57 = .ok (.aload_n 0, 1) := by decide +kernel
theorem dX0_read_58 : decode cX0_read 58 = .ok (.getfield 9, 3) := by decide +kernel
theorem dX0_read_61 : decode cX0_read 61 = .ok (.iconst 0, 1) := by decide +kernel
theorem dX0_read_62 : decode cX0_read 62 = .ok (.bipush 8, 2) := by decide +kernel
theorem dX0_read_64 : decode cX0_read 64 = .ok (.invokestatic 38, 3) := by decide +kernel
theorem dX0_read_67 : decode cX0_read 67 = .ok (.iconst 1, 1) := by decide +kernel
theorem dX0_read_68 : decode cX0_read 68 = .ok (.ireturn, 1) := by decide +kernel
theorem dX0_readLine_0 : decode cX0_readLine 0 = .ok (.aload_n 1, 1) := by decide +kernel
theorem dX0_readLine_1 : decode cX0_readLine 1 = .ok (.iconst 0, 1) := by decide +kernel
theorem dX0_readLine_2 : decode cX0_readLine 2 = .ok (.iload_n 2, 1) := by decide +kernel
theorem dX0_readLine_3 : decode cX0_readLine 3 = .ok (.iconst 1, 1) := by decide +kernel
theorem dX0_readLine_4 : decode cX0_readLine 4 = .ok (.isub, 1) := by decide +kernel
theorem dX0_readLine_5 : decode cX0_readLine 5 = .ok (.invokevirtual 44, 3) := by decide +kernel
theorem dX0_readLine_8 : decode cX0_readLine 8 = .ok (.ifCond .ne 5, 3) := by decide +kernel
theorem dX0_readLine_11 : decode cX0_readLine 11 = .ok (.iconst 0, 1) := by decide +kernel
theorem dX0_readLine_12 : decode cX0_readLine 12 = .ok (.ireturn, 1) := by decide +kernel
theorem dX0_readLine_13 : decode cX0_readLine 13 = .ok (.aload_n 1, 1) := by decide +kernel
theorem dX0_readLine_14 : decode cX0_readLine 14 = .ok (.getfield 48, 3) := by decide +kernel
theorem dX0_readLine_17 : decode cX0_readLine 17 = .ok (.istore_n 3, 1) := by decide +kernel
theorem dX0_readLine_18 : decode cX0_readLine 18 = .ok (.iload_n 3, 1) := by decide +kernel
theorem dX0_readLine_19 : decode cX0_readLine 19 = .ok (.bipush 8, 2) := by decide +kernel
theorem dX0_readLine_21 : decode cX0_readLine 21 = .ok (.if_icmp .ge 13, 3) := by decide +kernel
theorem dX0_readLine_24 : decode cX0_readLine 24 = .ok (.aload_n 0, 1) := by decide +kernel
theorem dX0_readLine_25 : decode cX0_readLine 25 = .ok (.getfield 19, 3) := by decide +kernel
theorem dX0_readLine_28 : decode cX0_readLine 28 = .ok (.iload_n 3, 1) := by decide +kernel
theorem dX0_readLine_29 : decode cX0_readLine 29 = .ok (.iaload, 1) := by decide +kernel
theorem dX0_readLine_30 : decode cX0_readLine 30 = .ok (.iconst (-1), 1) := by decide +kernel
theorem dX0_readLine_31 : decode cX0_readLine 31 = .ok (.if_icmp .eq 13, 3) := by decide +kernel
theorem dX0_readLine_34 : decode cX0_readLine 34 = .ok (.aload_n 1, 1) := by decide +kernel
theorem dX0_readLine_35 : decode cX0_readLine 35 = .ok (.iconst 2, 1) := by decide +kernel
theorem dX0_readLine_36 : decode cX0_readLine 36 = .ok (.aload_n 1, 1) := by decide +kernel
theorem dX0_readLine_37 : decode cX0_readLine 37 = .ok (.getfield 51, 3) := by decide +kernel
theorem dX0_readLine_40 : decode cX0_readLine 40 = .ok (.invokevirtual 54, 3) := by decide +kernel
theorem dX0_readLine_43 : decode cX0_readLine 43 = .ok (.ireturn, 1) := by decide +kernel
theorem dX0_readLine_44 : decode cX0_readLine 44 = .ok (.aload_n 1, 1) := by decide +kernel
theorem dX0_readLine_45 : decode cX0_readLine 45 = .ok (.iconst 0, 1) := by decide +kernel
theorem dX0_readLine_46 : decode cX0_readLine 46 = .ok (.iconst 5, 1) := by decide +kernel
theorem dX0_readLine_47 : decode cX0_readLine 47 = .ok (.invokevirtual 44, 3) := by decide +kernel
theorem dX0_readLine_50 : decode cX0_readLine 50 = .ok (.ifCond .ne 5, 3) := by decide +kernel
theorem dX0_readLine_53 : decode cX0_readLine 53 = .ok (.iconst 0, 1) := by decide +kernel
theorem dX0_readLine_54 : decode cX0_readLine 54 = .ok (.ireturn, 1) := by decide +kernel
theorem dX0_readLine_55 : decode cX0_readLine 55 = .ok (.aload_n 0, 1) := by decide +kernel
theorem dX0_readLine_56 : decode cX0_readLine 56 = .ok (.getfield 19, 3) := by decide +kernel
theorem dX0_readLine_59 : decode cX0_readLine 59 = .ok (.iload_n 3, 1) := by decide +kernel
theorem dX0_readLine_60 : decode cX0_readLine 60 = .ok (.aload_n 1, 1) := by decide +kernel
theorem dX0_readLine_61 : decode cX0_readLine 61 = .ok (.getfield 48, 3) := by decide +kernel
theorem dX0_readLine_64 : decode cX0_readLine 64 = .ok (.iastore, 1) := by decide +kernel
theorem dX0_readLine_65 : decode cX0_readLine 65 = .ok (.aload_n 1, 1) := by decide +kernel
theorem dX0_readLine_66 : decode cX0_readLine 66 = .ok (.bipush 59, 2) := by decide +kernel
theorem dX0_readLine_68 : decode cX0_readLine 68 = .ok (.invokevirtual 57, 3) := by decide +kernel
theorem dX0_readLine_71 : decode cX0_readLine 71 = .ok (.ireturn, 1) := by decide +kernel
theorem dX0_isRight_0 : decode cX0_isRight 0 = .ok (.iconst 0, 1) := by decide +kernel
theorem dX0_isRight_1 : decode cX0_isRight 1 = .ok (.istore_n 3, 1) := by decide +kernel
theorem dX0_isRight_2 : decode cX0_isRight 2 = .ok (.iload_n 3, 1) := by decide +kernel
theorem dX0_isRight_3 : decode cX0_isRight 3 = .ok (.iload_n 2, 1) := by decide +kernel
theorem dX0_isRight_4 : decode cX0_isRight 4 = .ok (.if_icmp .ge 35, 3) := by decide +kernel
theorem dX0_isRight_7 : decode cX0_isRight 7 = .ok (.aload_n 0, 1) := by decide +kernel
theorem dX0_isRight_8 : decode cX0_isRight 8 = .ok (.getfield 9, 3) := by decide +kernel
theorem dX0_isRight_11 : decode cX0_isRight 11 = .ok (.iload_n 3, 1) := by decide +kernel
theorem dX0_isRight_12 : decode cX0_isRight 12 = .ok (.iaload, 1) := by decide +kernel
theorem dX0_isRight_13 : decode cX0_isRight 13 = .ok (.iconst (-1), 1) := by decide +kernel
theorem dX0_isRight_14 : decode cX0_isRight 14 = .ok (.if_icmp .eq 19, 3) := by decide +kernel
theorem dX0_isRight_17 : decode cX0_isRight 17 = .ok (.aload_n 0, 1) := by decide +kernel
theorem dX0_isRight_18 : decode cX0_isRight 18 = .ok (.getfield 9, 3) := by decide +kernel
theorem dX0_isRight_21 : decode cX0_isRight 21 = .ok (.iload_n 3, 1) := by decide +kernel
theorem dX0_isRight_22 : decode cX0_isRight 22 = .ok (.iaload, 1) := by decide +kernel
theorem dX0_isRight_23 : decode cX0_isRight 23 = .ok (.aload_n 1, 1) := by decide +kernel
theorem dX0_isRight_24 : decode cX0_isRight 24 = .ok (.iload_n 3, 1) := by decide +kernel
theorem dX0_isRight_25 : decode cX0_isRight 25 = .ok (.invokevirtual 61, 3) := by decide +kernel
theorem dX0_isRight_28 : decode cX0_isRight 28 = .ok (.if_icmp .eq 5, 3) := by decide +kernel
theorem dX0_isRight_31 : decode cX0_isRight 31 = .ok (.iconst 0, 1) := by decide +kernel
theorem dX0_isRight_32 : decode cX0_isRight 32 = .ok (.ireturn, 1) := by decide +kernel
theorem dX0_isRight_33 : decode cX0_isRight 33 = .ok (.iinc 3 1, 3) := by decide +kernel
theorem dX0_isRight_36 : decode cX0_isRight 36 = .ok (.goto (-34), 3) := by decide +kernel
theorem dX0_isRight_39 : decode cX0_isRight 39 = .ok (.iconst 1, 1) := by decide +kernel
theorem dX0_isRight_40 : decode cX0_isRight 40 = .ok (.ireturn, 1) := by decide +kernel
