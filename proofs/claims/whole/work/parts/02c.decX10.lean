theorem dX1_init_0 : decode cX1_init 0 = .ok (.aload_n 0, 1) := by decide +kernel
theorem dX1_init_1 : decode cX1_init 1 = .ok (.invokespecial 3, 3) := by decide +kernel
theorem dX1_init_4 : decode cX1_init 4 = .ok (.aload_n 0, 1) := by decide +kernel
theorem dX1_init_5 : decode cX1_init 5 = .ok (.iconst 0, 1) := by decide +kernel
theorem dX1_init_6 : decode cX1_init 6 = .ok (.putfield 9, 3) := by decide +kernel
theorem dX1_init_9 : decode cX1_init 9 = .ok (.aload_n 0, 1) := by decide +kernel
theorem dX1_init_10 : decode cX1_init 10 = .ok (.iconst 0, 1) := by decide +kernel
theorem dX1_init_11 : decode cX1_init 11 = .ok (.putfield 15, 3) := by decide +kernel
theorem dX1_init_14 : decode cX1_init 14 = .ok (.aload_n 0, 1) := by decide +kernel
theorem dX1_init_15 : decode cX1_init 15 = .ok (.bipush 8, 2) := by decide +kernel
theorem dX1_init_17 : decode cX1_init 17 = .ok (.putfield 18, 3) := by decide +kernel
theorem dX1_init_20 : decode cX1_init 20 = .ok (.aload_n 0, 1) := by decide +kernel
theorem dX1_init_21 : decode cX1_init 21 = .ok (.bipush 8, 2) := by decide +kernel
theorem dX1_init_23 : decode cX1_init 23 = .ok (.newarray .int, 2) := by decide +kernel
theorem dX1_init_25 : decode cX1_init 25 = .ok (.putfield 21, 3) := by decide +kernel
theorem dX1_init_28 : decode cX1_init 28 = .ok (.aload_n 0, 1) := by decide +kernel
theorem dX1_init_29 : decode cX1_init 29 = .ok (.bipush 8, 2) := by decide +kernel
theorem dX1_init_31 : decode cX1_init 31 = .ok (.newarray .int, 2) := by decide +kernel
theorem dX1_init_33 : decode cX1_init 33 = .ok (.putfield 25, 3) := by decide +kernel
theorem dX1_init_36 : decode cX1_init 36 = .ok (.aload_n 0, 1) := by decide +kernel
theorem dX1_init_37 : decode cX1_init 37 = .ok (.iconst 5, 1) := by decide +kernel
theorem dX1_init_38 : decode cX1_init 38 = .ok (.newarray .int, 2) := by decide +kernel
theorem dX1_init_40 : decode cX1_init 40 = .ok (.putfield 28, 3) := by decide +kernel
theorem dX1_init_43 : decode cX1_init 43 = .ok (.aload_n 0, 1) := by decide +kernel
theorem dX1_init_44 : decode cX1_init 44 = .ok (.iconst 5, 1) := by decide +kernel
theorem dX1_init_45 : decode cX1_init 45 = .ok (.newarray .int, 2) := by decide +kernel
theorem dX1_init_47 : decode cX1_init 47 = .ok (.putfield 31, 3) := by decide +kernel
theorem dX1_init_50 : decode cX1_init 50 = .ok (.return_, 1) := by decide +kernel
theorem dX1_copyFrom_0 : decode cX1_copyFrom 0 = .ok (.aload_n 0, 1) := by decide +kernel
theorem dX1_copyFrom_1 : decode cX1_copyFrom 1 = .ok (.aload_n 1, 1) := by decide +kernel
theorem dX1_copyFrom_2 : decode cX1_copyFrom 2 = .ok (.getfield 9, 3) := by decide +kernel
theorem dX1_copyFrom_5 : decode cX1_copyFrom 5 = .ok (.putfield 9, 3) := by decide +kernel
theorem dX1_copyFrom_8 : decode cX1_copyFrom 8 = .ok (.aload_n 0, 1) := by decide +kernel
theorem dX1_copyFrom_9 : decode cX1_copyFrom 9 = .ok (.aload_n 1, 1) := by decide +kernel
theorem dX1_copyFrom_10 : decode cX1_copyFrom 10 = .ok (.getfield 15, 3) := by decide +kernel
theorem dX1_copyFrom_13 : decode cX1_copyFrom 13 = .ok (.putfield 15, 3) := by decide +kernel
theorem dX1_copyFrom_16 : decode cX1_copyFrom 16 = .ok (.aload_n 0, 1) := by decide +kernel
theorem dX1_copyFrom_17 : decode cX1_copyFrom 17 = .ok (.aload_n 1, 1) := by decide +kernel
theorem dX1_copyFrom_18 : decode cX1_copyFrom 18 = .ok (.getfield 18, 3) := by decide +kernel
theorem dX1_copyFrom_21 : decode cX1_copyFrom 21 = .ok (.putfield 18, 3) := by decide +kernel
theorem dX1_copyFrom_24 : decode cX1_copyFrom 24 = .ok (.aload_n 1, 1) := by decide +kernel
theorem dX1_copyFrom_25 : decode cX1_copyFrom 25 = .ok (.getfield 21, 3) := by decide +kernel
theorem dX1_copyFrom_28 : decode cX1_copyFrom 28 = .ok (.iconst 0, 1) := by decide +kernel
theorem dX1_copyFrom_29 : decode cX1_copyFrom 29 = .ok (.aload_n 0, 1) := by decide +kernel
theorem dX1_copyFrom_30 : decode cX1_copyFrom 30 = .ok (.getfield 21, 3) := by decide +kernel
theorem dX1_copyFrom_33 : decode cX1_copyFrom 33 = .ok (.iconst 0, 1) := by decide +kernel
theorem dX1_copyFrom_34 : decode cX1_copyFrom 34 = .ok (.bipush 8, 2) := by decide +kernel
theorem dX1_copyFrom_36 : decode cX1_copyFrom 36 = .ok (.invokestatic 34, 3) := by decide +kernel
theorem dX1_copyFrom_39 : decode cX1_copyFrom 39 = .ok (.aload_n 1, 1) := by decide +kernel
theorem dX1_copyFrom_40 : decode cX1_copyFrom 40 = .ok (.getfield 25, 3) := by decide +kernel
theorem dX1_copyFrom_43 : decode cX1_copyFrom 43 = .ok (.iconst 0, 1) := by decide +kernel
theorem dX1_copyFrom_44 : decode cX1_copyFrom 44 = .ok (.aload_n 0, 1) := by decide +kernel
theorem dX1_copyFrom_45 : decode cX1_copyFrom 45 = .ok (.getfield 25, 3) := by decide +kernel
theorem dX1_copyFrom_48 : decode cX1_copyFrom 48 = .ok (.iconst 0, 1) := by decide +kernel
theorem dX1_copyFrom_49 : decode cX1_copyFrom 49 = .ok (.bipush 8, 2) := by decide +kernel
theorem dX1_copyFrom_51 : decode cX1_copyFrom 51 = .ok (.invokestatic 34, 3) := by decide +kernel
theorem dX1_copyFrom_54 : decode cX1_copyFrom 54 = .ok (.aload_n 1, 1) := by decide +kernel
theorem dX1_copyFrom_55 : decode cX1_copyFrom 55 = .ok (.getfield 28, 3) := by decide +kernel
theorem dX1_copyFrom_58 : decode cX1_copyFrom 58 = .ok (.iconst 0, 1) := by decide +kernel
theorem dX1_copyFrom_59 : decode cX1_copyFrom 59 = .ok (.aload_n 0, 1) := by decide +kernel
theorem dX1_copyFrom_60 : decode cX1_copyFrom 60 = .ok (.getfield 28, 3) := by decide +kernel
theorem dX1_copyFrom_63 : decode cX1_copyFrom 63 = .ok (.iconst 0, 1) := by decide +kernel
theorem dX1_copyFrom_64 : decode cX1_copyFrom 64 = .ok (.iconst 5, 1) := by decide +kernel
theorem dX1_copyFrom_65 : decode cX1_copyFrom 65 = .ok (.invokestatic 34, 3) := by decide +kernel
theorem dX1_copyFrom_68 : decode cX1_copyFrom 68 = .ok (.aload_n 1, 1) := by decide +kernel
theorem dX1_copyFrom_69 : decode cX1_copyFrom 69 = .ok (.getfield 31, 3) := by decide +kernel
theorem dX1_copyFrom_72 : decode cX1_copyFrom 72 = .ok (.iconst 0, 1) := by decide +kernel
theorem dX1_copyFrom_73 : decode cX1_copyFrom 73 = .ok (.aload_n 0, 1) := by decide +kernel
theorem dX1_copyFrom_74 : decode cX1_copyFrom 74 = .ok (.getfield 31, 3) := by decide +kernel
theorem dX1_copyFrom_77 : decode cX1_copyFrom 77 = .ok (.iconst 0, 1) := by decide +kernel
theorem dX1_copyFrom_78 : decode cX1_copyFrom 78 = .ok (.iconst 5, 1) := by decide +kernel
theorem dX1_copyFrom_79 : decode cX1_copyFrom 79 = .ok (.invokestatic 34, 3) := by decide +kernel
theorem dX1_copyFrom_82 : decode cX1_copyFrom 82 = .ok (.return_, 1) := by decide +kernel
theorem dX1_read_0 : decode cX1_read 0 = .ok (.aload_n 0, 1) := by decide +kernel
theorem dX1_read_1 : decode cX1_read 1 = .ok (.iconst 0, 1) := by decide +kernel
theorem dX1_read_2 : decode cX1_read 2 = .ok (.putfield 9, 3) := by decide +kernel
theorem dX1_read_5 : decode cX1_read 5 = .ok (.aload_n 0, 1) := by decide +kernel
theorem dX1_read_6 : decode cX1_read 6 = .ok (.iconst 0, 1) := by decide +kernel
theorem dX1_read_7 : decode cX1_read 7 = .ok (.putfield 15, 3) := by decide +kernel
theorem dX1_read_10 : decode cX1_read 10 = .ok (.aload_n 0, 1) := by decide +kernel
theorem dX1_read_11 : decode cX1_read 11 = .ok (.bipush 8, 2) := by decide +kernel
theorem dX1_read_13 : decode cX1_read 13 = .ok (.putfield 18, 3) := by decide +kernel
theorem dX1_read_16 : decode cX1_read 16 = .ok (.iconst 0, 1) := by decide +kernel
theorem dX1_read_17 : decode cX1_read 17 = .ok (.istore_n 2, 1) := by decide +kernel
theorem dX1_read_18 : decode cX1_read 18 = .ok (.iload_n 2, 1) := by decide +kernel
theorem dX1_read_19 : decode cX1_read 19 = .ok (.bipush 60, 2) := by decide +kernel
theorem dX1_read_21 : decode cX1_read 21 = .ok (.if_icmp .gt 37, 3) := by decide +kernel
theorem dX1_read_24 : decode cX1_read 24 = .ok (.aload_n 1, 1) := by decide +kernel
theorem dX1_read_25 : decode cX1_read 25 = .ok (.invokevirtual 40, 3) := by decide +kernel
theorem dX1_read_28 : decode cX1_read 28 = .ok (.ifCond .eq 30, 3) := by decide +kernel
theorem dX1_read_31 : decode cX1_read 31 = .ok (.aload_n 0, 1) := by decide +kernel
theorem dX1_read_32 : decode cX1_read 32 = .ok (.aload_n 1, 1) := by decide +kernel
theorem dX1_read_33 : decode cX1_read 33 = .ok (.iload_n 2, 1) := by decide +kernel
theorem dX1_read_34 : decode cX1_read 34 = .ok (.bipush 60, 2) := by decide +kernel
theorem dX1_read_36 : decode cX1_read 36 = .ok (.if_icmp .ne 7, 3) := by decide +kernel
theorem dX1_read_39 : decode cX1_read 39 = .ok (.iconst 1, 1) := by decide +kernel
theorem dX1_read_40 : decode cX1_read 40 = .ok (.goto 4, 3) := by decide +kernel
theorem dX1_read_43 : decode cX1_read 43 = .ok (.iconst 0, 1) := by decide +kernel
theorem dX1_read_44 : decode cX1_read 44 = .ok (.invokevirtual 46, 3) := by decide +kernel
theorem dX1_read_47 : decode cX1_read 47 = .ok (.ifCond .ne 5, 3) := by decide +kernel
theorem dX1_read_50 : decode cX1_read 50 = .ok (.iconst 0, 1) := by decide +kernel
theorem dX1_read_51 : decode cX1_read 51 = .ok (.ireturn, 1) := by decide +kernel
theorem dX1_read_52 : decode cX1_read 52 = .ok (.iinc 2 1, 3) := by decide +kernel
theorem dX1_read_55 : decode cX1_read 55 = .ok (.goto (-37), 3) := by decide +kernel
theorem dX1_read_58 : decode cX1_read 58 = .ok (.iconst 1, 1) := by decide +kernel
theorem dX1_read_59 : decode cX1_read 59 = .ok (.ireturn, 1) := by decide +kernel
theorem dX1_readClause_0 : decode cX1_readClause 0 = .ok (.aload_n 1, 1) := by decide +kernel
theorem dX1_readClause_1 : decode cX1_readClause 1 = .ok (.invokevirtual 50, 3) := by decide +kernel
theorem dX1_readClause_4 : decode cX1_readClause 4 = .ok (.aload_n 1, 1) := by decide +kernel
theorem dX1_readClause_5 : decode cX1_readClause 5 = .ok (.ldc 53, 2) := by decide +kernel
theorem dX1_readClause_7 : decode cX1_readClause 7 = .ok (.invokevirtual 55, 3) := by decide +kernel
theorem dX1_readClause_10 : decode cX1_readClause 10 = .ok (.ifCond .eq 30, 3) := by decide +kernel
theorem dX1_readClause_13 : decode cX1_readClause 13 = .ok (.iload_n 2, 1) := by decide +kernel
theorem dX1_readClause_14 : decode cX1_readClause 14 = .ok (.ifCond .ne 12, 3) := by decide +kernel
theorem dX1_readClause_17 : decode cX1_readClause 17 = .ok (.aload_n 0, 1) := by decide +kernel
theorem dX1_readClause_18 : decode cX1_readClause 18 = .ok (.getfield 9, 3) := by decide +kernel
theorem dX1_readClause_21 : decode cX1_readClause 21 = .ok (.bipush 8, 2) := by decide +kernel
theorem dX1_readClause_23 : decode cX1_readClause 23 = .ok (.if_icmp .lt 11, 3) := by decide +kernel
theorem dX1_readClause_26 : decode cX1_readClause 26 = .ok (.aload_n 1, 1) := by decide +kernel
theorem dX1_readClause_27 : decode cX1_readClause 27 = .ok (.iconst 3, 1) := by decide +kernel
theorem dX1_readClause_28 : decode cX1_readClause 28 = .ok (.invokevirtual 59, 3) := by decide +kernel
theorem dX1_readClause_31 : decode cX1_readClause 31 = .ok (.goto 8, 3) := by decide +kernel
theorem dX1_readClause_34 : decode cX1_readClause 34 = .ok (.aload_n 0, 1) := by decide +kernel
theorem dX1_readClause_35 : decode cX1_readClause 35 = .ok (.aload_n 1, 1) := by decide +kernel
theorem dX1_readClause_36 : decode cX1_readClause 36 = .ok (.invokevirtual 63, 3) := by decide +kernel
theorem dX1_readClause_39 : decode cX1_readClause 39 = .ok (.ireturn, 1) := by decide +kernel
theorem dX1_readClause_40 : decode cX1_readClause 40 = .ok (.aload_n 1, 1) := by decide +kernel
theorem dX1_readClause_41 : decode cX1_readClause 41 = .ok (.ldc 67, 2) := by decide +kernel
theorem dX1_readClause_43 : decode cX1_readClause 43 = .ok (.invokevirtual 55, 3) := by decide +kernel
theorem dX1_readClause_46 : decode cX1_readClause 46 = .ok (.ifCond .eq 29, 3) := by decide +kernel
theorem dX1_readClause_49 : decode cX1_readClause 49 = .ok (.iload_n 2, 1) := by decide +kernel
theorem dX1_readClause_50 : decode cX1_readClause 50 = .ok (.ifCond .ne 11, 3) := by decide +kernel
theorem dX1_readClause_53 : decode cX1_readClause 53 = .ok (.aload_n 0, 1) := by decide +kernel
theorem dX1_readClause_54 : decode cX1_readClause 54 = .ok (.getfield 15, 3) := by decide +kernel
theorem dX1_readClause_57 : decode cX1_readClause 57 = .ok (.iconst 5, 1) := by decide +kernel
theorem dX1_readClause_58 : decode cX1_readClause 58 = .ok (.if_icmp .lt 11, 3) := by decide +kernel
theorem dX1_readClause_61 : decode cX1_readClause 61 = .ok (.aload_n 1, 1) := by decide +kernel
theorem dX1_readClause_62 : decode cX1_readClause 62 = .ok (.iconst 3, 1) := by decide +kernel
theorem dX1_readClause_63 : decode cX1_readClause 63 = .ok (.invokevirtual 59, 3) := by decide +kernel
theorem dX1_readClause_66 : decode cX1_readClause 66 = .ok (.goto 8, 3) := by decide +kernel
theorem dX1_readClause_69 : decode cX1_readClause 69 = .ok (.aload_n 0, 1) := by decide +kernel
theorem dX1_readClause_70 : decode cX1_readClause 70 = .ok (.aload_n 1, 1) := by decide +kernel
theorem dX1_readClause_71 : decode cX1_readClause 71 = .ok (.invokevirtual 69, 3) := by decide +kernel
theorem dX1_readClause_74 : decode cX1_readClause 74 = .ok (.ireturn, 1) := by decide +kernel
theorem dX1_readClause_75 : decode cX1_readClause 75 = .ok (.aload_n 1, 1) := by decide +kernel
theorem dX1_readClause_76 : decode cX1_readClause 76 = .ok (.ldc 72, 2) := by decide +kernel
theorem dX1_readClause_78 : decode cX1_readClause 78 = .ok (.invokevirtual 55, 3) := by decide +kernel
theorem dX1_readClause_81 : decode cX1_readClause 81 = .ok (.ifCond .eq 21, 3) := by decide +kernel
theorem dX1_readClause_84 : decode cX1_readClause 84 = .ok (.iload_n 2, 1) := by decide +kernel
theorem dX1_readClause_85 : decode cX1_readClause 85 = .ok (.ifCond .eq 11, 3) := by decide +kernel
theorem dX1_readClause_88 : decode cX1_readClause 88 = .ok (.aload_n 1, 1) := by decide +kernel
theorem dX1_readClause_89 : decode cX1_readClause 89 = .ok (.iconst 3, 1) := by decide +kernel
theorem dX1_readClause_90 : decode cX1_readClause 90 = .ok (.invokevirtual 59, 3) := by decide +kernel
theorem dX1_readClause_93 : decode cX1_readClause 93 = .ok (.goto 8, 3) := by decide +kernel
theorem dX1_readClause_96 : decode cX1_readClause 96 = .ok (.aload_n 0, 1) := by decide +kernel
theorem dX1_readClause_97 : decode cX1_readClause 97 = .ok (.aload_n 1, 1) := by decide +kernel
theorem dX1_readClause_98 : decode cX1_readClause 98 = .ok (.invokevirtual 73, 3) := by decide +kernel
theorem dX1_readClause_101 : decode cX1_readClause 101 = .ok (.ireturn, 1) := by decide +kernel
theorem dX1_readClause_102 : decode cX1_readClause 102 = .ok (.aload_n 1, 1) := by decide +kernel
theorem dX1_readClause_103 : decode cX1_readClause 103 = .ok (.iconst 1, 1) := by decide +kernel
theorem dX1_readClause_104 : decode cX1_readClause 104 = .ok (.invokevirtual 59, 3) := by decide +kernel
theorem dX1_readClause_107 : decode cX1_readClause 107 = .ok (.ireturn, 1) := by decide +kernel
theorem dX1_readView_0 : decode cX1_readView 0 = .ok (.aload_n 1, 1) := by decide +kernel
theorem dX1_readView_1 : decode cX1_readView 1 = .ok (.iconst 0, 1) := by decide +kernel
theorem dX1_readView_2 : decode cX1_readView 2 = .ok (.bipush 99, 2) := by decide +kernel
theorem dX1_readView_4 : decode cX1_readView 4 = .ok (.invokevirtual 76, 3) := by decide +kernel
theorem dX1_readView_7 : decode cX1_readView 7 = .ok (.ifCond .ne 5, 3) := by decide +kernel
theorem dX1_readView_10 : decode cX1_readView 10 = .ok (.iconst 0, 1) := by decide +kernel
theorem dX1_readView_11 : decode cX1_readView 11 = .ok (.ireturn, 1) := by decide +kernel
theorem dX1_readView_12 : decode cX1_readView 12 = .ok (.aload_n 0, 1) := by decide +kernel
theorem dX1_readView_13 : decode cX1_readView 13 = .ok (.getfield 21, 3) := by decide +kernel
theorem dX1_readView_16 : decode cX1_readView 16 = .ok (.aload_n 0, 1) := by decide +kernel
theorem dX1_readView_17 : decode cX1_readView 17 = .ok (.getfield 9, 3) := by decide +kernel
theorem dX1_readView_20 : decode cX1_readView 20 = .ok (.aload_n 1, 1) := by decide +kernel
theorem dX1_readView_21 : decode cX1_readView 21 = .ok (.getfield 80, 3) := by decide +kernel
theorem dX1_readView_24 : decode cX1_readView 24 = .ok (.iastore, 1) := by decide +kernel
theorem dX1_readView_25 : decode cX1_readView 25 = .ok (.aload_n 1, 1) := by decide +kernel
theorem dX1_readView_26 : decode cX1_readView 26 = .ok (.iconst 0, 1) := by decide +kernel
theorem dX1_readView_27 : decode cX1_readView 27 = .ok (.bipush 60, 2) := by decide +kernel
theorem dX1_readView_29 : decode cX1_readView 29 = .ok (.invokevirtual 76, 3) := by decide +kernel
theorem dX1_readView_32 : decode cX1_readView 32 = .ok (.ifCond .ne 5, 3) := by decide +kernel
theorem dX1_readView_35 : decode cX1_readView 35 = .ok (.iconst 0, 1) := by decide +kernel
theorem dX1_readView_36 : decode cX1_readView 36 = .ok (.ireturn, 1) := by decide +kernel
theorem dX1_readView_37 : decode cX1_readView 37 = .ok (.aload_n 0, 1) := by decide +kernel
theorem dX1_readView_38 : decode cX1_readView 38 = .ok (.getfield 25, 3) := by decide +kernel
theorem dX1_readView_41 : decode cX1_readView 41 = .ok (.aload_n 0, 1) := by decide +kernel
theorem dX1_readView_42 : decode cX1_readView 42 = .ok (.getfield 9, 3) := by decide +kernel
theorem dX1_readView_45 : decode cX1_readView 45 = .ok (.aload_n 1, 1) := by decide +kernel
theorem dX1_readView_46 : decode cX1_readView 46 = .ok (.getfield 80, 3) := by decide +kernel
theorem dX1_readView_49 : decode cX1_readView 49 = .ok (.iastore, 1) := by decide +kernel
theorem dX1_readView_50 : decode cX1_readView 50 = .ok (.aload_n 0, 1) := by decide +kernel
theorem dX1_readView_51 : decode cX1_readView 51 = .ok (.dup, 1) := by decide +kernel
theorem dX1_readView_52 : decode cX1_readView 52 = .ok (.getfield 9, 3) := by decide +kernel
theorem dX1_readView_55 : decode cX1_readView 55 = .ok (.iconst 1, 1) := by decide +kernel
theorem dX1_readView_56 : decode cX1_readView 56 = .ok (.iadd, 1) := by decide +kernel
theorem dX1_readView_57 : decode cX1_readView 57 = .ok (.putfield 9, 3) := by decide +kernel
theorem dX1_readView_60 : decode cX1_readView 60 = .ok (.aload_n 1, 1) := by decide +kernel
theorem dX1_readView_61 : decode cX1_readView 61 = .ok (.bipush 59, 2) := by decide +kernel
theorem dX1_readView_63 : decode cX1_readView 63 = .ok (.invokevirtual 83, 3) := by decide +kernel
theorem dX1_readView_66 : decode cX1_readView 66 = .ok (.ireturn, 1) := by decide +kernel
theorem dX1_readTenant_0 : decode cX1_readTenant 0 = .ok (.aload_n 1, 1) := by decide +kernel
theorem dX1_readTenant_1 : decode cX1_readTenant 1 = .ok (.iconst 0, 1) := by decide +kernel
theorem dX1_readTenant_2 : decode cX1_readTenant 2 = .ok (.bipush 99, 2) := by decide +kernel
theorem dX1_readTenant_4 : decode cX1_readTenant 4 = .ok (.invokevirtual 76, 3) := by decide +kernel
theorem dX1_readTenant_7 : decode cX1_readTenant 7 = .ok (.ifCond .ne 5, 3) := by decide +kernel
theorem dX1_readTenant_10 : decode cX1_readTenant 10 = .ok (.iconst 0, 1) := by decide +kernel
theorem dX1_readTenant_11 : decode cX1_readTenant 11 = .ok (.ireturn, 1) := by decide +kernel
theorem dX1_readTenant_12 : decode cX1_readTenant 12 = .ok (.aload_n 0, 1) := by decide +kernel
theorem dX1_readTenant_13 : decode cX1_readTenant 13 = .ok (.getfield 28, 3) := by decide +kernel
theorem dX1_readTenant_16 : decode cX1_readTenant 16 = .ok (.aload_n 0, 1) := by decide +kernel
theorem dX1_readTenant_17 : decode cX1_readTenant 17 = .ok (.getfield 15, 3) := by decide +kernel
theorem dX1_readTenant_20 : decode cX1_readTenant 20 = .ok (.aload_n 1, 1) := by decide +kernel
theorem dX1_readTenant_21 : decode cX1_readTenant 21 = .ok (.getfield 80, 3) := by decide +kernel
theorem dX1_readTenant_24 : decode cX1_readTenant 24 = .ok (.iastore, 1) := by decide +kernel
theorem dX1_readTenant_25 : decode cX1_readTenant 25 = .ok (.aload_n 1, 1) := by decide +kernel
theorem dX1_readTenant_26 : decode cX1_readTenant 26 = .ok (.iconst 0, 1) := by decide +kernel
theorem dX1_readTenant_27 : decode cX1_readTenant 27 = .ok (.bipush 99, 2) := by decide +kernel
theorem dX1_readTenant_29 : decode cX1_readTenant 29 = .ok (.invokevirtual 76, 3) := by decide +kernel
theorem dX1_readTenant_32 : decode cX1_readTenant 32 = .ok (.ifCond .ne 5, 3) := by decide +kernel
theorem dX1_readTenant_35 : decode cX1_readTenant 35 = .ok (.iconst 0, 1) := by decide +kernel
theorem dX1_readTenant_36 : decode cX1_readTenant 36 = .ok (.ireturn, 1) := by decide +kernel
theorem dX1_readTenant_37 : decode cX1_readTenant 37 = .ok (.aload_n 0, 1) := by decide +kernel
theorem dX1_readTenant_38 : decode cX1_readTenant 38 = .ok (.getfield 31, 3) := by decide +kernel
theorem dX1_readTenant_41 : decode cX1_readTenant 41 = .ok (.aload_n 0, 1) := by decide +kernel
theorem dX1_readTenant_42 : decode cX1_readTenant 42 = .ok (.getfield 15, 3) := by decide +kernel
theorem dX1_readTenant_45 : decode cX1_readTenant 45 = .ok (.aload_n 1, 1) := by decide +kernel
theorem dX1_readTenant_46 : decode cX1_readTenant 46 = .ok (.getfield 80, 3) := by decide +kernel
theorem dX1_readTenant_49 : decode cX1_readTenant 49 = .ok (.iastore, 1) := by decide +kernel
theorem dX1_readTenant_50 : decode cX1_readTenant 50 = .ok (.aload_n 0, 1) := by decide +kernel
theorem dX1_readTenant_51 : decode cX1_readTenant 51 = .ok (.dup, 1) := by decide +kernel
theorem dX1_readTenant_52 : decode cX1_readTenant 52 = .ok (.getfield 15, 3) := by decide +kernel
theorem dX1_readTenant_55 : decode cX1_readTenant 55 = .ok (.iconst 1, 1) := by decide +kernel
theorem dX1_readTenant_56 : decode cX1_readTenant 56 = .ok (.iadd, 1) := by decide +kernel
theorem dX1_readTenant_57 : decode cX1_readTenant 57 = .ok (.putfield 15, 3) := by decide +kernel
theorem dX1_readTenant_60 : decode cX1_readTenant 60 = .ok (.aload_n 1, 1) := by decide +kernel
theorem dX1_readTenant_61 : decode cX1_readTenant 61 = .ok (.bipush 59, 2) := by decide +kernel
theorem dX1_readTenant_63 : decode cX1_readTenant 63 = .ok (.invokevirtual 83, 3) := by decide +kernel
theorem dX1_readTenant_66 : decode cX1_readTenant 66 = .ok (.ireturn, 1) := by decide +kernel
theorem dX1_readSoap_0 : decode cX1_readSoap 0 = .ok (.aload_n 1, 1) := by decide +kernel
theorem dX1_readSoap_1 : decode cX1_readSoap 1 = .ok (.iconst 1, 1) := by decide +kernel
theorem dX1_readSoap_2 : decode cX1_readSoap 2 = .ok (.bipush 20, 2) := by decide +kernel
theorem dX1_readSoap_4 : decode cX1_readSoap 4 = .ok (.invokevirtual 76, 3) := by decide +kernel
theorem dX1_readSoap_7 : decode cX1_readSoap 7 = .ok (.ifCond .ne 5, 3) := by decide +kernel
theorem dX1_readSoap_10 : decode cX1_readSoap 10 = .ok (.iconst 0, 1) := by decide +kernel
theorem dX1_readSoap_11 : decode cX1_readSoap 11 = .ok (.ireturn, 1) := by decide +kernel
theorem dX1_readSoap_12 : decode cX1_readSoap 12 = .ok (.aload_n 0, 1) := by decide +kernel
theorem dX1_readSoap_13 : decode cX1_readSoap 13 = .ok (.aload_n 1, 1) := by decide +kernel
theorem dX1_readSoap_14 : decode cX1_readSoap 14 = .ok (.getfield 80, 3) := by decide +kernel
theorem dX1_readSoap_17 : decode cX1_readSoap 17 = .ok (.putfield 18, 3) := by decide +kernel
theorem dX1_readSoap_20 : decode cX1_readSoap 20 = .ok (.aload_n 1, 1) := by decide +kernel
theorem dX1_readSoap_21 : decode cX1_readSoap 21 = .ok (.bipush 59, 2) := by decide +kernel
theorem dX1_readSoap_23 : decode cX1_readSoap 23 = .ok (.invokevirtual 83, 3) := by decide +kernel
theorem dX1_readSoap_26 : decode cX1_readSoap 26 = .ok (.ireturn, 1) := by decide +kernel
theorem dX1_worthWithin_0 : decode cX1_worthWithin 0 = .ok (.iconst 0, 1) := by decide +kernel
theorem dX1_worthWithin_1 : decode cX1_worthWithin 1 = .ok (.istore_n 3, 1) := by decide +kernel
theorem dX1_worthWithin_2 : decode cX1_worthWithin 2 = .ok (.iconst 0, 1) := by decide +kernel
theorem dX1_worthWithin_3 : decode cX1_worthWithin 3 = .ok (.istore 4, 2) := by decide +kernel
theorem dX1_worthWithin_5 : decode cX1_worthWithin 5 = .ok (.iload 4, 2) := by decide +kernel
theorem dX1_worthWithin_7 : decode cX1_worthWithin 7 = .ok (.aload_n 0, 1) := by decide +kernel
theorem dX1_worthWithin_8 : decode cX1_worthWithin 8 = .ok (.getfield 9, 3) := by decide +kernel
theorem dX1_worthWithin_11 : decode cX1_worthWithin 11 = .ok (.if_icmp .ge 41, 3) := by decide +kernel
theorem dX1_worthWithin_14 : decode cX1_worthWithin 14 = .ok (.aload_n 0, 1) := by decide +kernel
theorem dX1_worthWithin_15 : decode cX1_worthWithin 15 = .ok (.getfield 21, 3) := by decide +kernel
theorem dX1_worthWithin_18 : decode cX1_worthWithin 18 = .ok (.iload 4, 2) := by decide +kernel
theorem dX1_worthWithin_20 : decode cX1_worthWithin 20 = .ok (.iaload, 1) := by decide +kernel
theorem dX1_worthWithin_21 : decode cX1_worthWithin 21 = .ok (.iload_n 1, 1) := by decide +kernel
theorem dX1_worthWithin_22 : decode cX1_worthWithin 22 = .ok (.if_icmp .lt 24, 3) := by decide +kernel
theorem dX1_worthWithin_25 : decode cX1_worthWithin 25 = .ok (.aload_n 0, 1) := by decide +kernel
theorem dX1_worthWithin_26 : decode cX1_worthWithin 26 = .ok (.getfield 21, 3) := by decide +kernel
theorem dX1_worthWithin_29 : decode cX1_worthWithin 29 = .ok (.iload 4, 2) := by decide +kernel
theorem dX1_worthWithin_31 : decode cX1_worthWithin 31 = .ok (.iaload, 1) := by decide +kernel
theorem dX1_worthWithin_32 : decode cX1_worthWithin 32 = .ok (.iload_n 2, 1) := by decide +kernel
theorem dX1_worthWithin_33 : decode cX1_worthWithin 33 = .ok (.if_icmp .gt 13, 3) := by decide +kernel
theorem dX1_worthWithin_36 : decode cX1_worthWithin 36 = .ok (.iload_n 3, 1) := by decide +kernel
theorem dX1_worthWithin_37 : decode cX1_worthWithin 37 = .ok (.aload_n 0, 1) := by decide +kernel
theorem dX1_worthWithin_38 : decode cX1_worthWithin 38 = .ok (.getfield 25, 3) := by decide +kernel
theorem dX1_worthWithin_41 : decode cX1_worthWithin 41 = .ok (.iload 4, 2) := by decide +kernel
theorem dX1_worthWithin_43 : decode cX1_worthWithin 43 = .ok (.iaload, 1) := by decide +kernel
theorem dX1_worthWithin_44 : decode cX1_worthWithin 44 = .ok (.iadd, 1) := by decide +kernel
theorem dX1_worthWithin_45 : decode cX1_worthWithin 45 = .ok (.istore_n 3, 1) := by decide +kernel
theorem dX1_worthWithin_46 : decode cX1_worthWithin 46 = .ok (.iinc 4 1, 3) := by decide +kernel
theorem dX1_worthWithin_49 : decode cX1_worthWithin 49 = .ok (.goto (-44), 3) := by decide +kernel
theorem dX1_worthWithin_52 : decode cX1_worthWithin 52 = .ok (.iload_n 3, 1) := by decide +kernel
theorem dX1_worthWithin_53 : decode cX1_worthWithin 53 = .ok (.ireturn, 1) := by decide +kernel
theorem dX1_mostWorth_0 : decode cX1_mostWorth 0 = .ok (.iload_n 3, 1) := by decide +kernel
theorem dX1_mostWorth_1 : decode cX1_mostWorth 1 = .ok (.ifCond .le 11, 3) := by decide +kernel
theorem dX1_mostWorth_4 : decode cX1_mostWorth 4 = .ok (.aload_n 0, 1) := by decide +kernel
theorem dX1_mostWorth_5 : decode cX1_mostWorth 5 = .ok (.iload_n 1, 1) := by decide +kernel
theorem dX1_mostWorth_6 : decode cX1_mostWorth 6 = .ok (.invokevirtual 86, 3) := by decide +kernel
theorem dX1_mostWorth_9 : decode cX1_mostWorth 9 = .ok (.goto 4, 3) := by decide +kernel
theorem dX1_mostWorth_12 : decode cX1_mostWorth 12 = .ok (.iconst (-1), 1) := by decide +kernel
theorem dX1_mostWorth_13 : decode cX1_mostWorth 13 = .ok (.istore 4, 2) := by decide +kernel
theorem dX1_mostWorth_15 : decode cX1_mostWorth 15 = .ok (.iload 4, 2) := by decide +kernel
theorem dX1_mostWorth_17 : decode cX1_mostWorth 17 = .ok (.iconst (-1), 1) := by decide +kernel
theorem dX1_mostWorth_18 : decode cX1_mostWorth 18 = .ok (.if_icmp .ne 5, 3) := by decide +kernel
theorem dX1_mostWorth_21 : decode cX1_mostWorth 21 = .ok (.iconst 0, 1) := by decide +kernel
theorem dX1_mostWorth_22 : decode cX1_mostWorth 22 = .ok (.ireturn, 1) := by decide +kernel
theorem dX1_mostWorth_23 : decode cX1_mostWorth 23 = .ok (.aload_n 0, 1) := by decide +kernel
theorem dX1_mostWorth_24 : decode cX1_mostWorth 24 = .ok (.iload 4, 2) := by decide +kernel
theorem dX1_mostWorth_26 : decode cX1_mostWorth 26 = .ok (.iconst 1, 1) := by decide +kernel
theorem dX1_mostWorth_27 : decode cX1_mostWorth 27 = .ok (.iadd, 1) := by decide +kernel
theorem dX1_mostWorth_28 : decode cX1_mostWorth 28 = .ok (.iload_n 2, 1) := by decide +kernel
theorem dX1_mostWorth_29 : decode cX1_mostWorth 29 = .ok (.iload_n 3, 1) := by decide +kernel
theorem dX1_mostWorth_30 : decode cX1_mostWorth 30 = .ok (.invokevirtual 90, 3) := by decide +kernel
theorem dX1_mostWorth_33 : decode cX1_mostWorth 33 = .ok (.istore 5, 2) := by decide +kernel
theorem dX1_mostWorth_35 : decode cX1_mostWorth 35 = .ok (.aload_n 0, 1) := by decide +kernel
theorem dX1_mostWorth_36 : decode cX1_mostWorth 36 = .ok (.iload 4, 2) := by decide +kernel
theorem dX1_mostWorth_38 : decode cX1_mostWorth 38 = .ok (.iload 4, 2) := by decide +kernel
theorem dX1_mostWorth_40 : decode cX1_mostWorth 40 = .ok (.iload_n 2, 1) := by decide +kernel
theorem dX1_mostWorth_41 : decode cX1_mostWorth 41 = .ok (.iadd, 1) := by decide +kernel
theorem dX1_mostWorth_42 : decode cX1_mostWorth 42 = .ok (.invokevirtual 94, 3) := by decide +kernel
theorem dX1_mostWorth_45 : decode cX1_mostWorth 45 = .ok (.aload_n 0, 1) := by decide +kernel
theorem dX1_mostWorth_46 : decode cX1_mostWorth 46 = .ok (.iload 4, 2) := by decide +kernel
theorem dX1_mostWorth_48 : decode cX1_mostWorth 48 = .ok (.iload_n 2, 1) := by decide +kernel
theorem dX1_mostWorth_49 : decode cX1_mostWorth 49 = .ok (.iadd, 1) := by decide +kernel
theorem dX1_mostWorth_50 : decode cX1_mostWorth 50 = .ok (.iconst 1, 1) := by decide +kernel
theorem dX1_mostWorth_51 : decode cX1_mostWorth 51 = .ok (.iadd, 1) := by decide +kernel
theorem dX1_mostWorth_52 : decode cX1_mostWorth 52 = .ok (.iload_n 2, 1) := by decide +kernel
theorem dX1_mostWorth_53 : decode cX1_mostWorth 53 = .ok (.iload_n 3, 1) := by decide +kernel
theorem dX1_mostWorth_54 : decode cX1_mostWorth 54 = .ok (.iconst 1, 1) := by decide +kernel
theorem dX1_mostWorth_55 : decode cX1_mostWorth 55 = .ok (.isub, 1) := by decide +kernel
theorem dX1_mostWorth_56 : decode cX1_mostWorth 56 = .ok (.invokevirtual 90, 3) := by decide +kernel
theorem dX1_mostWorth_59 : decode cX1_mostWorth 59 = .ok (.iadd, 1) := by decide +kernel
theorem dX1_mostWorth_60 : decode cX1_mostWorth 60 = .ok (.istore 6, 2) := by decide +kernel
theorem dX1_mostWorth_62 : decode cX1_mostWorth 62 = .ok (.iload 5, 2) := by decide +kernel
theorem dX1_mostWorth_64 : decode cX1_mostWorth 64 = .ok (.iload 6, 2) := by decide +kernel
theorem dX1_mostWorth_66 : decode cX1_mostWorth 66 = .ok (.invokestatic 98, 3) := by decide +kernel
theorem dX1_mostWorth_69 : decode cX1_mostWorth 69 = .ok (.ireturn, 1) := by decide +kernel
theorem dX1_firstViewX_0 : decode cX1_firstViewX 0 = .ok (.iconst (-1), 1) := by decide +kernel
theorem dX1_firstViewX_1 : decode cX1_firstViewX 1 = .ok (.istore_n 2, 1) := by decide +kernel
theorem dX1_firstViewX_2 : decode cX1_firstViewX 2 = .ok (.iconst 0, 1) := by decide +kernel
theorem dX1_firstViewX_3 : decode cX1_firstViewX 3 = .ok (.istore_n 3, 1) := by decide +kernel
theorem dX1_firstViewX_4 : decode cX1_firstViewX 4 = .ok (.iload_n 3, 1) := by decide +kernel
theorem dX1_firstViewX_5 : decode cX1_firstViewX 5 = .ok (.aload_n 0, 1) := by decide +kernel
theorem dX1_firstViewX_6 : decode cX1_firstViewX 6 = .ok (.getfield 9, 3) := by decide +kernel
theorem dX1_firstViewX_9 : decode cX1_firstViewX 9 = .ok (.if_icmp .ge 41, 3) := by decide +kernel
theorem dX1_firstViewX_12 : decode cX1_firstViewX 12 = .ok (.aload_n 0, 1) := by decide +kernel
theorem dX1_firstViewX_13 : decode cX1_firstViewX 13 = .ok (.getfield 21, 3) := by decide +kernel
theorem dX1_firstViewX_16 : decode cX1_firstViewX 16 = .ok (.iload_n 3, 1) := by decide +kernel
theorem dX1_firstViewX_17 : decode cX1_firstViewX 17 = .ok (.iaload, 1) := by decide +kernel
theorem dX1_firstViewX_18 : decode cX1_firstViewX 18 = .ok (.iload_n 1, 1) := by decide +kernel
theorem dX1_firstViewX_19 : decode cX1_firstViewX 19 = .ok (.if_icmp .lt 25, 3) := by decide +kernel
theorem dX1_firstViewX_22 : decode cX1_firstViewX 22 = .ok (.iload_n 2, 1) := by decide +kernel
theorem dX1_firstViewX_23 : decode cX1_firstViewX 23 = .ok (.iconst (-1), 1) := by decide +kernel
theorem dX1_firstViewX_24 : decode cX1_firstViewX 24 = .ok (.if_icmp .eq 13, 3) := by decide +kernel
theorem dX1_firstViewX_27 : decode cX1_firstViewX 27 = .ok (.aload_n 0, 1) := by decide +kernel
theorem dX1_firstViewX_28 : decode cX1_firstViewX 28 = .ok (.getfield 21, 3) := by decide +kernel
theorem dX1_firstViewX_31 : decode cX1_firstViewX 31 = .ok (.iload_n 3, 1) := by decide +kernel
theorem dX1_firstViewX_32 : decode cX1_firstViewX 32 = .ok (.iaload, 1) := by decide +kernel
theorem dX1_firstViewX_33 : decode cX1_firstViewX 33 = .ok (.iload_n 2, 1) := by decide +kernel
theorem dX1_firstViewX_34 : decode cX1_firstViewX 34 = .ok (.if_icmp .ge 10, 3) := by decide +kernel
theorem dX1_firstViewX_37 : decode cX1_firstViewX 37 = .ok (.aload_n 0, 1) := by decide +kernel
theorem dX1_firstViewX_38 : decode cX1_firstViewX 38 = .ok (.getfield 21, 3) := by decide +kernel
theorem dX1_firstViewX_41 : decode cX1_firstViewX 41 = .ok (.iload_n 3, 1) := by decide +kernel
theorem dX1_firstViewX_42 : decode cX1_firstViewX 42 = .ok (.iaload, 1) := by decide +kernel
theorem dX1_firstViewX_43 : decode cX1_firstViewX 43 = .ok (.istore_n 2, 1) := by decide +kernel
theorem dX1_firstViewX_44 : decode cX1_firstViewX 44 = .ok (.iinc 3 1, 3) := by decide +kernel
theorem dX1_firstViewX_47 : decode cX1_firstViewX 47 = .ok (.goto (-43), 3) := by decide +kernel
theorem dX1_firstViewX_50 : decode cX1_firstViewX 50 = .ok (.iload_n 2, 1) := by decide +kernel
theorem dX1_firstViewX_51 : decode cX1_firstViewX 51 = .ok (.ireturn, 1) := by decide +kernel
