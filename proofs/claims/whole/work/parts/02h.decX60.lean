theorem dX6_init_0 : decode cX6_init 0 = .ok (.aload_n 0, 1) := by decide +kernel
theorem dX6_init_1 : decode cX6_init 1 = .ok (.invokespecial 3, 3) := by decide +kernel
theorem dX6_init_4 : decode cX6_init 4 = .ok (.aload_n 0, 1) := by decide +kernel
theorem dX6_init_5 : decode cX6_init 5 = .ok (.bipush 100, 2) := by decide +kernel
theorem dX6_init_7 : decode cX6_init 7 = .ok (.newarray .int, 2) := by decide +kernel
theorem dX6_init_9 : decode cX6_init 9 = .ok (.putfield 11, 3) := by decide +kernel
theorem dX6_init_12 : decode cX6_init 12 = .ok (.aload_n 0, 1) := by decide +kernel
theorem dX6_init_13 : decode cX6_init 13 = .ok (.iconst 0, 1) := by decide +kernel
theorem dX6_init_14 : decode cX6_init 14 = .ok (.putfield 15, 3) := by decide +kernel
theorem dX6_init_17 : decode cX6_init 17 = .ok (.aload_n 0, 1) := by decide +kernel
theorem dX6_init_18 : decode cX6_init 18 = .ok (.iconst 0, 1) := by decide +kernel
theorem dX6_init_19 : decode cX6_init 19 = .ok (.putfield 19, 3) := by decide +kernel
theorem dX6_init_22 : decode cX6_init 22 = .ok (.aload_n 0, 1) := by decide +kernel
theorem dX6_init_23 : decode cX6_init 23 = .ok (.iconst 0, 1) := by decide +kernel
theorem dX6_init_24 : decode cX6_init 24 = .ok (.putfield 22, 3) := by decide +kernel
theorem dX6_init_27 : decode cX6_init 27 = .ok (.aload_n 0, 1) := by decide +kernel
theorem dX6_init_28 : decode cX6_init 28 = .ok (.iconst 0, 1) := by decide +kernel
theorem dX6_init_29 : decode cX6_init 29 = .ok (.putfield 25, 3) := by decide +kernel
theorem dX6_init_32 : decode cX6_init 32 = .ok (.return_, 1) := by decide +kernel
theorem dX6_read_0 : decode cX6_read 0 = .ok (.aload_n 0, 1) := by decide +kernel
theorem dX6_read_1 : decode cX6_read 1 = .ok (.iconst 0, 1) := by decide +kernel
theorem dX6_read_2 : decode cX6_read 2 = .ok (.putfield 15, 3) := by decide +kernel
theorem dX6_read_5 : decode cX6_read 5 = .ok (.aload_n 0, 1) := by decide +kernel
theorem dX6_read_6 : decode cX6_read 6 = .ok (.iconst 0, 1) := by decide +kernel
theorem dX6_read_7 : decode cX6_read 7 = .ok (.putfield 19, 3) := by decide +kernel
theorem dX6_read_10 : decode cX6_read 10 = .ok (.aload_n 0, 1) := by decide +kernel
theorem dX6_read_11 : decode cX6_read 11 = .ok (.iconst 0, 1) := by decide +kernel
theorem dX6_read_12 : decode cX6_read 12 = .ok (.putfield 22, 3) := by decide +kernel
theorem dX6_read_15 : decode cX6_read 15 = .ok (.aload_n 0, 1) := by decide +kernel
theorem dX6_read_16 : decode cX6_read 16 = .ok (.iconst 0, 1) := by decide +kernel
theorem dX6_read_17 : decode cX6_read 17 = .ok (.putfield 25, 3) := by decide +kernel
theorem dX6_read_20 : decode cX6_read 20 = .ok (.aload_n 0, 1) := by decide +kernel
theorem dX6_read_21 : decode cX6_read 21 = .ok (.aload_n 1, 1) := by decide +kernel
theorem dX6_read_22 : decode cX6_read 22 = .ok (.iload_n 2, 1) := by decide +kernel
theorem dX6_read_23 : decode cX6_read 23 = .ok (.iconst 0, 1) := by decide +kernel
theorem dX6_read_24 : decode cX6_read 24 = .ok (.invokevirtual 28, 3) := by decide +kernel
theorem dX6_read_27 : decode cX6_read 27 = .ok (.ifCond .ne 5, 3) := by decide +kernel
theorem dX6_read_30 : decode cX6_read 30 = .ok (.iconst 0, 1) := by decide +kernel
theorem dX6_read_31 : decode cX6_read 31 = .ok (.ireturn, 1) := by decide +kernel
theorem dX6_read_32 : decode cX6_read 32 = .ok (.aload_n 1, 1) := by decide +kernel
theorem dX6_read_33 : decode cX6_read 33 = .ok (.invokevirtual 32, 3) := by decide +kernel
theorem dX6_read_36 : decode cX6_read 36 = .ok (.ifCond .eq 11, 3) := by decide +kernel
theorem dX6_read_39 : decode cX6_read 39 = .ok (.aload_n 1, 1) := by decide +kernel
theorem dX6_read_40 : decode cX6_read 40 = .ok (.iconst 1, 1) := by decide +kernel
theorem dX6_read_41 : decode cX6_read 41 = .ok (.invokevirtual 38, 3) := by decide +kernel
theorem dX6_read_44 : decode cX6_read 44 = .ok (.ifCond .eq 7, 3) := by decide +kernel
theorem dX6_read_47 : decode cX6_read 47 = .ok (.iconst 1, 1) := by decide +kernel
theorem dX6_read_48 : decode cX6_read 48 = .ok (.goto 4, 3) := by decide +kernel
theorem dX6_read_51 : decode cX6_read 51 = .ok (.iconst 0, 1) := by decide +kernel
theorem dX6_read_52 : decode cX6_read 52 = .ok (.ireturn, 1) := by decide +kernel
theorem dX6_readSteps_0 : decode cX6_readSteps 0 = .ok (.iconst 0, 1) := by decide +kernel
theorem dX6_readSteps_1 : decode cX6_readSteps 1 = .ok (.istore 4, 2) := by decide +kernel
theorem dX6_readSteps_3 : decode cX6_readSteps 3 = .ok (.iload 4, 2) := by decide +kernel
theorem dX6_readSteps_5 : decode cX6_readSteps 5 = .ok (.bipush 25, 2) := by decide +kernel
theorem dX6_readSteps_7 : decode cX6_readSteps 7 = .ok (.if_icmp .ge 37, 3) := by decide +kernel
theorem dX6_readSteps_10 : decode cX6_readSteps 10 = .ok (.aload_n 1, 1) := by decide +kernel
theorem dX6_readSteps_11 : decode cX6_readSteps 11 = .ok (.invokevirtual 32, 3) := by decide +kernel
theorem dX6_readSteps_14 : decode cX6_readSteps 14 = .ok (.ifCond .eq 30, 3) := by decide +kernel
theorem dX6_readSteps_17 : decode cX6_readSteps 17 = .ok (.aload_n 1, 1) := by decide +kernel
theorem dX6_readSteps_18 : decode cX6_readSteps 18 = .ok (.invokevirtual 42, 3) := by decide +kernel
theorem dX6_readSteps_21 : decode cX6_readSteps 21 = .ok (.bipush 93, 2) := by decide +kernel
theorem dX6_readSteps_23 : decode cX6_readSteps 23 = .ok (.if_icmp .eq 21, 3) := by decide +kernel
theorem dX6_readSteps_26 : decode cX6_readSteps 26 = .ok (.aload_n 0, 1) := by decide +kernel
theorem dX6_readSteps_27 : decode cX6_readSteps 27 = .ok (.aload_n 1, 1) := by decide +kernel
theorem dX6_readSteps_28 : decode cX6_readSteps 28 = .ok (.iload_n 2, 1) := by decide +kernel
theorem dX6_readSteps_29 : decode cX6_readSteps 29 = .ok (.iload_n 3, 1) := by decide +kernel
theorem dX6_readSteps_30 : decode cX6_readSteps 30 = .ok (.invokevirtual 46, 3) := by decide +kernel
theorem dX6_readSteps_33 : decode cX6_readSteps 33 = .ok (.ifCond .ne 5, 3) := by decide +kernel
theorem dX6_readSteps_36 : decode cX6_readSteps 36 = .ok (.iconst 0, 1) := by decide +kernel
theorem dX6_readSteps_37 : decode cX6_readSteps 37 = .ok (.ireturn, 1) := by decide +kernel
theorem dX6_readSteps_38 : decode cX6_readSteps 38 = .ok (.iinc 4 1, 3) := by decide +kernel
theorem dX6_readSteps_41 : decode cX6_readSteps 41 = .ok (.goto (-38), 3) := by decide +kernel
theorem dX6_readSteps_44 : decode cX6_readSteps 44 = .ok (.iconst 1, 1) := by decide +kernel
theorem dX6_readSteps_45 : decode cX6_readSteps 45 = .ok (.ireturn, 1) := by decide +kernel
theorem dX6_readStep_0 : decode cX6_readStep 0 = .ok (.aload_n 1, 1) := by decide +kernel
theorem dX6_readStep_1 : decode cX6_readStep 1 = .ok (.invokevirtual 49, 3) := by decide +kernel
theorem dX6_readStep_4 : decode cX6_readStep 4 = .ok (.aload_n 1, 1) := by decide +kernel
theorem dX6_readStep_5 : decode cX6_readStep 5 = .ok (.invokestatic 52, 3) := by decide +kernel
theorem dX6_readStep_8 : decode cX6_readStep 8 = .ok (.istore 4, 2) := by decide +kernel
theorem dX6_readStep_10 : decode cX6_readStep 10 = .ok (.iload 4, 2) := by decide +kernel
theorem dX6_readStep_12 : decode cX6_readStep 12 = .ok (.iconst (-1), 1) := by decide +kernel
theorem dX6_readStep_13 : decode cX6_readStep 13 = .ok (.if_icmp .eq 12, 3) := by decide +kernel
theorem dX6_readStep_16 : decode cX6_readStep 16 = .ok (.aload_n 0, 1) := by decide +kernel
theorem dX6_readStep_17 : decode cX6_readStep 17 = .ok (.getfield 15, 3) := by decide +kernel
theorem dX6_readStep_20 : decode cX6_readStep 20 = .ok (.bipush 25, 2) := by decide +kernel
theorem dX6_readStep_22 : decode cX6_readStep 22 = .ok (.if_icmp .lt 9, 3) := by decide +kernel
theorem dX6_readStep_25 : decode cX6_readStep 25 = .ok (.aload_n 1, 1) := by decide +kernel
theorem dX6_readStep_26 : decode cX6_readStep 26 = .ok (.iconst 1, 1) := by decide +kernel
theorem dX6_readStep_27 : decode cX6_readStep 27 = .ok (.invokevirtual 56, 3) := by decide +kernel
theorem dX6_readStep_30 : decode cX6_readStep 30 = .ok (.ireturn, 1) := by decide +kernel
theorem dX6_readStep_31 : decode cX6_readStep 31 = .ok (.iload 4, 2) := by decide +kernel
theorem dX6_readStep_33 : decode cX6_readStep 33 = .ok (.bipush 7, 2) := by decide +kernel
theorem dX6_readStep_35 : decode cX6_readStep 35 = .ok (.if_icmp .ne 15, 3) := by decide +kernel
theorem dX6_readStep_38 : decode cX6_readStep 38 = .ok (.iload_n 3, 1) := by decide +kernel
theorem dX6_readStep_39 : decode cX6_readStep 39 = .ok (.bipush 6, 2) := by decide +kernel
theorem dX6_readStep_41 : decode cX6_readStep 41 = .ok (.if_icmp .lt 9, 3) := by decide +kernel
theorem dX6_readStep_44 : decode cX6_readStep 44 = .ok (.aload_n 1, 1) := by decide +kernel
theorem dX6_readStep_45 : decode cX6_readStep 45 = .ok (.iconst 3, 1) := by decide +kernel
theorem dX6_readStep_46 : decode cX6_readStep 46 = .ok (.invokevirtual 56, 3) := by decide +kernel
theorem dX6_readStep_49 : decode cX6_readStep 49 = .ok (.ireturn, 1) := by decide +kernel
theorem dX6_readStep_50 : decode cX6_readStep 50 = .ok (.aload_n 0, 1) := by decide +kernel
theorem dX6_readStep_51 : decode cX6_readStep 51 = .ok (.getfield 15, 3) := by decide +kernel
theorem dX6_readStep_54 : decode cX6_readStep 54 = .ok (.iconst 4, 1) := by decide +kernel
theorem dX6_readStep_55 : decode cX6_readStep 55 = .ok (.imul, 1) := by decide +kernel
theorem dX6_readStep_56 : decode cX6_readStep 56 = .ok (.istore 5, 2) := by decide +kernel
theorem dX6_readStep_58 : decode cX6_readStep 58 = .ok (.aload_n 0, 1) := by decide +kernel
theorem dX6_readStep_59 : decode cX6_readStep 59 = .ok (.dup, 1) := by decide +kernel
theorem dX6_readStep_60 : decode cX6_readStep 60 = .ok (.getfield 15, 3) := by decide +kernel
theorem dX6_readStep_63 : decode cX6_readStep 63 = .ok (.iconst 1, 1) := by decide +kernel
theorem dX6_readStep_64 : decode cX6_readStep 64 = .ok (.iadd, 1) := by decide +kernel
theorem dX6_readStep_65 : decode cX6_readStep 65 = .ok (.putfield 15, 3) := by decide +kernel
theorem dX6_readStep_68 : decode cX6_readStep 68 = .ok (.aload_n 0, 1) := by decide +kernel
theorem dX6_readStep_69 : decode cX6_readStep 69 = .ok (.getfield 11, 3) := by decide +kernel
theorem dX6_readStep_72 : decode cX6_readStep 72 = .ok (.iload 5, 2) := by decide +kernel
theorem dX6_readStep_74 : decode cX6_readStep 74 = .ok (.iload 4, 2) := by decide +kernel
theorem dX6_readStep_76 : decode cX6_readStep 76 = .ok (.iastore, 1) := by decide +kernel
theorem dX6_readStep_77 : decode cX6_readStep 77 = .ok (.iload 4, 2) := by decide +kernel
theorem dX6_readStep_79 : decode cX6_readStep 79 = .ok (.bipush 7, 2) := by decide +kernel
theorem dX6_readStep_81 : decode cX6_readStep 81 = .ok (.if_icmp .ne 17, 3) := by decide +kernel
theorem dX6_readStep_84 : decode cX6_readStep 84 = .ok (.aload_n 0, 1) := by decide +kernel
theorem dX6_readStep_85 : decode cX6_readStep 85 = .ok (.aload_n 1, 1) := by decide +kernel
theorem dX6_readStep_86 : decode cX6_readStep 86 = .ok (.iload 5, 2) := by decide +kernel
theorem dX6_readStep_88 : decode cX6_readStep 88 = .ok (.iload_n 2, 1) := by decide +kernel
theorem dX6_readStep_89 : decode cX6_readStep 89 = .ok (.iload_n 3, 1) := by decide +kernel
theorem dX6_readStep_90 : decode cX6_readStep 90 = .ok (.iconst 1, 1) := by decide +kernel
theorem dX6_readStep_91 : decode cX6_readStep 91 = .ok (.iadd, 1) := by decide +kernel
theorem dX6_readStep_92 : decode cX6_readStep 92 = .ok (.invokevirtual 59, 3) := by decide +kernel
theorem dX6_readStep_95 : decode cX6_readStep 95 = .ok (.goto 15, 3) := by decide +kernel
theorem dX6_readStep_98 : decode cX6_readStep 98 = .ok (.aload_n 0, 1) := by decide +kernel
theorem dX6_readStep_99 : decode cX6_readStep 99 = .ok (.aload_n 1, 1) := by decide +kernel
theorem dX6_readStep_100 : decode cX6_readStep 100 = .ok (.iload 5, 2) := by decide +kernel
theorem dX6_readStep_102 : decode cX6_readStep 102 = .ok (.iload 4, 2) := by decide +kernel
theorem dX6_readStep_104 : decode cX6_readStep 104 = .ok (.iload_n 2, 1) := by decide +kernel
theorem dX6_readStep_105 : decode cX6_readStep 105 = .ok (.iconst 1, 1) := by decide +kernel
theorem dX6_readStep_106 : decode cX6_readStep 106 = .ok (.isub, 1) := by decide +kernel
theorem dX6_readStep_107 : decode cX6_readStep 107 = .ok (.invokevirtual 63, 3) := by decide +kernel
theorem dX6_readStep_110 : decode cX6_readStep 110 = .ok (.istore 6, 2) := by decide +kernel
theorem dX6_readStep_112 : decode cX6_readStep 112 = .ok (.iload 6, 2) := by decide +kernel
theorem dX6_readStep_114 : decode cX6_readStep 114 = .ok (.ifCond .eq 16, 3) := by decide +kernel
theorem dX6_readStep_117 : decode cX6_readStep 117 = .ok (.aload_n 1, 1) := by decide +kernel
theorem dX6_readStep_118 : decode cX6_readStep 118 = .ok (.bipush 59, 2) := by decide +kernel
theorem dX6_readStep_120 : decode cX6_readStep 120 = .ok (.invokevirtual 66, 3) := by decide +kernel
theorem dX6_readStep_123 : decode cX6_readStep 123 = .ok (.ifCond .eq 7, 3) := by decide +kernel
theorem dX6_readStep_126 : decode cX6_readStep 126 = .ok (.iconst 1, 1) := by decide +kernel
theorem dX6_readStep_127 : decode cX6_readStep 127 = .ok (.goto 4, 3) := by decide +kernel
theorem dX6_readStep_130 : decode cX6_readStep 130 = .ok (.iconst 0, 1) := by decide +kernel
theorem dX6_readStep_131 : decode cX6_readStep 131 = .ok (.ireturn, 1) := by decide +kernel
theorem dX6_readAgain_0 : decode cX6_readAgain 0 = .ok (.aload_n 0, 1) := by decide +kernel
theorem dX6_readAgain_1 : decode cX6_readAgain 1 = .ok (.aload_n 1, 1) := by decide +kernel
theorem dX6_readAgain_2 : decode cX6_readAgain 2 = .ok (.iload_n 2, 1) := by decide +kernel
theorem dX6_readAgain_3 : decode cX6_readAgain 3 = .ok (.iconst 1, 1) := by decide +kernel
theorem dX6_readAgain_4 : decode cX6_readAgain 4 = .ok (.iadd, 1) := by decide +kernel
theorem dX6_readAgain_5 : decode cX6_readAgain 5 = .ok (.iconst 0, 1) := by decide +kernel
theorem dX6_readAgain_6 : decode cX6_readAgain 6 = .ok (.bipush 30, 2) := by decide +kernel
theorem dX6_readAgain_8 : decode cX6_readAgain 8 = .ok (.invokevirtual 69, 3) := by decide +kernel
theorem dX6_readAgain_11 : decode cX6_readAgain 11 = .ok (.ifCond .eq 32, 3) := by decide +kernel
theorem dX6_readAgain_14 : decode cX6_readAgain 14 = .ok (.aload_n 1, 1) := by decide +kernel
theorem dX6_readAgain_15 : decode cX6_readAgain 15 = .ok (.bipush 91, 2) := by decide +kernel
theorem dX6_readAgain_17 : decode cX6_readAgain 17 = .ok (.invokevirtual 66, 3) := by decide +kernel
theorem dX6_readAgain_20 : decode cX6_readAgain 20 = .ok (.ifCond .eq 23, 3) := by decide +kernel
theorem dX6_readAgain_23 : decode cX6_readAgain 23 = .ok (.aload_n 0, 1) := by decide +kernel
theorem dX6_readAgain_24 : decode cX6_readAgain 24 = .ok (.aload_n 1, 1) := by decide +kernel
theorem dX6_readAgain_25 : decode cX6_readAgain 25 = .ok (.iload_n 3, 1) := by decide +kernel
theorem dX6_readAgain_26 : decode cX6_readAgain 26 = .ok (.iload 4, 2) := by decide +kernel
theorem dX6_readAgain_28 : decode cX6_readAgain 28 = .ok (.invokevirtual 28, 3) := by decide +kernel
theorem dX6_readAgain_31 : decode cX6_readAgain 31 = .ok (.ifCond .eq 12, 3) := by decide +kernel
theorem dX6_readAgain_34 : decode cX6_readAgain 34 = .ok (.aload_n 1, 1) := by decide +kernel
theorem dX6_readAgain_35 : decode cX6_readAgain 35 = .ok (.bipush 93, 2) := by decide +kernel
theorem dX6_readAgain_37 : decode cX6_readAgain 37 = .ok (.invokevirtual 66, 3) := by decide +kernel
theorem dX6_readAgain_40 : decode cX6_readAgain 40 = .ok (.ifCond .ne 5, 3) := by decide +kernel
theorem dX6_readAgain_43 : decode cX6_readAgain 43 = .ok (.iconst 0, 1) := by decide +kernel
theorem dX6_readAgain_44 : decode cX6_readAgain 44 = .ok (.ireturn, 1) := by decide +kernel
theorem dX6_readAgain_45 : decode cX6_readAgain 45 = .ok (.aload_n 0, 1) := by decide +kernel
theorem dX6_readAgain_46 : decode cX6_readAgain 46 = .ok (.getfield 11, 3) := by decide +kernel
theorem dX6_readAgain_49 : decode cX6_readAgain 49 = .ok (.iload_n 2, 1) := by decide +kernel
theorem dX6_readAgain_50 : decode cX6_readAgain 50 = .ok (.iconst 2, 1) := by decide +kernel
theorem dX6_readAgain_51 : decode cX6_readAgain 51 = .ok (.iadd, 1) := by decide +kernel
theorem dX6_readAgain_52 : decode cX6_readAgain 52 = .ok (.aload_n 0, 1) := by decide +kernel
theorem dX6_readAgain_53 : decode cX6_readAgain 53 = .ok (.getfield 15, 3) := by decide +kernel
theorem dX6_readAgain_56 : decode cX6_readAgain 56 = .ok (.iastore, 1) := by decide +kernel
theorem dX6_readAgain_57 : decode cX6_readAgain 57 = .ok (.iconst 1, 1) := by decide +kernel
theorem dX6_readAgain_58 : decode cX6_readAgain 58 = .ok (.ireturn, 1) := by decide +kernel
theorem dX6_readNumbers_0 : decode cX6_readNumbers 0 = .ok (.iload_n 3, 1) := by decide +kernel
theorem dX6_readNumbers_1 : decode cX6_readNumbers 1 = .ok (.tableswitch 179 0 5 #[39, 73, 73, 85, 119, 167], 39) := by decide +kernel
theorem dX6_readNumbers_40 : decode cX6_readNumbers 40 = .ok (.aload_n 0, 1) := by decide +kernel
theorem dX6_readNumbers_41 : decode cX6_readNumbers 41 = .ok (.aload_n 1, 1) := by decide +kernel
theorem dX6_readNumbers_42 : decode cX6_readNumbers 42 = .ok (.iload_n 2, 1) := by decide +kernel
theorem dX6_readNumbers_43 : decode cX6_readNumbers 43 = .ok (.iconst 1, 1) := by decide +kernel
theorem dX6_readNumbers_44 : decode cX6_readNumbers 44 = .ok (.iadd, 1) := by decide +kernel
theorem dX6_readNumbers_45 : decode cX6_readNumbers 45 = .ok (.iconst 0, 1) := by decide +kernel
theorem dX6_readNumbers_46 : decode cX6_readNumbers 46 = .ok (.iload 4, 2) := by decide +kernel
theorem dX6_readNumbers_48 : decode cX6_readNumbers 48 = .ok (.invokevirtual 69, 3) := by decide +kernel
theorem dX6_readNumbers_51 : decode cX6_readNumbers 51 = .ok (.ifCond .eq 21, 3) := by decide +kernel
theorem dX6_readNumbers_54 : decode cX6_readNumbers 54 = .ok (.aload_n 0, 1) := by decide +kernel
theorem dX6_readNumbers_55 : decode cX6_readNumbers 55 = .ok (.aload_n 1, 1) := by decide +kernel
theorem dX6_readNumbers_56 : decode cX6_readNumbers 56 = .ok (.iload_n 2, 1) := by decide +kernel
theorem dX6_readNumbers_57 : decode cX6_readNumbers 57 = .ok (.iconst 2, 1) := by decide +kernel
theorem dX6_readNumbers_58 : decode cX6_readNumbers 58 = .ok (.iadd, 1) := by decide +kernel
theorem dX6_readNumbers_59 : decode cX6_readNumbers 59 = .ok (.iconst 1, 1) := by decide +kernel
theorem dX6_readNumbers_60 : decode cX6_readNumbers 60 = .ok (.bipush 20, 2) := by decide +kernel
theorem dX6_readNumbers_62 : decode cX6_readNumbers 62 = .ok (.invokevirtual 69, 3) := by decide +kernel
theorem dX6_readNumbers_65 : decode cX6_readNumbers 65 = .ok (.ifCond .eq 7, 3) := by decide +kernel
theorem dX6_readNumbers_68 : decode cX6_readNumbers 68 = .ok (.iconst 1, 1) := by decide +kernel
theorem dX6_readNumbers_69 : decode cX6_readNumbers 69 = .ok (.goto 4, 3) := by decide +kernel
theorem dX6_readNumbers_72 : decode cX6_readNumbers 72 = .ok (.iconst 0, 1) := by decide +kernel
theorem dX6_readNumbers_73 : decode cX6_readNumbers 73 = .ok (.ireturn, 1) := by decide +kernel
theorem dX6_readNumbers_74 : decode cX6_readNumbers 74 = .ok (.aload_n 0, 1) := by decide +kernel
theorem dX6_readNumbers_75 : decode cX6_readNumbers 75 = .ok (.aload_n 1, 1) := by decide +kernel
theorem dX6_readNumbers_76 : decode cX6_readNumbers 76 = .ok (.iload_n 2, 1) := by decide +kernel
theorem dX6_readNumbers_77 : decode cX6_readNumbers 77 = .ok (.iconst 1, 1) := by decide +kernel
theorem dX6_readNumbers_78 : decode cX6_readNumbers 78 = .ok (.iadd, 1) := by decide +kernel
theorem dX6_readNumbers_79 : decode cX6_readNumbers 79 = .ok (.iconst 1, 1) := by decide +kernel
theorem dX6_readNumbers_80 : decode cX6_readNumbers 80 = .ok (.bipush 20, 2) := by decide +kernel
theorem dX6_readNumbers_82 : decode cX6_readNumbers 82 = .ok (.invokevirtual 69, 3) := by decide +kernel
theorem dX6_readNumbers_85 : decode cX6_readNumbers 85 = .ok (.ireturn, 1) := by decide +kernel
theorem dX6_readNumbers_86 : decode cX6_readNumbers 86 = .ok (.aload_n 0, 1) := by decide +kernel
theorem dX6_readNumbers_87 : decode cX6_readNumbers 87 = .ok (.aload_n 1, 1) := by decide +kernel
theorem dX6_readNumbers_88 : decode cX6_readNumbers 88 = .ok (.iload_n 2, 1) := by decide +kernel
theorem dX6_readNumbers_89 : decode cX6_readNumbers 89 = .ok (.iconst 1, 1) := by decide +kernel
theorem dX6_readNumbers_90 : decode cX6_readNumbers 90 = .ok (.iadd, 1) := by decide +kernel
theorem dX6_readNumbers_91 : decode cX6_readNumbers 91 = .ok (.iconst 0, 1) := by decide +kernel
theorem dX6_readNumbers_92 : decode cX6_readNumbers 92 = .ok (.iload 4, 2) := by decide +kernel
theorem dX6_readNumbers_94 : decode cX6_readNumbers 94 = .ok (.invokevirtual 69, 3) := by decide +kernel
theorem dX6_readNumbers_97 : decode cX6_readNumbers 97 = .ok (.ifCond .eq 21, 3) := by decide +kernel
theorem dX6_readNumbers_100 : decode cX6_readNumbers 100 = .ok (.aload_n 0, 1) := by decide +kernel
theorem dX6_readNumbers_101 : decode cX6_readNumbers 101 = .ok (.aload_n 1, 1) := by decide +kernel
theorem dX6_readNumbers_102 : decode cX6_readNumbers 102 = .ok (.iload_n 2, 1) := by decide +kernel
theorem dX6_readNumbers_103 : decode cX6_readNumbers 103 = .ok (.iconst 2, 1) := by decide +kernel
theorem dX6_readNumbers_104 : decode cX6_readNumbers 104 = .ok (.iadd, 1) := by decide +kernel
theorem dX6_readNumbers_105 : decode cX6_readNumbers 105 = .ok (.iconst 0, 1) := by decide +kernel
theorem dX6_readNumbers_106 : decode cX6_readNumbers 106 = .ok (.bipush 99, 2) := by decide +kernel
theorem dX6_readNumbers_108 : decode cX6_readNumbers 108 = .ok (.invokevirtual 69, 3) := by decide +kernel
theorem dX6_readNumbers_111 : decode cX6_readNumbers 111 = .ok (.ifCond .eq 7, 3) := by decide +kernel
theorem dX6_readNumbers_114 : decode cX6_readNumbers 114 = .ok (.iconst 1, 1) := by decide +kernel
theorem dX6_readNumbers_115 : decode cX6_readNumbers 115 = .ok (.goto 4, 3) := by decide +kernel
theorem dX6_readNumbers_118 : decode cX6_readNumbers 118 = .ok (.iconst 0, 1) := by decide +kernel
theorem dX6_readNumbers_119 : decode cX6_readNumbers 119 = .ok (.ireturn, 1) := by decide +kernel
theorem dX6_readNumbers_120 : decode cX6_readNumbers 120 = .ok (.aload_n 0, 1) := by decide +kernel
theorem dX6_readNumbers_121 : decode cX6_readNumbers 121 = .ok (.aload_n 1, 1) := by decide +kernel
theorem dX6_readNumbers_122 : decode cX6_readNumbers 122 = .ok (.iload_n 2, 1) := by decide +kernel
theorem dX6_readNumbers_123 : decode cX6_readNumbers 123 = .ok (.iconst 1, 1) := by decide +kernel
theorem dX6_readNumbers_124 : decode cX6_readNumbers 124 = .ok (.iadd, 1) := by decide +kernel
theorem dX6_readNumbers_125 : decode cX6_readNumbers 125 = .ok (.iconst 0, 1) := by decide +kernel
theorem dX6_readNumbers_126 : decode cX6_readNumbers 126 = .ok (.iload 4, 2) := by decide +kernel
theorem dX6_readNumbers_128 : decode cX6_readNumbers 128 = .ok (.invokevirtual 69, 3) := by decide +kernel
theorem dX6_readNumbers_131 : decode cX6_readNumbers 131 = .ok (.ifCond .eq 35, 3) := by decide +kernel
theorem dX6_readNumbers_134 : decode cX6_readNumbers 134 = .ok (.aload_n 0, 1) := by decide +kernel
theorem dX6_readNumbers_135 : decode cX6_readNumbers 135 = .ok (.aload_n 1, 1) := by decide +kernel
theorem dX6_readNumbers_136 : decode cX6_readNumbers 136 = .ok (.iload_n 2, 1) := by decide +kernel
theorem dX6_readNumbers_137 : decode cX6_readNumbers 137 = .ok (.iconst 2, 1) := by decide +kernel
theorem dX6_readNumbers_138 : decode cX6_readNumbers 138 = .ok (.iadd, 1) := by decide +kernel
theorem dX6_readNumbers_139 : decode cX6_readNumbers 139 = .ok (.iconst 0, 1) := by decide +kernel
theorem dX6_readNumbers_140 : decode cX6_readNumbers 140 = .ok (.iload 4, 2) := by decide +kernel
theorem dX6_readNumbers_142 : decode cX6_readNumbers 142 = .ok (.invokevirtual 69, 3) := by decide +kernel
theorem dX6_readNumbers_145 : decode cX6_readNumbers 145 = .ok (.ifCond .eq 21, 3) := by decide +kernel
theorem dX6_readNumbers_148 : decode cX6_readNumbers 148 = .ok (.aload_n 0, 1) := by decide +kernel
theorem dX6_readNumbers_149 : decode cX6_readNumbers 149 = .ok (.aload_n 1, 1) := by decide +kernel
theorem dX6_readNumbers_150 : decode cX6_readNumbers 150 = .ok (.iload_n 2, 1) := by decide +kernel
theorem dX6_readNumbers_151 : decode cX6_readNumbers 151 = .ok (.iconst 3, 1) := by decide +kernel
theorem dX6_readNumbers_152 : decode cX6_readNumbers 152 = .ok (.iadd, 1) := by decide +kernel
theorem dX6_readNumbers_153 : decode cX6_readNumbers 153 = .ok (.iconst 0, 1) := by decide +kernel
theorem dX6_readNumbers_154 : decode cX6_readNumbers 154 = .ok (.bipush 99, 2) := by decide +kernel
theorem dX6_readNumbers_156 : decode cX6_readNumbers 156 = .ok (.invokevirtual 69, 3) := by decide +kernel
theorem dX6_readNumbers_159 : decode cX6_readNumbers 159 = .ok (.ifCond .eq 7, 3) := by decide +kernel
theorem dX6_readNumbers_162 : decode cX6_readNumbers 162 = .ok (.iconst 1, 1) := by decide +kernel
theorem dX6_readNumbers_163 : decode cX6_readNumbers 163 = .ok (.goto 4, 3) := by decide +kernel
theorem dX6_readNumbers_166 : decode cX6_readNumbers 166 = .ok (.iconst 0, 1) := by decide +kernel
theorem dX6_readNumbers_167 : decode cX6_readNumbers 167 = .ok (.ireturn, 1) := by decide +kernel
theorem dX6_readNumbers_168 : decode cX6_readNumbers 168 = .ok (.aload_n 0, 1) := by decide +kernel
theorem dX6_readNumbers_169 : decode cX6_readNumbers 169 = .ok (.aload_n 1, 1) := by decide +kernel
theorem dX6_readNumbers_170 : decode cX6_readNumbers 170 = .ok (.iload_n 2, 1) := by decide +kernel
theorem dX6_readNumbers_171 : decode cX6_readNumbers 171 = .ok (.iconst 1, 1) := by decide +kernel
theorem dX6_readNumbers_172 : decode cX6_readNumbers 172 = .ok (.iadd, 1) := by decide +kernel
theorem dX6_readNumbers_173 : decode cX6_readNumbers 173 = .ok (.iconst 0, 1) := by decide +kernel
theorem dX6_readNumbers_174 : decode cX6_readNumbers 174 = .ok (.iload 4, 2) := by decide +kernel
theorem dX6_readNumbers_176 : decode cX6_readNumbers 176 = .ok (.invokevirtual 69, 3) := by decide +kernel
theorem dX6_readNumbers_179 : decode cX6_readNumbers 179 = .ok (.ireturn, 1) := by decide +kernel
theorem dX6_readNumbers_180 : decode cX6_readNumbers 180 = .ok (.iconst 1, 1) := by decide +kernel
theorem dX6_readNumbers_181 : decode cX6_readNumbers 181 = .ok (.ireturn, 1) := by decide +kernel
theorem dX6_readNumber_0 : decode cX6_readNumber 0 = .ok (.aload_n 1, 1) := by decide +kernel
theorem dX6_readNumber_1 : decode cX6_readNumber 1 = .ok (.iload_n 3, 1) := by decide +kernel
theorem dX6_readNumber_2 : decode cX6_readNumber 2 = .ok (.iload 4, 2) := by decide +kernel
theorem dX6_readNumber_4 : decode cX6_readNumber 4 = .ok (.invokevirtual 72, 3) := by decide +kernel
theorem dX6_readNumber_7 : decode cX6_readNumber 7 = .ok (.ifCond .ne 5, 3) := by decide +kernel
theorem dX6_readNumber_10 : decode cX6_readNumber 10 = .ok (.iconst 0, 1) := by decide +kernel
theorem dX6_readNumber_11 : decode cX6_readNumber 11 = .ok (.ireturn, 1) := by decide +kernel
theorem dX6_readNumber_12 : decode cX6_readNumber 12 = .ok (.aload_n 0, 1) := by decide +kernel
theorem dX6_readNumber_13 : decode cX6_readNumber 13 = .ok (.getfield 11, 3) := by decide +kernel
theorem dX6_readNumber_16 : decode cX6_readNumber 16 = .ok (.iload_n 2, 1) := by decide +kernel
theorem dX6_readNumber_17 : decode cX6_readNumber 17 = .ok (.aload_n 1, 1) := by decide +kernel
theorem dX6_readNumber_18 : decode cX6_readNumber 18 = .ok (.getfield 76, 3) := by decide +kernel
theorem dX6_readNumber_21 : decode cX6_readNumber 21 = .ok (.iastore, 1) := by decide +kernel
theorem dX6_readNumber_22 : decode cX6_readNumber 22 = .ok (.iconst 1, 1) := by decide +kernel
theorem dX6_readNumber_23 : decode cX6_readNumber 23 = .ok (.ireturn, 1) := by decide +kernel
theorem dX6_stepWord_0 : decode cX6_stepWord 0 = .ok (.aload_n 0, 1) := by decide +kernel
theorem dX6_stepWord_1 : decode cX6_stepWord 1 = .ok (.ldc 79, 2) := by decide +kernel
theorem dX6_stepWord_3 : decode cX6_stepWord 3 = .ok (.invokevirtual 81, 3) := by decide +kernel
theorem dX6_stepWord_6 : decode cX6_stepWord 6 = .ok (.ifCond .eq 5, 3) := by decide +kernel
theorem dX6_stepWord_9 : decode cX6_stepWord 9 = .ok (.iconst 0, 1) := by decide +kernel
theorem dX6_stepWord_10 : decode cX6_stepWord 10 = .ok (.ireturn, 1) := by decide +kernel
theorem dX6_stepWord_11 : decode cX6_stepWord 11 = .ok (.aload_n 0, 1) := by decide +kernel
theorem dX6_stepWord_12 : decode cX6_stepWord 12 = .ok (.ldc 85, 2) := by decide +kernel
theorem dX6_stepWord_14 : decode cX6_stepWord 14 = .ok (.invokevirtual 81, 3) := by decide +kernel
theorem dX6_stepWord_17 : decode cX6_stepWord 17 = .ok (.ifCond .eq 5, 3) := by decide +kernel
theorem dX6_stepWord_20 : decode cX6_stepWord 20 = .ok (.iconst 1, 1) := by decide +kernel
theorem dX6_stepWord_21 : decode cX6_stepWord 21 = .ok (.ireturn, 1) := by decide +kernel
theorem dX6_stepWord_22 : decode cX6_stepWord 22 = .ok (.aload_n 0, 1) := by decide +kernel
theorem dX6_stepWord_23 : decode cX6_stepWord 23 = .ok (.ldc 87, 2) := by decide +kernel
theorem dX6_stepWord_25 : decode cX6_stepWord 25 = .ok (.invokevirtual 81, 3) := by decide +kernel
theorem dX6_stepWord_28 : decode cX6_stepWord 28 = .ok (.ifCond .eq 5, 3) := by decide +kernel
theorem dX6_stepWord_31 : decode cX6_stepWord 31 = .ok (.iconst 2, 1) := by decide +kernel
theorem dX6_stepWord_32 : decode cX6_stepWord 32 = .ok (.ireturn, 1) := by decide +kernel
theorem dX6_stepWord_33 : decode cX6_stepWord 33 = .ok (.aload_n 0, 1) := by decide +kernel
theorem dX6_stepWord_34 : decode cX6_stepWord 34 = .ok (.ldc 89, 2) := by decide +kernel
theorem dX6_stepWord_36 : decode cX6_stepWord 36 = .ok (.invokevirtual 81, 3) := by decide +kernel
theorem dX6_stepWord_39 : decode cX6_stepWord 39 = .ok (.ifCond .eq 5, 3) := by decide +kernel
theorem dX6_stepWord_42 : decode cX6_stepWord 42 = .ok (.iconst 3, 1) := by decide +kernel
theorem dX6_stepWord_43 : decode cX6_stepWord 43 = .ok (.ireturn, 1) := by decide +kernel
theorem dX6_stepWord_44 : decode cX6_stepWord 44 = .ok (.aload_n 0, 1) := by decide +kernel
theorem dX6_stepWord_45 : decode cX6_stepWord 45 = .ok (.ldc 91, 2) := by decide +kernel
theorem dX6_stepWord_47 : decode cX6_stepWord 47 = .ok (.invokevirtual 81, 3) := by decide +kernel
theorem dX6_stepWord_50 : decode cX6_stepWord 50 = .ok (.ifCond .eq 5, 3) := by decide +kernel
theorem dX6_stepWord_53 : decode cX6_stepWord 53 = .ok (.iconst 4, 1) := by decide +kernel
theorem dX6_stepWord_54 : decode cX6_stepWord 54 = .ok (.ireturn, 1) := by decide +kernel
theorem dX6_stepWord_55 : decode cX6_stepWord 55 = .ok (.aload_n 0, 1) := by decide +kernel
theorem dX6_stepWord_56 : decode cX6_stepWord 56 = .ok (.ldc 93, 2) := by decide +kernel
theorem dX6_stepWord_58 : decode cX6_stepWord 58 = .ok (.invokevirtual 81, 3) := by decide +kernel
theorem dX6_stepWord_61 : decode cX6_stepWord 61 = .ok (.ifCond .eq 5, 3) := by decide +kernel
theorem dX6_stepWord_64 : decode cX6_stepWord 64 = .ok (.iconst 5, 1) := by decide +kernel
theorem dX6_stepWord_65 : decode cX6_stepWord 65 = .ok (.ireturn, 1) := by decide +kernel
theorem dX6_stepWord_66 : decode cX6_stepWord 66 = .ok (.aload_n 0, 1) := by decide +kernel
theorem dX6_stepWord_67 : decode cX6_stepWord 67 = .ok (.ldc 95, 2) := by decide +kernel
theorem dX6_stepWord_69 : decode cX6_stepWord 69 = .ok (.invokevirtual 81, 3) := by decide +kernel
theorem dX6_stepWord_72 : decode cX6_stepWord 72 = .ok (.ifCond .eq 6, 3) := by decide +kernel
theorem dX6_stepWord_75 : decode cX6_stepWord 75 = .ok (.bipush 6, 2) := by decide +kernel
theorem dX6_stepWord_77 : decode cX6_stepWord 77 = .ok (.ireturn, 1) := by decide +kernel
theorem dX6_stepWord_78 : decode cX6_stepWord 78 = .ok (.aload_n 0, 1) := by decide +kernel
theorem dX6_stepWord_79 : decode cX6_stepWord 79 = .ok (.ldc 97, 2) := by decide +kernel
theorem dX6_stepWord_81 : decode cX6_stepWord 81 = .ok (.invokevirtual 81, 3) := by decide +kernel
theorem dX6_stepWord_84 : decode cX6_stepWord 84 = .ok (.ifCond .eq 8, 3) := by decide +kernel
theorem dX6_stepWord_87 : decode cX6_stepWord 87 = .ok (.bipush 7, 2) := by decide +kernel
theorem dX6_stepWord_89 : decode cX6_stepWord 89 = .ok (.goto 4, 3) := by decide +kernel
theorem dX6_stepWord_92 : decode cX6_stepWord 92 = .ok (.iconst (-1), 1) := by decide +kernel
theorem dX6_stepWord_93 : decode cX6_stepWord 93 = .ok (.ireturn, 1) := by decide +kernel
theorem dX6_performFrom_0 : decode cX6_performFrom 0 = .ok (.iload_n 2, 1) := by decide +kernel
theorem dX6_performFrom_1 : decode cX6_performFrom 1 = .ok (.istore 5, 2) := by decide +kernel
theorem dX6_performFrom_3 : decode cX6_performFrom 3 = .ok (.iload 5, 2) := by decide +kernel
theorem dX6_performFrom_5 : decode cX6_performFrom 5 = .ok (.iload_n 3, 1) := by decide +kernel
theorem dX6_performFrom_6 : decode cX6_performFrom 6 = .ok (.if_icmp .ge 161, 3) := by decide +kernel
theorem dX6_performFrom_9 : decode cX6_performFrom 9 = .ok (.aload_n 0, 1) := by decide +kernel
theorem dX6_performFrom_10 : decode cX6_performFrom 10 = .ok (.getfield 19, 3) := by decide +kernel
theorem dX6_performFrom_13 : decode cX6_performFrom 13 = .ok (.sipush 200, 3) := by decide +kernel
theorem dX6_performFrom_16 : decode cX6_performFrom 16 = .ok (.if_icmp .ge 151, 3) := by decide +kernel
theorem dX6_performFrom_19 : decode cX6_performFrom 19 = .ok (.aload_n 0, 1) := by decide +kernel
theorem dX6_performFrom_20 : decode cX6_performFrom 20 = .ok (.dup, 1) := by decide +kernel
theorem dX6_performFrom_21 : decode cX6_performFrom 21 = .ok (.getfield 19, 3) := by decide +kernel
theorem dX6_performFrom_24 : decode cX6_performFrom 24 = .ok (.iconst 1, 1) := by decide +kernel
theorem dX6_performFrom_25 : decode cX6_performFrom 25 = .ok (.iadd, 1) := by decide +kernel
theorem dX6_performFrom_26 : decode cX6_performFrom 26 = .ok (.putfield 19, 3) := by decide +kernel
theorem dX6_performFrom_29 : decode cX6_performFrom 29 = .ok (.aload_n 0, 1) := by decide +kernel
theorem dX6_performFrom_30 : decode cX6_performFrom 30 = .ok (.getfield 11, 3) := by decide +kernel
theorem dX6_performFrom_33 : decode cX6_performFrom 33 = .ok (.iload 5, 2) := by decide +kernel
theorem dX6_performFrom_35 : decode cX6_performFrom 35 = .ok (.iconst 4, 1) := by decide +kernel
theorem dX6_performFrom_36 : decode cX6_performFrom 36 = .ok (.imul, 1) := by decide +kernel
theorem dX6_performFrom_37 : decode cX6_performFrom 37 = .ok (.iaload, 1) := by decide +kernel
theorem dX6_performFrom_38 : decode cX6_performFrom 38 = .ok (.bipush 7, 2) := by decide +kernel
theorem dX6_performFrom_40 : decode cX6_performFrom 40 = .ok (.if_icmp .ne 86, 3) := by decide +kernel
theorem dX6_performFrom_43 : decode cX6_performFrom 43 = .ok (.iload 5, 2) := by decide +kernel
theorem dX6_performFrom_45 : decode cX6_performFrom 45 = .ok (.iconst 1, 1) := by decide +kernel
theorem dX6_performFrom_46 : decode cX6_performFrom 46 = .ok (.iadd, 1) := by decide +kernel
theorem dX6_performFrom_47 : decode cX6_performFrom 47 = .ok (.aload_n 0, 1) := by decide +kernel
theorem dX6_performFrom_48 : decode cX6_performFrom 48 = .ok (.getfield 15, 3) := by decide +kernel
theorem dX6_performFrom_51 : decode cX6_performFrom 51 = .ok (.aload_n 0, 1) := by decide +kernel
theorem dX6_performFrom_52 : decode cX6_performFrom 52 = .ok (.getfield 11, 3) := by decide +kernel
theorem dX6_performFrom_55 : decode cX6_performFrom 55 = .ok (.iload 5, 2) := by decide +kernel
theorem dX6_performFrom_57 : decode cX6_performFrom 57 = .ok (.iconst 4, 1) := by decide +kernel
theorem dX6_performFrom_58 : decode cX6_performFrom 58 = .ok (.imul, 1) := by decide +kernel
theorem dX6_performFrom_59 : decode cX6_performFrom 59 = .ok (.iconst 2, 1) := by decide +kernel
theorem dX6_performFrom_60 : decode cX6_performFrom 60 = .ok (.iadd, 1) := by decide +kernel
theorem dX6_performFrom_61 : decode cX6_performFrom 61 = .ok (.iaload, 1) := by decide +kernel
theorem dX6_performFrom_62 : decode cX6_performFrom 62 = .ok (.invokestatic 99, 3) := by decide +kernel
theorem dX6_performFrom_65 : decode cX6_performFrom 65 = .ok (.invokestatic 105, 3) := by decide +kernel
theorem dX6_performFrom_68 : decode cX6_performFrom 68 = .ok (.istore 6, 2) := by decide +kernel
theorem dX6_performFrom_70 : decode cX6_performFrom 70 = .ok (.iconst 0, 1) := by decide +kernel
theorem dX6_performFrom_71 : decode cX6_performFrom 71 = .ok (.istore 7, 2) := by decide +kernel
theorem dX6_performFrom_73 : decode cX6_performFrom 73 = .ok (.iload 7, 2) := by decide +kernel
theorem dX6_performFrom_75 : decode cX6_performFrom 75 = .ok (.aload_n 0, 1) := by decide +kernel
theorem dX6_performFrom_76 : decode cX6_performFrom 76 = .ok (.getfield 11, 3) := by decide +kernel
theorem dX6_performFrom_79 : decode cX6_performFrom 79 = .ok (.iload 5, 2) := by decide +kernel
theorem dX6_performFrom_81 : decode cX6_performFrom 81 = .ok (.iconst 4, 1) := by decide +kernel
theorem dX6_performFrom_82 : decode cX6_performFrom 82 = .ok (.imul, 1) := by decide +kernel
theorem dX6_performFrom_83 : decode cX6_performFrom 83 = .ok (.iconst 1, 1) := by decide +kernel
theorem dX6_performFrom_84 : decode cX6_performFrom 84 = .ok (.iadd, 1) := by decide +kernel
theorem dX6_performFrom_85 : decode cX6_performFrom 85 = .ok (.iaload, 1) := by decide +kernel
theorem dX6_performFrom_86 : decode cX6_performFrom 86 = .ok (.if_icmp .ge 31, 3) := by decide +kernel
theorem dX6_performFrom_89 : decode cX6_performFrom 89 = .ok (.iload 4, 2) := by decide +kernel
theorem dX6_performFrom_91 : decode cX6_performFrom 91 = .ok (.bipush 6, 2) := by decide +kernel
theorem dX6_performFrom_93 : decode cX6_performFrom 93 = .ok (.if_icmp .ge 24, 3) := by decide +kernel
theorem dX6_performFrom_96 : decode cX6_performFrom 96 = .ok (.aload_n 0, 1) := by decide +kernel
theorem dX6_performFrom_97 : decode cX6_performFrom 97 = .ok (.aload_n 1, 1) := by decide +kernel
theorem dX6_performFrom_98 : decode cX6_performFrom 98 = .ok (.iload 5, 2) := by decide +kernel
theorem dX6_performFrom_100 : decode cX6_performFrom 100 = .ok (.iconst 1, 1) := by decide +kernel
theorem dX6_performFrom_101 : decode cX6_performFrom 101 = .ok (.iadd, 1) := by decide +kernel
theorem dX6_performFrom_102 : decode cX6_performFrom 102 = .ok (.iload 6, 2) := by decide +kernel
theorem dX6_performFrom_104 : decode cX6_performFrom 104 = .ok (.iload 4, 2) := by decide +kernel
theorem dX6_performFrom_106 : decode cX6_performFrom 106 = .ok (.iconst 1, 1) := by decide +kernel
theorem dX6_performFrom_107 : decode cX6_performFrom 107 = .ok (.iadd, 1) := by decide +kernel
theorem dX6_performFrom_108 : decode cX6_performFrom 108 = .ok (.invokevirtual 108, 3) := by decide +kernel
theorem dX6_performFrom_111 : decode cX6_performFrom 111 = .ok (.iinc 7 1, 3) := by decide +kernel
theorem dX6_performFrom_114 : decode cX6_performFrom 114 = .ok (.goto (-41), 3) := by decide +kernel
theorem dX6_performFrom_117 : decode cX6_performFrom 117 = .ok (.iload 6, 2) := by decide +kernel
theorem dX6_performFrom_119 : decode cX6_performFrom 119 = .ok (.iconst 1, 1) := by decide +kernel
theorem dX6_performFrom_120 : decode cX6_performFrom 120 = .ok (.isub, 1) := by decide +kernel
theorem dX6_performFrom_121 : decode cX6_performFrom 121 = .ok (.istore 5, 2) := by decide +kernel
theorem dX6_performFrom_123 : decode cX6_performFrom 123 = .ok (.goto 38, 3) := by decide +kernel
theorem dX6_performFrom_126 : decode cX6_performFrom 126 = .ok (.aload_n 0, 1) := by decide +kernel
theorem dX6_performFrom_127 : decode cX6_performFrom 127 = .ok (.aload_n 1, 1) := by decide +kernel
theorem dX6_performFrom_128 : decode cX6_performFrom 128 = .ok (.iload 5, 2) := by decide +kernel
theorem dX6_performFrom_130 : decode cX6_performFrom 130 = .ok (.iconst 4, 1) := by decide +kernel
theorem dX6_performFrom_131 : decode cX6_performFrom 131 = .ok (.imul, 1) := by decide +kernel
theorem dX6_performFrom_132 : decode cX6_performFrom 132 = .ok (.invokevirtual 112, 3) := by decide +kernel
theorem dX6_performFrom_135 : decode cX6_performFrom 135 = .ok (.ifCond .eq 16, 3) := by decide +kernel
theorem dX6_performFrom_138 : decode cX6_performFrom 138 = .ok (.aload_n 0, 1) := by decide +kernel
theorem dX6_performFrom_139 : decode cX6_performFrom 139 = .ok (.dup, 1) := by decide +kernel
theorem dX6_performFrom_140 : decode cX6_performFrom 140 = .ok (.getfield 22, 3) := by decide +kernel
theorem dX6_performFrom_143 : decode cX6_performFrom 143 = .ok (.iconst 1, 1) := by decide +kernel
theorem dX6_performFrom_144 : decode cX6_performFrom 144 = .ok (.iadd, 1) := by decide +kernel
theorem dX6_performFrom_145 : decode cX6_performFrom 145 = .ok (.putfield 22, 3) := by decide +kernel
theorem dX6_performFrom_148 : decode cX6_performFrom 148 = .ok (.goto 13, 3) := by decide +kernel
theorem dX6_performFrom_151 : decode cX6_performFrom 151 = .ok (.aload_n 0, 1) := by decide +kernel
theorem dX6_performFrom_152 : decode cX6_performFrom 152 = .ok (.dup, 1) := by decide +kernel
theorem dX6_performFrom_153 : decode cX6_performFrom 153 = .ok (.getfield 25, 3) := by decide +kernel
theorem dX6_performFrom_156 : decode cX6_performFrom 156 = .ok (.iconst 1, 1) := by decide +kernel
theorem dX6_performFrom_157 : decode cX6_performFrom 157 = .ok (.iadd, 1) := by decide +kernel
theorem dX6_performFrom_158 : decode cX6_performFrom 158 = .ok (.putfield 25, 3) := by decide +kernel
theorem dX6_performFrom_161 : decode cX6_performFrom 161 = .ok (.iinc 5 1, 3) := by decide +kernel
theorem dX6_performFrom_164 : decode cX6_performFrom 164 = .ok (.goto (-161), 3) := by decide +kernel
theorem dX6_performFrom_167 : decode cX6_performFrom 167 = .ok (.return_, 1) := by decide +kernel
theorem dX6_isDone_0 : decode cX6_isDone 0 = .ok (.aload_n 0, 1) := by decide +kernel
theorem dX6_isDone_1 : decode cX6_isDone 1 = .ok (.getfield 11, 3) := by decide +kernel
theorem dX6_isDone_4 : decode cX6_isDone 4 = .ok (.iload_n 2, 1) := by decide +kernel
theorem dX6_isDone_5 : decode cX6_isDone 5 = .ok (.iconst 1, 1) := by decide +kernel
theorem dX6_isDone_6 : decode cX6_isDone 6 = .ok (.iadd, 1) := by decide +kernel
theorem dX6_isDone_7 : decode cX6_isDone 7 = .ok (.iaload, 1) := by decide +kernel
theorem dX6_isDone_8 : decode cX6_isDone 8 = .ok (.istore_n 3, 1) := by decide +kernel
theorem dX6_isDone_9 : decode cX6_isDone 9 = .ok (.aload_n 0, 1) := by decide +kernel
theorem dX6_isDone_10 : decode cX6_isDone 10 = .ok (.getfield 11, 3) := by decide +kernel
theorem dX6_isDone_13 : decode cX6_isDone 13 = .ok (.iload_n 2, 1) := by decide +kernel
theorem dX6_isDone_14 : decode cX6_isDone 14 = .ok (.iconst 2, 1) := by decide +kernel
theorem dX6_isDone_15 : decode cX6_isDone 15 = .ok (.iadd, 1) := by decide +kernel
theorem dX6_isDone_16 : decode cX6_isDone 16 = .ok (.iaload, 1) := by decide +kernel
theorem dX6_isDone_17 : decode cX6_isDone 17 = .ok (.istore 4, 2) := by decide +kernel
theorem dX6_isDone_19 : decode cX6_isDone 19 = .ok (.aload_n 0, 1) := by decide +kernel
theorem dX6_isDone_20 : decode cX6_isDone 20 = .ok (.getfield 11, 3) := by decide +kernel
theorem dX6_isDone_23 : decode cX6_isDone 23 = .ok (.iload_n 2, 1) := by decide +kernel
theorem dX6_isDone_24 : decode cX6_isDone 24 = .ok (.iaload, 1) := by decide +kernel
theorem dX6_isDone_25 : decode cX6_isDone 25 = .ok (.tableswitch 90 0 5 #[39, 47, 53, 60, 68, 84], 39) := by decide +kernel
theorem dX6_isDone_64 : decode cX6_isDone 64 = .ok (.aload_n 1, 1) := by decide +kernel
theorem dX6_isDone_65 : decode cX6_isDone 65 = .ok (.iload_n 3, 1) := by decide +kernel
theorem dX6_isDone_66 : decode cX6_isDone 66 = .ok (.iload 4, 2) := by decide +kernel
theorem dX6_isDone_68 : decode cX6_isDone 68 = .ok (.invokevirtual 116, 3) := by decide +kernel
theorem dX6_isDone_71 : decode cX6_isDone 71 = .ok (.ireturn, 1) := by decide +kernel
theorem dX6_isDone_72 : decode cX6_isDone 72 = .ok (.aload_n 1, 1) := by decide +kernel
theorem dX6_isDone_73 : decode cX6_isDone 73 = .ok (.iload_n 3, 1) := by decide +kernel
theorem dX6_isDone_74 : decode cX6_isDone 74 = .ok (.invokevirtual 120, 3) := by decide +kernel
theorem dX6_isDone_77 : decode cX6_isDone 77 = .ok (.ireturn, 1) := by decide +kernel
theorem dX6_isDone_78 : decode cX6_isDone 78 = .ok (.aload_n 1, 1) := by decide +kernel
theorem dX6_isDone_79 : decode cX6_isDone 79 = .ok (.iload_n 3, 1) := by decide +kernel
theorem dX6_isDone_80 : decode cX6_isDone 80 = .ok (.ineg, 1) := by decide +kernel
theorem dX6_isDone_81 : decode cX6_isDone 81 = .ok (.invokevirtual 120, 3) := by decide +kernel
theorem dX6_isDone_84 : decode cX6_isDone 84 = .ok (.ireturn, 1) := by decide +kernel
theorem dX6_isDone_85 : decode cX6_isDone 85 = .ok (.aload_n 1, 1) := by decide +kernel
theorem dX6_isDone_86 : decode cX6_isDone 86 = .ok (.iload_n 3, 1) := by decide +kernel
theorem dX6_isDone_87 : decode cX6_isDone 87 = .ok (.iload 4, 2) := by decide +kernel
theorem dX6_isDone_89 : decode cX6_isDone 89 = .ok (.invokevirtual 123, 3) := by decide +kernel
theorem dX6_isDone_92 : decode cX6_isDone 92 = .ok (.ireturn, 1) := by decide +kernel
theorem dX6_isDone_93 : decode cX6_isDone 93 = .ok (.aload_n 1, 1) := by decide +kernel
theorem dX6_isDone_94 : decode cX6_isDone 94 = .ok (.iload_n 3, 1) := by decide +kernel
theorem dX6_isDone_95 : decode cX6_isDone 95 = .ok (.iload 4, 2) := by decide +kernel
theorem dX6_isDone_97 : decode cX6_isDone 97 = .ok (.aload_n 0, 1) := by decide +kernel
theorem dX6_isDone_98 : decode cX6_isDone 98 = .ok (.getfield 11, 3) := by decide +kernel
theorem dX6_isDone_101 : decode cX6_isDone 101 = .ok (.iload_n 2, 1) := by decide +kernel
theorem dX6_isDone_102 : decode cX6_isDone 102 = .ok (.iconst 3, 1) := by decide +kernel
theorem dX6_isDone_103 : decode cX6_isDone 103 = .ok (.iadd, 1) := by decide +kernel
theorem dX6_isDone_104 : decode cX6_isDone 104 = .ok (.iaload, 1) := by decide +kernel
theorem dX6_isDone_105 : decode cX6_isDone 105 = .ok (.invokevirtual 126, 3) := by decide +kernel
theorem dX6_isDone_108 : decode cX6_isDone 108 = .ok (.ireturn, 1) := by decide +kernel
theorem dX6_isDone_109 : decode cX6_isDone 109 = .ok (.aload_n 1, 1) := by decide +kernel
theorem dX6_isDone_110 : decode cX6_isDone 110 = .ok (.iload_n 3, 1) := by decide +kernel
theorem dX6_isDone_111 : decode cX6_isDone 111 = .ok (.invokevirtual 130, 3) := by decide +kernel
theorem dX6_isDone_114 : decode cX6_isDone 114 = .ok (.ireturn, 1) := by decide +kernel
theorem dX6_isDone_115 : decode cX6_isDone 115 = .ok (.aload_n 1, 1) := by decide +kernel
theorem dX6_isDone_116 : decode cX6_isDone 116 = .ok (.sipush 400, 3) := by decide +kernel
theorem dX6_isDone_119 : decode cX6_isDone 119 = .ok (.invokevirtual 133, 3) := by decide +kernel
theorem dX6_isDone_122 : decode cX6_isDone 122 = .ok (.ireturn, 1) := by decide +kernel
