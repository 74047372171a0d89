theorem dX2_init_0 : decode cX2_init 0 = .ok (.aload_n 0, 1) := by decide +kernel
theorem dX2_init_1 : decode cX2_init 1 = .ok (.invokespecial 3, 3) := by decide +kernel
theorem dX2_init_4 : decode cX2_init 4 = .ok (.aload_n 0, 1) := by decide +kernel
theorem dX2_init_5 : decode cX2_init 5 = .ok (.sipush 150, 3) := by decide +kernel
theorem dX2_init_8 : decode cX2_init 8 = .ok (.newarray .int, 2) := by decide +kernel
theorem dX2_init_10 : decode cX2_init 10 = .ok (.putfield 9, 3) := by decide +kernel
theorem dX2_init_13 : decode cX2_init 13 = .ok (.aload_n 0, 1) := by decide +kernel
theorem dX2_init_14 : decode cX2_init 14 = .ok (.iconst 0, 1) := by decide +kernel
theorem dX2_init_15 : decode cX2_init 15 = .ok (.putfield 15, 3) := by decide +kernel
theorem dX2_init_18 : decode cX2_init 18 = .ok (.aload_n 0, 1) := by decide +kernel
theorem dX2_init_19 : decode cX2_init 19 = .ok (.sipush 150, 3) := by decide +kernel
theorem dX2_init_22 : decode cX2_init 22 = .ok (.newarray .int, 2) := by decide +kernel
theorem dX2_init_24 : decode cX2_init 24 = .ok (.putfield 19, 3) := by decide +kernel
theorem dX2_init_27 : decode cX2_init 27 = .ok (.aload_n 0, 1) := by decide +kernel
theorem dX2_init_28 : decode cX2_init 28 = .ok (.iconst 0, 1) := by decide +kernel
theorem dX2_init_29 : decode cX2_init 29 = .ok (.putfield 22, 3) := by decide +kernel
theorem dX2_init_32 : decode cX2_init 32 = .ok (.aload_n 0, 1) := by decide +kernel
theorem dX2_init_33 : decode cX2_init 33 = .ok (.sipush 150, 3) := by decide +kernel
theorem dX2_init_36 : decode cX2_init 36 = .ok (.newarray .int, 2) := by decide +kernel
theorem dX2_init_38 : decode cX2_init 38 = .ok (.putfield 25, 3) := by decide +kernel
theorem dX2_init_41 : decode cX2_init 41 = .ok (.aload_n 0, 1) := by decide +kernel
theorem dX2_init_42 : decode cX2_init 42 = .ok (.iconst 0, 1) := by decide +kernel
theorem dX2_init_43 : decode cX2_init 43 = .ok (.putfield 28, 3) := by decide +kernel
theorem dX2_init_46 : decode cX2_init 46 = .ok (.aload_n 0, 1) := by decide +kernel
theorem dX2_init_47 : decode cX2_init 47 = .ok (.bipush 8, 2) := by decide +kernel
theorem dX2_init_49 : decode cX2_init 49 = .ok (.newarray .int, 2) := by decide +kernel
theorem dX2_init_51 : decode cX2_init 51 = .ok (.putfield 31, 3) := by decide +kernel
theorem dX2_init_54 : decode cX2_init 54 = .ok (.aload_n 0, 1) := by decide +kernel
theorem dX2_init_55 : decode cX2_init 55 = .ok (.invokevirtual 34, 3) := by decide +kernel
theorem dX2_init_58 : decode cX2_init 58 = .ok (.return_, 1) := by decide +kernel
theorem dX2_forget_0 : decode cX2_forget 0 = .ok (.getstatic 37, 3) := by decide +kernel
theorem dX2_forget_3 : decode cX2_forget 3 = .ok (.iconst 0, 1) := by decide +kernel
theorem dX2_forget_4 : decode cX2_forget 4 = .ok (.aload_n 0, 1) := by decide +kernel
theorem dX2_forget_5 : decode cX2_forget 5 = .ok (.getfield 19, 3) := by decide +kernel
theorem dX2_forget_8 : decode cX2_forget 8 = .ok (.iconst 0, 1) := by decide +kernel
theorem dX2_forget_9 : decode cX2_forget 9 = .ok (.getstatic 37, 3) := by decide +kernel
theorem dX2_forget_12 : decode cX2_forget 12 = .ok (.arraylength, 1) := by decide +kernel
theorem dX2_forget_13 : decode cX2_forget 13 = .ok (.invokestatic 40, 3) := by decide +kernel
theorem dX2_forget_16 : decode cX2_forget 16 = .ok (.aload_n 0, 1) := by decide +kernel
theorem dX2_forget_17 : decode cX2_forget 17 = .ok (.getstatic 37, 3) := by decide +kernel
theorem dX2_forget_20 : decode cX2_forget 20 = .ok (.arraylength, 1) := by decide +kernel
theorem dX2_forget_21 : decode cX2_forget 21 = .ok (.putfield 22, 3) := by decide +kernel
theorem dX2_forget_24 : decode cX2_forget 24 = .ok (.aload_n 0, 1) := by decide +kernel
theorem dX2_forget_25 : decode cX2_forget 25 = .ok (.invokevirtual 46, 3) := by decide +kernel
theorem dX2_forget_28 : decode cX2_forget 28 = .ok (.return_, 1) := by decide +kernel
theorem dX2_uses_0 : decode cX2_uses 0 = .ok (.aload_n 0, 1) := by decide +kernel
theorem dX2_uses_1 : decode cX2_uses 1 = .ok (.getfield 28, 3) := by decide +kernel
theorem dX2_uses_4 : decode cX2_uses 4 = .ok (.iload_n 1, 1) := by decide +kernel
theorem dX2_uses_5 : decode cX2_uses 5 = .ok (.ishr, 1) := by decide +kernel
theorem dX2_uses_6 : decode cX2_uses 6 = .ok (.iconst 1, 1) := by decide +kernel
theorem dX2_uses_7 : decode cX2_uses 7 = .ok (.iand, 1) := by decide +kernel
theorem dX2_uses_8 : decode cX2_uses 8 = .ok (.iconst 1, 1) := by decide +kernel
theorem dX2_uses_9 : decode cX2_uses 9 = .ok (.if_icmp .ne 7, 3) := by decide +kernel
theorem dX2_uses_12 : decode cX2_uses 12 = .ok (.iconst 1, 1) := by decide +kernel
theorem dX2_uses_13 : decode cX2_uses 13 = .ok (.goto 4, 3) := by decide +kernel
theorem dX2_uses_16 : decode cX2_uses 16 = .ok (.iconst 0, 1) := by decide +kernel
theorem dX2_uses_17 : decode cX2_uses 17 = .ok (.ireturn, 1) := by decide +kernel
theorem dX2_life_0 : decode cX2_life 0 = .ok (.iconst 0, 1) := by decide +kernel
theorem dX2_life_1 : decode cX2_life 1 = .ok (.istore_n 1, 1) := by decide +kernel
theorem dX2_life_2 : decode cX2_life 2 = .ok (.iconst 0, 1) := by decide +kernel
theorem dX2_life_3 : decode cX2_life 3 = .ok (.istore_n 2, 1) := by decide +kernel
theorem dX2_life_4 : decode cX2_life 4 = .ok (.iload_n 2, 1) := by decide +kernel
theorem dX2_life_5 : decode cX2_life 5 = .ok (.aload_n 0, 1) := by decide +kernel
theorem dX2_life_6 : decode cX2_life 6 = .ok (.getfield 15, 3) := by decide +kernel
theorem dX2_life_9 : decode cX2_life 9 = .ok (.if_icmp .ge 97, 3) := by decide +kernel
theorem dX2_life_12 : decode cX2_life 12 = .ok (.aload_n 0, 1) := by decide +kernel
theorem dX2_life_13 : decode cX2_life 13 = .ok (.getfield 9, 3) := by decide +kernel
theorem dX2_life_16 : decode cX2_life 16 = .ok (.iload_n 2, 1) := by decide +kernel
theorem dX2_life_17 : decode cX2_life 17 = .ok (.iaload, 1) := by decide +kernel
theorem dX2_life_18 : decode cX2_life 18 = .ok (.istore_n 3, 1) := by decide +kernel
theorem dX2_life_19 : decode cX2_life 19 = .ok (.iload_n 3, 1) := by decide +kernel
theorem dX2_life_20 : decode cX2_life 20 = .ok (.sipush 2000, 3) := by decide +kernel
theorem dX2_life_23 : decode cX2_life 23 = .ok (.if_icmp .ge 43, 3) := by decide +kernel
theorem dX2_life_26 : decode cX2_life 26 = .ok (.iload_n 1, 1) := by decide +kernel
theorem dX2_life_27 : decode cX2_life 27 = .ok (.sipush 150, 3) := by decide +kernel
theorem dX2_life_30 : decode cX2_life 30 = .ok (.if_icmp .ge 36, 3) := by decide +kernel
theorem dX2_life_33 : decode cX2_life 33 = .ok (.aload_n 0, 1) := by decide +kernel
theorem dX2_life_34 : decode cX2_life 34 = .ok (.getfield 25, 3) := by decide +kernel
theorem dX2_life_37 : decode cX2_life 37 = .ok (.iload_n 1, 1) := by decide +kernel
theorem dX2_life_38 : decode cX2_life 38 = .ok (.iload_n 3, 1) := by decide +kernel
theorem dX2_life_39 : decode cX2_life 39 = .ok (.sipush 1000, 3) := by decide +kernel
theorem dX2_life_42 : decode cX2_life 42 = .ok (.if_icmp .ge 7, 3) := by decide +kernel
theorem dX2_life_45 : decode cX2_life 45 = .ok (.iload_n 3, 1) := by decide +kernel
theorem dX2_life_46 : decode cX2_life 46 = .ok (.goto 13, 3) := by decide +kernel
theorem dX2_life_49 : decode cX2_life 49 = .ok (.aload_n 0, 1) := by decide +kernel
theorem dX2_life_50 : decode cX2_life 50 = .ok (.getfield 31, 3) := by decide +kernel
theorem dX2_life_53 : decode cX2_life 53 = .ok (.iload_n 3, 1) := by decide +kernel
theorem dX2_life_54 : decode cX2_life 54 = .ok (.sipush 1000, 3) := by decide +kernel
theorem dX2_life_57 : decode cX2_life 57 = .ok (.isub, 1) := by decide +kernel
theorem dX2_life_58 : decode cX2_life 58 = .ok (.iaload, 1) := by decide +kernel
theorem dX2_life_59 : decode cX2_life 59 = .ok (.iastore, 1) := by decide +kernel
theorem dX2_life_60 : decode cX2_life 60 = .ok (.iinc 1 1, 3) := by decide +kernel
theorem dX2_life_63 : decode cX2_life 63 = .ok (.goto 37, 3) := by decide +kernel
theorem dX2_life_66 : decode cX2_life 66 = .ok (.iload_n 1, 1) := by decide +kernel
theorem dX2_life_67 : decode cX2_life 67 = .ok (.iconst 2, 1) := by decide +kernel
theorem dX2_life_68 : decode cX2_life 68 = .ok (.if_icmp .lt 32, 3) := by decide +kernel
theorem dX2_life_71 : decode cX2_life 71 = .ok (.iinc 1 (-1), 3) := by decide +kernel
theorem dX2_life_74 : decode cX2_life 74 = .ok (.aload_n 0, 1) := by decide +kernel
theorem dX2_life_75 : decode cX2_life 75 = .ok (.getfield 25, 3) := by decide +kernel
theorem dX2_life_78 : decode cX2_life 78 = .ok (.iload_n 1, 1) := by decide +kernel
theorem dX2_life_79 : decode cX2_life 79 = .ok (.iconst 1, 1) := by decide +kernel
theorem dX2_life_80 : decode cX2_life 80 = .ok (.isub, 1) := by decide +kernel
theorem dX2_life_81 : decode cX2_life 81 = .ok (.iload_n 3, 1) := by decide +kernel
theorem dX2_life_82 : decode cX2_life 82 = .ok (.aload_n 0, 1) := by decide +kernel
theorem dX2_life_83 : decode cX2_life 83 = .ok (.getfield 25, 3) := by decide +kernel
theorem dX2_life_86 : decode cX2_life 86 = .ok (.iload_n 1, 1) := by decide +kernel
theorem dX2_life_87 : decode cX2_life 87 = .ok (.iconst 1, 1) := by decide +kernel
theorem dX2_life_88 : decode cX2_life 88 = .ok (.isub, 1) := by decide +kernel
theorem dX2_life_89 : decode cX2_life 89 = .ok (.iaload, 1) := by decide +kernel
theorem dX2_life_90 : decode cX2_life 90 = .ok (.aload_n 0, 1) := by decide +kernel
theorem dX2_life_91 : decode cX2_life 91 = .ok (.getfield 25, 3) := by decide +kernel
theorem dX2_life_94 : decode cX2_life 94 = .ok (.iload_n 1, 1) := by decide +kernel
theorem dX2_life_95 : decode cX2_life 95 = .ok (.iaload, 1) := by decide +kernel
theorem dX2_life_96 : decode cX2_life 96 = .ok (.invokestatic 49, 3) := by decide +kernel
theorem dX2_life_99 : decode cX2_life 99 = .ok (.iastore, 1) := by decide +kernel
theorem dX2_life_100 : decode cX2_life 100 = .ok (.iinc 2 1, 3) := by decide +kernel
theorem dX2_life_103 : decode cX2_life 103 = .ok (.goto (-99), 3) := by decide +kernel
theorem dX2_life_106 : decode cX2_life 106 = .ok (.iconst 1, 1) := by decide +kernel
theorem dX2_life_107 : decode cX2_life 107 = .ok (.bipush 60, 2) := by decide +kernel
theorem dX2_life_109 : decode cX2_life 109 = .ok (.aload_n 0, 1) := by decide +kernel
theorem dX2_life_110 : decode cX2_life 110 = .ok (.getfield 25, 3) := by decide +kernel
theorem dX2_life_113 : decode cX2_life 113 = .ok (.iconst 0, 1) := by decide +kernel
theorem dX2_life_114 : decode cX2_life 114 = .ok (.iaload, 1) := by decide +kernel
theorem dX2_life_115 : decode cX2_life 115 = .ok (.invokestatic 53, 3) := by decide +kernel
theorem dX2_life_118 : decode cX2_life 118 = .ok (.invokestatic 59, 3) := by decide +kernel
theorem dX2_life_121 : decode cX2_life 121 = .ok (.ireturn, 1) := by decide +kernel
theorem dX2_combined_0 : decode cX2_combined 0 = .ok (.iload_n 0, 1) := by decide +kernel
theorem dX2_combined_1 : decode cX2_combined 1 = .ok (.tableswitch 81 2000 2005 #[39, 43, 47, 51, 63, 75], 39) := by decide +kernel
theorem dX2_combined_40 : decode cX2_combined 40 = .ok (.iload_n 1, 1) := by decide +kernel
theorem dX2_combined_41 : decode cX2_combined 41 = .ok (.iload_n 2, 1) := by decide +kernel
theorem dX2_combined_42 : decode cX2_combined 42 = .ok (.iadd, 1) := by decide +kernel
theorem dX2_combined_43 : decode cX2_combined 43 = .ok (.ireturn, 1) := by decide +kernel
theorem dX2_combined_44 : decode cX2_combined 44 = .ok (.iload_n 1, 1) := by decide +kernel
theorem dX2_combined_45 : decode cX2_combined 45 = .ok (.iload_n 2, 1) := by decide +kernel
theorem dX2_combined_46 : decode cX2_combined 46 = .ok (.isub, 1) := by decide +kernel
theorem dX2_combined_47 : decode cX2_combined 47 = .ok (.ireturn, 1) := by decide +kernel
theorem dX2_combined_48 : decode cX2_combined 48 = .ok (.iload_n 1, 1) := by decide +kernel
theorem dX2_combined_49 : decode cX2_combined 49 = .ok (.iload_n 2, 1) := by decide +kernel
theorem dX2_combined_50 : decode cX2_combined 50 = .ok (.imul, 1) := by decide +kernel
theorem dX2_combined_51 : decode cX2_combined 51 = .ok (.ireturn, 1) := by decide +kernel
theorem dX2_combined_52 : decode cX2_combined 52 = .ok (.iload_n 2, 1) := by decide +kernel
theorem dX2_combined_53 : decode cX2_combined 53 = .ok (.ifCond .ne 7, 3) := by decide +kernel
theorem dX2_combined_56 : decode cX2_combined 56 = .ok (.iconst 0, 1) := by decide +kernel
theorem dX2_combined_57 : decode cX2_combined 57 = .ok (.goto 6, 3) := by decide +kernel
theorem dX2_combined_60 : decode cX2_combined 60 = .ok (.iload_n 1, 1) := by decide +kernel
theorem dX2_combined_61 : decode cX2_combined 61 = .ok (.iload_n 2, 1) := by decide +kernel
theorem dX2_combined_62 : decode cX2_combined 62 = .ok (.idiv, 1) := by decide +kernel
theorem dX2_combined_63 : decode cX2_combined 63 = .ok (.ireturn, 1) := by decide +kernel
theorem dX2_combined_64 : decode cX2_combined 64 = .ok (.iload_n 2, 1) := by decide +kernel
theorem dX2_combined_65 : decode cX2_combined 65 = .ok (.ifCond .ne 7, 3) := by decide +kernel
theorem dX2_combined_68 : decode cX2_combined 68 = .ok (.iconst 0, 1) := by decide +kernel
theorem dX2_combined_69 : decode cX2_combined 69 = .ok (.goto 6, 3) := by decide +kernel
theorem dX2_combined_72 : decode cX2_combined 72 = .ok (.iload_n 1, 1) := by decide +kernel
theorem dX2_combined_73 : decode cX2_combined 73 = .ok (.iload_n 2, 1) := by decide +kernel
theorem dX2_combined_74 : decode cX2_combined 74 = .ok (.irem, 1) := by decide +kernel
theorem dX2_combined_75 : decode cX2_combined 75 = .ok (.ireturn, 1) := by decide +kernel
theorem dX2_combined_76 : decode cX2_combined 76 = .ok (.iload_n 1, 1) := by decide +kernel
theorem dX2_combined_77 : decode cX2_combined 77 = .ok (.iload_n 2, 1) := by decide +kernel
theorem dX2_combined_78 : decode cX2_combined 78 = .ok (.invokestatic 53, 3) := by decide +kernel
theorem dX2_combined_81 : decode cX2_combined 81 = .ok (.ireturn, 1) := by decide +kernel
theorem dX2_combined_82 : decode cX2_combined 82 = .ok (.iload_n 1, 1) := by decide +kernel
theorem dX2_combined_83 : decode cX2_combined 83 = .ok (.iload_n 2, 1) := by decide +kernel
theorem dX2_combined_84 : decode cX2_combined 84 = .ok (.invokestatic 59, 3) := by decide +kernel
theorem dX2_combined_87 : decode cX2_combined 87 = .ok (.ireturn, 1) := by decide +kernel
theorem dX2_read_0 : decode cX2_read 0 = .ok (.aload_n 0, 1) := by decide +kernel
theorem dX2_read_1 : decode cX2_read 1 = .ok (.iconst 0, 1) := by decide +kernel
theorem dX2_read_2 : decode cX2_read 2 = .ok (.putfield 22, 3) := by decide +kernel
theorem dX2_read_5 : decode cX2_read 5 = .ok (.aload_n 0, 1) := by decide +kernel
theorem dX2_read_6 : decode cX2_read 6 = .ok (.aload_n 1, 1) := by decide +kernel
theorem dX2_read_7 : decode cX2_read 7 = .ok (.iconst 0, 1) := by decide +kernel
theorem dX2_read_8 : decode cX2_read 8 = .ok (.invokevirtual 62, 3) := by decide +kernel
theorem dX2_read_11 : decode cX2_read 11 = .ok (.ifCond .ne 5, 3) := by decide +kernel
theorem dX2_read_14 : decode cX2_read 14 = .ok (.iconst 0, 1) := by decide +kernel
theorem dX2_read_15 : decode cX2_read 15 = .ok (.ireturn, 1) := by decide +kernel
theorem dX2_read_16 : decode cX2_read 16 = .ok (.aload_n 1, 1) := by decide +kernel
theorem dX2_read_17 : decode cX2_read 17 = .ok (.invokevirtual 66, 3) := by decide +kernel
theorem dX2_read_20 : decode cX2_read 20 = .ok (.ifCond .eq 9, 3) := by decide +kernel
theorem dX2_read_23 : decode cX2_read 23 = .ok (.aload_n 1, 1) := by decide +kernel
theorem dX2_read_24 : decode cX2_read 24 = .ok (.iconst 1, 1) := by decide +kernel
theorem dX2_read_25 : decode cX2_read 25 = .ok (.invokevirtual 72, 3) := by decide +kernel
theorem dX2_read_28 : decode cX2_read 28 = .ok (.ireturn, 1) := by decide +kernel
theorem dX2_read_29 : decode cX2_read 29 = .ok (.aload_n 0, 1) := by decide +kernel
theorem dX2_read_30 : decode cX2_read 30 = .ok (.invokevirtual 46, 3) := by decide +kernel
theorem dX2_read_33 : decode cX2_read 33 = .ok (.iconst 1, 1) := by decide +kernel
theorem dX2_read_34 : decode cX2_read 34 = .ok (.ireturn, 1) := by decide +kernel
theorem dX2_takeDraft_0 : decode cX2_takeDraft 0 = .ok (.aload_n 0, 1) := by decide +kernel
theorem dX2_takeDraft_1 : decode cX2_takeDraft 1 = .ok (.iconst 0, 1) := by decide +kernel
theorem dX2_takeDraft_2 : decode cX2_takeDraft 2 = .ok (.putfield 28, 3) := by decide +kernel
theorem dX2_takeDraft_5 : decode cX2_takeDraft 5 = .ok (.aload_n 0, 1) := by decide +kernel
theorem dX2_takeDraft_6 : decode cX2_takeDraft 6 = .ok (.aload_n 0, 1) := by decide +kernel
theorem dX2_takeDraft_7 : decode cX2_takeDraft 7 = .ok (.getfield 22, 3) := by decide +kernel
theorem dX2_takeDraft_10 : decode cX2_takeDraft 10 = .ok (.putfield 15, 3) := by decide +kernel
theorem dX2_takeDraft_13 : decode cX2_takeDraft 13 = .ok (.iconst 0, 1) := by decide +kernel
theorem dX2_takeDraft_14 : decode cX2_takeDraft 14 = .ok (.istore_n 1, 1) := by decide +kernel
theorem dX2_takeDraft_15 : decode cX2_takeDraft 15 = .ok (.iload_n 1, 1) := by decide +kernel
theorem dX2_takeDraft_16 : decode cX2_takeDraft 16 = .ok (.aload_n 0, 1) := by decide +kernel
theorem dX2_takeDraft_17 : decode cX2_takeDraft 17 = .ok (.getfield 15, 3) := by decide +kernel
theorem dX2_takeDraft_20 : decode cX2_takeDraft 20 = .ok (.if_icmp .ge 66, 3) := by decide +kernel
theorem dX2_takeDraft_23 : decode cX2_takeDraft 23 = .ok (.aload_n 0, 1) := by decide +kernel
theorem dX2_takeDraft_24 : decode cX2_takeDraft 24 = .ok (.getfield 9, 3) := by decide +kernel
theorem dX2_takeDraft_27 : decode cX2_takeDraft 27 = .ok (.iload_n 1, 1) := by decide +kernel
theorem dX2_takeDraft_28 : decode cX2_takeDraft 28 = .ok (.aload_n 0, 1) := by decide +kernel
theorem dX2_takeDraft_29 : decode cX2_takeDraft 29 = .ok (.getfield 19, 3) := by decide +kernel
theorem dX2_takeDraft_32 : decode cX2_takeDraft 32 = .ok (.iload_n 1, 1) := by decide +kernel
theorem dX2_takeDraft_33 : decode cX2_takeDraft 33 = .ok (.iaload, 1) := by decide +kernel
theorem dX2_takeDraft_34 : decode cX2_takeDraft 34 = .ok (.iastore, 1) := by decide +kernel
theorem dX2_takeDraft_35 : decode cX2_takeDraft 35 = .ok (.aload_n 0, 1) := by decide +kernel
theorem dX2_takeDraft_36 : decode cX2_takeDraft 36 = .ok (.getfield 9, 3) := by decide +kernel
theorem dX2_takeDraft_39 : decode cX2_takeDraft 39 = .ok (.iload_n 1, 1) := by decide +kernel
theorem dX2_takeDraft_40 : decode cX2_takeDraft 40 = .ok (.iaload, 1) := by decide +kernel
theorem dX2_takeDraft_41 : decode cX2_takeDraft 41 = .ok (.sipush 1000, 3) := by decide +kernel
theorem dX2_takeDraft_44 : decode cX2_takeDraft 44 = .ok (.if_icmp .lt 36, 3) := by decide +kernel
theorem dX2_takeDraft_47 : decode cX2_takeDraft 47 = .ok (.aload_n 0, 1) := by decide +kernel
theorem dX2_takeDraft_48 : decode cX2_takeDraft 48 = .ok (.getfield 9, 3) := by decide +kernel
theorem dX2_takeDraft_51 : decode cX2_takeDraft 51 = .ok (.iload_n 1, 1) := by decide +kernel
theorem dX2_takeDraft_52 : decode cX2_takeDraft 52 = .ok (.iaload, 1) := by decide +kernel
theorem dX2_takeDraft_53 : decode cX2_takeDraft 53 = .ok (.sipush 2000, 3) := by decide +kernel
theorem dX2_takeDraft_56 : decode cX2_takeDraft 56 = .ok (.if_icmp .ge 24, 3) := by decide +kernel
theorem dX2_takeDraft_59 : decode cX2_takeDraft 59 = .ok (.aload_n 0, 1) := by decide +kernel
theorem dX2_takeDraft_60 : decode cX2_takeDraft 60 = .ok (.dup, 1) := by decide +kernel
theorem dX2_takeDraft_61 : decode cX2_takeDraft 61 = .ok (.getfield 28, 3) := by decide +kernel
theorem dX2_takeDraft_64 : decode cX2_takeDraft 64 = .ok (.iconst 1, 1) := by decide +kernel
theorem dX2_takeDraft_65 : decode cX2_takeDraft 65 = .ok (.aload_n 0, 1) := by decide +kernel
theorem dX2_takeDraft_66 : decode cX2_takeDraft 66 = .ok (.getfield 9, 3) := by decide +kernel
theorem dX2_takeDraft_69 : decode cX2_takeDraft 69 = .ok (.iload_n 1, 1) := by decide +kernel
theorem dX2_takeDraft_70 : decode cX2_takeDraft 70 = .ok (.iaload, 1) := by decide +kernel
theorem dX2_takeDraft_71 : decode cX2_takeDraft 71 = .ok (.sipush 1000, 3) := by decide +kernel
theorem dX2_takeDraft_74 : decode cX2_takeDraft 74 = .ok (.isub, 1) := by decide +kernel
theorem dX2_takeDraft_75 : decode cX2_takeDraft 75 = .ok (.ishl, 1) := by decide +kernel
theorem dX2_takeDraft_76 : decode cX2_takeDraft 76 = .ok (.ior, 1) := by decide +kernel
theorem dX2_takeDraft_77 : decode cX2_takeDraft 77 = .ok (.putfield 28, 3) := by decide +kernel
theorem dX2_takeDraft_80 : decode cX2_takeDraft 80 = .ok (.iinc 1 1, 3) := by decide +kernel
theorem dX2_takeDraft_83 : decode cX2_takeDraft 83 = .ok (.goto (-68), 3) := by decide +kernel
theorem dX2_takeDraft_86 : decode cX2_takeDraft 86 = .ok (.return_, 1) := by decide +kernel
theorem dX2_put_0 : decode cX2_put 0 = .ok (.aload_n 0, 1) := by decide +kernel
theorem dX2_put_1 : decode cX2_put 1 = .ok (.getfield 22, 3) := by decide +kernel
theorem dX2_put_4 : decode cX2_put 4 = .ok (.sipush 150, 3) := by decide +kernel
theorem dX2_put_7 : decode cX2_put 7 = .ok (.if_icmp .ge 23, 3) := by decide +kernel
theorem dX2_put_10 : decode cX2_put 10 = .ok (.aload_n 0, 1) := by decide +kernel
theorem dX2_put_11 : decode cX2_put 11 = .ok (.getfield 19, 3) := by decide +kernel
theorem dX2_put_14 : decode cX2_put 14 = .ok (.aload_n 0, 1) := by decide +kernel
theorem dX2_put_15 : decode cX2_put 15 = .ok (.getfield 22, 3) := by decide +kernel
theorem dX2_put_18 : decode cX2_put 18 = .ok (.iload_n 1, 1) := by decide +kernel
theorem dX2_put_19 : decode cX2_put 19 = .ok (.iastore, 1) := by decide +kernel
theorem dX2_put_20 : decode cX2_put 20 = .ok (.aload_n 0, 1) := by decide +kernel
theorem dX2_put_21 : decode cX2_put 21 = .ok (.dup, 1) := by decide +kernel
theorem dX2_put_22 : decode cX2_put 22 = .ok (.getfield 22, 3) := by decide +kernel
theorem dX2_put_25 : decode cX2_put 25 = .ok (.iconst 1, 1) := by decide +kernel
theorem dX2_put_26 : decode cX2_put 26 = .ok (.iadd, 1) := by decide +kernel
theorem dX2_put_27 : decode cX2_put 27 = .ok (.putfield 22, 3) := by decide +kernel
theorem dX2_put_30 : decode cX2_put 30 = .ok (.iconst 1, 1) := by decide +kernel
theorem dX2_put_31 : decode cX2_put 31 = .ok (.ireturn, 1) := by decide +kernel
theorem dX2_readSum_0 : decode cX2_readSum 0 = .ok (.aload_n 0, 1) := by decide +kernel
theorem dX2_readSum_1 : decode cX2_readSum 1 = .ok (.aload_n 1, 1) := by decide +kernel
theorem dX2_readSum_2 : decode cX2_readSum 2 = .ok (.iload_n 2, 1) := by decide +kernel
theorem dX2_readSum_3 : decode cX2_readSum 3 = .ok (.invokevirtual 76, 3) := by decide +kernel
theorem dX2_readSum_6 : decode cX2_readSum 6 = .ok (.ifCond .ne 5, 3) := by decide +kernel
theorem dX2_readSum_9 : decode cX2_readSum 9 = .ok (.iconst 0, 1) := by decide +kernel
theorem dX2_readSum_10 : decode cX2_readSum 10 = .ok (.ireturn, 1) := by decide +kernel
theorem dX2_readSum_11 : decode cX2_readSum 11 = .ok (.iconst 0, 1) := by decide +kernel
theorem dX2_readSum_12 : decode cX2_readSum 12 = .ok (.istore_n 3, 1) := by decide +kernel
theorem dX2_readSum_13 : decode cX2_readSum 13 = .ok (.iload_n 3, 1) := by decide +kernel
theorem dX2_readSum_14 : decode cX2_readSum 14 = .ok (.sipush 150, 3) := by decide +kernel
theorem dX2_readSum_17 : decode cX2_readSum 17 = .ok (.if_icmp .ge 68, 3) := by decide +kernel
theorem dX2_readSum_20 : decode cX2_readSum 20 = .ok (.aload_n 1, 1) := by decide +kernel
theorem dX2_readSum_21 : decode cX2_readSum 21 = .ok (.bipush 43, 2) := by decide +kernel
theorem dX2_readSum_23 : decode cX2_readSum 23 = .ok (.invokevirtual 79, 3) := by decide +kernel
theorem dX2_readSum_26 : decode cX2_readSum 26 = .ok (.ifCond .eq 9, 3) := by decide +kernel
theorem dX2_readSum_29 : decode cX2_readSum 29 = .ok (.sipush 2000, 3) := by decide +kernel
theorem dX2_readSum_32 : decode cX2_readSum 32 = .ok (.goto 19, 3) := by decide +kernel
theorem dX2_readSum_35 : decode cX2_readSum 35 = .ok (.aload_n 1, 1) := by decide +kernel
theorem dX2_readSum_36 : decode cX2_readSum 36 = .ok (.bipush 45, 2) := by decide +kernel
theorem dX2_readSum_38 : decode cX2_readSum 38 = .ok (.invokevirtual 79, 3) := by decide +kernel
theorem dX2_readSum_41 : decode cX2_readSum 41 = .ok (.ifCond .eq 9, 3) := by decide +kernel
theorem dX2_readSum_44 : decode cX2_readSum 44 = .ok (.sipush 2001, 3) := by decide +kernel
theorem dX2_readSum_47 : decode cX2_readSum 47 = .ok (.goto 4, 3) := by decide +kernel
theorem dX2_readSum_50 : decode cX2_readSum 50 = .ok (.iconst (-1), 1) := by decide +kernel
theorem dX2_readSum_51 : decode cX2_readSum 51 = .ok (.istore 4, 2) := by decide +kernel
theorem dX2_readSum_53 : decode cX2_readSum 53 = .ok (.iload 4, 2) := by decide +kernel
theorem dX2_readSum_55 : decode cX2_readSum 55 = .ok (.iconst (-1), 1) := by decide +kernel
theorem dX2_readSum_56 : decode cX2_readSum 56 = .ok (.if_icmp .ne 5, 3) := by decide +kernel
theorem dX2_readSum_59 : decode cX2_readSum 59 = .ok (.iconst 1, 1) := by decide +kernel
theorem dX2_readSum_60 : decode cX2_readSum 60 = .ok (.ireturn, 1) := by decide +kernel
theorem dX2_readSum_61 : decode cX2_readSum 61 = .ok (.aload_n 0, 1) := by decide +kernel
theorem dX2_readSum_62 : decode cX2_readSum 62 = .ok (.aload_n 1, 1) := by decide +kernel
theorem dX2_readSum_63 : decode cX2_readSum 63 = .ok (.iload_n 2, 1) := by decide +kernel
theorem dX2_readSum_64 : decode cX2_readSum 64 = .ok (.invokevirtual 76, 3) := by decide +kernel
theorem dX2_readSum_67 : decode cX2_readSum 67 = .ok (.ifCond .ne 5, 3) := by decide +kernel
theorem dX2_readSum_70 : decode cX2_readSum 70 = .ok (.iconst 0, 1) := by decide +kernel
theorem dX2_readSum_71 : decode cX2_readSum 71 = .ok (.ireturn, 1) := by decide +kernel
theorem dX2_readSum_72 : decode cX2_readSum 72 = .ok (.aload_n 0, 1) := by decide +kernel
theorem dX2_readSum_73 : decode cX2_readSum 73 = .ok (.iload 4, 2) := by decide +kernel
theorem dX2_readSum_75 : decode cX2_readSum 75 = .ok (.invokevirtual 82, 3) := by decide +kernel
theorem dX2_readSum_78 : decode cX2_readSum 78 = .ok (.pop, 1) := by decide +kernel
theorem dX2_readSum_79 : decode cX2_readSum 79 = .ok (.iinc 3 1, 3) := by decide +kernel
theorem dX2_readSum_82 : decode cX2_readSum 82 = .ok (.goto (-69), 3) := by decide +kernel
theorem dX2_readSum_85 : decode cX2_readSum 85 = .ok (.iconst 1, 1) := by decide +kernel
theorem dX2_readSum_86 : decode cX2_readSum 86 = .ok (.ireturn, 1) := by decide +kernel
theorem dX2_readProduct_0 : decode cX2_readProduct 0 = .ok (.aload_n 0, 1) := by decide +kernel
theorem dX2_readProduct_1 : decode cX2_readProduct 1 = .ok (.aload_n 1, 1) := by decide +kernel
theorem dX2_readProduct_2 : decode cX2_readProduct 2 = .ok (.iload_n 2, 1) := by decide +kernel
theorem dX2_readProduct_3 : decode cX2_readProduct 3 = .ok (.invokevirtual 85, 3) := by decide +kernel
theorem dX2_readProduct_6 : decode cX2_readProduct 6 = .ok (.ifCond .ne 5, 3) := by decide +kernel
theorem dX2_readProduct_9 : decode cX2_readProduct 9 = .ok (.iconst 0, 1) := by decide +kernel
theorem dX2_readProduct_10 : decode cX2_readProduct 10 = .ok (.ireturn, 1) := by decide +kernel
theorem dX2_readProduct_11 : decode cX2_readProduct 11 = .ok (.iconst 0, 1) := by decide +kernel
theorem dX2_readProduct_12 : decode cX2_readProduct 12 = .ok (.istore_n 3, 1) := by decide +kernel
theorem dX2_readProduct_13 : decode cX2_readProduct 13 = .ok (.iload_n 3, 1) := by decide +kernel
theorem dX2_readProduct_14 : decode cX2_readProduct 14 = .ok (.sipush 150, 3) := by decide +kernel
theorem dX2_readProduct_17 : decode cX2_readProduct 17 = .ok (.if_icmp .ge 83, 3) := by decide +kernel
theorem dX2_readProduct_20 : decode cX2_readProduct 20 = .ok (.aload_n 1, 1) := by decide +kernel
theorem dX2_readProduct_21 : decode cX2_readProduct 21 = .ok (.bipush 42, 2) := by decide +kernel
theorem dX2_readProduct_23 : decode cX2_readProduct 23 = .ok (.invokevirtual 79, 3) := by decide +kernel
theorem dX2_readProduct_26 : decode cX2_readProduct 26 = .ok (.ifCond .eq 9, 3) := by decide +kernel
theorem dX2_readProduct_29 : decode cX2_readProduct 29 = .ok (.sipush 2002, 3) := by decide +kernel
theorem dX2_readProduct_32 : decode cX2_readProduct 32 = .ok (.goto 34, 3) := by decide +kernel
theorem dX2_readProduct_35 : decode cX2_readProduct 35 = .ok (.aload_n 1, 1) := by decide +kernel
theorem dX2_readProduct_36 : decode cX2_readProduct 36 = .ok (.bipush 47, 2) := by decide +kernel
theorem dX2_readProduct_38 : decode cX2_readProduct 38 = .ok (.invokevirtual 79, 3) := by decide +kernel
theorem dX2_readProduct_41 : decode cX2_readProduct 41 = .ok (.ifCond .eq 9, 3) := by decide +kernel
theorem dX2_readProduct_44 : decode cX2_readProduct 44 = .ok (.sipush 2003, 3) := by decide +kernel
theorem dX2_readProduct_47 : decode cX2_readProduct 47 = .ok (.goto 19, 3) := by decide +kernel
theorem dX2_readProduct_50 : decode cX2_readProduct 50 = .ok (.aload_n 1, 1) := by decide +kernel
theorem dX2_readProduct_51 : decode cX2_readProduct 51 = .ok (.bipush 37, 2) := by decide +kernel
theorem dX2_readProduct_53 : decode cX2_readProduct 53 = .ok (.invokevirtual 79, 3) := by decide +kernel
theorem dX2_readProduct_56 : decode cX2_readProduct 56 = .ok (.ifCond .eq 9, 3) := by decide +kernel
theorem dX2_readProduct_59 : decode cX2_readProduct 59 = .ok (.sipush 2004, 3) := by decide +kernel
theorem dX2_readProduct_62 : decode cX2_readProduct 62 = .ok (.goto 4, 3) := by decide +kernel
theorem dX2_readProduct_65 : decode cX2_readProduct 65 = .ok (.iconst (-1), 1) := by decide +kernel
theorem dX2_readProduct_66 : decode cX2_readProduct 66 = .ok (.istore 4, 2) := by decide +kernel
theorem dX2_readProduct_68 : decode cX2_readProduct 68 = .ok (.iload 4, 2) := by decide +kernel
theorem dX2_readProduct_70 : decode cX2_readProduct 70 = .ok (.iconst (-1), 1) := by decide +kernel
theorem dX2_readProduct_71 : decode cX2_readProduct 71 = .ok (.if_icmp .ne 5, 3) := by decide +kernel
theorem dX2_readProduct_74 : decode cX2_readProduct 74 = .ok (.iconst 1, 1) := by decide +kernel
theorem dX2_readProduct_75 : decode cX2_readProduct 75 = .ok (.ireturn, 1) := by decide +kernel
theorem dX2_readProduct_76 : decode cX2_readProduct 76 = .ok (.aload_n 0, 1) := by decide +kernel
theorem dX2_readProduct_77 : decode cX2_readProduct 77 = .ok (.aload_n 1, 1) := by decide +kernel
theorem dX2_readProduct_78 : decode cX2_readProduct 78 = .ok (.iload_n 2, 1) := by decide +kernel
theorem dX2_readProduct_79 : decode cX2_readProduct 79 = .ok (.invokevirtual 85, 3) := by decide +kernel
theorem dX2_readProduct_82 : decode cX2_readProduct 82 = .ok (.ifCond .ne 5, 3) := by decide +kernel
theorem dX2_readProduct_85 : decode cX2_readProduct 85 = .ok (.iconst 0, 1) := by decide +kernel
theorem dX2_readProduct_86 : decode cX2_readProduct 86 = .ok (.ireturn, 1) := by decide +kernel
theorem dX2_readProduct_87 : decode cX2_readProduct 87 = .ok (.aload_n 0, 1) := by decide +kernel
theorem dX2_readProduct_88 : decode cX2_readProduct 88 = .ok (.iload 4, 2) := by decide +kernel
theorem dX2_readProduct_90 : decode cX2_readProduct 90 = .ok (.invokevirtual 82, 3) := by decide +kernel
theorem dX2_readProduct_93 : decode cX2_readProduct 93 = .ok (.pop, 1) := by decide +kernel
theorem dX2_readProduct_94 : decode cX2_readProduct 94 = .ok (.iinc 3 1, 3) := by decide +kernel
theorem dX2_readProduct_97 : decode cX2_readProduct 97 = .ok (.goto (-84), 3) := by decide +kernel
theorem dX2_readProduct_100 : decode cX2_readProduct 100 = .ok (.iconst 1, 1) := by decide +kernel
theorem dX2_readProduct_101 : decode cX2_readProduct 101 = .ok (.ireturn, 1) := by decide +kernel
theorem dX2_readUnit_0 : decode cX2_readUnit 0 = .ok (.aload_n 1, 1) := by decide +kernel
theorem dX2_readUnit_1 : decode cX2_readUnit 1 = .ok (.invokevirtual 88, 3) := by decide +kernel
theorem dX2_readUnit_4 : decode cX2_readUnit 4 = .ok (.ifCond .eq 31, 3) := by decide +kernel
theorem dX2_readUnit_7 : decode cX2_readUnit 7 = .ok (.aload_n 1, 1) := by decide +kernel
theorem dX2_readUnit_8 : decode cX2_readUnit 8 = .ok (.iconst 0, 1) := by decide +kernel
theorem dX2_readUnit_9 : decode cX2_readUnit 9 = .ok (.sipush 999, 3) := by decide +kernel
theorem dX2_readUnit_12 : decode cX2_readUnit 12 = .ok (.invokevirtual 91, 3) := by decide +kernel
theorem dX2_readUnit_15 : decode cX2_readUnit 15 = .ok (.ifCond .eq 18, 3) := by decide +kernel
theorem dX2_readUnit_18 : decode cX2_readUnit 18 = .ok (.aload_n 0, 1) := by decide +kernel
theorem dX2_readUnit_19 : decode cX2_readUnit 19 = .ok (.aload_n 1, 1) := by decide +kernel
theorem dX2_readUnit_20 : decode cX2_readUnit 20 = .ok (.getfield 95, 3) := by decide +kernel
theorem dX2_readUnit_23 : decode cX2_readUnit 23 = .ok (.invokevirtual 82, 3) := by decide +kernel
theorem dX2_readUnit_26 : decode cX2_readUnit 26 = .ok (.ifCond .eq 7, 3) := by decide +kernel
theorem dX2_readUnit_29 : decode cX2_readUnit 29 = .ok (.iconst 1, 1) := by decide +kernel
theorem dX2_readUnit_30 : decode cX2_readUnit 30 = .ok (.goto 4, 3) := by decide +kernel
theorem dX2_readUnit_33 : decode cX2_readUnit 33 = .ok (.iconst 0, 1) := by decide +kernel
theorem dX2_readUnit_34 : decode cX2_readUnit 34 = .ok (.ireturn, 1) := by decide +kernel
theorem dX2_readUnit_35 : decode cX2_readUnit 35 = .ok (.aload_n 1, 1) := by decide +kernel
theorem dX2_readUnit_36 : decode cX2_readUnit 36 = .ok (.invokevirtual 98, 3) := by decide +kernel
theorem dX2_readUnit_39 : decode cX2_readUnit 39 = .ok (.bipush 40, 2) := by decide +kernel
theorem dX2_readUnit_41 : decode cX2_readUnit 41 = .ok (.if_icmp .ne 26, 3) := by decide +kernel
theorem dX2_readUnit_44 : decode cX2_readUnit 44 = .ok (.iload_n 2, 1) := by decide +kernel
theorem dX2_readUnit_45 : decode cX2_readUnit 45 = .ok (.bipush 6, 2) := by decide +kernel
theorem dX2_readUnit_47 : decode cX2_readUnit 47 = .ok (.if_icmp .ge 14, 3) := by decide +kernel
theorem dX2_readUnit_50 : decode cX2_readUnit 50 = .ok (.aload_n 0, 1) := by decide +kernel
theorem dX2_readUnit_51 : decode cX2_readUnit 51 = .ok (.aload_n 1, 1) := by decide +kernel
theorem dX2_readUnit_52 : decode cX2_readUnit 52 = .ok (.iload_n 2, 1) := by decide +kernel
theorem dX2_readUnit_53 : decode cX2_readUnit 53 = .ok (.iconst 1, 1) := by decide +kernel
theorem dX2_readUnit_54 : decode cX2_readUnit 54 = .ok (.iadd, 1) := by decide +kernel
theorem dX2_readUnit_55 : decode cX2_readUnit 55 = .ok (.invokevirtual 102, 3) := by decide +kernel
theorem dX2_readUnit_58 : decode cX2_readUnit 58 = .ok (.goto 8, 3) := by decide +kernel
theorem dX2_readUnit_61 : decode cX2_readUnit 61 = .ok (.aload_n 1, 1) := by decide +kernel
theorem dX2_readUnit_62 : decode cX2_readUnit 62 = .ok (.iconst 3, 1) := by decide +kernel
theorem dX2_readUnit_63 : decode cX2_readUnit 63 = .ok (.invokevirtual 72, 3) := by decide +kernel
theorem dX2_readUnit_66 : decode cX2_readUnit 66 = .ok (.ireturn, 1) := by decide +kernel
theorem dX2_readUnit_67 : decode cX2_readUnit 67 = .ok (.aload_n 1, 1) := by decide +kernel
theorem dX2_readUnit_68 : decode cX2_readUnit 68 = .ok (.invokevirtual 105, 3) := by decide +kernel
theorem dX2_readUnit_71 : decode cX2_readUnit 71 = .ok (.aload_n 1, 1) := by decide +kernel
theorem dX2_readUnit_72 : decode cX2_readUnit 72 = .ok (.invokestatic 108, 3) := by decide +kernel
theorem dX2_readUnit_75 : decode cX2_readUnit 75 = .ok (.istore_n 3, 1) := by decide +kernel
theorem dX2_readUnit_76 : decode cX2_readUnit 76 = .ok (.iload_n 3, 1) := by decide +kernel
theorem dX2_readUnit_77 : decode cX2_readUnit 77 = .ok (.iconst (-1), 1) := by decide +kernel
theorem dX2_readUnit_78 : decode cX2_readUnit 78 = .ok (.if_icmp .eq 42, 3) := by decide +kernel
theorem dX2_readUnit_81 : decode cX2_readUnit 81 = .ok (.iload_n 2, 1) := by decide +kernel
theorem dX2_readUnit_82 : decode cX2_readUnit 82 = .ok (.bipush 6, 2) := by decide +kernel
theorem dX2_readUnit_84 : decode cX2_readUnit 84 = .ok (.if_icmp .ge 30, 3) := by decide +kernel
theorem dX2_readUnit_87 : decode cX2_readUnit 87 = .ok (.aload_n 0, 1) := by decide +kernel
theorem dX2_readUnit_88 : decode cX2_readUnit 88 = .ok (.aload_n 1, 1) := by decide +kernel
theorem dX2_readUnit_89 : decode cX2_readUnit 89 = .ok (.iload_n 2, 1) := by decide +kernel
theorem dX2_readUnit_90 : decode cX2_readUnit 90 = .ok (.iconst 1, 1) := by decide +kernel
theorem dX2_readUnit_91 : decode cX2_readUnit 91 = .ok (.iadd, 1) := by decide +kernel
theorem dX2_readUnit_92 : decode cX2_readUnit 92 = .ok (.invokevirtual 112, 3) := by decide +kernel
theorem dX2_readUnit_95 : decode cX2_readUnit 95 = .ok (.ifCond .eq 15, 3) := by decide +kernel
theorem dX2_readUnit_98 : decode cX2_readUnit 98 = .ok (.aload_n 0, 1) := by decide +kernel
theorem dX2_readUnit_99 : decode cX2_readUnit 99 = .ok (.iload_n 3, 1) := by decide +kernel
theorem dX2_readUnit_100 : decode cX2_readUnit 100 = .ok (.invokevirtual 82, 3) := by decide +kernel
theorem dX2_readUnit_103 : decode cX2_readUnit 103 = .ok (.ifCond .eq 7, 3) := by decide +kernel
theorem dX2_readUnit_106 : decode cX2_readUnit 106 = .ok (.iconst 1, 1) := by decide +kernel
theorem dX2_readUnit_107 : decode cX2_readUnit 107 = .ok (.goto 12, 3) := by decide +kernel
theorem dX2_readUnit_110 : decode cX2_readUnit 110 = .ok (.iconst 0, 1) := by decide +kernel
theorem dX2_readUnit_111 : decode cX2_readUnit 111 = .ok (.goto 8, 3) := by decide +kernel
theorem dX2_readUnit_114 : decode cX2_readUnit 114 = .ok (.aload_n 1, 1) := by decide +kernel
theorem dX2_readUnit_115 : decode cX2_readUnit 115 = .ok (.iconst 3, 1) := by decide +kernel
theorem dX2_readUnit_116 : decode cX2_readUnit 116 = .ok (.invokevirtual 115, 3) := by decide +kernel
theorem dX2_readUnit_119 : decode cX2_readUnit 119 = .ok (.ireturn, 1) := by decide +kernel
theorem dX2_readUnit_120 : decode cX2_readUnit 120 = .ok (.aload_n 1, 1) := by decide +kernel
theorem dX2_readUnit_121 : decode cX2_readUnit 121 = .ok (.invokestatic 118, 3) := by decide +kernel
theorem dX2_readUnit_124 : decode cX2_readUnit 124 = .ok (.istore 4, 2) := by decide +kernel
theorem dX2_readUnit_126 : decode cX2_readUnit 126 = .ok (.iload 4, 2) := by decide +kernel
theorem dX2_readUnit_128 : decode cX2_readUnit 128 = .ok (.iconst (-1), 1) := by decide +kernel
theorem dX2_readUnit_129 : decode cX2_readUnit 129 = .ok (.if_icmp .eq 16, 3) := by decide +kernel
theorem dX2_readUnit_132 : decode cX2_readUnit 132 = .ok (.aload_n 0, 1) := by decide +kernel
theorem dX2_readUnit_133 : decode cX2_readUnit 133 = .ok (.sipush 1000, 3) := by decide +kernel
theorem dX2_readUnit_136 : decode cX2_readUnit 136 = .ok (.iload 4, 2) := by decide +kernel
theorem dX2_readUnit_138 : decode cX2_readUnit 138 = .ok (.iadd, 1) := by decide +kernel
theorem dX2_readUnit_139 : decode cX2_readUnit 139 = .ok (.invokevirtual 82, 3) := by decide +kernel
theorem dX2_readUnit_142 : decode cX2_readUnit 142 = .ok (.goto 8, 3) := by decide +kernel
theorem dX2_readUnit_145 : decode cX2_readUnit 145 = .ok (.aload_n 1, 1) := by decide +kernel
theorem dX2_readUnit_146 : decode cX2_readUnit 146 = .ok (.iconst 1, 1) := by decide +kernel
theorem dX2_readUnit_147 : decode cX2_readUnit 147 = .ok (.invokevirtual 115, 3) := by decide +kernel
theorem dX2_readUnit_150 : decode cX2_readUnit 150 = .ok (.ireturn, 1) := by decide +kernel
theorem dX2_readBracket_0 : decode cX2_readBracket 0 = .ok (.aload_n 1, 1) := by decide +kernel
theorem dX2_readBracket_1 : decode cX2_readBracket 1 = .ok (.bipush 40, 2) := by decide +kernel
theorem dX2_readBracket_3 : decode cX2_readBracket 3 = .ok (.invokevirtual 121, 3) := by decide +kernel
theorem dX2_readBracket_6 : decode cX2_readBracket 6 = .ok (.ifCond .eq 25, 3) := by decide +kernel
theorem dX2_readBracket_9 : decode cX2_readBracket 9 = .ok (.aload_n 0, 1) := by decide +kernel
theorem dX2_readBracket_10 : decode cX2_readBracket 10 = .ok (.aload_n 1, 1) := by decide +kernel
theorem dX2_readBracket_11 : decode cX2_readBracket 11 = .ok (.iload_n 2, 1) := by decide +kernel
theorem dX2_readBracket_12 : decode cX2_readBracket 12 = .ok (.invokevirtual 62, 3) := by decide +kernel
theorem dX2_readBracket_15 : decode cX2_readBracket 15 = .ok (.ifCond .eq 16, 3) := by decide +kernel
theorem dX2_readBracket_18 : decode cX2_readBracket 18 = .ok (.aload_n 1, 1) := by decide +kernel
theorem dX2_readBracket_19 : decode cX2_readBracket 19 = .ok (.bipush 41, 2) := by decide +kernel
theorem dX2_readBracket_21 : decode cX2_readBracket 21 = .ok (.invokevirtual 121, 3) := by decide +kernel
theorem dX2_readBracket_24 : decode cX2_readBracket 24 = .ok (.ifCond .eq 7, 3) := by decide +kernel
theorem dX2_readBracket_27 : decode cX2_readBracket 27 = .ok (.iconst 1, 1) := by decide +kernel
theorem dX2_readBracket_28 : decode cX2_readBracket 28 = .ok (.goto 4, 3) := by decide +kernel
theorem dX2_readBracket_31 : decode cX2_readBracket 31 = .ok (.iconst 0, 1) := by decide +kernel
theorem dX2_readBracket_32 : decode cX2_readBracket 32 = .ok (.ireturn, 1) := by decide +kernel
theorem dX2_readTwo_0 : decode cX2_readTwo 0 = .ok (.aload_n 1, 1) := by decide +kernel
theorem dX2_readTwo_1 : decode cX2_readTwo 1 = .ok (.bipush 91, 2) := by decide +kernel
theorem dX2_readTwo_3 : decode cX2_readTwo 3 = .ok (.invokevirtual 121, 3) := by decide +kernel
theorem dX2_readTwo_6 : decode cX2_readTwo 6 = .ok (.ifCond .eq 43, 3) := by decide +kernel
theorem dX2_readTwo_9 : decode cX2_readTwo 9 = .ok (.aload_n 0, 1) := by decide +kernel
theorem dX2_readTwo_10 : decode cX2_readTwo 10 = .ok (.aload_n 1, 1) := by decide +kernel
theorem dX2_readTwo_11 : decode cX2_readTwo 11 = .ok (.iload_n 2, 1) := by decide +kernel
theorem dX2_readTwo_12 : decode cX2_readTwo 12 = .ok (.invokevirtual 62, 3) := by decide +kernel
theorem dX2_readTwo_15 : decode cX2_readTwo 15 = .ok (.ifCond .eq 34, 3) := by decide +kernel
theorem dX2_readTwo_18 : decode cX2_readTwo 18 = .ok (.aload_n 1, 1) := by decide +kernel
theorem dX2_readTwo_19 : decode cX2_readTwo 19 = .ok (.bipush 44, 2) := by decide +kernel
theorem dX2_readTwo_21 : decode cX2_readTwo 21 = .ok (.invokevirtual 121, 3) := by decide +kernel
theorem dX2_readTwo_24 : decode cX2_readTwo 24 = .ok (.ifCond .eq 25, 3) := by decide +kernel
theorem dX2_readTwo_27 : decode cX2_readTwo 27 = .ok (.aload_n 0, 1) := by decide +kernel
theorem dX2_readTwo_28 : decode cX2_readTwo 28 = .ok (.aload_n 1, 1) := by decide +kernel
theorem dX2_readTwo_29 : decode cX2_readTwo 29 = .ok (.iload_n 2, 1) := by decide +kernel
theorem dX2_readTwo_30 : decode cX2_readTwo 30 = .ok (.invokevirtual 62, 3) := by decide +kernel
theorem dX2_readTwo_33 : decode cX2_readTwo 33 = .ok (.ifCond .eq 16, 3) := by decide +kernel
theorem dX2_readTwo_36 : decode cX2_readTwo 36 = .ok (.aload_n 1, 1) := by decide +kernel
theorem dX2_readTwo_37 : decode cX2_readTwo 37 = .ok (.bipush 93, 2) := by decide +kernel
theorem dX2_readTwo_39 : decode cX2_readTwo 39 = .ok (.invokevirtual 121, 3) := by decide +kernel
theorem dX2_readTwo_42 : decode cX2_readTwo 42 = .ok (.ifCond .eq 7, 3) := by decide +kernel
theorem dX2_readTwo_45 : decode cX2_readTwo 45 = .ok (.iconst 1, 1) := by decide +kernel
theorem dX2_readTwo_46 : decode cX2_readTwo 46 = .ok (.goto 4, 3) := by decide +kernel
theorem dX2_readTwo_49 : decode cX2_readTwo 49 = .ok (.iconst 0, 1) := by decide +kernel
theorem dX2_readTwo_50 : decode cX2_readTwo 50 = .ok (.ireturn, 1) := by decide +kernel
theorem dX2_operatorWord_0 : decode cX2_operatorWord 0 = .ok (.aload_n 0, 1) := by decide +kernel
theorem dX2_operatorWord_1 : decode cX2_operatorWord 1 = .ok (.ldc 124, 2) := by decide +kernel
theorem dX2_operatorWord_3 : decode cX2_operatorWord 3 = .ok (.invokevirtual 126, 3) := by decide +kernel
theorem dX2_operatorWord_6 : decode cX2_operatorWord 6 = .ok (.ifCond .eq 7, 3) := by decide +kernel
theorem dX2_operatorWord_9 : decode cX2_operatorWord 9 = .ok (.sipush 2005, 3) := by decide +kernel
theorem dX2_operatorWord_12 : decode cX2_operatorWord 12 = .ok (.ireturn, 1) := by decide +kernel
theorem dX2_operatorWord_13 : decode cX2_operatorWord 13 = .ok (.aload_n 0, 1) := by decide +kernel
theorem dX2_operatorWord_14 : decode cX2_operatorWord 14 = .ok (.ldc 130, 2) := by decide +kernel
theorem dX2_operatorWord_16 : decode cX2_operatorWord 16 = .ok (.invokevirtual 126, 3) := by decide +kernel
theorem dX2_operatorWord_19 : decode cX2_operatorWord 19 = .ok (.ifCond .eq 9, 3) := by decide +kernel
theorem dX2_operatorWord_22 : decode cX2_operatorWord 22 = .ok (.sipush 2006, 3) := by decide +kernel
theorem dX2_operatorWord_25 : decode cX2_operatorWord 25 = .ok (.goto 4, 3) := by decide +kernel
theorem dX2_operatorWord_28 : decode cX2_operatorWord 28 = .ok (.iconst (-1), 1) := by decide +kernel
theorem dX2_operatorWord_29 : decode cX2_operatorWord 29 = .ok (.ireturn, 1) := by decide +kernel
theorem dX2_nameWord_0 : decode cX2_nameWord 0 = .ok (.aload_n 0, 1) := by decide +kernel
theorem dX2_nameWord_1 : decode cX2_nameWord 1 = .ok (.ldc 132, 2) := by decide +kernel
theorem dX2_nameWord_3 : decode cX2_nameWord 3 = .ok (.invokevirtual 126, 3) := by decide +kernel
theorem dX2_nameWord_6 : decode cX2_nameWord 6 = .ok (.ifCond .eq 5, 3) := by decide +kernel
theorem dX2_nameWord_9 : decode cX2_nameWord 9 = .ok (.iconst 0, 1) := by decide +kernel
theorem dX2_nameWord_10 : decode cX2_nameWord 10 = .ok (.ireturn, 1) := by decide +kernel
theorem dX2_nameWord_11 : decode cX2_nameWord 11 = .ok (.aload_n 0, 1) := by decide +kernel
theorem dX2_nameWord_12 : decode cX2_nameWord 12 = .ok (.ldc 134, 2) := by decide +kernel
theorem dX2_nameWord_14 : decode cX2_nameWord 14 = .ok (.invokevirtual 126, 3) := by decide +kernel
theorem dX2_nameWord_17 : decode cX2_nameWord 17 = .ok (.ifCond .eq 5, 3) := by decide +kernel
theorem dX2_nameWord_20 : decode cX2_nameWord 20 = .ok (.iconst 1, 1) := by decide +kernel
theorem dX2_nameWord_21 : decode cX2_nameWord 21 = .ok (.ireturn, 1) := by decide +kernel
theorem dX2_nameWord_22 : decode cX2_nameWord 22 = .ok (.aload_n 0, 1) := by decide +kernel
theorem dX2_nameWord_23 : decode cX2_nameWord 23 = .ok (.ldc 136, 2) := by decide +kernel
theorem dX2_nameWord_25 : decode cX2_nameWord 25 = .ok (.invokevirtual 126, 3) := by decide +kernel
theorem dX2_nameWord_28 : decode cX2_nameWord 28 = .ok (.ifCond .eq 5, 3) := by decide +kernel
theorem dX2_nameWord_31 : decode cX2_nameWord 31 = .ok (.iconst 2, 1) := by decide +kernel
theorem dX2_nameWord_32 : decode cX2_nameWord 32 = .ok (.ireturn, 1) := by decide +kernel
theorem dX2_nameWord_33 : decode cX2_nameWord 33 = .ok (.aload_n 0, 1) := by decide +kernel
theorem dX2_nameWord_34 : decode cX2_nameWord 34 = .ok (.ldc 138, 2) := by decide +kernel
theorem dX2_nameWord_36 : decode cX2_nameWord 36 = .ok (.invokevirtual 126, 3) := by decide +kernel
theorem dX2_nameWord_39 : decode cX2_nameWord 39 = .ok (.ifCond .eq 5, 3) := by decide +kernel
theorem dX2_nameWord_42 : decode cX2_nameWord 42 = .ok (.iconst 3, 1) := by decide +kernel
theorem dX2_nameWord_43 : decode cX2_nameWord 43 = .ok (.ireturn, 1) := by decide +kernel
theorem dX2_nameWord_44 : decode cX2_nameWord 44 = .ok (.aload_n 0, 1) := by decide +kernel
theorem dX2_nameWord_45 : decode cX2_nameWord 45 = .ok (.ldc 140, 2) := by decide +kernel
theorem dX2_nameWord_47 : decode cX2_nameWord 47 = .ok (.invokevirtual 126, 3) := by decide +kernel
theorem dX2_nameWord_50 : decode cX2_nameWord 50 = .ok (.ifCond .eq 5, 3) := by decide +kernel
theorem dX2_nameWord_53 : decode cX2_nameWord 53 = .ok (.iconst 4, 1) := by decide +kernel
theorem dX2_nameWord_54 : decode cX2_nameWord 54 = .ok (.ireturn, 1) := by decide +kernel
theorem dX2_nameWord_55 : decode cX2_nameWord 55 = .ok (.aload_n 0, 1) := by decide +kernel
theorem dX2_nameWord_56 : decode cX2_nameWord 56 = .ok (.ldc 142, 2) := by decide +kernel
theorem dX2_nameWord_58 : decode cX2_nameWord 58 = .ok (.invokevirtual 126, 3) := by decide +kernel
theorem dX2_nameWord_61 : decode cX2_nameWord 61 = .ok (.ifCond .eq 5, 3) := by decide +kernel
theorem dX2_nameWord_64 : decode cX2_nameWord 64 = .ok (.iconst 5, 1) := by decide +kernel
theorem dX2_nameWord_65 : decode cX2_nameWord 65 = .ok (.ireturn, 1) := by decide +kernel
theorem dX2_nameWord_66 : decode cX2_nameWord 66 = .ok (.aload_n 0, 1) := by decide +kernel
theorem dX2_nameWord_67 : decode cX2_nameWord 67 = .ok (.ldc 144, 2) := by decide +kernel
theorem dX2_nameWord_69 : decode cX2_nameWord 69 = .ok (.invokevirtual 126, 3) := by decide +kernel
theorem dX2_nameWord_72 : decode cX2_nameWord 72 = .ok (.ifCond .eq 6, 3) := by decide +kernel
theorem dX2_nameWord_75 : decode cX2_nameWord 75 = .ok (.bipush 6, 2) := by decide +kernel
theorem dX2_nameWord_77 : decode cX2_nameWord 77 = .ok (.ireturn, 1) := by decide +kernel
theorem dX2_nameWord_78 : decode cX2_nameWord 78 = .ok (.aload_n 0, 1) := by decide +kernel
theorem dX2_nameWord_79 : decode cX2_nameWord 79 = .ok (.ldc 146, 2) := by decide +kernel
theorem dX2_nameWord_81 : decode cX2_nameWord 81 = .ok (.invokevirtual 126, 3) := by decide +kernel
theorem dX2_nameWord_84 : decode cX2_nameWord 84 = .ok (.ifCond .eq 8, 3) := by decide +kernel
theorem dX2_nameWord_87 : decode cX2_nameWord 87 = .ok (.bipush 7, 2) := by decide +kernel
theorem dX2_nameWord_89 : decode cX2_nameWord 89 = .ok (.goto 4, 3) := by decide +kernel
theorem dX2_nameWord_92 : decode cX2_nameWord 92 = .ok (.iconst (-1), 1) := by decide +kernel
theorem dX2_nameWord_93 : decode cX2_nameWord 93 = .ok (.ireturn, 1) := by decide +kernel
