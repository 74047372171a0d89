theorem dX8_draws_0 : decode cX8_draws 0 = .ok (.aload_n 0, 1) := by decide +kernel
theorem dX8_draws_1 : decode cX8_draws 1 = .ok (.aload_n 0, 1) := by decide +kernel
theorem dX8_draws_2 : decode cX8_draws 2 = .ok (.getfield 433, 3) := by decide +kernel
theorem dX8_draws_5 : decode cX8_draws 5 = .ok (.ldc_w 436, 3) := by decide +kernel
theorem dX8_draws_8 : decode cX8_draws 8 = .ok (.imul, 1) := by decide +kernel
theorem dX8_draws_9 : decode cX8_draws 9 = .ok (.sipush 12345, 3) := by decide +kernel
theorem dX8_draws_12 : decode cX8_draws 12 = .ok (.iadd, 1) := by decide +kernel
theorem dX8_draws_13 : decode cX8_draws 13 = .ok (.putfield 433, 3) := by decide +kernel
theorem dX8_draws_16 : decode cX8_draws 16 = .ok (.aload_n 0, 1) := by decide +kernel
theorem dX8_draws_17 : decode cX8_draws 17 = .ok (.getfield 433, 3) := by decide +kernel
theorem dX8_draws_20 : decode cX8_draws 20 = .ok (.bipush 16, 2) := by decide +kernel
theorem dX8_draws_22 : decode cX8_draws 22 = .ok (.ishr, 1) := by decide +kernel
theorem dX8_draws_23 : decode cX8_draws 23 = .ok (.sipush 32767, 3) := by decide +kernel
theorem dX8_draws_26 : decode cX8_draws 26 = .ok (.iand, 1) := by decide +kernel
theorem dX8_draws_27 : decode cX8_draws 27 = .ok (.iload_n 1, 1) := by decide +kernel
theorem dX8_draws_28 : decode cX8_draws 28 = .ok (.irem, 1) := by decide +kernel
theorem dX8_draws_29 : decode cX8_draws 29 = .ok (.ireturn, 1) := by decide +kernel
theorem dX8_afternoonGoes_0 : decode cX8_afternoonGoes 0 = .ok (.aload_n 0, 1) := by decide +kernel
theorem dX8_afternoonGoes_1 : decode cX8_afternoonGoes 1 = .ok (.invokevirtual 302, 3) := by decide +kernel
theorem dX8_afternoonGoes_4 : decode cX8_afternoonGoes 4 = .ok (.aload_n 0, 1) := by decide +kernel
theorem dX8_afternoonGoes_5 : decode cX8_afternoonGoes 5 = .ok (.iload_n 1, 1) := by decide +kernel
theorem dX8_afternoonGoes_6 : decode cX8_afternoonGoes 6 = .ok (.putfield 433, 3) := by decide +kernel
theorem dX8_afternoonGoes_9 : decode cX8_afternoonGoes 9 = .ok (.iconst 0, 1) := by decide +kernel
theorem dX8_afternoonGoes_10 : decode cX8_afternoonGoes 10 = .ok (.istore 4, 2) := by decide +kernel
theorem dX8_afternoonGoes_12 : decode cX8_afternoonGoes 12 = .ok (.iload 4, 2) := by decide +kernel
theorem dX8_afternoonGoes_14 : decode cX8_afternoonGoes 14 = .ok (.iload_n 3, 1) := by decide +kernel
theorem dX8_afternoonGoes_15 : decode cX8_afternoonGoes 15 = .ok (.if_icmp .ge 90, 3) := by decide +kernel
theorem dX8_afternoonGoes_18 : decode cX8_afternoonGoes 18 = .ok (.aload_n 0, 1) := by decide +kernel
theorem dX8_afternoonGoes_19 : decode cX8_afternoonGoes 19 = .ok (.getfield 154, 3) := by decide +kernel
theorem dX8_afternoonGoes_22 : decode cX8_afternoonGoes 22 = .ok (.ifCond .le 73, 3) := by decide +kernel
theorem dX8_afternoonGoes_25 : decode cX8_afternoonGoes 25 = .ok (.aload_n 0, 1) := by decide +kernel
theorem dX8_afternoonGoes_26 : decode cX8_afternoonGoes 26 = .ok (.aload_n 0, 1) := by decide +kernel
theorem dX8_afternoonGoes_27 : decode cX8_afternoonGoes 27 = .ok (.getfield 154, 3) := by decide +kernel
theorem dX8_afternoonGoes_30 : decode cX8_afternoonGoes 30 = .ok (.invokevirtual 437, 3) := by decide +kernel
theorem dX8_afternoonGoes_33 : decode cX8_afternoonGoes 33 = .ok (.istore 5, 2) := by decide +kernel
theorem dX8_afternoonGoes_35 : decode cX8_afternoonGoes 35 = .ok (.aload_n 0, 1) := by decide +kernel
theorem dX8_afternoonGoes_36 : decode cX8_afternoonGoes 36 = .ok (.iload 5, 2) := by decide +kernel
theorem dX8_afternoonGoes_38 : decode cX8_afternoonGoes 38 = .ok (.iconst 1, 1) := by decide +kernel
theorem dX8_afternoonGoes_39 : decode cX8_afternoonGoes 39 = .ok (.aload_n 0, 1) := by decide +kernel
theorem dX8_afternoonGoes_40 : decode cX8_afternoonGoes 40 = .ok (.bipush 20, 2) := by decide +kernel
theorem dX8_afternoonGoes_42 : decode cX8_afternoonGoes 42 = .ok (.invokevirtual 437, 3) := by decide +kernel
theorem dX8_afternoonGoes_45 : decode cX8_afternoonGoes 45 = .ok (.iadd, 1) := by decide +kernel
theorem dX8_afternoonGoes_46 : decode cX8_afternoonGoes 46 = .ok (.invokevirtual 368, 3) := by decide +kernel
theorem dX8_afternoonGoes_49 : decode cX8_afternoonGoes 49 = .ok (.pop, 1) := by decide +kernel
theorem dX8_afternoonGoes_50 : decode cX8_afternoonGoes 50 = .ok (.aload_n 0, 1) := by decide +kernel
theorem dX8_afternoonGoes_51 : decode cX8_afternoonGoes 51 = .ok (.bipush 16, 2) := by decide +kernel
theorem dX8_afternoonGoes_53 : decode cX8_afternoonGoes 53 = .ok (.invokevirtual 437, 3) := by decide +kernel
theorem dX8_afternoonGoes_56 : decode cX8_afternoonGoes 56 = .ok (.iload_n 2, 1) := by decide +kernel
theorem dX8_afternoonGoes_57 : decode cX8_afternoonGoes 57 = .ok (.if_icmp .ge 7, 3) := by decide +kernel
theorem dX8_afternoonGoes_60 : decode cX8_afternoonGoes 60 = .ok (.iconst 1, 1) := by decide +kernel
theorem dX8_afternoonGoes_61 : decode cX8_afternoonGoes 61 = .ok (.goto 4, 3) := by decide +kernel
theorem dX8_afternoonGoes_64 : decode cX8_afternoonGoes 64 = .ok (.iconst 0, 1) := by decide +kernel
theorem dX8_afternoonGoes_65 : decode cX8_afternoonGoes 65 = .ok (.istore 6, 2) := by decide +kernel
theorem dX8_afternoonGoes_67 : decode cX8_afternoonGoes 67 = .ok (.iconst 1, 1) := by decide +kernel
theorem dX8_afternoonGoes_68 : decode cX8_afternoonGoes 68 = .ok (.aload_n 0, 1) := by decide +kernel
theorem dX8_afternoonGoes_69 : decode cX8_afternoonGoes 69 = .ok (.bipush 20, 2) := by decide +kernel
theorem dX8_afternoonGoes_71 : decode cX8_afternoonGoes 71 = .ok (.invokevirtual 437, 3) := by decide +kernel
theorem dX8_afternoonGoes_74 : decode cX8_afternoonGoes 74 = .ok (.iadd, 1) := by decide +kernel
theorem dX8_afternoonGoes_75 : decode cX8_afternoonGoes 75 = .ok (.istore 7, 2) := by decide +kernel
theorem dX8_afternoonGoes_77 : decode cX8_afternoonGoes 77 = .ok (.aload_n 0, 1) := by decide +kernel
theorem dX8_afternoonGoes_78 : decode cX8_afternoonGoes 78 = .ok (.iload 6, 2) := by decide +kernel
theorem dX8_afternoonGoes_80 : decode cX8_afternoonGoes 80 = .ok (.ifCond .eq 8, 3) := by decide +kernel
theorem dX8_afternoonGoes_83 : decode cX8_afternoonGoes 83 = .ok (.iload 7, 2) := by decide +kernel
theorem dX8_afternoonGoes_85 : decode cX8_afternoonGoes 85 = .ok (.goto 6, 3) := by decide +kernel
theorem dX8_afternoonGoes_88 : decode cX8_afternoonGoes 88 = .ok (.iload 7, 2) := by decide +kernel
theorem dX8_afternoonGoes_90 : decode cX8_afternoonGoes 90 = .ok (.ineg, 1) := by decide +kernel
theorem dX8_afternoonGoes_91 : decode cX8_afternoonGoes 91 = .ok (.invokevirtual 371, 3) := by decide +kernel
theorem dX8_afternoonGoes_94 : decode cX8_afternoonGoes 94 = .ok (.pop, 1) := by decide +kernel
theorem dX8_afternoonGoes_95 : decode cX8_afternoonGoes 95 = .ok (.aload_n 0, 1) := by decide +kernel
theorem dX8_afternoonGoes_96 : decode cX8_afternoonGoes 96 = .ok (.invokevirtual 380, 3) := by decide +kernel
theorem dX8_afternoonGoes_99 : decode cX8_afternoonGoes 99 = .ok (.iinc 4 1, 3) := by decide +kernel
theorem dX8_afternoonGoes_102 : decode cX8_afternoonGoes 102 = .ok (.goto (-90), 3) := by decide +kernel
theorem dX8_afternoonGoes_105 : decode cX8_afternoonGoes 105 = .ok (.return_, 1) := by decide +kernel
theorem dX8_isAfternoon_0 : decode cX8_isAfternoon 0 = .ok (.iload_n 0, 1) := by decide +kernel
theorem dX8_isAfternoon_1 : decode cX8_isAfternoon 1 = .ok (.ifCond .lt 24, 3) := by decide +kernel
theorem dX8_isAfternoon_4 : decode cX8_isAfternoon 4 = .ok (.iload_n 0, 1) := by decide +kernel
theorem dX8_isAfternoon_5 : decode cX8_isAfternoon 5 = .ok (.bipush 16, 2) := by decide +kernel
theorem dX8_isAfternoon_7 : decode cX8_isAfternoon 7 = .ok (.if_icmp .gt 18, 3) := by decide +kernel
theorem dX8_isAfternoon_10 : decode cX8_isAfternoon 10 = .ok (.iload_n 1, 1) := by decide +kernel
theorem dX8_isAfternoon_11 : decode cX8_isAfternoon 11 = .ok (.iconst 1, 1) := by decide +kernel
theorem dX8_isAfternoon_12 : decode cX8_isAfternoon 12 = .ok (.if_icmp .lt 13, 3) := by decide +kernel
theorem dX8_isAfternoon_15 : decode cX8_isAfternoon 15 = .ok (.iload_n 1, 1) := by decide +kernel
theorem dX8_isAfternoon_16 : decode cX8_isAfternoon 16 = .ok (.bipush 48, 2) := by decide +kernel
theorem dX8_isAfternoon_18 : decode cX8_isAfternoon 18 = .ok (.if_icmp .gt 7, 3) := by decide +kernel
theorem dX8_isAfternoon_21 : decode cX8_isAfternoon 21 = .ok (.iconst 1, 1) := by decide +kernel
theorem dX8_isAfternoon_22 : decode cX8_isAfternoon 22 = .ok (.goto 4, 3) := by decide +kernel
theorem dX8_isAfternoon_25 : decode cX8_isAfternoon 25 = .ok (.iconst 0, 1) := by decide +kernel
theorem dX8_isAfternoon_26 : decode cX8_isAfternoon 26 = .ok (.ireturn, 1) := by decide +kernel
theorem dX8_afternoon_0 : decode cX8_afternoon 0 = .ok (.aload_n 0, 1) := by decide +kernel
theorem dX8_afternoon_1 : decode cX8_afternoon 1 = .ok (.iconst 0, 1) := by decide +kernel
theorem dX8_afternoon_2 : decode cX8_afternoon 2 = .ok (.putfield 3, 3) := by decide +kernel
theorem dX8_afternoon_5 : decode cX8_afternoon 5 = .ok (.aload_n 0, 1) := by decide +kernel
theorem dX8_afternoon_6 : decode cX8_afternoon 6 = .ok (.iload_n 2, 1) := by decide +kernel
theorem dX8_afternoon_7 : decode cX8_afternoon 7 = .ok (.iload_n 3, 1) := by decide +kernel
theorem dX8_afternoon_8 : decode cX8_afternoon 8 = .ok (.invokestatic 440, 3) := by decide +kernel
theorem dX8_afternoon_11 : decode cX8_afternoon 11 = .ok (.ifCond .eq 17, 3) := by decide +kernel
theorem dX8_afternoon_14 : decode cX8_afternoon 14 = .ok (.iload 4, 2) := by decide +kernel
theorem dX8_afternoon_16 : decode cX8_afternoon 16 = .ok (.iconst 0, 1) := by decide +kernel
theorem dX8_afternoon_17 : decode cX8_afternoon 17 = .ok (.iconst 3, 1) := by decide +kernel
theorem dX8_afternoon_18 : decode cX8_afternoon 18 = .ok (.invokestatic 352, 3) := by decide +kernel
theorem dX8_afternoon_21 : decode cX8_afternoon 21 = .ok (.ifCond .eq 7, 3) := by decide +kernel
theorem dX8_afternoon_24 : decode cX8_afternoon 24 = .ok (.iconst 1, 1) := by decide +kernel
theorem dX8_afternoon_25 : decode cX8_afternoon 25 = .ok (.goto 4, 3) := by decide +kernel
theorem dX8_afternoon_28 : decode cX8_afternoon 28 = .ok (.iconst 0, 1) := by decide +kernel
theorem dX8_afternoon_29 : decode cX8_afternoon 29 = .ok (.iconst 1, 1) := by decide +kernel
theorem dX8_afternoon_30 : decode cX8_afternoon 30 = .ok (.iconst 1, 1) := by decide +kernel
theorem dX8_afternoon_31 : decode cX8_afternoon 31 = .ok (.invokevirtual 190, 3) := by decide +kernel
theorem dX8_afternoon_34 : decode cX8_afternoon 34 = .ok (.ifCond .ne 5, 3) := by decide +kernel
theorem dX8_afternoon_37 : decode cX8_afternoon 37 = .ok (.iconst 0, 1) := by decide +kernel
theorem dX8_afternoon_38 : decode cX8_afternoon 38 = .ok (.ireturn, 1) := by decide +kernel
theorem dX8_afternoon_39 : decode cX8_afternoon 39 = .ok (.aload_n 0, 1) := by decide +kernel
theorem dX8_afternoon_40 : decode cX8_afternoon 40 = .ok (.iload_n 1, 1) := by decide +kernel
theorem dX8_afternoon_41 : decode cX8_afternoon 41 = .ok (.iload_n 2, 1) := by decide +kernel
theorem dX8_afternoon_42 : decode cX8_afternoon 42 = .ok (.iload_n 3, 1) := by decide +kernel
theorem dX8_afternoon_43 : decode cX8_afternoon 43 = .ok (.invokevirtual 443, 3) := by decide +kernel
theorem dX8_afternoon_46 : decode cX8_afternoon 46 = .ok (.iload 4, 2) := by decide +kernel
theorem dX8_afternoon_48 : decode cX8_afternoon 48 = .ok (.ifCond .ne 10, 3) := by decide +kernel
theorem dX8_afternoon_51 : decode cX8_afternoon 51 = .ok (.aload_n 0, 1) := by decide +kernel
theorem dX8_afternoon_52 : decode cX8_afternoon 52 = .ok (.invokevirtual 356, 3) := by decide +kernel
theorem dX8_afternoon_55 : decode cX8_afternoon 55 = .ok (.goto 55, 3) := by decide +kernel
theorem dX8_afternoon_58 : decode cX8_afternoon 58 = .ok (.iload 4, 2) := by decide +kernel
theorem dX8_afternoon_60 : decode cX8_afternoon 60 = .ok (.iconst 1, 1) := by decide +kernel
theorem dX8_afternoon_61 : decode cX8_afternoon 61 = .ok (.if_icmp .ne 21, 3) := by decide +kernel
theorem dX8_afternoon_64 : decode cX8_afternoon 64 = .ok (.aload_n 0, 1) := by decide +kernel
theorem dX8_afternoon_65 : decode cX8_afternoon 65 = .ok (.getfield 62, 3) := by decide +kernel
theorem dX8_afternoon_68 : decode cX8_afternoon 68 = .ok (.bipush 25, 2) := by decide +kernel
theorem dX8_afternoon_70 : decode cX8_afternoon 70 = .ok (.iaload, 1) := by decide +kernel
theorem dX8_afternoon_71 : decode cX8_afternoon 71 = .ok (.aload_n 0, 1) := by decide +kernel
theorem dX8_afternoon_72 : decode cX8_afternoon 72 = .ok (.getfield 59, 3) := by decide +kernel
theorem dX8_afternoon_75 : decode cX8_afternoon 75 = .ok (.bipush 25, 2) := by decide +kernel
theorem dX8_afternoon_77 : decode cX8_afternoon 77 = .ok (.iaload, 1) := by decide +kernel
theorem dX8_afternoon_78 : decode cX8_afternoon 78 = .ok (.isub, 1) := by decide +kernel
theorem dX8_afternoon_79 : decode cX8_afternoon 79 = .ok (.goto 31, 3) := by decide +kernel
theorem dX8_afternoon_82 : decode cX8_afternoon 82 = .ok (.iload 4, 2) := by decide +kernel
theorem dX8_afternoon_84 : decode cX8_afternoon 84 = .ok (.iconst 2, 1) := by decide +kernel
theorem dX8_afternoon_85 : decode cX8_afternoon 85 = .ok (.if_icmp .ne 21, 3) := by decide +kernel
theorem dX8_afternoon_88 : decode cX8_afternoon 88 = .ok (.aload_n 0, 1) := by decide +kernel
theorem dX8_afternoon_89 : decode cX8_afternoon 89 = .ok (.getfield 62, 3) := by decide +kernel
theorem dX8_afternoon_92 : decode cX8_afternoon 92 = .ok (.bipush 26, 2) := by decide +kernel
theorem dX8_afternoon_94 : decode cX8_afternoon 94 = .ok (.iaload, 1) := by decide +kernel
theorem dX8_afternoon_95 : decode cX8_afternoon 95 = .ok (.aload_n 0, 1) := by decide +kernel
theorem dX8_afternoon_96 : decode cX8_afternoon 96 = .ok (.getfield 59, 3) := by decide +kernel
theorem dX8_afternoon_99 : decode cX8_afternoon 99 = .ok (.bipush 26, 2) := by decide +kernel
theorem dX8_afternoon_101 : decode cX8_afternoon 101 = .ok (.iaload, 1) := by decide +kernel
theorem dX8_afternoon_102 : decode cX8_afternoon 102 = .ok (.isub, 1) := by decide +kernel
theorem dX8_afternoon_103 : decode cX8_afternoon 103 = .ok (.goto 7, 3) := by decide +kernel
theorem dX8_afternoon_106 : decode cX8_afternoon 106 = .ok (.aload_n 0, 1) := by decide +kernel
theorem dX8_afternoon_107 : decode cX8_afternoon 107 = .ok (.invokevirtual 386, 3) := by decide +kernel
theorem dX8_afternoon_110 : decode cX8_afternoon 110 = .ok (.ireturn, 1) := by decide +kernel
theorem dX8_span_0 : decode cX8_span 0 = .ok (.aload_n 0, 1) := by decide +kernel
theorem dX8_span_1 : decode cX8_span 1 = .ok (.iconst 0, 1) := by decide +kernel
theorem dX8_span_2 : decode cX8_span 2 = .ok (.putfield 3, 3) := by decide +kernel
theorem dX8_span_5 : decode cX8_span 5 = .ok (.aload_n 0, 1) := by decide +kernel
theorem dX8_span_6 : decode cX8_span 6 = .ok (.iload_n 2, 1) := by decide +kernel
theorem dX8_span_7 : decode cX8_span 7 = .ok (.iconst 1, 1) := by decide +kernel
theorem dX8_span_8 : decode cX8_span 8 = .ok (.bipush 10, 2) := by decide +kernel
theorem dX8_span_10 : decode cX8_span 10 = .ok (.invokestatic 352, 3) := by decide +kernel
theorem dX8_span_13 : decode cX8_span 13 = .ok (.ifCond .eq 41, 3) := by decide +kernel
theorem dX8_span_16 : decode cX8_span 16 = .ok (.iload_n 3, 1) := by decide +kernel
theorem dX8_span_17 : decode cX8_span 17 = .ok (.iload 4, 2) := by decide +kernel
theorem dX8_span_19 : decode cX8_span 19 = .ok (.invokestatic 440, 3) := by decide +kernel
theorem dX8_span_22 : decode cX8_span 22 = .ok (.ifCond .eq 32, 3) := by decide +kernel
theorem dX8_span_25 : decode cX8_span 25 = .ok (.iload 5, 2) := by decide +kernel
theorem dX8_span_27 : decode cX8_span 27 = .ok (.iconst 0, 1) := by decide +kernel
theorem dX8_span_28 : decode cX8_span 28 = .ok (.iconst 2, 1) := by decide +kernel
theorem dX8_span_29 : decode cX8_span 29 = .ok (.invokestatic 352, 3) := by decide +kernel
theorem dX8_span_32 : decode cX8_span 32 = .ok (.ifCond .eq 22, 3) := by decide +kernel
theorem dX8_span_35 : decode cX8_span 35 = .ok (.iload 6, 2) := by decide +kernel
theorem dX8_span_37 : decode cX8_span 37 = .ok (.iconst 0, 1) := by decide +kernel
theorem dX8_span_38 : decode cX8_span 38 = .ok (.aload_n 0, 1) := by decide +kernel
theorem dX8_span_39 : decode cX8_span 39 = .ok (.getfield 154, 3) := by decide +kernel
theorem dX8_span_42 : decode cX8_span 42 = .ok (.iconst 1, 1) := by decide +kernel
theorem dX8_span_43 : decode cX8_span 43 = .ok (.isub, 1) := by decide +kernel
theorem dX8_span_44 : decode cX8_span 44 = .ok (.invokestatic 352, 3) := by decide +kernel
theorem dX8_span_47 : decode cX8_span 47 = .ok (.ifCond .eq 7, 3) := by decide +kernel
theorem dX8_span_50 : decode cX8_span 50 = .ok (.iconst 1, 1) := by decide +kernel
theorem dX8_span_51 : decode cX8_span 51 = .ok (.goto 4, 3) := by decide +kernel
theorem dX8_span_54 : decode cX8_span 54 = .ok (.iconst 0, 1) := by decide +kernel
theorem dX8_span_55 : decode cX8_span 55 = .ok (.iconst 1, 1) := by decide +kernel
theorem dX8_span_56 : decode cX8_span 56 = .ok (.iconst 1, 1) := by decide +kernel
theorem dX8_span_57 : decode cX8_span 57 = .ok (.invokevirtual 190, 3) := by decide +kernel
theorem dX8_span_60 : decode cX8_span 60 = .ok (.ifCond .ne 5, 3) := by decide +kernel
theorem dX8_span_63 : decode cX8_span 63 = .ok (.iconst 0, 1) := by decide +kernel
theorem dX8_span_64 : decode cX8_span 64 = .ok (.ireturn, 1) := by decide +kernel
theorem dX8_span_65 : decode cX8_span 65 = .ok (.iconst (-1), 1) := by decide +kernel
theorem dX8_span_66 : decode cX8_span 66 = .ok (.istore 7, 2) := by decide +kernel
theorem dX8_span_68 : decode cX8_span 68 = .ok (.iconst 0, 1) := by decide +kernel
theorem dX8_span_69 : decode cX8_span 69 = .ok (.istore 8, 2) := by decide +kernel
theorem dX8_span_71 : decode cX8_span 71 = .ok (.iconst 0, 1) := by decide +kernel
theorem dX8_span_72 : decode cX8_span 72 = .ok (.istore 9, 2) := by decide +kernel
theorem dX8_span_74 : decode cX8_span 74 = .ok (.iconst 0, 1) := by decide +kernel
theorem dX8_span_75 : decode cX8_span 75 = .ok (.istore 10, 2) := by decide +kernel
theorem dX8_span_77 : decode cX8_span 77 = .ok (.iload 10, 2) := by decide +kernel
theorem dX8_span_79 : decode cX8_span 79 = .ok (.iload_n 2, 1) := by decide +kernel
theorem dX8_span_80 : decode cX8_span 80 = .ok (.if_icmp .ge 98, 3) := by decide +kernel
theorem dX8_span_83 : decode cX8_span 83 = .ok (.aload_n 0, 1) := by decide +kernel
theorem dX8_span_84 : decode cX8_span 84 = .ok (.iload_n 1, 1) := by decide +kernel
theorem dX8_span_85 : decode cX8_span 85 = .ok (.iload 10, 2) := by decide +kernel
theorem dX8_span_87 : decode cX8_span 87 = .ok (.iadd, 1) := by decide +kernel
theorem dX8_span_88 : decode cX8_span 88 = .ok (.iload_n 3, 1) := by decide +kernel
theorem dX8_span_89 : decode cX8_span 89 = .ok (.iload 4, 2) := by decide +kernel
theorem dX8_span_91 : decode cX8_span 91 = .ok (.invokevirtual 443, 3) := by decide +kernel
theorem dX8_span_94 : decode cX8_span 94 = .ok (.aload_n 0, 1) := by decide +kernel
theorem dX8_span_95 : decode cX8_span 95 = .ok (.getfield 62, 3) := by decide +kernel
theorem dX8_span_98 : decode cX8_span 98 = .ok (.bipush 26, 2) := by decide +kernel
theorem dX8_span_100 : decode cX8_span 100 = .ok (.iaload, 1) := by decide +kernel
theorem dX8_span_101 : decode cX8_span 101 = .ok (.aload_n 0, 1) := by decide +kernel
theorem dX8_span_102 : decode cX8_span 102 = .ok (.getfield 59, 3) := by decide +kernel
theorem dX8_span_105 : decode cX8_span 105 = .ok (.bipush 26, 2) := by decide +kernel
theorem dX8_span_107 : decode cX8_span 107 = .ok (.iaload, 1) := by decide +kernel
theorem dX8_span_108 : decode cX8_span 108 = .ok (.isub, 1) := by decide +kernel
theorem dX8_span_109 : decode cX8_span 109 = .ok (.istore 11, 2) := by decide +kernel
theorem dX8_span_111 : decode cX8_span 111 = .ok (.iload 7, 2) := by decide +kernel
theorem dX8_span_113 : decode cX8_span 113 = .ok (.iconst (-1), 1) := by decide +kernel
theorem dX8_span_114 : decode cX8_span 114 = .ok (.if_icmp .eq 10, 3) := by decide +kernel
theorem dX8_span_117 : decode cX8_span 117 = .ok (.iload 11, 2) := by decide +kernel
theorem dX8_span_119 : decode cX8_span 119 = .ok (.iload 7, 2) := by decide +kernel
theorem dX8_span_121 : decode cX8_span 121 = .ok (.if_icmp .ge 8, 3) := by decide +kernel
theorem dX8_span_124 : decode cX8_span 124 = .ok (.iload 11, 2) := by decide +kernel
theorem dX8_span_126 : decode cX8_span 126 = .ok (.goto 5, 3) := by decide +kernel
theorem dX8_span_129 : decode cX8_span 129 = .ok (.iload 7, 2) := by decide +kernel
theorem dX8_span_131 : decode cX8_span 131 = .ok (.istore 7, 2) := by decide +kernel
theorem dX8_span_133 : decode cX8_span 133 = .ok (.iload 11, 2) := by decide +kernel
theorem dX8_span_135 : decode cX8_span 135 = .ok (.iload 8, 2) := by decide +kernel
theorem dX8_span_137 : decode cX8_span 137 = .ok (.if_icmp .le 8, 3) := by decide +kernel
theorem dX8_span_140 : decode cX8_span 140 = .ok (.iload 11, 2) := by decide +kernel
theorem dX8_span_142 : decode cX8_span 142 = .ok (.goto 5, 3) := by decide +kernel
theorem dX8_span_145 : decode cX8_span 145 = .ok (.iload 8, 2) := by decide +kernel
theorem dX8_span_147 : decode cX8_span 147 = .ok (.istore 8, 2) := by decide +kernel
theorem dX8_span_149 : decode cX8_span 149 = .ok (.iload 9, 2) := by decide +kernel
theorem dX8_span_151 : decode cX8_span 151 = .ok (.aload_n 0, 1) := by decide +kernel
theorem dX8_span_152 : decode cX8_span 152 = .ok (.getfield 62, 3) := by decide +kernel
theorem dX8_span_155 : decode cX8_span 155 = .ok (.bipush 10, 2) := by decide +kernel
theorem dX8_span_157 : decode cX8_span 157 = .ok (.iload 6, 2) := by decide +kernel
theorem dX8_span_159 : decode cX8_span 159 = .ok (.iadd, 1) := by decide +kernel
theorem dX8_span_160 : decode cX8_span 160 = .ok (.iaload, 1) := by decide +kernel
theorem dX8_span_161 : decode cX8_span 161 = .ok (.ifCond .le 7, 3) := by decide +kernel
theorem dX8_span_164 : decode cX8_span 164 = .ok (.iconst 1, 1) := by decide +kernel
theorem dX8_span_165 : decode cX8_span 165 = .ok (.goto 4, 3) := by decide +kernel
theorem dX8_span_168 : decode cX8_span 168 = .ok (.iconst 0, 1) := by decide +kernel
theorem dX8_span_169 : decode cX8_span 169 = .ok (.iadd, 1) := by decide +kernel
theorem dX8_span_170 : decode cX8_span 170 = .ok (.istore 9, 2) := by decide +kernel
theorem dX8_span_172 : decode cX8_span 172 = .ok (.iinc 10 1, 3) := by decide +kernel
theorem dX8_span_175 : decode cX8_span 175 = .ok (.goto (-98), 3) := by decide +kernel
theorem dX8_span_178 : decode cX8_span 178 = .ok (.iload 5, 2) := by decide +kernel
theorem dX8_span_180 : decode cX8_span 180 = .ok (.ifCond .ne 8, 3) := by decide +kernel
theorem dX8_span_183 : decode cX8_span 183 = .ok (.iload 7, 2) := by decide +kernel
theorem dX8_span_185 : decode cX8_span 185 = .ok (.goto 16, 3) := by decide +kernel
theorem dX8_span_188 : decode cX8_span 188 = .ok (.iload 5, 2) := by decide +kernel
theorem dX8_span_190 : decode cX8_span 190 = .ok (.iconst 1, 1) := by decide +kernel
theorem dX8_span_191 : decode cX8_span 191 = .ok (.if_icmp .ne 8, 3) := by decide +kernel
theorem dX8_span_194 : decode cX8_span 194 = .ok (.iload 8, 2) := by decide +kernel
theorem dX8_span_196 : decode cX8_span 196 = .ok (.goto 5, 3) := by decide +kernel
theorem dX8_span_199 : decode cX8_span 199 = .ok (.iload 9, 2) := by decide +kernel
theorem dX8_span_201 : decode cX8_span 201 = .ok (.ireturn, 1) := by decide +kernel
theorem dX8_keepsRow_0 : decode cX8_keepsRow 0 = .ok (.iconst 0, 1) := by decide +kernel
theorem dX8_keepsRow_1 : decode cX8_keepsRow 1 = .ok (.istore 5, 2) := by decide +kernel
theorem dX8_keepsRow_3 : decode cX8_keepsRow 3 = .ok (.iload 5, 2) := by decide +kernel
theorem dX8_keepsRow_5 : decode cX8_keepsRow 5 = .ok (.iload_n 3, 1) := by decide +kernel
theorem dX8_keepsRow_6 : decode cX8_keepsRow 6 = .ok (.if_icmp .ge 43, 3) := by decide +kernel
theorem dX8_keepsRow_9 : decode cX8_keepsRow 9 = .ok (.iload 4, 2) := by decide +kernel
theorem dX8_keepsRow_11 : decode cX8_keepsRow 11 = .ok (.ifCond .eq 19, 3) := by decide +kernel
theorem dX8_keepsRow_14 : decode cX8_keepsRow 14 = .ok (.aload_n 0, 1) := by decide +kernel
theorem dX8_keepsRow_15 : decode cX8_keepsRow 15 = .ok (.getfield 87, 3) := by decide +kernel
theorem dX8_keepsRow_18 : decode cX8_keepsRow 18 = .ok (.iload_n 1, 1) := by decide +kernel
theorem dX8_keepsRow_19 : decode cX8_keepsRow 19 = .ok (.iload 5, 2) := by decide +kernel
theorem dX8_keepsRow_21 : decode cX8_keepsRow 21 = .ok (.iadd, 1) := by decide +kernel
theorem dX8_keepsRow_22 : decode cX8_keepsRow 22 = .ok (.aload_n 2, 1) := by decide +kernel
theorem dX8_keepsRow_23 : decode cX8_keepsRow 23 = .ok (.iload 5, 2) := by decide +kernel
theorem dX8_keepsRow_25 : decode cX8_keepsRow 25 = .ok (.iaload, 1) := by decide +kernel
theorem dX8_keepsRow_26 : decode cX8_keepsRow 26 = .ok (.iastore, 1) := by decide +kernel
theorem dX8_keepsRow_27 : decode cX8_keepsRow 27 = .ok (.goto 16, 3) := by decide +kernel
theorem dX8_keepsRow_30 : decode cX8_keepsRow 30 = .ok (.aload_n 2, 1) := by decide +kernel
theorem dX8_keepsRow_31 : decode cX8_keepsRow 31 = .ok (.iload 5, 2) := by decide +kernel
theorem dX8_keepsRow_33 : decode cX8_keepsRow 33 = .ok (.aload_n 0, 1) := by decide +kernel
theorem dX8_keepsRow_34 : decode cX8_keepsRow 34 = .ok (.getfield 87, 3) := by decide +kernel
theorem dX8_keepsRow_37 : decode cX8_keepsRow 37 = .ok (.iload_n 1, 1) := by decide +kernel
theorem dX8_keepsRow_38 : decode cX8_keepsRow 38 = .ok (.iload 5, 2) := by decide +kernel
theorem dX8_keepsRow_40 : decode cX8_keepsRow 40 = .ok (.iadd, 1) := by decide +kernel
theorem dX8_keepsRow_41 : decode cX8_keepsRow 41 = .ok (.iaload, 1) := by decide +kernel
theorem dX8_keepsRow_42 : decode cX8_keepsRow 42 = .ok (.iastore, 1) := by decide +kernel
theorem dX8_keepsRow_43 : decode cX8_keepsRow 43 = .ok (.iinc 5 1, 3) := by decide +kernel
theorem dX8_keepsRow_46 : decode cX8_keepsRow 46 = .ok (.goto (-43), 3) := by decide +kernel
theorem dX8_keepsRow_49 : decode cX8_keepsRow 49 = .ok (.iload_n 1, 1) := by decide +kernel
theorem dX8_keepsRow_50 : decode cX8_keepsRow 50 = .ok (.iload_n 3, 1) := by decide +kernel
theorem dX8_keepsRow_51 : decode cX8_keepsRow 51 = .ok (.iadd, 1) := by decide +kernel
theorem dX8_keepsRow_52 : decode cX8_keepsRow 52 = .ok (.ireturn, 1) := by decide +kernel
theorem dX8_keepsAll_0 : decode cX8_keepsAll 0 = .ok (.aload_n 0, 1) := by decide +kernel
theorem dX8_keepsAll_1 : decode cX8_keepsAll 1 = .ok (.sipush 477, 3) := by decide +kernel
theorem dX8_keepsAll_4 : decode cX8_keepsAll 4 = .ok (.iload_n 1, 1) := by decide +kernel
theorem dX8_keepsAll_5 : decode cX8_keepsAll 5 = .ok (.imul, 1) := by decide +kernel
theorem dX8_keepsAll_6 : decode cX8_keepsAll 6 = .ok (.aload_n 0, 1) := by decide +kernel
theorem dX8_keepsAll_7 : decode cX8_keepsAll 7 = .ok (.getfield 59, 3) := by decide +kernel
theorem dX8_keepsAll_10 : decode cX8_keepsAll 10 = .ok (.bipush 28, 2) := by decide +kernel
theorem dX8_keepsAll_12 : decode cX8_keepsAll 12 = .ok (.iload_n 2, 1) := by decide +kernel
theorem dX8_keepsAll_13 : decode cX8_keepsAll 13 = .ok (.invokevirtual 447, 3) := by decide +kernel
theorem dX8_keepsAll_16 : decode cX8_keepsAll 16 = .ok (.istore_n 3, 1) := by decide +kernel
theorem dX8_keepsAll_17 : decode cX8_keepsAll 17 = .ok (.aload_n 0, 1) := by decide +kernel
theorem dX8_keepsAll_18 : decode cX8_keepsAll 18 = .ok (.iload_n 3, 1) := by decide +kernel
theorem dX8_keepsAll_19 : decode cX8_keepsAll 19 = .ok (.aload_n 0, 1) := by decide +kernel
theorem dX8_keepsAll_20 : decode cX8_keepsAll 20 = .ok (.getfield 65, 3) := by decide +kernel
theorem dX8_keepsAll_23 : decode cX8_keepsAll 23 = .ok (.sipush 448, 3) := by decide +kernel
theorem dX8_keepsAll_26 : decode cX8_keepsAll 26 = .ok (.iload_n 2, 1) := by decide +kernel
theorem dX8_keepsAll_27 : decode cX8_keepsAll 27 = .ok (.invokevirtual 447, 3) := by decide +kernel
theorem dX8_keepsAll_30 : decode cX8_keepsAll 30 = .ok (.istore_n 3, 1) := by decide +kernel
theorem dX8_keepsAll_31 : decode cX8_keepsAll 31 = .ok (.iload_n 2, 1) := by decide +kernel
theorem dX8_keepsAll_32 : decode cX8_keepsAll 32 = .ok (.ifCond .eq 16, 3) := by decide +kernel
theorem dX8_keepsAll_35 : decode cX8_keepsAll 35 = .ok (.aload_n 0, 1) := by decide +kernel
theorem dX8_keepsAll_36 : decode cX8_keepsAll 36 = .ok (.getfield 87, 3) := by decide +kernel
theorem dX8_keepsAll_39 : decode cX8_keepsAll 39 = .ok (.iload_n 3, 1) := by decide +kernel
theorem dX8_keepsAll_40 : decode cX8_keepsAll 40 = .ok (.aload_n 0, 1) := by decide +kernel
theorem dX8_keepsAll_41 : decode cX8_keepsAll 41 = .ok (.getfield 170, 3) := by decide +kernel
theorem dX8_keepsAll_44 : decode cX8_keepsAll 44 = .ok (.iastore, 1) := by decide +kernel
theorem dX8_keepsAll_45 : decode cX8_keepsAll 45 = .ok (.goto 13, 3) := by decide +kernel
theorem dX8_keepsAll_48 : decode cX8_keepsAll 48 = .ok (.aload_n 0, 1) := by decide +kernel
theorem dX8_keepsAll_49 : decode cX8_keepsAll 49 = .ok (.aload_n 0, 1) := by decide +kernel
theorem dX8_keepsAll_50 : decode cX8_keepsAll 50 = .ok (.getfield 87, 3) := by decide +kernel
theorem dX8_keepsAll_53 : decode cX8_keepsAll 53 = .ok (.iload_n 3, 1) := by decide +kernel
theorem dX8_keepsAll_54 : decode cX8_keepsAll 54 = .ok (.iaload, 1) := by decide +kernel
theorem dX8_keepsAll_55 : decode cX8_keepsAll 55 = .ok (.putfield 170, 3) := by decide +kernel
theorem dX8_keepsAll_58 : decode cX8_keepsAll 58 = .ok (.return_, 1) := by decide +kernel
theorem dX8_image_0 : decode cX8_image 0 = .ok (.aload_n 0, 1) := by decide +kernel
theorem dX8_image_1 : decode cX8_image 1 = .ok (.iconst 0, 1) := by decide +kernel
theorem dX8_image_2 : decode cX8_image 2 = .ok (.putfield 3, 3) := by decide +kernel
theorem dX8_image_5 : decode cX8_image 5 = .ok (.aload_n 0, 1) := by decide +kernel
theorem dX8_image_6 : decode cX8_image 6 = .ok (.getfield 173, 3) := by decide +kernel
theorem dX8_image_9 : decode cX8_image 9 = .ok (.iconst 3, 1) := by decide +kernel
theorem dX8_image_10 : decode cX8_image 10 = .ok (.if_icmp .ne 5, 3) := by decide +kernel
theorem dX8_image_13 : decode cX8_image 13 = .ok (.iconst (-1), 1) := by decide +kernel
theorem dX8_image_14 : decode cX8_image 14 = .ok (.ireturn, 1) := by decide +kernel
theorem dX8_image_15 : decode cX8_image 15 = .ok (.aload_n 0, 1) := by decide +kernel
theorem dX8_image_16 : decode cX8_image 16 = .ok (.aload_n 0, 1) := by decide +kernel
theorem dX8_image_17 : decode cX8_image 17 = .ok (.getfield 173, 3) := by decide +kernel
theorem dX8_image_20 : decode cX8_image 20 = .ok (.iconst 1, 1) := by decide +kernel
theorem dX8_image_21 : decode cX8_image 21 = .ok (.invokevirtual 451, 3) := by decide +kernel
theorem dX8_image_24 : decode cX8_image 24 = .ok (.aload_n 0, 1) := by decide +kernel
theorem dX8_image_25 : decode cX8_image 25 = .ok (.dup, 1) := by decide +kernel
theorem dX8_image_26 : decode cX8_image 26 = .ok (.getfield 173, 3) := by decide +kernel
theorem dX8_image_29 : decode cX8_image 29 = .ok (.iconst 1, 1) := by decide +kernel
theorem dX8_image_30 : decode cX8_image 30 = .ok (.iadd, 1) := by decide +kernel
theorem dX8_image_31 : decode cX8_image 31 = .ok (.putfield 173, 3) := by decide +kernel
theorem dX8_image_34 : decode cX8_image 34 = .ok (.aload_n 0, 1) := by decide +kernel
theorem dX8_image_35 : decode cX8_image 35 = .ok (.getfield 173, 3) := by decide +kernel
theorem dX8_image_38 : decode cX8_image 38 = .ok (.ireturn, 1) := by decide +kernel
theorem dX8_restore_0 : decode cX8_restore 0 = .ok (.aload_n 0, 1) := by decide +kernel
theorem dX8_restore_1 : decode cX8_restore 1 = .ok (.iconst 0, 1) := by decide +kernel
theorem dX8_restore_2 : decode cX8_restore 2 = .ok (.putfield 3, 3) := by decide +kernel
theorem dX8_restore_5 : decode cX8_restore 5 = .ok (.aload_n 0, 1) := by decide +kernel
theorem dX8_restore_6 : decode cX8_restore 6 = .ok (.getfield 173, 3) := by decide +kernel
theorem dX8_restore_9 : decode cX8_restore 9 = .ok (.ifCond .ne 5, 3) := by decide +kernel
theorem dX8_restore_12 : decode cX8_restore 12 = .ok (.iconst (-1), 1) := by decide +kernel
theorem dX8_restore_13 : decode cX8_restore 13 = .ok (.ireturn, 1) := by decide +kernel
theorem dX8_restore_14 : decode cX8_restore 14 = .ok (.aload_n 0, 1) := by decide +kernel
theorem dX8_restore_15 : decode cX8_restore 15 = .ok (.dup, 1) := by decide +kernel
theorem dX8_restore_16 : decode cX8_restore 16 = .ok (.getfield 173, 3) := by decide +kernel
theorem dX8_restore_19 : decode cX8_restore 19 = .ok (.iconst 1, 1) := by decide +kernel
theorem dX8_restore_20 : decode cX8_restore 20 = .ok (.isub, 1) := by decide +kernel
theorem dX8_restore_21 : decode cX8_restore 21 = .ok (.putfield 173, 3) := by decide +kernel
theorem dX8_restore_24 : decode cX8_restore 24 = .ok (.aload_n 0, 1) := by decide +kernel
theorem dX8_restore_25 : decode cX8_restore 25 = .ok (.aload_n 0, 1) := by decide +kernel
theorem dX8_restore_26 : decode cX8_restore 26 = .ok (.getfield 173, 3) := by decide +kernel
theorem dX8_restore_29 : decode cX8_restore 29 = .ok (.iconst 0, 1) := by decide +kernel
theorem dX8_restore_30 : decode cX8_restore 30 = .ok (.invokevirtual 451, 3) := by decide +kernel
theorem dX8_restore_33 : decode cX8_restore 33 = .ok (.aload_n 0, 1) := by decide +kernel
theorem dX8_restore_34 : decode cX8_restore 34 = .ok (.iconst 0, 1) := by decide +kernel
theorem dX8_restore_35 : decode cX8_restore 35 = .ok (.putfield 176, 3) := by decide +kernel
theorem dX8_restore_38 : decode cX8_restore 38 = .ok (.aload_n 0, 1) := by decide +kernel
theorem dX8_restore_39 : decode cX8_restore 39 = .ok (.getfield 173, 3) := by decide +kernel
theorem dX8_restore_42 : decode cX8_restore 42 = .ok (.ireturn, 1) := by decide +kernel
theorem dX8_status_0 : decode cX8_status 0 = .ok (.aload_n 0, 1) := by decide +kernel
theorem dX8_status_1 : decode cX8_status 1 = .ok (.iconst 0, 1) := by decide +kernel
theorem dX8_status_2 : decode cX8_status 2 = .ok (.putfield 3, 3) := by decide +kernel
theorem dX8_status_5 : decode cX8_status 5 = .ok (.iload_n 1, 1) := by decide +kernel
theorem dX8_status_6 : decode cX8_status 6 = .ok (.iconst 0, 1) := by decide +kernel
theorem dX8_status_7 : decode cX8_status 7 = .ok (.iconst 1, 1) := by decide +kernel
theorem dX8_status_8 : decode cX8_status 8 = .ok (.invokestatic 352, 3) := by decide +kernel
theorem dX8_status_11 : decode cX8_status 11 = .ok (.ifCond .eq 12, 3) := by decide +kernel
theorem dX8_status_14 : decode cX8_status 14 = .ok (.aload_n 0, 1) := by decide +kernel
theorem dX8_status_15 : decode cX8_status 15 = .ok (.getfield 7, 3) := by decide +kernel
theorem dX8_status_18 : decode cX8_status 18 = .ok (.iload_n 1, 1) := by decide +kernel
theorem dX8_status_19 : decode cX8_status 19 = .ok (.iaload, 1) := by decide +kernel
theorem dX8_status_20 : decode cX8_status 20 = .ok (.goto 4, 3) := by decide +kernel
theorem dX8_status_23 : decode cX8_status 23 = .ok (.iconst (-1), 1) := by decide +kernel
theorem dX8_status_24 : decode cX8_status 24 = .ok (.ireturn, 1) := by decide +kernel
theorem dX8_count_0 : decode cX8_count 0 = .ok (.aload_n 0, 1) := by decide +kernel
theorem dX8_count_1 : decode cX8_count 1 = .ok (.iconst 0, 1) := by decide +kernel
theorem dX8_count_2 : decode cX8_count 2 = .ok (.putfield 3, 3) := by decide +kernel
theorem dX8_count_5 : decode cX8_count 5 = .ok (.iload_n 1, 1) := by decide +kernel
theorem dX8_count_6 : decode cX8_count 6 = .ok (.ifCond .ne 10, 3) := by decide +kernel
theorem dX8_count_9 : decode cX8_count 9 = .ok (.aload_n 0, 1) := by decide +kernel
theorem dX8_count_10 : decode cX8_count 10 = .ok (.getfield 173, 3) := by decide +kernel
theorem dX8_count_13 : decode cX8_count 13 = .ok (.goto 28, 3) := by decide +kernel
theorem dX8_count_16 : decode cX8_count 16 = .ok (.iload_n 1, 1) := by decide +kernel
theorem dX8_count_17 : decode cX8_count 17 = .ok (.iconst 1, 1) := by decide +kernel
theorem dX8_count_18 : decode cX8_count 18 = .ok (.if_icmp .ne 10, 3) := by decide +kernel
theorem dX8_count_21 : decode cX8_count 21 = .ok (.aload_n 0, 1) := by decide +kernel
theorem dX8_count_22 : decode cX8_count 22 = .ok (.getfield 96, 3) := by decide +kernel
theorem dX8_count_25 : decode cX8_count 25 = .ok (.goto 16, 3) := by decide +kernel
theorem dX8_count_28 : decode cX8_count 28 = .ok (.iload_n 1, 1) := by decide +kernel
theorem dX8_count_29 : decode cX8_count 29 = .ok (.iconst 2, 1) := by decide +kernel
theorem dX8_count_30 : decode cX8_count 30 = .ok (.if_icmp .ne 10, 3) := by decide +kernel
theorem dX8_count_33 : decode cX8_count 33 = .ok (.aload_n 0, 1) := by decide +kernel
theorem dX8_count_34 : decode cX8_count 34 = .ok (.getfield 170, 3) := by decide +kernel
theorem dX8_count_37 : decode cX8_count 37 = .ok (.goto 4, 3) := by decide +kernel
theorem dX8_count_40 : decode cX8_count 40 = .ok (.iconst (-1), 1) := by decide +kernel
theorem dX8_count_41 : decode cX8_count 41 = .ok (.ireturn, 1) := by decide +kernel
