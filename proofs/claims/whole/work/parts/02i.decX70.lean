theorem dX7_init_0 : decode cX7_init 0 = .ok (.aload_n 0, 1) := by decide +kernel
theorem dX7_init_1 : decode cX7_init 1 = .ok (.invokespecial 3, 3) := by decide +kernel
theorem dX7_init_4 : decode cX7_init 4 = .ok (.aload_n 0, 1) := by decide +kernel
theorem dX7_init_5 : decode cX7_init 5 = .ok (.new 9, 3) := by decide +kernel
theorem dX7_init_8 : decode cX7_init 8 = .ok (.dup, 1) := by decide +kernel
theorem dX7_init_9 : decode cX7_init 9 = .ok (.invokespecial 11, 3) := by decide +kernel
theorem dX7_init_12 : decode cX7_init 12 = .ok (.putfield 12, 3) := by decide +kernel
theorem dX7_init_15 : decode cX7_init 15 = .ok (.aload_n 0, 1) := by decide +kernel
theorem dX7_init_16 : decode cX7_init 16 = .ok (.new 18, 3) := by decide +kernel
theorem dX7_init_19 : decode cX7_init 19 = .ok (.dup, 1) := by decide +kernel
theorem dX7_init_20 : decode cX7_init 20 = .ok (.invokespecial 20, 3) := by decide +kernel
theorem dX7_init_23 : decode cX7_init 23 = .ok (.putfield 21, 3) := by decide +kernel
theorem dX7_init_26 : decode cX7_init 26 = .ok (.aload_n 0, 1) := by decide +kernel
theorem dX7_init_27 : decode cX7_init 27 = .ok (.new 18, 3) := by decide +kernel
theorem dX7_init_30 : decode cX7_init 30 = .ok (.dup, 1) := by decide +kernel
theorem dX7_init_31 : decode cX7_init 31 = .ok (.invokespecial 20, 3) := by decide +kernel
theorem dX7_init_34 : decode cX7_init 34 = .ok (.putfield 25, 3) := by decide +kernel
theorem dX7_init_37 : decode cX7_init 37 = .ok (.aload_n 0, 1) := by decide +kernel
theorem dX7_init_38 : decode cX7_init 38 = .ok (.new 28, 3) := by decide +kernel
theorem dX7_init_41 : decode cX7_init 41 = .ok (.dup, 1) := by decide +kernel
theorem dX7_init_42 : decode cX7_init 42 = .ok (.invokespecial 30, 3) := by decide +kernel
theorem dX7_init_45 : decode cX7_init 45 = .ok (.putfield 31, 3) := by decide +kernel
theorem dX7_init_48 : decode cX7_init 48 = .ok (.aload_n 0, 1) := by decide +kernel
theorem dX7_init_49 : decode cX7_init 49 = .ok (.new 35, 3) := by decide +kernel
theorem dX7_init_52 : decode cX7_init 52 = .ok (.dup, 1) := by decide +kernel
theorem dX7_init_53 : decode cX7_init 53 = .ok (.invokespecial 37, 3) := by decide +kernel
theorem dX7_init_56 : decode cX7_init 56 = .ok (.putfield 38, 3) := by decide +kernel
theorem dX7_init_59 : decode cX7_init 59 = .ok (.aload_n 0, 1) := by decide +kernel
theorem dX7_init_60 : decode cX7_init 60 = .ok (.new 42, 3) := by decide +kernel
theorem dX7_init_63 : decode cX7_init 63 = .ok (.dup, 1) := by decide +kernel
theorem dX7_init_64 : decode cX7_init 64 = .ok (.invokespecial 44, 3) := by decide +kernel
theorem dX7_init_67 : decode cX7_init 67 = .ok (.putfield 45, 3) := by decide +kernel
theorem dX7_init_70 : decode cX7_init 70 = .ok (.aload_n 0, 1) := by decide +kernel
theorem dX7_init_71 : decode cX7_init 71 = .ok (.new 49, 3) := by decide +kernel
theorem dX7_init_74 : decode cX7_init 74 = .ok (.dup, 1) := by decide +kernel
theorem dX7_init_75 : decode cX7_init 75 = .ok (.aload_n 0, 1) := by decide +kernel
theorem dX7_init_76 : decode cX7_init 76 = .ok (.getfield 21, 3) := by decide +kernel
theorem dX7_init_79 : decode cX7_init 79 = .ok (.aload_n 0, 1) := by decide +kernel
theorem dX7_init_80 : decode cX7_init 80 = .ok (.getfield 31, 3) := by decide +kernel
theorem dX7_init_83 : decode cX7_init 83 = .ok (.invokespecial 51, 3) := by decide +kernel
theorem dX7_init_86 : decode cX7_init 86 = .ok (.putfield 54, 3) := by decide +kernel
theorem dX7_init_89 : decode cX7_init 89 = .ok (.aload_n 0, 1) := by decide +kernel
theorem dX7_init_90 : decode cX7_init 90 = .ok (.new 49, 3) := by decide +kernel
theorem dX7_init_93 : decode cX7_init 93 = .ok (.dup, 1) := by decide +kernel
theorem dX7_init_94 : decode cX7_init 94 = .ok (.aload_n 0, 1) := by decide +kernel
theorem dX7_init_95 : decode cX7_init 95 = .ok (.getfield 21, 3) := by decide +kernel
theorem dX7_init_98 : decode cX7_init 98 = .ok (.aload_n 0, 1) := by decide +kernel
theorem dX7_init_99 : decode cX7_init 99 = .ok (.getfield 31, 3) := by decide +kernel
theorem dX7_init_102 : decode cX7_init 102 = .ok (.invokespecial 51, 3) := by decide +kernel
theorem dX7_init_105 : decode cX7_init 105 = .ok (.putfield 58, 3) := by decide +kernel
theorem dX7_init_108 : decode cX7_init 108 = .ok (.aload_n 0, 1) := by decide +kernel
theorem dX7_init_109 : decode cX7_init 109 = .ok (.new 61, 3) := by decide +kernel
theorem dX7_init_112 : decode cX7_init 112 = .ok (.dup, 1) := by decide +kernel
theorem dX7_init_113 : decode cX7_init 113 = .ok (.invokespecial 63, 3) := by decide +kernel
theorem dX7_init_116 : decode cX7_init 116 = .ok (.putfield 64, 3) := by decide +kernel
theorem dX7_init_119 : decode cX7_init 119 = .ok (.aload_n 0, 1) := by decide +kernel
theorem dX7_init_120 : decode cX7_init 120 = .ok (.iconst 3, 1) := by decide +kernel
theorem dX7_init_121 : decode cX7_init 121 = .ok (.anewarray 61, 3) := by decide +kernel
theorem dX7_init_124 : decode cX7_init 124 = .ok (.dup, 1) := by decide +kernel
theorem dX7_init_125 : decode cX7_init 125 = .ok (.iconst 0, 1) := by decide +kernel
theorem dX7_init_126 : decode cX7_init 126 = .ok (.new 61, 3) := by decide +kernel
theorem dX7_init_129 : decode cX7_init 129 = .ok (.dup, 1) := by decide +kernel
theorem dX7_init_130 : decode cX7_init 130 = .ok (.invokespecial 63, 3) := by decide +kernel
theorem dX7_init_133 : decode cX7_init 133 = .ok (.aastore, 1) := by decide +kernel
theorem dX7_init_134 : decode cX7_init 134 = .ok (.dup, 1) := by decide +kernel
theorem dX7_init_135 : decode cX7_init 135 = .ok (.iconst 1, 1) := by decide +kernel
theorem dX7_init_136 : decode cX7_init 136 = .ok (.new 61, 3) := by decide +kernel
theorem dX7_init_139 : decode cX7_init 139 = .ok (.dup, 1) := by decide +kernel
theorem dX7_init_140 : decode cX7_init 140 = .ok (.invokespecial 63, 3) := by decide +kernel
theorem dX7_init_143 : decode cX7_init 143 = .ok (.aastore, 1) := by decide +kernel
theorem dX7_init_144 : decode cX7_init 144 = .ok (.dup, 1) := by decide +kernel
theorem dX7_init_145 : decode cX7_init 145 = .ok (.iconst 2, 1) := by decide +kernel
theorem dX7_init_146 : decode cX7_init 146 = .ok (.new 61, 3) := by decide +kernel
theorem dX7_init_149 : decode cX7_init 149 = .ok (.dup, 1) := by decide +kernel
theorem dX7_init_150 : decode cX7_init 150 = .ok (.invokespecial 63, 3) := by decide +kernel
theorem dX7_init_153 : decode cX7_init 153 = .ok (.aastore, 1) := by decide +kernel
theorem dX7_init_154 : decode cX7_init 154 = .ok (.putfield 68, 3) := by decide +kernel
theorem dX7_init_157 : decode cX7_init 157 = .ok (.aload_n 0, 1) := by decide +kernel
theorem dX7_init_158 : decode cX7_init 158 = .ok (.bipush 48, 2) := by decide +kernel
theorem dX7_init_160 : decode cX7_init 160 = .ok (.newarray .int, 2) := by decide +kernel
theorem dX7_init_162 : decode cX7_init 162 = .ok (.putfield 72, 3) := by decide +kernel
theorem dX7_init_165 : decode cX7_init 165 = .ok (.aload_n 0, 1) := by decide +kernel
theorem dX7_init_166 : decode cX7_init 166 = .ok (.iconst 5, 1) := by decide +kernel
theorem dX7_init_167 : decode cX7_init 167 = .ok (.newarray .int, 2) := by decide +kernel
theorem dX7_init_169 : decode cX7_init 169 = .ok (.putfield 76, 3) := by decide +kernel
theorem dX7_init_172 : decode cX7_init 172 = .ok (.aload_n 0, 1) := by decide +kernel
theorem dX7_init_173 : decode cX7_init 173 = .ok (.iconst 0, 1) := by decide +kernel
theorem dX7_init_174 : decode cX7_init 174 = .ok (.putfield 79, 3) := by decide +kernel
theorem dX7_init_177 : decode cX7_init 177 = .ok (.aload_n 0, 1) := by decide +kernel
theorem dX7_init_178 : decode cX7_init 178 = .ok (.iconst 0, 1) := by decide +kernel
theorem dX7_init_179 : decode cX7_init 179 = .ok (.putfield 83, 3) := by decide +kernel
theorem dX7_init_182 : decode cX7_init 182 = .ok (.aload_n 0, 1) := by decide +kernel
theorem dX7_init_183 : decode cX7_init 183 = .ok (.iconst 0, 1) := by decide +kernel
theorem dX7_init_184 : decode cX7_init 184 = .ok (.putfield 86, 3) := by decide +kernel
theorem dX7_init_187 : decode cX7_init 187 = .ok (.aload_n 0, 1) := by decide +kernel
theorem dX7_init_188 : decode cX7_init 188 = .ok (.iconst 0, 1) := by decide +kernel
theorem dX7_init_189 : decode cX7_init 189 = .ok (.putfield 89, 3) := by decide +kernel
theorem dX7_init_192 : decode cX7_init 192 = .ok (.aload_n 0, 1) := by decide +kernel
theorem dX7_init_193 : decode cX7_init 193 = .ok (.iconst 0, 1) := by decide +kernel
theorem dX7_init_194 : decode cX7_init 194 = .ok (.putfield 92, 3) := by decide +kernel
theorem dX7_init_197 : decode cX7_init 197 = .ok (.return_, 1) := by decide +kernel
theorem dX7_feed_0 : decode cX7_feed 0 = .ok (.aload_n 0, 1) := by decide +kernel
theorem dX7_feed_1 : decode cX7_feed 1 = .ok (.getfield 12, 3) := by decide +kernel
theorem dX7_feed_4 : decode cX7_feed 4 = .ok (.getfield 95, 3) := by decide +kernel
theorem dX7_feed_7 : decode cX7_feed 7 = .ok (.bipush 20, 2) := by decide +kernel
theorem dX7_feed_9 : decode cX7_feed 9 = .ok (.iadd, 1) := by decide +kernel
theorem dX7_feed_10 : decode cX7_feed 10 = .ok (.sipush 600, 3) := by decide +kernel
theorem dX7_feed_13 : decode cX7_feed 13 = .ok (.if_icmp .le 5, 3) := by decide +kernel
theorem dX7_feed_16 : decode cX7_feed 16 = .ok (.iconst (-1), 1) := by decide +kernel
theorem dX7_feed_17 : decode cX7_feed 17 = .ok (.ireturn, 1) := by decide +kernel
theorem dX7_feed_18 : decode cX7_feed 18 = .ok (.aload_n 0, 1) := by decide +kernel
theorem dX7_feed_19 : decode cX7_feed 19 = .ok (.getfield 12, 3) := by decide +kernel
theorem dX7_feed_22 : decode cX7_feed 22 = .ok (.iload_n 1, 1) := by decide +kernel
theorem dX7_feed_23 : decode cX7_feed 23 = .ok (.invokevirtual 98, 3) := by decide +kernel
theorem dX7_feed_26 : decode cX7_feed 26 = .ok (.aload_n 0, 1) := by decide +kernel
theorem dX7_feed_27 : decode cX7_feed 27 = .ok (.getfield 12, 3) := by decide +kernel
theorem dX7_feed_30 : decode cX7_feed 30 = .ok (.iload_n 2, 1) := by decide +kernel
theorem dX7_feed_31 : decode cX7_feed 31 = .ok (.invokevirtual 98, 3) := by decide +kernel
theorem dX7_feed_34 : decode cX7_feed 34 = .ok (.aload_n 0, 1) := by decide +kernel
theorem dX7_feed_35 : decode cX7_feed 35 = .ok (.getfield 12, 3) := by decide +kernel
theorem dX7_feed_38 : decode cX7_feed 38 = .ok (.iload_n 3, 1) := by decide +kernel
theorem dX7_feed_39 : decode cX7_feed 39 = .ok (.invokevirtual 98, 3) := by decide +kernel
theorem dX7_feed_42 : decode cX7_feed 42 = .ok (.aload_n 0, 1) := by decide +kernel
theorem dX7_feed_43 : decode cX7_feed 43 = .ok (.getfield 12, 3) := by decide +kernel
theorem dX7_feed_46 : decode cX7_feed 46 = .ok (.iload 4, 2) := by decide +kernel
theorem dX7_feed_48 : decode cX7_feed 48 = .ok (.invokevirtual 98, 3) := by decide +kernel
theorem dX7_feed_51 : decode cX7_feed 51 = .ok (.aload_n 0, 1) := by decide +kernel
theorem dX7_feed_52 : decode cX7_feed 52 = .ok (.getfield 12, 3) := by decide +kernel
theorem dX7_feed_55 : decode cX7_feed 55 = .ok (.iload 5, 2) := by decide +kernel
theorem dX7_feed_57 : decode cX7_feed 57 = .ok (.invokevirtual 98, 3) := by decide +kernel
theorem dX7_feed_60 : decode cX7_feed 60 = .ok (.aload_n 0, 1) := by decide +kernel
theorem dX7_feed_61 : decode cX7_feed 61 = .ok (.getfield 12, 3) := by decide +kernel
theorem dX7_feed_64 : decode cX7_feed 64 = .ok (.getfield 95, 3) := by decide +kernel
theorem dX7_feed_67 : decode cX7_feed 67 = .ok (.ireturn, 1) := by decide +kernel
theorem dX7_corner_0 : decode cX7_corner 0 = .ok (.aload_n 0, 1) := by decide +kernel
theorem dX7_corner_1 : decode cX7_corner 1 = .ok (.iload_n 1, 1) := by decide +kernel
theorem dX7_corner_2 : decode cX7_corner 2 = .ok (.iconst 0, 1) := by decide +kernel
theorem dX7_corner_3 : decode cX7_corner 3 = .ok (.aload_n 0, 1) := by decide +kernel
theorem dX7_corner_4 : decode cX7_corner 4 = .ok (.getfield 12, 3) := by decide +kernel
theorem dX7_corner_7 : decode cX7_corner 7 = .ok (.getfield 95, 3) := by decide +kernel
theorem dX7_corner_10 : decode cX7_corner 10 = .ok (.invokevirtual 102, 3) := by decide +kernel
theorem dX7_corner_13 : decode cX7_corner 13 = .ok (.aload_n 0, 1) := by decide +kernel
theorem dX7_corner_14 : decode cX7_corner 14 = .ok (.getfield 12, 3) := by decide +kernel
theorem dX7_corner_17 : decode cX7_corner 17 = .ok (.iload_n 1, 1) := by decide +kernel
theorem dX7_corner_18 : decode cX7_corner 18 = .ok (.invokevirtual 106, 3) := by decide +kernel
theorem dX7_corner_21 : decode cX7_corner 21 = .ok (.aload_n 0, 1) := by decide +kernel
theorem dX7_corner_22 : decode cX7_corner 22 = .ok (.getfield 25, 3) := by decide +kernel
theorem dX7_corner_25 : decode cX7_corner 25 = .ok (.aload_n 0, 1) := by decide +kernel
theorem dX7_corner_26 : decode cX7_corner 26 = .ok (.getfield 12, 3) := by decide +kernel
theorem dX7_corner_29 : decode cX7_corner 29 = .ok (.invokevirtual 109, 3) := by decide +kernel
theorem dX7_corner_32 : decode cX7_corner 32 = .ok (.ifCond .ne 11, 3) := by decide +kernel
theorem dX7_corner_35 : decode cX7_corner 35 = .ok (.aload_n 0, 1) := by decide +kernel
theorem dX7_corner_36 : decode cX7_corner 36 = .ok (.getfield 12, 3) := by decide +kernel
theorem dX7_corner_39 : decode cX7_corner 39 = .ok (.invokevirtual 113, 3) := by decide +kernel
theorem dX7_corner_42 : decode cX7_corner 42 = .ok (.ireturn, 1) := by decide +kernel
theorem dX7_corner_43 : decode cX7_corner 43 = .ok (.aload_n 0, 1) := by decide +kernel
theorem dX7_corner_44 : decode cX7_corner 44 = .ok (.getfield 21, 3) := by decide +kernel
theorem dX7_corner_47 : decode cX7_corner 47 = .ok (.aload_n 0, 1) := by decide +kernel
theorem dX7_corner_48 : decode cX7_corner 48 = .ok (.getfield 25, 3) := by decide +kernel
theorem dX7_corner_51 : decode cX7_corner 51 = .ok (.invokevirtual 117, 3) := by decide +kernel
theorem dX7_corner_54 : decode cX7_corner 54 = .ok (.aload_n 0, 1) := by decide +kernel
theorem dX7_corner_55 : decode cX7_corner 55 = .ok (.getfield 31, 3) := by decide +kernel
theorem dX7_corner_58 : decode cX7_corner 58 = .ok (.invokevirtual 121, 3) := by decide +kernel
theorem dX7_corner_61 : decode cX7_corner 61 = .ok (.aload_n 0, 1) := by decide +kernel
theorem dX7_corner_62 : decode cX7_corner 62 = .ok (.getfield 38, 3) := by decide +kernel
theorem dX7_corner_65 : decode cX7_corner 65 = .ok (.invokevirtual 124, 3) := by decide +kernel
theorem dX7_corner_68 : decode cX7_corner 68 = .ok (.aload_n 0, 1) := by decide +kernel
theorem dX7_corner_69 : decode cX7_corner 69 = .ok (.getfield 54, 3) := by decide +kernel
theorem dX7_corner_72 : decode cX7_corner 72 = .ok (.invokevirtual 125, 3) := by decide +kernel
theorem dX7_corner_75 : decode cX7_corner 75 = .ok (.aload_n 0, 1) := by decide +kernel
theorem dX7_corner_76 : decode cX7_corner 76 = .ok (.getfield 64, 3) := by decide +kernel
theorem dX7_corner_79 : decode cX7_corner 79 = .ok (.iconst 0, 1) := by decide +kernel
theorem dX7_corner_80 : decode cX7_corner 80 = .ok (.putfield 128, 3) := by decide +kernel
theorem dX7_corner_83 : decode cX7_corner 83 = .ok (.aload_n 0, 1) := by decide +kernel
theorem dX7_corner_84 : decode cX7_corner 84 = .ok (.iconst 0, 1) := by decide +kernel
theorem dX7_corner_85 : decode cX7_corner 85 = .ok (.putfield 79, 3) := by decide +kernel
theorem dX7_corner_88 : decode cX7_corner 88 = .ok (.aload_n 0, 1) := by decide +kernel
theorem dX7_corner_89 : decode cX7_corner 89 = .ok (.iconst 0, 1) := by decide +kernel
theorem dX7_corner_90 : decode cX7_corner 90 = .ok (.putfield 83, 3) := by decide +kernel
theorem dX7_corner_93 : decode cX7_corner 93 = .ok (.aload_n 0, 1) := by decide +kernel
theorem dX7_corner_94 : decode cX7_corner 94 = .ok (.getfield 21, 3) := by decide +kernel
theorem dX7_corner_97 : decode cX7_corner 97 = .ok (.getfield 131, 3) := by decide +kernel
theorem dX7_corner_100 : decode cX7_corner 100 = .ok (.ireturn, 1) := by decide +kernel
theorem dX7_law_0 : decode cX7_law 0 = .ok (.aload_n 0, 1) := by decide +kernel
theorem dX7_law_1 : decode cX7_law 1 = .ok (.iload_n 1, 1) := by decide +kernel
theorem dX7_law_2 : decode cX7_law 2 = .ok (.iconst 0, 1) := by decide +kernel
theorem dX7_law_3 : decode cX7_law 3 = .ok (.sipush 150, 3) := by decide +kernel
theorem dX7_law_6 : decode cX7_law 6 = .ok (.aload_n 0, 1) := by decide +kernel
theorem dX7_law_7 : decode cX7_law 7 = .ok (.getfield 12, 3) := by decide +kernel
theorem dX7_law_10 : decode cX7_law 10 = .ok (.getfield 95, 3) := by decide +kernel
theorem dX7_law_13 : decode cX7_law 13 = .ok (.invokestatic 134, 3) := by decide +kernel
theorem dX7_law_16 : decode cX7_law 16 = .ok (.invokevirtual 102, 3) := by decide +kernel
theorem dX7_law_19 : decode cX7_law 19 = .ok (.aload_n 0, 1) := by decide +kernel
theorem dX7_law_20 : decode cX7_law 20 = .ok (.getfield 12, 3) := by decide +kernel
theorem dX7_law_23 : decode cX7_law 23 = .ok (.iload_n 1, 1) := by decide +kernel
theorem dX7_law_24 : decode cX7_law 24 = .ok (.invokevirtual 106, 3) := by decide +kernel
theorem dX7_law_27 : decode cX7_law 27 = .ok (.aload_n 0, 1) := by decide +kernel
theorem dX7_law_28 : decode cX7_law 28 = .ok (.getfield 31, 3) := by decide +kernel
theorem dX7_law_31 : decode cX7_law 31 = .ok (.aload_n 0, 1) := by decide +kernel
theorem dX7_law_32 : decode cX7_law 32 = .ok (.getfield 12, 3) := by decide +kernel
theorem dX7_law_35 : decode cX7_law 35 = .ok (.invokevirtual 140, 3) := by decide +kernel
theorem dX7_law_38 : decode cX7_law 38 = .ok (.ifCond .eq 7, 3) := by decide +kernel
theorem dX7_law_41 : decode cX7_law 41 = .ok (.iconst 1, 1) := by decide +kernel
theorem dX7_law_42 : decode cX7_law 42 = .ok (.goto 10, 3) := by decide +kernel
theorem dX7_law_45 : decode cX7_law 45 = .ok (.aload_n 0, 1) := by decide +kernel
theorem dX7_law_46 : decode cX7_law 46 = .ok (.getfield 12, 3) := by decide +kernel
theorem dX7_law_49 : decode cX7_law 49 = .ok (.invokevirtual 113, 3) := by decide +kernel
theorem dX7_law_52 : decode cX7_law 52 = .ok (.ireturn, 1) := by decide +kernel
theorem dX7_work_0 : decode cX7_work 0 = .ok (.aload_n 0, 1) := by decide +kernel
theorem dX7_work_1 : decode cX7_work 1 = .ok (.iload_n 1, 1) := by decide +kernel
theorem dX7_work_2 : decode cX7_work 2 = .ok (.iconst 0, 1) := by decide +kernel
theorem dX7_work_3 : decode cX7_work 3 = .ok (.sipush 150, 3) := by decide +kernel
theorem dX7_work_6 : decode cX7_work 6 = .ok (.aload_n 0, 1) := by decide +kernel
theorem dX7_work_7 : decode cX7_work 7 = .ok (.getfield 12, 3) := by decide +kernel
theorem dX7_work_10 : decode cX7_work 10 = .ok (.getfield 95, 3) := by decide +kernel
theorem dX7_work_13 : decode cX7_work 13 = .ok (.invokestatic 134, 3) := by decide +kernel
theorem dX7_work_16 : decode cX7_work 16 = .ok (.invokevirtual 102, 3) := by decide +kernel
theorem dX7_work_19 : decode cX7_work 19 = .ok (.aload_n 0, 1) := by decide +kernel
theorem dX7_work_20 : decode cX7_work 20 = .ok (.getfield 64, 3) := by decide +kernel
theorem dX7_work_23 : decode cX7_work 23 = .ok (.getfield 128, 3) := by decide +kernel
theorem dX7_work_26 : decode cX7_work 26 = .ok (.bipush 16, 2) := by decide +kernel
theorem dX7_work_28 : decode cX7_work 28 = .ok (.if_icmp .lt 14, 3) := by decide +kernel
theorem dX7_work_31 : decode cX7_work 31 = .ok (.aload_n 0, 1) := by decide +kernel
theorem dX7_work_32 : decode cX7_work 32 = .ok (.getfield 12, 3) := by decide +kernel
theorem dX7_work_35 : decode cX7_work 35 = .ok (.iconst 0, 1) := by decide +kernel
theorem dX7_work_36 : decode cX7_work 36 = .ok (.invokevirtual 106, 3) := by decide +kernel
theorem dX7_work_39 : decode cX7_work 39 = .ok (.bipush (-20), 2) := by decide +kernel
theorem dX7_work_41 : decode cX7_work 41 = .ok (.ireturn, 1) := by decide +kernel
theorem dX7_work_42 : decode cX7_work 42 = .ok (.aload_n 0, 1) := by decide +kernel
theorem dX7_work_43 : decode cX7_work 43 = .ok (.getfield 12, 3) := by decide +kernel
theorem dX7_work_46 : decode cX7_work 46 = .ok (.iload_n 1, 1) := by decide +kernel
theorem dX7_work_47 : decode cX7_work 47 = .ok (.invokevirtual 106, 3) := by decide +kernel
theorem dX7_work_50 : decode cX7_work 50 = .ok (.aload_n 0, 1) := by decide +kernel
theorem dX7_work_51 : decode cX7_work 51 = .ok (.getfield 45, 3) := by decide +kernel
theorem dX7_work_54 : decode cX7_work 54 = .ok (.aload_n 0, 1) := by decide +kernel
theorem dX7_work_55 : decode cX7_work 55 = .ok (.getfield 12, 3) := by decide +kernel
theorem dX7_work_58 : decode cX7_work 58 = .ok (.aload_n 0, 1) := by decide +kernel
theorem dX7_work_59 : decode cX7_work 59 = .ok (.getfield 21, 3) := by decide +kernel
theorem dX7_work_62 : decode cX7_work 62 = .ok (.getfield 131, 3) := by decide +kernel
theorem dX7_work_65 : decode cX7_work 65 = .ok (.invokevirtual 141, 3) := by decide +kernel
theorem dX7_work_68 : decode cX7_work 68 = .ok (.ifCond .ne 11, 3) := by decide +kernel
theorem dX7_work_71 : decode cX7_work 71 = .ok (.aload_n 0, 1) := by decide +kernel
theorem dX7_work_72 : decode cX7_work 72 = .ok (.getfield 12, 3) := by decide +kernel
theorem dX7_work_75 : decode cX7_work 75 = .ok (.invokevirtual 113, 3) := by decide +kernel
theorem dX7_work_78 : decode cX7_work 78 = .ok (.ireturn, 1) := by decide +kernel
theorem dX7_work_79 : decode cX7_work 79 = .ok (.aload_n 0, 1) := by decide +kernel
theorem dX7_work_80 : decode cX7_work 80 = .ok (.getfield 64, 3) := by decide +kernel
theorem dX7_work_83 : decode cX7_work 83 = .ok (.aload_n 0, 1) := by decide +kernel
theorem dX7_work_84 : decode cX7_work 84 = .ok (.getfield 54, 3) := by decide +kernel
theorem dX7_work_87 : decode cX7_work 87 = .ok (.getfield 144, 3) := by decide +kernel
theorem dX7_work_90 : decode cX7_work 90 = .ok (.invokevirtual 147, 3) := by decide +kernel
theorem dX7_work_93 : decode cX7_work 93 = .ok (.aload_n 0, 1) := by decide +kernel
theorem dX7_work_94 : decode cX7_work 94 = .ok (.getfield 64, 3) := by decide +kernel
theorem dX7_work_97 : decode cX7_work 97 = .ok (.dup, 1) := by decide +kernel
theorem dX7_work_98 : decode cX7_work 98 = .ok (.getfield 128, 3) := by decide +kernel
theorem dX7_work_101 : decode cX7_work 101 = .ok (.iconst 1, 1) := by decide +kernel
theorem dX7_work_102 : decode cX7_work 102 = .ok (.iadd, 1) := by decide +kernel
theorem dX7_work_103 : decode cX7_work 103 = .ok (.putfield 128, 3) := by decide +kernel
theorem dX7_work_106 : decode cX7_work 106 = .ok (.aload_n 0, 1) := by decide +kernel
theorem dX7_work_107 : decode cX7_work 107 = .ok (.getfield 45, 3) := by decide +kernel
theorem dX7_work_110 : decode cX7_work 110 = .ok (.aload_n 0, 1) := by decide +kernel
theorem dX7_work_111 : decode cX7_work 111 = .ok (.getfield 54, 3) := by decide +kernel
theorem dX7_work_114 : decode cX7_work 114 = .ok (.iconst 0, 1) := by decide +kernel
theorem dX7_work_115 : decode cX7_work 115 = .ok (.aload_n 0, 1) := by decide +kernel
theorem dX7_work_116 : decode cX7_work 116 = .ok (.getfield 45, 3) := by decide +kernel
theorem dX7_work_119 : decode cX7_work 119 = .ok (.getfield 151, 3) := by decide +kernel
theorem dX7_work_122 : decode cX7_work 122 = .ok (.iconst 0, 1) := by decide +kernel
theorem dX7_work_123 : decode cX7_work 123 = .ok (.invokevirtual 152, 3) := by decide +kernel
theorem dX7_work_126 : decode cX7_work 126 = .ok (.aload_n 0, 1) := by decide +kernel
theorem dX7_work_127 : decode cX7_work 127 = .ok (.aload_n 0, 1) := by decide +kernel
theorem dX7_work_128 : decode cX7_work 128 = .ok (.getfield 45, 3) := by decide +kernel
theorem dX7_work_131 : decode cX7_work 131 = .ok (.getfield 156, 3) := by decide +kernel
theorem dX7_work_134 : decode cX7_work 134 = .ok (.putfield 83, 3) := by decide +kernel
theorem dX7_work_137 : decode cX7_work 137 = .ok (.aload_n 0, 1) := by decide +kernel
theorem dX7_work_138 : decode cX7_work 138 = .ok (.getfield 45, 3) := by decide +kernel
theorem dX7_work_141 : decode cX7_work 141 = .ok (.getfield 159, 3) := by decide +kernel
theorem dX7_work_144 : decode cX7_work 144 = .ok (.ireturn, 1) := by decide +kernel
theorem dX7_book_0 : decode cX7_book 0 = .ok (.aload_n 0, 1) := by decide +kernel
theorem dX7_book_1 : decode cX7_book 1 = .ok (.iload_n 1, 1) := by decide +kernel
theorem dX7_book_2 : decode cX7_book 2 = .ok (.iconst 0, 1) := by decide +kernel
theorem dX7_book_3 : decode cX7_book 3 = .ok (.bipush 60, 2) := by decide +kernel
theorem dX7_book_5 : decode cX7_book 5 = .ok (.aload_n 0, 1) := by decide +kernel
theorem dX7_book_6 : decode cX7_book 6 = .ok (.getfield 12, 3) := by decide +kernel
theorem dX7_book_9 : decode cX7_book 9 = .ok (.getfield 95, 3) := by decide +kernel
theorem dX7_book_12 : decode cX7_book 12 = .ok (.invokestatic 134, 3) := by decide +kernel
theorem dX7_book_15 : decode cX7_book 15 = .ok (.invokevirtual 102, 3) := by decide +kernel
theorem dX7_book_18 : decode cX7_book 18 = .ok (.aload_n 0, 1) := by decide +kernel
theorem dX7_book_19 : decode cX7_book 19 = .ok (.getfield 12, 3) := by decide +kernel
theorem dX7_book_22 : decode cX7_book 22 = .ok (.iload_n 1, 1) := by decide +kernel
theorem dX7_book_23 : decode cX7_book 23 = .ok (.invokevirtual 106, 3) := by decide +kernel
theorem dX7_book_26 : decode cX7_book 26 = .ok (.aload_n 0, 1) := by decide +kernel
theorem dX7_book_27 : decode cX7_book 27 = .ok (.getfield 38, 3) := by decide +kernel
theorem dX7_book_30 : decode cX7_book 30 = .ok (.aload_n 0, 1) := by decide +kernel
theorem dX7_book_31 : decode cX7_book 31 = .ok (.getfield 12, 3) := by decide +kernel
theorem dX7_book_34 : decode cX7_book 34 = .ok (.aload_n 0, 1) := by decide +kernel
theorem dX7_book_35 : decode cX7_book 35 = .ok (.getfield 21, 3) := by decide +kernel
theorem dX7_book_38 : decode cX7_book 38 = .ok (.getfield 162, 3) := by decide +kernel
theorem dX7_book_41 : decode cX7_book 41 = .ok (.invokevirtual 165, 3) := by decide +kernel
theorem dX7_book_44 : decode cX7_book 44 = .ok (.ifCond .eq 13, 3) := by decide +kernel
theorem dX7_book_47 : decode cX7_book 47 = .ok (.aload_n 0, 1) := by decide +kernel
theorem dX7_book_48 : decode cX7_book 48 = .ok (.getfield 38, 3) := by decide +kernel
theorem dX7_book_51 : decode cX7_book 51 = .ok (.getfield 166, 3) := by decide +kernel
theorem dX7_book_54 : decode cX7_book 54 = .ok (.goto 10, 3) := by decide +kernel
theorem dX7_book_57 : decode cX7_book 57 = .ok (.aload_n 0, 1) := by decide +kernel
theorem dX7_book_58 : decode cX7_book 58 = .ok (.getfield 12, 3) := by decide +kernel
theorem dX7_book_61 : decode cX7_book 61 = .ok (.invokevirtual 113, 3) := by decide +kernel
theorem dX7_book_64 : decode cX7_book 64 = .ok (.ireturn, 1) := by decide +kernel
theorem dX7_fault_0 : decode cX7_fault 0 = .ok (.aload_n 0, 1) := by decide +kernel
theorem dX7_fault_1 : decode cX7_fault 1 = .ok (.getfield 12, 3) := by decide +kernel
theorem dX7_fault_4 : decode cX7_fault 4 = .ok (.getfield 169, 3) := by decide +kernel
theorem dX7_fault_7 : decode cX7_fault 7 = .ok (.ireturn, 1) := by decide +kernel
theorem dX7_undo_0 : decode cX7_undo 0 = .ok (.aload_n 0, 1) := by decide +kernel
theorem dX7_undo_1 : decode cX7_undo 1 = .ok (.getfield 64, 3) := by decide +kernel
theorem dX7_undo_4 : decode cX7_undo 4 = .ok (.getfield 128, 3) := by decide +kernel
theorem dX7_undo_7 : decode cX7_undo 7 = .ok (.ifCond .gt 5, 3) := by decide +kernel
theorem dX7_undo_10 : decode cX7_undo 10 = .ok (.iconst (-1), 1) := by decide +kernel
theorem dX7_undo_11 : decode cX7_undo 11 = .ok (.ireturn, 1) := by decide +kernel
theorem dX7_undo_12 : decode cX7_undo 12 = .ok (.aload_n 0, 1) := by decide +kernel
theorem dX7_undo_13 : decode cX7_undo 13 = .ok (.getfield 64, 3) := by decide +kernel
theorem dX7_undo_16 : decode cX7_undo 16 = .ok (.dup, 1) := by decide +kernel
theorem dX7_undo_17 : decode cX7_undo 17 = .ok (.getfield 128, 3) := by decide +kernel
theorem dX7_undo_20 : decode cX7_undo 20 = .ok (.iconst 1, 1) := by decide +kernel
theorem dX7_undo_21 : decode cX7_undo 21 = .ok (.isub, 1) := by decide +kernel
theorem dX7_undo_22 : decode cX7_undo 22 = .ok (.putfield 128, 3) := by decide +kernel
theorem dX7_undo_25 : decode cX7_undo 25 = .ok (.aload_n 0, 1) := by decide +kernel
theorem dX7_undo_26 : decode cX7_undo 26 = .ok (.getfield 64, 3) := by decide +kernel
theorem dX7_undo_29 : decode cX7_undo 29 = .ok (.aload_n 0, 1) := by decide +kernel
theorem dX7_undo_30 : decode cX7_undo 30 = .ok (.getfield 54, 3) := by decide +kernel
theorem dX7_undo_33 : decode cX7_undo 33 = .ok (.getfield 144, 3) := by decide +kernel
theorem dX7_undo_36 : decode cX7_undo 36 = .ok (.invokevirtual 172, 3) := by decide +kernel
theorem dX7_undo_39 : decode cX7_undo 39 = .ok (.aload_n 0, 1) := by decide +kernel
theorem dX7_undo_40 : decode cX7_undo 40 = .ok (.iconst 0, 1) := by decide +kernel
theorem dX7_undo_41 : decode cX7_undo 41 = .ok (.putfield 83, 3) := by decide +kernel
theorem dX7_undo_44 : decode cX7_undo 44 = .ok (.aload_n 0, 1) := by decide +kernel
theorem dX7_undo_45 : decode cX7_undo 45 = .ok (.getfield 64, 3) := by decide +kernel
theorem dX7_undo_48 : decode cX7_undo 48 = .ok (.getfield 128, 3) := by decide +kernel
theorem dX7_undo_51 : decode cX7_undo 51 = .ok (.ireturn, 1) := by decide +kernel
theorem dX7_image_0 : decode cX7_image 0 = .ok (.aload_n 0, 1) := by decide +kernel
theorem dX7_image_1 : decode cX7_image 1 = .ok (.getfield 79, 3) := by decide +kernel
theorem dX7_image_4 : decode cX7_image 4 = .ok (.iconst 3, 1) := by decide +kernel
theorem dX7_image_5 : decode cX7_image 5 = .ok (.if_icmp .lt 5, 3) := by decide +kernel
theorem dX7_image_8 : decode cX7_image 8 = .ok (.iconst (-1), 1) := by decide +kernel
theorem dX7_image_9 : decode cX7_image 9 = .ok (.ireturn, 1) := by decide +kernel
theorem dX7_image_10 : decode cX7_image 10 = .ok (.aload_n 0, 1) := by decide +kernel
theorem dX7_image_11 : decode cX7_image 11 = .ok (.getfield 68, 3) := by decide +kernel
theorem dX7_image_14 : decode cX7_image 14 = .ok (.aload_n 0, 1) := by decide +kernel
theorem dX7_image_15 : decode cX7_image 15 = .ok (.getfield 79, 3) := by decide +kernel
theorem dX7_image_18 : decode cX7_image 18 = .ok (.aaload, 1) := by decide +kernel
theorem dX7_image_19 : decode cX7_image 19 = .ok (.aload_n 0, 1) := by decide +kernel
theorem dX7_image_20 : decode cX7_image 20 = .ok (.getfield 64, 3) := by decide +kernel
theorem dX7_image_23 : decode cX7_image 23 = .ok (.invokevirtual 175, 3) := by decide +kernel
theorem dX7_image_26 : decode cX7_image 26 = .ok (.aload_n 0, 1) := by decide +kernel
theorem dX7_image_27 : decode cX7_image 27 = .ok (.getfield 68, 3) := by decide +kernel
theorem dX7_image_30 : decode cX7_image 30 = .ok (.aload_n 0, 1) := by decide +kernel
theorem dX7_image_31 : decode cX7_image 31 = .ok (.getfield 79, 3) := by decide +kernel
theorem dX7_image_34 : decode cX7_image 34 = .ok (.aaload, 1) := by decide +kernel
theorem dX7_image_35 : decode cX7_image 35 = .ok (.aload_n 0, 1) := by decide +kernel
theorem dX7_image_36 : decode cX7_image 36 = .ok (.getfield 54, 3) := by decide +kernel
theorem dX7_image_39 : decode cX7_image 39 = .ok (.getfield 144, 3) := by decide +kernel
theorem dX7_image_42 : decode cX7_image 42 = .ok (.invokevirtual 147, 3) := by decide +kernel
theorem dX7_image_45 : decode cX7_image 45 = .ok (.aload_n 0, 1) := by decide +kernel
theorem dX7_image_46 : decode cX7_image 46 = .ok (.dup, 1) := by decide +kernel
theorem dX7_image_47 : decode cX7_image 47 = .ok (.getfield 79, 3) := by decide +kernel
theorem dX7_image_50 : decode cX7_image 50 = .ok (.iconst 1, 1) := by decide +kernel
theorem dX7_image_51 : decode cX7_image 51 = .ok (.iadd, 1) := by decide +kernel
theorem dX7_image_52 : decode cX7_image 52 = .ok (.putfield 79, 3) := by decide +kernel
theorem dX7_image_55 : decode cX7_image 55 = .ok (.aload_n 0, 1) := by decide +kernel
theorem dX7_image_56 : decode cX7_image 56 = .ok (.getfield 79, 3) := by decide +kernel
theorem dX7_image_59 : decode cX7_image 59 = .ok (.ireturn, 1) := by decide +kernel
theorem dX7_restore_0 : decode cX7_restore 0 = .ok (.aload_n 0, 1) := by decide +kernel
theorem dX7_restore_1 : decode cX7_restore 1 = .ok (.getfield 79, 3) := by decide +kernel
theorem dX7_restore_4 : decode cX7_restore 4 = .ok (.ifCond .gt 5, 3) := by decide +kernel
theorem dX7_restore_7 : decode cX7_restore 7 = .ok (.iconst (-1), 1) := by decide +kernel
theorem dX7_restore_8 : decode cX7_restore 8 = .ok (.ireturn, 1) := by decide +kernel
theorem dX7_restore_9 : decode cX7_restore 9 = .ok (.aload_n 0, 1) := by decide +kernel
theorem dX7_restore_10 : decode cX7_restore 10 = .ok (.dup, 1) := by decide +kernel
theorem dX7_restore_11 : decode cX7_restore 11 = .ok (.getfield 79, 3) := by decide +kernel
theorem dX7_restore_14 : decode cX7_restore 14 = .ok (.iconst 1, 1) := by decide +kernel
theorem dX7_restore_15 : decode cX7_restore 15 = .ok (.isub, 1) := by decide +kernel
theorem dX7_restore_16 : decode cX7_restore 16 = .ok (.putfield 79, 3) := by decide +kernel
theorem dX7_restore_19 : decode cX7_restore 19 = .ok (.aload_n 0, 1) := by decide +kernel
theorem dX7_restore_20 : decode cX7_restore 20 = .ok (.getfield 64, 3) := by decide +kernel
theorem dX7_restore_23 : decode cX7_restore 23 = .ok (.aload_n 0, 1) := by decide +kernel
theorem dX7_restore_24 : decode cX7_restore 24 = .ok (.getfield 68, 3) := by decide +kernel
theorem dX7_restore_27 : decode cX7_restore 27 = .ok (.aload_n 0, 1) := by decide +kernel
theorem dX7_restore_28 : decode cX7_restore 28 = .ok (.getfield 79, 3) := by decide +kernel
theorem dX7_restore_31 : decode cX7_restore 31 = .ok (.aaload, 1) := by decide +kernel
theorem dX7_restore_32 : decode cX7_restore 32 = .ok (.invokevirtual 175, 3) := by decide +kernel
theorem dX7_restore_35 : decode cX7_restore 35 = .ok (.aload_n 0, 1) := by decide +kernel
theorem dX7_restore_36 : decode cX7_restore 36 = .ok (.getfield 64, 3) := by decide +kernel
theorem dX7_restore_39 : decode cX7_restore 39 = .ok (.aload_n 0, 1) := by decide +kernel
theorem dX7_restore_40 : decode cX7_restore 40 = .ok (.getfield 54, 3) := by decide +kernel
theorem dX7_restore_43 : decode cX7_restore 43 = .ok (.getfield 144, 3) := by decide +kernel
theorem dX7_restore_46 : decode cX7_restore 46 = .ok (.invokevirtual 172, 3) := by decide +kernel
theorem dX7_restore_49 : decode cX7_restore 49 = .ok (.aload_n 0, 1) := by decide +kernel
theorem dX7_restore_50 : decode cX7_restore 50 = .ok (.iconst 0, 1) := by decide +kernel
theorem dX7_restore_51 : decode cX7_restore 51 = .ok (.putfield 83, 3) := by decide +kernel
theorem dX7_restore_54 : decode cX7_restore 54 = .ok (.aload_n 0, 1) := by decide +kernel
theorem dX7_restore_55 : decode cX7_restore 55 = .ok (.getfield 79, 3) := by decide +kernel
theorem dX7_restore_58 : decode cX7_restore 58 = .ok (.ireturn, 1) := by decide +kernel
theorem dX7_status_0 : decode cX7_status 0 = .ok (.iload_n 1, 1) := by decide +kernel
theorem dX7_status_1 : decode cX7_status 1 = .ok (.ifCond .ne 8, 3) := by decide +kernel
theorem dX7_status_4 : decode cX7_status 4 = .ok (.aload_n 0, 1) := by decide +kernel
theorem dX7_status_5 : decode cX7_status 5 = .ok (.getfield 89, 3) := by decide +kernel
theorem dX7_status_8 : decode cX7_status 8 = .ok (.ireturn, 1) := by decide +kernel
theorem dX7_status_9 : decode cX7_status 9 = .ok (.iload_n 1, 1) := by decide +kernel
theorem dX7_status_10 : decode cX7_status 10 = .ok (.iconst 1, 1) := by decide +kernel
theorem dX7_status_11 : decode cX7_status 11 = .ok (.if_icmp .ne 10, 3) := by decide +kernel
theorem dX7_status_14 : decode cX7_status 14 = .ok (.aload_n 0, 1) := by decide +kernel
theorem dX7_status_15 : decode cX7_status 15 = .ok (.getfield 92, 3) := by decide +kernel
theorem dX7_status_18 : decode cX7_status 18 = .ok (.goto 4, 3) := by decide +kernel
theorem dX7_status_21 : decode cX7_status 21 = .ok (.iconst (-1), 1) := by decide +kernel
theorem dX7_status_22 : decode cX7_status 22 = .ok (.ireturn, 1) := by decide +kernel
theorem dX7_count_0 : decode cX7_count 0 = .ok (.iload_n 1, 1) := by decide +kernel
theorem dX7_count_1 : decode cX7_count 1 = .ok (.tableswitch 48 0 2 #[27, 32, 40], 27) := by decide +kernel
theorem dX7_count_28 : decode cX7_count 28 = .ok (.aload_n 0, 1) := by decide +kernel
theorem dX7_count_29 : decode cX7_count 29 = .ok (.getfield 79, 3) := by decide +kernel
theorem dX7_count_32 : decode cX7_count 32 = .ok (.ireturn, 1) := by decide +kernel
theorem dX7_count_33 : decode cX7_count 33 = .ok (.aload_n 0, 1) := by decide +kernel
theorem dX7_count_34 : decode cX7_count 34 = .ok (.getfield 12, 3) := by decide +kernel
theorem dX7_count_37 : decode cX7_count 37 = .ok (.getfield 95, 3) := by decide +kernel
theorem dX7_count_40 : decode cX7_count 40 = .ok (.ireturn, 1) := by decide +kernel
theorem dX7_count_41 : decode cX7_count 41 = .ok (.aload_n 0, 1) := by decide +kernel
theorem dX7_count_42 : decode cX7_count 42 = .ok (.getfield 64, 3) := by decide +kernel
theorem dX7_count_45 : decode cX7_count 45 = .ok (.getfield 128, 3) := by decide +kernel
theorem dX7_count_48 : decode cX7_count 48 = .ok (.ireturn, 1) := by decide +kernel
theorem dX7_count_49 : decode cX7_count 49 = .ok (.iconst (-1), 1) := by decide +kernel
theorem dX7_count_50 : decode cX7_count 50 = .ok (.ireturn, 1) := by decide +kernel
theorem dX7_told_0 : decode cX7_told 0 = .ok (.aload_n 0, 1) := by decide +kernel
theorem dX7_told_1 : decode cX7_told 1 = .ok (.iload_n 1, 1) := by decide +kernel
theorem dX7_told_2 : decode cX7_told 2 = .ok (.iconst 0, 1) := by decide +kernel
theorem dX7_told_3 : decode cX7_told 3 = .ok (.bipush 11, 2) := by decide +kernel
theorem dX7_told_5 : decode cX7_told 5 = .ok (.invokevirtual 102, 3) := by decide +kernel
theorem dX7_told_8 : decode cX7_told 8 = .ok (.iload_n 1, 1) := by decide +kernel
theorem dX7_told_9 : decode cX7_told 9 = .ok (.tableswitch 150 0 10 #[59, 67, 75, 83, 93, 101, 111, 121, 129, 137, 145], 59) := by decide +kernel
theorem dX7_told_68 : decode cX7_told 68 = .ok (.aload_n 0, 1) := by decide +kernel
theorem dX7_told_69 : decode cX7_told 69 = .ok (.getfield 21, 3) := by decide +kernel
theorem dX7_told_72 : decode cX7_told 72 = .ok (.getfield 162, 3) := by decide +kernel
theorem dX7_told_75 : decode cX7_told 75 = .ok (.ireturn, 1) := by decide +kernel
theorem dX7_told_76 : decode cX7_told 76 = .ok (.aload_n 0, 1) := by decide +kernel
theorem dX7_told_77 : decode cX7_told 77 = .ok (.getfield 21, 3) := by decide +kernel
theorem dX7_told_80 : decode cX7_told 80 = .ok (.getfield 131, 3) := by decide +kernel
theorem dX7_told_83 : decode cX7_told 83 = .ok (.ireturn, 1) := by decide +kernel
theorem dX7_told_84 : decode cX7_told 84 = .ok (.aload_n 0, 1) := by decide +kernel
theorem dX7_told_85 : decode cX7_told 85 = .ok (.getfield 21, 3) := by decide +kernel
theorem dX7_told_88 : decode cX7_told 88 = .ok (.getfield 178, 3) := by decide +kernel
theorem dX7_told_91 : decode cX7_told 91 = .ok (.ireturn, 1) := by decide +kernel
theorem dX7_told_92 : decode cX7_told 92 = .ok (.aload_n 0, 1) := by decide +kernel
theorem dX7_told_93 : decode cX7_told 93 = .ok (.getfield 54, 3) := by decide +kernel
theorem dX7_told_96 : decode cX7_told 96 = .ok (.getfield 144, 3) := by decide +kernel
theorem dX7_told_99 : decode cX7_told 99 = .ok (.iconst 0, 1) := by decide +kernel
theorem dX7_told_100 : decode cX7_told 100 = .ok (.iaload, 1) := by decide +kernel
theorem dX7_told_101 : decode cX7_told 101 = .ok (.ireturn, 1) := by decide +kernel
theorem dX7_told_102 : decode cX7_told 102 = .ok (.aload_n 0, 1) := by decide +kernel
theorem dX7_told_103 : decode cX7_told 103 = .ok (.getfield 54, 3) := by decide +kernel
theorem dX7_told_106 : decode cX7_told 106 = .ok (.invokevirtual 181, 3) := by decide +kernel
theorem dX7_told_109 : decode cX7_told 109 = .ok (.ireturn, 1) := by decide +kernel
theorem dX7_told_110 : decode cX7_told 110 = .ok (.aload_n 0, 1) := by decide +kernel
theorem dX7_told_111 : decode cX7_told 111 = .ok (.getfield 54, 3) := by decide +kernel
theorem dX7_told_114 : decode cX7_told 114 = .ok (.getfield 144, 3) := by decide +kernel
theorem dX7_told_117 : decode cX7_told 117 = .ok (.iconst 1, 1) := by decide +kernel
theorem dX7_told_118 : decode cX7_told 118 = .ok (.iaload, 1) := by decide +kernel
theorem dX7_told_119 : decode cX7_told 119 = .ok (.ireturn, 1) := by decide +kernel
theorem dX7_told_120 : decode cX7_told 120 = .ok (.aload_n 0, 1) := by decide +kernel
theorem dX7_told_121 : decode cX7_told 121 = .ok (.getfield 54, 3) := by decide +kernel
theorem dX7_told_124 : decode cX7_told 124 = .ok (.getfield 144, 3) := by decide +kernel
theorem dX7_told_127 : decode cX7_told 127 = .ok (.iconst 2, 1) := by decide +kernel
theorem dX7_told_128 : decode cX7_told 128 = .ok (.iaload, 1) := by decide +kernel
theorem dX7_told_129 : decode cX7_told 129 = .ok (.ireturn, 1) := by decide +kernel
theorem dX7_told_130 : decode cX7_told 130 = .ok (.aload_n 0, 1) := by decide +kernel
theorem dX7_told_131 : decode cX7_told 131 = .ok (.getfield 54, 3) := by decide +kernel
theorem dX7_told_134 : decode cX7_told 134 = .ok (.invokevirtual 184, 3) := by decide +kernel
theorem dX7_told_137 : decode cX7_told 137 = .ok (.ireturn, 1) := by decide +kernel
theorem dX7_told_138 : decode cX7_told 138 = .ok (.aload_n 0, 1) := by decide +kernel
theorem dX7_told_139 : decode cX7_told 139 = .ok (.getfield 54, 3) := by decide +kernel
theorem dX7_told_142 : decode cX7_told 142 = .ok (.invokevirtual 187, 3) := by decide +kernel
theorem dX7_told_145 : decode cX7_told 145 = .ok (.ireturn, 1) := by decide +kernel
theorem dX7_told_146 : decode cX7_told 146 = .ok (.aload_n 0, 1) := by decide +kernel
theorem dX7_told_147 : decode cX7_told 147 = .ok (.getfield 38, 3) := by decide +kernel
theorem dX7_told_150 : decode cX7_told 150 = .ok (.getfield 166, 3) := by decide +kernel
theorem dX7_told_153 : decode cX7_told 153 = .ok (.ireturn, 1) := by decide +kernel
theorem dX7_told_154 : decode cX7_told 154 = .ok (.aload_n 0, 1) := by decide +kernel
theorem dX7_told_155 : decode cX7_told 155 = .ok (.getfield 83, 3) := by decide +kernel
theorem dX7_told_158 : decode cX7_told 158 = .ok (.ireturn, 1) := by decide +kernel
theorem dX7_told_159 : decode cX7_told 159 = .ok (.aload_n 0, 1) := by decide +kernel
theorem dX7_told_160 : decode cX7_told 160 = .ok (.getfield 54, 3) := by decide +kernel
theorem dX7_told_163 : decode cX7_told 163 = .ok (.invokevirtual 190, 3) := by decide +kernel
theorem dX7_told_166 : decode cX7_told 166 = .ok (.ireturn, 1) := by decide +kernel
theorem dX7_view_0 : decode cX7_view 0 = .ok (.aload_n 0, 1) := by decide +kernel
theorem dX7_view_1 : decode cX7_view 1 = .ok (.iload_n 1, 1) := by decide +kernel
theorem dX7_view_2 : decode cX7_view 2 = .ok (.invokevirtual 193, 3) := by decide +kernel
theorem dX7_view_5 : decode cX7_view 5 = .ok (.aload_n 0, 1) := by decide +kernel
theorem dX7_view_6 : decode cX7_view 6 = .ok (.iload_n 2, 1) := by decide +kernel
theorem dX7_view_7 : decode cX7_view 7 = .ok (.iconst 0, 1) := by decide +kernel
theorem dX7_view_8 : decode cX7_view 8 = .ok (.iconst 3, 1) := by decide +kernel
theorem dX7_view_9 : decode cX7_view 9 = .ok (.invokevirtual 102, 3) := by decide +kernel
theorem dX7_view_12 : decode cX7_view 12 = .ok (.iload_n 2, 1) := by decide +kernel
theorem dX7_view_13 : decode cX7_view 13 = .ok (.tableswitch 56 0 2 #[27, 37, 47], 27) := by decide +kernel
theorem dX7_view_40 : decode cX7_view 40 = .ok (.aload_n 0, 1) := by decide +kernel
theorem dX7_view_41 : decode cX7_view 41 = .ok (.getfield 21, 3) := by decide +kernel
theorem dX7_view_44 : decode cX7_view 44 = .ok (.getfield 196, 3) := by decide +kernel
theorem dX7_view_47 : decode cX7_view 47 = .ok (.iload_n 1, 1) := by decide +kernel
theorem dX7_view_48 : decode cX7_view 48 = .ok (.iaload, 1) := by decide +kernel
theorem dX7_view_49 : decode cX7_view 49 = .ok (.ireturn, 1) := by decide +kernel
theorem dX7_view_50 : decode cX7_view 50 = .ok (.aload_n 0, 1) := by decide +kernel
theorem dX7_view_51 : decode cX7_view 51 = .ok (.getfield 21, 3) := by decide +kernel
theorem dX7_view_54 : decode cX7_view 54 = .ok (.getfield 199, 3) := by decide +kernel
theorem dX7_view_57 : decode cX7_view 57 = .ok (.iload_n 1, 1) := by decide +kernel
theorem dX7_view_58 : decode cX7_view 58 = .ok (.iaload, 1) := by decide +kernel
theorem dX7_view_59 : decode cX7_view 59 = .ok (.ireturn, 1) := by decide +kernel
theorem dX7_view_60 : decode cX7_view 60 = .ok (.aload_n 0, 1) := by decide +kernel
theorem dX7_view_61 : decode cX7_view 61 = .ok (.getfield 54, 3) := by decide +kernel
theorem dX7_view_64 : decode cX7_view 64 = .ok (.iload_n 1, 1) := by decide +kernel
theorem dX7_view_65 : decode cX7_view 65 = .ok (.invokevirtual 202, 3) := by decide +kernel
theorem dX7_view_68 : decode cX7_view 68 = .ok (.ireturn, 1) := by decide +kernel
theorem dX7_view_69 : decode cX7_view 69 = .ok (.aload_n 0, 1) := by decide +kernel
theorem dX7_view_70 : decode cX7_view 70 = .ok (.getfield 54, 3) := by decide +kernel
theorem dX7_view_73 : decode cX7_view 73 = .ok (.iload_n 1, 1) := by decide +kernel
theorem dX7_view_74 : decode cX7_view 74 = .ok (.invokevirtual 206, 3) := by decide +kernel
theorem dX7_view_77 : decode cX7_view 77 = .ok (.invokestatic 209, 3) := by decide +kernel
theorem dX7_view_80 : decode cX7_view 80 = .ok (.ireturn, 1) := by decide +kernel
theorem dX7_tenant_0 : decode cX7_tenant 0 = .ok (.aload_n 0, 1) := by decide +kernel
theorem dX7_tenant_1 : decode cX7_tenant 1 = .ok (.iload_n 1, 1) := by decide +kernel
theorem dX7_tenant_2 : decode cX7_tenant 2 = .ok (.invokevirtual 212, 3) := by decide +kernel
theorem dX7_tenant_5 : decode cX7_tenant 5 = .ok (.aload_n 0, 1) := by decide +kernel
theorem dX7_tenant_6 : decode cX7_tenant 6 = .ok (.iload_n 2, 1) := by decide +kernel
theorem dX7_tenant_7 : decode cX7_tenant 7 = .ok (.iconst 0, 1) := by decide +kernel
theorem dX7_tenant_8 : decode cX7_tenant 8 = .ok (.iconst 5, 1) := by decide +kernel
theorem dX7_tenant_9 : decode cX7_tenant 9 = .ok (.invokevirtual 102, 3) := by decide +kernel
theorem dX7_tenant_12 : decode cX7_tenant 12 = .ok (.iload_n 2, 1) := by decide +kernel
theorem dX7_tenant_13 : decode cX7_tenant 13 = .ok (.tableswitch 95 0 4 #[35, 47, 60, 77, 86], 35) := by decide +kernel
theorem dX7_tenant_48 : decode cX7_tenant 48 = .ok (.aload_n 0, 1) := by decide +kernel
theorem dX7_tenant_49 : decode cX7_tenant 49 = .ok (.getfield 54, 3) := by decide +kernel
theorem dX7_tenant_52 : decode cX7_tenant 52 = .ok (.getfield 144, 3) := by decide +kernel
theorem dX7_tenant_55 : decode cX7_tenant 55 = .ok (.iconst 3, 1) := by decide +kernel
theorem dX7_tenant_56 : decode cX7_tenant 56 = .ok (.iload_n 1, 1) := by decide +kernel
theorem dX7_tenant_57 : decode cX7_tenant 57 = .ok (.iadd, 1) := by decide +kernel
theorem dX7_tenant_58 : decode cX7_tenant 58 = .ok (.iaload, 1) := by decide +kernel
theorem dX7_tenant_59 : decode cX7_tenant 59 = .ok (.ireturn, 1) := by decide +kernel
theorem dX7_tenant_60 : decode cX7_tenant 60 = .ok (.aload_n 0, 1) := by decide +kernel
theorem dX7_tenant_61 : decode cX7_tenant 61 = .ok (.getfield 54, 3) := by decide +kernel
theorem dX7_tenant_64 : decode cX7_tenant 64 = .ok (.getfield 144, 3) := by decide +kernel
theorem dX7_tenant_67 : decode cX7_tenant 67 = .ok (.bipush 8, 2) := by decide +kernel
theorem dX7_tenant_69 : decode cX7_tenant 69 = .ok (.iload_n 1, 1) := by decide +kernel
theorem dX7_tenant_70 : decode cX7_tenant 70 = .ok (.iadd, 1) := by decide +kernel
theorem dX7_tenant_71 : decode cX7_tenant 71 = .ok (.iaload, 1) := by decide +kernel
theorem dX7_tenant_72 : decode cX7_tenant 72 = .ok (.ireturn, 1) := by decide +kernel
theorem dX7_tenant_73 : decode cX7_tenant 73 = .ok (.aload_n 0, 1) := by decide +kernel
theorem dX7_tenant_74 : decode cX7_tenant 74 = .ok (.getfield 54, 3) := by decide +kernel
theorem dX7_tenant_77 : decode cX7_tenant 77 = .ok (.iload_n 1, 1) := by decide +kernel
theorem dX7_tenant_78 : decode cX7_tenant 78 = .ok (.invokevirtual 215, 3) := by decide +kernel
theorem dX7_tenant_81 : decode cX7_tenant 81 = .ok (.ifCond .eq 7, 3) := by decide +kernel
theorem dX7_tenant_84 : decode cX7_tenant 84 = .ok (.iconst 1, 1) := by decide +kernel
theorem dX7_tenant_85 : decode cX7_tenant 85 = .ok (.goto 4, 3) := by decide +kernel
theorem dX7_tenant_88 : decode cX7_tenant 88 = .ok (.iconst 0, 1) := by decide +kernel
theorem dX7_tenant_89 : decode cX7_tenant 89 = .ok (.ireturn, 1) := by decide +kernel
theorem dX7_tenant_90 : decode cX7_tenant 90 = .ok (.aload_n 0, 1) := by decide +kernel
theorem dX7_tenant_91 : decode cX7_tenant 91 = .ok (.getfield 54, 3) := by decide +kernel
theorem dX7_tenant_94 : decode cX7_tenant 94 = .ok (.iload_n 1, 1) := by decide +kernel
theorem dX7_tenant_95 : decode cX7_tenant 95 = .ok (.invokevirtual 219, 3) := by decide +kernel
theorem dX7_tenant_98 : decode cX7_tenant 98 = .ok (.ireturn, 1) := by decide +kernel
theorem dX7_tenant_99 : decode cX7_tenant 99 = .ok (.aload_n 0, 1) := by decide +kernel
theorem dX7_tenant_100 : decode cX7_tenant 100 = .ok (.getfield 54, 3) := by decide +kernel
theorem dX7_tenant_103 : decode cX7_tenant 103 = .ok (.iload_n 1, 1) := by decide +kernel
theorem dX7_tenant_104 : decode cX7_tenant 104 = .ok (.invokevirtual 222, 3) := by decide +kernel
theorem dX7_tenant_107 : decode cX7_tenant 107 = .ok (.ireturn, 1) := by decide +kernel
theorem dX7_tenant_108 : decode cX7_tenant 108 = .ok (.aload_n 0, 1) := by decide +kernel
theorem dX7_tenant_109 : decode cX7_tenant 109 = .ok (.getfield 54, 3) := by decide +kernel
theorem dX7_tenant_112 : decode cX7_tenant 112 = .ok (.iload_n 1, 1) := by decide +kernel
theorem dX7_tenant_113 : decode cX7_tenant 113 = .ok (.invokevirtual 225, 3) := by decide +kernel
theorem dX7_tenant_116 : decode cX7_tenant 116 = .ok (.ireturn, 1) := by decide +kernel
theorem dX7_bubble_0 : decode cX7_bubble 0 = .ok (.aload_n 0, 1) := by decide +kernel
theorem dX7_bubble_1 : decode cX7_bubble 1 = .ok (.iload_n 1, 1) := by decide +kernel
theorem dX7_bubble_2 : decode cX7_bubble 2 = .ok (.invokevirtual 212, 3) := by decide +kernel
theorem dX7_bubble_5 : decode cX7_bubble 5 = .ok (.aload_n 0, 1) := by decide +kernel
theorem dX7_bubble_6 : decode cX7_bubble 6 = .ok (.iload_n 2, 1) := by decide +kernel
theorem dX7_bubble_7 : decode cX7_bubble 7 = .ok (.iconst 0, 1) := by decide +kernel
theorem dX7_bubble_8 : decode cX7_bubble 8 = .ok (.iconst 4, 1) := by decide +kernel
theorem dX7_bubble_9 : decode cX7_bubble 9 = .ok (.invokevirtual 102, 3) := by decide +kernel
theorem dX7_bubble_12 : decode cX7_bubble 12 = .ok (.aload_n 0, 1) := by decide +kernel
theorem dX7_bubble_13 : decode cX7_bubble 13 = .ok (.getfield 54, 3) := by decide +kernel
theorem dX7_bubble_16 : decode cX7_bubble 16 = .ok (.iload_n 1, 1) := by decide +kernel
theorem dX7_bubble_17 : decode cX7_bubble 17 = .ok (.invokevirtual 215, 3) := by decide +kernel
theorem dX7_bubble_20 : decode cX7_bubble 20 = .ok (.ifCond .ne 5, 3) := by decide +kernel
theorem dX7_bubble_23 : decode cX7_bubble 23 = .ok (.iconst (-1), 1) := by decide +kernel
theorem dX7_bubble_24 : decode cX7_bubble 24 = .ok (.ireturn, 1) := by decide +kernel
theorem dX7_bubble_25 : decode cX7_bubble 25 = .ok (.iload_n 2, 1) := by decide +kernel
theorem dX7_bubble_26 : decode cX7_bubble 26 = .ok (.tableswitch 78 0 3 #[30, 43, 56, 69], 30) := by decide +kernel
theorem dX7_bubble_56 : decode cX7_bubble 56 = .ok (.aload_n 0, 1) := by decide +kernel
theorem dX7_bubble_57 : decode cX7_bubble 57 = .ok (.getfield 54, 3) := by decide +kernel
theorem dX7_bubble_60 : decode cX7_bubble 60 = .ok (.getfield 144, 3) := by decide +kernel
theorem dX7_bubble_63 : decode cX7_bubble 63 = .ok (.bipush 13, 2) := by decide +kernel
theorem dX7_bubble_65 : decode cX7_bubble 65 = .ok (.iload_n 1, 1) := by decide +kernel
theorem dX7_bubble_66 : decode cX7_bubble 66 = .ok (.iadd, 1) := by decide +kernel
theorem dX7_bubble_67 : decode cX7_bubble 67 = .ok (.iaload, 1) := by decide +kernel
theorem dX7_bubble_68 : decode cX7_bubble 68 = .ok (.ireturn, 1) := by decide +kernel
theorem dX7_bubble_69 : decode cX7_bubble 69 = .ok (.aload_n 0, 1) := by decide +kernel
theorem dX7_bubble_70 : decode cX7_bubble 70 = .ok (.getfield 54, 3) := by decide +kernel
theorem dX7_bubble_73 : decode cX7_bubble 73 = .ok (.getfield 144, 3) := by decide +kernel
theorem dX7_bubble_76 : decode cX7_bubble 76 = .ok (.bipush 18, 2) := by decide +kernel
theorem dX7_bubble_78 : decode cX7_bubble 78 = .ok (.iload_n 1, 1) := by decide +kernel
theorem dX7_bubble_79 : decode cX7_bubble 79 = .ok (.iadd, 1) := by decide +kernel
theorem dX7_bubble_80 : decode cX7_bubble 80 = .ok (.iaload, 1) := by decide +kernel
theorem dX7_bubble_81 : decode cX7_bubble 81 = .ok (.ireturn, 1) := by decide +kernel
theorem dX7_bubble_82 : decode cX7_bubble 82 = .ok (.aload_n 0, 1) := by decide +kernel
theorem dX7_bubble_83 : decode cX7_bubble 83 = .ok (.getfield 54, 3) := by decide +kernel
theorem dX7_bubble_86 : decode cX7_bubble 86 = .ok (.getfield 144, 3) := by decide +kernel
theorem dX7_bubble_89 : decode cX7_bubble 89 = .ok (.bipush 23, 2) := by decide +kernel
theorem dX7_bubble_91 : decode cX7_bubble 91 = .ok (.iload_n 1, 1) := by decide +kernel
theorem dX7_bubble_92 : decode cX7_bubble 92 = .ok (.iadd, 1) := by decide +kernel
theorem dX7_bubble_93 : decode cX7_bubble 93 = .ok (.iaload, 1) := by decide +kernel
theorem dX7_bubble_94 : decode cX7_bubble 94 = .ok (.ireturn, 1) := by decide +kernel
theorem dX7_bubble_95 : decode cX7_bubble 95 = .ok (.aload_n 0, 1) := by decide +kernel
theorem dX7_bubble_96 : decode cX7_bubble 96 = .ok (.getfield 54, 3) := by decide +kernel
theorem dX7_bubble_99 : decode cX7_bubble 99 = .ok (.iload_n 1, 1) := by decide +kernel
theorem dX7_bubble_100 : decode cX7_bubble 100 = .ok (.invokevirtual 228, 3) := by decide +kernel
theorem dX7_bubble_103 : decode cX7_bubble 103 = .ok (.ireturn, 1) := by decide +kernel
theorem dX7_bubble_104 : decode cX7_bubble 104 = .ok (.aload_n 0, 1) := by decide +kernel
theorem dX7_bubble_105 : decode cX7_bubble 105 = .ok (.getfield 54, 3) := by decide +kernel
theorem dX7_bubble_108 : decode cX7_bubble 108 = .ok (.iload_n 1, 1) := by decide +kernel
theorem dX7_bubble_109 : decode cX7_bubble 109 = .ok (.invokevirtual 231, 3) := by decide +kernel
theorem dX7_bubble_112 : decode cX7_bubble 112 = .ok (.ireturn, 1) := by decide +kernel
theorem dX7_richest_0 : decode cX7_richest 0 = .ok (.aload_n 0, 1) := by decide +kernel
theorem dX7_richest_1 : decode cX7_richest 1 = .ok (.iload_n 1, 1) := by decide +kernel
theorem dX7_richest_2 : decode cX7_richest 2 = .ok (.iconst 0, 1) := by decide +kernel
theorem dX7_richest_3 : decode cX7_richest 3 = .ok (.iconst 1, 1) := by decide +kernel
theorem dX7_richest_4 : decode cX7_richest 4 = .ok (.invokevirtual 102, 3) := by decide +kernel
theorem dX7_richest_7 : decode cX7_richest 7 = .ok (.iconst (-1), 1) := by decide +kernel
theorem dX7_richest_8 : decode cX7_richest 8 = .ok (.istore_n 2, 1) := by decide +kernel
theorem dX7_richest_9 : decode cX7_richest 9 = .ok (.iconst (-1), 1) := by decide +kernel
theorem dX7_richest_10 : decode cX7_richest 10 = .ok (.istore_n 3, 1) := by decide +kernel
theorem dX7_richest_11 : decode cX7_richest 11 = .ok (.iconst 0, 1) := by decide +kernel
theorem dX7_richest_12 : decode cX7_richest 12 = .ok (.istore 4, 2) := by decide +kernel
theorem dX7_richest_14 : decode cX7_richest 14 = .ok (.iload 4, 2) := by decide +kernel
theorem dX7_richest_16 : decode cX7_richest 16 = .ok (.iconst 5, 1) := by decide +kernel
theorem dX7_richest_17 : decode cX7_richest 17 = .ok (.if_icmp .ge 48, 3) := by decide +kernel
theorem dX7_richest_20 : decode cX7_richest 20 = .ok (.aload_n 0, 1) := by decide +kernel
theorem dX7_richest_21 : decode cX7_richest 21 = .ok (.getfield 54, 3) := by decide +kernel
theorem dX7_richest_24 : decode cX7_richest 24 = .ok (.iload 4, 2) := by decide +kernel
theorem dX7_richest_26 : decode cX7_richest 26 = .ok (.invokevirtual 215, 3) := by decide +kernel
theorem dX7_richest_29 : decode cX7_richest 29 = .ok (.ifCond .eq 15, 3) := by decide +kernel
theorem dX7_richest_32 : decode cX7_richest 32 = .ok (.aload_n 0, 1) := by decide +kernel
theorem dX7_richest_33 : decode cX7_richest 33 = .ok (.getfield 54, 3) := by decide +kernel
theorem dX7_richest_36 : decode cX7_richest 36 = .ok (.iload 4, 2) := by decide +kernel
theorem dX7_richest_38 : decode cX7_richest 38 = .ok (.invokevirtual 222, 3) := by decide +kernel
theorem dX7_richest_41 : decode cX7_richest 41 = .ok (.goto 4, 3) := by decide +kernel
theorem dX7_richest_44 : decode cX7_richest 44 = .ok (.iconst (-1), 1) := by decide +kernel
theorem dX7_richest_45 : decode cX7_richest 45 = .ok (.istore 5, 2) := by decide +kernel
theorem dX7_richest_47 : decode cX7_richest 47 = .ok (.iload 5, 2) := by decide +kernel
theorem dX7_richest_49 : decode cX7_richest 49 = .ok (.iload_n 3, 1) := by decide +kernel
theorem dX7_richest_50 : decode cX7_richest 50 = .ok (.if_icmp .le 9, 3) := by decide +kernel
theorem dX7_richest_53 : decode cX7_richest 53 = .ok (.iload 4, 2) := by decide +kernel
theorem dX7_richest_55 : decode cX7_richest 55 = .ok (.istore_n 2, 1) := by decide +kernel
theorem dX7_richest_56 : decode cX7_richest 56 = .ok (.iload 5, 2) := by decide +kernel
theorem dX7_richest_58 : decode cX7_richest 58 = .ok (.istore_n 3, 1) := by decide +kernel
theorem dX7_richest_59 : decode cX7_richest 59 = .ok (.iinc 4 1, 3) := by decide +kernel
theorem dX7_richest_62 : decode cX7_richest 62 = .ok (.goto (-48), 3) := by decide +kernel
theorem dX7_richest_65 : decode cX7_richest 65 = .ok (.iload_n 1, 1) := by decide +kernel
theorem dX7_richest_66 : decode cX7_richest 66 = .ok (.ifCond .ne 7, 3) := by decide +kernel
theorem dX7_richest_69 : decode cX7_richest 69 = .ok (.iload_n 2, 1) := by decide +kernel
theorem dX7_richest_70 : decode cX7_richest 70 = .ok (.goto 4, 3) := by decide +kernel
theorem dX7_richest_73 : decode cX7_richest 73 = .ok (.iload_n 3, 1) := by decide +kernel
theorem dX7_richest_74 : decode cX7_richest 74 = .ok (.ireturn, 1) := by decide +kernel
theorem dX7_idle_0 : decode cX7_idle 0 = .ok (.iconst 0, 1) := by decide +kernel
theorem dX7_idle_1 : decode cX7_idle 1 = .ok (.istore_n 1, 1) := by decide +kernel
theorem dX7_idle_2 : decode cX7_idle 2 = .ok (.iconst 0, 1) := by decide +kernel
theorem dX7_idle_3 : decode cX7_idle 3 = .ok (.istore_n 2, 1) := by decide +kernel
theorem dX7_idle_4 : decode cX7_idle 4 = .ok (.iload_n 2, 1) := by decide +kernel
theorem dX7_idle_5 : decode cX7_idle 5 = .ok (.aload_n 0, 1) := by decide +kernel
theorem dX7_idle_6 : decode cX7_idle 6 = .ok (.getfield 21, 3) := by decide +kernel
theorem dX7_idle_9 : decode cX7_idle 9 = .ok (.getfield 162, 3) := by decide +kernel
theorem dX7_idle_12 : decode cX7_idle 12 = .ok (.if_icmp .ge 26, 3) := by decide +kernel
theorem dX7_idle_15 : decode cX7_idle 15 = .ok (.aload_n 0, 1) := by decide +kernel
theorem dX7_idle_16 : decode cX7_idle 16 = .ok (.getfield 54, 3) := by decide +kernel
theorem dX7_idle_19 : decode cX7_idle 19 = .ok (.iload_n 2, 1) := by decide +kernel
theorem dX7_idle_20 : decode cX7_idle 20 = .ok (.invokevirtual 206, 3) := by decide +kernel
theorem dX7_idle_23 : decode cX7_idle 23 = .ok (.ifCond .ne 9, 3) := by decide +kernel
theorem dX7_idle_26 : decode cX7_idle 26 = .ok (.iload_n 1, 1) := by decide +kernel
theorem dX7_idle_27 : decode cX7_idle 27 = .ok (.iconst 1, 1) := by decide +kernel
theorem dX7_idle_28 : decode cX7_idle 28 = .ok (.iload_n 2, 1) := by decide +kernel
theorem dX7_idle_29 : decode cX7_idle 29 = .ok (.ishl, 1) := by decide +kernel
theorem dX7_idle_30 : decode cX7_idle 30 = .ok (.ior, 1) := by decide +kernel
theorem dX7_idle_31 : decode cX7_idle 31 = .ok (.istore_n 1, 1) := by decide +kernel
theorem dX7_idle_32 : decode cX7_idle 32 = .ok (.iinc 2 1, 3) := by decide +kernel
theorem dX7_idle_35 : decode cX7_idle 35 = .ok (.goto (-31), 3) := by decide +kernel
theorem dX7_idle_38 : decode cX7_idle 38 = .ok (.iload_n 1, 1) := by decide +kernel
theorem dX7_idle_39 : decode cX7_idle 39 = .ok (.ireturn, 1) := by decide +kernel
theorem dX7_under_0 : decode cX7_under 0 = .ok (.iconst 0, 1) := by decide +kernel
theorem dX7_under_1 : decode cX7_under 1 = .ok (.istore_n 1, 1) := by decide +kernel
theorem dX7_under_2 : decode cX7_under 2 = .ok (.iconst 0, 1) := by decide +kernel
theorem dX7_under_3 : decode cX7_under 3 = .ok (.istore_n 2, 1) := by decide +kernel
theorem dX7_under_4 : decode cX7_under 4 = .ok (.iload_n 2, 1) := by decide +kernel
theorem dX7_under_5 : decode cX7_under 5 = .ok (.iconst 5, 1) := by decide +kernel
theorem dX7_under_6 : decode cX7_under 6 = .ok (.if_icmp .ge 26, 3) := by decide +kernel
theorem dX7_under_9 : decode cX7_under 9 = .ok (.aload_n 0, 1) := by decide +kernel
theorem dX7_under_10 : decode cX7_under 10 = .ok (.getfield 54, 3) := by decide +kernel
theorem dX7_under_13 : decode cX7_under 13 = .ok (.iload_n 2, 1) := by decide +kernel
theorem dX7_under_14 : decode cX7_under 14 = .ok (.invokevirtual 234, 3) := by decide +kernel
theorem dX7_under_17 : decode cX7_under 17 = .ok (.ifCond .eq 9, 3) := by decide +kernel
theorem dX7_under_20 : decode cX7_under 20 = .ok (.iload_n 1, 1) := by decide +kernel
theorem dX7_under_21 : decode cX7_under 21 = .ok (.iconst 1, 1) := by decide +kernel
theorem dX7_under_22 : decode cX7_under 22 = .ok (.iload_n 2, 1) := by decide +kernel
theorem dX7_under_23 : decode cX7_under 23 = .ok (.ishl, 1) := by decide +kernel
theorem dX7_under_24 : decode cX7_under 24 = .ok (.ior, 1) := by decide +kernel
theorem dX7_under_25 : decode cX7_under 25 = .ok (.istore_n 1, 1) := by decide +kernel
theorem dX7_under_26 : decode cX7_under 26 = .ok (.iinc 2 1, 3) := by decide +kernel
theorem dX7_under_29 : decode cX7_under 29 = .ok (.goto (-25), 3) := by decide +kernel
theorem dX7_under_32 : decode cX7_under 32 = .ok (.iload_n 1, 1) := by decide +kernel
theorem dX7_under_33 : decode cX7_under 33 = .ok (.ireturn, 1) := by decide +kernel
theorem dX7_terrace_0 : decode cX7_terrace 0 = .ok (.aload_n 0, 1) := by decide +kernel
theorem dX7_terrace_1 : decode cX7_terrace 1 = .ok (.iload_n 1, 1) := by decide +kernel
theorem dX7_terrace_2 : decode cX7_terrace 2 = .ok (.invokevirtual 212, 3) := by decide +kernel
theorem dX7_terrace_5 : decode cX7_terrace 5 = .ok (.aload_n 0, 1) := by decide +kernel
theorem dX7_terrace_6 : decode cX7_terrace 6 = .ok (.getfield 54, 3) := by decide +kernel
theorem dX7_terrace_9 : decode cX7_terrace 9 = .ok (.iload_n 1, 1) := by decide +kernel
theorem dX7_terrace_10 : decode cX7_terrace 10 = .ok (.invokevirtual 215, 3) := by decide +kernel
theorem dX7_terrace_13 : decode cX7_terrace 13 = .ok (.ifCond .eq 9, 3) := by decide +kernel
theorem dX7_terrace_16 : decode cX7_terrace 16 = .ok (.iconst 1, 1) := by decide +kernel
theorem dX7_terrace_17 : decode cX7_terrace 17 = .ok (.iload_n 1, 1) := by decide +kernel
theorem dX7_terrace_18 : decode cX7_terrace 18 = .ok (.ishl, 1) := by decide +kernel
theorem dX7_terrace_19 : decode cX7_terrace 19 = .ok (.goto 4, 3) := by decide +kernel
theorem dX7_terrace_22 : decode cX7_terrace 22 = .ok (.iconst 0, 1) := by decide +kernel
theorem dX7_terrace_23 : decode cX7_terrace 23 = .ok (.istore_n 2, 1) := by decide +kernel
theorem dX7_terrace_24 : decode cX7_terrace 24 = .ok (.iconst 1, 1) := by decide +kernel
theorem dX7_terrace_25 : decode cX7_terrace 25 = .ok (.istore_n 3, 1) := by decide +kernel
theorem dX7_terrace_26 : decode cX7_terrace 26 = .ok (.iload_n 3, 1) := by decide +kernel
theorem dX7_terrace_27 : decode cX7_terrace 27 = .ok (.iconst 5, 1) := by decide +kernel
theorem dX7_terrace_28 : decode cX7_terrace 28 = .ok (.if_icmp .ge 17, 3) := by decide +kernel
theorem dX7_terrace_31 : decode cX7_terrace 31 = .ok (.iload_n 2, 1) := by decide +kernel
theorem dX7_terrace_32 : decode cX7_terrace 32 = .ok (.aload_n 0, 1) := by decide +kernel
theorem dX7_terrace_33 : decode cX7_terrace 33 = .ok (.iload_n 2, 1) := by decide +kernel
theorem dX7_terrace_34 : decode cX7_terrace 34 = .ok (.invokevirtual 237, 3) := by decide +kernel
theorem dX7_terrace_37 : decode cX7_terrace 37 = .ok (.ior, 1) := by decide +kernel
theorem dX7_terrace_38 : decode cX7_terrace 38 = .ok (.istore_n 2, 1) := by decide +kernel
theorem dX7_terrace_39 : decode cX7_terrace 39 = .ok (.iinc 3 1, 3) := by decide +kernel
theorem dX7_terrace_42 : decode cX7_terrace 42 = .ok (.goto (-16), 3) := by decide +kernel
theorem dX7_terrace_45 : decode cX7_terrace 45 = .ok (.iload_n 2, 1) := by decide +kernel
theorem dX7_terrace_46 : decode cX7_terrace 46 = .ok (.ireturn, 1) := by decide +kernel
theorem dX7_neighbours_0 : decode cX7_neighbours 0 = .ok (.iconst 0, 1) := by decide +kernel
theorem dX7_neighbours_1 : decode cX7_neighbours 1 = .ok (.istore_n 2, 1) := by decide +kernel
theorem dX7_neighbours_2 : decode cX7_neighbours 2 = .ok (.iconst 0, 1) := by decide +kernel
theorem dX7_neighbours_3 : decode cX7_neighbours 3 = .ok (.istore_n 3, 1) := by decide +kernel
theorem dX7_neighbours_4 : decode cX7_neighbours 4 = .ok (.iload_n 3, 1) := by decide +kernel
theorem dX7_neighbours_5 : decode cX7_neighbours 5 = .ok (.iconst 5, 1) := by decide +kernel
theorem dX7_neighbours_6 : decode cX7_neighbours 6 = .ok (.if_icmp .ge 29, 3) := by decide +kernel
theorem dX7_neighbours_9 : decode cX7_neighbours 9 = .ok (.iload_n 1, 1) := by decide +kernel
theorem dX7_neighbours_10 : decode cX7_neighbours 10 = .ok (.iload_n 3, 1) := by decide +kernel
theorem dX7_neighbours_11 : decode cX7_neighbours 11 = .ok (.ishr, 1) := by decide +kernel
theorem dX7_neighbours_12 : decode cX7_neighbours 12 = .ok (.iconst 1, 1) := by decide +kernel
theorem dX7_neighbours_13 : decode cX7_neighbours 13 = .ok (.iand, 1) := by decide +kernel
theorem dX7_neighbours_14 : decode cX7_neighbours 14 = .ok (.iconst 1, 1) := by decide +kernel
theorem dX7_neighbours_15 : decode cX7_neighbours 15 = .ok (.if_icmp .ne 14, 3) := by decide +kernel
theorem dX7_neighbours_18 : decode cX7_neighbours 18 = .ok (.iload_n 2, 1) := by decide +kernel
theorem dX7_neighbours_19 : decode cX7_neighbours 19 = .ok (.aload_n 0, 1) := by decide +kernel
theorem dX7_neighbours_20 : decode cX7_neighbours 20 = .ok (.getfield 54, 3) := by decide +kernel
theorem dX7_neighbours_23 : decode cX7_neighbours 23 = .ok (.iload_n 3, 1) := by decide +kernel
theorem dX7_neighbours_24 : decode cX7_neighbours 24 = .ok (.invokevirtual 225, 3) := by decide +kernel
theorem dX7_neighbours_27 : decode cX7_neighbours 27 = .ok (.ior, 1) := by decide +kernel
theorem dX7_neighbours_28 : decode cX7_neighbours 28 = .ok (.istore_n 2, 1) := by decide +kernel
theorem dX7_neighbours_29 : decode cX7_neighbours 29 = .ok (.iinc 3 1, 3) := by decide +kernel
theorem dX7_neighbours_32 : decode cX7_neighbours 32 = .ok (.goto (-28), 3) := by decide +kernel
theorem dX7_neighbours_35 : decode cX7_neighbours 35 = .ok (.iload_n 2, 1) := by decide +kernel
theorem dX7_neighbours_36 : decode cX7_neighbours 36 = .ok (.ireturn, 1) := by decide +kernel
theorem dX7_overlap_0 : decode cX7_overlap 0 = .ok (.aload_n 0, 1) := by decide +kernel
theorem dX7_overlap_1 : decode cX7_overlap 1 = .ok (.iload_n 1, 1) := by decide +kernel
theorem dX7_overlap_2 : decode cX7_overlap 2 = .ok (.invokevirtual 212, 3) := by decide +kernel
theorem dX7_overlap_5 : decode cX7_overlap 5 = .ok (.aload_n 0, 1) := by decide +kernel
theorem dX7_overlap_6 : decode cX7_overlap 6 = .ok (.iload_n 2, 1) := by decide +kernel
theorem dX7_overlap_7 : decode cX7_overlap 7 = .ok (.invokevirtual 212, 3) := by decide +kernel
theorem dX7_overlap_10 : decode cX7_overlap 10 = .ok (.iload_n 1, 1) := by decide +kernel
theorem dX7_overlap_11 : decode cX7_overlap 11 = .ok (.iload_n 2, 1) := by decide +kernel
theorem dX7_overlap_12 : decode cX7_overlap 12 = .ok (.if_icmp .eq 29, 3) := by decide +kernel
theorem dX7_overlap_15 : decode cX7_overlap 15 = .ok (.aload_n 0, 1) := by decide +kernel
theorem dX7_overlap_16 : decode cX7_overlap 16 = .ok (.getfield 54, 3) := by decide +kernel
theorem dX7_overlap_19 : decode cX7_overlap 19 = .ok (.iload_n 1, 1) := by decide +kernel
theorem dX7_overlap_20 : decode cX7_overlap 20 = .ok (.invokevirtual 215, 3) := by decide +kernel
theorem dX7_overlap_23 : decode cX7_overlap 23 = .ok (.ifCond .eq 18, 3) := by decide +kernel
theorem dX7_overlap_26 : decode cX7_overlap 26 = .ok (.aload_n 0, 1) := by decide +kernel
theorem dX7_overlap_27 : decode cX7_overlap 27 = .ok (.getfield 54, 3) := by decide +kernel
theorem dX7_overlap_30 : decode cX7_overlap 30 = .ok (.iload_n 2, 1) := by decide +kernel
theorem dX7_overlap_31 : decode cX7_overlap 31 = .ok (.invokevirtual 215, 3) := by decide +kernel
theorem dX7_overlap_34 : decode cX7_overlap 34 = .ok (.ifCond .eq 7, 3) := by decide +kernel
theorem dX7_overlap_37 : decode cX7_overlap 37 = .ok (.iconst 1, 1) := by decide +kernel
theorem dX7_overlap_38 : decode cX7_overlap 38 = .ok (.goto 4, 3) := by decide +kernel
theorem dX7_overlap_41 : decode cX7_overlap 41 = .ok (.iconst 0, 1) := by decide +kernel
theorem dX7_overlap_42 : decode cX7_overlap 42 = .ok (.istore_n 3, 1) := by decide +kernel
theorem dX7_overlap_43 : decode cX7_overlap 43 = .ok (.iload_n 3, 1) := by decide +kernel
theorem dX7_overlap_44 : decode cX7_overlap 44 = .ok (.ifCond .eq 15, 3) := by decide +kernel
theorem dX7_overlap_47 : decode cX7_overlap 47 = .ok (.aload_n 0, 1) := by decide +kernel
theorem dX7_overlap_48 : decode cX7_overlap 48 = .ok (.getfield 54, 3) := by decide +kernel
theorem dX7_overlap_51 : decode cX7_overlap 51 = .ok (.iload_n 1, 1) := by decide +kernel
theorem dX7_overlap_52 : decode cX7_overlap 52 = .ok (.iload_n 2, 1) := by decide +kernel
theorem dX7_overlap_53 : decode cX7_overlap 53 = .ok (.invokevirtual 240, 3) := by decide +kernel
theorem dX7_overlap_56 : decode cX7_overlap 56 = .ok (.goto 5, 3) := by decide +kernel
theorem dX7_overlap_59 : decode cX7_overlap 59 = .ok (.ldc 243, 2) := by decide +kernel
theorem dX7_overlap_61 : decode cX7_overlap 61 = .ok (.ireturn, 1) := by decide +kernel
theorem dX7_wall_0 : decode cX7_wall 0 = .ok (.aload_n 0, 1) := by decide +kernel
theorem dX7_wall_1 : decode cX7_wall 1 = .ok (.iload_n 1, 1) := by decide +kernel
theorem dX7_wall_2 : decode cX7_wall 2 = .ok (.invokevirtual 212, 3) := by decide +kernel
theorem dX7_wall_5 : decode cX7_wall 5 = .ok (.aload_n 0, 1) := by decide +kernel
theorem dX7_wall_6 : decode cX7_wall 6 = .ok (.iload_n 2, 1) := by decide +kernel
theorem dX7_wall_7 : decode cX7_wall 7 = .ok (.invokevirtual 212, 3) := by decide +kernel
theorem dX7_wall_10 : decode cX7_wall 10 = .ok (.aload_n 0, 1) := by decide +kernel
theorem dX7_wall_11 : decode cX7_wall 11 = .ok (.iload_n 3, 1) := by decide +kernel
theorem dX7_wall_12 : decode cX7_wall 12 = .ok (.iconst 0, 1) := by decide +kernel
theorem dX7_wall_13 : decode cX7_wall 13 = .ok (.iconst 1, 1) := by decide +kernel
theorem dX7_wall_14 : decode cX7_wall 14 = .ok (.invokevirtual 102, 3) := by decide +kernel
theorem dX7_wall_17 : decode cX7_wall 17 = .ok (.aload_n 0, 1) := by decide +kernel
theorem dX7_wall_18 : decode cX7_wall 18 = .ok (.getfield 54, 3) := by decide +kernel
theorem dX7_wall_21 : decode cX7_wall 21 = .ok (.iload_n 1, 1) := by decide +kernel
theorem dX7_wall_22 : decode cX7_wall 22 = .ok (.invokevirtual 225, 3) := by decide +kernel
theorem dX7_wall_25 : decode cX7_wall 25 = .ok (.iload_n 2, 1) := by decide +kernel
theorem dX7_wall_26 : decode cX7_wall 26 = .ok (.ishr, 1) := by decide +kernel
theorem dX7_wall_27 : decode cX7_wall 27 = .ok (.iconst 1, 1) := by decide +kernel
theorem dX7_wall_28 : decode cX7_wall 28 = .ok (.iand, 1) := by decide +kernel
theorem dX7_wall_29 : decode cX7_wall 29 = .ok (.ifCond .ne 5, 3) := by decide +kernel
theorem dX7_wall_32 : decode cX7_wall 32 = .ok (.iconst (-1), 1) := by decide +kernel
theorem dX7_wall_33 : decode cX7_wall 33 = .ok (.ireturn, 1) := by decide +kernel
theorem dX7_wall_34 : decode cX7_wall 34 = .ok (.aload_n 0, 1) := by decide +kernel
theorem dX7_wall_35 : decode cX7_wall 35 = .ok (.getfield 54, 3) := by decide +kernel
theorem dX7_wall_38 : decode cX7_wall 38 = .ok (.getfield 144, 3) := by decide +kernel
theorem dX7_wall_41 : decode cX7_wall 41 = .ok (.bipush 13, 2) := by decide +kernel
theorem dX7_wall_43 : decode cX7_wall 43 = .ok (.iload_n 1, 1) := by decide +kernel
theorem dX7_wall_44 : decode cX7_wall 44 = .ok (.iadd, 1) := by decide +kernel
theorem dX7_wall_45 : decode cX7_wall 45 = .ok (.iaload, 1) := by decide +kernel
theorem dX7_wall_46 : decode cX7_wall 46 = .ok (.istore 4, 2) := by decide +kernel
theorem dX7_wall_48 : decode cX7_wall 48 = .ok (.aload_n 0, 1) := by decide +kernel
theorem dX7_wall_49 : decode cX7_wall 49 = .ok (.getfield 54, 3) := by decide +kernel
theorem dX7_wall_52 : decode cX7_wall 52 = .ok (.getfield 144, 3) := by decide +kernel
theorem dX7_wall_55 : decode cX7_wall 55 = .ok (.bipush 13, 2) := by decide +kernel
theorem dX7_wall_57 : decode cX7_wall 57 = .ok (.iload_n 2, 1) := by decide +kernel
theorem dX7_wall_58 : decode cX7_wall 58 = .ok (.iadd, 1) := by decide +kernel
theorem dX7_wall_59 : decode cX7_wall 59 = .ok (.iaload, 1) := by decide +kernel
theorem dX7_wall_60 : decode cX7_wall 60 = .ok (.istore 5, 2) := by decide +kernel
theorem dX7_wall_62 : decode cX7_wall 62 = .ok (.iload 4, 2) := by decide +kernel
theorem dX7_wall_64 : decode cX7_wall 64 = .ok (.iload 5, 2) := by decide +kernel
theorem dX7_wall_66 : decode cX7_wall 66 = .ok (.if_icmp .ne 7, 3) := by decide +kernel
theorem dX7_wall_69 : decode cX7_wall 69 = .ok (.iload_n 3, 1) := by decide +kernel
theorem dX7_wall_70 : decode cX7_wall 70 = .ok (.goto 23, 3) := by decide +kernel
theorem dX7_wall_73 : decode cX7_wall 73 = .ok (.iload 4, 2) := by decide +kernel
theorem dX7_wall_75 : decode cX7_wall 75 = .ok (.iload 5, 2) := by decide +kernel
theorem dX7_wall_77 : decode cX7_wall 77 = .ok (.imul, 1) := by decide +kernel
theorem dX7_wall_78 : decode cX7_wall 78 = .ok (.i2l, 1) := by decide +kernel
theorem dX7_wall_79 : decode cX7_wall 79 = .ok (.iload 4, 2) := by decide +kernel
theorem dX7_wall_81 : decode cX7_wall 81 = .ok (.iload 5, 2) := by decide +kernel
theorem dX7_wall_83 : decode cX7_wall 83 = .ok (.isub, 1) := by decide +kernel
theorem dX7_wall_84 : decode cX7_wall 84 = .ok (.invokestatic 244, 3) := by decide +kernel
theorem dX7_wall_87 : decode cX7_wall 87 = .ok (.i2l, 1) := by decide +kernel
theorem dX7_wall_88 : decode cX7_wall 88 = .ok (.iload_n 3, 1) := by decide +kernel
theorem dX7_wall_89 : decode cX7_wall 89 = .ok (.invokestatic 247, 3) := by decide +kernel
theorem dX7_wall_92 : decode cX7_wall 92 = .ok (.l2i, 1) := by decide +kernel
theorem dX7_wall_93 : decode cX7_wall 93 = .ok (.ireturn, 1) := by decide +kernel
theorem dX7_vacant_0 : decode cX7_vacant 0 = .ok (.aload_n 0, 1) := by decide +kernel
theorem dX7_vacant_1 : decode cX7_vacant 1 = .ok (.iload_n 1, 1) := by decide +kernel
theorem dX7_vacant_2 : decode cX7_vacant 2 = .ok (.iconst 0, 1) := by decide +kernel
theorem dX7_vacant_3 : decode cX7_vacant 3 = .ok (.iconst 1, 1) := by decide +kernel
theorem dX7_vacant_4 : decode cX7_vacant 4 = .ok (.invokevirtual 102, 3) := by decide +kernel
theorem dX7_vacant_7 : decode cX7_vacant 7 = .ok (.iconst (-1), 1) := by decide +kernel
theorem dX7_vacant_8 : decode cX7_vacant 8 = .ok (.istore_n 2, 1) := by decide +kernel
theorem dX7_vacant_9 : decode cX7_vacant 9 = .ok (.iconst (-1), 1) := by decide +kernel
theorem dX7_vacant_10 : decode cX7_vacant 10 = .ok (.istore_n 3, 1) := by decide +kernel
theorem dX7_vacant_11 : decode cX7_vacant 11 = .ok (.iconst 0, 1) := by decide +kernel
theorem dX7_vacant_12 : decode cX7_vacant 12 = .ok (.istore 4, 2) := by decide +kernel
theorem dX7_vacant_14 : decode cX7_vacant 14 = .ok (.iload 4, 2) := by decide +kernel
theorem dX7_vacant_16 : decode cX7_vacant 16 = .ok (.aload_n 0, 1) := by decide +kernel
theorem dX7_vacant_17 : decode cX7_vacant 17 = .ok (.getfield 21, 3) := by decide +kernel
theorem dX7_vacant_20 : decode cX7_vacant 20 = .ok (.getfield 162, 3) := by decide +kernel
theorem dX7_vacant_23 : decode cX7_vacant 23 = .ok (.if_icmp .ge 49, 3) := by decide +kernel
theorem dX7_vacant_26 : decode cX7_vacant 26 = .ok (.aload_n 0, 1) := by decide +kernel
theorem dX7_vacant_27 : decode cX7_vacant 27 = .ok (.getfield 54, 3) := by decide +kernel
theorem dX7_vacant_30 : decode cX7_vacant 30 = .ok (.iload 4, 2) := by decide +kernel
theorem dX7_vacant_32 : decode cX7_vacant 32 = .ok (.invokevirtual 206, 3) := by decide +kernel
theorem dX7_vacant_35 : decode cX7_vacant 35 = .ok (.ifCond .ne 31, 3) := by decide +kernel
theorem dX7_vacant_38 : decode cX7_vacant 38 = .ok (.aload_n 0, 1) := by decide +kernel
theorem dX7_vacant_39 : decode cX7_vacant 39 = .ok (.getfield 21, 3) := by decide +kernel
theorem dX7_vacant_42 : decode cX7_vacant 42 = .ok (.getfield 199, 3) := by decide +kernel
theorem dX7_vacant_45 : decode cX7_vacant 45 = .ok (.iload 4, 2) := by decide +kernel
theorem dX7_vacant_47 : decode cX7_vacant 47 = .ok (.iaload, 1) := by decide +kernel
theorem dX7_vacant_48 : decode cX7_vacant 48 = .ok (.iload_n 3, 1) := by decide +kernel
theorem dX7_vacant_49 : decode cX7_vacant 49 = .ok (.if_icmp .le 17, 3) := by decide +kernel
theorem dX7_vacant_52 : decode cX7_vacant 52 = .ok (.iload 4, 2) := by decide +kernel
theorem dX7_vacant_54 : decode cX7_vacant 54 = .ok (.istore_n 2, 1) := by decide +kernel
theorem dX7_vacant_55 : decode cX7_vacant 55 = .ok (.aload_n 0, 1) := by decide +kernel
theorem dX7_vacant_56 : decode cX7_vacant 56 = .ok (.getfield 21, 3) := by decide +kernel
theorem dX7_vacant_59 : decode cX7_vacant 59 = .ok (.getfield 199, 3) := by decide +kernel
theorem dX7_vacant_62 : decode cX7_vacant 62 = .ok (.iload 4, 2) := by decide +kernel
theorem dX7_vacant_64 : decode cX7_vacant 64 = .ok (.iaload, 1) := by decide +kernel
theorem dX7_vacant_65 : decode cX7_vacant 65 = .ok (.istore_n 3, 1) := by decide +kernel
theorem dX7_vacant_66 : decode cX7_vacant 66 = .ok (.iinc 4 1, 3) := by decide +kernel
theorem dX7_vacant_69 : decode cX7_vacant 69 = .ok (.goto (-55), 3) := by decide +kernel
theorem dX7_vacant_72 : decode cX7_vacant 72 = .ok (.iload_n 1, 1) := by decide +kernel
theorem dX7_vacant_73 : decode cX7_vacant 73 = .ok (.ifCond .ne 7, 3) := by decide +kernel
theorem dX7_vacant_76 : decode cX7_vacant 76 = .ok (.iload_n 2, 1) := by decide +kernel
theorem dX7_vacant_77 : decode cX7_vacant 77 = .ok (.goto 4, 3) := by decide +kernel
theorem dX7_vacant_80 : decode cX7_vacant 80 = .ok (.iload_n 3, 1) := by decide +kernel
theorem dX7_vacant_81 : decode cX7_vacant 81 = .ok (.ireturn, 1) := by decide +kernel
theorem dX7_front_0 : decode cX7_front 0 = .ok (.aload_n 0, 1) := by decide +kernel
theorem dX7_front_1 : decode cX7_front 1 = .ok (.iload_n 1, 1) := by decide +kernel
theorem dX7_front_2 : decode cX7_front 2 = .ok (.iconst 0, 1) := by decide +kernel
theorem dX7_front_3 : decode cX7_front 3 = .ok (.bipush 99, 2) := by decide +kernel
theorem dX7_front_5 : decode cX7_front 5 = .ok (.invokevirtual 102, 3) := by decide +kernel
theorem dX7_front_8 : decode cX7_front 8 = .ok (.aload_n 0, 1) := by decide +kernel
theorem dX7_front_9 : decode cX7_front 9 = .ok (.iload_n 2, 1) := by decide +kernel
theorem dX7_front_10 : decode cX7_front 10 = .ok (.iconst 0, 1) := by decide +kernel
theorem dX7_front_11 : decode cX7_front 11 = .ok (.bipush 99, 2) := by decide +kernel
theorem dX7_front_13 : decode cX7_front 13 = .ok (.invokevirtual 102, 3) := by decide +kernel
theorem dX7_front_16 : decode cX7_front 16 = .ok (.aload_n 0, 1) := by decide +kernel
theorem dX7_front_17 : decode cX7_front 17 = .ok (.iload_n 3, 1) := by decide +kernel
theorem dX7_front_18 : decode cX7_front 18 = .ok (.iconst 0, 1) := by decide +kernel
theorem dX7_front_19 : decode cX7_front 19 = .ok (.iconst 1, 1) := by decide +kernel
theorem dX7_front_20 : decode cX7_front 20 = .ok (.invokevirtual 102, 3) := by decide +kernel
theorem dX7_front_23 : decode cX7_front 23 = .ok (.iconst 0, 1) := by decide +kernel
theorem dX7_front_24 : decode cX7_front 24 = .ok (.istore 4, 2) := by decide +kernel
theorem dX7_front_26 : decode cX7_front 26 = .ok (.iconst 0, 1) := by decide +kernel
theorem dX7_front_27 : decode cX7_front 27 = .ok (.istore 5, 2) := by decide +kernel
theorem dX7_front_29 : decode cX7_front 29 = .ok (.iload 5, 2) := by decide +kernel
theorem dX7_front_31 : decode cX7_front 31 = .ok (.aload_n 0, 1) := by decide +kernel
theorem dX7_front_32 : decode cX7_front 32 = .ok (.getfield 21, 3) := by decide +kernel
theorem dX7_front_35 : decode cX7_front 35 = .ok (.getfield 162, 3) := by decide +kernel
theorem dX7_front_38 : decode cX7_front 38 = .ok (.if_icmp .ge 98, 3) := by decide +kernel
theorem dX7_front_41 : decode cX7_front 41 = .ok (.aload_n 0, 1) := by decide +kernel
theorem dX7_front_42 : decode cX7_front 42 = .ok (.getfield 21, 3) := by decide +kernel
theorem dX7_front_45 : decode cX7_front 45 = .ok (.getfield 196, 3) := by decide +kernel
theorem dX7_front_48 : decode cX7_front 48 = .ok (.iload 5, 2) := by decide +kernel
theorem dX7_front_50 : decode cX7_front 50 = .ok (.iaload, 1) := by decide +kernel
theorem dX7_front_51 : decode cX7_front 51 = .ok (.iload_n 1, 1) := by decide +kernel
theorem dX7_front_52 : decode cX7_front 52 = .ok (.if_icmp .lt 21, 3) := by decide +kernel
theorem dX7_front_55 : decode cX7_front 55 = .ok (.aload_n 0, 1) := by decide +kernel
theorem dX7_front_56 : decode cX7_front 56 = .ok (.getfield 21, 3) := by decide +kernel
theorem dX7_front_59 : decode cX7_front 59 = .ok (.getfield 196, 3) := by decide +kernel
theorem dX7_front_62 : decode cX7_front 62 = .ok (.iload 5, 2) := by decide +kernel
theorem dX7_front_64 : decode cX7_front 64 = .ok (.iaload, 1) := by decide +kernel
theorem dX7_front_65 : decode cX7_front 65 = .ok (.iload_n 2, 1) := by decide +kernel
theorem dX7_front_66 : decode cX7_front 66 = .ok (.if_icmp .gt 7, 3) := by decide +kernel
theorem dX7_front_69 : decode cX7_front 69 = .ok (.iconst 1, 1) := by decide +kernel
theorem dX7_front_70 : decode cX7_front 70 = .ok (.goto 4, 3) := by decide +kernel
theorem dX7_front_73 : decode cX7_front 73 = .ok (.iconst 0, 1) := by decide +kernel
theorem dX7_front_74 : decode cX7_front 74 = .ok (.istore 6, 2) := by decide +kernel
theorem dX7_front_76 : decode cX7_front 76 = .ok (.aload_n 0, 1) := by decide +kernel
theorem dX7_front_77 : decode cX7_front 77 = .ok (.getfield 54, 3) := by decide +kernel
theorem dX7_front_80 : decode cX7_front 80 = .ok (.iload 5, 2) := by decide +kernel
theorem dX7_front_82 : decode cX7_front 82 = .ok (.invokevirtual 202, 3) := by decide +kernel
theorem dX7_front_85 : decode cX7_front 85 = .ok (.iconst (-1), 1) := by decide +kernel
theorem dX7_front_86 : decode cX7_front 86 = .ok (.if_icmp .eq 7, 3) := by decide +kernel
theorem dX7_front_89 : decode cX7_front 89 = .ok (.iconst 1, 1) := by decide +kernel
theorem dX7_front_90 : decode cX7_front 90 = .ok (.goto 4, 3) := by decide +kernel
theorem dX7_front_93 : decode cX7_front 93 = .ok (.iconst 0, 1) := by decide +kernel
theorem dX7_front_94 : decode cX7_front 94 = .ok (.istore 7, 2) := by decide +kernel
theorem dX7_front_96 : decode cX7_front 96 = .ok (.iload 6, 2) := by decide +kernel
theorem dX7_front_98 : decode cX7_front 98 = .ok (.ifCond .eq 32, 3) := by decide +kernel
theorem dX7_front_101 : decode cX7_front 101 = .ok (.iload 7, 2) := by decide +kernel
theorem dX7_front_103 : decode cX7_front 103 = .ok (.iload_n 3, 1) := by decide +kernel
theorem dX7_front_104 : decode cX7_front 104 = .ok (.ifCond .ne 7, 3) := by decide +kernel
theorem dX7_front_107 : decode cX7_front 107 = .ok (.iconst 1, 1) := by decide +kernel
theorem dX7_front_108 : decode cX7_front 108 = .ok (.goto 4, 3) := by decide +kernel
theorem dX7_front_111 : decode cX7_front 111 = .ok (.iconst 0, 1) := by decide +kernel
theorem dX7_front_112 : decode cX7_front 112 = .ok (.if_icmp .ne 18, 3) := by decide +kernel
theorem dX7_front_115 : decode cX7_front 115 = .ok (.iload 4, 2) := by decide +kernel
theorem dX7_front_117 : decode cX7_front 117 = .ok (.aload_n 0, 1) := by decide +kernel
theorem dX7_front_118 : decode cX7_front 118 = .ok (.getfield 21, 3) := by decide +kernel
theorem dX7_front_121 : decode cX7_front 121 = .ok (.getfield 199, 3) := by decide +kernel
theorem dX7_front_124 : decode cX7_front 124 = .ok (.iload 5, 2) := by decide +kernel
theorem dX7_front_126 : decode cX7_front 126 = .ok (.iaload, 1) := by decide +kernel
theorem dX7_front_127 : decode cX7_front 127 = .ok (.iadd, 1) := by decide +kernel
theorem dX7_front_128 : decode cX7_front 128 = .ok (.istore 4, 2) := by decide +kernel
theorem dX7_front_130 : decode cX7_front 130 = .ok (.iinc 5 1, 3) := by decide +kernel
theorem dX7_front_133 : decode cX7_front 133 = .ok (.goto (-104), 3) := by decide +kernel
theorem dX7_front_136 : decode cX7_front 136 = .ok (.iload 4, 2) := by decide +kernel
theorem dX7_front_138 : decode cX7_front 138 = .ok (.ireturn, 1) := by decide +kernel
theorem dX7_closest_0 : decode cX7_closest 0 = .ok (.aload_n 0, 1) := by decide +kernel
theorem dX7_closest_1 : decode cX7_closest 1 = .ok (.iload_n 1, 1) := by decide +kernel
theorem dX7_closest_2 : decode cX7_closest 2 = .ok (.invokevirtual 193, 3) := by decide +kernel
theorem dX7_closest_5 : decode cX7_closest 5 = .ok (.aload_n 0, 1) := by decide +kernel
theorem dX7_closest_6 : decode cX7_closest 6 = .ok (.iload_n 2, 1) := by decide +kernel
theorem dX7_closest_7 : decode cX7_closest 7 = .ok (.iconst 0, 1) := by decide +kernel
theorem dX7_closest_8 : decode cX7_closest 8 = .ok (.iconst 1, 1) := by decide +kernel
theorem dX7_closest_9 : decode cX7_closest 9 = .ok (.invokevirtual 102, 3) := by decide +kernel
theorem dX7_closest_12 : decode cX7_closest 12 = .ok (.iconst (-1), 1) := by decide +kernel
theorem dX7_closest_13 : decode cX7_closest 13 = .ok (.istore_n 3, 1) := by decide +kernel
theorem dX7_closest_14 : decode cX7_closest 14 = .ok (.iconst (-1), 1) := by decide +kernel
theorem dX7_closest_15 : decode cX7_closest 15 = .ok (.istore 4, 2) := by decide +kernel
theorem dX7_closest_17 : decode cX7_closest 17 = .ok (.iconst 0, 1) := by decide +kernel
theorem dX7_closest_18 : decode cX7_closest 18 = .ok (.istore 5, 2) := by decide +kernel
theorem dX7_closest_20 : decode cX7_closest 20 = .ok (.iload 5, 2) := by decide +kernel
theorem dX7_closest_22 : decode cX7_closest 22 = .ok (.iconst 5, 1) := by decide +kernel
theorem dX7_closest_23 : decode cX7_closest 23 = .ok (.if_icmp .ge 56, 3) := by decide +kernel
theorem dX7_closest_26 : decode cX7_closest 26 = .ok (.aload_n 0, 1) := by decide +kernel
theorem dX7_closest_27 : decode cX7_closest 27 = .ok (.getfield 54, 3) := by decide +kernel
theorem dX7_closest_30 : decode cX7_closest 30 = .ok (.iload 5, 2) := by decide +kernel
theorem dX7_closest_32 : decode cX7_closest 32 = .ok (.invokevirtual 215, 3) := by decide +kernel
theorem dX7_closest_35 : decode cX7_closest 35 = .ok (.ifCond .eq 38, 3) := by decide +kernel
theorem dX7_closest_38 : decode cX7_closest 38 = .ok (.iload_n 3, 1) := by decide +kernel
theorem dX7_closest_39 : decode cX7_closest 39 = .ok (.iconst (-1), 1) := by decide +kernel
theorem dX7_closest_40 : decode cX7_closest 40 = .ok (.if_icmp .eq 18, 3) := by decide +kernel
theorem dX7_closest_43 : decode cX7_closest 43 = .ok (.aload_n 0, 1) := by decide +kernel
theorem dX7_closest_44 : decode cX7_closest 44 = .ok (.getfield 54, 3) := by decide +kernel
theorem dX7_closest_47 : decode cX7_closest 47 = .ok (.iload 5, 2) := by decide +kernel
theorem dX7_closest_49 : decode cX7_closest 49 = .ok (.iload_n 1, 1) := by decide +kernel
theorem dX7_closest_50 : decode cX7_closest 50 = .ok (.invokevirtual 251, 3) := by decide +kernel
theorem dX7_closest_53 : decode cX7_closest 53 = .ok (.iload 4, 2) := by decide +kernel
theorem dX7_closest_55 : decode cX7_closest 55 = .ok (.if_icmp .ge 18, 3) := by decide +kernel
theorem dX7_closest_58 : decode cX7_closest 58 = .ok (.iload 5, 2) := by decide +kernel
theorem dX7_closest_60 : decode cX7_closest 60 = .ok (.istore_n 3, 1) := by decide +kernel
theorem dX7_closest_61 : decode cX7_closest 61 = .ok (.aload_n 0, 1) := by decide +kernel
theorem dX7_closest_62 : decode cX7_closest 62 = .ok (.getfield 54, 3) := by decide +kernel
theorem dX7_closest_65 : decode cX7_closest 65 = .ok (.iload 5, 2) := by decide +kernel
theorem dX7_closest_67 : decode cX7_closest 67 = .ok (.iload_n 1, 1) := by decide +kernel
theorem dX7_closest_68 : decode cX7_closest 68 = .ok (.invokevirtual 251, 3) := by decide +kernel
theorem dX7_closest_71 : decode cX7_closest 71 = .ok (.istore 4, 2) := by decide +kernel
theorem dX7_closest_73 : decode cX7_closest 73 = .ok (.iinc 5 1, 3) := by decide +kernel
theorem dX7_closest_76 : decode cX7_closest 76 = .ok (.goto (-56), 3) := by decide +kernel
theorem dX7_closest_79 : decode cX7_closest 79 = .ok (.iload_n 2, 1) := by decide +kernel
theorem dX7_closest_80 : decode cX7_closest 80 = .ok (.ifCond .ne 7, 3) := by decide +kernel
theorem dX7_closest_83 : decode cX7_closest 83 = .ok (.iload_n 3, 1) := by decide +kernel
theorem dX7_closest_84 : decode cX7_closest 84 = .ok (.goto 5, 3) := by decide +kernel
theorem dX7_closest_87 : decode cX7_closest 87 = .ok (.iload 4, 2) := by decide +kernel
theorem dX7_closest_89 : decode cX7_closest 89 = .ok (.ireturn, 1) := by decide +kernel
theorem dX7_would_0 : decode cX7_would 0 = .ok (.aload_n 0, 1) := by decide +kernel
theorem dX7_would_1 : decode cX7_would 1 = .ok (.iload_n 1, 1) := by decide +kernel
theorem dX7_would_2 : decode cX7_would 2 = .ok (.iconst 1, 1) := by decide +kernel
theorem dX7_would_3 : decode cX7_would 3 = .ok (.bipush 20, 2) := by decide +kernel
theorem dX7_would_5 : decode cX7_would 5 = .ok (.invokevirtual 102, 3) := by decide +kernel
theorem dX7_would_8 : decode cX7_would 8 = .ok (.aload_n 0, 1) := by decide +kernel
theorem dX7_would_9 : decode cX7_would 9 = .ok (.iload_n 2, 1) := by decide +kernel
theorem dX7_would_10 : decode cX7_would 10 = .ok (.iconst 1, 1) := by decide +kernel
theorem dX7_would_11 : decode cX7_would 11 = .ok (.bipush 20, 2) := by decide +kernel
theorem dX7_would_13 : decode cX7_would 13 = .ok (.invokevirtual 102, 3) := by decide +kernel
theorem dX7_would_16 : decode cX7_would 16 = .ok (.aload_n 0, 1) := by decide +kernel
theorem dX7_would_17 : decode cX7_would 17 = .ok (.iload_n 3, 1) := by decide +kernel
theorem dX7_would_18 : decode cX7_would 18 = .ok (.iconst 0, 1) := by decide +kernel
theorem dX7_would_19 : decode cX7_would 19 = .ok (.iconst 4, 1) := by decide +kernel
theorem dX7_would_20 : decode cX7_would 20 = .ok (.invokevirtual 102, 3) := by decide +kernel
theorem dX7_would_23 : decode cX7_would 23 = .ok (.aload_n 0, 1) := by decide +kernel
theorem dX7_would_24 : decode cX7_would 24 = .ok (.iload 4, 2) := by decide +kernel
theorem dX7_would_26 : decode cX7_would 26 = .ok (.iconst 0, 1) := by decide +kernel
theorem dX7_would_27 : decode cX7_would 27 = .ok (.bipush 99, 2) := by decide +kernel
theorem dX7_would_29 : decode cX7_would 29 = .ok (.invokevirtual 102, 3) := by decide +kernel
theorem dX7_would_32 : decode cX7_would 32 = .ok (.aload_n 0, 1) := by decide +kernel
theorem dX7_would_33 : decode cX7_would 33 = .ok (.iload 5, 2) := by decide +kernel
theorem dX7_would_35 : decode cX7_would 35 = .ok (.iconst 0, 1) := by decide +kernel
theorem dX7_would_36 : decode cX7_would 36 = .ok (.sipush 480, 3) := by decide +kernel
theorem dX7_would_39 : decode cX7_would 39 = .ok (.invokevirtual 102, 3) := by decide +kernel
theorem dX7_would_42 : decode cX7_would 42 = .ok (.aload_n 0, 1) := by decide +kernel
theorem dX7_would_43 : decode cX7_would 43 = .ok (.iload 6, 2) := by decide +kernel
theorem dX7_would_45 : decode cX7_would 45 = .ok (.iconst 0, 1) := by decide +kernel
theorem dX7_would_46 : decode cX7_would 46 = .ok (.sipush 400, 3) := by decide +kernel
theorem dX7_would_49 : decode cX7_would 49 = .ok (.invokevirtual 102, 3) := by decide +kernel
theorem dX7_would_52 : decode cX7_would 52 = .ok (.aload_n 0, 1) := by decide +kernel
theorem dX7_would_53 : decode cX7_would 53 = .ok (.iload 7, 2) := by decide +kernel
theorem dX7_would_55 : decode cX7_would 55 = .ok (.iconst 0, 1) := by decide +kernel
theorem dX7_would_56 : decode cX7_would 56 = .ok (.sipush 999, 3) := by decide +kernel
theorem dX7_would_59 : decode cX7_would 59 = .ok (.invokevirtual 102, 3) := by decide +kernel
theorem dX7_would_62 : decode cX7_would 62 = .ok (.aload_n 0, 1) := by decide +kernel
theorem dX7_would_63 : decode cX7_would 63 = .ok (.iload 8, 2) := by decide +kernel
theorem dX7_would_65 : decode cX7_would 65 = .ok (.iconst 0, 1) := by decide +kernel
theorem dX7_would_66 : decode cX7_would 66 = .ok (.iconst 4, 1) := by decide +kernel
theorem dX7_would_67 : decode cX7_would 67 = .ok (.invokevirtual 102, 3) := by decide +kernel
theorem dX7_would_70 : decode cX7_would 70 = .ok (.aload_n 0, 1) := by decide +kernel
theorem dX7_would_71 : decode cX7_would 71 = .ok (.getfield 31, 3) := by decide +kernel
theorem dX7_would_74 : decode cX7_would 74 = .ok (.getfield 254, 3) := by decide +kernel
theorem dX7_would_77 : decode cX7_would 77 = .ok (.iconst 0, 1) := by decide +kernel
theorem dX7_would_78 : decode cX7_would 78 = .ok (.iload_n 1, 1) := by decide +kernel
theorem dX7_would_79 : decode cX7_would 79 = .ok (.iastore, 1) := by decide +kernel
theorem dX7_would_80 : decode cX7_would 80 = .ok (.aload_n 0, 1) := by decide +kernel
theorem dX7_would_81 : decode cX7_would 81 = .ok (.getfield 31, 3) := by decide +kernel
theorem dX7_would_84 : decode cX7_would 84 = .ok (.getfield 254, 3) := by decide +kernel
theorem dX7_would_87 : decode cX7_would 87 = .ok (.iconst 1, 1) := by decide +kernel
theorem dX7_would_88 : decode cX7_would 88 = .ok (.iload_n 2, 1) := by decide +kernel
theorem dX7_would_89 : decode cX7_would 89 = .ok (.iastore, 1) := by decide +kernel
theorem dX7_would_90 : decode cX7_would 90 = .ok (.aload_n 0, 1) := by decide +kernel
theorem dX7_would_91 : decode cX7_would 91 = .ok (.getfield 31, 3) := by decide +kernel
theorem dX7_would_94 : decode cX7_would 94 = .ok (.getfield 254, 3) := by decide +kernel
theorem dX7_would_97 : decode cX7_would 97 = .ok (.iconst 2, 1) := by decide +kernel
theorem dX7_would_98 : decode cX7_would 98 = .ok (.iload_n 3, 1) := by decide +kernel
theorem dX7_would_99 : decode cX7_would 99 = .ok (.iastore, 1) := by decide +kernel
theorem dX7_would_100 : decode cX7_would 100 = .ok (.aload_n 0, 1) := by decide +kernel
theorem dX7_would_101 : decode cX7_would 101 = .ok (.getfield 31, 3) := by decide +kernel
theorem dX7_would_104 : decode cX7_would 104 = .ok (.getfield 254, 3) := by decide +kernel
theorem dX7_would_107 : decode cX7_would 107 = .ok (.iconst 3, 1) := by decide +kernel
theorem dX7_would_108 : decode cX7_would 108 = .ok (.iload 4, 2) := by decide +kernel
theorem dX7_would_110 : decode cX7_would 110 = .ok (.iastore, 1) := by decide +kernel
theorem dX7_would_111 : decode cX7_would 111 = .ok (.aload_n 0, 1) := by decide +kernel
theorem dX7_would_112 : decode cX7_would 112 = .ok (.getfield 31, 3) := by decide +kernel
theorem dX7_would_115 : decode cX7_would 115 = .ok (.getfield 254, 3) := by decide +kernel
theorem dX7_would_118 : decode cX7_would 118 = .ok (.iconst 4, 1) := by decide +kernel
theorem dX7_would_119 : decode cX7_would 119 = .ok (.iload 5, 2) := by decide +kernel
theorem dX7_would_121 : decode cX7_would 121 = .ok (.iastore, 1) := by decide +kernel
theorem dX7_would_122 : decode cX7_would 122 = .ok (.aload_n 0, 1) := by decide +kernel
theorem dX7_would_123 : decode cX7_would 123 = .ok (.getfield 31, 3) := by decide +kernel
theorem dX7_would_126 : decode cX7_would 126 = .ok (.getfield 254, 3) := by decide +kernel
theorem dX7_would_129 : decode cX7_would 129 = .ok (.iconst 5, 1) := by decide +kernel
theorem dX7_would_130 : decode cX7_would 130 = .ok (.iload 6, 2) := by decide +kernel
theorem dX7_would_132 : decode cX7_would 132 = .ok (.iastore, 1) := by decide +kernel
theorem dX7_would_133 : decode cX7_would 133 = .ok (.aload_n 0, 1) := by decide +kernel
theorem dX7_would_134 : decode cX7_would 134 = .ok (.getfield 31, 3) := by decide +kernel
theorem dX7_would_137 : decode cX7_would 137 = .ok (.getfield 254, 3) := by decide +kernel
theorem dX7_would_140 : decode cX7_would 140 = .ok (.bipush 6, 2) := by decide +kernel
theorem dX7_would_142 : decode cX7_would 142 = .ok (.iload 7, 2) := by decide +kernel
theorem dX7_would_144 : decode cX7_would 144 = .ok (.iastore, 1) := by decide +kernel
theorem dX7_would_145 : decode cX7_would 145 = .ok (.aload_n 0, 1) := by decide +kernel
theorem dX7_would_146 : decode cX7_would 146 = .ok (.getfield 31, 3) := by decide +kernel
theorem dX7_would_149 : decode cX7_would 149 = .ok (.getfield 254, 3) := by decide +kernel
theorem dX7_would_152 : decode cX7_would 152 = .ok (.bipush 7, 2) := by decide +kernel
theorem dX7_would_154 : decode cX7_would 154 = .ok (.iload 8, 2) := by decide +kernel
theorem dX7_would_156 : decode cX7_would 156 = .ok (.iastore, 1) := by decide +kernel
theorem dX7_would_157 : decode cX7_would 157 = .ok (.aload_n 0, 1) := by decide +kernel
theorem dX7_would_158 : decode cX7_would 158 = .ok (.getfield 31, 3) := by decide +kernel
theorem dX7_would_161 : decode cX7_would 161 = .ok (.invokevirtual 257, 3) := by decide +kernel
theorem dX7_would_164 : decode cX7_would 164 = .ok (.ireturn, 1) := by decide +kernel
theorem dX7_ahead_0 : decode cX7_ahead 0 = .ok (.aload_n 0, 1) := by decide +kernel
theorem dX7_ahead_1 : decode cX7_ahead 1 = .ok (.iload_n 1, 1) := by decide +kernel
theorem dX7_ahead_2 : decode cX7_ahead 2 = .ok (.iconst 0, 1) := by decide +kernel
theorem dX7_ahead_3 : decode cX7_ahead 3 = .ok (.bipush 99, 2) := by decide +kernel
theorem dX7_ahead_5 : decode cX7_ahead 5 = .ok (.invokevirtual 102, 3) := by decide +kernel
theorem dX7_ahead_8 : decode cX7_ahead 8 = .ok (.aload_n 0, 1) := by decide +kernel
theorem dX7_ahead_9 : decode cX7_ahead 9 = .ok (.iload_n 2, 1) := by decide +kernel
theorem dX7_ahead_10 : decode cX7_ahead 10 = .ok (.iconst 0, 1) := by decide +kernel
theorem dX7_ahead_11 : decode cX7_ahead 11 = .ok (.iconst 2, 1) := by decide +kernel
theorem dX7_ahead_12 : decode cX7_ahead 12 = .ok (.invokevirtual 102, 3) := by decide +kernel
theorem dX7_ahead_15 : decode cX7_ahead 15 = .ok (.aload_n 0, 1) := by decide +kernel
theorem dX7_ahead_16 : decode cX7_ahead 16 = .ok (.getfield 58, 3) := by decide +kernel
theorem dX7_ahead_19 : decode cX7_ahead 19 = .ok (.aload_n 0, 1) := by decide +kernel
theorem dX7_ahead_20 : decode cX7_ahead 20 = .ok (.getfield 54, 3) := by decide +kernel
theorem dX7_ahead_23 : decode cX7_ahead 23 = .ok (.invokevirtual 259, 3) := by decide +kernel
theorem dX7_ahead_26 : decode cX7_ahead 26 = .ok (.iconst 0, 1) := by decide +kernel
theorem dX7_ahead_27 : decode cX7_ahead 27 = .ok (.istore_n 3, 1) := by decide +kernel
theorem dX7_ahead_28 : decode cX7_ahead 28 = .ok (.iload_n 3, 1) := by decide +kernel
theorem dX7_ahead_29 : decode cX7_ahead 29 = .ok (.iload_n 1, 1) := by decide +kernel
theorem dX7_ahead_30 : decode cX7_ahead 30 = .ok (.if_icmp .ge 20, 3) := by decide +kernel
theorem dX7_ahead_33 : decode cX7_ahead 33 = .ok (.aload_n 0, 1) := by decide +kernel
theorem dX7_ahead_34 : decode cX7_ahead 34 = .ok (.getfield 58, 3) := by decide +kernel
theorem dX7_ahead_37 : decode cX7_ahead 37 = .ok (.ldc_w 262, 3) := by decide +kernel
theorem dX7_ahead_40 : decode cX7_ahead 40 = .ok (.invokevirtual 263, 3) := by decide +kernel
theorem dX7_ahead_43 : decode cX7_ahead 43 = .ok (.pop, 1) := by decide +kernel
theorem dX7_ahead_44 : decode cX7_ahead 44 = .ok (.iinc 3 1, 3) := by decide +kernel
theorem dX7_ahead_47 : decode cX7_ahead 47 = .ok (.goto (-19), 3) := by decide +kernel
theorem dX7_ahead_50 : decode cX7_ahead 50 = .ok (.iload_n 2, 1) := by decide +kernel
theorem dX7_ahead_51 : decode cX7_ahead 51 = .ok (.lookupswitch 41 #[(0, 25), (1, 33)], 25) := by decide +kernel
theorem dX7_ahead_76 : decode cX7_ahead 76 = .ok (.aload_n 0, 1) := by decide +kernel
theorem dX7_ahead_77 : decode cX7_ahead 77 = .ok (.getfield 58, 3) := by decide +kernel
theorem dX7_ahead_80 : decode cX7_ahead 80 = .ok (.invokevirtual 181, 3) := by decide +kernel
theorem dX7_ahead_83 : decode cX7_ahead 83 = .ok (.ireturn, 1) := by decide +kernel
theorem dX7_ahead_84 : decode cX7_ahead 84 = .ok (.aload_n 0, 1) := by decide +kernel
theorem dX7_ahead_85 : decode cX7_ahead 85 = .ok (.getfield 58, 3) := by decide +kernel
theorem dX7_ahead_88 : decode cX7_ahead 88 = .ok (.invokevirtual 187, 3) := by decide +kernel
theorem dX7_ahead_91 : decode cX7_ahead 91 = .ok (.ireturn, 1) := by decide +kernel
theorem dX7_ahead_92 : decode cX7_ahead 92 = .ok (.aload_n 0, 1) := by decide +kernel
theorem dX7_ahead_93 : decode cX7_ahead 93 = .ok (.getfield 58, 3) := by decide +kernel
theorem dX7_ahead_96 : decode cX7_ahead 96 = .ok (.getfield 144, 3) := by decide +kernel
theorem dX7_ahead_99 : decode cX7_ahead 99 = .ok (.iconst 2, 1) := by decide +kernel
theorem dX7_ahead_100 : decode cX7_ahead 100 = .ok (.iaload, 1) := by decide +kernel
theorem dX7_ahead_101 : decode cX7_ahead 101 = .ok (.ireturn, 1) := by decide +kernel
theorem dX7_lasts_0 : decode cX7_lasts 0 = .ok (.aload_n 0, 1) := by decide +kernel
theorem dX7_lasts_1 : decode cX7_lasts 1 = .ok (.iload_n 1, 1) := by decide +kernel
theorem dX7_lasts_2 : decode cX7_lasts 2 = .ok (.invokevirtual 212, 3) := by decide +kernel
theorem dX7_lasts_5 : decode cX7_lasts 5 = .ok (.aload_n 0, 1) := by decide +kernel
theorem dX7_lasts_6 : decode cX7_lasts 6 = .ok (.getfield 54, 3) := by decide +kernel
theorem dX7_lasts_9 : decode cX7_lasts 9 = .ok (.iload_n 1, 1) := by decide +kernel
theorem dX7_lasts_10 : decode cX7_lasts 10 = .ok (.invokevirtual 215, 3) := by decide +kernel
theorem dX7_lasts_13 : decode cX7_lasts 13 = .ok (.ifCond .ne 5, 3) := by decide +kernel
theorem dX7_lasts_16 : decode cX7_lasts 16 = .ok (.iconst (-1), 1) := by decide +kernel
theorem dX7_lasts_17 : decode cX7_lasts 17 = .ok (.ireturn, 1) := by decide +kernel
theorem dX7_lasts_18 : decode cX7_lasts 18 = .ok (.aload_n 0, 1) := by decide +kernel
theorem dX7_lasts_19 : decode cX7_lasts 19 = .ok (.getfield 58, 3) := by decide +kernel
theorem dX7_lasts_22 : decode cX7_lasts 22 = .ok (.aload_n 0, 1) := by decide +kernel
theorem dX7_lasts_23 : decode cX7_lasts 23 = .ok (.getfield 54, 3) := by decide +kernel
theorem dX7_lasts_26 : decode cX7_lasts 26 = .ok (.invokevirtual 259, 3) := by decide +kernel
theorem dX7_lasts_29 : decode cX7_lasts 29 = .ok (.iconst 1, 1) := by decide +kernel
theorem dX7_lasts_30 : decode cX7_lasts 30 = .ok (.istore_n 2, 1) := by decide +kernel
theorem dX7_lasts_31 : decode cX7_lasts 31 = .ok (.iload_n 2, 1) := by decide +kernel
theorem dX7_lasts_32 : decode cX7_lasts 32 = .ok (.bipush 99, 2) := by decide +kernel
theorem dX7_lasts_34 : decode cX7_lasts 34 = .ok (.if_icmp .gt 33, 3) := by decide +kernel
theorem dX7_lasts_37 : decode cX7_lasts 37 = .ok (.aload_n 0, 1) := by decide +kernel
theorem dX7_lasts_38 : decode cX7_lasts 38 = .ok (.getfield 58, 3) := by decide +kernel
theorem dX7_lasts_41 : decode cX7_lasts 41 = .ok (.ldc_w 262, 3) := by decide +kernel
theorem dX7_lasts_44 : decode cX7_lasts 44 = .ok (.invokevirtual 263, 3) := by decide +kernel
theorem dX7_lasts_47 : decode cX7_lasts 47 = .ok (.pop, 1) := by decide +kernel
theorem dX7_lasts_48 : decode cX7_lasts 48 = .ok (.aload_n 0, 1) := by decide +kernel
theorem dX7_lasts_49 : decode cX7_lasts 49 = .ok (.getfield 58, 3) := by decide +kernel
theorem dX7_lasts_52 : decode cX7_lasts 52 = .ok (.iload_n 1, 1) := by decide +kernel
theorem dX7_lasts_53 : decode cX7_lasts 53 = .ok (.invokevirtual 215, 3) := by decide +kernel
theorem dX7_lasts_56 : decode cX7_lasts 56 = .ok (.ifCond .ne 5, 3) := by decide +kernel
theorem dX7_lasts_59 : decode cX7_lasts 59 = .ok (.iload_n 2, 1) := by decide +kernel
theorem dX7_lasts_60 : decode cX7_lasts 60 = .ok (.ireturn, 1) := by decide +kernel
theorem dX7_lasts_61 : decode cX7_lasts 61 = .ok (.iinc 2 1, 3) := by decide +kernel
theorem dX7_lasts_64 : decode cX7_lasts 64 = .ok (.goto (-33), 3) := by decide +kernel
theorem dX7_lasts_67 : decode cX7_lasts 67 = .ok (.iconst (-1), 1) := by decide +kernel
theorem dX7_lasts_68 : decode cX7_lasts 68 = .ok (.ireturn, 1) := by decide +kernel
theorem dX7_offer_0 : decode cX7_offer 0 = .ok (.aload_n 0, 1) := by decide +kernel
theorem dX7_offer_1 : decode cX7_offer 1 = .ok (.iload_n 1, 1) := by decide +kernel
theorem dX7_offer_2 : decode cX7_offer 2 = .ok (.invokevirtual 212, 3) := by decide +kernel
theorem dX7_offer_5 : decode cX7_offer 5 = .ok (.aload_n 0, 1) := by decide +kernel
theorem dX7_offer_6 : decode cX7_offer 6 = .ok (.iload_n 2, 1) := by decide +kernel
theorem dX7_offer_7 : decode cX7_offer 7 = .ok (.iconst 1, 1) := by decide +kernel
theorem dX7_offer_8 : decode cX7_offer 8 = .ok (.bipush 20, 2) := by decide +kernel
theorem dX7_offer_10 : decode cX7_offer 10 = .ok (.invokevirtual 102, 3) := by decide +kernel
theorem dX7_offer_13 : decode cX7_offer 13 = .ok (.aload_n 0, 1) := by decide +kernel
theorem dX7_offer_14 : decode cX7_offer 14 = .ok (.getfield 54, 3) := by decide +kernel
theorem dX7_offer_17 : decode cX7_offer 17 = .ok (.iload_n 1, 1) := by decide +kernel
theorem dX7_offer_18 : decode cX7_offer 18 = .ok (.invokevirtual 215, 3) := by decide +kernel
theorem dX7_offer_21 : decode cX7_offer 21 = .ok (.ifCond .eq 5, 3) := by decide +kernel
theorem dX7_offer_24 : decode cX7_offer 24 = .ok (.iconst (-1), 1) := by decide +kernel
theorem dX7_offer_25 : decode cX7_offer 25 = .ok (.ireturn, 1) := by decide +kernel
theorem dX7_offer_26 : decode cX7_offer 26 = .ok (.aload_n 0, 1) := by decide +kernel
theorem dX7_offer_27 : decode cX7_offer 27 = .ok (.getfield 58, 3) := by decide +kernel
theorem dX7_offer_30 : decode cX7_offer 30 = .ok (.aload_n 0, 1) := by decide +kernel
theorem dX7_offer_31 : decode cX7_offer 31 = .ok (.getfield 54, 3) := by decide +kernel
theorem dX7_offer_34 : decode cX7_offer 34 = .ok (.invokevirtual 259, 3) := by decide +kernel
theorem dX7_offer_37 : decode cX7_offer 37 = .ok (.aload_n 0, 1) := by decide +kernel
theorem dX7_offer_38 : decode cX7_offer 38 = .ok (.getfield 58, 3) := by decide +kernel
theorem dX7_offer_41 : decode cX7_offer 41 = .ok (.iload_n 1, 1) := by decide +kernel
theorem dX7_offer_42 : decode cX7_offer 42 = .ok (.iload_n 2, 1) := by decide +kernel
theorem dX7_offer_43 : decode cX7_offer 43 = .ok (.aload_n 0, 1) := by decide +kernel
theorem dX7_offer_44 : decode cX7_offer 44 = .ok (.getfield 58, 3) := by decide +kernel
theorem dX7_offer_47 : decode cX7_offer 47 = .ok (.getfield 144, 3) := by decide +kernel
theorem dX7_offer_50 : decode cX7_offer 50 = .ok (.bipush 8, 2) := by decide +kernel
theorem dX7_offer_52 : decode cX7_offer 52 = .ok (.iload_n 1, 1) := by decide +kernel
theorem dX7_offer_53 : decode cX7_offer 53 = .ok (.iadd, 1) := by decide +kernel
theorem dX7_offer_54 : decode cX7_offer 54 = .ok (.iaload, 1) := by decide +kernel
theorem dX7_offer_55 : decode cX7_offer 55 = .ok (.iconst 0, 1) := by decide +kernel
theorem dX7_offer_56 : decode cX7_offer 56 = .ok (.invokevirtual 266, 3) := by decide +kernel
theorem dX7_offer_59 : decode cX7_offer 59 = .ok (.aload_n 0, 1) := by decide +kernel
theorem dX7_offer_60 : decode cX7_offer 60 = .ok (.getfield 58, 3) := by decide +kernel
theorem dX7_offer_63 : decode cX7_offer 63 = .ok (.iload_n 1, 1) := by decide +kernel
theorem dX7_offer_64 : decode cX7_offer 64 = .ok (.invokevirtual 222, 3) := by decide +kernel
theorem dX7_offer_67 : decode cX7_offer 67 = .ok (.ireturn, 1) := by decide +kernel
theorem dX7_lost_0 : decode cX7_lost 0 = .ok (.aload_n 0, 1) := by decide +kernel
theorem dX7_lost_1 : decode cX7_lost 1 = .ok (.iload_n 1, 1) := by decide +kernel
theorem dX7_lost_2 : decode cX7_lost 2 = .ok (.iconst 1, 1) := by decide +kernel
theorem dX7_lost_3 : decode cX7_lost 3 = .ok (.bipush 20, 2) := by decide +kernel
theorem dX7_lost_5 : decode cX7_lost 5 = .ok (.invokevirtual 102, 3) := by decide +kernel
theorem dX7_lost_8 : decode cX7_lost 8 = .ok (.aload_n 0, 1) := by decide +kernel
theorem dX7_lost_9 : decode cX7_lost 9 = .ok (.iload_n 2, 1) := by decide +kernel
theorem dX7_lost_10 : decode cX7_lost 10 = .ok (.iconst 0, 1) := by decide +kernel
theorem dX7_lost_11 : decode cX7_lost 11 = .ok (.iconst 1, 1) := by decide +kernel
theorem dX7_lost_12 : decode cX7_lost 12 = .ok (.invokevirtual 102, 3) := by decide +kernel
theorem dX7_lost_15 : decode cX7_lost 15 = .ok (.aload_n 0, 1) := by decide +kernel
theorem dX7_lost_16 : decode cX7_lost 16 = .ok (.getfield 54, 3) := by decide +kernel
theorem dX7_lost_19 : decode cX7_lost 19 = .ok (.iload_n 2, 1) := by decide +kernel
theorem dX7_lost_20 : decode cX7_lost 20 = .ok (.ifCond .ne 7, 3) := by decide +kernel
theorem dX7_lost_23 : decode cX7_lost 23 = .ok (.iload_n 1, 1) := by decide +kernel
theorem dX7_lost_24 : decode cX7_lost 24 = .ok (.goto 5, 3) := by decide +kernel
theorem dX7_lost_27 : decode cX7_lost 27 = .ok (.iload_n 1, 1) := by decide +kernel
theorem dX7_lost_28 : decode cX7_lost 28 = .ok (.ineg, 1) := by decide +kernel
theorem dX7_lost_29 : decode cX7_lost 29 = .ok (.invokevirtual 270, 3) := by decide +kernel
theorem dX7_lost_32 : decode cX7_lost 32 = .ok (.ireturn, 1) := by decide +kernel
theorem dX7_needs_0 : decode cX7_needs 0 = .ok (.aload_n 0, 1) := by decide +kernel
theorem dX7_needs_1 : decode cX7_needs 1 = .ok (.iload_n 1, 1) := by decide +kernel
theorem dX7_needs_2 : decode cX7_needs 2 = .ok (.invokevirtual 212, 3) := by decide +kernel
theorem dX7_needs_5 : decode cX7_needs 5 = .ok (.aload_n 0, 1) := by decide +kernel
theorem dX7_needs_6 : decode cX7_needs 6 = .ok (.iload_n 2, 1) := by decide +kernel
theorem dX7_needs_7 : decode cX7_needs 7 = .ok (.invokevirtual 193, 3) := by decide +kernel
theorem dX7_needs_10 : decode cX7_needs 10 = .ok (.aload_n 0, 1) := by decide +kernel
theorem dX7_needs_11 : decode cX7_needs 11 = .ok (.getfield 21, 3) := by decide +kernel
theorem dX7_needs_14 : decode cX7_needs 14 = .ok (.getfield 196, 3) := by decide +kernel
theorem dX7_needs_17 : decode cX7_needs 17 = .ok (.iload_n 2, 1) := by decide +kernel
theorem dX7_needs_18 : decode cX7_needs 18 = .ok (.iaload, 1) := by decide +kernel
theorem dX7_needs_19 : decode cX7_needs 19 = .ok (.aload_n 0, 1) := by decide +kernel
theorem dX7_needs_20 : decode cX7_needs 20 = .ok (.getfield 54, 3) := by decide +kernel
theorem dX7_needs_23 : decode cX7_needs 23 = .ok (.getfield 144, 3) := by decide +kernel
theorem dX7_needs_26 : decode cX7_needs 26 = .ok (.bipush 8, 2) := by decide +kernel
theorem dX7_needs_28 : decode cX7_needs 28 = .ok (.iload_n 1, 1) := by decide +kernel
theorem dX7_needs_29 : decode cX7_needs 29 = .ok (.iadd, 1) := by decide +kernel
theorem dX7_needs_30 : decode cX7_needs 30 = .ok (.iaload, 1) := by decide +kernel
theorem dX7_needs_31 : decode cX7_needs 31 = .ok (.isub, 1) := by decide +kernel
theorem dX7_needs_32 : decode cX7_needs 32 = .ok (.invokestatic 244, 3) := by decide +kernel
theorem dX7_needs_35 : decode cX7_needs 35 = .ok (.istore_n 3, 1) := by decide +kernel
theorem dX7_needs_36 : decode cX7_needs 36 = .ok (.iload_n 3, 1) := by decide +kernel
theorem dX7_needs_37 : decode cX7_needs 37 = .ok (.bipush 20, 2) := by decide +kernel
theorem dX7_needs_39 : decode cX7_needs 39 = .ok (.if_icmp .le 7, 3) := by decide +kernel
theorem dX7_needs_42 : decode cX7_needs 42 = .ok (.iconst (-1), 1) := by decide +kernel
theorem dX7_needs_43 : decode cX7_needs 43 = .ok (.goto 8, 3) := by decide +kernel
theorem dX7_needs_46 : decode cX7_needs 46 = .ok (.iconst 1, 1) := by decide +kernel
theorem dX7_needs_47 : decode cX7_needs 47 = .ok (.iload_n 3, 1) := by decide +kernel
theorem dX7_needs_48 : decode cX7_needs 48 = .ok (.invokestatic 273, 3) := by decide +kernel
theorem dX7_needs_51 : decode cX7_needs 51 = .ok (.ireturn, 1) := by decide +kernel
theorem dX7_buyers_0 : decode cX7_buyers 0 = .ok (.aload_n 0, 1) := by decide +kernel
theorem dX7_buyers_1 : decode cX7_buyers 1 = .ok (.iload_n 1, 1) := by decide +kernel
theorem dX7_buyers_2 : decode cX7_buyers 2 = .ok (.invokevirtual 212, 3) := by decide +kernel
theorem dX7_buyers_5 : decode cX7_buyers 5 = .ok (.aload_n 0, 1) := by decide +kernel
theorem dX7_buyers_6 : decode cX7_buyers 6 = .ok (.iload_n 2, 1) := by decide +kernel
theorem dX7_buyers_7 : decode cX7_buyers 7 = .ok (.iconst 0, 1) := by decide +kernel
theorem dX7_buyers_8 : decode cX7_buyers 8 = .ok (.bipush 99, 2) := by decide +kernel
theorem dX7_buyers_10 : decode cX7_buyers 10 = .ok (.invokevirtual 102, 3) := by decide +kernel
theorem dX7_buyers_13 : decode cX7_buyers 13 = .ok (.iconst 0, 1) := by decide +kernel
theorem dX7_buyers_14 : decode cX7_buyers 14 = .ok (.istore_n 3, 1) := by decide +kernel
theorem dX7_buyers_15 : decode cX7_buyers 15 = .ok (.iconst 0, 1) := by decide +kernel
theorem dX7_buyers_16 : decode cX7_buyers 16 = .ok (.istore 4, 2) := by decide +kernel
theorem dX7_buyers_18 : decode cX7_buyers 18 = .ok (.iload 4, 2) := by decide +kernel
theorem dX7_buyers_20 : decode cX7_buyers 20 = .ok (.aload_n 0, 1) := by decide +kernel
theorem dX7_buyers_21 : decode cX7_buyers 21 = .ok (.getfield 21, 3) := by decide +kernel
theorem dX7_buyers_24 : decode cX7_buyers 24 = .ok (.getfield 131, 3) := by decide +kernel
theorem dX7_buyers_27 : decode cX7_buyers 27 = .ok (.if_icmp .ge 30, 3) := by decide +kernel
theorem dX7_buyers_30 : decode cX7_buyers 30 = .ok (.aload_n 0, 1) := by decide +kernel
theorem dX7_buyers_31 : decode cX7_buyers 31 = .ok (.getfield 54, 3) := by decide +kernel
theorem dX7_buyers_34 : decode cX7_buyers 34 = .ok (.iload_n 1, 1) := by decide +kernel
theorem dX7_buyers_35 : decode cX7_buyers 35 = .ok (.iload 4, 2) := by decide +kernel
theorem dX7_buyers_37 : decode cX7_buyers 37 = .ok (.iload_n 2, 1) := by decide +kernel
theorem dX7_buyers_38 : decode cX7_buyers 38 = .ok (.invokevirtual 276, 3) := by decide +kernel
theorem dX7_buyers_41 : decode cX7_buyers 41 = .ok (.ifCond .eq 10, 3) := by decide +kernel
theorem dX7_buyers_44 : decode cX7_buyers 44 = .ok (.iload_n 3, 1) := by decide +kernel
theorem dX7_buyers_45 : decode cX7_buyers 45 = .ok (.iconst 1, 1) := by decide +kernel
theorem dX7_buyers_46 : decode cX7_buyers 46 = .ok (.iload 4, 2) := by decide +kernel
theorem dX7_buyers_48 : decode cX7_buyers 48 = .ok (.ishl, 1) := by decide +kernel
theorem dX7_buyers_49 : decode cX7_buyers 49 = .ok (.ior, 1) := by decide +kernel
theorem dX7_buyers_50 : decode cX7_buyers 50 = .ok (.istore_n 3, 1) := by decide +kernel
theorem dX7_buyers_51 : decode cX7_buyers 51 = .ok (.iinc 4 1, 3) := by decide +kernel
theorem dX7_buyers_54 : decode cX7_buyers 54 = .ok (.goto (-36), 3) := by decide +kernel
theorem dX7_buyers_57 : decode cX7_buyers 57 = .ok (.iload_n 3, 1) := by decide +kernel
theorem dX7_buyers_58 : decode cX7_buyers 58 = .ok (.ireturn, 1) := by decide +kernel
theorem dX7_affords_0 : decode cX7_affords 0 = .ok (.aload_n 0, 1) := by decide +kernel
theorem dX7_affords_1 : decode cX7_affords 1 = .ok (.iload_n 1, 1) := by decide +kernel
theorem dX7_affords_2 : decode cX7_affords 2 = .ok (.invokevirtual 212, 3) := by decide +kernel
theorem dX7_affords_5 : decode cX7_affords 5 = .ok (.aload_n 0, 1) := by decide +kernel
theorem dX7_affords_6 : decode cX7_affords 6 = .ok (.getfield 54, 3) := by decide +kernel
theorem dX7_affords_9 : decode cX7_affords 9 = .ok (.iload_n 1, 1) := by decide +kernel
theorem dX7_affords_10 : decode cX7_affords 10 = .ok (.invokevirtual 215, 3) := by decide +kernel
theorem dX7_affords_13 : decode cX7_affords 13 = .ok (.ifCond .eq 5, 3) := by decide +kernel
theorem dX7_affords_16 : decode cX7_affords 16 = .ok (.iconst (-1), 1) := by decide +kernel
theorem dX7_affords_17 : decode cX7_affords 17 = .ok (.ireturn, 1) := by decide +kernel
theorem dX7_affords_18 : decode cX7_affords 18 = .ok (.iconst 0, 1) := by decide +kernel
theorem dX7_affords_19 : decode cX7_affords 19 = .ok (.istore_n 2, 1) := by decide +kernel
theorem dX7_affords_20 : decode cX7_affords 20 = .ok (.iconst 1, 1) := by decide +kernel
theorem dX7_affords_21 : decode cX7_affords 21 = .ok (.istore_n 3, 1) := by decide +kernel
theorem dX7_affords_22 : decode cX7_affords 22 = .ok (.iload_n 3, 1) := by decide +kernel
theorem dX7_affords_23 : decode cX7_affords 23 = .ok (.bipush 20, 2) := by decide +kernel
theorem dX7_affords_25 : decode cX7_affords 25 = .ok (.if_icmp .gt 23, 3) := by decide +kernel
theorem dX7_affords_28 : decode cX7_affords 28 = .ok (.aload_n 0, 1) := by decide +kernel
theorem dX7_affords_29 : decode cX7_affords 29 = .ok (.getfield 54, 3) := by decide +kernel
theorem dX7_affords_32 : decode cX7_affords 32 = .ok (.iload_n 1, 1) := by decide +kernel
theorem dX7_affords_33 : decode cX7_affords 33 = .ok (.iload_n 3, 1) := by decide +kernel
theorem dX7_affords_34 : decode cX7_affords 34 = .ok (.invokevirtual 280, 3) := by decide +kernel
theorem dX7_affords_37 : decode cX7_affords 37 = .ok (.ifCond .eq 5, 3) := by decide +kernel
theorem dX7_affords_40 : decode cX7_affords 40 = .ok (.iload_n 3, 1) := by decide +kernel
theorem dX7_affords_41 : decode cX7_affords 41 = .ok (.istore_n 2, 1) := by decide +kernel
theorem dX7_affords_42 : decode cX7_affords 42 = .ok (.iinc 3 1, 3) := by decide +kernel
theorem dX7_affords_45 : decode cX7_affords 45 = .ok (.goto (-23), 3) := by decide +kernel
theorem dX7_affords_48 : decode cX7_affords 48 = .ok (.iload_n 2, 1) := by decide +kernel
theorem dX7_affords_49 : decode cX7_affords 49 = .ok (.ireturn, 1) := by decide +kernel
theorem dX7_pitch_0 : decode cX7_pitch 0 = .ok (.aload_n 0, 1) := by decide +kernel
theorem dX7_pitch_1 : decode cX7_pitch 1 = .ok (.iload_n 1, 1) := by decide +kernel
theorem dX7_pitch_2 : decode cX7_pitch 2 = .ok (.iconst 1, 1) := by decide +kernel
theorem dX7_pitch_3 : decode cX7_pitch 3 = .ok (.bipush 20, 2) := by decide +kernel
theorem dX7_pitch_5 : decode cX7_pitch 5 = .ok (.invokevirtual 102, 3) := by decide +kernel
theorem dX7_pitch_8 : decode cX7_pitch 8 = .ok (.aload_n 0, 1) := by decide +kernel
theorem dX7_pitch_9 : decode cX7_pitch 9 = .ok (.iload_n 2, 1) := by decide +kernel
theorem dX7_pitch_10 : decode cX7_pitch 10 = .ok (.iconst 0, 1) := by decide +kernel
theorem dX7_pitch_11 : decode cX7_pitch 11 = .ok (.iconst 1, 1) := by decide +kernel
theorem dX7_pitch_12 : decode cX7_pitch 12 = .ok (.invokevirtual 102, 3) := by decide +kernel
theorem dX7_pitch_15 : decode cX7_pitch 15 = .ok (.iconst 0, 1) := by decide +kernel
theorem dX7_pitch_16 : decode cX7_pitch 16 = .ok (.istore_n 3, 1) := by decide +kernel
theorem dX7_pitch_17 : decode cX7_pitch 17 = .ok (.iconst (-1), 1) := by decide +kernel
theorem dX7_pitch_18 : decode cX7_pitch 18 = .ok (.istore 4, 2) := by decide +kernel
theorem dX7_pitch_20 : decode cX7_pitch 20 = .ok (.iconst 0, 1) := by decide +kernel
theorem dX7_pitch_21 : decode cX7_pitch 21 = .ok (.istore 5, 2) := by decide +kernel
theorem dX7_pitch_23 : decode cX7_pitch 23 = .ok (.iload 5, 2) := by decide +kernel
theorem dX7_pitch_25 : decode cX7_pitch 25 = .ok (.bipush 99, 2) := by decide +kernel
theorem dX7_pitch_27 : decode cX7_pitch 27 = .ok (.if_icmp .gt 40, 3) := by decide +kernel
theorem dX7_pitch_30 : decode cX7_pitch 30 = .ok (.aload_n 0, 1) := by decide +kernel
theorem dX7_pitch_31 : decode cX7_pitch 31 = .ok (.getfield 21, 3) := by decide +kernel
theorem dX7_pitch_34 : decode cX7_pitch 34 = .ok (.iload 5, 2) := by decide +kernel
theorem dX7_pitch_36 : decode cX7_pitch 36 = .ok (.iload_n 1, 1) := by decide +kernel
theorem dX7_pitch_37 : decode cX7_pitch 37 = .ok (.isub, 1) := by decide +kernel
theorem dX7_pitch_38 : decode cX7_pitch 38 = .ok (.iload 5, 2) := by decide +kernel
theorem dX7_pitch_40 : decode cX7_pitch 40 = .ok (.iload_n 1, 1) := by decide +kernel
theorem dX7_pitch_41 : decode cX7_pitch 41 = .ok (.iadd, 1) := by decide +kernel
theorem dX7_pitch_42 : decode cX7_pitch 42 = .ok (.invokevirtual 284, 3) := by decide +kernel
theorem dX7_pitch_45 : decode cX7_pitch 45 = .ok (.istore 6, 2) := by decide +kernel
theorem dX7_pitch_47 : decode cX7_pitch 47 = .ok (.iload 6, 2) := by decide +kernel
theorem dX7_pitch_49 : decode cX7_pitch 49 = .ok (.iload 4, 2) := by decide +kernel
theorem dX7_pitch_51 : decode cX7_pitch 51 = .ok (.if_icmp .le 10, 3) := by decide +kernel
theorem dX7_pitch_54 : decode cX7_pitch 54 = .ok (.iload 5, 2) := by decide +kernel
theorem dX7_pitch_56 : decode cX7_pitch 56 = .ok (.istore_n 3, 1) := by decide +kernel
theorem dX7_pitch_57 : decode cX7_pitch 57 = .ok (.iload 6, 2) := by decide +kernel
theorem dX7_pitch_59 : decode cX7_pitch 59 = .ok (.istore 4, 2) := by decide +kernel
theorem dX7_pitch_61 : decode cX7_pitch 61 = .ok (.iinc 5 1, 3) := by decide +kernel
theorem dX7_pitch_64 : decode cX7_pitch 64 = .ok (.goto (-41), 3) := by decide +kernel
theorem dX7_pitch_67 : decode cX7_pitch 67 = .ok (.iload_n 2, 1) := by decide +kernel
theorem dX7_pitch_68 : decode cX7_pitch 68 = .ok (.ifCond .ne 7, 3) := by decide +kernel
theorem dX7_pitch_71 : decode cX7_pitch 71 = .ok (.iload_n 3, 1) := by decide +kernel
theorem dX7_pitch_72 : decode cX7_pitch 72 = .ok (.goto 5, 3) := by decide +kernel
theorem dX7_pitch_75 : decode cX7_pitch 75 = .ok (.iload 4, 2) := by decide +kernel
theorem dX7_pitch_77 : decode cX7_pitch 77 = .ok (.ireturn, 1) := by decide +kernel
theorem dX7_street_0 : decode cX7_street 0 = .ok (.aload_n 0, 1) := by decide +kernel
theorem dX7_street_1 : decode cX7_street 1 = .ok (.iload_n 1, 1) := by decide +kernel
theorem dX7_street_2 : decode cX7_street 2 = .ok (.iconst 1, 1) := by decide +kernel
theorem dX7_street_3 : decode cX7_street 3 = .ok (.bipush 20, 2) := by decide +kernel
theorem dX7_street_5 : decode cX7_street 5 = .ok (.invokevirtual 102, 3) := by decide +kernel
theorem dX7_street_8 : decode cX7_street 8 = .ok (.aload_n 0, 1) := by decide +kernel
theorem dX7_street_9 : decode cX7_street 9 = .ok (.iload_n 2, 1) := by decide +kernel
theorem dX7_street_10 : decode cX7_street 10 = .ok (.iconst 0, 1) := by decide +kernel
theorem dX7_street_11 : decode cX7_street 11 = .ok (.bipush 8, 2) := by decide +kernel
theorem dX7_street_13 : decode cX7_street 13 = .ok (.invokevirtual 102, 3) := by decide +kernel
theorem dX7_street_16 : decode cX7_street 16 = .ok (.aload_n 0, 1) := by decide +kernel
theorem dX7_street_17 : decode cX7_street 17 = .ok (.getfield 21, 3) := by decide +kernel
theorem dX7_street_20 : decode cX7_street 20 = .ok (.iconst 0, 1) := by decide +kernel
theorem dX7_street_21 : decode cX7_street 21 = .ok (.iconst 2, 1) := by decide +kernel
theorem dX7_street_22 : decode cX7_street 22 = .ok (.iload_n 1, 1) := by decide +kernel
theorem dX7_street_23 : decode cX7_street 23 = .ok (.imul, 1) := by decide +kernel
theorem dX7_street_24 : decode cX7_street 24 = .ok (.iload_n 2, 1) := by decide +kernel
theorem dX7_street_25 : decode cX7_street 25 = .ok (.invokevirtual 287, 3) := by decide +kernel
theorem dX7_street_28 : decode cX7_street 28 = .ok (.ireturn, 1) := by decide +kernel
theorem dX7_fits_0 : decode cX7_fits 0 = .ok (.aload_n 0, 1) := by decide +kernel
theorem dX7_fits_1 : decode cX7_fits 1 = .ok (.iload_n 1, 1) := by decide +kernel
theorem dX7_fits_2 : decode cX7_fits 2 = .ok (.iconst 0, 1) := by decide +kernel
theorem dX7_fits_3 : decode cX7_fits 3 = .ok (.iconst 1, 1) := by decide +kernel
theorem dX7_fits_4 : decode cX7_fits 4 = .ok (.invokevirtual 102, 3) := by decide +kernel
theorem dX7_fits_7 : decode cX7_fits 7 = .ok (.iconst 0, 1) := by decide +kernel
theorem dX7_fits_8 : decode cX7_fits 8 = .ok (.istore_n 2, 1) := by decide +kernel
theorem dX7_fits_9 : decode cX7_fits 9 = .ok (.iconst (-1), 1) := by decide +kernel
theorem dX7_fits_10 : decode cX7_fits 10 = .ok (.istore_n 3, 1) := by decide +kernel
theorem dX7_fits_11 : decode cX7_fits 11 = .ok (.iconst 0, 1) := by decide +kernel
theorem dX7_fits_12 : decode cX7_fits 12 = .ok (.istore 4, 2) := by decide +kernel
theorem dX7_fits_14 : decode cX7_fits 14 = .ok (.iload 4, 2) := by decide +kernel
theorem dX7_fits_16 : decode cX7_fits 16 = .ok (.aload_n 0, 1) := by decide +kernel
theorem dX7_fits_17 : decode cX7_fits 17 = .ok (.getfield 21, 3) := by decide +kernel
theorem dX7_fits_20 : decode cX7_fits 20 = .ok (.getfield 131, 3) := by decide +kernel
theorem dX7_fits_23 : decode cX7_fits 23 = .ok (.if_icmp .ge 56, 3) := by decide +kernel
theorem dX7_fits_26 : decode cX7_fits 26 = .ok (.iconst 1, 1) := by decide +kernel
theorem dX7_fits_27 : decode cX7_fits 27 = .ok (.istore 5, 2) := by decide +kernel
theorem dX7_fits_29 : decode cX7_fits 29 = .ok (.iload 5, 2) := by decide +kernel
theorem dX7_fits_31 : decode cX7_fits 31 = .ok (.bipush 20, 2) := by decide +kernel
theorem dX7_fits_33 : decode cX7_fits 33 = .ok (.if_icmp .gt 40, 3) := by decide +kernel
theorem dX7_fits_36 : decode cX7_fits 36 = .ok (.aload_n 0, 1) := by decide +kernel
theorem dX7_fits_37 : decode cX7_fits 37 = .ok (.iload 4, 2) := by decide +kernel
theorem dX7_fits_39 : decode cX7_fits 39 = .ok (.iload 5, 2) := by decide +kernel
theorem dX7_fits_41 : decode cX7_fits 41 = .ok (.invokevirtual 291, 3) := by decide +kernel
theorem dX7_fits_44 : decode cX7_fits 44 = .ok (.ifCond .eq 23, 3) := by decide +kernel
theorem dX7_fits_47 : decode cX7_fits 47 = .ok (.iload_n 2, 1) := by decide +kernel
theorem dX7_fits_48 : decode cX7_fits 48 = .ok (.ifCond .ne 14, 3) := by decide +kernel
theorem dX7_fits_51 : decode cX7_fits 51 = .ok (.bipush 100, 2) := by decide +kernel
theorem dX7_fits_53 : decode cX7_fits 53 = .ok (.iload 4, 2) := by decide +kernel
theorem dX7_fits_55 : decode cX7_fits 55 = .ok (.imul, 1) := by decide +kernel
theorem dX7_fits_56 : decode cX7_fits 56 = .ok (.iload 5, 2) := by decide +kernel
theorem dX7_fits_58 : decode cX7_fits 58 = .ok (.iadd, 1) := by decide +kernel
theorem dX7_fits_59 : decode cX7_fits 59 = .ok (.goto 4, 3) := by decide +kernel
theorem dX7_fits_62 : decode cX7_fits 62 = .ok (.iload_n 3, 1) := by decide +kernel
theorem dX7_fits_63 : decode cX7_fits 63 = .ok (.istore_n 3, 1) := by decide +kernel
theorem dX7_fits_64 : decode cX7_fits 64 = .ok (.iinc 2 1, 3) := by decide +kernel
theorem dX7_fits_67 : decode cX7_fits 67 = .ok (.iinc 5 1, 3) := by decide +kernel
theorem dX7_fits_70 : decode cX7_fits 70 = .ok (.goto (-41), 3) := by decide +kernel
theorem dX7_fits_73 : decode cX7_fits 73 = .ok (.iinc 4 1, 3) := by decide +kernel
theorem dX7_fits_76 : decode cX7_fits 76 = .ok (.goto (-62), 3) := by decide +kernel
theorem dX7_fits_79 : decode cX7_fits 79 = .ok (.iload_n 1, 1) := by decide +kernel
theorem dX7_fits_80 : decode cX7_fits 80 = .ok (.ifCond .ne 7, 3) := by decide +kernel
theorem dX7_fits_83 : decode cX7_fits 83 = .ok (.iload_n 2, 1) := by decide +kernel
theorem dX7_fits_84 : decode cX7_fits 84 = .ok (.goto 4, 3) := by decide +kernel
theorem dX7_fits_87 : decode cX7_fits 87 = .ok (.iload_n 3, 1) := by decide +kernel
theorem dX7_fits_88 : decode cX7_fits 88 = .ok (.ireturn, 1) := by decide +kernel
theorem dX7_look_0 : decode cX7_look 0 = .ok (.aload_n 0, 1) := by decide +kernel
theorem dX7_look_1 : decode cX7_look 1 = .ok (.iload_n 1, 1) := by decide +kernel
theorem dX7_look_2 : decode cX7_look 2 = .ok (.iconst 0, 1) := by decide +kernel
theorem dX7_look_3 : decode cX7_look 3 = .ok (.iconst 1, 1) := by decide +kernel
theorem dX7_look_4 : decode cX7_look 4 = .ok (.invokevirtual 102, 3) := by decide +kernel
theorem dX7_look_7 : decode cX7_look 7 = .ok (.aload_n 0, 1) := by decide +kernel
theorem dX7_look_8 : decode cX7_look 8 = .ok (.invokevirtual 294, 3) := by decide +kernel
theorem dX7_look_11 : decode cX7_look 11 = .ok (.iconst (-1), 1) := by decide +kernel
theorem dX7_look_12 : decode cX7_look 12 = .ok (.istore_n 2, 1) := by decide +kernel
theorem dX7_look_13 : decode cX7_look 13 = .ok (.iconst (-1), 1) := by decide +kernel
theorem dX7_look_14 : decode cX7_look 14 = .ok (.istore_n 3, 1) := by decide +kernel
theorem dX7_look_15 : decode cX7_look 15 = .ok (.iconst 0, 1) := by decide +kernel
theorem dX7_look_16 : decode cX7_look 16 = .ok (.istore 4, 2) := by decide +kernel
theorem dX7_look_18 : decode cX7_look 18 = .ok (.iload 4, 2) := by decide +kernel
theorem dX7_look_20 : decode cX7_look 20 = .ok (.aload_n 0, 1) := by decide +kernel
theorem dX7_look_21 : decode cX7_look 21 = .ok (.getfield 21, 3) := by decide +kernel
theorem dX7_look_24 : decode cX7_look 24 = .ok (.getfield 162, 3) := by decide +kernel
theorem dX7_look_27 : decode cX7_look 27 = .ok (.if_icmp .ge 48, 3) := by decide +kernel
theorem dX7_look_30 : decode cX7_look 30 = .ok (.aload_n 0, 1) := by decide +kernel
theorem dX7_look_31 : decode cX7_look 31 = .ok (.iload 4, 2) := by decide +kernel
theorem dX7_look_33 : decode cX7_look 33 = .ok (.invokevirtual 297, 3) := by decide +kernel
theorem dX7_look_36 : decode cX7_look 36 = .ok (.istore 5, 2) := by decide +kernel
theorem dX7_look_38 : decode cX7_look 38 = .ok (.aload_n 0, 1) := by decide +kernel
theorem dX7_look_39 : decode cX7_look 39 = .ok (.getfield 38, 3) := by decide +kernel
theorem dX7_look_42 : decode cX7_look 42 = .ok (.getfield 300, 3) := by decide +kernel
theorem dX7_look_45 : decode cX7_look 45 = .ok (.iload 4, 2) := by decide +kernel
theorem dX7_look_47 : decode cX7_look 47 = .ok (.iaload, 1) := by decide +kernel
theorem dX7_look_48 : decode cX7_look 48 = .ok (.iconst (-1), 1) := by decide +kernel
theorem dX7_look_49 : decode cX7_look 49 = .ok (.if_icmp .ne 20, 3) := by decide +kernel
theorem dX7_look_52 : decode cX7_look 52 = .ok (.iload_n 2, 1) := by decide +kernel
theorem dX7_look_53 : decode cX7_look 53 = .ok (.iconst (-1), 1) := by decide +kernel
theorem dX7_look_54 : decode cX7_look 54 = .ok (.if_icmp .eq 9, 3) := by decide +kernel
theorem dX7_look_57 : decode cX7_look 57 = .ok (.iload 5, 2) := by decide +kernel
theorem dX7_look_59 : decode cX7_look 59 = .ok (.iload_n 3, 1) := by decide +kernel
theorem dX7_look_60 : decode cX7_look 60 = .ok (.if_icmp .ge 9, 3) := by decide +kernel
theorem dX7_look_63 : decode cX7_look 63 = .ok (.iload 4, 2) := by decide +kernel
theorem dX7_look_65 : decode cX7_look 65 = .ok (.istore_n 2, 1) := by decide +kernel
theorem dX7_look_66 : decode cX7_look 66 = .ok (.iload 5, 2) := by decide +kernel
theorem dX7_look_68 : decode cX7_look 68 = .ok (.istore_n 3, 1) := by decide +kernel
theorem dX7_look_69 : decode cX7_look 69 = .ok (.iinc 4 1, 3) := by decide +kernel
theorem dX7_look_72 : decode cX7_look 72 = .ok (.goto (-54), 3) := by decide +kernel
theorem dX7_look_75 : decode cX7_look 75 = .ok (.iload_n 1, 1) := by decide +kernel
theorem dX7_look_76 : decode cX7_look 76 = .ok (.ifCond .ne 7, 3) := by decide +kernel
theorem dX7_look_79 : decode cX7_look 79 = .ok (.iload_n 2, 1) := by decide +kernel
theorem dX7_look_80 : decode cX7_look 80 = .ok (.goto 4, 3) := by decide +kernel
theorem dX7_look_83 : decode cX7_look 83 = .ok (.iload_n 3, 1) := by decide +kernel
theorem dX7_look_84 : decode cX7_look 84 = .ok (.ireturn, 1) := by decide +kernel
theorem dX7_tryPair_0 : decode cX7_tryPair 0 = .ok (.aload_n 0, 1) := by decide +kernel
theorem dX7_tryPair_1 : decode cX7_tryPair 1 = .ok (.getfield 58, 3) := by decide +kernel
theorem dX7_tryPair_4 : decode cX7_tryPair 4 = .ok (.aload_n 0, 1) := by decide +kernel
theorem dX7_tryPair_5 : decode cX7_tryPair 5 = .ok (.getfield 54, 3) := by decide +kernel
theorem dX7_tryPair_8 : decode cX7_tryPair 8 = .ok (.invokevirtual 259, 3) := by decide +kernel
theorem dX7_tryPair_11 : decode cX7_tryPair 11 = .ok (.aload_n 0, 1) := by decide +kernel
theorem dX7_tryPair_12 : decode cX7_tryPair 12 = .ok (.getfield 58, 3) := by decide +kernel
theorem dX7_tryPair_15 : decode cX7_tryPair 15 = .ok (.iload_n 1, 1) := by decide +kernel
theorem dX7_tryPair_16 : decode cX7_tryPair 16 = .ok (.iload_n 2, 1) := by decide +kernel
theorem dX7_tryPair_17 : decode cX7_tryPair 17 = .ok (.invokevirtual 303, 3) := by decide +kernel
theorem dX7_tryPair_20 : decode cX7_tryPair 20 = .ok (.pop, 1) := by decide +kernel
theorem dX7_tryPair_21 : decode cX7_tryPair 21 = .ok (.aload_n 0, 1) := by decide +kernel
theorem dX7_tryPair_22 : decode cX7_tryPair 22 = .ok (.getfield 38, 3) := by decide +kernel
theorem dX7_tryPair_25 : decode cX7_tryPair 25 = .ok (.aload_n 0, 1) := by decide +kernel
theorem dX7_tryPair_26 : decode cX7_tryPair 26 = .ok (.getfield 58, 3) := by decide +kernel
theorem dX7_tryPair_29 : decode cX7_tryPair 29 = .ok (.aload_n 0, 1) := by decide +kernel
theorem dX7_tryPair_30 : decode cX7_tryPair 30 = .ok (.getfield 21, 3) := by decide +kernel
theorem dX7_tryPair_33 : decode cX7_tryPair 33 = .ok (.getfield 162, 3) := by decide +kernel
theorem dX7_tryPair_36 : decode cX7_tryPair 36 = .ok (.invokevirtual 306, 3) := by decide +kernel
theorem dX7_tryPair_39 : decode cX7_tryPair 39 = .ok (.ireturn, 1) := by decide +kernel
theorem dX7_tallyOwners_0 : decode cX7_tallyOwners 0 = .ok (.aload_n 0, 1) := by decide +kernel
theorem dX7_tallyOwners_1 : decode cX7_tallyOwners 1 = .ok (.getfield 72, 3) := by decide +kernel
theorem dX7_tallyOwners_4 : decode cX7_tallyOwners 4 = .ok (.iconst 0, 1) := by decide +kernel
theorem dX7_tallyOwners_5 : decode cX7_tallyOwners 5 = .ok (.invokestatic 310, 3) := by decide +kernel
theorem dX7_tallyOwners_8 : decode cX7_tallyOwners 8 = .ok (.iconst 0, 1) := by decide +kernel
theorem dX7_tallyOwners_9 : decode cX7_tallyOwners 9 = .ok (.istore_n 1, 1) := by decide +kernel
theorem dX7_tallyOwners_10 : decode cX7_tallyOwners 10 = .ok (.iload_n 1, 1) := by decide +kernel
theorem dX7_tallyOwners_11 : decode cX7_tallyOwners 11 = .ok (.aload_n 0, 1) := by decide +kernel
theorem dX7_tallyOwners_12 : decode cX7_tallyOwners 12 = .ok (.getfield 21, 3) := by decide +kernel
theorem dX7_tallyOwners_15 : decode cX7_tallyOwners 15 = .ok (.getfield 131, 3) := by decide +kernel
theorem dX7_tallyOwners_18 : decode cX7_tallyOwners 18 = .ok (.if_icmp .ge 36, 3) := by decide +kernel
theorem dX7_tallyOwners_21 : decode cX7_tallyOwners 21 = .ok (.iconst 1, 1) := by decide +kernel
theorem dX7_tallyOwners_22 : decode cX7_tallyOwners 22 = .ok (.istore_n 2, 1) := by decide +kernel
theorem dX7_tallyOwners_23 : decode cX7_tallyOwners 23 = .ok (.iload_n 2, 1) := by decide +kernel
theorem dX7_tallyOwners_24 : decode cX7_tallyOwners 24 = .ok (.bipush 20, 2) := by decide +kernel
theorem dX7_tallyOwners_26 : decode cX7_tallyOwners 26 = .ok (.if_icmp .gt 22, 3) := by decide +kernel
theorem dX7_tallyOwners_29 : decode cX7_tallyOwners 29 = .ok (.aload_n 0, 1) := by decide +kernel
theorem dX7_tallyOwners_30 : decode cX7_tallyOwners 30 = .ok (.iload_n 1, 1) := by decide +kernel
theorem dX7_tallyOwners_31 : decode cX7_tallyOwners 31 = .ok (.iload_n 2, 1) := by decide +kernel
theorem dX7_tallyOwners_32 : decode cX7_tallyOwners 32 = .ok (.invokevirtual 291, 3) := by decide +kernel
theorem dX7_tallyOwners_35 : decode cX7_tallyOwners 35 = .ok (.ifCond .eq 7, 3) := by decide +kernel
theorem dX7_tallyOwners_38 : decode cX7_tallyOwners 38 = .ok (.aload_n 0, 1) := by decide +kernel
theorem dX7_tallyOwners_39 : decode cX7_tallyOwners 39 = .ok (.invokevirtual 316, 3) := by decide +kernel
theorem dX7_tallyOwners_42 : decode cX7_tallyOwners 42 = .ok (.iinc 2 1, 3) := by decide +kernel
theorem dX7_tallyOwners_45 : decode cX7_tallyOwners 45 = .ok (.goto (-22), 3) := by decide +kernel
theorem dX7_tallyOwners_48 : decode cX7_tallyOwners 48 = .ok (.iinc 1 1, 3) := by decide +kernel
theorem dX7_tallyOwners_51 : decode cX7_tallyOwners 51 = .ok (.goto (-41), 3) := by decide +kernel
theorem dX7_tallyOwners_54 : decode cX7_tallyOwners 54 = .ok (.return_, 1) := by decide +kernel
theorem dX7_tallyTrial_0 : decode cX7_tallyTrial 0 = .ok (.iconst 0, 1) := by decide +kernel
theorem dX7_tallyTrial_1 : decode cX7_tallyTrial 1 = .ok (.istore_n 1, 1) := by decide +kernel
theorem dX7_tallyTrial_2 : decode cX7_tallyTrial 2 = .ok (.iload_n 1, 1) := by decide +kernel
theorem dX7_tallyTrial_3 : decode cX7_tallyTrial 3 = .ok (.aload_n 0, 1) := by decide +kernel
theorem dX7_tallyTrial_4 : decode cX7_tallyTrial 4 = .ok (.getfield 21, 3) := by decide +kernel
theorem dX7_tallyTrial_7 : decode cX7_tallyTrial 7 = .ok (.getfield 162, 3) := by decide +kernel
theorem dX7_tallyTrial_10 : decode cX7_tallyTrial 10 = .ok (.if_icmp .ge 31, 3) := by decide +kernel
theorem dX7_tallyTrial_13 : decode cX7_tallyTrial 13 = .ok (.aload_n 0, 1) := by decide +kernel
theorem dX7_tallyTrial_14 : decode cX7_tallyTrial 14 = .ok (.getfield 72, 3) := by decide +kernel
theorem dX7_tallyTrial_17 : decode cX7_tallyTrial 17 = .ok (.iload_n 1, 1) := by decide +kernel
theorem dX7_tallyTrial_18 : decode cX7_tallyTrial 18 = .ok (.bipush 6, 2) := by decide +kernel
theorem dX7_tallyTrial_20 : decode cX7_tallyTrial 20 = .ok (.imul, 1) := by decide +kernel
theorem dX7_tallyTrial_21 : decode cX7_tallyTrial 21 = .ok (.aload_n 0, 1) := by decide +kernel
theorem dX7_tallyTrial_22 : decode cX7_tallyTrial 22 = .ok (.getfield 58, 3) := by decide +kernel
theorem dX7_tallyTrial_25 : decode cX7_tallyTrial 25 = .ok (.iload_n 1, 1) := by decide +kernel
theorem dX7_tallyTrial_26 : decode cX7_tallyTrial 26 = .ok (.invokevirtual 319, 3) := by decide +kernel
theorem dX7_tallyTrial_29 : decode cX7_tallyTrial 29 = .ok (.iadd, 1) := by decide +kernel
theorem dX7_tallyTrial_30 : decode cX7_tallyTrial 30 = .ok (.dup2, 1) := by decide +kernel
theorem dX7_tallyTrial_31 : decode cX7_tallyTrial 31 = .ok (.iaload, 1) := by decide +kernel
theorem dX7_tallyTrial_32 : decode cX7_tallyTrial 32 = .ok (.iconst 1, 1) := by decide +kernel
theorem dX7_tallyTrial_33 : decode cX7_tallyTrial 33 = .ok (.iadd, 1) := by decide +kernel
theorem dX7_tallyTrial_34 : decode cX7_tallyTrial 34 = .ok (.iastore, 1) := by decide +kernel
theorem dX7_tallyTrial_35 : decode cX7_tallyTrial 35 = .ok (.iinc 1 1, 3) := by decide +kernel
theorem dX7_tallyTrial_38 : decode cX7_tallyTrial 38 = .ok (.goto (-36), 3) := by decide +kernel
theorem dX7_tallyTrial_41 : decode cX7_tallyTrial 41 = .ok (.return_, 1) := by decide +kernel
theorem dX7_worstLeft_0 : decode cX7_worstLeft 0 = .ok (.iconst 0, 1) := by decide +kernel
theorem dX7_worstLeft_1 : decode cX7_worstLeft 1 = .ok (.istore_n 2, 1) := by decide +kernel
theorem dX7_worstLeft_2 : decode cX7_worstLeft 2 = .ok (.iconst 0, 1) := by decide +kernel
theorem dX7_worstLeft_3 : decode cX7_worstLeft 3 = .ok (.istore_n 3, 1) := by decide +kernel
theorem dX7_worstLeft_4 : decode cX7_worstLeft 4 = .ok (.iload_n 3, 1) := by decide +kernel
theorem dX7_worstLeft_5 : decode cX7_worstLeft 5 = .ok (.iconst 5, 1) := by decide +kernel
theorem dX7_worstLeft_6 : decode cX7_worstLeft 6 = .ok (.if_icmp .gt 25, 3) := by decide +kernel
theorem dX7_worstLeft_9 : decode cX7_worstLeft 9 = .ok (.iload_n 2, 1) := by decide +kernel
theorem dX7_worstLeft_10 : decode cX7_worstLeft 10 = .ok (.aload_n 0, 1) := by decide +kernel
theorem dX7_worstLeft_11 : decode cX7_worstLeft 11 = .ok (.getfield 72, 3) := by decide +kernel
theorem dX7_worstLeft_14 : decode cX7_worstLeft 14 = .ok (.iload_n 1, 1) := by decide +kernel
theorem dX7_worstLeft_15 : decode cX7_worstLeft 15 = .ok (.bipush 6, 2) := by decide +kernel
theorem dX7_worstLeft_17 : decode cX7_worstLeft 17 = .ok (.imul, 1) := by decide +kernel
theorem dX7_worstLeft_18 : decode cX7_worstLeft 18 = .ok (.iload_n 3, 1) := by decide +kernel
theorem dX7_worstLeft_19 : decode cX7_worstLeft 19 = .ok (.iadd, 1) := by decide +kernel
theorem dX7_worstLeft_20 : decode cX7_worstLeft 20 = .ok (.iaload, 1) := by decide +kernel
theorem dX7_worstLeft_21 : decode cX7_worstLeft 21 = .ok (.invokestatic 273, 3) := by decide +kernel
theorem dX7_worstLeft_24 : decode cX7_worstLeft 24 = .ok (.istore_n 2, 1) := by decide +kernel
theorem dX7_worstLeft_25 : decode cX7_worstLeft 25 = .ok (.iinc 3 1, 3) := by decide +kernel
theorem dX7_worstLeft_28 : decode cX7_worstLeft 28 = .ok (.goto (-24), 3) := by decide +kernel
theorem dX7_worstLeft_31 : decode cX7_worstLeft 31 = .ok (.iload_n 2, 1) := by decide +kernel
theorem dX7_worstLeft_32 : decode cX7_worstLeft 32 = .ok (.ireturn, 1) := by decide +kernel
theorem dX7_stands_0 : decode cX7_stands 0 = .ok (.aload_n 0, 1) := by decide +kernel
theorem dX7_stands_1 : decode cX7_stands 1 = .ok (.iload_n 1, 1) := by decide +kernel
theorem dX7_stands_2 : decode cX7_stands 2 = .ok (.iconst 0, 1) := by decide +kernel
theorem dX7_stands_3 : decode cX7_stands 3 = .ok (.bipush 12, 2) := by decide +kernel
theorem dX7_stands_5 : decode cX7_stands 5 = .ok (.invokevirtual 102, 3) := by decide +kernel
theorem dX7_stands_8 : decode cX7_stands 8 = .ok (.aload_n 0, 1) := by decide +kernel
theorem dX7_stands_9 : decode cX7_stands 9 = .ok (.iload_n 2, 1) := by decide +kernel
theorem dX7_stands_10 : decode cX7_stands 10 = .ok (.iconst 0, 1) := by decide +kernel
theorem dX7_stands_11 : decode cX7_stands 11 = .ok (.bipush 16, 2) := by decide +kernel
theorem dX7_stands_13 : decode cX7_stands 13 = .ok (.invokevirtual 102, 3) := by decide +kernel
theorem dX7_stands_16 : decode cX7_stands 16 = .ok (.aload_n 0, 1) := by decide +kernel
theorem dX7_stands_17 : decode cX7_stands 17 = .ok (.iload_n 3, 1) := by decide +kernel
theorem dX7_stands_18 : decode cX7_stands 18 = .ok (.iconst 0, 1) := by decide +kernel
theorem dX7_stands_19 : decode cX7_stands 19 = .ok (.iconst 1, 1) := by decide +kernel
theorem dX7_stands_20 : decode cX7_stands 20 = .ok (.invokevirtual 102, 3) := by decide +kernel
theorem dX7_stands_23 : decode cX7_stands 23 = .ok (.bipush 16, 2) := by decide +kernel
theorem dX7_stands_25 : decode cX7_stands 25 = .ok (.iload_n 2, 1) := by decide +kernel
theorem dX7_stands_26 : decode cX7_stands 26 = .ok (.isub, 1) := by decide +kernel
theorem dX7_stands_27 : decode cX7_stands 27 = .ok (.i2l, 1) := by decide +kernel
theorem dX7_stands_28 : decode cX7_stands 28 = .ok (.iload_n 1, 1) := by decide +kernel
theorem dX7_stands_29 : decode cX7_stands 29 = .ok (.invokestatic 322, 3) := by decide +kernel
theorem dX7_stands_32 : decode cX7_stands 32 = .ok (.ldc2_w 326, 3) := by decide +kernel
theorem dX7_stands_35 : decode cX7_stands 35 = .ok (.iload_n 1, 1) := by decide +kernel
theorem dX7_stands_36 : decode cX7_stands 36 = .ok (.invokestatic 322, 3) := by decide +kernel
theorem dX7_stands_39 : decode cX7_stands 39 = .ok (.iload_n 3, 1) := by decide +kernel
theorem dX7_stands_40 : decode cX7_stands 40 = .ok (.invokestatic 247, 3) := by decide +kernel
theorem dX7_stands_43 : decode cX7_stands 43 = .ok (.lreturn, 1) := by decide +kernel
theorem dX7_mean_0 : decode cX7_mean 0 = .ok (.aload_n 0, 1) := by decide +kernel
theorem dX7_mean_1 : decode cX7_mean 1 = .ok (.iload_n 1, 1) := by decide +kernel
theorem dX7_mean_2 : decode cX7_mean 2 = .ok (.iconst 0, 1) := by decide +kernel
theorem dX7_mean_3 : decode cX7_mean 3 = .ok (.bipush 12, 2) := by decide +kernel
theorem dX7_mean_5 : decode cX7_mean 5 = .ok (.invokevirtual 102, 3) := by decide +kernel
theorem dX7_mean_8 : decode cX7_mean 8 = .ok (.aload_n 0, 1) := by decide +kernel
theorem dX7_mean_9 : decode cX7_mean 9 = .ok (.iload_n 2, 1) := by decide +kernel
theorem dX7_mean_10 : decode cX7_mean 10 = .ok (.iconst 0, 1) := by decide +kernel
theorem dX7_mean_11 : decode cX7_mean 11 = .ok (.bipush 16, 2) := by decide +kernel
theorem dX7_mean_13 : decode cX7_mean 13 = .ok (.invokevirtual 102, 3) := by decide +kernel
theorem dX7_mean_16 : decode cX7_mean 16 = .ok (.aload_n 0, 1) := by decide +kernel
theorem dX7_mean_17 : decode cX7_mean 17 = .ok (.iload_n 3, 1) := by decide +kernel
theorem dX7_mean_18 : decode cX7_mean 18 = .ok (.iconst 0, 1) := by decide +kernel
theorem dX7_mean_19 : decode cX7_mean 19 = .ok (.iconst 1, 1) := by decide +kernel
theorem dX7_mean_20 : decode cX7_mean 20 = .ok (.invokevirtual 102, 3) := by decide +kernel
theorem dX7_mean_23 : decode cX7_mean 23 = .ok (.lconst 0, 1) := by decide +kernel
theorem dX7_mean_24 : decode cX7_mean 24 = .ok (.lstore 4, 2) := by decide +kernel
theorem dX7_mean_26 : decode cX7_mean 26 = .ok (.iconst 1, 1) := by decide +kernel
theorem dX7_mean_27 : decode cX7_mean 27 = .ok (.istore 6, 2) := by decide +kernel
theorem dX7_mean_29 : decode cX7_mean 29 = .ok (.iload 6, 2) := by decide +kernel
theorem dX7_mean_31 : decode cX7_mean 31 = .ok (.iload_n 1, 1) := by decide +kernel
theorem dX7_mean_32 : decode cX7_mean 32 = .ok (.if_icmp .gt 35, 3) := by decide +kernel
theorem dX7_mean_35 : decode cX7_mean 35 = .ok (.lload 4, 2) := by decide +kernel
theorem dX7_mean_37 : decode cX7_mean 37 = .ok (.bipush 16, 2) := by decide +kernel
theorem dX7_mean_39 : decode cX7_mean 39 = .ok (.iload_n 2, 1) := by decide +kernel
theorem dX7_mean_40 : decode cX7_mean 40 = .ok (.isub, 1) := by decide +kernel
theorem dX7_mean_41 : decode cX7_mean 41 = .ok (.i2l, 1) := by decide +kernel
theorem dX7_mean_42 : decode cX7_mean 42 = .ok (.iload 6, 2) := by decide +kernel
theorem dX7_mean_44 : decode cX7_mean 44 = .ok (.invokestatic 322, 3) := by decide +kernel
theorem dX7_mean_47 : decode cX7_mean 47 = .ok (.ldc2_w 326, 3) := by decide +kernel
theorem dX7_mean_50 : decode cX7_mean 50 = .ok (.iload_n 1, 1) := by decide +kernel
theorem dX7_mean_51 : decode cX7_mean 51 = .ok (.iload 6, 2) := by decide +kernel
theorem dX7_mean_53 : decode cX7_mean 53 = .ok (.isub, 1) := by decide +kernel
theorem dX7_mean_54 : decode cX7_mean 54 = .ok (.invokestatic 322, 3) := by decide +kernel
theorem dX7_mean_57 : decode cX7_mean 57 = .ok (.lmul, 1) := by decide +kernel
theorem dX7_mean_58 : decode cX7_mean 58 = .ok (.ladd, 1) := by decide +kernel
theorem dX7_mean_59 : decode cX7_mean 59 = .ok (.lstore 4, 2) := by decide +kernel
theorem dX7_mean_61 : decode cX7_mean 61 = .ok (.iinc 6 1, 3) := by decide +kernel
theorem dX7_mean_64 : decode cX7_mean 64 = .ok (.goto (-35), 3) := by decide +kernel
theorem dX7_mean_67 : decode cX7_mean 67 = .ok (.lload 4, 2) := by decide +kernel
theorem dX7_mean_69 : decode cX7_mean 69 = .ok (.ldc2_w 326, 3) := by decide +kernel
theorem dX7_mean_72 : decode cX7_mean 72 = .ok (.iload_n 1, 1) := by decide +kernel
theorem dX7_mean_73 : decode cX7_mean 73 = .ok (.invokestatic 322, 3) := by decide +kernel
theorem dX7_mean_76 : decode cX7_mean 76 = .ok (.iload_n 3, 1) := by decide +kernel
theorem dX7_mean_77 : decode cX7_mean 77 = .ok (.invokestatic 247, 3) := by decide +kernel
theorem dX7_mean_80 : decode cX7_mean 80 = .ok (.lreturn, 1) := by decide +kernel
theorem dX7_sure_0 : decode cX7_sure 0 = .ok (.aload_n 0, 1) := by decide +kernel
theorem dX7_sure_1 : decode cX7_sure 1 = .ok (.iload_n 1, 1) := by decide +kernel
theorem dX7_sure_2 : decode cX7_sure 2 = .ok (.iconst 0, 1) := by decide +kernel
theorem dX7_sure_3 : decode cX7_sure 3 = .ok (.sipush 999, 3) := by decide +kernel
theorem dX7_sure_6 : decode cX7_sure 6 = .ok (.invokevirtual 102, 3) := by decide +kernel
theorem dX7_sure_9 : decode cX7_sure 9 = .ok (.getstatic 328, 3) := by decide +kernel
theorem dX7_sure_12 : decode cX7_sure 12 = .ok (.iload_n 1, 1) := by decide +kernel
theorem dX7_sure_13 : decode cX7_sure 13 = .ok (.bipush 7, 2) := by decide +kernel
theorem dX7_sure_15 : decode cX7_sure 15 = .ok (.irem, 1) := by decide +kernel
theorem dX7_sure_16 : decode cX7_sure 16 = .ok (.iaload, 1) := by decide +kernel
theorem dX7_sure_17 : decode cX7_sure 17 = .ok (.ireturn, 1) := by decide +kernel
theorem dX7_pay_0 : decode cX7_pay 0 = .ok (.aload_n 0, 1) := by decide +kernel
theorem dX7_pay_1 : decode cX7_pay 1 = .ok (.iload_n 1, 1) := by decide +kernel
theorem dX7_pay_2 : decode cX7_pay 2 = .ok (.iconst 0, 1) := by decide +kernel
theorem dX7_pay_3 : decode cX7_pay 3 = .ok (.bipush 99, 2) := by decide +kernel
theorem dX7_pay_5 : decode cX7_pay 5 = .ok (.invokevirtual 102, 3) := by decide +kernel
theorem dX7_pay_8 : decode cX7_pay 8 = .ok (.aload_n 0, 1) := by decide +kernel
theorem dX7_pay_9 : decode cX7_pay 9 = .ok (.iload_n 2, 1) := by decide +kernel
theorem dX7_pay_10 : decode cX7_pay 10 = .ok (.iconst 0, 1) := by decide +kernel
theorem dX7_pay_11 : decode cX7_pay 11 = .ok (.bipush 99, 2) := by decide +kernel
theorem dX7_pay_13 : decode cX7_pay 13 = .ok (.invokevirtual 102, 3) := by decide +kernel
theorem dX7_pay_16 : decode cX7_pay 16 = .ok (.aload_n 0, 1) := by decide +kernel
theorem dX7_pay_17 : decode cX7_pay 17 = .ok (.iload_n 3, 1) := by decide +kernel
theorem dX7_pay_18 : decode cX7_pay 18 = .ok (.iconst 0, 1) := by decide +kernel
theorem dX7_pay_19 : decode cX7_pay 19 = .ok (.iconst 2, 1) := by decide +kernel
theorem dX7_pay_20 : decode cX7_pay 20 = .ok (.invokevirtual 102, 3) := by decide +kernel
theorem dX7_pay_23 : decode cX7_pay 23 = .ok (.iconst 0, 1) := by decide +kernel
theorem dX7_pay_24 : decode cX7_pay 24 = .ok (.istore 4, 2) := by decide +kernel
theorem dX7_pay_26 : decode cX7_pay 26 = .ok (.iconst (-1), 1) := by decide +kernel
theorem dX7_pay_27 : decode cX7_pay 27 = .ok (.istore 5, 2) := by decide +kernel
theorem dX7_pay_29 : decode cX7_pay 29 = .ok (.iconst 0, 1) := by decide +kernel
theorem dX7_pay_30 : decode cX7_pay 30 = .ok (.istore 6, 2) := by decide +kernel
theorem dX7_pay_32 : decode cX7_pay 32 = .ok (.iconst 0, 1) := by decide +kernel
theorem dX7_pay_33 : decode cX7_pay 33 = .ok (.istore 7, 2) := by decide +kernel
theorem dX7_pay_35 : decode cX7_pay 35 = .ok (.iload 7, 2) := by decide +kernel
theorem dX7_pay_37 : decode cX7_pay 37 = .ok (.iconst 4, 1) := by decide +kernel
theorem dX7_pay_38 : decode cX7_pay 38 = .ok (.if_icmp .ge 84, 3) := by decide +kernel
theorem dX7_pay_41 : decode cX7_pay 41 = .ok (.iload 7, 2) := by decide +kernel
theorem dX7_pay_43 : decode cX7_pay 43 = .ok (.iconst 2, 1) := by decide +kernel
theorem dX7_pay_44 : decode cX7_pay 44 = .ok (.idiv, 1) := by decide +kernel
theorem dX7_pay_45 : decode cX7_pay 45 = .ok (.istore 8, 2) := by decide +kernel
theorem dX7_pay_47 : decode cX7_pay 47 = .ok (.iload 7, 2) := by decide +kernel
theorem dX7_pay_49 : decode cX7_pay 49 = .ok (.iconst 2, 1) := by decide +kernel
theorem dX7_pay_50 : decode cX7_pay 50 = .ok (.irem, 1) := by decide +kernel
theorem dX7_pay_51 : decode cX7_pay 51 = .ok (.istore 9, 2) := by decide +kernel
theorem dX7_pay_53 : decode cX7_pay 53 = .ok (.iload_n 1, 1) := by decide +kernel
theorem dX7_pay_54 : decode cX7_pay 54 = .ok (.iload_n 2, 1) := by decide +kernel
theorem dX7_pay_55 : decode cX7_pay 55 = .ok (.iload 8, 2) := by decide +kernel
theorem dX7_pay_57 : decode cX7_pay 57 = .ok (.iload 9, 2) := by decide +kernel
theorem dX7_pay_59 : decode cX7_pay 59 = .ok (.invokestatic 331, 3) := by decide +kernel
theorem dX7_pay_62 : decode cX7_pay 62 = .ok (.ifCond .eq 54, 3) := by decide +kernel
theorem dX7_pay_65 : decode cX7_pay 65 = .ok (.iload_n 1, 1) := by decide +kernel
theorem dX7_pay_66 : decode cX7_pay 66 = .ok (.iload_n 2, 1) := by decide +kernel
theorem dX7_pay_67 : decode cX7_pay 67 = .ok (.iload 9, 2) := by decide +kernel
theorem dX7_pay_69 : decode cX7_pay 69 = .ok (.iload 8, 2) := by decide +kernel
theorem dX7_pay_71 : decode cX7_pay 71 = .ok (.invokestatic 331, 3) := by decide +kernel
theorem dX7_pay_74 : decode cX7_pay 74 = .ok (.ifCond .eq 42, 3) := by decide +kernel
theorem dX7_pay_77 : decode cX7_pay 77 = .ok (.iload 4, 2) := by decide +kernel
theorem dX7_pay_79 : decode cX7_pay 79 = .ok (.ifCond .ne 34, 3) := by decide +kernel
theorem dX7_pay_82 : decode cX7_pay 82 = .ok (.bipush 10, 2) := by decide +kernel
theorem dX7_pay_84 : decode cX7_pay 84 = .ok (.iload 8, 2) := by decide +kernel
theorem dX7_pay_86 : decode cX7_pay 86 = .ok (.imul, 1) := by decide +kernel
theorem dX7_pay_87 : decode cX7_pay 87 = .ok (.iload 9, 2) := by decide +kernel
theorem dX7_pay_89 : decode cX7_pay 89 = .ok (.iadd, 1) := by decide +kernel
theorem dX7_pay_90 : decode cX7_pay 90 = .ok (.istore 5, 2) := by decide +kernel
theorem dX7_pay_92 : decode cX7_pay 92 = .ok (.iload_n 1, 1) := by decide +kernel
theorem dX7_pay_93 : decode cX7_pay 93 = .ok (.iload_n 2, 1) := by decide +kernel
theorem dX7_pay_94 : decode cX7_pay 94 = .ok (.iload 8, 2) := by decide +kernel
theorem dX7_pay_96 : decode cX7_pay 96 = .ok (.iload 9, 2) := by decide +kernel
theorem dX7_pay_98 : decode cX7_pay 98 = .ok (.invokestatic 335, 3) := by decide +kernel
theorem dX7_pay_101 : decode cX7_pay 101 = .ok (.iload_n 1, 1) := by decide +kernel
theorem dX7_pay_102 : decode cX7_pay 102 = .ok (.iload_n 2, 1) := by decide +kernel
theorem dX7_pay_103 : decode cX7_pay 103 = .ok (.iload 9, 2) := by decide +kernel
theorem dX7_pay_105 : decode cX7_pay 105 = .ok (.iload 8, 2) := by decide +kernel
theorem dX7_pay_107 : decode cX7_pay 107 = .ok (.invokestatic 335, 3) := by decide +kernel
theorem dX7_pay_110 : decode cX7_pay 110 = .ok (.iadd, 1) := by decide +kernel
theorem dX7_pay_111 : decode cX7_pay 111 = .ok (.istore 6, 2) := by decide +kernel
theorem dX7_pay_113 : decode cX7_pay 113 = .ok (.iinc 4 1, 3) := by decide +kernel
theorem dX7_pay_116 : decode cX7_pay 116 = .ok (.iinc 7 1, 3) := by decide +kernel
theorem dX7_pay_119 : decode cX7_pay 119 = .ok (.goto (-84), 3) := by decide +kernel
theorem dX7_pay_122 : decode cX7_pay 122 = .ok (.iload_n 3, 1) := by decide +kernel
theorem dX7_pay_123 : decode cX7_pay 123 = .ok (.ifCond .ne 6, 3) := by decide +kernel
theorem dX7_pay_126 : decode cX7_pay 126 = .ok (.iload 4, 2) := by decide +kernel
theorem dX7_pay_128 : decode cX7_pay 128 = .ok (.ireturn, 1) := by decide +kernel
theorem dX7_pay_129 : decode cX7_pay 129 = .ok (.iload_n 3, 1) := by decide +kernel
theorem dX7_pay_130 : decode cX7_pay 130 = .ok (.iconst 1, 1) := by decide +kernel
theorem dX7_pay_131 : decode cX7_pay 131 = .ok (.if_icmp .ne 8, 3) := by decide +kernel
theorem dX7_pay_134 : decode cX7_pay 134 = .ok (.iload 5, 2) := by decide +kernel
theorem dX7_pay_136 : decode cX7_pay 136 = .ok (.goto 5, 3) := by decide +kernel
theorem dX7_pay_139 : decode cX7_pay 139 = .ok (.iload 6, 2) := by decide +kernel
theorem dX7_pay_141 : decode cX7_pay 141 = .ok (.ireturn, 1) := by decide +kernel
theorem dX7_isContent_0 : decode cX7_isContent 0 = .ok (.iload_n 0, 1) := by decide +kernel
theorem dX7_isContent_1 : decode cX7_isContent 1 = .ok (.iload_n 1, 1) := by decide +kernel
theorem dX7_isContent_2 : decode cX7_isContent 2 = .ok (.iload_n 2, 1) := by decide +kernel
theorem dX7_isContent_3 : decode cX7_isContent 3 = .ok (.iload_n 3, 1) := by decide +kernel
theorem dX7_isContent_4 : decode cX7_isContent 4 = .ok (.invokestatic 335, 3) := by decide +kernel
theorem dX7_isContent_7 : decode cX7_isContent 7 = .ok (.iload_n 0, 1) := by decide +kernel
theorem dX7_isContent_8 : decode cX7_isContent 8 = .ok (.iload_n 1, 1) := by decide +kernel
theorem dX7_isContent_9 : decode cX7_isContent 9 = .ok (.iconst 1, 1) := by decide +kernel
theorem dX7_isContent_10 : decode cX7_isContent 10 = .ok (.iload_n 2, 1) := by decide +kernel
theorem dX7_isContent_11 : decode cX7_isContent 11 = .ok (.isub, 1) := by decide +kernel
theorem dX7_isContent_12 : decode cX7_isContent 12 = .ok (.iload_n 3, 1) := by decide +kernel
theorem dX7_isContent_13 : decode cX7_isContent 13 = .ok (.invokestatic 335, 3) := by decide +kernel
theorem dX7_isContent_16 : decode cX7_isContent 16 = .ok (.if_icmp .lt 7, 3) := by decide +kernel
theorem dX7_isContent_19 : decode cX7_isContent 19 = .ok (.iconst 1, 1) := by decide +kernel
theorem dX7_isContent_20 : decode cX7_isContent 20 = .ok (.goto 4, 3) := by decide +kernel
theorem dX7_isContent_23 : decode cX7_isContent 23 = .ok (.iconst 0, 1) := by decide +kernel
theorem dX7_isContent_24 : decode cX7_isContent 24 = .ok (.ireturn, 1) := by decide +kernel
theorem dX7_gain_0 : decode cX7_gain 0 = .ok (.iload_n 2, 1) := by decide +kernel
theorem dX7_gain_1 : decode cX7_gain 1 = .ok (.ifCond .ne 19, 3) := by decide +kernel
theorem dX7_gain_4 : decode cX7_gain 4 = .ok (.iload_n 3, 1) := by decide +kernel
theorem dX7_gain_5 : decode cX7_gain 5 = .ok (.ifCond .ne 9, 3) := by decide +kernel
theorem dX7_gain_8 : decode cX7_gain 8 = .ok (.iload_n 0, 1) := by decide +kernel
theorem dX7_gain_9 : decode cX7_gain 9 = .ok (.iload_n 1, 1) := by decide +kernel
theorem dX7_gain_10 : decode cX7_gain 10 = .ok (.isub, 1) := by decide +kernel
theorem dX7_gain_11 : decode cX7_gain 11 = .ok (.goto 8, 3) := by decide +kernel
theorem dX7_gain_14 : decode cX7_gain 14 = .ok (.iload_n 0, 1) := by decide +kernel
theorem dX7_gain_15 : decode cX7_gain 15 = .ok (.iconst 2, 1) := by decide +kernel
theorem dX7_gain_16 : decode cX7_gain 16 = .ok (.iload_n 1, 1) := by decide +kernel
theorem dX7_gain_17 : decode cX7_gain 17 = .ok (.imul, 1) := by decide +kernel
theorem dX7_gain_18 : decode cX7_gain 18 = .ok (.isub, 1) := by decide +kernel
theorem dX7_gain_19 : decode cX7_gain 19 = .ok (.ireturn, 1) := by decide +kernel
theorem dX7_gain_20 : decode cX7_gain 20 = .ok (.iload_n 3, 1) := by decide +kernel
theorem dX7_gain_21 : decode cX7_gain 21 = .ok (.ifCond .ne 7, 3) := by decide +kernel
theorem dX7_gain_24 : decode cX7_gain 24 = .ok (.iload_n 0, 1) := by decide +kernel
theorem dX7_gain_25 : decode cX7_gain 25 = .ok (.goto 4, 3) := by decide +kernel
theorem dX7_gain_28 : decode cX7_gain 28 = .ok (.iconst 0, 1) := by decide +kernel
theorem dX7_gain_29 : decode cX7_gain 29 = .ok (.ireturn, 1) := by decide +kernel
theorem dX7_sun_0 : decode cX7_sun 0 = .ok (.aload_n 0, 1) := by decide +kernel
theorem dX7_sun_1 : decode cX7_sun 1 = .ok (.iload_n 1, 1) := by decide +kernel
theorem dX7_sun_2 : decode cX7_sun 2 = .ok (.invokevirtual 212, 3) := by decide +kernel
theorem dX7_sun_5 : decode cX7_sun 5 = .ok (.aload_n 0, 1) := by decide +kernel
theorem dX7_sun_6 : decode cX7_sun 6 = .ok (.iload_n 2, 1) := by decide +kernel
theorem dX7_sun_7 : decode cX7_sun 7 = .ok (.iconst 0, 1) := by decide +kernel
theorem dX7_sun_8 : decode cX7_sun 8 = .ok (.iconst 1, 1) := by decide +kernel
theorem dX7_sun_9 : decode cX7_sun 9 = .ok (.aload_n 0, 1) := by decide +kernel
theorem dX7_sun_10 : decode cX7_sun 10 = .ok (.getfield 21, 3) := by decide +kernel
theorem dX7_sun_13 : decode cX7_sun 13 = .ok (.getfield 131, 3) := by decide +kernel
theorem dX7_sun_16 : decode cX7_sun 16 = .ok (.ishl, 1) := by decide +kernel
theorem dX7_sun_17 : decode cX7_sun 17 = .ok (.iconst 1, 1) := by decide +kernel
theorem dX7_sun_18 : decode cX7_sun 18 = .ok (.isub, 1) := by decide +kernel
theorem dX7_sun_19 : decode cX7_sun 19 = .ok (.invokevirtual 102, 3) := by decide +kernel
theorem dX7_sun_22 : decode cX7_sun 22 = .ok (.aload_n 0, 1) := by decide +kernel
theorem dX7_sun_23 : decode cX7_sun 23 = .ok (.iload_n 3, 1) := by decide +kernel
theorem dX7_sun_24 : decode cX7_sun 24 = .ok (.iconst 0, 1) := by decide +kernel
theorem dX7_sun_25 : decode cX7_sun 25 = .ok (.sipush 999, 3) := by decide +kernel
theorem dX7_sun_28 : decode cX7_sun 28 = .ok (.invokevirtual 102, 3) := by decide +kernel
theorem dX7_sun_31 : decode cX7_sun 31 = .ok (.iload_n 2, 1) := by decide +kernel
theorem dX7_sun_32 : decode cX7_sun 32 = .ok (.iload_n 1, 1) := by decide +kernel
theorem dX7_sun_33 : decode cX7_sun 33 = .ok (.ishr, 1) := by decide +kernel
theorem dX7_sun_34 : decode cX7_sun 34 = .ok (.iconst 1, 1) := by decide +kernel
theorem dX7_sun_35 : decode cX7_sun 35 = .ok (.iand, 1) := by decide +kernel
theorem dX7_sun_36 : decode cX7_sun 36 = .ok (.ifCond .ne 5, 3) := by decide +kernel
theorem dX7_sun_39 : decode cX7_sun 39 = .ok (.iconst 0, 1) := by decide +kernel
theorem dX7_sun_40 : decode cX7_sun 40 = .ok (.ireturn, 1) := by decide +kernel
theorem dX7_sun_41 : decode cX7_sun 41 = .ok (.iconst 0, 1) := by decide +kernel
theorem dX7_sun_42 : decode cX7_sun 42 = .ok (.istore 4, 2) := by decide +kernel
theorem dX7_sun_44 : decode cX7_sun 44 = .ok (.iload 4, 2) := by decide +kernel
theorem dX7_sun_46 : decode cX7_sun 46 = .ok (.iconst 5, 1) := by decide +kernel
theorem dX7_sun_47 : decode cX7_sun 47 = .ok (.if_icmp .ge 39, 3) := by decide +kernel
theorem dX7_sun_50 : decode cX7_sun 50 = .ok (.aload_n 0, 1) := by decide +kernel
theorem dX7_sun_51 : decode cX7_sun 51 = .ok (.getfield 76, 3) := by decide +kernel
theorem dX7_sun_54 : decode cX7_sun 54 = .ok (.iload 4, 2) := by decide +kernel
theorem dX7_sun_56 : decode cX7_sun 56 = .ok (.iload_n 2, 1) := by decide +kernel
theorem dX7_sun_57 : decode cX7_sun 57 = .ok (.iload 4, 2) := by decide +kernel
theorem dX7_sun_59 : decode cX7_sun 59 = .ok (.ishr, 1) := by decide +kernel
theorem dX7_sun_60 : decode cX7_sun 60 = .ok (.iconst 1, 1) := by decide +kernel
theorem dX7_sun_61 : decode cX7_sun 61 = .ok (.iand, 1) := by decide +kernel
theorem dX7_sun_62 : decode cX7_sun 62 = .ok (.iconst 1, 1) := by decide +kernel
theorem dX7_sun_63 : decode cX7_sun 63 = .ok (.if_icmp .ne 15, 3) := by decide +kernel
theorem dX7_sun_66 : decode cX7_sun 66 = .ok (.aload_n 0, 1) := by decide +kernel
theorem dX7_sun_67 : decode cX7_sun 67 = .ok (.getfield 54, 3) := by decide +kernel
theorem dX7_sun_70 : decode cX7_sun 70 = .ok (.iload 4, 2) := by decide +kernel
theorem dX7_sun_72 : decode cX7_sun 72 = .ok (.invokevirtual 222, 3) := by decide +kernel
theorem dX7_sun_75 : decode cX7_sun 75 = .ok (.goto 4, 3) := by decide +kernel
theorem dX7_sun_78 : decode cX7_sun 78 = .ok (.iconst 0, 1) := by decide +kernel
theorem dX7_sun_79 : decode cX7_sun 79 = .ok (.iastore, 1) := by decide +kernel
theorem dX7_sun_80 : decode cX7_sun 80 = .ok (.iinc 4 1, 3) := by decide +kernel
theorem dX7_sun_83 : decode cX7_sun 83 = .ok (.goto (-39), 3) := by decide +kernel
theorem dX7_sun_86 : decode cX7_sun 86 = .ok (.aload_n 0, 1) := by decide +kernel
theorem dX7_sun_87 : decode cX7_sun 87 = .ok (.iload_n 3, 1) := by decide +kernel
theorem dX7_sun_88 : decode cX7_sun 88 = .ok (.invokevirtual 339, 3) := by decide +kernel
theorem dX7_sun_91 : decode cX7_sun 91 = .ok (.aload_n 0, 1) := by decide +kernel
theorem dX7_sun_92 : decode cX7_sun 92 = .ok (.getfield 76, 3) := by decide +kernel
theorem dX7_sun_95 : decode cX7_sun 95 = .ok (.iload_n 1, 1) := by decide +kernel
theorem dX7_sun_96 : decode cX7_sun 96 = .ok (.iaload, 1) := by decide +kernel
theorem dX7_sun_97 : decode cX7_sun 97 = .ok (.invokestatic 134, 3) := by decide +kernel
theorem dX7_sun_100 : decode cX7_sun 100 = .ok (.ireturn, 1) := by decide +kernel
theorem dX7_sunBound_0 : decode cX7_sunBound 0 = .ok (.iconst 0, 1) := by decide +kernel
theorem dX7_sunBound_1 : decode cX7_sunBound 1 = .ok (.istore_n 2, 1) := by decide +kernel
theorem dX7_sunBound_2 : decode cX7_sunBound 2 = .ok (.sipush 256, 3) := by decide +kernel
theorem dX7_sunBound_5 : decode cX7_sunBound 5 = .ok (.istore_n 3, 1) := by decide +kernel
theorem dX7_sunBound_6 : decode cX7_sunBound 6 = .ok (.iload_n 3, 1) := by decide +kernel
theorem dX7_sunBound_7 : decode cX7_sunBound 7 = .ok (.ifCond .le 25, 3) := by decide +kernel
theorem dX7_sunBound_10 : decode cX7_sunBound 10 = .ok (.aload_n 0, 1) := by decide +kernel
theorem dX7_sunBound_11 : decode cX7_sunBound 11 = .ok (.iload_n 2, 1) := by decide +kernel
theorem dX7_sunBound_12 : decode cX7_sunBound 12 = .ok (.iload_n 3, 1) := by decide +kernel
theorem dX7_sunBound_13 : decode cX7_sunBound 13 = .ok (.iadd, 1) := by decide +kernel
theorem dX7_sunBound_14 : decode cX7_sunBound 14 = .ok (.invokevirtual 342, 3) := by decide +kernel
theorem dX7_sunBound_17 : decode cX7_sunBound 17 = .ok (.iload_n 1, 1) := by decide +kernel
theorem dX7_sunBound_18 : decode cX7_sunBound 18 = .ok (.if_icmp .gt 7, 3) := by decide +kernel
theorem dX7_sunBound_21 : decode cX7_sunBound 21 = .ok (.iload_n 2, 1) := by decide +kernel
theorem dX7_sunBound_22 : decode cX7_sunBound 22 = .ok (.iload_n 3, 1) := by decide +kernel
theorem dX7_sunBound_23 : decode cX7_sunBound 23 = .ok (.iadd, 1) := by decide +kernel
theorem dX7_sunBound_24 : decode cX7_sunBound 24 = .ok (.istore_n 2, 1) := by decide +kernel
theorem dX7_sunBound_25 : decode cX7_sunBound 25 = .ok (.iload_n 3, 1) := by decide +kernel
theorem dX7_sunBound_26 : decode cX7_sunBound 26 = .ok (.iconst 2, 1) := by decide +kernel
theorem dX7_sunBound_27 : decode cX7_sunBound 27 = .ok (.idiv, 1) := by decide +kernel
theorem dX7_sunBound_28 : decode cX7_sunBound 28 = .ok (.istore_n 3, 1) := by decide +kernel
theorem dX7_sunBound_29 : decode cX7_sunBound 29 = .ok (.goto (-23), 3) := by decide +kernel
theorem dX7_sunBound_32 : decode cX7_sunBound 32 = .ok (.iload_n 2, 1) := by decide +kernel
theorem dX7_sunBound_33 : decode cX7_sunBound 33 = .ok (.ireturn, 1) := by decide +kernel
theorem dX7_sunGiven_0 : decode cX7_sunGiven 0 = .ok (.iconst 0, 1) := by decide +kernel
theorem dX7_sunGiven_1 : decode cX7_sunGiven 1 = .ok (.istore_n 2, 1) := by decide +kernel
theorem dX7_sunGiven_2 : decode cX7_sunGiven 2 = .ok (.iconst 0, 1) := by decide +kernel
theorem dX7_sunGiven_3 : decode cX7_sunGiven 3 = .ok (.istore_n 3, 1) := by decide +kernel
theorem dX7_sunGiven_4 : decode cX7_sunGiven 4 = .ok (.iload_n 3, 1) := by decide +kernel
theorem dX7_sunGiven_5 : decode cX7_sunGiven 5 = .ok (.iconst 5, 1) := by decide +kernel
theorem dX7_sunGiven_6 : decode cX7_sunGiven 6 = .ok (.if_icmp .ge 22, 3) := by decide +kernel
theorem dX7_sunGiven_9 : decode cX7_sunGiven 9 = .ok (.iload_n 2, 1) := by decide +kernel
theorem dX7_sunGiven_10 : decode cX7_sunGiven 10 = .ok (.iload_n 1, 1) := by decide +kernel
theorem dX7_sunGiven_11 : decode cX7_sunGiven 11 = .ok (.aload_n 0, 1) := by decide +kernel
theorem dX7_sunGiven_12 : decode cX7_sunGiven 12 = .ok (.getfield 76, 3) := by decide +kernel
theorem dX7_sunGiven_15 : decode cX7_sunGiven 15 = .ok (.iload_n 3, 1) := by decide +kernel
theorem dX7_sunGiven_16 : decode cX7_sunGiven 16 = .ok (.iaload, 1) := by decide +kernel
theorem dX7_sunGiven_17 : decode cX7_sunGiven 17 = .ok (.invokestatic 134, 3) := by decide +kernel
theorem dX7_sunGiven_20 : decode cX7_sunGiven 20 = .ok (.iadd, 1) := by decide +kernel
theorem dX7_sunGiven_21 : decode cX7_sunGiven 21 = .ok (.istore_n 2, 1) := by decide +kernel
theorem dX7_sunGiven_22 : decode cX7_sunGiven 22 = .ok (.iinc 3 1, 3) := by decide +kernel
theorem dX7_sunGiven_25 : decode cX7_sunGiven 25 = .ok (.goto (-21), 3) := by decide +kernel
theorem dX7_sunGiven_28 : decode cX7_sunGiven 28 = .ok (.iload_n 2, 1) := by decide +kernel
theorem dX7_sunGiven_29 : decode cX7_sunGiven 29 = .ok (.ireturn, 1) := by decide +kernel
theorem dX7_power_0 : decode cX7_power 0 = .ok (.lconst 1, 1) := by decide +kernel
theorem dX7_power_1 : decode cX7_power 1 = .ok (.lstore_n 3, 1) := by decide +kernel
theorem dX7_power_2 : decode cX7_power 2 = .ok (.iconst 0, 1) := by decide +kernel
theorem dX7_power_3 : decode cX7_power 3 = .ok (.istore 5, 2) := by decide +kernel
theorem dX7_power_5 : decode cX7_power 5 = .ok (.iload 5, 2) := by decide +kernel
theorem dX7_power_7 : decode cX7_power 7 = .ok (.iload_n 2, 1) := by decide +kernel
theorem dX7_power_8 : decode cX7_power 8 = .ok (.if_icmp .ge 13, 3) := by decide +kernel
theorem dX7_power_11 : decode cX7_power 11 = .ok (.lload_n 3, 1) := by decide +kernel
theorem dX7_power_12 : decode cX7_power 12 = .ok (.lload_n 0, 1) := by decide +kernel
theorem dX7_power_13 : decode cX7_power 13 = .ok (.lmul, 1) := by decide +kernel
theorem dX7_power_14 : decode cX7_power 14 = .ok (.lstore_n 3, 1) := by decide +kernel
theorem dX7_power_15 : decode cX7_power 15 = .ok (.iinc 5 1, 3) := by decide +kernel
theorem dX7_power_18 : decode cX7_power 18 = .ok (.goto (-13), 3) := by decide +kernel
theorem dX7_power_21 : decode cX7_power 21 = .ok (.lload_n 3, 1) := by decide +kernel
theorem dX7_power_22 : decode cX7_power 22 = .ok (.lreturn, 1) := by decide +kernel
theorem dX7_leastTerms_0 : decode cX7_leastTerms 0 = .ok (.lload_n 2, 1) := by decide +kernel
theorem dX7_leastTerms_1 : decode cX7_leastTerms 1 = .ok (.lstore 5, 2) := by decide +kernel
theorem dX7_leastTerms_3 : decode cX7_leastTerms 3 = .ok (.lload_n 0, 1) := by decide +kernel
theorem dX7_leastTerms_4 : decode cX7_leastTerms 4 = .ok (.lstore 7, 2) := by decide +kernel
theorem dX7_leastTerms_6 : decode cX7_leastTerms 6 = .ok (.iconst 0, 1) := by decide +kernel
theorem dX7_leastTerms_7 : decode cX7_leastTerms 7 = .ok (.istore 9, 2) := by decide +kernel
theorem dX7_leastTerms_9 : decode cX7_leastTerms 9 = .ok (.iload 9, 2) := by decide +kernel
theorem dX7_leastTerms_11 : decode cX7_leastTerms 11 = .ok (.bipush 100, 2) := by decide +kernel
theorem dX7_leastTerms_13 : decode cX7_leastTerms 13 = .ok (.if_icmp .ge 31, 3) := by decide +kernel
theorem dX7_leastTerms_16 : decode cX7_leastTerms 16 = .ok (.lload 7, 2) := by decide +kernel
theorem dX7_leastTerms_18 : decode cX7_leastTerms 18 = .ok (.lconst 0, 1) := by decide +kernel
theorem dX7_leastTerms_19 : decode cX7_leastTerms 19 = .ok (.lcmp, 1) := by decide +kernel
theorem dX7_leastTerms_20 : decode cX7_leastTerms 20 = .ok (.ifCond .eq 24, 3) := by decide +kernel
theorem dX7_leastTerms_23 : decode cX7_leastTerms 23 = .ok (.lload 5, 2) := by decide +kernel
theorem dX7_leastTerms_25 : decode cX7_leastTerms 25 = .ok (.lload 7, 2) := by decide +kernel
theorem dX7_leastTerms_27 : decode cX7_leastTerms 27 = .ok (.lrem, 1) := by decide +kernel
theorem dX7_leastTerms_28 : decode cX7_leastTerms 28 = .ok (.lstore 10, 2) := by decide +kernel
theorem dX7_leastTerms_30 : decode cX7_leastTerms 30 = .ok (.lload 7, 2) := by decide +kernel
theorem dX7_leastTerms_32 : decode cX7_leastTerms 32 = .ok (.lstore 5, 2) := by decide +kernel
theorem dX7_leastTerms_34 : decode cX7_leastTerms 34 = .ok (.lload 10, 2) := by decide +kernel
theorem dX7_leastTerms_36 : decode cX7_leastTerms 36 = .ok (.lstore 7, 2) := by decide +kernel
theorem dX7_leastTerms_38 : decode cX7_leastTerms 38 = .ok (.iinc 9 1, 3) := by decide +kernel
theorem dX7_leastTerms_41 : decode cX7_leastTerms 41 = .ok (.goto (-32), 3) := by decide +kernel
theorem dX7_leastTerms_44 : decode cX7_leastTerms 44 = .ok (.lload 5, 2) := by decide +kernel
theorem dX7_leastTerms_46 : decode cX7_leastTerms 46 = .ok (.lconst 0, 1) := by decide +kernel
theorem dX7_leastTerms_47 : decode cX7_leastTerms 47 = .ok (.lcmp, 1) := by decide +kernel
theorem dX7_leastTerms_48 : decode cX7_leastTerms 48 = .ok (.ifCond .ne 7, 3) := by decide +kernel
theorem dX7_leastTerms_51 : decode cX7_leastTerms 51 = .ok (.ldc2_w 345, 3) := by decide +kernel
theorem dX7_leastTerms_54 : decode cX7_leastTerms 54 = .ok (.lreturn, 1) := by decide +kernel
theorem dX7_leastTerms_55 : decode cX7_leastTerms 55 = .ok (.iload 4, 2) := by decide +kernel
theorem dX7_leastTerms_57 : decode cX7_leastTerms 57 = .ok (.ifCond .ne 7, 3) := by decide +kernel
theorem dX7_leastTerms_60 : decode cX7_leastTerms 60 = .ok (.lload_n 0, 1) := by decide +kernel
theorem dX7_leastTerms_61 : decode cX7_leastTerms 61 = .ok (.goto 4, 3) := by decide +kernel
theorem dX7_leastTerms_64 : decode cX7_leastTerms 64 = .ok (.lload_n 2, 1) := by decide +kernel
theorem dX7_leastTerms_65 : decode cX7_leastTerms 65 = .ok (.lload 5, 2) := by decide +kernel
theorem dX7_leastTerms_67 : decode cX7_leastTerms 67 = .ok (.ldiv, 1) := by decide +kernel
theorem dX7_leastTerms_68 : decode cX7_leastTerms 68 = .ok (.lreturn, 1) := by decide +kernel
theorem dX7_afternoon_0 : decode cX7_afternoon 0 = .ok (.aload_n 0, 1) := by decide +kernel
theorem dX7_afternoon_1 : decode cX7_afternoon 1 = .ok (.iload_n 2, 1) := by decide +kernel
theorem dX7_afternoon_2 : decode cX7_afternoon 2 = .ok (.iload_n 3, 1) := by decide +kernel
theorem dX7_afternoon_3 : decode cX7_afternoon 3 = .ok (.invokevirtual 347, 3) := by decide +kernel
theorem dX7_afternoon_6 : decode cX7_afternoon 6 = .ok (.aload_n 0, 1) := by decide +kernel
theorem dX7_afternoon_7 : decode cX7_afternoon 7 = .ok (.iload 4, 2) := by decide +kernel
theorem dX7_afternoon_9 : decode cX7_afternoon 9 = .ok (.iconst 0, 1) := by decide +kernel
theorem dX7_afternoon_10 : decode cX7_afternoon 10 = .ok (.iconst 3, 1) := by decide +kernel
theorem dX7_afternoon_11 : decode cX7_afternoon 11 = .ok (.invokevirtual 102, 3) := by decide +kernel
theorem dX7_afternoon_14 : decode cX7_afternoon 14 = .ok (.aload_n 0, 1) := by decide +kernel
theorem dX7_afternoon_15 : decode cX7_afternoon 15 = .ok (.iload_n 1, 1) := by decide +kernel
theorem dX7_afternoon_16 : decode cX7_afternoon 16 = .ok (.iload_n 2, 1) := by decide +kernel
theorem dX7_afternoon_17 : decode cX7_afternoon 17 = .ok (.iload_n 3, 1) := by decide +kernel
theorem dX7_afternoon_18 : decode cX7_afternoon 18 = .ok (.invokevirtual 351, 3) := by decide +kernel
theorem dX7_afternoon_21 : decode cX7_afternoon 21 = .ok (.iload 4, 2) := by decide +kernel
theorem dX7_afternoon_23 : decode cX7_afternoon 23 = .ok (.tableswitch 73 0 2 #[25, 33, 53], 25) := by decide +kernel
theorem dX7_afternoon_48 : decode cX7_afternoon 48 = .ok (.aload_n 0, 1) := by decide +kernel
theorem dX7_afternoon_49 : decode cX7_afternoon 49 = .ok (.getfield 58, 3) := by decide +kernel
theorem dX7_afternoon_52 : decode cX7_afternoon 52 = .ok (.invokevirtual 181, 3) := by decide +kernel
theorem dX7_afternoon_55 : decode cX7_afternoon 55 = .ok (.ireturn, 1) := by decide +kernel
theorem dX7_afternoon_56 : decode cX7_afternoon 56 = .ok (.aload_n 0, 1) := by decide +kernel
theorem dX7_afternoon_57 : decode cX7_afternoon 57 = .ok (.getfield 58, 3) := by decide +kernel
theorem dX7_afternoon_60 : decode cX7_afternoon 60 = .ok (.getfield 144, 3) := by decide +kernel
theorem dX7_afternoon_63 : decode cX7_afternoon 63 = .ok (.iconst 1, 1) := by decide +kernel
theorem dX7_afternoon_64 : decode cX7_afternoon 64 = .ok (.iaload, 1) := by decide +kernel
theorem dX7_afternoon_65 : decode cX7_afternoon 65 = .ok (.aload_n 0, 1) := by decide +kernel
theorem dX7_afternoon_66 : decode cX7_afternoon 66 = .ok (.getfield 54, 3) := by decide +kernel
theorem dX7_afternoon_69 : decode cX7_afternoon 69 = .ok (.getfield 144, 3) := by decide +kernel
theorem dX7_afternoon_72 : decode cX7_afternoon 72 = .ok (.iconst 1, 1) := by decide +kernel
theorem dX7_afternoon_73 : decode cX7_afternoon 73 = .ok (.iaload, 1) := by decide +kernel
theorem dX7_afternoon_74 : decode cX7_afternoon 74 = .ok (.isub, 1) := by decide +kernel
theorem dX7_afternoon_75 : decode cX7_afternoon 75 = .ok (.ireturn, 1) := by decide +kernel
theorem dX7_afternoon_76 : decode cX7_afternoon 76 = .ok (.aload_n 0, 1) := by decide +kernel
theorem dX7_afternoon_77 : decode cX7_afternoon 77 = .ok (.getfield 58, 3) := by decide +kernel
theorem dX7_afternoon_80 : decode cX7_afternoon 80 = .ok (.getfield 144, 3) := by decide +kernel
theorem dX7_afternoon_83 : decode cX7_afternoon 83 = .ok (.iconst 2, 1) := by decide +kernel
theorem dX7_afternoon_84 : decode cX7_afternoon 84 = .ok (.iaload, 1) := by decide +kernel
theorem dX7_afternoon_85 : decode cX7_afternoon 85 = .ok (.aload_n 0, 1) := by decide +kernel
theorem dX7_afternoon_86 : decode cX7_afternoon 86 = .ok (.getfield 54, 3) := by decide +kernel
theorem dX7_afternoon_89 : decode cX7_afternoon 89 = .ok (.getfield 144, 3) := by decide +kernel
theorem dX7_afternoon_92 : decode cX7_afternoon 92 = .ok (.iconst 2, 1) := by decide +kernel
theorem dX7_afternoon_93 : decode cX7_afternoon 93 = .ok (.iaload, 1) := by decide +kernel
theorem dX7_afternoon_94 : decode cX7_afternoon 94 = .ok (.isub, 1) := by decide +kernel
theorem dX7_afternoon_95 : decode cX7_afternoon 95 = .ok (.ireturn, 1) := by decide +kernel
theorem dX7_afternoon_96 : decode cX7_afternoon 96 = .ok (.aload_n 0, 1) := by decide +kernel
theorem dX7_afternoon_97 : decode cX7_afternoon 97 = .ok (.getfield 58, 3) := by decide +kernel
theorem dX7_afternoon_100 : decode cX7_afternoon 100 = .ok (.invokevirtual 187, 3) := by decide +kernel
theorem dX7_afternoon_103 : decode cX7_afternoon 103 = .ok (.ireturn, 1) := by decide +kernel
theorem dX7_span_0 : decode cX7_span 0 = .ok (.aload_n 0, 1) := by decide +kernel
theorem dX7_span_1 : decode cX7_span 1 = .ok (.iload_n 2, 1) := by decide +kernel
theorem dX7_span_2 : decode cX7_span 2 = .ok (.iconst 1, 1) := by decide +kernel
theorem dX7_span_3 : decode cX7_span 3 = .ok (.bipush 10, 2) := by decide +kernel
theorem dX7_span_5 : decode cX7_span 5 = .ok (.invokevirtual 102, 3) := by decide +kernel
theorem dX7_span_8 : decode cX7_span 8 = .ok (.aload_n 0, 1) := by decide +kernel
theorem dX7_span_9 : decode cX7_span 9 = .ok (.iload_n 3, 1) := by decide +kernel
theorem dX7_span_10 : decode cX7_span 10 = .ok (.iload 4, 2) := by decide +kernel
theorem dX7_span_12 : decode cX7_span 12 = .ok (.invokevirtual 347, 3) := by decide +kernel
theorem dX7_span_15 : decode cX7_span 15 = .ok (.aload_n 0, 1) := by decide +kernel
theorem dX7_span_16 : decode cX7_span 16 = .ok (.iload 5, 2) := by decide +kernel
theorem dX7_span_18 : decode cX7_span 18 = .ok (.iconst 0, 1) := by decide +kernel
theorem dX7_span_19 : decode cX7_span 19 = .ok (.iconst 2, 1) := by decide +kernel
theorem dX7_span_20 : decode cX7_span 20 = .ok (.invokevirtual 102, 3) := by decide +kernel
theorem dX7_span_23 : decode cX7_span 23 = .ok (.aload_n 0, 1) := by decide +kernel
theorem dX7_span_24 : decode cX7_span 24 = .ok (.iload 6, 2) := by decide +kernel
theorem dX7_span_26 : decode cX7_span 26 = .ok (.iconst 0, 1) := by decide +kernel
theorem dX7_span_27 : decode cX7_span 27 = .ok (.aload_n 0, 1) := by decide +kernel
theorem dX7_span_28 : decode cX7_span 28 = .ok (.getfield 21, 3) := by decide +kernel
theorem dX7_span_31 : decode cX7_span 31 = .ok (.getfield 131, 3) := by decide +kernel
theorem dX7_span_34 : decode cX7_span 34 = .ok (.iconst 1, 1) := by decide +kernel
theorem dX7_span_35 : decode cX7_span 35 = .ok (.isub, 1) := by decide +kernel
theorem dX7_span_36 : decode cX7_span 36 = .ok (.invokevirtual 102, 3) := by decide +kernel
theorem dX7_span_39 : decode cX7_span 39 = .ok (.ldc_w 262, 3) := by decide +kernel
theorem dX7_span_42 : decode cX7_span 42 = .ok (.istore 7, 2) := by decide +kernel
theorem dX7_span_44 : decode cX7_span 44 = .ok (.iconst 0, 1) := by decide +kernel
theorem dX7_span_45 : decode cX7_span 45 = .ok (.istore 8, 2) := by decide +kernel
theorem dX7_span_47 : decode cX7_span 47 = .ok (.iconst 0, 1) := by decide +kernel
theorem dX7_span_48 : decode cX7_span 48 = .ok (.istore 9, 2) := by decide +kernel
theorem dX7_span_50 : decode cX7_span 50 = .ok (.iconst 0, 1) := by decide +kernel
theorem dX7_span_51 : decode cX7_span 51 = .ok (.istore 10, 2) := by decide +kernel
theorem dX7_span_53 : decode cX7_span 53 = .ok (.iload 10, 2) := by decide +kernel
theorem dX7_span_55 : decode cX7_span 55 = .ok (.iload_n 2, 1) := by decide +kernel
theorem dX7_span_56 : decode cX7_span 56 = .ok (.if_icmp .ge 81, 3) := by decide +kernel
theorem dX7_span_59 : decode cX7_span 59 = .ok (.aload_n 0, 1) := by decide +kernel
theorem dX7_span_60 : decode cX7_span 60 = .ok (.iload_n 1, 1) := by decide +kernel
theorem dX7_span_61 : decode cX7_span 61 = .ok (.iload 10, 2) := by decide +kernel
theorem dX7_span_63 : decode cX7_span 63 = .ok (.iadd, 1) := by decide +kernel
theorem dX7_span_64 : decode cX7_span 64 = .ok (.iload_n 3, 1) := by decide +kernel
theorem dX7_span_65 : decode cX7_span 65 = .ok (.iload 4, 2) := by decide +kernel
theorem dX7_span_67 : decode cX7_span 67 = .ok (.invokevirtual 351, 3) := by decide +kernel
theorem dX7_span_70 : decode cX7_span 70 = .ok (.aload_n 0, 1) := by decide +kernel
theorem dX7_span_71 : decode cX7_span 71 = .ok (.getfield 58, 3) := by decide +kernel
theorem dX7_span_74 : decode cX7_span 74 = .ok (.getfield 144, 3) := by decide +kernel
theorem dX7_span_77 : decode cX7_span 77 = .ok (.iconst 2, 1) := by decide +kernel
theorem dX7_span_78 : decode cX7_span 78 = .ok (.iaload, 1) := by decide +kernel
theorem dX7_span_79 : decode cX7_span 79 = .ok (.aload_n 0, 1) := by decide +kernel
theorem dX7_span_80 : decode cX7_span 80 = .ok (.getfield 54, 3) := by decide +kernel
theorem dX7_span_83 : decode cX7_span 83 = .ok (.getfield 144, 3) := by decide +kernel
theorem dX7_span_86 : decode cX7_span 86 = .ok (.iconst 2, 1) := by decide +kernel
theorem dX7_span_87 : decode cX7_span 87 = .ok (.iaload, 1) := by decide +kernel
theorem dX7_span_88 : decode cX7_span 88 = .ok (.isub, 1) := by decide +kernel
theorem dX7_span_89 : decode cX7_span 89 = .ok (.istore 11, 2) := by decide +kernel
theorem dX7_span_91 : decode cX7_span 91 = .ok (.iload 7, 2) := by decide +kernel
theorem dX7_span_93 : decode cX7_span 93 = .ok (.iload 11, 2) := by decide +kernel
theorem dX7_span_95 : decode cX7_span 95 = .ok (.invokestatic 134, 3) := by decide +kernel
theorem dX7_span_98 : decode cX7_span 98 = .ok (.istore 7, 2) := by decide +kernel
theorem dX7_span_100 : decode cX7_span 100 = .ok (.iload 8, 2) := by decide +kernel
theorem dX7_span_102 : decode cX7_span 102 = .ok (.iload 11, 2) := by decide +kernel
theorem dX7_span_104 : decode cX7_span 104 = .ok (.invokestatic 273, 3) := by decide +kernel
theorem dX7_span_107 : decode cX7_span 107 = .ok (.istore 8, 2) := by decide +kernel
theorem dX7_span_109 : decode cX7_span 109 = .ok (.iload 9, 2) := by decide +kernel
theorem dX7_span_111 : decode cX7_span 111 = .ok (.aload_n 0, 1) := by decide +kernel
theorem dX7_span_112 : decode cX7_span 112 = .ok (.getfield 58, 3) := by decide +kernel
theorem dX7_span_115 : decode cX7_span 115 = .ok (.iload 6, 2) := by decide +kernel
theorem dX7_span_117 : decode cX7_span 117 = .ok (.invokevirtual 215, 3) := by decide +kernel
theorem dX7_span_120 : decode cX7_span 120 = .ok (.ifCond .eq 7, 3) := by decide +kernel
theorem dX7_span_123 : decode cX7_span 123 = .ok (.iconst 1, 1) := by decide +kernel
theorem dX7_span_124 : decode cX7_span 124 = .ok (.goto 4, 3) := by decide +kernel
theorem dX7_span_127 : decode cX7_span 127 = .ok (.iconst 0, 1) := by decide +kernel
theorem dX7_span_128 : decode cX7_span 128 = .ok (.iadd, 1) := by decide +kernel
theorem dX7_span_129 : decode cX7_span 129 = .ok (.istore 9, 2) := by decide +kernel
theorem dX7_span_131 : decode cX7_span 131 = .ok (.iinc 10 1, 3) := by decide +kernel
theorem dX7_span_134 : decode cX7_span 134 = .ok (.goto (-81), 3) := by decide +kernel
theorem dX7_span_137 : decode cX7_span 137 = .ok (.iload 5, 2) := by decide +kernel
theorem dX7_span_139 : decode cX7_span 139 = .ok (.ifCond .ne 6, 3) := by decide +kernel
theorem dX7_span_142 : decode cX7_span 142 = .ok (.iload 7, 2) := by decide +kernel
theorem dX7_span_144 : decode cX7_span 144 = .ok (.ireturn, 1) := by decide +kernel
theorem dX7_span_145 : decode cX7_span 145 = .ok (.iload 5, 2) := by decide +kernel
theorem dX7_span_147 : decode cX7_span 147 = .ok (.iconst 1, 1) := by decide +kernel
theorem dX7_span_148 : decode cX7_span 148 = .ok (.if_icmp .ne 8, 3) := by decide +kernel
theorem dX7_span_151 : decode cX7_span 151 = .ok (.iload 8, 2) := by decide +kernel
theorem dX7_span_153 : decode cX7_span 153 = .ok (.goto 5, 3) := by decide +kernel
theorem dX7_span_156 : decode cX7_span 156 = .ok (.iload 9, 2) := by decide +kernel
theorem dX7_span_158 : decode cX7_span 158 = .ok (.ireturn, 1) := by decide +kernel
theorem dX7_playAfternoon_0 : decode cX7_playAfternoon 0 = .ok (.aload_n 0, 1) := by decide +kernel
theorem dX7_playAfternoon_1 : decode cX7_playAfternoon 1 = .ok (.getfield 58, 3) := by decide +kernel
theorem dX7_playAfternoon_4 : decode cX7_playAfternoon 4 = .ok (.aload_n 0, 1) := by decide +kernel
theorem dX7_playAfternoon_5 : decode cX7_playAfternoon 5 = .ok (.getfield 54, 3) := by decide +kernel
theorem dX7_playAfternoon_8 : decode cX7_playAfternoon 8 = .ok (.invokevirtual 259, 3) := by decide +kernel
theorem dX7_playAfternoon_11 : decode cX7_playAfternoon 11 = .ok (.aload_n 0, 1) := by decide +kernel
theorem dX7_playAfternoon_12 : decode cX7_playAfternoon 12 = .ok (.iload_n 1, 1) := by decide +kernel
theorem dX7_playAfternoon_13 : decode cX7_playAfternoon 13 = .ok (.putfield 86, 3) := by decide +kernel
theorem dX7_playAfternoon_16 : decode cX7_playAfternoon 16 = .ok (.iconst 0, 1) := by decide +kernel
theorem dX7_playAfternoon_17 : decode cX7_playAfternoon 17 = .ok (.istore 4, 2) := by decide +kernel
theorem dX7_playAfternoon_19 : decode cX7_playAfternoon 19 = .ok (.iload 4, 2) := by decide +kernel
theorem dX7_playAfternoon_21 : decode cX7_playAfternoon 21 = .ok (.iload_n 3, 1) := by decide +kernel
theorem dX7_playAfternoon_22 : decode cX7_playAfternoon 22 = .ok (.if_icmp .ge 109, 3) := by decide +kernel
theorem dX7_playAfternoon_25 : decode cX7_playAfternoon 25 = .ok (.aload_n 0, 1) := by decide +kernel
theorem dX7_playAfternoon_26 : decode cX7_playAfternoon 26 = .ok (.getfield 21, 3) := by decide +kernel
theorem dX7_playAfternoon_29 : decode cX7_playAfternoon 29 = .ok (.getfield 131, 3) := by decide +kernel
theorem dX7_playAfternoon_32 : decode cX7_playAfternoon 32 = .ok (.ifCond .le 82, 3) := by decide +kernel
theorem dX7_playAfternoon_35 : decode cX7_playAfternoon 35 = .ok (.aload_n 0, 1) := by decide +kernel
theorem dX7_playAfternoon_36 : decode cX7_playAfternoon 36 = .ok (.aload_n 0, 1) := by decide +kernel
theorem dX7_playAfternoon_37 : decode cX7_playAfternoon 37 = .ok (.getfield 21, 3) := by decide +kernel
theorem dX7_playAfternoon_40 : decode cX7_playAfternoon 40 = .ok (.getfield 131, 3) := by decide +kernel
theorem dX7_playAfternoon_43 : decode cX7_playAfternoon 43 = .ok (.invokevirtual 354, 3) := by decide +kernel
theorem dX7_playAfternoon_46 : decode cX7_playAfternoon 46 = .ok (.istore 5, 2) := by decide +kernel
theorem dX7_playAfternoon_48 : decode cX7_playAfternoon 48 = .ok (.aload_n 0, 1) := by decide +kernel
theorem dX7_playAfternoon_49 : decode cX7_playAfternoon 49 = .ok (.getfield 58, 3) := by decide +kernel
theorem dX7_playAfternoon_52 : decode cX7_playAfternoon 52 = .ok (.iload 5, 2) := by decide +kernel
theorem dX7_playAfternoon_54 : decode cX7_playAfternoon 54 = .ok (.iconst 1, 1) := by decide +kernel
theorem dX7_playAfternoon_55 : decode cX7_playAfternoon 55 = .ok (.aload_n 0, 1) := by decide +kernel
theorem dX7_playAfternoon_56 : decode cX7_playAfternoon 56 = .ok (.bipush 20, 2) := by decide +kernel
theorem dX7_playAfternoon_58 : decode cX7_playAfternoon 58 = .ok (.invokevirtual 354, 3) := by decide +kernel
theorem dX7_playAfternoon_61 : decode cX7_playAfternoon 61 = .ok (.iadd, 1) := by decide +kernel
theorem dX7_playAfternoon_62 : decode cX7_playAfternoon 62 = .ok (.invokevirtual 303, 3) := by decide +kernel
theorem dX7_playAfternoon_65 : decode cX7_playAfternoon 65 = .ok (.pop, 1) := by decide +kernel
theorem dX7_playAfternoon_66 : decode cX7_playAfternoon 66 = .ok (.aload_n 0, 1) := by decide +kernel
theorem dX7_playAfternoon_67 : decode cX7_playAfternoon 67 = .ok (.bipush 16, 2) := by decide +kernel
theorem dX7_playAfternoon_69 : decode cX7_playAfternoon 69 = .ok (.invokevirtual 354, 3) := by decide +kernel
theorem dX7_playAfternoon_72 : decode cX7_playAfternoon 72 = .ok (.iload_n 2, 1) := by decide +kernel
theorem dX7_playAfternoon_73 : decode cX7_playAfternoon 73 = .ok (.if_icmp .ge 7, 3) := by decide +kernel
theorem dX7_playAfternoon_76 : decode cX7_playAfternoon 76 = .ok (.iconst 1, 1) := by decide +kernel
theorem dX7_playAfternoon_77 : decode cX7_playAfternoon 77 = .ok (.goto 4, 3) := by decide +kernel
theorem dX7_playAfternoon_80 : decode cX7_playAfternoon 80 = .ok (.iconst 0, 1) := by decide +kernel
theorem dX7_playAfternoon_81 : decode cX7_playAfternoon 81 = .ok (.istore 6, 2) := by decide +kernel
theorem dX7_playAfternoon_83 : decode cX7_playAfternoon 83 = .ok (.iconst 1, 1) := by decide +kernel
theorem dX7_playAfternoon_84 : decode cX7_playAfternoon 84 = .ok (.aload_n 0, 1) := by decide +kernel
theorem dX7_playAfternoon_85 : decode cX7_playAfternoon 85 = .ok (.bipush 20, 2) := by decide +kernel
theorem dX7_playAfternoon_87 : decode cX7_playAfternoon 87 = .ok (.invokevirtual 354, 3) := by decide +kernel
theorem dX7_playAfternoon_90 : decode cX7_playAfternoon 90 = .ok (.iadd, 1) := by decide +kernel
theorem dX7_playAfternoon_91 : decode cX7_playAfternoon 91 = .ok (.istore 7, 2) := by decide +kernel
theorem dX7_playAfternoon_93 : decode cX7_playAfternoon 93 = .ok (.aload_n 0, 1) := by decide +kernel
theorem dX7_playAfternoon_94 : decode cX7_playAfternoon 94 = .ok (.getfield 58, 3) := by decide +kernel
theorem dX7_playAfternoon_97 : decode cX7_playAfternoon 97 = .ok (.iload 6, 2) := by decide +kernel
theorem dX7_playAfternoon_99 : decode cX7_playAfternoon 99 = .ok (.ifCond .eq 8, 3) := by decide +kernel
theorem dX7_playAfternoon_102 : decode cX7_playAfternoon 102 = .ok (.iload 7, 2) := by decide +kernel
theorem dX7_playAfternoon_104 : decode cX7_playAfternoon 104 = .ok (.goto 6, 3) := by decide +kernel
theorem dX7_playAfternoon_107 : decode cX7_playAfternoon 107 = .ok (.iload 7, 2) := by decide +kernel
theorem dX7_playAfternoon_109 : decode cX7_playAfternoon 109 = .ok (.ineg, 1) := by decide +kernel
theorem dX7_playAfternoon_110 : decode cX7_playAfternoon 110 = .ok (.invokevirtual 357, 3) := by decide +kernel
theorem dX7_playAfternoon_113 : decode cX7_playAfternoon 113 = .ok (.pop, 1) := by decide +kernel
theorem dX7_playAfternoon_114 : decode cX7_playAfternoon 114 = .ok (.aload_n 0, 1) := by decide +kernel
theorem dX7_playAfternoon_115 : decode cX7_playAfternoon 115 = .ok (.getfield 58, 3) := by decide +kernel
theorem dX7_playAfternoon_118 : decode cX7_playAfternoon 118 = .ok (.ldc_w 262, 3) := by decide +kernel
theorem dX7_playAfternoon_121 : decode cX7_playAfternoon 121 = .ok (.invokevirtual 263, 3) := by decide +kernel
theorem dX7_playAfternoon_124 : decode cX7_playAfternoon 124 = .ok (.pop, 1) := by decide +kernel
theorem dX7_playAfternoon_125 : decode cX7_playAfternoon 125 = .ok (.iinc 4 1, 3) := by decide +kernel
theorem dX7_playAfternoon_128 : decode cX7_playAfternoon 128 = .ok (.goto (-109), 3) := by decide +kernel
theorem dX7_playAfternoon_131 : decode cX7_playAfternoon 131 = .ok (.return_, 1) := by decide +kernel
theorem dX7_draw_0 : decode cX7_draw 0 = .ok (.aload_n 0, 1) := by decide +kernel
theorem dX7_draw_1 : decode cX7_draw 1 = .ok (.aload_n 0, 1) := by decide +kernel
theorem dX7_draw_2 : decode cX7_draw 2 = .ok (.getfield 86, 3) := by decide +kernel
theorem dX7_draw_5 : decode cX7_draw 5 = .ok (.ldc_w 360, 3) := by decide +kernel
theorem dX7_draw_8 : decode cX7_draw 8 = .ok (.imul, 1) := by decide +kernel
theorem dX7_draw_9 : decode cX7_draw 9 = .ok (.sipush 12345, 3) := by decide +kernel
theorem dX7_draw_12 : decode cX7_draw 12 = .ok (.iadd, 1) := by decide +kernel
theorem dX7_draw_13 : decode cX7_draw 13 = .ok (.putfield 86, 3) := by decide +kernel
theorem dX7_draw_16 : decode cX7_draw 16 = .ok (.iload_n 1, 1) := by decide +kernel
theorem dX7_draw_17 : decode cX7_draw 17 = .ok (.ifCond .le 19, 3) := by decide +kernel
theorem dX7_draw_20 : decode cX7_draw 20 = .ok (.aload_n 0, 1) := by decide +kernel
theorem dX7_draw_21 : decode cX7_draw 21 = .ok (.getfield 86, 3) := by decide +kernel
theorem dX7_draw_24 : decode cX7_draw 24 = .ok (.bipush 16, 2) := by decide +kernel
theorem dX7_draw_26 : decode cX7_draw 26 = .ok (.iushr, 1) := by decide +kernel
theorem dX7_draw_27 : decode cX7_draw 27 = .ok (.sipush 32767, 3) := by decide +kernel
theorem dX7_draw_30 : decode cX7_draw 30 = .ok (.iand, 1) := by decide +kernel
theorem dX7_draw_31 : decode cX7_draw 31 = .ok (.iload_n 1, 1) := by decide +kernel
theorem dX7_draw_32 : decode cX7_draw 32 = .ok (.irem, 1) := by decide +kernel
theorem dX7_draw_33 : decode cX7_draw 33 = .ok (.goto 4, 3) := by decide +kernel
theorem dX7_draw_36 : decode cX7_draw 36 = .ok (.iconst 0, 1) := by decide +kernel
theorem dX7_draw_37 : decode cX7_draw 37 = .ok (.ireturn, 1) := by decide +kernel
theorem dX7_need_0 : decode cX7_need 0 = .ok (.iload_n 1, 1) := by decide +kernel
theorem dX7_need_1 : decode cX7_need 1 = .ok (.iload_n 2, 1) := by decide +kernel
theorem dX7_need_2 : decode cX7_need 2 = .ok (.if_icmp .lt 8, 3) := by decide +kernel
theorem dX7_need_5 : decode cX7_need 5 = .ok (.iload_n 1, 1) := by decide +kernel
theorem dX7_need_6 : decode cX7_need 6 = .ok (.iload_n 3, 1) := by decide +kernel
theorem dX7_need_7 : decode cX7_need 7 = .ok (.if_icmp .le 21, 3) := by decide +kernel
theorem dX7_need_10 : decode cX7_need 10 = .ok (.aload_n 0, 1) := by decide +kernel
theorem dX7_need_11 : decode cX7_need 11 = .ok (.dup, 1) := by decide +kernel
theorem dX7_need_12 : decode cX7_need 12 = .ok (.getfield 92, 3) := by decide +kernel
theorem dX7_need_15 : decode cX7_need 15 = .ok (.iconst 1, 1) := by decide +kernel
theorem dX7_need_16 : decode cX7_need 16 = .ok (.iadd, 1) := by decide +kernel
theorem dX7_need_17 : decode cX7_need 17 = .ok (.putfield 92, 3) := by decide +kernel
theorem dX7_need_20 : decode cX7_need 20 = .ok (.new 361, 3) := by decide +kernel
theorem dX7_need_23 : decode cX7_need 23 = .ok (.dup, 1) := by decide +kernel
theorem dX7_need_24 : decode cX7_need 24 = .ok (.invokespecial 363, 3) := by decide +kernel
theorem dX7_need_27 : decode cX7_need 27 = .ok (.athrow, 1) := by decide +kernel
theorem dX7_need_28 : decode cX7_need 28 = .ok (.return_, 1) := by decide +kernel
theorem dX7_needAfternoon_0 : decode cX7_needAfternoon 0 = .ok (.aload_n 0, 1) := by decide +kernel
theorem dX7_needAfternoon_1 : decode cX7_needAfternoon 1 = .ok (.iload_n 1, 1) := by decide +kernel
theorem dX7_needAfternoon_2 : decode cX7_needAfternoon 2 = .ok (.iconst 0, 1) := by decide +kernel
theorem dX7_needAfternoon_3 : decode cX7_needAfternoon 3 = .ok (.bipush 16, 2) := by decide +kernel
theorem dX7_needAfternoon_5 : decode cX7_needAfternoon 5 = .ok (.invokevirtual 102, 3) := by decide +kernel
theorem dX7_needAfternoon_8 : decode cX7_needAfternoon 8 = .ok (.aload_n 0, 1) := by decide +kernel
theorem dX7_needAfternoon_9 : decode cX7_needAfternoon 9 = .ok (.iload_n 2, 1) := by decide +kernel
theorem dX7_needAfternoon_10 : decode cX7_needAfternoon 10 = .ok (.iconst 1, 1) := by decide +kernel
theorem dX7_needAfternoon_11 : decode cX7_needAfternoon 11 = .ok (.bipush 48, 2) := by decide +kernel
theorem dX7_needAfternoon_13 : decode cX7_needAfternoon 13 = .ok (.invokevirtual 102, 3) := by decide +kernel
theorem dX7_needAfternoon_16 : decode cX7_needAfternoon 16 = .ok (.return_, 1) := by decide +kernel
theorem dX7_needTenant_0 : decode cX7_needTenant 0 = .ok (.iload_n 1, 1) := by decide +kernel
theorem dX7_needTenant_1 : decode cX7_needTenant 1 = .ok (.ifCond .lt 14, 3) := by decide +kernel
theorem dX7_needTenant_4 : decode cX7_needTenant 4 = .ok (.iload_n 1, 1) := by decide +kernel
theorem dX7_needTenant_5 : decode cX7_needTenant 5 = .ok (.aload_n 0, 1) := by decide +kernel
theorem dX7_needTenant_6 : decode cX7_needTenant 6 = .ok (.getfield 21, 3) := by decide +kernel
theorem dX7_needTenant_9 : decode cX7_needTenant 9 = .ok (.getfield 131, 3) := by decide +kernel
theorem dX7_needTenant_12 : decode cX7_needTenant 12 = .ok (.if_icmp .lt 21, 3) := by decide +kernel
theorem dX7_needTenant_15 : decode cX7_needTenant 15 = .ok (.aload_n 0, 1) := by decide +kernel
theorem dX7_needTenant_16 : decode cX7_needTenant 16 = .ok (.dup, 1) := by decide +kernel
theorem dX7_needTenant_17 : decode cX7_needTenant 17 = .ok (.getfield 89, 3) := by decide +kernel
theorem dX7_needTenant_20 : decode cX7_needTenant 20 = .ok (.iconst 1, 1) := by decide +kernel
theorem dX7_needTenant_21 : decode cX7_needTenant 21 = .ok (.iadd, 1) := by decide +kernel
theorem dX7_needTenant_22 : decode cX7_needTenant 22 = .ok (.putfield 89, 3) := by decide +kernel
theorem dX7_needTenant_25 : decode cX7_needTenant 25 = .ok (.new 364, 3) := by decide +kernel
theorem dX7_needTenant_28 : decode cX7_needTenant 28 = .ok (.dup, 1) := by decide +kernel
theorem dX7_needTenant_29 : decode cX7_needTenant 29 = .ok (.invokespecial 366, 3) := by decide +kernel
theorem dX7_needTenant_32 : decode cX7_needTenant 32 = .ok (.athrow, 1) := by decide +kernel
theorem dX7_needTenant_33 : decode cX7_needTenant 33 = .ok (.return_, 1) := by decide +kernel
theorem dX7_needView_0 : decode cX7_needView 0 = .ok (.iload_n 1, 1) := by decide +kernel
theorem dX7_needView_1 : decode cX7_needView 1 = .ok (.ifCond .lt 14, 3) := by decide +kernel
theorem dX7_needView_4 : decode cX7_needView 4 = .ok (.iload_n 1, 1) := by decide +kernel
theorem dX7_needView_5 : decode cX7_needView 5 = .ok (.aload_n 0, 1) := by decide +kernel
theorem dX7_needView_6 : decode cX7_needView 6 = .ok (.getfield 21, 3) := by decide +kernel
theorem dX7_needView_9 : decode cX7_needView 9 = .ok (.getfield 162, 3) := by decide +kernel
theorem dX7_needView_12 : decode cX7_needView 12 = .ok (.if_icmp .lt 21, 3) := by decide +kernel
theorem dX7_needView_15 : decode cX7_needView 15 = .ok (.aload_n 0, 1) := by decide +kernel
theorem dX7_needView_16 : decode cX7_needView 16 = .ok (.dup, 1) := by decide +kernel
theorem dX7_needView_17 : decode cX7_needView 17 = .ok (.getfield 89, 3) := by decide +kernel
theorem dX7_needView_20 : decode cX7_needView 20 = .ok (.iconst 1, 1) := by decide +kernel
theorem dX7_needView_21 : decode cX7_needView 21 = .ok (.iadd, 1) := by decide +kernel
theorem dX7_needView_22 : decode cX7_needView 22 = .ok (.putfield 89, 3) := by decide +kernel
theorem dX7_needView_25 : decode cX7_needView 25 = .ok (.new 364, 3) := by decide +kernel
theorem dX7_needView_28 : decode cX7_needView 28 = .ok (.dup, 1) := by decide +kernel
theorem dX7_needView_29 : decode cX7_needView 29 = .ok (.invokespecial 366, 3) := by decide +kernel
theorem dX7_needView_32 : decode cX7_needView 32 = .ok (.athrow, 1) := by decide +kernel
theorem dX7_needView_33 : decode cX7_needView 33 = .ok (.return_, 1) := by decide +kernel
