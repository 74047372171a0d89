theorem dX8_thrown_0 : decode cX8_thrown 0 = .ok (.aload_n 0, 1) := by decide +kernel
theorem dX8_thrown_1 : decode cX8_thrown 1 = .ok (.getfield 3, 3) := by decide +kernel
theorem dX8_thrown_4 : decode cX8_thrown 4 = .ok (.ireturn, 1) := by decide +kernel
theorem dX8_may_0 : decode cX8_may 0 = .ok (.iload_n 1, 1) := by decide +kernel
theorem dX8_may_1 : decode cX8_may 1 = .ok (.ifCond .ne 25, 3) := by decide +kernel
theorem dX8_may_4 : decode cX8_may 4 = .ok (.aload_n 0, 1) := by decide +kernel
theorem dX8_may_5 : decode cX8_may 5 = .ok (.getfield 3, 3) := by decide +kernel
theorem dX8_may_8 : decode cX8_may 8 = .ok (.ifCond .ne 18, 3) := by decide +kernel
theorem dX8_may_11 : decode cX8_may 11 = .ok (.aload_n 0, 1) := by decide +kernel
theorem dX8_may_12 : decode cX8_may 12 = .ok (.iload_n 2, 1) := by decide +kernel
theorem dX8_may_13 : decode cX8_may 13 = .ok (.putfield 3, 3) := by decide +kernel
theorem dX8_may_16 : decode cX8_may 16 = .ok (.aload_n 0, 1) := by decide +kernel
theorem dX8_may_17 : decode cX8_may 17 = .ok (.getfield 7, 3) := by decide +kernel
theorem dX8_may_20 : decode cX8_may 20 = .ok (.iload_n 3, 1) := by decide +kernel
theorem dX8_may_21 : decode cX8_may 21 = .ok (.dup2, 1) := by decide +kernel
theorem dX8_may_22 : decode cX8_may 22 = .ok (.iaload, 1) := by decide +kernel
theorem dX8_may_23 : decode cX8_may 23 = .ok (.iconst 1, 1) := by decide +kernel
theorem dX8_may_24 : decode cX8_may 24 = .ok (.iadd, 1) := by decide +kernel
theorem dX8_may_25 : decode cX8_may 25 = .ok (.iastore, 1) := by decide +kernel
theorem dX8_may_26 : decode cX8_may 26 = .ok (.aload_n 0, 1) := by decide +kernel
theorem dX8_may_27 : decode cX8_may 27 = .ok (.getfield 3, 3) := by decide +kernel
theorem dX8_may_30 : decode cX8_may 30 = .ok (.ifCond .ne 7, 3) := by decide +kernel
theorem dX8_may_33 : decode cX8_may 33 = .ok (.iconst 1, 1) := by decide +kernel
theorem dX8_may_34 : decode cX8_may 34 = .ok (.goto 4, 3) := by decide +kernel
theorem dX8_may_37 : decode cX8_may 37 = .ok (.iconst 0, 1) := by decide +kernel
theorem dX8_may_38 : decode cX8_may 38 = .ok (.ireturn, 1) := by decide +kernel
theorem dX8_within_0 : decode cX8_within 0 = .ok (.iload_n 0, 1) := by decide +kernel
theorem dX8_within_1 : decode cX8_within 1 = .ok (.iload_n 1, 1) := by decide +kernel
theorem dX8_within_2 : decode cX8_within 2 = .ok (.if_icmp .lt 12, 3) := by decide +kernel
theorem dX8_within_5 : decode cX8_within 5 = .ok (.iload_n 0, 1) := by decide +kernel
theorem dX8_within_6 : decode cX8_within 6 = .ok (.iload_n 2, 1) := by decide +kernel
theorem dX8_within_7 : decode cX8_within 7 = .ok (.if_icmp .gt 7, 3) := by decide +kernel
theorem dX8_within_10 : decode cX8_within 10 = .ok (.iconst 1, 1) := by decide +kernel
theorem dX8_within_11 : decode cX8_within 11 = .ok (.goto 4, 3) := by decide +kernel
theorem dX8_within_14 : decode cX8_within 14 = .ok (.iconst 0, 1) := by decide +kernel
theorem dX8_within_15 : decode cX8_within 15 = .ok (.ireturn, 1) := by decide +kernel
theorem dX8_init_0 : decode cX8_init 0 = .ok (.aload_n 0, 1) := by decide +kernel
theorem dX8_init_1 : decode cX8_init 1 = .ok (.invokespecial 11, 3) := by decide +kernel
theorem dX8_init_4 : decode cX8_init 4 = .ok (.aload_n 0, 1) := by decide +kernel
theorem dX8_init_5 : decode cX8_init 5 = .ok (.iconst 2, 1) := by decide +kernel
theorem dX8_init_6 : decode cX8_init 6 = .ok (.newarray .int, 2) := by decide +kernel
theorem dX8_init_8 : decode cX8_init 8 = .ok (.putfield 7, 3) := by decide +kernel
theorem dX8_init_11 : decode cX8_init 11 = .ok (.aload_n 0, 1) := by decide +kernel
theorem dX8_init_12 : decode cX8_init 12 = .ok (.iconst (-1), 1) := by decide +kernel
theorem dX8_init_13 : decode cX8_init 13 = .ok (.putfield 17, 3) := by decide +kernel
theorem dX8_init_16 : decode cX8_init 16 = .ok (.aload_n 0, 1) := by decide +kernel
theorem dX8_init_17 : decode cX8_init 17 = .ok (.sipush 600, 3) := by decide +kernel
theorem dX8_init_20 : decode cX8_init 20 = .ok (.newarray .int, 2) := by decide +kernel
theorem dX8_init_22 : decode cX8_init 22 = .ok (.putfield 20, 3) := by decide +kernel
theorem dX8_init_25 : decode cX8_init 25 = .ok (.aload_n 0, 1) := by decide +kernel
theorem dX8_init_26 : decode cX8_init 26 = .ok (.bipush 16, 2) := by decide +kernel
theorem dX8_init_28 : decode cX8_init 28 = .ok (.newarray .int, 2) := by decide +kernel
theorem dX8_init_30 : decode cX8_init 30 = .ok (.putfield 23, 3) := by decide +kernel
theorem dX8_init_33 : decode cX8_init 33 = .ok (.aload_n 0, 1) := by decide +kernel
theorem dX8_init_34 : decode cX8_init 34 = .ok (.bipush 10, 2) := by decide +kernel
theorem dX8_init_36 : decode cX8_init 36 = .ok (.newarray .int, 2) := by decide +kernel
theorem dX8_init_38 : decode cX8_init 38 = .ok (.putfield 26, 3) := by decide +kernel
theorem dX8_init_41 : decode cX8_init 41 = .ok (.aload_n 0, 1) := by decide +kernel
theorem dX8_init_42 : decode cX8_init 42 = .ok (.bipush 16, 2) := by decide +kernel
theorem dX8_init_44 : decode cX8_init 44 = .ok (.newarray .int, 2) := by decide +kernel
theorem dX8_init_46 : decode cX8_init 46 = .ok (.putfield 29, 3) := by decide +kernel
theorem dX8_init_49 : decode cX8_init 49 = .ok (.aload_n 0, 1) := by decide +kernel
theorem dX8_init_50 : decode cX8_init 50 = .ok (.bipush 10, 2) := by decide +kernel
theorem dX8_init_52 : decode cX8_init 52 = .ok (.newarray .int, 2) := by decide +kernel
theorem dX8_init_54 : decode cX8_init 54 = .ok (.putfield 32, 3) := by decide +kernel
theorem dX8_init_57 : decode cX8_init 57 = .ok (.aload_n 0, 1) := by decide +kernel
theorem dX8_init_58 : decode cX8_init 58 = .ok (.sipush 150, 3) := by decide +kernel
theorem dX8_init_61 : decode cX8_init 61 = .ok (.newarray .int, 2) := by decide +kernel
theorem dX8_init_63 : decode cX8_init 63 = .ok (.putfield 35, 3) := by decide +kernel
theorem dX8_init_66 : decode cX8_init 66 = .ok (.aload_n 0, 1) := by decide +kernel
theorem dX8_init_67 : decode cX8_init 67 = .ok (.sipush 150, 3) := by decide +kernel
theorem dX8_init_70 : decode cX8_init 70 = .ok (.newarray .int, 2) := by decide +kernel
theorem dX8_init_72 : decode cX8_init 72 = .ok (.putfield 38, 3) := by decide +kernel
theorem dX8_init_75 : decode cX8_init 75 = .ok (.aload_n 0, 1) := by decide +kernel
theorem dX8_init_76 : decode cX8_init 76 = .ok (.sipush 150, 3) := by decide +kernel
theorem dX8_init_79 : decode cX8_init 79 = .ok (.newarray .int, 2) := by decide +kernel
theorem dX8_init_81 : decode cX8_init 81 = .ok (.putfield 41, 3) := by decide +kernel
theorem dX8_init_84 : decode cX8_init 84 = .ok (.aload_n 0, 1) := by decide +kernel
theorem dX8_init_85 : decode cX8_init 85 = .ok (.sipush 150, 3) := by decide +kernel
theorem dX8_init_88 : decode cX8_init 88 = .ok (.newarray .int, 2) := by decide +kernel
theorem dX8_init_90 : decode cX8_init 90 = .ok (.putfield 44, 3) := by decide +kernel
theorem dX8_init_93 : decode cX8_init 93 = .ok (.aload_n 0, 1) := by decide +kernel
theorem dX8_init_94 : decode cX8_init 94 = .ok (.sipush 150, 3) := by decide +kernel
theorem dX8_init_97 : decode cX8_init 97 = .ok (.newarray .int, 2) := by decide +kernel
theorem dX8_init_99 : decode cX8_init 99 = .ok (.putfield 47, 3) := by decide +kernel
theorem dX8_init_102 : decode cX8_init 102 = .ok (.aload_n 0, 1) := by decide +kernel
theorem dX8_init_103 : decode cX8_init 103 = .ok (.bipush 8, 2) := by decide +kernel
theorem dX8_init_105 : decode cX8_init 105 = .ok (.newarray .int, 2) := by decide +kernel
theorem dX8_init_107 : decode cX8_init 107 = .ok (.putfield 50, 3) := by decide +kernel
theorem dX8_init_110 : decode cX8_init 110 = .ok (.aload_n 0, 1) := by decide +kernel
theorem dX8_init_111 : decode cX8_init 111 = .ok (.sipush 200, 3) := by decide +kernel
theorem dX8_init_114 : decode cX8_init 114 = .ok (.newarray .int, 2) := by decide +kernel
theorem dX8_init_116 : decode cX8_init 116 = .ok (.putfield 53, 3) := by decide +kernel
theorem dX8_init_119 : decode cX8_init 119 = .ok (.aload_n 0, 1) := by decide +kernel
theorem dX8_init_120 : decode cX8_init 120 = .ok (.sipush 200, 3) := by decide +kernel
theorem dX8_init_123 : decode cX8_init 123 = .ok (.newarray .int, 2) := by decide +kernel
theorem dX8_init_125 : decode cX8_init 125 = .ok (.putfield 56, 3) := by decide +kernel
theorem dX8_init_128 : decode cX8_init 128 = .ok (.aload_n 0, 1) := by decide +kernel
theorem dX8_init_129 : decode cX8_init 129 = .ok (.bipush 28, 2) := by decide +kernel
theorem dX8_init_131 : decode cX8_init 131 = .ok (.newarray .int, 2) := by decide +kernel
theorem dX8_init_133 : decode cX8_init 133 = .ok (.putfield 59, 3) := by decide +kernel
theorem dX8_init_136 : decode cX8_init 136 = .ok (.aload_n 0, 1) := by decide +kernel
theorem dX8_init_137 : decode cX8_init 137 = .ok (.bipush 28, 2) := by decide +kernel
theorem dX8_init_139 : decode cX8_init 139 = .ok (.newarray .int, 2) := by decide +kernel
theorem dX8_init_141 : decode cX8_init 141 = .ok (.putfield 62, 3) := by decide +kernel
theorem dX8_init_144 : decode cX8_init 144 = .ok (.aload_n 0, 1) := by decide +kernel
theorem dX8_init_145 : decode cX8_init 145 = .ok (.sipush 448, 3) := by decide +kernel
theorem dX8_init_148 : decode cX8_init 148 = .ok (.newarray .int, 2) := by decide +kernel
theorem dX8_init_150 : decode cX8_init 150 = .ok (.putfield 65, 3) := by decide +kernel
theorem dX8_init_153 : decode cX8_init 153 = .ok (.aload_n 0, 1) := by decide +kernel
theorem dX8_init_154 : decode cX8_init 154 = .ok (.bipush 8, 2) := by decide +kernel
theorem dX8_init_156 : decode cX8_init 156 = .ok (.newarray .int, 2) := by decide +kernel
theorem dX8_init_158 : decode cX8_init 158 = .ok (.putfield 68, 3) := by decide +kernel
theorem dX8_init_161 : decode cX8_init 161 = .ok (.aload_n 0, 1) := by decide +kernel
theorem dX8_init_162 : decode cX8_init 162 = .ok (.bipush 8, 2) := by decide +kernel
theorem dX8_init_164 : decode cX8_init 164 = .ok (.newarray .int, 2) := by decide +kernel
theorem dX8_init_166 : decode cX8_init 166 = .ok (.putfield 71, 3) := by decide +kernel
theorem dX8_init_169 : decode cX8_init 169 = .ok (.aload_n 0, 1) := by decide +kernel
theorem dX8_init_170 : decode cX8_init 170 = .ok (.sipush 1278, 3) := by decide +kernel
theorem dX8_init_173 : decode cX8_init 173 = .ok (.newarray .int, 2) := by decide +kernel
theorem dX8_init_175 : decode cX8_init 175 = .ok (.putfield 74, 3) := by decide +kernel
theorem dX8_init_178 : decode cX8_init 178 = .ok (.aload_n 0, 1) := by decide +kernel
theorem dX8_init_179 : decode cX8_init 179 = .ok (.sipush 800, 3) := by decide +kernel
theorem dX8_init_182 : decode cX8_init 182 = .ok (.newarray .int, 2) := by decide +kernel
theorem dX8_init_184 : decode cX8_init 184 = .ok (.putfield 77, 3) := by decide +kernel
theorem dX8_init_187 : decode cX8_init 187 = .ok (.aload_n 0, 1) := by decide +kernel
theorem dX8_init_188 : decode cX8_init 188 = .ok (.bipush 6, 2) := by decide +kernel
theorem dX8_init_190 : decode cX8_init 190 = .ok (.newarray .int, 2) := by decide +kernel
theorem dX8_init_192 : decode cX8_init 192 = .ok (.putfield 80, 3) := by decide +kernel
theorem dX8_init_195 : decode cX8_init 195 = .ok (.aload_n 0, 1) := by decide +kernel
theorem dX8_init_196 : decode cX8_init 196 = .ok (.sipush 1000, 3) := by decide +kernel
theorem dX8_init_199 : decode cX8_init 199 = .ok (.newarray .boolean, 2) := by decide +kernel
theorem dX8_init_201 : decode cX8_init 201 = .ok (.putfield 83, 3) := by decide +kernel
theorem dX8_init_204 : decode cX8_init 204 = .ok (.aload_n 0, 1) := by decide +kernel
theorem dX8_init_205 : decode cX8_init 205 = .ok (.sipush 1431, 3) := by decide +kernel
theorem dX8_init_208 : decode cX8_init 208 = .ok (.newarray .int, 2) := by decide +kernel
theorem dX8_init_210 : decode cX8_init 210 = .ok (.putfield 87, 3) := by decide +kernel
theorem dX8_init_213 : decode cX8_init 213 = .ok (.aload_n 0, 1) := by decide +kernel
theorem dX8_init_214 : decode cX8_init 214 = .ok (.invokevirtual 90, 3) := by decide +kernel
theorem dX8_init_217 : decode cX8_init 217 = .ok (.aload_n 0, 1) := by decide +kernel
theorem dX8_init_218 : decode cX8_init 218 = .ok (.invokevirtual 93, 3) := by decide +kernel
theorem dX8_init_221 : decode cX8_init 221 = .ok (.return_, 1) := by decide +kernel
theorem dX8_feed_0 : decode cX8_feed 0 = .ok (.aload_n 0, 1) := by decide +kernel
theorem dX8_feed_1 : decode cX8_feed 1 = .ok (.iconst 0, 1) := by decide +kernel
theorem dX8_feed_2 : decode cX8_feed 2 = .ok (.putfield 3, 3) := by decide +kernel
theorem dX8_feed_5 : decode cX8_feed 5 = .ok (.aload_n 0, 1) := by decide +kernel
theorem dX8_feed_6 : decode cX8_feed 6 = .ok (.getfield 96, 3) := by decide +kernel
theorem dX8_feed_9 : decode cX8_feed 9 = .ok (.bipush 20, 2) := by decide +kernel
theorem dX8_feed_11 : decode cX8_feed 11 = .ok (.iadd, 1) := by decide +kernel
theorem dX8_feed_12 : decode cX8_feed 12 = .ok (.sipush 600, 3) := by decide +kernel
theorem dX8_feed_15 : decode cX8_feed 15 = .ok (.if_icmp .le 5, 3) := by decide +kernel
theorem dX8_feed_18 : decode cX8_feed 18 = .ok (.iconst (-1), 1) := by decide +kernel
theorem dX8_feed_19 : decode cX8_feed 19 = .ok (.ireturn, 1) := by decide +kernel
theorem dX8_feed_20 : decode cX8_feed 20 = .ok (.iconst 0, 1) := by decide +kernel
theorem dX8_feed_21 : decode cX8_feed 21 = .ok (.istore 6, 2) := by decide +kernel
theorem dX8_feed_23 : decode cX8_feed 23 = .ok (.iload 6, 2) := by decide +kernel
theorem dX8_feed_25 : decode cX8_feed 25 = .ok (.bipush 20, 2) := by decide +kernel
theorem dX8_feed_27 : decode cX8_feed 27 = .ok (.if_icmp .ge 93, 3) := by decide +kernel
theorem dX8_feed_30 : decode cX8_feed 30 = .ok (.iload 6, 2) := by decide +kernel
theorem dX8_feed_32 : decode cX8_feed 32 = .ok (.iconst 4, 1) := by decide +kernel
theorem dX8_feed_33 : decode cX8_feed 33 = .ok (.if_icmp .ge 7, 3) := by decide +kernel
theorem dX8_feed_36 : decode cX8_feed 36 = .ok (.iload_n 1, 1) := by decide +kernel
theorem dX8_feed_37 : decode cX8_feed 37 = .ok (.goto 39, 3) := by decide +kernel
theorem dX8_feed_40 : decode cX8_feed 40 = .ok (.iload 6, 2) := by decide +kernel
theorem dX8_feed_42 : decode cX8_feed 42 = .ok (.bipush 8, 2) := by decide +kernel
theorem dX8_feed_44 : decode cX8_feed 44 = .ok (.if_icmp .ge 7, 3) := by decide +kernel
theorem dX8_feed_47 : decode cX8_feed 47 = .ok (.iload_n 2, 1) := by decide +kernel
theorem dX8_feed_48 : decode cX8_feed 48 = .ok (.goto 28, 3) := by decide +kernel
theorem dX8_feed_51 : decode cX8_feed 51 = .ok (.iload 6, 2) := by decide +kernel
theorem dX8_feed_53 : decode cX8_feed 53 = .ok (.bipush 12, 2) := by decide +kernel
theorem dX8_feed_55 : decode cX8_feed 55 = .ok (.if_icmp .ge 7, 3) := by decide +kernel
theorem dX8_feed_58 : decode cX8_feed 58 = .ok (.iload_n 3, 1) := by decide +kernel
theorem dX8_feed_59 : decode cX8_feed 59 = .ok (.goto 17, 3) := by decide +kernel
theorem dX8_feed_62 : decode cX8_feed 62 = .ok (.iload 6, 2) := by decide +kernel
theorem dX8_feed_64 : decode cX8_feed 64 = .ok (.bipush 16, 2) := by decide +kernel
theorem dX8_feed_66 : decode cX8_feed 66 = .ok (.if_icmp .ge 8, 3) := by decide +kernel
theorem dX8_feed_69 : decode cX8_feed 69 = .ok (.iload 4, 2) := by decide +kernel
theorem dX8_feed_71 : decode cX8_feed 71 = .ok (.goto 5, 3) := by decide +kernel
theorem dX8_feed_74 : decode cX8_feed 74 = .ok (.iload 5, 2) := by decide +kernel
theorem dX8_feed_76 : decode cX8_feed 76 = .ok (.istore 7, 2) := by decide +kernel
theorem dX8_feed_78 : decode cX8_feed 78 = .ok (.aload_n 0, 1) := by decide +kernel
theorem dX8_feed_79 : decode cX8_feed 79 = .ok (.getfield 20, 3) := by decide +kernel
theorem dX8_feed_82 : decode cX8_feed 82 = .ok (.aload_n 0, 1) := by decide +kernel
theorem dX8_feed_83 : decode cX8_feed 83 = .ok (.getfield 96, 3) := by decide +kernel
theorem dX8_feed_86 : decode cX8_feed 86 = .ok (.iload 7, 2) := by decide +kernel
theorem dX8_feed_88 : decode cX8_feed 88 = .ok (.bipush 24, 2) := by decide +kernel
theorem dX8_feed_90 : decode cX8_feed 90 = .ok (.bipush 8, 2) := by decide +kernel
theorem dX8_feed_92 : decode cX8_feed 92 = .ok (.iload 6, 2) := by decide +kernel
theorem dX8_feed_94 : decode cX8_feed 94 = .ok (.iconst 4, 1) := by decide +kernel
theorem dX8_feed_95 : decode cX8_feed 95 = .ok (.irem, 1) := by decide +kernel
theorem dX8_feed_96 : decode cX8_feed 96 = .ok (.imul, 1) := by decide +kernel
theorem dX8_feed_97 : decode cX8_feed 97 = .ok (.isub, 1) := by decide +kernel
theorem dX8_feed_98 : decode cX8_feed 98 = .ok (.ishr, 1) := by decide +kernel
theorem dX8_feed_99 : decode cX8_feed 99 = .ok (.sipush 255, 3) := by decide +kernel
theorem dX8_feed_102 : decode cX8_feed 102 = .ok (.iand, 1) := by decide +kernel
theorem dX8_feed_103 : decode cX8_feed 103 = .ok (.iastore, 1) := by decide +kernel
theorem dX8_feed_104 : decode cX8_feed 104 = .ok (.aload_n 0, 1) := by decide +kernel
theorem dX8_feed_105 : decode cX8_feed 105 = .ok (.dup, 1) := by decide +kernel
theorem dX8_feed_106 : decode cX8_feed 106 = .ok (.getfield 96, 3) := by decide +kernel
theorem dX8_feed_109 : decode cX8_feed 109 = .ok (.iconst 1, 1) := by decide +kernel
theorem dX8_feed_110 : decode cX8_feed 110 = .ok (.iadd, 1) := by decide +kernel
theorem dX8_feed_111 : decode cX8_feed 111 = .ok (.putfield 96, 3) := by decide +kernel
theorem dX8_feed_114 : decode cX8_feed 114 = .ok (.iinc 6 1, 3) := by decide +kernel
theorem dX8_feed_117 : decode cX8_feed 117 = .ok (.goto (-94), 3) := by decide +kernel
theorem dX8_feed_120 : decode cX8_feed 120 = .ok (.aload_n 0, 1) := by decide +kernel
theorem dX8_feed_121 : decode cX8_feed 121 = .ok (.getfield 96, 3) := by decide +kernel
theorem dX8_feed_124 : decode cX8_feed 124 = .ok (.ireturn, 1) := by decide +kernel
theorem dX8_fine_0 : decode cX8_fine 0 = .ok (.aload_n 0, 1) := by decide +kernel
theorem dX8_fine_1 : decode cX8_fine 1 = .ok (.getfield 99, 3) := by decide +kernel
theorem dX8_fine_4 : decode cX8_fine 4 = .ok (.iconst (-1), 1) := by decide +kernel
theorem dX8_fine_5 : decode cX8_fine 5 = .ok (.if_icmp .ne 7, 3) := by decide +kernel
theorem dX8_fine_8 : decode cX8_fine 8 = .ok (.iconst 1, 1) := by decide +kernel
theorem dX8_fine_9 : decode cX8_fine 9 = .ok (.goto 4, 3) := by decide +kernel
theorem dX8_fine_12 : decode cX8_fine 12 = .ok (.iconst 0, 1) := by decide +kernel
theorem dX8_fine_13 : decode cX8_fine 13 = .ok (.ireturn, 1) := by decide +kernel
theorem dX8_wrong_0 : decode cX8_wrong 0 = .ok (.aload_n 0, 1) := by decide +kernel
theorem dX8_wrong_1 : decode cX8_wrong 1 = .ok (.getfield 99, 3) := by decide +kernel
theorem dX8_wrong_4 : decode cX8_wrong 4 = .ok (.iconst (-1), 1) := by decide +kernel
theorem dX8_wrong_5 : decode cX8_wrong 5 = .ok (.if_icmp .eq 4, 3) := by decide +kernel
theorem dX8_wrong_8 : decode cX8_wrong 8 = .ok (.return_, 1) := by decide +kernel
theorem dX8_wrong_9 : decode cX8_wrong 9 = .ok (.aload_n 0, 1) := by decide +kernel
theorem dX8_wrong_10 : decode cX8_wrong 10 = .ok (.iload_n 2, 1) := by decide +kernel
theorem dX8_wrong_11 : decode cX8_wrong 11 = .ok (.putfield 99, 3) := by decide +kernel
theorem dX8_wrong_14 : decode cX8_wrong 14 = .ok (.aload_n 0, 1) := by decide +kernel
theorem dX8_wrong_15 : decode cX8_wrong 15 = .ok (.iload_n 1, 1) := by decide +kernel
theorem dX8_wrong_16 : decode cX8_wrong 16 = .ok (.putfield 102, 3) := by decide +kernel
theorem dX8_wrong_19 : decode cX8_wrong 19 = .ok (.return_, 1) := by decide +kernel
theorem dX8_here_0 : decode cX8_here 0 = .ok (.aload_n 0, 1) := by decide +kernel
theorem dX8_here_1 : decode cX8_here 1 = .ok (.getfield 105, 3) := by decide +kernel
theorem dX8_here_4 : decode cX8_here 4 = .ok (.aload_n 0, 1) := by decide +kernel
theorem dX8_here_5 : decode cX8_here 5 = .ok (.getfield 108, 3) := by decide +kernel
theorem dX8_here_8 : decode cX8_here 8 = .ok (.if_icmp .ge 30, 3) := by decide +kernel
theorem dX8_here_11 : decode cX8_here 11 = .ok (.aload_n 0, 1) := by decide +kernel
theorem dX8_here_12 : decode cX8_here 12 = .ok (.getfield 20, 3) := by decide +kernel
theorem dX8_here_15 : decode cX8_here 15 = .ok (.aload_n 0, 1) := by decide +kernel
theorem dX8_here_16 : decode cX8_here 16 = .ok (.getfield 105, 3) := by decide +kernel
theorem dX8_here_19 : decode cX8_here 19 = .ok (.iaload, 1) := by decide +kernel
theorem dX8_here_20 : decode cX8_here 20 = .ok (.bipush 32, 2) := by decide +kernel
theorem dX8_here_22 : decode cX8_here 22 = .ok (.if_icmp .ne 16, 3) := by decide +kernel
theorem dX8_here_25 : decode cX8_here 25 = .ok (.aload_n 0, 1) := by decide +kernel
theorem dX8_here_26 : decode cX8_here 26 = .ok (.dup, 1) := by decide +kernel
theorem dX8_here_27 : decode cX8_here 27 = .ok (.getfield 105, 3) := by decide +kernel
theorem dX8_here_30 : decode cX8_here 30 = .ok (.iconst 1, 1) := by decide +kernel
theorem dX8_here_31 : decode cX8_here 31 = .ok (.iadd, 1) := by decide +kernel
theorem dX8_here_32 : decode cX8_here 32 = .ok (.putfield 105, 3) := by decide +kernel
theorem dX8_here_35 : decode cX8_here 35 = .ok (.goto (-35), 3) := by decide +kernel
theorem dX8_here_38 : decode cX8_here 38 = .ok (.aload_n 0, 1) := by decide +kernel
theorem dX8_here_39 : decode cX8_here 39 = .ok (.getfield 105, 3) := by decide +kernel
theorem dX8_here_42 : decode cX8_here 42 = .ok (.aload_n 0, 1) := by decide +kernel
theorem dX8_here_43 : decode cX8_here 43 = .ok (.getfield 108, 3) := by decide +kernel
theorem dX8_here_46 : decode cX8_here 46 = .ok (.if_icmp .ge 15, 3) := by decide +kernel
theorem dX8_here_49 : decode cX8_here 49 = .ok (.aload_n 0, 1) := by decide +kernel
theorem dX8_here_50 : decode cX8_here 50 = .ok (.getfield 20, 3) := by decide +kernel
theorem dX8_here_53 : decode cX8_here 53 = .ok (.aload_n 0, 1) := by decide +kernel
theorem dX8_here_54 : decode cX8_here 54 = .ok (.getfield 105, 3) := by decide +kernel
theorem dX8_here_57 : decode cX8_here 57 = .ok (.iaload, 1) := by decide +kernel
theorem dX8_here_58 : decode cX8_here 58 = .ok (.goto 4, 3) := by decide +kernel
theorem dX8_here_61 : decode cX8_here 61 = .ok (.iconst 0, 1) := by decide +kernel
theorem dX8_here_62 : decode cX8_here 62 = .ok (.ireturn, 1) := by decide +kernel
theorem dX8_isSmall_0 : decode cX8_isSmall 0 = .ok (.iload_n 0, 1) := by decide +kernel
theorem dX8_isSmall_1 : decode cX8_isSmall 1 = .ok (.bipush 97, 2) := by decide +kernel
theorem dX8_isSmall_3 : decode cX8_isSmall 3 = .ok (.if_icmp .lt 13, 3) := by decide +kernel
theorem dX8_isSmall_6 : decode cX8_isSmall 6 = .ok (.iload_n 0, 1) := by decide +kernel
theorem dX8_isSmall_7 : decode cX8_isSmall 7 = .ok (.bipush 122, 2) := by decide +kernel
theorem dX8_isSmall_9 : decode cX8_isSmall 9 = .ok (.if_icmp .gt 7, 3) := by decide +kernel
theorem dX8_isSmall_12 : decode cX8_isSmall 12 = .ok (.iconst 1, 1) := by decide +kernel
theorem dX8_isSmall_13 : decode cX8_isSmall 13 = .ok (.goto 4, 3) := by decide +kernel
theorem dX8_isSmall_16 : decode cX8_isSmall 16 = .ok (.iconst 0, 1) := by decide +kernel
theorem dX8_isSmall_17 : decode cX8_isSmall 17 = .ok (.ireturn, 1) := by decide +kernel
theorem dX8_isDigit_0 : decode cX8_isDigit 0 = .ok (.iload_n 0, 1) := by decide +kernel
theorem dX8_isDigit_1 : decode cX8_isDigit 1 = .ok (.bipush 48, 2) := by decide +kernel
theorem dX8_isDigit_3 : decode cX8_isDigit 3 = .ok (.if_icmp .lt 13, 3) := by decide +kernel
theorem dX8_isDigit_6 : decode cX8_isDigit 6 = .ok (.iload_n 0, 1) := by decide +kernel
theorem dX8_isDigit_7 : decode cX8_isDigit 7 = .ok (.bipush 57, 2) := by decide +kernel
theorem dX8_isDigit_9 : decode cX8_isDigit 9 = .ok (.if_icmp .gt 7, 3) := by decide +kernel
theorem dX8_isDigit_12 : decode cX8_isDigit 12 = .ok (.iconst 1, 1) := by decide +kernel
theorem dX8_isDigit_13 : decode cX8_isDigit 13 = .ok (.goto 4, 3) := by decide +kernel
theorem dX8_isDigit_16 : decode cX8_isDigit 16 = .ok (.iconst 0, 1) := by decide +kernel
theorem dX8_isDigit_17 : decode cX8_isDigit 17 = .ok (.ireturn, 1) := by decide +kernel
theorem dX8_word_0 : decode cX8_word 0 = .ok (.aload_n 0, 1) := by decide +kernel
theorem dX8_word_1 : decode cX8_word 1 = .ok (.invokevirtual 111, 3) := by decide +kernel
theorem dX8_word_4 : decode cX8_word 4 = .ok (.pop, 1) := by decide +kernel
theorem dX8_word_5 : decode cX8_word 5 = .ok (.iconst 0, 1) := by decide +kernel
theorem dX8_word_6 : decode cX8_word 6 = .ok (.istore_n 1, 1) := by decide +kernel
theorem dX8_word_7 : decode cX8_word 7 = .ok (.iconst 0, 1) := by decide +kernel
theorem dX8_word_8 : decode cX8_word 8 = .ok (.istore_n 2, 1) := by decide +kernel
theorem dX8_word_9 : decode cX8_word 9 = .ok (.aload_n 0, 1) := by decide +kernel
theorem dX8_word_10 : decode cX8_word 10 = .ok (.getfield 105, 3) := by decide +kernel
theorem dX8_word_13 : decode cX8_word 13 = .ok (.istore_n 3, 1) := by decide +kernel
theorem dX8_word_14 : decode cX8_word 14 = .ok (.iload_n 3, 1) := by decide +kernel
theorem dX8_word_15 : decode cX8_word 15 = .ok (.aload_n 0, 1) := by decide +kernel
theorem dX8_word_16 : decode cX8_word 16 = .ok (.getfield 108, 3) := by decide +kernel
theorem dX8_word_19 : decode cX8_word 19 = .ok (.if_icmp .ge 48, 3) := by decide +kernel
theorem dX8_word_22 : decode cX8_word 22 = .ok (.aload_n 0, 1) := by decide +kernel
theorem dX8_word_23 : decode cX8_word 23 = .ok (.getfield 20, 3) := by decide +kernel
theorem dX8_word_26 : decode cX8_word 26 = .ok (.iload_n 3, 1) := by decide +kernel
theorem dX8_word_27 : decode cX8_word 27 = .ok (.iaload, 1) := by decide +kernel
theorem dX8_word_28 : decode cX8_word 28 = .ok (.invokestatic 115, 3) := by decide +kernel
theorem dX8_word_31 : decode cX8_word 31 = .ok (.ifCond .eq 36, 3) := by decide +kernel
theorem dX8_word_34 : decode cX8_word 34 = .ok (.iload_n 2, 1) := by decide +kernel
theorem dX8_word_35 : decode cX8_word 35 = .ok (.bipush 6, 2) := by decide +kernel
theorem dX8_word_37 : decode cX8_word 37 = .ok (.if_icmp .ge 19, 3) := by decide +kernel
theorem dX8_word_40 : decode cX8_word 40 = .ok (.iload_n 1, 1) := by decide +kernel
theorem dX8_word_41 : decode cX8_word 41 = .ok (.iconst 5, 1) := by decide +kernel
theorem dX8_word_42 : decode cX8_word 42 = .ok (.ishl, 1) := by decide +kernel
theorem dX8_word_43 : decode cX8_word 43 = .ok (.aload_n 0, 1) := by decide +kernel
theorem dX8_word_44 : decode cX8_word 44 = .ok (.getfield 20, 3) := by decide +kernel
theorem dX8_word_47 : decode cX8_word 47 = .ok (.iload_n 3, 1) := by decide +kernel
theorem dX8_word_48 : decode cX8_word 48 = .ok (.iaload, 1) := by decide +kernel
theorem dX8_word_49 : decode cX8_word 49 = .ok (.bipush 96, 2) := by decide +kernel
theorem dX8_word_51 : decode cX8_word 51 = .ok (.isub, 1) := by decide +kernel
theorem dX8_word_52 : decode cX8_word 52 = .ok (.ior, 1) := by decide +kernel
theorem dX8_word_53 : decode cX8_word 53 = .ok (.goto 4, 3) := by decide +kernel
theorem dX8_word_56 : decode cX8_word 56 = .ok (.iconst 0, 1) := by decide +kernel
theorem dX8_word_57 : decode cX8_word 57 = .ok (.istore_n 1, 1) := by decide +kernel
theorem dX8_word_58 : decode cX8_word 58 = .ok (.iinc 2 1, 3) := by decide +kernel
theorem dX8_word_61 : decode cX8_word 61 = .ok (.iinc 3 1, 3) := by decide +kernel
theorem dX8_word_64 : decode cX8_word 64 = .ok (.goto (-50), 3) := by decide +kernel
theorem dX8_word_67 : decode cX8_word 67 = .ok (.iload_n 2, 1) := by decide +kernel
theorem dX8_word_68 : decode cX8_word 68 = .ok (.bipush 6, 2) := by decide +kernel
theorem dX8_word_70 : decode cX8_word 70 = .ok (.if_icmp .le 7, 3) := by decide +kernel
theorem dX8_word_73 : decode cX8_word 73 = .ok (.iconst 0, 1) := by decide +kernel
theorem dX8_word_74 : decode cX8_word 74 = .ok (.goto 4, 3) := by decide +kernel
theorem dX8_word_77 : decode cX8_word 77 = .ok (.iload_n 1, 1) := by decide +kernel
theorem dX8_word_78 : decode cX8_word 78 = .ok (.ireturn, 1) := by decide +kernel
theorem dX8_of_0 : decode cX8_of 0 = .ok (.iconst 0, 1) := by decide +kernel
theorem dX8_of_1 : decode cX8_of 1 = .ok (.istore_n 1, 1) := by decide +kernel
theorem dX8_of_2 : decode cX8_of 2 = .ok (.iconst 0, 1) := by decide +kernel
theorem dX8_of_3 : decode cX8_of 3 = .ok (.istore_n 2, 1) := by decide +kernel
theorem dX8_of_4 : decode cX8_of 4 = .ok (.iload_n 2, 1) := by decide +kernel
theorem dX8_of_5 : decode cX8_of 5 = .ok (.aload_n 0, 1) := by decide +kernel
theorem dX8_of_6 : decode cX8_of 6 = .ok (.invokevirtual 119, 3) := by decide +kernel
theorem dX8_of_9 : decode cX8_of 9 = .ok (.if_icmp .ge 22, 3) := by decide +kernel
theorem dX8_of_12 : decode cX8_of 12 = .ok (.iload_n 1, 1) := by decide +kernel
theorem dX8_of_13 : decode cX8_of 13 = .ok (.iconst 5, 1) := by decide +kernel
theorem dX8_of_14 : decode cX8_of 14 = .ok (.ishl, 1) := by decide +kernel
theorem dX8_of_15 : decode cX8_of 15 = .ok (.aload_n 0, 1) := by decide +kernel
theorem dX8_of_16 : decode cX8_of 16 = .ok (.iload_n 2, 1) := by decide +kernel
theorem dX8_of_17 : decode cX8_of 17 = .ok (.invokevirtual 124, 3) := by decide +kernel
theorem dX8_of_20 : decode cX8_of 20 = .ok (.bipush 96, 2) := by decide +kernel
theorem dX8_of_22 : decode cX8_of 22 = .ok (.isub, 1) := by decide +kernel
theorem dX8_of_23 : decode cX8_of 23 = .ok (.ior, 1) := by decide +kernel
theorem dX8_of_24 : decode cX8_of 24 = .ok (.istore_n 1, 1) := by decide +kernel
theorem dX8_of_25 : decode cX8_of 25 = .ok (.iinc 2 1, 3) := by decide +kernel
theorem dX8_of_28 : decode cX8_of 28 = .ok (.goto (-24), 3) := by decide +kernel
theorem dX8_of_31 : decode cX8_of 31 = .ok (.iload_n 1, 1) := by decide +kernel
theorem dX8_of_32 : decode cX8_of 32 = .ok (.ireturn, 1) := by decide +kernel
theorem dX8_pass_0 : decode cX8_pass 0 = .ok (.aload_n 0, 1) := by decide +kernel
theorem dX8_pass_1 : decode cX8_pass 1 = .ok (.getfield 105, 3) := by decide +kernel
theorem dX8_pass_4 : decode cX8_pass 4 = .ok (.aload_n 0, 1) := by decide +kernel
theorem dX8_pass_5 : decode cX8_pass 5 = .ok (.getfield 108, 3) := by decide +kernel
theorem dX8_pass_8 : decode cX8_pass 8 = .ok (.if_icmp .ge 31, 3) := by decide +kernel
theorem dX8_pass_11 : decode cX8_pass 11 = .ok (.aload_n 0, 1) := by decide +kernel
theorem dX8_pass_12 : decode cX8_pass 12 = .ok (.getfield 20, 3) := by decide +kernel
theorem dX8_pass_15 : decode cX8_pass 15 = .ok (.aload_n 0, 1) := by decide +kernel
theorem dX8_pass_16 : decode cX8_pass 16 = .ok (.getfield 105, 3) := by decide +kernel
theorem dX8_pass_19 : decode cX8_pass 19 = .ok (.iaload, 1) := by decide +kernel
theorem dX8_pass_20 : decode cX8_pass 20 = .ok (.invokestatic 115, 3) := by decide +kernel
theorem dX8_pass_23 : decode cX8_pass 23 = .ok (.ifCond .eq 16, 3) := by decide +kernel
theorem dX8_pass_26 : decode cX8_pass 26 = .ok (.aload_n 0, 1) := by decide +kernel
theorem dX8_pass_27 : decode cX8_pass 27 = .ok (.dup, 1) := by decide +kernel
theorem dX8_pass_28 : decode cX8_pass 28 = .ok (.getfield 105, 3) := by decide +kernel
theorem dX8_pass_31 : decode cX8_pass 31 = .ok (.iconst 1, 1) := by decide +kernel
theorem dX8_pass_32 : decode cX8_pass 32 = .ok (.iadd, 1) := by decide +kernel
theorem dX8_pass_33 : decode cX8_pass 33 = .ok (.putfield 105, 3) := by decide +kernel
theorem dX8_pass_36 : decode cX8_pass 36 = .ok (.goto (-36), 3) := by decide +kernel
theorem dX8_pass_39 : decode cX8_pass 39 = .ok (.return_, 1) := by decide +kernel
theorem dX8_readNumber_0 : decode cX8_readNumber 0 = .ok (.aload_n 0, 1) := by decide +kernel
theorem dX8_readNumber_1 : decode cX8_readNumber 1 = .ok (.invokevirtual 128, 3) := by decide +kernel
theorem dX8_readNumber_4 : decode cX8_readNumber 4 = .ok (.ifCond .ne 5, 3) := by decide +kernel
theorem dX8_readNumber_7 : decode cX8_readNumber 7 = .ok (.iconst 0, 1) := by decide +kernel
theorem dX8_readNumber_8 : decode cX8_readNumber 8 = .ok (.ireturn, 1) := by decide +kernel
theorem dX8_readNumber_9 : decode cX8_readNumber 9 = .ok (.aload_n 0, 1) := by decide +kernel
theorem dX8_readNumber_10 : decode cX8_readNumber 10 = .ok (.invokevirtual 111, 3) := by decide +kernel
theorem dX8_readNumber_13 : decode cX8_readNumber 13 = .ok (.istore_n 3, 1) := by decide +kernel
theorem dX8_readNumber_14 : decode cX8_readNumber 14 = .ok (.aload_n 0, 1) := by decide +kernel
theorem dX8_readNumber_15 : decode cX8_readNumber 15 = .ok (.getfield 105, 3) := by decide +kernel
theorem dX8_readNumber_18 : decode cX8_readNumber 18 = .ok (.istore 4, 2) := by decide +kernel
theorem dX8_readNumber_20 : decode cX8_readNumber 20 = .ok (.iconst 0, 1) := by decide +kernel
theorem dX8_readNumber_21 : decode cX8_readNumber 21 = .ok (.istore 5, 2) := by decide +kernel
theorem dX8_readNumber_23 : decode cX8_readNumber 23 = .ok (.iload_n 3, 1) := by decide +kernel
theorem dX8_readNumber_24 : decode cX8_readNumber 24 = .ok (.invokestatic 132, 3) := by decide +kernel
theorem dX8_readNumber_27 : decode cX8_readNumber 27 = .ok (.ifCond .ne 14, 3) := by decide +kernel
theorem dX8_readNumber_30 : decode cX8_readNumber 30 = .ok (.aload_n 0, 1) := by decide +kernel
theorem dX8_readNumber_31 : decode cX8_readNumber 31 = .ok (.iconst 1, 1) := by decide +kernel
theorem dX8_readNumber_32 : decode cX8_readNumber 32 = .ok (.aload_n 0, 1) := by decide +kernel
theorem dX8_readNumber_33 : decode cX8_readNumber 33 = .ok (.getfield 105, 3) := by decide +kernel
theorem dX8_readNumber_36 : decode cX8_readNumber 36 = .ok (.invokevirtual 135, 3) := by decide +kernel
theorem dX8_readNumber_39 : decode cX8_readNumber 39 = .ok (.iconst 0, 1) := by decide +kernel
theorem dX8_readNumber_40 : decode cX8_readNumber 40 = .ok (.ireturn, 1) := by decide +kernel
theorem dX8_readNumber_41 : decode cX8_readNumber 41 = .ok (.aload_n 0, 1) := by decide +kernel
theorem dX8_readNumber_42 : decode cX8_readNumber 42 = .ok (.getfield 105, 3) := by decide +kernel
theorem dX8_readNumber_45 : decode cX8_readNumber 45 = .ok (.aload_n 0, 1) := by decide +kernel
theorem dX8_readNumber_46 : decode cX8_readNumber 46 = .ok (.getfield 108, 3) := by decide +kernel
theorem dX8_readNumber_49 : decode cX8_readNumber 49 = .ok (.if_icmp .ge 65, 3) := by decide +kernel
theorem dX8_readNumber_52 : decode cX8_readNumber 52 = .ok (.aload_n 0, 1) := by decide +kernel
theorem dX8_readNumber_53 : decode cX8_readNumber 53 = .ok (.getfield 20, 3) := by decide +kernel
theorem dX8_readNumber_56 : decode cX8_readNumber 56 = .ok (.aload_n 0, 1) := by decide +kernel
theorem dX8_readNumber_57 : decode cX8_readNumber 57 = .ok (.getfield 105, 3) := by decide +kernel
theorem dX8_readNumber_60 : decode cX8_readNumber 60 = .ok (.iaload, 1) := by decide +kernel
theorem dX8_readNumber_61 : decode cX8_readNumber 61 = .ok (.invokestatic 132, 3) := by decide +kernel
theorem dX8_readNumber_64 : decode cX8_readNumber 64 = .ok (.ifCond .eq 50, 3) := by decide +kernel
theorem dX8_readNumber_67 : decode cX8_readNumber 67 = .ok (.iload 5, 2) := by decide +kernel
theorem dX8_readNumber_69 : decode cX8_readNumber 69 = .ok (.sipush 9999, 3) := by decide +kernel
theorem dX8_readNumber_72 : decode cX8_readNumber 72 = .ok (.if_icmp .le 9, 3) := by decide +kernel
theorem dX8_readNumber_75 : decode cX8_readNumber 75 = .ok (.sipush 10000, 3) := by decide +kernel
theorem dX8_readNumber_78 : decode cX8_readNumber 78 = .ok (.goto 21, 3) := by decide +kernel
theorem dX8_readNumber_81 : decode cX8_readNumber 81 = .ok (.bipush 10, 2) := by decide +kernel
theorem dX8_readNumber_83 : decode cX8_readNumber 83 = .ok (.iload 5, 2) := by decide +kernel
theorem dX8_readNumber_85 : decode cX8_readNumber 85 = .ok (.imul, 1) := by decide +kernel
theorem dX8_readNumber_86 : decode cX8_readNumber 86 = .ok (.aload_n 0, 1) := by decide +kernel
theorem dX8_readNumber_87 : decode cX8_readNumber 87 = .ok (.getfield 20, 3) := by decide +kernel
theorem dX8_readNumber_90 : decode cX8_readNumber 90 = .ok (.aload_n 0, 1) := by decide +kernel
theorem dX8_readNumber_91 : decode cX8_readNumber 91 = .ok (.getfield 105, 3) := by decide +kernel
theorem dX8_readNumber_94 : decode cX8_readNumber 94 = .ok (.iaload, 1) := by decide +kernel
theorem dX8_readNumber_95 : decode cX8_readNumber 95 = .ok (.iadd, 1) := by decide +kernel
theorem dX8_readNumber_96 : decode cX8_readNumber 96 = .ok (.bipush 48, 2) := by decide +kernel
theorem dX8_readNumber_98 : decode cX8_readNumber 98 = .ok (.isub, 1) := by decide +kernel
theorem dX8_readNumber_99 : decode cX8_readNumber 99 = .ok (.istore 5, 2) := by decide +kernel
theorem dX8_readNumber_101 : decode cX8_readNumber 101 = .ok (.aload_n 0, 1) := by decide +kernel
theorem dX8_readNumber_102 : decode cX8_readNumber 102 = .ok (.dup, 1) := by decide +kernel
theorem dX8_readNumber_103 : decode cX8_readNumber 103 = .ok (.getfield 105, 3) := by decide +kernel
theorem dX8_readNumber_106 : decode cX8_readNumber 106 = .ok (.iconst 1, 1) := by decide +kernel
theorem dX8_readNumber_107 : decode cX8_readNumber 107 = .ok (.iadd, 1) := by decide +kernel
theorem dX8_readNumber_108 : decode cX8_readNumber 108 = .ok (.putfield 105, 3) := by decide +kernel
theorem dX8_readNumber_111 : decode cX8_readNumber 111 = .ok (.goto (-70), 3) := by decide +kernel
theorem dX8_readNumber_114 : decode cX8_readNumber 114 = .ok (.iload 5, 2) := by decide +kernel
theorem dX8_readNumber_116 : decode cX8_readNumber 116 = .ok (.iload_n 1, 1) := by decide +kernel
theorem dX8_readNumber_117 : decode cX8_readNumber 117 = .ok (.if_icmp .lt 9, 3) := by decide +kernel
theorem dX8_readNumber_120 : decode cX8_readNumber 120 = .ok (.iload 5, 2) := by decide +kernel
theorem dX8_readNumber_122 : decode cX8_readNumber 122 = .ok (.iload_n 2, 1) := by decide +kernel
theorem dX8_readNumber_123 : decode cX8_readNumber 123 = .ok (.if_icmp .le 12, 3) := by decide +kernel
theorem dX8_readNumber_126 : decode cX8_readNumber 126 = .ok (.aload_n 0, 1) := by decide +kernel
theorem dX8_readNumber_127 : decode cX8_readNumber 127 = .ok (.iconst 2, 1) := by decide +kernel
theorem dX8_readNumber_128 : decode cX8_readNumber 128 = .ok (.iload 4, 2) := by decide +kernel
theorem dX8_readNumber_130 : decode cX8_readNumber 130 = .ok (.invokevirtual 135, 3) := by decide +kernel
theorem dX8_readNumber_133 : decode cX8_readNumber 133 = .ok (.iconst 0, 1) := by decide +kernel
theorem dX8_readNumber_134 : decode cX8_readNumber 134 = .ok (.ireturn, 1) := by decide +kernel
theorem dX8_readNumber_135 : decode cX8_readNumber 135 = .ok (.iload 5, 2) := by decide +kernel
theorem dX8_readNumber_137 : decode cX8_readNumber 137 = .ok (.ireturn, 1) := by decide +kernel
theorem dX8_sign_0 : decode cX8_sign 0 = .ok (.aload_n 0, 1) := by decide +kernel
theorem dX8_sign_1 : decode cX8_sign 1 = .ok (.invokevirtual 128, 3) := by decide +kernel
theorem dX8_sign_4 : decode cX8_sign 4 = .ok (.ifCond .eq 20, 3) := by decide +kernel
theorem dX8_sign_7 : decode cX8_sign 7 = .ok (.aload_n 0, 1) := by decide +kernel
theorem dX8_sign_8 : decode cX8_sign 8 = .ok (.invokevirtual 111, 3) := by decide +kernel
theorem dX8_sign_11 : decode cX8_sign 11 = .ok (.iload_n 1, 1) := by decide +kernel
theorem dX8_sign_12 : decode cX8_sign 12 = .ok (.if_icmp .eq 12, 3) := by decide +kernel
theorem dX8_sign_15 : decode cX8_sign 15 = .ok (.aload_n 0, 1) := by decide +kernel
theorem dX8_sign_16 : decode cX8_sign 16 = .ok (.iconst 1, 1) := by decide +kernel
theorem dX8_sign_17 : decode cX8_sign 17 = .ok (.aload_n 0, 1) := by decide +kernel
theorem dX8_sign_18 : decode cX8_sign 18 = .ok (.getfield 105, 3) := by decide +kernel
theorem dX8_sign_21 : decode cX8_sign 21 = .ok (.invokevirtual 135, 3) := by decide +kernel
theorem dX8_sign_24 : decode cX8_sign 24 = .ok (.aload_n 0, 1) := by decide +kernel
theorem dX8_sign_25 : decode cX8_sign 25 = .ok (.invokevirtual 128, 3) := by decide +kernel
theorem dX8_sign_28 : decode cX8_sign 28 = .ok (.ifCond .eq 13, 3) := by decide +kernel
theorem dX8_sign_31 : decode cX8_sign 31 = .ok (.aload_n 0, 1) := by decide +kernel
theorem dX8_sign_32 : decode cX8_sign 32 = .ok (.dup, 1) := by decide +kernel
theorem dX8_sign_33 : decode cX8_sign 33 = .ok (.getfield 105, 3) := by decide +kernel
theorem dX8_sign_36 : decode cX8_sign 36 = .ok (.iconst 1, 1) := by decide +kernel
theorem dX8_sign_37 : decode cX8_sign 37 = .ok (.iadd, 1) := by decide +kernel
theorem dX8_sign_38 : decode cX8_sign 38 = .ok (.putfield 105, 3) := by decide +kernel
theorem dX8_sign_41 : decode cX8_sign 41 = .ok (.return_, 1) := by decide +kernel
theorem dX8_isMore_0 : decode cX8_isMore 0 = .ok (.aload_n 0, 1) := by decide +kernel
theorem dX8_isMore_1 : decode cX8_isMore 1 = .ok (.invokevirtual 111, 3) := by decide +kernel
theorem dX8_isMore_4 : decode cX8_isMore 4 = .ok (.pop, 1) := by decide +kernel
theorem dX8_isMore_5 : decode cX8_isMore 5 = .ok (.aload_n 0, 1) := by decide +kernel
theorem dX8_isMore_6 : decode cX8_isMore 6 = .ok (.getfield 105, 3) := by decide +kernel
theorem dX8_isMore_9 : decode cX8_isMore 9 = .ok (.aload_n 0, 1) := by decide +kernel
theorem dX8_isMore_10 : decode cX8_isMore 10 = .ok (.getfield 108, 3) := by decide +kernel
theorem dX8_isMore_13 : decode cX8_isMore 13 = .ok (.if_icmp .ge 7, 3) := by decide +kernel
theorem dX8_isMore_16 : decode cX8_isMore 16 = .ok (.iconst 1, 1) := by decide +kernel
theorem dX8_isMore_17 : decode cX8_isMore 17 = .ok (.goto 4, 3) := by decide +kernel
theorem dX8_isMore_20 : decode cX8_isMore 20 = .ok (.iconst 0, 1) := by decide +kernel
theorem dX8_isMore_21 : decode cX8_isMore 21 = .ok (.ireturn, 1) := by decide +kernel
theorem dX8_begins_0 : decode cX8_begins 0 = .ok (.aload_n 0, 1) := by decide +kernel
theorem dX8_begins_1 : decode cX8_begins 1 = .ok (.iconst 0, 1) := by decide +kernel
theorem dX8_begins_2 : decode cX8_begins 2 = .ok (.putfield 96, 3) := by decide +kernel
theorem dX8_begins_5 : decode cX8_begins 5 = .ok (.aload_n 0, 1) := by decide +kernel
theorem dX8_begins_6 : decode cX8_begins 6 = .ok (.iconst (-1), 1) := by decide +kernel
theorem dX8_begins_7 : decode cX8_begins 7 = .ok (.putfield 17, 3) := by decide +kernel
theorem dX8_begins_10 : decode cX8_begins 10 = .ok (.aload_n 0, 1) := by decide +kernel
theorem dX8_begins_11 : decode cX8_begins 11 = .ok (.iload_n 1, 1) := by decide +kernel
theorem dX8_begins_12 : decode cX8_begins 12 = .ok (.putfield 108, 3) := by decide +kernel
theorem dX8_begins_15 : decode cX8_begins 15 = .ok (.aload_n 0, 1) := by decide +kernel
theorem dX8_begins_16 : decode cX8_begins 16 = .ok (.iconst 0, 1) := by decide +kernel
theorem dX8_begins_17 : decode cX8_begins 17 = .ok (.putfield 105, 3) := by decide +kernel
theorem dX8_begins_20 : decode cX8_begins 20 = .ok (.aload_n 0, 1) := by decide +kernel
theorem dX8_begins_21 : decode cX8_begins 21 = .ok (.iconst (-1), 1) := by decide +kernel
theorem dX8_begins_22 : decode cX8_begins 22 = .ok (.putfield 99, 3) := by decide +kernel
theorem dX8_begins_25 : decode cX8_begins 25 = .ok (.aload_n 0, 1) := by decide +kernel
theorem dX8_begins_26 : decode cX8_begins 26 = .ok (.iconst 0, 1) := by decide +kernel
theorem dX8_begins_27 : decode cX8_begins 27 = .ok (.putfield 139, 3) := by decide +kernel
theorem dX8_begins_30 : decode cX8_begins 30 = .ok (.return_, 1) := by decide +kernel
theorem dX8_result_0 : decode cX8_result 0 = .ok (.aload_n 0, 1) := by decide +kernel
theorem dX8_result_1 : decode cX8_result 1 = .ok (.aload_n 0, 1) := by decide +kernel
theorem dX8_result_2 : decode cX8_result 2 = .ok (.getfield 99, 3) := by decide +kernel
theorem dX8_result_5 : decode cX8_result 5 = .ok (.putfield 17, 3) := by decide +kernel
theorem dX8_result_8 : decode cX8_result 8 = .ok (.aload_n 0, 1) := by decide +kernel
theorem dX8_result_9 : decode cX8_result 9 = .ok (.invokevirtual 128, 3) := by decide +kernel
theorem dX8_result_12 : decode cX8_result 12 = .ok (.ifCond .eq 7, 3) := by decide +kernel
theorem dX8_result_15 : decode cX8_result 15 = .ok (.iload_n 1, 1) := by decide +kernel
theorem dX8_result_16 : decode cX8_result 16 = .ok (.goto 10, 3) := by decide +kernel
theorem dX8_result_19 : decode cX8_result 19 = .ok (.aload_n 0, 1) := by decide +kernel
theorem dX8_result_20 : decode cX8_result 20 = .ok (.getfield 102, 3) := by decide +kernel
theorem dX8_result_23 : decode cX8_result 23 = .ok (.bipush 10, 2) := by decide +kernel
theorem dX8_result_25 : decode cX8_result 25 = .ok (.isub, 1) := by decide +kernel
theorem dX8_result_26 : decode cX8_result 26 = .ok (.ireturn, 1) := by decide +kernel
theorem dX8_fault_0 : decode cX8_fault 0 = .ok (.aload_n 0, 1) := by decide +kernel
theorem dX8_fault_1 : decode cX8_fault 1 = .ok (.iconst 0, 1) := by decide +kernel
theorem dX8_fault_2 : decode cX8_fault 2 = .ok (.putfield 3, 3) := by decide +kernel
theorem dX8_fault_5 : decode cX8_fault 5 = .ok (.aload_n 0, 1) := by decide +kernel
theorem dX8_fault_6 : decode cX8_fault 6 = .ok (.getfield 17, 3) := by decide +kernel
theorem dX8_fault_9 : decode cX8_fault 9 = .ok (.ireturn, 1) := by decide +kernel
theorem dX8_copies_0 : decode cX8_copies 0 = .ok (.iconst 0, 1) := by decide +kernel
theorem dX8_copies_1 : decode cX8_copies 1 = .ok (.istore 4, 2) := by decide +kernel
theorem dX8_copies_3 : decode cX8_copies 3 = .ok (.iload 4, 2) := by decide +kernel
theorem dX8_copies_5 : decode cX8_copies 5 = .ok (.iload_n 3, 1) := by decide +kernel
theorem dX8_copies_6 : decode cX8_copies 6 = .ok (.if_icmp .ge 17, 3) := by decide +kernel
theorem dX8_copies_9 : decode cX8_copies 9 = .ok (.aload_n 2, 1) := by decide +kernel
theorem dX8_copies_10 : decode cX8_copies 10 = .ok (.iload 4, 2) := by decide +kernel
theorem dX8_copies_12 : decode cX8_copies 12 = .ok (.aload_n 1, 1) := by decide +kernel
theorem dX8_copies_13 : decode cX8_copies 13 = .ok (.iload 4, 2) := by decide +kernel
theorem dX8_copies_15 : decode cX8_copies 15 = .ok (.iaload, 1) := by decide +kernel
theorem dX8_copies_16 : decode cX8_copies 16 = .ok (.iastore, 1) := by decide +kernel
theorem dX8_copies_17 : decode cX8_copies 17 = .ok (.iinc 4 1, 3) := by decide +kernel
theorem dX8_copies_20 : decode cX8_copies 20 = .ok (.goto (-17), 3) := by decide +kernel
theorem dX8_copies_23 : decode cX8_copies 23 = .ok (.return_, 1) := by decide +kernel
theorem dX8_clears_0 : decode cX8_clears 0 = .ok (.aload_n 0, 1) := by decide +kernel
theorem dX8_clears_1 : decode cX8_clears 1 = .ok (.iconst 0, 1) := by decide +kernel
theorem dX8_clears_2 : decode cX8_clears 2 = .ok (.putfield 142, 3) := by decide +kernel
theorem dX8_clears_5 : decode cX8_clears 5 = .ok (.aload_n 0, 1) := by decide +kernel
theorem dX8_clears_6 : decode cX8_clears 6 = .ok (.iconst 0, 1) := by decide +kernel
theorem dX8_clears_7 : decode cX8_clears 7 = .ok (.putfield 145, 3) := by decide +kernel
theorem dX8_clears_10 : decode cX8_clears 10 = .ok (.aload_n 0, 1) := by decide +kernel
theorem dX8_clears_11 : decode cX8_clears 11 = .ok (.bipush 8, 2) := by decide +kernel
theorem dX8_clears_13 : decode cX8_clears 13 = .ok (.putfield 148, 3) := by decide +kernel
theorem dX8_clears_16 : decode cX8_clears 16 = .ok (.return_, 1) := by decide +kernel
theorem dX8_sets_0 : decode cX8_sets 0 = .ok (.aload_n 0, 1) := by decide +kernel
theorem dX8_sets_1 : decode cX8_sets 1 = .ok (.aload_n 0, 1) := by decide +kernel
theorem dX8_sets_2 : decode cX8_sets 2 = .ok (.getfield 142, 3) := by decide +kernel
theorem dX8_sets_5 : decode cX8_sets 5 = .ok (.putfield 151, 3) := by decide +kernel
theorem dX8_sets_8 : decode cX8_sets 8 = .ok (.aload_n 0, 1) := by decide +kernel
theorem dX8_sets_9 : decode cX8_sets 9 = .ok (.aload_n 0, 1) := by decide +kernel
theorem dX8_sets_10 : decode cX8_sets 10 = .ok (.getfield 145, 3) := by decide +kernel
theorem dX8_sets_13 : decode cX8_sets 13 = .ok (.putfield 154, 3) := by decide +kernel
theorem dX8_sets_16 : decode cX8_sets 16 = .ok (.aload_n 0, 1) := by decide +kernel
theorem dX8_sets_17 : decode cX8_sets 17 = .ok (.aload_n 0, 1) := by decide +kernel
theorem dX8_sets_18 : decode cX8_sets 18 = .ok (.getfield 148, 3) := by decide +kernel
theorem dX8_sets_21 : decode cX8_sets 21 = .ok (.putfield 157, 3) := by decide +kernel
theorem dX8_sets_24 : decode cX8_sets 24 = .ok (.aload_n 0, 1) := by decide +kernel
theorem dX8_sets_25 : decode cX8_sets 25 = .ok (.aload_n 0, 1) := by decide +kernel
theorem dX8_sets_26 : decode cX8_sets 26 = .ok (.getfield 23, 3) := by decide +kernel
theorem dX8_sets_29 : decode cX8_sets 29 = .ok (.aload_n 0, 1) := by decide +kernel
theorem dX8_sets_30 : decode cX8_sets 30 = .ok (.getfield 29, 3) := by decide +kernel
theorem dX8_sets_33 : decode cX8_sets 33 = .ok (.bipush 16, 2) := by decide +kernel
theorem dX8_sets_35 : decode cX8_sets 35 = .ok (.invokevirtual 160, 3) := by decide +kernel
theorem dX8_sets_38 : decode cX8_sets 38 = .ok (.aload_n 0, 1) := by decide +kernel
theorem dX8_sets_39 : decode cX8_sets 39 = .ok (.aload_n 0, 1) := by decide +kernel
theorem dX8_sets_40 : decode cX8_sets 40 = .ok (.getfield 26, 3) := by decide +kernel
theorem dX8_sets_43 : decode cX8_sets 43 = .ok (.aload_n 0, 1) := by decide +kernel
theorem dX8_sets_44 : decode cX8_sets 44 = .ok (.getfield 32, 3) := by decide +kernel
theorem dX8_sets_47 : decode cX8_sets 47 = .ok (.bipush 10, 2) := by decide +kernel
theorem dX8_sets_49 : decode cX8_sets 49 = .ok (.invokevirtual 160, 3) := by decide +kernel
theorem dX8_sets_52 : decode cX8_sets 52 = .ok (.aload_n 0, 1) := by decide +kernel
theorem dX8_sets_53 : decode cX8_sets 53 = .ok (.iconst 0, 1) := by decide +kernel
theorem dX8_sets_54 : decode cX8_sets 54 = .ok (.putfield 164, 3) := by decide +kernel
theorem dX8_sets_57 : decode cX8_sets 57 = .ok (.aload_n 0, 1) := by decide +kernel
theorem dX8_sets_58 : decode cX8_sets 58 = .ok (.iconst 0, 1) := by decide +kernel
theorem dX8_sets_59 : decode cX8_sets 59 = .ok (.putfield 167, 3) := by decide +kernel
theorem dX8_sets_62 : decode cX8_sets 62 = .ok (.aload_n 0, 1) := by decide +kernel
theorem dX8_sets_63 : decode cX8_sets 63 = .ok (.iconst 0, 1) := by decide +kernel
theorem dX8_sets_64 : decode cX8_sets 64 = .ok (.putfield 170, 3) := by decide +kernel
theorem dX8_sets_67 : decode cX8_sets 67 = .ok (.aload_n 0, 1) := by decide +kernel
theorem dX8_sets_68 : decode cX8_sets 68 = .ok (.iconst 0, 1) := by decide +kernel
theorem dX8_sets_69 : decode cX8_sets 69 = .ok (.putfield 173, 3) := by decide +kernel
theorem dX8_sets_72 : decode cX8_sets 72 = .ok (.aload_n 0, 1) := by decide +kernel
theorem dX8_sets_73 : decode cX8_sets 73 = .ok (.iconst 0, 1) := by decide +kernel
theorem dX8_sets_74 : decode cX8_sets 74 = .ok (.putfield 176, 3) := by decide +kernel
theorem dX8_sets_77 : decode cX8_sets 77 = .ok (.iconst 0, 1) := by decide +kernel
theorem dX8_sets_78 : decode cX8_sets 78 = .ok (.istore_n 1, 1) := by decide +kernel
theorem dX8_sets_79 : decode cX8_sets 79 = .ok (.iload_n 1, 1) := by decide +kernel
theorem dX8_sets_80 : decode cX8_sets 80 = .ok (.bipush 8, 2) := by decide +kernel
theorem dX8_sets_82 : decode cX8_sets 82 = .ok (.if_icmp .ge 16, 3) := by decide +kernel
theorem dX8_sets_85 : decode cX8_sets 85 = .ok (.aload_n 0, 1) := by decide +kernel
theorem dX8_sets_86 : decode cX8_sets 86 = .ok (.getfield 71, 3) := by decide +kernel
theorem dX8_sets_89 : decode cX8_sets 89 = .ok (.iload_n 1, 1) := by decide +kernel
theorem dX8_sets_90 : decode cX8_sets 90 = .ok (.iconst (-1), 1) := by decide +kernel
theorem dX8_sets_91 : decode cX8_sets 91 = .ok (.iastore, 1) := by decide +kernel
theorem dX8_sets_92 : decode cX8_sets 92 = .ok (.iinc 1 1, 3) := by decide +kernel
theorem dX8_sets_95 : decode cX8_sets 95 = .ok (.goto (-16), 3) := by decide +kernel
theorem dX8_sets_98 : decode cX8_sets 98 = .ok (.iconst 0, 1) := by decide +kernel
theorem dX8_sets_99 : decode cX8_sets 99 = .ok (.istore_n 1, 1) := by decide +kernel
theorem dX8_sets_100 : decode cX8_sets 100 = .ok (.iload_n 1, 1) := by decide +kernel
theorem dX8_sets_101 : decode cX8_sets 101 = .ok (.bipush 28, 2) := by decide +kernel
theorem dX8_sets_103 : decode cX8_sets 103 = .ok (.if_icmp .ge 16, 3) := by decide +kernel
theorem dX8_sets_106 : decode cX8_sets 106 = .ok (.aload_n 0, 1) := by decide +kernel
theorem dX8_sets_107 : decode cX8_sets 107 = .ok (.getfield 59, 3) := by decide +kernel
theorem dX8_sets_110 : decode cX8_sets 110 = .ok (.iload_n 1, 1) := by decide +kernel
theorem dX8_sets_111 : decode cX8_sets 111 = .ok (.iconst 0, 1) := by decide +kernel
theorem dX8_sets_112 : decode cX8_sets 112 = .ok (.iastore, 1) := by decide +kernel
theorem dX8_sets_113 : decode cX8_sets 113 = .ok (.iinc 1 1, 3) := by decide +kernel
theorem dX8_sets_116 : decode cX8_sets 116 = .ok (.goto (-16), 3) := by decide +kernel
theorem dX8_sets_119 : decode cX8_sets 119 = .ok (.iconst 0, 1) := by decide +kernel
theorem dX8_sets_120 : decode cX8_sets 120 = .ok (.istore_n 1, 1) := by decide +kernel
theorem dX8_sets_121 : decode cX8_sets 121 = .ok (.iload_n 1, 1) := by decide +kernel
theorem dX8_sets_122 : decode cX8_sets 122 = .ok (.aload_n 0, 1) := by decide +kernel
theorem dX8_sets_123 : decode cX8_sets 123 = .ok (.getfield 154, 3) := by decide +kernel
theorem dX8_sets_126 : decode cX8_sets 126 = .ok (.if_icmp .ge 43, 3) := by decide +kernel
theorem dX8_sets_129 : decode cX8_sets 129 = .ok (.aload_n 0, 1) := by decide +kernel
theorem dX8_sets_130 : decode cX8_sets 130 = .ok (.getfield 59, 3) := by decide +kernel
theorem dX8_sets_133 : decode cX8_sets 133 = .ok (.iconst 0, 1) := by decide +kernel
theorem dX8_sets_134 : decode cX8_sets 134 = .ok (.iload_n 1, 1) := by decide +kernel
theorem dX8_sets_135 : decode cX8_sets 135 = .ok (.iadd, 1) := by decide +kernel
theorem dX8_sets_136 : decode cX8_sets 136 = .ok (.aload_n 0, 1) := by decide +kernel
theorem dX8_sets_137 : decode cX8_sets 137 = .ok (.getfield 32, 3) := by decide +kernel
theorem dX8_sets_140 : decode cX8_sets 140 = .ok (.iconst 2, 1) := by decide +kernel
theorem dX8_sets_141 : decode cX8_sets 141 = .ok (.iload_n 1, 1) := by decide +kernel
theorem dX8_sets_142 : decode cX8_sets 142 = .ok (.imul, 1) := by decide +kernel
theorem dX8_sets_143 : decode cX8_sets 143 = .ok (.iaload, 1) := by decide +kernel
theorem dX8_sets_144 : decode cX8_sets 144 = .ok (.iastore, 1) := by decide +kernel
theorem dX8_sets_145 : decode cX8_sets 145 = .ok (.aload_n 0, 1) := by decide +kernel
theorem dX8_sets_146 : decode cX8_sets 146 = .ok (.getfield 59, 3) := by decide +kernel
theorem dX8_sets_149 : decode cX8_sets 149 = .ok (.iconst 5, 1) := by decide +kernel
theorem dX8_sets_150 : decode cX8_sets 150 = .ok (.iload_n 1, 1) := by decide +kernel
theorem dX8_sets_151 : decode cX8_sets 151 = .ok (.iadd, 1) := by decide +kernel
theorem dX8_sets_152 : decode cX8_sets 152 = .ok (.aload_n 0, 1) := by decide +kernel
theorem dX8_sets_153 : decode cX8_sets 153 = .ok (.getfield 32, 3) := by decide +kernel
theorem dX8_sets_156 : decode cX8_sets 156 = .ok (.iconst 2, 1) := by decide +kernel
theorem dX8_sets_157 : decode cX8_sets 157 = .ok (.iload_n 1, 1) := by decide +kernel
theorem dX8_sets_158 : decode cX8_sets 158 = .ok (.imul, 1) := by decide +kernel
theorem dX8_sets_159 : decode cX8_sets 159 = .ok (.iconst 1, 1) := by decide +kernel
theorem dX8_sets_160 : decode cX8_sets 160 = .ok (.iadd, 1) := by decide +kernel
theorem dX8_sets_161 : decode cX8_sets 161 = .ok (.iaload, 1) := by decide +kernel
theorem dX8_sets_162 : decode cX8_sets 162 = .ok (.iastore, 1) := by decide +kernel
theorem dX8_sets_163 : decode cX8_sets 163 = .ok (.iinc 1 1, 3) := by decide +kernel
theorem dX8_sets_166 : decode cX8_sets 166 = .ok (.goto (-45), 3) := by decide +kernel
theorem dX8_sets_169 : decode cX8_sets 169 = .ok (.return_, 1) := by decide +kernel
theorem dX8_isRow_0 : decode cX8_isRow 0 = .ok (.iload_n 0, 1) := by decide +kernel
theorem dX8_isRow_1 : decode cX8_isRow 1 = .ok (.ldc 179, 2) := by decide +kernel
theorem dX8_isRow_3 : decode cX8_isRow 3 = .ok (.invokestatic 180, 3) := by decide +kernel
theorem dX8_isRow_6 : decode cX8_isRow 6 = .ok (.if_icmp .eq 21, 3) := by decide +kernel
theorem dX8_isRow_9 : decode cX8_isRow 9 = .ok (.iload_n 0, 1) := by decide +kernel
theorem dX8_isRow_10 : decode cX8_isRow 10 = .ok (.ldc 184, 2) := by decide +kernel
theorem dX8_isRow_12 : decode cX8_isRow 12 = .ok (.invokestatic 180, 3) := by decide +kernel
theorem dX8_isRow_15 : decode cX8_isRow 15 = .ok (.if_icmp .eq 12, 3) := by decide +kernel
theorem dX8_isRow_18 : decode cX8_isRow 18 = .ok (.iload_n 0, 1) := by decide +kernel
theorem dX8_isRow_19 : decode cX8_isRow 19 = .ok (.ldc 185, 2) := by decide +kernel
theorem dX8_isRow_21 : decode cX8_isRow 21 = .ok (.invokestatic 180, 3) := by decide +kernel
theorem dX8_isRow_24 : decode cX8_isRow 24 = .ok (.if_icmp .ne 7, 3) := by decide +kernel
theorem dX8_isRow_27 : decode cX8_isRow 27 = .ok (.iconst 1, 1) := by decide +kernel
theorem dX8_isRow_28 : decode cX8_isRow 28 = .ok (.goto 4, 3) := by decide +kernel
theorem dX8_isRow_31 : decode cX8_isRow 31 = .ok (.iconst 0, 1) := by decide +kernel
theorem dX8_isRow_32 : decode cX8_isRow 32 = .ok (.ireturn, 1) := by decide +kernel
theorem dX8_isFull_0 : decode cX8_isFull 0 = .ok (.iload_n 1, 1) := by decide +kernel
theorem dX8_isFull_1 : decode cX8_isFull 1 = .ok (.ldc 179, 2) := by decide +kernel
theorem dX8_isFull_3 : decode cX8_isFull 3 = .ok (.invokestatic 180, 3) := by decide +kernel
theorem dX8_isFull_6 : decode cX8_isFull 6 = .ok (.if_icmp .ne 20, 3) := by decide +kernel
theorem dX8_isFull_9 : decode cX8_isFull 9 = .ok (.aload_n 0, 1) := by decide +kernel
theorem dX8_isFull_10 : decode cX8_isFull 10 = .ok (.getfield 142, 3) := by decide +kernel
theorem dX8_isFull_13 : decode cX8_isFull 13 = .ok (.bipush 8, 2) := by decide +kernel
theorem dX8_isFull_15 : decode cX8_isFull 15 = .ok (.if_icmp .ne 7, 3) := by decide +kernel
theorem dX8_isFull_18 : decode cX8_isFull 18 = .ok (.iconst 1, 1) := by decide +kernel
theorem dX8_isFull_19 : decode cX8_isFull 19 = .ok (.goto 29, 3) := by decide +kernel
theorem dX8_isFull_22 : decode cX8_isFull 22 = .ok (.iconst 0, 1) := by decide +kernel
theorem dX8_isFull_23 : decode cX8_isFull 23 = .ok (.goto 25, 3) := by decide +kernel
theorem dX8_isFull_26 : decode cX8_isFull 26 = .ok (.iload_n 1, 1) := by decide +kernel
theorem dX8_isFull_27 : decode cX8_isFull 27 = .ok (.ldc 184, 2) := by decide +kernel
theorem dX8_isFull_29 : decode cX8_isFull 29 = .ok (.invokestatic 180, 3) := by decide +kernel
theorem dX8_isFull_32 : decode cX8_isFull 32 = .ok (.if_icmp .ne 15, 3) := by decide +kernel
theorem dX8_isFull_35 : decode cX8_isFull 35 = .ok (.aload_n 0, 1) := by decide +kernel
theorem dX8_isFull_36 : decode cX8_isFull 36 = .ok (.getfield 145, 3) := by decide +kernel
theorem dX8_isFull_39 : decode cX8_isFull 39 = .ok (.iconst 5, 1) := by decide +kernel
theorem dX8_isFull_40 : decode cX8_isFull 40 = .ok (.if_icmp .ne 7, 3) := by decide +kernel
theorem dX8_isFull_43 : decode cX8_isFull 43 = .ok (.iconst 1, 1) := by decide +kernel
theorem dX8_isFull_44 : decode cX8_isFull 44 = .ok (.goto 4, 3) := by decide +kernel
theorem dX8_isFull_47 : decode cX8_isFull 47 = .ok (.iconst 0, 1) := by decide +kernel
theorem dX8_isFull_48 : decode cX8_isFull 48 = .ok (.ireturn, 1) := by decide +kernel
theorem dX8_readRow_0 : decode cX8_readRow 0 = .ok (.iload_n 1, 1) := by decide +kernel
theorem dX8_readRow_1 : decode cX8_readRow 1 = .ok (.ldc 179, 2) := by decide +kernel
theorem dX8_readRow_3 : decode cX8_readRow 3 = .ok (.invokestatic 180, 3) := by decide +kernel
theorem dX8_readRow_6 : decode cX8_readRow 6 = .ok (.if_icmp .ne 54, 3) := by decide +kernel
theorem dX8_readRow_9 : decode cX8_readRow 9 = .ok (.aload_n 0, 1) := by decide +kernel
theorem dX8_readRow_10 : decode cX8_readRow 10 = .ok (.getfield 23, 3) := by decide +kernel
theorem dX8_readRow_13 : decode cX8_readRow 13 = .ok (.iconst 2, 1) := by decide +kernel
theorem dX8_readRow_14 : decode cX8_readRow 14 = .ok (.aload_n 0, 1) := by decide +kernel
theorem dX8_readRow_15 : decode cX8_readRow 15 = .ok (.getfield 142, 3) := by decide +kernel
theorem dX8_readRow_18 : decode cX8_readRow 18 = .ok (.imul, 1) := by decide +kernel
theorem dX8_readRow_19 : decode cX8_readRow 19 = .ok (.aload_n 0, 1) := by decide +kernel
theorem dX8_readRow_20 : decode cX8_readRow 20 = .ok (.iconst 0, 1) := by decide +kernel
theorem dX8_readRow_21 : decode cX8_readRow 21 = .ok (.bipush 99, 2) := by decide +kernel
theorem dX8_readRow_23 : decode cX8_readRow 23 = .ok (.invokevirtual 186, 3) := by decide +kernel
theorem dX8_readRow_26 : decode cX8_readRow 26 = .ok (.iastore, 1) := by decide +kernel
theorem dX8_readRow_27 : decode cX8_readRow 27 = .ok (.aload_n 0, 1) := by decide +kernel
theorem dX8_readRow_28 : decode cX8_readRow 28 = .ok (.getfield 23, 3) := by decide +kernel
theorem dX8_readRow_31 : decode cX8_readRow 31 = .ok (.iconst 2, 1) := by decide +kernel
theorem dX8_readRow_32 : decode cX8_readRow 32 = .ok (.aload_n 0, 1) := by decide +kernel
theorem dX8_readRow_33 : decode cX8_readRow 33 = .ok (.getfield 142, 3) := by decide +kernel
theorem dX8_readRow_36 : decode cX8_readRow 36 = .ok (.imul, 1) := by decide +kernel
theorem dX8_readRow_37 : decode cX8_readRow 37 = .ok (.iconst 1, 1) := by decide +kernel
theorem dX8_readRow_38 : decode cX8_readRow 38 = .ok (.iadd, 1) := by decide +kernel
theorem dX8_readRow_39 : decode cX8_readRow 39 = .ok (.aload_n 0, 1) := by decide +kernel
theorem dX8_readRow_40 : decode cX8_readRow 40 = .ok (.iconst 0, 1) := by decide +kernel
theorem dX8_readRow_41 : decode cX8_readRow 41 = .ok (.bipush 60, 2) := by decide +kernel
theorem dX8_readRow_43 : decode cX8_readRow 43 = .ok (.invokevirtual 186, 3) := by decide +kernel
theorem dX8_readRow_46 : decode cX8_readRow 46 = .ok (.iastore, 1) := by decide +kernel
theorem dX8_readRow_47 : decode cX8_readRow 47 = .ok (.aload_n 0, 1) := by decide +kernel
theorem dX8_readRow_48 : decode cX8_readRow 48 = .ok (.dup, 1) := by decide +kernel
theorem dX8_readRow_49 : decode cX8_readRow 49 = .ok (.getfield 142, 3) := by decide +kernel
theorem dX8_readRow_52 : decode cX8_readRow 52 = .ok (.iconst 1, 1) := by decide +kernel
theorem dX8_readRow_53 : decode cX8_readRow 53 = .ok (.iadd, 1) := by decide +kernel
theorem dX8_readRow_54 : decode cX8_readRow 54 = .ok (.putfield 142, 3) := by decide +kernel
theorem dX8_readRow_57 : decode cX8_readRow 57 = .ok (.goto 74, 3) := by decide +kernel
theorem dX8_readRow_60 : decode cX8_readRow 60 = .ok (.iload_n 1, 1) := by decide +kernel
theorem dX8_readRow_61 : decode cX8_readRow 61 = .ok (.ldc 184, 2) := by decide +kernel
theorem dX8_readRow_63 : decode cX8_readRow 63 = .ok (.invokestatic 180, 3) := by decide +kernel
theorem dX8_readRow_66 : decode cX8_readRow 66 = .ok (.if_icmp .ne 54, 3) := by decide +kernel
theorem dX8_readRow_69 : decode cX8_readRow 69 = .ok (.aload_n 0, 1) := by decide +kernel
theorem dX8_readRow_70 : decode cX8_readRow 70 = .ok (.getfield 26, 3) := by decide +kernel
theorem dX8_readRow_73 : decode cX8_readRow 73 = .ok (.iconst 2, 1) := by decide +kernel
theorem dX8_readRow_74 : decode cX8_readRow 74 = .ok (.aload_n 0, 1) := by decide +kernel
theorem dX8_readRow_75 : decode cX8_readRow 75 = .ok (.getfield 145, 3) := by decide +kernel
theorem dX8_readRow_78 : decode cX8_readRow 78 = .ok (.imul, 1) := by decide +kernel
theorem dX8_readRow_79 : decode cX8_readRow 79 = .ok (.aload_n 0, 1) := by decide +kernel
theorem dX8_readRow_80 : decode cX8_readRow 80 = .ok (.iconst 0, 1) := by decide +kernel
theorem dX8_readRow_81 : decode cX8_readRow 81 = .ok (.bipush 99, 2) := by decide +kernel
theorem dX8_readRow_83 : decode cX8_readRow 83 = .ok (.invokevirtual 186, 3) := by decide +kernel
theorem dX8_readRow_86 : decode cX8_readRow 86 = .ok (.iastore, 1) := by decide +kernel
theorem dX8_readRow_87 : decode cX8_readRow 87 = .ok (.aload_n 0, 1) := by decide +kernel
theorem dX8_readRow_88 : decode cX8_readRow 88 = .ok (.getfield 26, 3) := by decide +kernel
theorem dX8_readRow_91 : decode cX8_readRow 91 = .ok (.iconst 2, 1) := by decide +kernel
theorem dX8_readRow_92 : decode cX8_readRow 92 = .ok (.aload_n 0, 1) := by decide +kernel
theorem dX8_readRow_93 : decode cX8_readRow 93 = .ok (.getfield 145, 3) := by decide +kernel
theorem dX8_readRow_96 : decode cX8_readRow 96 = .ok (.imul, 1) := by decide +kernel
theorem dX8_readRow_97 : decode cX8_readRow 97 = .ok (.iconst 1, 1) := by decide +kernel
theorem dX8_readRow_98 : decode cX8_readRow 98 = .ok (.iadd, 1) := by decide +kernel
theorem dX8_readRow_99 : decode cX8_readRow 99 = .ok (.aload_n 0, 1) := by decide +kernel
theorem dX8_readRow_100 : decode cX8_readRow 100 = .ok (.iconst 0, 1) := by decide +kernel
theorem dX8_readRow_101 : decode cX8_readRow 101 = .ok (.bipush 99, 2) := by decide +kernel
theorem dX8_readRow_103 : decode cX8_readRow 103 = .ok (.invokevirtual 186, 3) := by decide +kernel
theorem dX8_readRow_106 : decode cX8_readRow 106 = .ok (.iastore, 1) := by decide +kernel
theorem dX8_readRow_107 : decode cX8_readRow 107 = .ok (.aload_n 0, 1) := by decide +kernel
theorem dX8_readRow_108 : decode cX8_readRow 108 = .ok (.dup, 1) := by decide +kernel
theorem dX8_readRow_109 : decode cX8_readRow 109 = .ok (.getfield 145, 3) := by decide +kernel
theorem dX8_readRow_112 : decode cX8_readRow 112 = .ok (.iconst 1, 1) := by decide +kernel
theorem dX8_readRow_113 : decode cX8_readRow 113 = .ok (.iadd, 1) := by decide +kernel
theorem dX8_readRow_114 : decode cX8_readRow 114 = .ok (.putfield 145, 3) := by decide +kernel
theorem dX8_readRow_117 : decode cX8_readRow 117 = .ok (.goto 14, 3) := by decide +kernel
theorem dX8_readRow_120 : decode cX8_readRow 120 = .ok (.aload_n 0, 1) := by decide +kernel
theorem dX8_readRow_121 : decode cX8_readRow 121 = .ok (.aload_n 0, 1) := by decide +kernel
theorem dX8_readRow_122 : decode cX8_readRow 122 = .ok (.iconst 1, 1) := by decide +kernel
theorem dX8_readRow_123 : decode cX8_readRow 123 = .ok (.bipush 20, 2) := by decide +kernel
theorem dX8_readRow_125 : decode cX8_readRow 125 = .ok (.invokevirtual 186, 3) := by decide +kernel
theorem dX8_readRow_128 : decode cX8_readRow 128 = .ok (.putfield 148, 3) := by decide +kernel
theorem dX8_readRow_131 : decode cX8_readRow 131 = .ok (.return_, 1) := by decide +kernel
theorem dX8_corner_0 : decode cX8_corner 0 = .ok (.aload_n 0, 1) := by decide +kernel
theorem dX8_corner_1 : decode cX8_corner 1 = .ok (.iconst 0, 1) := by decide +kernel
theorem dX8_corner_2 : decode cX8_corner 2 = .ok (.putfield 3, 3) := by decide +kernel
theorem dX8_corner_5 : decode cX8_corner 5 = .ok (.aload_n 0, 1) := by decide +kernel
theorem dX8_corner_6 : decode cX8_corner 6 = .ok (.iload_n 1, 1) := by decide +kernel
theorem dX8_corner_7 : decode cX8_corner 7 = .ok (.ifCond .lt 15, 3) := by decide +kernel
theorem dX8_corner_10 : decode cX8_corner 10 = .ok (.iload_n 1, 1) := by decide +kernel
theorem dX8_corner_11 : decode cX8_corner 11 = .ok (.aload_n 0, 1) := by decide +kernel
theorem dX8_corner_12 : decode cX8_corner 12 = .ok (.getfield 96, 3) := by decide +kernel
theorem dX8_corner_15 : decode cX8_corner 15 = .ok (.if_icmp .gt 7, 3) := by decide +kernel
theorem dX8_corner_18 : decode cX8_corner 18 = .ok (.iconst 1, 1) := by decide +kernel
theorem dX8_corner_19 : decode cX8_corner 19 = .ok (.goto 4, 3) := by decide +kernel
theorem dX8_corner_22 : decode cX8_corner 22 = .ok (.iconst 0, 1) := by decide +kernel
theorem dX8_corner_23 : decode cX8_corner 23 = .ok (.iconst 1, 1) := by decide +kernel
theorem dX8_corner_24 : decode cX8_corner 24 = .ok (.iconst 1, 1) := by decide +kernel
theorem dX8_corner_25 : decode cX8_corner 25 = .ok (.invokevirtual 190, 3) := by decide +kernel
theorem dX8_corner_28 : decode cX8_corner 28 = .ok (.ifCond .ne 5, 3) := by decide +kernel
theorem dX8_corner_31 : decode cX8_corner 31 = .ok (.iconst 0, 1) := by decide +kernel
theorem dX8_corner_32 : decode cX8_corner 32 = .ok (.ireturn, 1) := by decide +kernel
theorem dX8_corner_33 : decode cX8_corner 33 = .ok (.aload_n 0, 1) := by decide +kernel
theorem dX8_corner_34 : decode cX8_corner 34 = .ok (.iload_n 1, 1) := by decide +kernel
theorem dX8_corner_35 : decode cX8_corner 35 = .ok (.invokevirtual 194, 3) := by decide +kernel
theorem dX8_corner_38 : decode cX8_corner 38 = .ok (.aload_n 0, 1) := by decide +kernel
theorem dX8_corner_39 : decode cX8_corner 39 = .ok (.invokevirtual 90, 3) := by decide +kernel
theorem dX8_corner_42 : decode cX8_corner 42 = .ok (.iconst 0, 1) := by decide +kernel
theorem dX8_corner_43 : decode cX8_corner 43 = .ok (.istore_n 2, 1) := by decide +kernel
theorem dX8_corner_44 : decode cX8_corner 44 = .ok (.aload_n 0, 1) := by decide +kernel
theorem dX8_corner_45 : decode cX8_corner 45 = .ok (.invokevirtual 128, 3) := by decide +kernel
theorem dX8_corner_48 : decode cX8_corner 48 = .ok (.ifCond .eq 88, 3) := by decide +kernel
theorem dX8_corner_51 : decode cX8_corner 51 = .ok (.aload_n 0, 1) := by decide +kernel
theorem dX8_corner_52 : decode cX8_corner 52 = .ok (.invokevirtual 198, 3) := by decide +kernel
theorem dX8_corner_55 : decode cX8_corner 55 = .ok (.ifCond .eq 81, 3) := by decide +kernel
theorem dX8_corner_58 : decode cX8_corner 58 = .ok (.aload_n 0, 1) := by decide +kernel
theorem dX8_corner_59 : decode cX8_corner 59 = .ok (.invokevirtual 201, 3) := by decide +kernel
theorem dX8_corner_62 : decode cX8_corner 62 = .ok (.istore_n 3, 1) := by decide +kernel
theorem dX8_corner_63 : decode cX8_corner 63 = .ok (.iload_n 3, 1) := by decide +kernel
theorem dX8_corner_64 : decode cX8_corner 64 = .ok (.invokestatic 204, 3) := by decide +kernel
theorem dX8_corner_67 : decode cX8_corner 67 = .ok (.ifCond .ne 15, 3) := by decide +kernel
theorem dX8_corner_70 : decode cX8_corner 70 = .ok (.aload_n 0, 1) := by decide +kernel
theorem dX8_corner_71 : decode cX8_corner 71 = .ok (.iconst 1, 1) := by decide +kernel
theorem dX8_corner_72 : decode cX8_corner 72 = .ok (.aload_n 0, 1) := by decide +kernel
theorem dX8_corner_73 : decode cX8_corner 73 = .ok (.getfield 105, 3) := by decide +kernel
theorem dX8_corner_76 : decode cX8_corner 76 = .ok (.invokevirtual 135, 3) := by decide +kernel
theorem dX8_corner_79 : decode cX8_corner 79 = .ok (.goto 26, 3) := by decide +kernel
theorem dX8_corner_82 : decode cX8_corner 82 = .ok (.iload_n 2, 1) := by decide +kernel
theorem dX8_corner_83 : decode cX8_corner 83 = .ok (.bipush 60, 2) := by decide +kernel
theorem dX8_corner_85 : decode cX8_corner 85 = .ok (.if_icmp .eq 11, 3) := by decide +kernel
theorem dX8_corner_88 : decode cX8_corner 88 = .ok (.aload_n 0, 1) := by decide +kernel
theorem dX8_corner_89 : decode cX8_corner 89 = .ok (.iload_n 3, 1) := by decide +kernel
theorem dX8_corner_90 : decode cX8_corner 90 = .ok (.invokevirtual 207, 3) := by decide +kernel
theorem dX8_corner_93 : decode cX8_corner 93 = .ok (.ifCond .eq 12, 3) := by decide +kernel
theorem dX8_corner_96 : decode cX8_corner 96 = .ok (.aload_n 0, 1) := by decide +kernel
theorem dX8_corner_97 : decode cX8_corner 97 = .ok (.iconst 3, 1) := by decide +kernel
theorem dX8_corner_98 : decode cX8_corner 98 = .ok (.aload_n 0, 1) := by decide +kernel
theorem dX8_corner_99 : decode cX8_corner 99 = .ok (.getfield 105, 3) := by decide +kernel
theorem dX8_corner_102 : decode cX8_corner 102 = .ok (.invokevirtual 135, 3) := by decide +kernel
theorem dX8_corner_105 : decode cX8_corner 105 = .ok (.aload_n 0, 1) := by decide +kernel
theorem dX8_corner_106 : decode cX8_corner 106 = .ok (.invokevirtual 128, 3) := by decide +kernel
theorem dX8_corner_109 : decode cX8_corner 109 = .ok (.ifCond .ne 6, 3) := by decide +kernel
theorem dX8_corner_112 : decode cX8_corner 112 = .ok (.goto 24, 3) := by decide +kernel
theorem dX8_corner_115 : decode cX8_corner 115 = .ok (.aload_n 0, 1) := by decide +kernel
theorem dX8_corner_116 : decode cX8_corner 116 = .ok (.invokevirtual 210, 3) := by decide +kernel
theorem dX8_corner_119 : decode cX8_corner 119 = .ok (.aload_n 0, 1) := by decide +kernel
theorem dX8_corner_120 : decode cX8_corner 120 = .ok (.iload_n 3, 1) := by decide +kernel
theorem dX8_corner_121 : decode cX8_corner 121 = .ok (.invokevirtual 213, 3) := by decide +kernel
theorem dX8_corner_124 : decode cX8_corner 124 = .ok (.aload_n 0, 1) := by decide +kernel
theorem dX8_corner_125 : decode cX8_corner 125 = .ok (.bipush 59, 2) := by decide +kernel
theorem dX8_corner_127 : decode cX8_corner 127 = .ok (.invokevirtual 216, 3) := by decide +kernel
theorem dX8_corner_130 : decode cX8_corner 130 = .ok (.iinc 2 1, 3) := by decide +kernel
theorem dX8_corner_133 : decode cX8_corner 133 = .ok (.goto (-89), 3) := by decide +kernel
theorem dX8_corner_136 : decode cX8_corner 136 = .ok (.aload_n 0, 1) := by decide +kernel
theorem dX8_corner_137 : decode cX8_corner 137 = .ok (.aload_n 0, 1) := by decide +kernel
theorem dX8_corner_138 : decode cX8_corner 138 = .ok (.getfield 145, 3) := by decide +kernel
theorem dX8_corner_141 : decode cX8_corner 141 = .ok (.invokevirtual 219, 3) := by decide +kernel
theorem dX8_corner_144 : decode cX8_corner 144 = .ok (.istore_n 3, 1) := by decide +kernel
theorem dX8_corner_145 : decode cX8_corner 145 = .ok (.aload_n 0, 1) := by decide +kernel
theorem dX8_corner_146 : decode cX8_corner 146 = .ok (.getfield 99, 3) := by decide +kernel
theorem dX8_corner_149 : decode cX8_corner 149 = .ok (.iconst (-1), 1) := by decide +kernel
theorem dX8_corner_150 : decode cX8_corner 150 = .ok (.if_icmp .ne 7, 3) := by decide +kernel
theorem dX8_corner_153 : decode cX8_corner 153 = .ok (.aload_n 0, 1) := by decide +kernel
theorem dX8_corner_154 : decode cX8_corner 154 = .ok (.invokevirtual 93, 3) := by decide +kernel
theorem dX8_corner_157 : decode cX8_corner 157 = .ok (.iload_n 3, 1) := by decide +kernel
theorem dX8_corner_158 : decode cX8_corner 158 = .ok (.ireturn, 1) := by decide +kernel
theorem dX8_emit_0 : decode cX8_emit 0 = .ok (.aload_n 0, 1) := by decide +kernel
theorem dX8_emit_1 : decode cX8_emit 1 = .ok (.invokevirtual 128, 3) := by decide +kernel
theorem dX8_emit_4 : decode cX8_emit 4 = .ok (.ifCond .ne 4, 3) := by decide +kernel
theorem dX8_emit_7 : decode cX8_emit 7 = .ok (.return_, 1) := by decide +kernel
theorem dX8_emit_8 : decode cX8_emit 8 = .ok (.aload_n 0, 1) := by decide +kernel
theorem dX8_emit_9 : decode cX8_emit 9 = .ok (.getfield 35, 3) := by decide +kernel
theorem dX8_emit_12 : decode cX8_emit 12 = .ok (.aload_n 0, 1) := by decide +kernel
theorem dX8_emit_13 : decode cX8_emit 13 = .ok (.getfield 223, 3) := by decide +kernel
theorem dX8_emit_16 : decode cX8_emit 16 = .ok (.iload_n 1, 1) := by decide +kernel
theorem dX8_emit_17 : decode cX8_emit 17 = .ok (.iastore, 1) := by decide +kernel
theorem dX8_emit_18 : decode cX8_emit 18 = .ok (.aload_n 0, 1) := by decide +kernel
theorem dX8_emit_19 : decode cX8_emit 19 = .ok (.getfield 38, 3) := by decide +kernel
theorem dX8_emit_22 : decode cX8_emit 22 = .ok (.aload_n 0, 1) := by decide +kernel
theorem dX8_emit_23 : decode cX8_emit 23 = .ok (.getfield 223, 3) := by decide +kernel
theorem dX8_emit_26 : decode cX8_emit 26 = .ok (.iload_n 2, 1) := by decide +kernel
theorem dX8_emit_27 : decode cX8_emit 27 = .ok (.iastore, 1) := by decide +kernel
theorem dX8_emit_28 : decode cX8_emit 28 = .ok (.aload_n 0, 1) := by decide +kernel
theorem dX8_emit_29 : decode cX8_emit 29 = .ok (.dup, 1) := by decide +kernel
theorem dX8_emit_30 : decode cX8_emit 30 = .ok (.getfield 223, 3) := by decide +kernel
theorem dX8_emit_33 : decode cX8_emit 33 = .ok (.iconst 1, 1) := by decide +kernel
theorem dX8_emit_34 : decode cX8_emit 34 = .ok (.iadd, 1) := by decide +kernel
theorem dX8_emit_35 : decode cX8_emit 35 = .ok (.putfield 223, 3) := by decide +kernel
theorem dX8_emit_38 : decode cX8_emit 38 = .ok (.return_, 1) := by decide +kernel
theorem dX8_opensOne_0 : decode cX8_opensOne 0 = .ok (.aload_n 0, 1) := by decide +kernel
theorem dX8_opensOne_1 : decode cX8_opensOne 1 = .ok (.invokevirtual 128, 3) := by decide +kernel
theorem dX8_opensOne_4 : decode cX8_opensOne 4 = .ok (.ifCond .eq 21, 3) := by decide +kernel
theorem dX8_opensOne_7 : decode cX8_opensOne 7 = .ok (.aload_n 0, 1) := by decide +kernel
theorem dX8_opensOne_8 : decode cX8_opensOne 8 = .ok (.getfield 139, 3) := by decide +kernel
theorem dX8_opensOne_11 : decode cX8_opensOne 11 = .ok (.bipush 6, 2) := by decide +kernel
theorem dX8_opensOne_13 : decode cX8_opensOne 13 = .ok (.if_icmp .ne 12, 3) := by decide +kernel
theorem dX8_opensOne_16 : decode cX8_opensOne 16 = .ok (.aload_n 0, 1) := by decide +kernel
theorem dX8_opensOne_17 : decode cX8_opensOne 17 = .ok (.iconst 3, 1) := by decide +kernel
theorem dX8_opensOne_18 : decode cX8_opensOne 18 = .ok (.aload_n 0, 1) := by decide +kernel
theorem dX8_opensOne_19 : decode cX8_opensOne 19 = .ok (.getfield 105, 3) := by decide +kernel
theorem dX8_opensOne_22 : decode cX8_opensOne 22 = .ok (.invokevirtual 135, 3) := by decide +kernel
theorem dX8_opensOne_25 : decode cX8_opensOne 25 = .ok (.aload_n 0, 1) := by decide +kernel
theorem dX8_opensOne_26 : decode cX8_opensOne 26 = .ok (.invokevirtual 128, 3) := by decide +kernel
theorem dX8_opensOne_29 : decode cX8_opensOne 29 = .ok (.ifCond .eq 13, 3) := by decide +kernel
theorem dX8_opensOne_32 : decode cX8_opensOne 32 = .ok (.aload_n 0, 1) := by decide +kernel
theorem dX8_opensOne_33 : decode cX8_opensOne 33 = .ok (.dup, 1) := by decide +kernel
theorem dX8_opensOne_34 : decode cX8_opensOne 34 = .ok (.getfield 105, 3) := by decide +kernel
theorem dX8_opensOne_37 : decode cX8_opensOne 37 = .ok (.iload_n 1, 1) := by decide +kernel
theorem dX8_opensOne_38 : decode cX8_opensOne 38 = .ok (.iadd, 1) := by decide +kernel
theorem dX8_opensOne_39 : decode cX8_opensOne 39 = .ok (.putfield 105, 3) := by decide +kernel
theorem dX8_opensOne_42 : decode cX8_opensOne 42 = .ok (.aload_n 0, 1) := by decide +kernel
theorem dX8_opensOne_43 : decode cX8_opensOne 43 = .ok (.dup, 1) := by decide +kernel
theorem dX8_opensOne_44 : decode cX8_opensOne 44 = .ok (.getfield 139, 3) := by decide +kernel
theorem dX8_opensOne_47 : decode cX8_opensOne 47 = .ok (.iconst 1, 1) := by decide +kernel
theorem dX8_opensOne_48 : decode cX8_opensOne 48 = .ok (.iadd, 1) := by decide +kernel
theorem dX8_opensOne_49 : decode cX8_opensOne 49 = .ok (.putfield 139, 3) := by decide +kernel
theorem dX8_opensOne_52 : decode cX8_opensOne 52 = .ok (.return_, 1) := by decide +kernel
theorem dX8_readSum_0 : decode cX8_readSum 0 = .ok (.aload_n 0, 1) := by decide +kernel
theorem dX8_readSum_1 : decode cX8_readSum 1 = .ok (.invokevirtual 226, 3) := by decide +kernel
theorem dX8_readSum_4 : decode cX8_readSum 4 = .ok (.aload_n 0, 1) := by decide +kernel
theorem dX8_readSum_5 : decode cX8_readSum 5 = .ok (.invokevirtual 128, 3) := by decide +kernel
theorem dX8_readSum_8 : decode cX8_readSum 8 = .ok (.ifCond .eq 59, 3) := by decide +kernel
theorem dX8_readSum_11 : decode cX8_readSum 11 = .ok (.aload_n 0, 1) := by decide +kernel
theorem dX8_readSum_12 : decode cX8_readSum 12 = .ok (.invokevirtual 111, 3) := by decide +kernel
theorem dX8_readSum_15 : decode cX8_readSum 15 = .ok (.bipush 43, 2) := by decide +kernel
theorem dX8_readSum_17 : decode cX8_readSum 17 = .ok (.if_icmp .eq 12, 3) := by decide +kernel
theorem dX8_readSum_20 : decode cX8_readSum 20 = .ok (.aload_n 0, 1) := by decide +kernel
theorem dX8_readSum_21 : decode cX8_readSum 21 = .ok (.invokevirtual 111, 3) := by decide +kernel
theorem dX8_readSum_24 : decode cX8_readSum 24 = .ok (.bipush 45, 2) := by decide +kernel
theorem dX8_readSum_26 : decode cX8_readSum 26 = .ok (.if_icmp .ne 41, 3) := by decide +kernel
theorem dX8_readSum_29 : decode cX8_readSum 29 = .ok (.aload_n 0, 1) := by decide +kernel
theorem dX8_readSum_30 : decode cX8_readSum 30 = .ok (.invokevirtual 111, 3) := by decide +kernel
theorem dX8_readSum_33 : decode cX8_readSum 33 = .ok (.bipush 43, 2) := by decide +kernel
theorem dX8_readSum_35 : decode cX8_readSum 35 = .ok (.if_icmp .ne 7, 3) := by decide +kernel
theorem dX8_readSum_38 : decode cX8_readSum 38 = .ok (.iconst 2, 1) := by decide +kernel
theorem dX8_readSum_39 : decode cX8_readSum 39 = .ok (.goto 4, 3) := by decide +kernel
theorem dX8_readSum_42 : decode cX8_readSum 42 = .ok (.iconst 3, 1) := by decide +kernel
theorem dX8_readSum_43 : decode cX8_readSum 43 = .ok (.istore_n 1, 1) := by decide +kernel
theorem dX8_readSum_44 : decode cX8_readSum 44 = .ok (.aload_n 0, 1) := by decide +kernel
theorem dX8_readSum_45 : decode cX8_readSum 45 = .ok (.dup, 1) := by decide +kernel
theorem dX8_readSum_46 : decode cX8_readSum 46 = .ok (.getfield 105, 3) := by decide +kernel
theorem dX8_readSum_49 : decode cX8_readSum 49 = .ok (.iconst 1, 1) := by decide +kernel
theorem dX8_readSum_50 : decode cX8_readSum 50 = .ok (.iadd, 1) := by decide +kernel
theorem dX8_readSum_51 : decode cX8_readSum 51 = .ok (.putfield 105, 3) := by decide +kernel
theorem dX8_readSum_54 : decode cX8_readSum 54 = .ok (.aload_n 0, 1) := by decide +kernel
theorem dX8_readSum_55 : decode cX8_readSum 55 = .ok (.invokevirtual 226, 3) := by decide +kernel
theorem dX8_readSum_58 : decode cX8_readSum 58 = .ok (.aload_n 0, 1) := by decide +kernel
theorem dX8_readSum_59 : decode cX8_readSum 59 = .ok (.iload_n 1, 1) := by decide +kernel
theorem dX8_readSum_60 : decode cX8_readSum 60 = .ok (.iconst 0, 1) := by decide +kernel
theorem dX8_readSum_61 : decode cX8_readSum 61 = .ok (.invokevirtual 229, 3) := by decide +kernel
theorem dX8_readSum_64 : decode cX8_readSum 64 = .ok (.goto (-60), 3) := by decide +kernel
theorem dX8_readSum_67 : decode cX8_readSum 67 = .ok (.return_, 1) := by decide +kernel
theorem dX8_readProduct_0 : decode cX8_readProduct 0 = .ok (.aload_n 0, 1) := by decide +kernel
theorem dX8_readProduct_1 : decode cX8_readProduct 1 = .ok (.invokevirtual 232, 3) := by decide +kernel
theorem dX8_readProduct_4 : decode cX8_readProduct 4 = .ok (.aload_n 0, 1) := by decide +kernel
theorem dX8_readProduct_5 : decode cX8_readProduct 5 = .ok (.invokevirtual 128, 3) := by decide +kernel
theorem dX8_readProduct_8 : decode cX8_readProduct 8 = .ok (.ifCond .eq 82, 3) := by decide +kernel
theorem dX8_readProduct_11 : decode cX8_readProduct 11 = .ok (.aload_n 0, 1) := by decide +kernel
theorem dX8_readProduct_12 : decode cX8_readProduct 12 = .ok (.invokevirtual 111, 3) := by decide +kernel
theorem dX8_readProduct_15 : decode cX8_readProduct 15 = .ok (.bipush 42, 2) := by decide +kernel
theorem dX8_readProduct_17 : decode cX8_readProduct 17 = .ok (.if_icmp .eq 21, 3) := by decide +kernel
theorem dX8_readProduct_20 : decode cX8_readProduct 20 = .ok (.aload_n 0, 1) := by decide +kernel
theorem dX8_readProduct_21 : decode cX8_readProduct 21 = .ok (.invokevirtual 111, 3) := by decide +kernel
theorem dX8_readProduct_24 : decode cX8_readProduct 24 = .ok (.bipush 47, 2) := by decide +kernel
theorem dX8_readProduct_26 : decode cX8_readProduct 26 = .ok (.if_icmp .eq 12, 3) := by decide +kernel
theorem dX8_readProduct_29 : decode cX8_readProduct 29 = .ok (.aload_n 0, 1) := by decide +kernel
theorem dX8_readProduct_30 : decode cX8_readProduct 30 = .ok (.invokevirtual 111, 3) := by decide +kernel
theorem dX8_readProduct_33 : decode cX8_readProduct 33 = .ok (.bipush 37, 2) := by decide +kernel
theorem dX8_readProduct_35 : decode cX8_readProduct 35 = .ok (.if_icmp .ne 55, 3) := by decide +kernel
theorem dX8_readProduct_38 : decode cX8_readProduct 38 = .ok (.aload_n 0, 1) := by decide +kernel
theorem dX8_readProduct_39 : decode cX8_readProduct 39 = .ok (.invokevirtual 111, 3) := by decide +kernel
theorem dX8_readProduct_42 : decode cX8_readProduct 42 = .ok (.bipush 42, 2) := by decide +kernel
theorem dX8_readProduct_44 : decode cX8_readProduct 44 = .ok (.if_icmp .ne 7, 3) := by decide +kernel
theorem dX8_readProduct_47 : decode cX8_readProduct 47 = .ok (.iconst 4, 1) := by decide +kernel
theorem dX8_readProduct_48 : decode cX8_readProduct 48 = .ok (.goto 18, 3) := by decide +kernel
theorem dX8_readProduct_51 : decode cX8_readProduct 51 = .ok (.aload_n 0, 1) := by decide +kernel
theorem dX8_readProduct_52 : decode cX8_readProduct 52 = .ok (.invokevirtual 111, 3) := by decide +kernel
theorem dX8_readProduct_55 : decode cX8_readProduct 55 = .ok (.bipush 47, 2) := by decide +kernel
theorem dX8_readProduct_57 : decode cX8_readProduct 57 = .ok (.if_icmp .ne 7, 3) := by decide +kernel
theorem dX8_readProduct_60 : decode cX8_readProduct 60 = .ok (.iconst 5, 1) := by decide +kernel
theorem dX8_readProduct_61 : decode cX8_readProduct 61 = .ok (.goto 5, 3) := by decide +kernel
theorem dX8_readProduct_64 : decode cX8_readProduct 64 = .ok (.bipush 8, 2) := by decide +kernel
theorem dX8_readProduct_66 : decode cX8_readProduct 66 = .ok (.istore_n 1, 1) := by decide +kernel
theorem dX8_readProduct_67 : decode cX8_readProduct 67 = .ok (.aload_n 0, 1) := by decide +kernel
theorem dX8_readProduct_68 : decode cX8_readProduct 68 = .ok (.dup, 1) := by decide +kernel
theorem dX8_readProduct_69 : decode cX8_readProduct 69 = .ok (.getfield 105, 3) := by decide +kernel
theorem dX8_readProduct_72 : decode cX8_readProduct 72 = .ok (.iconst 1, 1) := by decide +kernel
theorem dX8_readProduct_73 : decode cX8_readProduct 73 = .ok (.iadd, 1) := by decide +kernel
theorem dX8_readProduct_74 : decode cX8_readProduct 74 = .ok (.putfield 105, 3) := by decide +kernel
theorem dX8_readProduct_77 : decode cX8_readProduct 77 = .ok (.aload_n 0, 1) := by decide +kernel
theorem dX8_readProduct_78 : decode cX8_readProduct 78 = .ok (.invokevirtual 232, 3) := by decide +kernel
theorem dX8_readProduct_81 : decode cX8_readProduct 81 = .ok (.aload_n 0, 1) := by decide +kernel
theorem dX8_readProduct_82 : decode cX8_readProduct 82 = .ok (.iload_n 1, 1) := by decide +kernel
theorem dX8_readProduct_83 : decode cX8_readProduct 83 = .ok (.iconst 0, 1) := by decide +kernel
theorem dX8_readProduct_84 : decode cX8_readProduct 84 = .ok (.invokevirtual 229, 3) := by decide +kernel
theorem dX8_readProduct_87 : decode cX8_readProduct 87 = .ok (.goto (-83), 3) := by decide +kernel
theorem dX8_readProduct_90 : decode cX8_readProduct 90 = .ok (.return_, 1) := by decide +kernel
theorem dX8_readTwo_0 : decode cX8_readTwo 0 = .ok (.aload_n 0, 1) := by decide +kernel
theorem dX8_readTwo_1 : decode cX8_readTwo 1 = .ok (.iload_n 1, 1) := by decide +kernel
theorem dX8_readTwo_2 : decode cX8_readTwo 2 = .ok (.invokevirtual 235, 3) := by decide +kernel
theorem dX8_readTwo_5 : decode cX8_readTwo 5 = .ok (.aload_n 0, 1) := by decide +kernel
theorem dX8_readTwo_6 : decode cX8_readTwo 6 = .ok (.bipush 91, 2) := by decide +kernel
theorem dX8_readTwo_8 : decode cX8_readTwo 8 = .ok (.invokevirtual 216, 3) := by decide +kernel
theorem dX8_readTwo_11 : decode cX8_readTwo 11 = .ok (.aload_n 0, 1) := by decide +kernel
theorem dX8_readTwo_12 : decode cX8_readTwo 12 = .ok (.invokevirtual 238, 3) := by decide +kernel
theorem dX8_readTwo_15 : decode cX8_readTwo 15 = .ok (.aload_n 0, 1) := by decide +kernel
theorem dX8_readTwo_16 : decode cX8_readTwo 16 = .ok (.bipush 44, 2) := by decide +kernel
theorem dX8_readTwo_18 : decode cX8_readTwo 18 = .ok (.invokevirtual 216, 3) := by decide +kernel
theorem dX8_readTwo_21 : decode cX8_readTwo 21 = .ok (.aload_n 0, 1) := by decide +kernel
theorem dX8_readTwo_22 : decode cX8_readTwo 22 = .ok (.invokevirtual 238, 3) := by decide +kernel
theorem dX8_readTwo_25 : decode cX8_readTwo 25 = .ok (.aload_n 0, 1) := by decide +kernel
theorem dX8_readTwo_26 : decode cX8_readTwo 26 = .ok (.bipush 93, 2) := by decide +kernel
theorem dX8_readTwo_28 : decode cX8_readTwo 28 = .ok (.invokevirtual 216, 3) := by decide +kernel
theorem dX8_readTwo_31 : decode cX8_readTwo 31 = .ok (.aload_n 0, 1) := by decide +kernel
theorem dX8_readTwo_32 : decode cX8_readTwo 32 = .ok (.dup, 1) := by decide +kernel
theorem dX8_readTwo_33 : decode cX8_readTwo 33 = .ok (.getfield 139, 3) := by decide +kernel
theorem dX8_readTwo_36 : decode cX8_readTwo 36 = .ok (.iconst 1, 1) := by decide +kernel
theorem dX8_readTwo_37 : decode cX8_readTwo 37 = .ok (.isub, 1) := by decide +kernel
theorem dX8_readTwo_38 : decode cX8_readTwo 38 = .ok (.putfield 139, 3) := by decide +kernel
theorem dX8_readTwo_41 : decode cX8_readTwo 41 = .ok (.aload_n 0, 1) := by decide +kernel
theorem dX8_readTwo_42 : decode cX8_readTwo 42 = .ok (.iload_n 2, 1) := by decide +kernel
theorem dX8_readTwo_43 : decode cX8_readTwo 43 = .ok (.iconst 0, 1) := by decide +kernel
theorem dX8_readTwo_44 : decode cX8_readTwo 44 = .ok (.invokevirtual 229, 3) := by decide +kernel
theorem dX8_readTwo_47 : decode cX8_readTwo 47 = .ok (.return_, 1) := by decide +kernel
theorem dX8_factHere_0 : decode cX8_factHere 0 = .ok (.aload_n 0, 1) := by decide +kernel
theorem dX8_factHere_1 : decode cX8_factHere 1 = .ok (.invokevirtual 201, 3) := by decide +kernel
theorem dX8_factHere_4 : decode cX8_factHere 4 = .ok (.istore_n 1, 1) := by decide +kernel
theorem dX8_factHere_5 : decode cX8_factHere 5 = .ok (.iload_n 1, 1) := by decide +kernel
theorem dX8_factHere_6 : decode cX8_factHere 6 = .ok (.ldc 241, 2) := by decide +kernel
theorem dX8_factHere_8 : decode cX8_factHere 8 = .ok (.invokestatic 180, 3) := by decide +kernel
theorem dX8_factHere_11 : decode cX8_factHere 11 = .ok (.if_icmp .ne 7, 3) := by decide +kernel
theorem dX8_factHere_14 : decode cX8_factHere 14 = .ok (.iconst 0, 1) := by decide +kernel
theorem dX8_factHere_15 : decode cX8_factHere 15 = .ok (.goto 97, 3) := by decide +kernel
theorem dX8_factHere_18 : decode cX8_factHere 18 = .ok (.iload_n 1, 1) := by decide +kernel
theorem dX8_factHere_19 : decode cX8_factHere 19 = .ok (.ldc 185, 2) := by decide +kernel
theorem dX8_factHere_21 : decode cX8_factHere 21 = .ok (.invokestatic 180, 3) := by decide +kernel
theorem dX8_factHere_24 : decode cX8_factHere 24 = .ok (.if_icmp .ne 7, 3) := by decide +kernel
theorem dX8_factHere_27 : decode cX8_factHere 27 = .ok (.iconst 1, 1) := by decide +kernel
theorem dX8_factHere_28 : decode cX8_factHere 28 = .ok (.goto 84, 3) := by decide +kernel
theorem dX8_factHere_31 : decode cX8_factHere 31 = .ok (.iload_n 1, 1) := by decide +kernel
theorem dX8_factHere_32 : decode cX8_factHere 32 = .ok (.ldc 242, 2) := by decide +kernel
theorem dX8_factHere_34 : decode cX8_factHere 34 = .ok (.invokestatic 180, 3) := by decide +kernel
theorem dX8_factHere_37 : decode cX8_factHere 37 = .ok (.if_icmp .ne 7, 3) := by decide +kernel
theorem dX8_factHere_40 : decode cX8_factHere 40 = .ok (.iconst 2, 1) := by decide +kernel
theorem dX8_factHere_41 : decode cX8_factHere 41 = .ok (.goto 71, 3) := by decide +kernel
theorem dX8_factHere_44 : decode cX8_factHere 44 = .ok (.iload_n 1, 1) := by decide +kernel
theorem dX8_factHere_45 : decode cX8_factHere 45 = .ok (.ldc 244, 2) := by decide +kernel
theorem dX8_factHere_47 : decode cX8_factHere 47 = .ok (.invokestatic 180, 3) := by decide +kernel
theorem dX8_factHere_50 : decode cX8_factHere 50 = .ok (.if_icmp .ne 7, 3) := by decide +kernel
theorem dX8_factHere_53 : decode cX8_factHere 53 = .ok (.iconst 3, 1) := by decide +kernel
theorem dX8_factHere_54 : decode cX8_factHere 54 = .ok (.goto 58, 3) := by decide +kernel
theorem dX8_factHere_57 : decode cX8_factHere 57 = .ok (.iload_n 1, 1) := by decide +kernel
theorem dX8_factHere_58 : decode cX8_factHere 58 = .ok (.ldc 246, 2) := by decide +kernel
theorem dX8_factHere_60 : decode cX8_factHere 60 = .ok (.invokestatic 180, 3) := by decide +kernel
theorem dX8_factHere_63 : decode cX8_factHere 63 = .ok (.if_icmp .ne 7, 3) := by decide +kernel
theorem dX8_factHere_66 : decode cX8_factHere 66 = .ok (.iconst 4, 1) := by decide +kernel
theorem dX8_factHere_67 : decode cX8_factHere 67 = .ok (.goto 45, 3) := by decide +kernel
theorem dX8_factHere_70 : decode cX8_factHere 70 = .ok (.iload_n 1, 1) := by decide +kernel
theorem dX8_factHere_71 : decode cX8_factHere 71 = .ok (.ldc 248, 2) := by decide +kernel
theorem dX8_factHere_73 : decode cX8_factHere 73 = .ok (.invokestatic 180, 3) := by decide +kernel
theorem dX8_factHere_76 : decode cX8_factHere 76 = .ok (.if_icmp .ne 7, 3) := by decide +kernel
theorem dX8_factHere_79 : decode cX8_factHere 79 = .ok (.iconst 5, 1) := by decide +kernel
theorem dX8_factHere_80 : decode cX8_factHere 80 = .ok (.goto 32, 3) := by decide +kernel
theorem dX8_factHere_83 : decode cX8_factHere 83 = .ok (.iload_n 1, 1) := by decide +kernel
theorem dX8_factHere_84 : decode cX8_factHere 84 = .ok (.ldc 250, 2) := by decide +kernel
theorem dX8_factHere_86 : decode cX8_factHere 86 = .ok (.invokestatic 180, 3) := by decide +kernel
theorem dX8_factHere_89 : decode cX8_factHere 89 = .ok (.if_icmp .ne 8, 3) := by decide +kernel
theorem dX8_factHere_92 : decode cX8_factHere 92 = .ok (.bipush 6, 2) := by decide +kernel
theorem dX8_factHere_94 : decode cX8_factHere 94 = .ok (.goto 18, 3) := by decide +kernel
theorem dX8_factHere_97 : decode cX8_factHere 97 = .ok (.iload_n 1, 1) := by decide +kernel
theorem dX8_factHere_98 : decode cX8_factHere 98 = .ok (.ldc 184, 2) := by decide +kernel
theorem dX8_factHere_100 : decode cX8_factHere 100 = .ok (.invokestatic 180, 3) := by decide +kernel
theorem dX8_factHere_103 : decode cX8_factHere 103 = .ok (.if_icmp .ne 8, 3) := by decide +kernel
theorem dX8_factHere_106 : decode cX8_factHere 106 = .ok (.bipush 7, 2) := by decide +kernel
theorem dX8_factHere_108 : decode cX8_factHere 108 = .ok (.goto 4, 3) := by decide +kernel
theorem dX8_factHere_111 : decode cX8_factHere 111 = .ok (.iconst (-1), 1) := by decide +kernel
theorem dX8_factHere_112 : decode cX8_factHere 112 = .ok (.ireturn, 1) := by decide +kernel
theorem dX8_readUnit_0 : decode cX8_readUnit 0 = .ok (.aload_n 0, 1) := by decide +kernel
theorem dX8_readUnit_1 : decode cX8_readUnit 1 = .ok (.invokevirtual 128, 3) := by decide +kernel
theorem dX8_readUnit_4 : decode cX8_readUnit 4 = .ok (.ifCond .ne 4, 3) := by decide +kernel
theorem dX8_readUnit_7 : decode cX8_readUnit 7 = .ok (.return_, 1) := by decide +kernel
theorem dX8_readUnit_8 : decode cX8_readUnit 8 = .ok (.aload_n 0, 1) := by decide +kernel
theorem dX8_readUnit_9 : decode cX8_readUnit 9 = .ok (.invokevirtual 111, 3) := by decide +kernel
theorem dX8_readUnit_12 : decode cX8_readUnit 12 = .ok (.bipush 40, 2) := by decide +kernel
theorem dX8_readUnit_14 : decode cX8_readUnit 14 = .ok (.if_icmp .ne 31, 3) := by decide +kernel
theorem dX8_readUnit_17 : decode cX8_readUnit 17 = .ok (.aload_n 0, 1) := by decide +kernel
theorem dX8_readUnit_18 : decode cX8_readUnit 18 = .ok (.iconst 1, 1) := by decide +kernel
theorem dX8_readUnit_19 : decode cX8_readUnit 19 = .ok (.invokevirtual 235, 3) := by decide +kernel
theorem dX8_readUnit_22 : decode cX8_readUnit 22 = .ok (.aload_n 0, 1) := by decide +kernel
theorem dX8_readUnit_23 : decode cX8_readUnit 23 = .ok (.invokevirtual 238, 3) := by decide +kernel
theorem dX8_readUnit_26 : decode cX8_readUnit 26 = .ok (.aload_n 0, 1) := by decide +kernel
theorem dX8_readUnit_27 : decode cX8_readUnit 27 = .ok (.bipush 41, 2) := by decide +kernel
theorem dX8_readUnit_29 : decode cX8_readUnit 29 = .ok (.invokevirtual 216, 3) := by decide +kernel
theorem dX8_readUnit_32 : decode cX8_readUnit 32 = .ok (.aload_n 0, 1) := by decide +kernel
theorem dX8_readUnit_33 : decode cX8_readUnit 33 = .ok (.dup, 1) := by decide +kernel
theorem dX8_readUnit_34 : decode cX8_readUnit 34 = .ok (.getfield 139, 3) := by decide +kernel
theorem dX8_readUnit_37 : decode cX8_readUnit 37 = .ok (.iconst 1, 1) := by decide +kernel
theorem dX8_readUnit_38 : decode cX8_readUnit 38 = .ok (.isub, 1) := by decide +kernel
theorem dX8_readUnit_39 : decode cX8_readUnit 39 = .ok (.putfield 139, 3) := by decide +kernel
theorem dX8_readUnit_42 : decode cX8_readUnit 42 = .ok (.goto 111, 3) := by decide +kernel
theorem dX8_readUnit_45 : decode cX8_readUnit 45 = .ok (.aload_n 0, 1) := by decide +kernel
theorem dX8_readUnit_46 : decode cX8_readUnit 46 = .ok (.invokevirtual 111, 3) := by decide +kernel
theorem dX8_readUnit_49 : decode cX8_readUnit 49 = .ok (.invokestatic 132, 3) := by decide +kernel
theorem dX8_readUnit_52 : decode cX8_readUnit 52 = .ok (.ifCond .eq 19, 3) := by decide +kernel
theorem dX8_readUnit_55 : decode cX8_readUnit 55 = .ok (.aload_n 0, 1) := by decide +kernel
theorem dX8_readUnit_56 : decode cX8_readUnit 56 = .ok (.iconst 0, 1) := by decide +kernel
theorem dX8_readUnit_57 : decode cX8_readUnit 57 = .ok (.aload_n 0, 1) := by decide +kernel
theorem dX8_readUnit_58 : decode cX8_readUnit 58 = .ok (.iconst 0, 1) := by decide +kernel
theorem dX8_readUnit_59 : decode cX8_readUnit 59 = .ok (.sipush 999, 3) := by decide +kernel
theorem dX8_readUnit_62 : decode cX8_readUnit 62 = .ok (.invokevirtual 186, 3) := by decide +kernel
theorem dX8_readUnit_65 : decode cX8_readUnit 65 = .ok (.invokevirtual 229, 3) := by decide +kernel
theorem dX8_readUnit_68 : decode cX8_readUnit 68 = .ok (.goto 85, 3) := by decide +kernel
theorem dX8_readUnit_71 : decode cX8_readUnit 71 = .ok (.aload_n 0, 1) := by decide +kernel
theorem dX8_readUnit_72 : decode cX8_readUnit 72 = .ok (.invokevirtual 201, 3) := by decide +kernel
theorem dX8_readUnit_75 : decode cX8_readUnit 75 = .ok (.ldc 252, 2) := by decide +kernel
theorem dX8_readUnit_77 : decode cX8_readUnit 77 = .ok (.invokestatic 180, 3) := by decide +kernel
theorem dX8_readUnit_80 : decode cX8_readUnit 80 = .ok (.if_icmp .ne 13, 3) := by decide +kernel
theorem dX8_readUnit_83 : decode cX8_readUnit 83 = .ok (.aload_n 0, 1) := by decide +kernel
theorem dX8_readUnit_84 : decode cX8_readUnit 84 = .ok (.iconst 5, 1) := by decide +kernel
theorem dX8_readUnit_85 : decode cX8_readUnit 85 = .ok (.bipush 6, 2) := by decide +kernel
theorem dX8_readUnit_87 : decode cX8_readUnit 87 = .ok (.invokevirtual 254, 3) := by decide +kernel
theorem dX8_readUnit_90 : decode cX8_readUnit 90 = .ok (.goto 63, 3) := by decide +kernel
theorem dX8_readUnit_93 : decode cX8_readUnit 93 = .ok (.aload_n 0, 1) := by decide +kernel
theorem dX8_readUnit_94 : decode cX8_readUnit 94 = .ok (.invokevirtual 201, 3) := by decide +kernel
theorem dX8_readUnit_97 : decode cX8_readUnit 97 = .ok (.ldc_w 257, 3) := by decide +kernel
theorem dX8_readUnit_100 : decode cX8_readUnit 100 = .ok (.invokestatic 180, 3) := by decide +kernel
theorem dX8_readUnit_103 : decode cX8_readUnit 103 = .ok (.if_icmp .ne 13, 3) := by decide +kernel
theorem dX8_readUnit_106 : decode cX8_readUnit 106 = .ok (.aload_n 0, 1) := by decide +kernel
theorem dX8_readUnit_107 : decode cX8_readUnit 107 = .ok (.iconst 4, 1) := by decide +kernel
theorem dX8_readUnit_108 : decode cX8_readUnit 108 = .ok (.bipush 7, 2) := by decide +kernel
theorem dX8_readUnit_110 : decode cX8_readUnit 110 = .ok (.invokevirtual 254, 3) := by decide +kernel
theorem dX8_readUnit_113 : decode cX8_readUnit 113 = .ok (.goto 40, 3) := by decide +kernel
theorem dX8_readUnit_116 : decode cX8_readUnit 116 = .ok (.aload_n 0, 1) := by decide +kernel
theorem dX8_readUnit_117 : decode cX8_readUnit 117 = .ok (.invokevirtual 259, 3) := by decide +kernel
theorem dX8_readUnit_120 : decode cX8_readUnit 120 = .ok (.istore_n 1, 1) := by decide +kernel
theorem dX8_readUnit_121 : decode cX8_readUnit 121 = .ok (.iload_n 1, 1) := by decide +kernel
theorem dX8_readUnit_122 : decode cX8_readUnit 122 = .ok (.iconst (-1), 1) := by decide +kernel
theorem dX8_readUnit_123 : decode cX8_readUnit 123 = .ok (.if_icmp .ne 12, 3) := by decide +kernel
theorem dX8_readUnit_126 : decode cX8_readUnit 126 = .ok (.aload_n 0, 1) := by decide +kernel
theorem dX8_readUnit_127 : decode cX8_readUnit 127 = .ok (.iconst 1, 1) := by decide +kernel
theorem dX8_readUnit_128 : decode cX8_readUnit 128 = .ok (.aload_n 0, 1) := by decide +kernel
theorem dX8_readUnit_129 : decode cX8_readUnit 129 = .ok (.getfield 105, 3) := by decide +kernel
theorem dX8_readUnit_132 : decode cX8_readUnit 132 = .ok (.invokevirtual 135, 3) := by decide +kernel
theorem dX8_readUnit_135 : decode cX8_readUnit 135 = .ok (.aload_n 0, 1) := by decide +kernel
theorem dX8_readUnit_136 : decode cX8_readUnit 136 = .ok (.invokevirtual 128, 3) := by decide +kernel
theorem dX8_readUnit_139 : decode cX8_readUnit 139 = .ok (.ifCond .ne 4, 3) := by decide +kernel
theorem dX8_readUnit_142 : decode cX8_readUnit 142 = .ok (.return_, 1) := by decide +kernel
theorem dX8_readUnit_143 : decode cX8_readUnit 143 = .ok (.aload_n 0, 1) := by decide +kernel
theorem dX8_readUnit_144 : decode cX8_readUnit 144 = .ok (.invokevirtual 210, 3) := by decide +kernel
theorem dX8_readUnit_147 : decode cX8_readUnit 147 = .ok (.aload_n 0, 1) := by decide +kernel
theorem dX8_readUnit_148 : decode cX8_readUnit 148 = .ok (.iconst 1, 1) := by decide +kernel
theorem dX8_readUnit_149 : decode cX8_readUnit 149 = .ok (.iload_n 1, 1) := by decide +kernel
theorem dX8_readUnit_150 : decode cX8_readUnit 150 = .ok (.invokevirtual 229, 3) := by decide +kernel
theorem dX8_readUnit_153 : decode cX8_readUnit 153 = .ok (.return_, 1) := by decide +kernel
theorem dX8_law_0 : decode cX8_law 0 = .ok (.aload_n 0, 1) := by decide +kernel
theorem dX8_law_1 : decode cX8_law 1 = .ok (.iconst 0, 1) := by decide +kernel
theorem dX8_law_2 : decode cX8_law 2 = .ok (.putfield 3, 3) := by decide +kernel
theorem dX8_law_5 : decode cX8_law 5 = .ok (.aload_n 0, 1) := by decide +kernel
theorem dX8_law_6 : decode cX8_law 6 = .ok (.iload_n 1, 1) := by decide +kernel
theorem dX8_law_7 : decode cX8_law 7 = .ok (.ifCond .lt 22, 3) := by decide +kernel
theorem dX8_law_10 : decode cX8_law 10 = .ok (.iload_n 1, 1) := by decide +kernel
theorem dX8_law_11 : decode cX8_law 11 = .ok (.aload_n 0, 1) := by decide +kernel
theorem dX8_law_12 : decode cX8_law 12 = .ok (.getfield 96, 3) := by decide +kernel
theorem dX8_law_15 : decode cX8_law 15 = .ok (.if_icmp .gt 14, 3) := by decide +kernel
theorem dX8_law_18 : decode cX8_law 18 = .ok (.iload_n 1, 1) := by decide +kernel
theorem dX8_law_19 : decode cX8_law 19 = .ok (.sipush 150, 3) := by decide +kernel
theorem dX8_law_22 : decode cX8_law 22 = .ok (.if_icmp .gt 7, 3) := by decide +kernel
theorem dX8_law_25 : decode cX8_law 25 = .ok (.iconst 1, 1) := by decide +kernel
theorem dX8_law_26 : decode cX8_law 26 = .ok (.goto 4, 3) := by decide +kernel
theorem dX8_law_29 : decode cX8_law 29 = .ok (.iconst 0, 1) := by decide +kernel
theorem dX8_law_30 : decode cX8_law 30 = .ok (.iconst 1, 1) := by decide +kernel
theorem dX8_law_31 : decode cX8_law 31 = .ok (.iconst 1, 1) := by decide +kernel
theorem dX8_law_32 : decode cX8_law 32 = .ok (.invokevirtual 190, 3) := by decide +kernel
theorem dX8_law_35 : decode cX8_law 35 = .ok (.ifCond .ne 5, 3) := by decide +kernel
theorem dX8_law_38 : decode cX8_law 38 = .ok (.iconst 0, 1) := by decide +kernel
theorem dX8_law_39 : decode cX8_law 39 = .ok (.ireturn, 1) := by decide +kernel
theorem dX8_law_40 : decode cX8_law 40 = .ok (.aload_n 0, 1) := by decide +kernel
theorem dX8_law_41 : decode cX8_law 41 = .ok (.iload_n 1, 1) := by decide +kernel
theorem dX8_law_42 : decode cX8_law 42 = .ok (.invokevirtual 194, 3) := by decide +kernel
theorem dX8_law_45 : decode cX8_law 45 = .ok (.aload_n 0, 1) := by decide +kernel
theorem dX8_law_46 : decode cX8_law 46 = .ok (.iconst 0, 1) := by decide +kernel
theorem dX8_law_47 : decode cX8_law 47 = .ok (.putfield 223, 3) := by decide +kernel
theorem dX8_law_50 : decode cX8_law 50 = .ok (.aload_n 0, 1) := by decide +kernel
theorem dX8_law_51 : decode cX8_law 51 = .ok (.invokevirtual 238, 3) := by decide +kernel
theorem dX8_law_54 : decode cX8_law 54 = .ok (.aload_n 0, 1) := by decide +kernel
theorem dX8_law_55 : decode cX8_law 55 = .ok (.invokevirtual 128, 3) := by decide +kernel
theorem dX8_law_58 : decode cX8_law 58 = .ok (.ifCond .eq 19, 3) := by decide +kernel
theorem dX8_law_61 : decode cX8_law 61 = .ok (.aload_n 0, 1) := by decide +kernel
theorem dX8_law_62 : decode cX8_law 62 = .ok (.invokevirtual 198, 3) := by decide +kernel
theorem dX8_law_65 : decode cX8_law 65 = .ok (.ifCond .eq 12, 3) := by decide +kernel
theorem dX8_law_68 : decode cX8_law 68 = .ok (.aload_n 0, 1) := by decide +kernel
theorem dX8_law_69 : decode cX8_law 69 = .ok (.iconst 1, 1) := by decide +kernel
theorem dX8_law_70 : decode cX8_law 70 = .ok (.aload_n 0, 1) := by decide +kernel
theorem dX8_law_71 : decode cX8_law 71 = .ok (.getfield 105, 3) := by decide +kernel
theorem dX8_law_74 : decode cX8_law 74 = .ok (.invokevirtual 135, 3) := by decide +kernel
theorem dX8_law_77 : decode cX8_law 77 = .ok (.aload_n 0, 1) := by decide +kernel
theorem dX8_law_78 : decode cX8_law 78 = .ok (.iconst 1, 1) := by decide +kernel
theorem dX8_law_79 : decode cX8_law 79 = .ok (.invokevirtual 219, 3) := by decide +kernel
theorem dX8_law_82 : decode cX8_law 82 = .ok (.istore_n 2, 1) := by decide +kernel
theorem dX8_law_83 : decode cX8_law 83 = .ok (.aload_n 0, 1) := by decide +kernel
theorem dX8_law_84 : decode cX8_law 84 = .ok (.getfield 99, 3) := by decide +kernel
theorem dX8_law_87 : decode cX8_law 87 = .ok (.iconst (-1), 1) := by decide +kernel
theorem dX8_law_88 : decode cX8_law 88 = .ok (.if_icmp .eq 5, 3) := by decide +kernel
theorem dX8_law_91 : decode cX8_law 91 = .ok (.iload_n 2, 1) := by decide +kernel
theorem dX8_law_92 : decode cX8_law 92 = .ok (.ireturn, 1) := by decide +kernel
theorem dX8_law_93 : decode cX8_law 93 = .ok (.aload_n 0, 1) := by decide +kernel
theorem dX8_law_94 : decode cX8_law 94 = .ok (.aload_n 0, 1) := by decide +kernel
theorem dX8_law_95 : decode cX8_law 95 = .ok (.getfield 223, 3) := by decide +kernel
theorem dX8_law_98 : decode cX8_law 98 = .ok (.putfield 164, 3) := by decide +kernel
theorem dX8_law_101 : decode cX8_law 101 = .ok (.aload_n 0, 1) := by decide +kernel
theorem dX8_law_102 : decode cX8_law 102 = .ok (.aload_n 0, 1) := by decide +kernel
theorem dX8_law_103 : decode cX8_law 103 = .ok (.getfield 35, 3) := by decide +kernel
theorem dX8_law_106 : decode cX8_law 106 = .ok (.aload_n 0, 1) := by decide +kernel
theorem dX8_law_107 : decode cX8_law 107 = .ok (.getfield 41, 3) := by decide +kernel
theorem dX8_law_110 : decode cX8_law 110 = .ok (.aload_n 0, 1) := by decide +kernel
theorem dX8_law_111 : decode cX8_law 111 = .ok (.getfield 223, 3) := by decide +kernel
theorem dX8_law_114 : decode cX8_law 114 = .ok (.invokevirtual 160, 3) := by decide +kernel
theorem dX8_law_117 : decode cX8_law 117 = .ok (.aload_n 0, 1) := by decide +kernel
theorem dX8_law_118 : decode cX8_law 118 = .ok (.aload_n 0, 1) := by decide +kernel
theorem dX8_law_119 : decode cX8_law 119 = .ok (.getfield 38, 3) := by decide +kernel
theorem dX8_law_122 : decode cX8_law 122 = .ok (.aload_n 0, 1) := by decide +kernel
theorem dX8_law_123 : decode cX8_law 123 = .ok (.getfield 44, 3) := by decide +kernel
theorem dX8_law_126 : decode cX8_law 126 = .ok (.aload_n 0, 1) := by decide +kernel
theorem dX8_law_127 : decode cX8_law 127 = .ok (.getfield 223, 3) := by decide +kernel
theorem dX8_law_130 : decode cX8_law 130 = .ok (.invokevirtual 160, 3) := by decide +kernel
theorem dX8_law_133 : decode cX8_law 133 = .ok (.iload_n 2, 1) := by decide +kernel
theorem dX8_law_134 : decode cX8_law 134 = .ok (.ireturn, 1) := by decide +kernel
theorem dX8_valueNow_0 : decode cX8_valueNow 0 = .ok (.iconst 0, 1) := by decide +kernel
theorem dX8_valueNow_1 : decode cX8_valueNow 1 = .ok (.istore_n 1, 1) := by decide +kernel
theorem dX8_valueNow_2 : decode cX8_valueNow 2 = .ok (.iconst 0, 1) := by decide +kernel
theorem dX8_valueNow_3 : decode cX8_valueNow 3 = .ok (.istore_n 2, 1) := by decide +kernel
theorem dX8_valueNow_4 : decode cX8_valueNow 4 = .ok (.iload_n 2, 1) := by decide +kernel
theorem dX8_valueNow_5 : decode cX8_valueNow 5 = .ok (.aload_n 0, 1) := by decide +kernel
theorem dX8_valueNow_6 : decode cX8_valueNow 6 = .ok (.getfield 164, 3) := by decide +kernel
theorem dX8_valueNow_9 : decode cX8_valueNow 9 = .ok (.if_icmp .ge 86, 3) := by decide +kernel
theorem dX8_valueNow_12 : decode cX8_valueNow 12 = .ok (.aload_n 0, 1) := by decide +kernel
theorem dX8_valueNow_13 : decode cX8_valueNow 13 = .ok (.getfield 41, 3) := by decide +kernel
theorem dX8_valueNow_16 : decode cX8_valueNow 16 = .ok (.iload_n 2, 1) := by decide +kernel
theorem dX8_valueNow_17 : decode cX8_valueNow 17 = .ok (.iaload, 1) := by decide +kernel
theorem dX8_valueNow_18 : decode cX8_valueNow 18 = .ok (.istore_n 3, 1) := by decide +kernel
theorem dX8_valueNow_19 : decode cX8_valueNow 19 = .ok (.iload_n 3, 1) := by decide +kernel
theorem dX8_valueNow_20 : decode cX8_valueNow 20 = .ok (.iconst 1, 1) := by decide +kernel
theorem dX8_valueNow_21 : decode cX8_valueNow 21 = .ok (.if_icmp .gt 39, 3) := by decide +kernel
theorem dX8_valueNow_24 : decode cX8_valueNow 24 = .ok (.aload_n 0, 1) := by decide +kernel
theorem dX8_valueNow_25 : decode cX8_valueNow 25 = .ok (.getfield 47, 3) := by decide +kernel
theorem dX8_valueNow_28 : decode cX8_valueNow 28 = .ok (.iload_n 1, 1) := by decide +kernel
theorem dX8_valueNow_29 : decode cX8_valueNow 29 = .ok (.iload_n 3, 1) := by decide +kernel
theorem dX8_valueNow_30 : decode cX8_valueNow 30 = .ok (.ifCond .ne 12, 3) := by decide +kernel
theorem dX8_valueNow_33 : decode cX8_valueNow 33 = .ok (.aload_n 0, 1) := by decide +kernel
theorem dX8_valueNow_34 : decode cX8_valueNow 34 = .ok (.getfield 44, 3) := by decide +kernel
theorem dX8_valueNow_37 : decode cX8_valueNow 37 = .ok (.iload_n 2, 1) := by decide +kernel
theorem dX8_valueNow_38 : decode cX8_valueNow 38 = .ok (.iaload, 1) := by decide +kernel
theorem dX8_valueNow_39 : decode cX8_valueNow 39 = .ok (.goto 14, 3) := by decide +kernel
theorem dX8_valueNow_42 : decode cX8_valueNow 42 = .ok (.aload_n 0, 1) := by decide +kernel
theorem dX8_valueNow_43 : decode cX8_valueNow 43 = .ok (.getfield 50, 3) := by decide +kernel
theorem dX8_valueNow_46 : decode cX8_valueNow 46 = .ok (.aload_n 0, 1) := by decide +kernel
theorem dX8_valueNow_47 : decode cX8_valueNow 47 = .ok (.getfield 44, 3) := by decide +kernel
theorem dX8_valueNow_50 : decode cX8_valueNow 50 = .ok (.iload_n 2, 1) := by decide +kernel
theorem dX8_valueNow_51 : decode cX8_valueNow 51 = .ok (.iaload, 1) := by decide +kernel
theorem dX8_valueNow_52 : decode cX8_valueNow 52 = .ok (.iaload, 1) := by decide +kernel
theorem dX8_valueNow_53 : decode cX8_valueNow 53 = .ok (.iastore, 1) := by decide +kernel
theorem dX8_valueNow_54 : decode cX8_valueNow 54 = .ok (.iinc 1 1, 3) := by decide +kernel
theorem dX8_valueNow_57 : decode cX8_valueNow 57 = .ok (.goto 32, 3) := by decide +kernel
theorem dX8_valueNow_60 : decode cX8_valueNow 60 = .ok (.iinc 1 (-1), 3) := by decide +kernel
theorem dX8_valueNow_63 : decode cX8_valueNow 63 = .ok (.aload_n 0, 1) := by decide +kernel
theorem dX8_valueNow_64 : decode cX8_valueNow 64 = .ok (.getfield 47, 3) := by decide +kernel
theorem dX8_valueNow_67 : decode cX8_valueNow 67 = .ok (.iload_n 1, 1) := by decide +kernel
theorem dX8_valueNow_68 : decode cX8_valueNow 68 = .ok (.iconst 1, 1) := by decide +kernel
theorem dX8_valueNow_69 : decode cX8_valueNow 69 = .ok (.isub, 1) := by decide +kernel
theorem dX8_valueNow_70 : decode cX8_valueNow 70 = .ok (.iload_n 3, 1) := by decide +kernel
theorem dX8_valueNow_71 : decode cX8_valueNow 71 = .ok (.aload_n 0, 1) := by decide +kernel
theorem dX8_valueNow_72 : decode cX8_valueNow 72 = .ok (.getfield 47, 3) := by decide +kernel
theorem dX8_valueNow_75 : decode cX8_valueNow 75 = .ok (.iload_n 1, 1) := by decide +kernel
theorem dX8_valueNow_76 : decode cX8_valueNow 76 = .ok (.iconst 1, 1) := by decide +kernel
theorem dX8_valueNow_77 : decode cX8_valueNow 77 = .ok (.isub, 1) := by decide +kernel
theorem dX8_valueNow_78 : decode cX8_valueNow 78 = .ok (.iaload, 1) := by decide +kernel
theorem dX8_valueNow_79 : decode cX8_valueNow 79 = .ok (.aload_n 0, 1) := by decide +kernel
theorem dX8_valueNow_80 : decode cX8_valueNow 80 = .ok (.getfield 47, 3) := by decide +kernel
theorem dX8_valueNow_83 : decode cX8_valueNow 83 = .ok (.iload_n 1, 1) := by decide +kernel
theorem dX8_valueNow_84 : decode cX8_valueNow 84 = .ok (.iaload, 1) := by decide +kernel
theorem dX8_valueNow_85 : decode cX8_valueNow 85 = .ok (.invokestatic 262, 3) := by decide +kernel
theorem dX8_valueNow_88 : decode cX8_valueNow 88 = .ok (.iastore, 1) := by decide +kernel
theorem dX8_valueNow_89 : decode cX8_valueNow 89 = .ok (.iinc 2 1, 3) := by decide +kernel
theorem dX8_valueNow_92 : decode cX8_valueNow 92 = .ok (.goto (-88), 3) := by decide +kernel
theorem dX8_valueNow_95 : decode cX8_valueNow 95 = .ok (.aload_n 0, 1) := by decide +kernel
theorem dX8_valueNow_96 : decode cX8_valueNow 96 = .ok (.getfield 47, 3) := by decide +kernel
theorem dX8_valueNow_99 : decode cX8_valueNow 99 = .ok (.iconst 0, 1) := by decide +kernel
theorem dX8_valueNow_100 : decode cX8_valueNow 100 = .ok (.iaload, 1) := by decide +kernel
theorem dX8_valueNow_101 : decode cX8_valueNow 101 = .ok (.ireturn, 1) := by decide +kernel
theorem dX8_both_0 : decode cX8_both 0 = .ok (.iload_n 0, 1) := by decide +kernel
theorem dX8_both_1 : decode cX8_both 1 = .ok (.iconst 2, 1) := by decide +kernel
theorem dX8_both_2 : decode cX8_both 2 = .ok (.if_icmp .ne 7, 3) := by decide +kernel
theorem dX8_both_5 : decode cX8_both 5 = .ok (.iload_n 1, 1) := by decide +kernel
theorem dX8_both_6 : decode cX8_both 6 = .ok (.iload_n 2, 1) := by decide +kernel
theorem dX8_both_7 : decode cX8_both 7 = .ok (.iadd, 1) := by decide +kernel
theorem dX8_both_8 : decode cX8_both 8 = .ok (.ireturn, 1) := by decide +kernel
theorem dX8_both_9 : decode cX8_both 9 = .ok (.iload_n 0, 1) := by decide +kernel
theorem dX8_both_10 : decode cX8_both 10 = .ok (.iconst 3, 1) := by decide +kernel
theorem dX8_both_11 : decode cX8_both 11 = .ok (.if_icmp .ne 7, 3) := by decide +kernel
theorem dX8_both_14 : decode cX8_both 14 = .ok (.iload_n 1, 1) := by decide +kernel
theorem dX8_both_15 : decode cX8_both 15 = .ok (.iload_n 2, 1) := by decide +kernel
theorem dX8_both_16 : decode cX8_both 16 = .ok (.isub, 1) := by decide +kernel
theorem dX8_both_17 : decode cX8_both 17 = .ok (.ireturn, 1) := by decide +kernel
theorem dX8_both_18 : decode cX8_both 18 = .ok (.iload_n 0, 1) := by decide +kernel
theorem dX8_both_19 : decode cX8_both 19 = .ok (.iconst 4, 1) := by decide +kernel
theorem dX8_both_20 : decode cX8_both 20 = .ok (.if_icmp .ne 7, 3) := by decide +kernel
theorem dX8_both_23 : decode cX8_both 23 = .ok (.iload_n 1, 1) := by decide +kernel
theorem dX8_both_24 : decode cX8_both 24 = .ok (.iload_n 2, 1) := by decide +kernel
theorem dX8_both_25 : decode cX8_both 25 = .ok (.imul, 1) := by decide +kernel
theorem dX8_both_26 : decode cX8_both 26 = .ok (.ireturn, 1) := by decide +kernel
theorem dX8_both_27 : decode cX8_both 27 = .ok (.iload_n 0, 1) := by decide +kernel
theorem dX8_both_28 : decode cX8_both 28 = .ok (.iconst 5, 1) := by decide +kernel
theorem dX8_both_29 : decode cX8_both 29 = .ok (.if_icmp .eq 9, 3) := by decide +kernel
theorem dX8_both_32 : decode cX8_both 32 = .ok (.iload_n 0, 1) := by decide +kernel
theorem dX8_both_33 : decode cX8_both 33 = .ok (.bipush 8, 2) := by decide +kernel
theorem dX8_both_35 : decode cX8_both 35 = .ok (.if_icmp .ne 26, 3) := by decide +kernel
theorem dX8_both_38 : decode cX8_both 38 = .ok (.iload_n 2, 1) := by decide +kernel
theorem dX8_both_39 : decode cX8_both 39 = .ok (.ifCond .ne 7, 3) := by decide +kernel
theorem dX8_both_42 : decode cX8_both 42 = .ok (.iconst 0, 1) := by decide +kernel
theorem dX8_both_43 : decode cX8_both 43 = .ok (.goto 17, 3) := by decide +kernel
theorem dX8_both_46 : decode cX8_both 46 = .ok (.iload_n 0, 1) := by decide +kernel
theorem dX8_both_47 : decode cX8_both 47 = .ok (.iconst 5, 1) := by decide +kernel
theorem dX8_both_48 : decode cX8_both 48 = .ok (.if_icmp .ne 9, 3) := by decide +kernel
theorem dX8_both_51 : decode cX8_both 51 = .ok (.iload_n 1, 1) := by decide +kernel
theorem dX8_both_52 : decode cX8_both 52 = .ok (.iload_n 2, 1) := by decide +kernel
theorem dX8_both_53 : decode cX8_both 53 = .ok (.idiv, 1) := by decide +kernel
theorem dX8_both_54 : decode cX8_both 54 = .ok (.goto 6, 3) := by decide +kernel
theorem dX8_both_57 : decode cX8_both 57 = .ok (.iload_n 1, 1) := by decide +kernel
theorem dX8_both_58 : decode cX8_both 58 = .ok (.iload_n 2, 1) := by decide +kernel
theorem dX8_both_59 : decode cX8_both 59 = .ok (.irem, 1) := by decide +kernel
theorem dX8_both_60 : decode cX8_both 60 = .ok (.ireturn, 1) := by decide +kernel
theorem dX8_both_61 : decode cX8_both 61 = .ok (.iload_n 1, 1) := by decide +kernel
theorem dX8_both_62 : decode cX8_both 62 = .ok (.iload_n 2, 1) := by decide +kernel
theorem dX8_both_63 : decode cX8_both 63 = .ok (.if_icmp .ge 7, 3) := by decide +kernel
theorem dX8_both_66 : decode cX8_both 66 = .ok (.iconst 1, 1) := by decide +kernel
theorem dX8_both_67 : decode cX8_both 67 = .ok (.goto 4, 3) := by decide +kernel
theorem dX8_both_70 : decode cX8_both 70 = .ok (.iconst 0, 1) := by decide +kernel
theorem dX8_both_71 : decode cX8_both 71 = .ok (.iload_n 0, 1) := by decide +kernel
theorem dX8_both_72 : decode cX8_both 72 = .ok (.bipush 6, 2) := by decide +kernel
theorem dX8_both_74 : decode cX8_both 74 = .ok (.if_icmp .ne 7, 3) := by decide +kernel
theorem dX8_both_77 : decode cX8_both 77 = .ok (.iconst 1, 1) := by decide +kernel
theorem dX8_both_78 : decode cX8_both 78 = .ok (.goto 4, 3) := by decide +kernel
theorem dX8_both_81 : decode cX8_both 81 = .ok (.iconst 0, 1) := by decide +kernel
theorem dX8_both_82 : decode cX8_both 82 = .ok (.if_icmp .ne 7, 3) := by decide +kernel
theorem dX8_both_85 : decode cX8_both 85 = .ok (.iload_n 1, 1) := by decide +kernel
theorem dX8_both_86 : decode cX8_both 86 = .ok (.goto 4, 3) := by decide +kernel
theorem dX8_both_89 : decode cX8_both 89 = .ok (.iload_n 2, 1) := by decide +kernel
theorem dX8_both_90 : decode cX8_both 90 = .ok (.ireturn, 1) := by decide +kernel
theorem dX8_lifeNow_0 : decode cX8_lifeNow 0 = .ok (.aload_n 0, 1) := by decide +kernel
theorem dX8_lifeNow_1 : decode cX8_lifeNow 1 = .ok (.getfield 164, 3) := by decide +kernel
theorem dX8_lifeNow_4 : decode cX8_lifeNow 4 = .ok (.ifCond .ne 30, 3) := by decide +kernel
theorem dX8_lifeNow_7 : decode cX8_lifeNow 7 = .ok (.iconst 2, 1) := by decide +kernel
theorem dX8_lifeNow_8 : decode cX8_lifeNow 8 = .ok (.aload_n 0, 1) := by decide +kernel
theorem dX8_lifeNow_9 : decode cX8_lifeNow 9 = .ok (.getfield 50, 3) := by decide +kernel
theorem dX8_lifeNow_12 : decode cX8_lifeNow 12 = .ok (.iconst 1, 1) := by decide +kernel
theorem dX8_lifeNow_13 : decode cX8_lifeNow 13 = .ok (.iaload, 1) := by decide +kernel
theorem dX8_lifeNow_14 : decode cX8_lifeNow 14 = .ok (.imul, 1) := by decide +kernel
theorem dX8_lifeNow_15 : decode cX8_lifeNow 15 = .ok (.aload_n 0, 1) := by decide +kernel
theorem dX8_lifeNow_16 : decode cX8_lifeNow 16 = .ok (.getfield 50, 3) := by decide +kernel
theorem dX8_lifeNow_19 : decode cX8_lifeNow 19 = .ok (.iconst 0, 1) := by decide +kernel
theorem dX8_lifeNow_20 : decode cX8_lifeNow 20 = .ok (.iaload, 1) := by decide +kernel
theorem dX8_lifeNow_21 : decode cX8_lifeNow 21 = .ok (.iconst 2, 1) := by decide +kernel
theorem dX8_lifeNow_22 : decode cX8_lifeNow 22 = .ok (.idiv, 1) := by decide +kernel
theorem dX8_lifeNow_23 : decode cX8_lifeNow 23 = .ok (.isub, 1) := by decide +kernel
theorem dX8_lifeNow_24 : decode cX8_lifeNow 24 = .ok (.aload_n 0, 1) := by decide +kernel
theorem dX8_lifeNow_25 : decode cX8_lifeNow 25 = .ok (.getfield 50, 3) := by decide +kernel
theorem dX8_lifeNow_28 : decode cX8_lifeNow 28 = .ok (.iconst 2, 1) := by decide +kernel
theorem dX8_lifeNow_29 : decode cX8_lifeNow 29 = .ok (.iaload, 1) := by decide +kernel
theorem dX8_lifeNow_30 : decode cX8_lifeNow 30 = .ok (.iadd, 1) := by decide +kernel
theorem dX8_lifeNow_31 : decode cX8_lifeNow 31 = .ok (.goto 7, 3) := by decide +kernel
theorem dX8_lifeNow_34 : decode cX8_lifeNow 34 = .ok (.aload_n 0, 1) := by decide +kernel
theorem dX8_lifeNow_35 : decode cX8_lifeNow 35 = .ok (.invokevirtual 266, 3) := by decide +kernel
theorem dX8_lifeNow_38 : decode cX8_lifeNow 38 = .ok (.istore_n 1, 1) := by decide +kernel
theorem dX8_lifeNow_39 : decode cX8_lifeNow 39 = .ok (.iload_n 1, 1) := by decide +kernel
theorem dX8_lifeNow_40 : decode cX8_lifeNow 40 = .ok (.iconst 1, 1) := by decide +kernel
theorem dX8_lifeNow_41 : decode cX8_lifeNow 41 = .ok (.if_icmp .ge 7, 3) := by decide +kernel
theorem dX8_lifeNow_44 : decode cX8_lifeNow 44 = .ok (.iconst 1, 1) := by decide +kernel
theorem dX8_lifeNow_45 : decode cX8_lifeNow 45 = .ok (.goto 15, 3) := by decide +kernel
theorem dX8_lifeNow_48 : decode cX8_lifeNow 48 = .ok (.iload_n 1, 1) := by decide +kernel
theorem dX8_lifeNow_49 : decode cX8_lifeNow 49 = .ok (.bipush 60, 2) := by decide +kernel
theorem dX8_lifeNow_51 : decode cX8_lifeNow 51 = .ok (.if_icmp .le 8, 3) := by decide +kernel
theorem dX8_lifeNow_54 : decode cX8_lifeNow 54 = .ok (.bipush 60, 2) := by decide +kernel
theorem dX8_lifeNow_56 : decode cX8_lifeNow 56 = .ok (.goto 4, 3) := by decide +kernel
theorem dX8_lifeNow_59 : decode cX8_lifeNow 59 = .ok (.iload_n 1, 1) := by decide +kernel
theorem dX8_lifeNow_60 : decode cX8_lifeNow 60 = .ok (.ireturn, 1) := by decide +kernel
theorem dX8_tellsStep_0 : decode cX8_tellsStep 0 = .ok (.aload_n 0, 1) := by decide +kernel
theorem dX8_tellsStep_1 : decode cX8_tellsStep 1 = .ok (.invokevirtual 128, 3) := by decide +kernel
theorem dX8_tellsStep_4 : decode cX8_tellsStep 4 = .ok (.ifCond .ne 4, 3) := by decide +kernel
theorem dX8_tellsStep_7 : decode cX8_tellsStep 7 = .ok (.return_, 1) := by decide +kernel
theorem dX8_tellsStep_8 : decode cX8_tellsStep 8 = .ok (.aload_n 0, 1) := by decide +kernel
theorem dX8_tellsStep_9 : decode cX8_tellsStep 9 = .ok (.getfield 53, 3) := by decide +kernel
theorem dX8_tellsStep_12 : decode cX8_tellsStep 12 = .ok (.aload_n 0, 1) := by decide +kernel
theorem dX8_tellsStep_13 : decode cX8_tellsStep 13 = .ok (.getfield 269, 3) := by decide +kernel
theorem dX8_tellsStep_16 : decode cX8_tellsStep 16 = .ok (.iload_n 1, 1) := by decide +kernel
theorem dX8_tellsStep_17 : decode cX8_tellsStep 17 = .ok (.iastore, 1) := by decide +kernel
theorem dX8_tellsStep_18 : decode cX8_tellsStep 18 = .ok (.aload_n 0, 1) := by decide +kernel
theorem dX8_tellsStep_19 : decode cX8_tellsStep 19 = .ok (.getfield 53, 3) := by decide +kernel
theorem dX8_tellsStep_22 : decode cX8_tellsStep 22 = .ok (.aload_n 0, 1) := by decide +kernel
theorem dX8_tellsStep_23 : decode cX8_tellsStep 23 = .ok (.getfield 269, 3) := by decide +kernel
theorem dX8_tellsStep_26 : decode cX8_tellsStep 26 = .ok (.iconst 1, 1) := by decide +kernel
theorem dX8_tellsStep_27 : decode cX8_tellsStep 27 = .ok (.iadd, 1) := by decide +kernel
theorem dX8_tellsStep_28 : decode cX8_tellsStep 28 = .ok (.iload_n 2, 1) := by decide +kernel
theorem dX8_tellsStep_29 : decode cX8_tellsStep 29 = .ok (.iastore, 1) := by decide +kernel
theorem dX8_tellsStep_30 : decode cX8_tellsStep 30 = .ok (.aload_n 0, 1) := by decide +kernel
theorem dX8_tellsStep_31 : decode cX8_tellsStep 31 = .ok (.getfield 53, 3) := by decide +kernel
theorem dX8_tellsStep_34 : decode cX8_tellsStep 34 = .ok (.aload_n 0, 1) := by decide +kernel
theorem dX8_tellsStep_35 : decode cX8_tellsStep 35 = .ok (.getfield 269, 3) := by decide +kernel
theorem dX8_tellsStep_38 : decode cX8_tellsStep 38 = .ok (.iconst 2, 1) := by decide +kernel
theorem dX8_tellsStep_39 : decode cX8_tellsStep 39 = .ok (.iadd, 1) := by decide +kernel
theorem dX8_tellsStep_40 : decode cX8_tellsStep 40 = .ok (.iload_n 3, 1) := by decide +kernel
theorem dX8_tellsStep_41 : decode cX8_tellsStep 41 = .ok (.iastore, 1) := by decide +kernel
theorem dX8_tellsStep_42 : decode cX8_tellsStep 42 = .ok (.aload_n 0, 1) := by decide +kernel
theorem dX8_tellsStep_43 : decode cX8_tellsStep 43 = .ok (.getfield 53, 3) := by decide +kernel
theorem dX8_tellsStep_46 : decode cX8_tellsStep 46 = .ok (.aload_n 0, 1) := by decide +kernel
theorem dX8_tellsStep_47 : decode cX8_tellsStep 47 = .ok (.getfield 269, 3) := by decide +kernel
theorem dX8_tellsStep_50 : decode cX8_tellsStep 50 = .ok (.iconst 3, 1) := by decide +kernel
theorem dX8_tellsStep_51 : decode cX8_tellsStep 51 = .ok (.iadd, 1) := by decide +kernel
theorem dX8_tellsStep_52 : decode cX8_tellsStep 52 = .ok (.iload 4, 2) := by decide +kernel
theorem dX8_tellsStep_54 : decode cX8_tellsStep 54 = .ok (.iastore, 1) := by decide +kernel
theorem dX8_tellsStep_55 : decode cX8_tellsStep 55 = .ok (.aload_n 0, 1) := by decide +kernel
theorem dX8_tellsStep_56 : decode cX8_tellsStep 56 = .ok (.dup, 1) := by decide +kernel
theorem dX8_tellsStep_57 : decode cX8_tellsStep 57 = .ok (.getfield 269, 3) := by decide +kernel
theorem dX8_tellsStep_60 : decode cX8_tellsStep 60 = .ok (.iconst 4, 1) := by decide +kernel
theorem dX8_tellsStep_61 : decode cX8_tellsStep 61 = .ok (.iadd, 1) := by decide +kernel
theorem dX8_tellsStep_62 : decode cX8_tellsStep 62 = .ok (.putfield 269, 3) := by decide +kernel
theorem dX8_tellsStep_65 : decode cX8_tellsStep 65 = .ok (.return_, 1) := by decide +kernel
theorem dX8_stepOf_0 : decode cX8_stepOf 0 = .ok (.iload_n 0, 1) := by decide +kernel
theorem dX8_stepOf_1 : decode cX8_stepOf 1 = .ok (.ldc_w 272, 3) := by decide +kernel
theorem dX8_stepOf_4 : decode cX8_stepOf 4 = .ok (.invokestatic 180, 3) := by decide +kernel
theorem dX8_stepOf_7 : decode cX8_stepOf 7 = .ok (.if_icmp .ne 7, 3) := by decide +kernel
theorem dX8_stepOf_10 : decode cX8_stepOf 10 = .ok (.iconst 0, 1) := by decide +kernel
theorem dX8_stepOf_11 : decode cX8_stepOf 11 = .ok (.goto 103, 3) := by decide +kernel
theorem dX8_stepOf_14 : decode cX8_stepOf 14 = .ok (.iload_n 0, 1) := by decide +kernel
theorem dX8_stepOf_15 : decode cX8_stepOf 15 = .ok (.ldc_w 274, 3) := by decide +kernel
theorem dX8_stepOf_18 : decode cX8_stepOf 18 = .ok (.invokestatic 180, 3) := by decide +kernel
theorem dX8_stepOf_21 : decode cX8_stepOf 21 = .ok (.if_icmp .ne 7, 3) := by decide +kernel
theorem dX8_stepOf_24 : decode cX8_stepOf 24 = .ok (.iconst 1, 1) := by decide +kernel
theorem dX8_stepOf_25 : decode cX8_stepOf 25 = .ok (.goto 89, 3) := by decide +kernel
theorem dX8_stepOf_28 : decode cX8_stepOf 28 = .ok (.iload_n 0, 1) := by decide +kernel
theorem dX8_stepOf_29 : decode cX8_stepOf 29 = .ok (.ldc_w 276, 3) := by decide +kernel
theorem dX8_stepOf_32 : decode cX8_stepOf 32 = .ok (.invokestatic 180, 3) := by decide +kernel
theorem dX8_stepOf_35 : decode cX8_stepOf 35 = .ok (.if_icmp .ne 7, 3) := by decide +kernel
theorem dX8_stepOf_38 : decode cX8_stepOf 38 = .ok (.iconst 2, 1) := by decide +kernel
theorem dX8_stepOf_39 : decode cX8_stepOf 39 = .ok (.goto 75, 3) := by decide +kernel
theorem dX8_stepOf_42 : decode cX8_stepOf 42 = .ok (.iload_n 0, 1) := by decide +kernel
theorem dX8_stepOf_43 : decode cX8_stepOf 43 = .ok (.ldc_w 278, 3) := by decide +kernel
theorem dX8_stepOf_46 : decode cX8_stepOf 46 = .ok (.invokestatic 180, 3) := by decide +kernel
theorem dX8_stepOf_49 : decode cX8_stepOf 49 = .ok (.if_icmp .ne 7, 3) := by decide +kernel
theorem dX8_stepOf_52 : decode cX8_stepOf 52 = .ok (.iconst 3, 1) := by decide +kernel
theorem dX8_stepOf_53 : decode cX8_stepOf 53 = .ok (.goto 61, 3) := by decide +kernel
theorem dX8_stepOf_56 : decode cX8_stepOf 56 = .ok (.iload_n 0, 1) := by decide +kernel
theorem dX8_stepOf_57 : decode cX8_stepOf 57 = .ok (.ldc_w 280, 3) := by decide +kernel
theorem dX8_stepOf_60 : decode cX8_stepOf 60 = .ok (.invokestatic 180, 3) := by decide +kernel
theorem dX8_stepOf_63 : decode cX8_stepOf 63 = .ok (.if_icmp .ne 7, 3) := by decide +kernel
theorem dX8_stepOf_66 : decode cX8_stepOf 66 = .ok (.iconst 4, 1) := by decide +kernel
theorem dX8_stepOf_67 : decode cX8_stepOf 67 = .ok (.goto 47, 3) := by decide +kernel
theorem dX8_stepOf_70 : decode cX8_stepOf 70 = .ok (.iload_n 0, 1) := by decide +kernel
theorem dX8_stepOf_71 : decode cX8_stepOf 71 = .ok (.ldc_w 282, 3) := by decide +kernel
theorem dX8_stepOf_74 : decode cX8_stepOf 74 = .ok (.invokestatic 180, 3) := by decide +kernel
theorem dX8_stepOf_77 : decode cX8_stepOf 77 = .ok (.if_icmp .ne 7, 3) := by decide +kernel
theorem dX8_stepOf_80 : decode cX8_stepOf 80 = .ok (.iconst 5, 1) := by decide +kernel
theorem dX8_stepOf_81 : decode cX8_stepOf 81 = .ok (.goto 33, 3) := by decide +kernel
theorem dX8_stepOf_84 : decode cX8_stepOf 84 = .ok (.iload_n 0, 1) := by decide +kernel
theorem dX8_stepOf_85 : decode cX8_stepOf 85 = .ok (.ldc 248, 2) := by decide +kernel
theorem dX8_stepOf_87 : decode cX8_stepOf 87 = .ok (.invokestatic 180, 3) := by decide +kernel
theorem dX8_stepOf_90 : decode cX8_stepOf 90 = .ok (.if_icmp .ne 8, 3) := by decide +kernel
theorem dX8_stepOf_93 : decode cX8_stepOf 93 = .ok (.bipush 6, 2) := by decide +kernel
theorem dX8_stepOf_95 : decode cX8_stepOf 95 = .ok (.goto 19, 3) := by decide +kernel
theorem dX8_stepOf_98 : decode cX8_stepOf 98 = .ok (.iload_n 0, 1) := by decide +kernel
theorem dX8_stepOf_99 : decode cX8_stepOf 99 = .ok (.ldc_w 284, 3) := by decide +kernel
theorem dX8_stepOf_102 : decode cX8_stepOf 102 = .ok (.invokestatic 180, 3) := by decide +kernel
theorem dX8_stepOf_105 : decode cX8_stepOf 105 = .ok (.if_icmp .ne 8, 3) := by decide +kernel
theorem dX8_stepOf_108 : decode cX8_stepOf 108 = .ok (.bipush 7, 2) := by decide +kernel
theorem dX8_stepOf_110 : decode cX8_stepOf 110 = .ok (.goto 4, 3) := by decide +kernel
theorem dX8_stepOf_113 : decode cX8_stepOf 113 = .ok (.iconst (-1), 1) := by decide +kernel
theorem dX8_stepOf_114 : decode cX8_stepOf 114 = .ok (.ireturn, 1) := by decide +kernel
theorem dX8_readTenant_0 : decode cX8_readTenant 0 = .ok (.aload_n 0, 1) := by decide +kernel
theorem dX8_readTenant_1 : decode cX8_readTenant 1 = .ok (.iconst 0, 1) := by decide +kernel
theorem dX8_readTenant_2 : decode cX8_readTenant 2 = .ok (.aload_n 0, 1) := by decide +kernel
theorem dX8_readTenant_3 : decode cX8_readTenant 3 = .ok (.getfield 154, 3) := by decide +kernel
theorem dX8_readTenant_6 : decode cX8_readTenant 6 = .ok (.iconst 1, 1) := by decide +kernel
theorem dX8_readTenant_7 : decode cX8_readTenant 7 = .ok (.isub, 1) := by decide +kernel
theorem dX8_readTenant_8 : decode cX8_readTenant 8 = .ok (.invokevirtual 186, 3) := by decide +kernel
theorem dX8_readTenant_11 : decode cX8_readTenant 11 = .ok (.ireturn, 1) := by decide +kernel
theorem dX8_readAgain_0 : decode cX8_readAgain 0 = .ok (.aload_n 0, 1) := by decide +kernel
theorem dX8_readAgain_1 : decode cX8_readAgain 1 = .ok (.iconst 5, 1) := by decide +kernel
theorem dX8_readAgain_2 : decode cX8_readAgain 2 = .ok (.invokevirtual 235, 3) := by decide +kernel
theorem dX8_readAgain_5 : decode cX8_readAgain 5 = .ok (.aload_n 0, 1) := by decide +kernel
theorem dX8_readAgain_6 : decode cX8_readAgain 6 = .ok (.iconst 0, 1) := by decide +kernel
theorem dX8_readAgain_7 : decode cX8_readAgain 7 = .ok (.bipush 30, 2) := by decide +kernel
theorem dX8_readAgain_9 : decode cX8_readAgain 9 = .ok (.invokevirtual 186, 3) := by decide +kernel
theorem dX8_readAgain_12 : decode cX8_readAgain 12 = .ok (.istore_n 1, 1) := by decide +kernel
theorem dX8_readAgain_13 : decode cX8_readAgain 13 = .ok (.aload_n 0, 1) := by decide +kernel
theorem dX8_readAgain_14 : decode cX8_readAgain 14 = .ok (.bipush 91, 2) := by decide +kernel
theorem dX8_readAgain_16 : decode cX8_readAgain 16 = .ok (.invokevirtual 216, 3) := by decide +kernel
theorem dX8_readAgain_19 : decode cX8_readAgain 19 = .ok (.aload_n 0, 1) := by decide +kernel
theorem dX8_readAgain_20 : decode cX8_readAgain 20 = .ok (.getfield 269, 3) := by decide +kernel
theorem dX8_readAgain_23 : decode cX8_readAgain 23 = .ok (.istore_n 2, 1) := by decide +kernel
theorem dX8_readAgain_24 : decode cX8_readAgain 24 = .ok (.aload_n 0, 1) := by decide +kernel
theorem dX8_readAgain_25 : decode cX8_readAgain 25 = .ok (.bipush 7, 2) := by decide +kernel
theorem dX8_readAgain_27 : decode cX8_readAgain 27 = .ok (.iload_n 1, 1) := by decide +kernel
theorem dX8_readAgain_28 : decode cX8_readAgain 28 = .ok (.iconst 0, 1) := by decide +kernel
theorem dX8_readAgain_29 : decode cX8_readAgain 29 = .ok (.iconst 0, 1) := by decide +kernel
theorem dX8_readAgain_30 : decode cX8_readAgain 30 = .ok (.invokevirtual 286, 3) := by decide +kernel
theorem dX8_readAgain_33 : decode cX8_readAgain 33 = .ok (.aload_n 0, 1) := by decide +kernel
theorem dX8_readAgain_34 : decode cX8_readAgain 34 = .ok (.invokevirtual 128, 3) := by decide +kernel
theorem dX8_readAgain_37 : decode cX8_readAgain 37 = .ok (.ifCond .eq 19, 3) := by decide +kernel
theorem dX8_readAgain_40 : decode cX8_readAgain 40 = .ok (.aload_n 0, 1) := by decide +kernel
theorem dX8_readAgain_41 : decode cX8_readAgain 41 = .ok (.invokevirtual 111, 3) := by decide +kernel
theorem dX8_readAgain_44 : decode cX8_readAgain 44 = .ok (.bipush 93, 2) := by decide +kernel
theorem dX8_readAgain_46 : decode cX8_readAgain 46 = .ok (.if_icmp .eq 10, 3) := by decide +kernel
theorem dX8_readAgain_49 : decode cX8_readAgain 49 = .ok (.aload_n 0, 1) := by decide +kernel
theorem dX8_readAgain_50 : decode cX8_readAgain 50 = .ok (.invokevirtual 290, 3) := by decide +kernel
theorem dX8_readAgain_53 : decode cX8_readAgain 53 = .ok (.goto (-20), 3) := by decide +kernel
theorem dX8_readAgain_56 : decode cX8_readAgain 56 = .ok (.aload_n 0, 1) := by decide +kernel
theorem dX8_readAgain_57 : decode cX8_readAgain 57 = .ok (.bipush 93, 2) := by decide +kernel
theorem dX8_readAgain_59 : decode cX8_readAgain 59 = .ok (.invokevirtual 216, 3) := by decide +kernel
theorem dX8_readAgain_62 : decode cX8_readAgain 62 = .ok (.aload_n 0, 1) := by decide +kernel
theorem dX8_readAgain_63 : decode cX8_readAgain 63 = .ok (.dup, 1) := by decide +kernel
theorem dX8_readAgain_64 : decode cX8_readAgain 64 = .ok (.getfield 139, 3) := by decide +kernel
theorem dX8_readAgain_67 : decode cX8_readAgain 67 = .ok (.iconst 1, 1) := by decide +kernel
theorem dX8_readAgain_68 : decode cX8_readAgain 68 = .ok (.isub, 1) := by decide +kernel
theorem dX8_readAgain_69 : decode cX8_readAgain 69 = .ok (.putfield 139, 3) := by decide +kernel
theorem dX8_readAgain_72 : decode cX8_readAgain 72 = .ok (.aload_n 0, 1) := by decide +kernel
theorem dX8_readAgain_73 : decode cX8_readAgain 73 = .ok (.invokevirtual 128, 3) := by decide +kernel
theorem dX8_readAgain_76 : decode cX8_readAgain 76 = .ok (.ifCond .eq 15, 3) := by decide +kernel
theorem dX8_readAgain_79 : decode cX8_readAgain 79 = .ok (.aload_n 0, 1) := by decide +kernel
theorem dX8_readAgain_80 : decode cX8_readAgain 80 = .ok (.getfield 53, 3) := by decide +kernel
theorem dX8_readAgain_83 : decode cX8_readAgain 83 = .ok (.iload_n 2, 1) := by decide +kernel
theorem dX8_readAgain_84 : decode cX8_readAgain 84 = .ok (.iconst 2, 1) := by decide +kernel
theorem dX8_readAgain_85 : decode cX8_readAgain 85 = .ok (.iadd, 1) := by decide +kernel
theorem dX8_readAgain_86 : decode cX8_readAgain 86 = .ok (.aload_n 0, 1) := by decide +kernel
theorem dX8_readAgain_87 : decode cX8_readAgain 87 = .ok (.getfield 269, 3) := by decide +kernel
theorem dX8_readAgain_90 : decode cX8_readAgain 90 = .ok (.iastore, 1) := by decide +kernel
theorem dX8_readAgain_91 : decode cX8_readAgain 91 = .ok (.return_, 1) := by decide +kernel
theorem dX8_readStep_0 : decode cX8_readStep 0 = .ok (.aload_n 0, 1) := by decide +kernel
theorem dX8_readStep_1 : decode cX8_readStep 1 = .ok (.invokevirtual 201, 3) := by decide +kernel
theorem dX8_readStep_4 : decode cX8_readStep 4 = .ok (.invokestatic 293, 3) := by decide +kernel
theorem dX8_readStep_7 : decode cX8_readStep 7 = .ok (.istore_n 1, 1) := by decide +kernel
theorem dX8_readStep_8 : decode cX8_readStep 8 = .ok (.iload_n 1, 1) := by decide +kernel
theorem dX8_readStep_9 : decode cX8_readStep 9 = .ok (.iconst (-1), 1) := by decide +kernel
theorem dX8_readStep_10 : decode cX8_readStep 10 = .ok (.if_icmp .ne 15, 3) := by decide +kernel
theorem dX8_readStep_13 : decode cX8_readStep 13 = .ok (.aload_n 0, 1) := by decide +kernel
theorem dX8_readStep_14 : decode cX8_readStep 14 = .ok (.iconst 1, 1) := by decide +kernel
theorem dX8_readStep_15 : decode cX8_readStep 15 = .ok (.aload_n 0, 1) := by decide +kernel
theorem dX8_readStep_16 : decode cX8_readStep 16 = .ok (.getfield 105, 3) := by decide +kernel
theorem dX8_readStep_19 : decode cX8_readStep 19 = .ok (.invokevirtual 135, 3) := by decide +kernel
theorem dX8_readStep_22 : decode cX8_readStep 22 = .ok (.goto 121, 3) := by decide +kernel
theorem dX8_readStep_25 : decode cX8_readStep 25 = .ok (.iload_n 1, 1) := by decide +kernel
theorem dX8_readStep_26 : decode cX8_readStep 26 = .ok (.bipush 7, 2) := by decide +kernel
theorem dX8_readStep_28 : decode cX8_readStep 28 = .ok (.if_icmp .ne 10, 3) := by decide +kernel
theorem dX8_readStep_31 : decode cX8_readStep 31 = .ok (.aload_n 0, 1) := by decide +kernel
theorem dX8_readStep_32 : decode cX8_readStep 32 = .ok (.invokevirtual 296, 3) := by decide +kernel
theorem dX8_readStep_35 : decode cX8_readStep 35 = .ok (.goto 108, 3) := by decide +kernel
theorem dX8_readStep_38 : decode cX8_readStep 38 = .ok (.aload_n 0, 1) := by decide +kernel
theorem dX8_readStep_39 : decode cX8_readStep 39 = .ok (.invokevirtual 210, 3) := by decide +kernel
theorem dX8_readStep_42 : decode cX8_readStep 42 = .ok (.iload_n 1, 1) := by decide +kernel
theorem dX8_readStep_43 : decode cX8_readStep 43 = .ok (.bipush 6, 2) := by decide +kernel
theorem dX8_readStep_45 : decode cX8_readStep 45 = .ok (.if_icmp .ne 7, 3) := by decide +kernel
theorem dX8_readStep_48 : decode cX8_readStep 48 = .ok (.iconst 0, 1) := by decide +kernel
theorem dX8_readStep_49 : decode cX8_readStep 49 = .ok (.goto 27, 3) := by decide +kernel
theorem dX8_readStep_52 : decode cX8_readStep 52 = .ok (.iload_n 1, 1) := by decide +kernel
theorem dX8_readStep_53 : decode cX8_readStep 53 = .ok (.iconst 1, 1) := by decide +kernel
theorem dX8_readStep_54 : decode cX8_readStep 54 = .ok (.if_icmp .eq 8, 3) := by decide +kernel
theorem dX8_readStep_57 : decode cX8_readStep 57 = .ok (.iload_n 1, 1) := by decide +kernel
theorem dX8_readStep_58 : decode cX8_readStep 58 = .ok (.iconst 2, 1) := by decide +kernel
theorem dX8_readStep_59 : decode cX8_readStep 59 = .ok (.if_icmp .ne 13, 3) := by decide +kernel
theorem dX8_readStep_62 : decode cX8_readStep 62 = .ok (.aload_n 0, 1) := by decide +kernel
theorem dX8_readStep_63 : decode cX8_readStep 63 = .ok (.iconst 1, 1) := by decide +kernel
theorem dX8_readStep_64 : decode cX8_readStep 64 = .ok (.bipush 20, 2) := by decide +kernel
theorem dX8_readStep_66 : decode cX8_readStep 66 = .ok (.invokevirtual 186, 3) := by decide +kernel
theorem dX8_readStep_69 : decode cX8_readStep 69 = .ok (.goto 7, 3) := by decide +kernel
theorem dX8_readStep_72 : decode cX8_readStep 72 = .ok (.aload_n 0, 1) := by decide +kernel
theorem dX8_readStep_73 : decode cX8_readStep 73 = .ok (.invokevirtual 299, 3) := by decide +kernel
theorem dX8_readStep_76 : decode cX8_readStep 76 = .ok (.istore_n 2, 1) := by decide +kernel
theorem dX8_readStep_77 : decode cX8_readStep 77 = .ok (.iload_n 1, 1) := by decide +kernel
theorem dX8_readStep_78 : decode cX8_readStep 78 = .ok (.ifCond .ne 13, 3) := by decide +kernel
theorem dX8_readStep_81 : decode cX8_readStep 81 = .ok (.aload_n 0, 1) := by decide +kernel
theorem dX8_readStep_82 : decode cX8_readStep 82 = .ok (.iconst 1, 1) := by decide +kernel
theorem dX8_readStep_83 : decode cX8_readStep 83 = .ok (.bipush 20, 2) := by decide +kernel
theorem dX8_readStep_85 : decode cX8_readStep 85 = .ok (.invokevirtual 186, 3) := by decide +kernel
theorem dX8_readStep_88 : decode cX8_readStep 88 = .ok (.goto 31, 3) := by decide +kernel
theorem dX8_readStep_91 : decode cX8_readStep 91 = .ok (.iload_n 1, 1) := by decide +kernel
theorem dX8_readStep_92 : decode cX8_readStep 92 = .ok (.iconst 3, 1) := by decide +kernel
theorem dX8_readStep_93 : decode cX8_readStep 93 = .ok (.if_icmp .ne 13, 3) := by decide +kernel
theorem dX8_readStep_96 : decode cX8_readStep 96 = .ok (.aload_n 0, 1) := by decide +kernel
theorem dX8_readStep_97 : decode cX8_readStep 97 = .ok (.iconst 0, 1) := by decide +kernel
theorem dX8_readStep_98 : decode cX8_readStep 98 = .ok (.bipush 99, 2) := by decide +kernel
theorem dX8_readStep_100 : decode cX8_readStep 100 = .ok (.invokevirtual 186, 3) := by decide +kernel
theorem dX8_readStep_103 : decode cX8_readStep 103 = .ok (.goto 16, 3) := by decide +kernel
theorem dX8_readStep_106 : decode cX8_readStep 106 = .ok (.iload_n 1, 1) := by decide +kernel
theorem dX8_readStep_107 : decode cX8_readStep 107 = .ok (.iconst 4, 1) := by decide +kernel
theorem dX8_readStep_108 : decode cX8_readStep 108 = .ok (.if_icmp .ne 10, 3) := by decide +kernel
theorem dX8_readStep_111 : decode cX8_readStep 111 = .ok (.aload_n 0, 1) := by decide +kernel
theorem dX8_readStep_112 : decode cX8_readStep 112 = .ok (.invokevirtual 299, 3) := by decide +kernel
theorem dX8_readStep_115 : decode cX8_readStep 115 = .ok (.goto 4, 3) := by decide +kernel
theorem dX8_readStep_118 : decode cX8_readStep 118 = .ok (.iconst 0, 1) := by decide +kernel
theorem dX8_readStep_119 : decode cX8_readStep 119 = .ok (.istore_n 3, 1) := by decide +kernel
theorem dX8_readStep_120 : decode cX8_readStep 120 = .ok (.aload_n 0, 1) := by decide +kernel
theorem dX8_readStep_121 : decode cX8_readStep 121 = .ok (.iload_n 1, 1) := by decide +kernel
theorem dX8_readStep_122 : decode cX8_readStep 122 = .ok (.iload_n 2, 1) := by decide +kernel
theorem dX8_readStep_123 : decode cX8_readStep 123 = .ok (.iload_n 3, 1) := by decide +kernel
theorem dX8_readStep_124 : decode cX8_readStep 124 = .ok (.iload_n 1, 1) := by decide +kernel
theorem dX8_readStep_125 : decode cX8_readStep 125 = .ok (.iconst 4, 1) := by decide +kernel
theorem dX8_readStep_126 : decode cX8_readStep 126 = .ok (.if_icmp .ne 13, 3) := by decide +kernel
theorem dX8_readStep_129 : decode cX8_readStep 129 = .ok (.aload_n 0, 1) := by decide +kernel
theorem dX8_readStep_130 : decode cX8_readStep 130 = .ok (.iconst 0, 1) := by decide +kernel
theorem dX8_readStep_131 : decode cX8_readStep 131 = .ok (.bipush 99, 2) := by decide +kernel
theorem dX8_readStep_133 : decode cX8_readStep 133 = .ok (.invokevirtual 186, 3) := by decide +kernel
theorem dX8_readStep_136 : decode cX8_readStep 136 = .ok (.goto 4, 3) := by decide +kernel
theorem dX8_readStep_139 : decode cX8_readStep 139 = .ok (.iconst 0, 1) := by decide +kernel
theorem dX8_readStep_140 : decode cX8_readStep 140 = .ok (.invokevirtual 286, 3) := by decide +kernel
theorem dX8_readStep_143 : decode cX8_readStep 143 = .ok (.aload_n 0, 1) := by decide +kernel
theorem dX8_readStep_144 : decode cX8_readStep 144 = .ok (.bipush 59, 2) := by decide +kernel
theorem dX8_readStep_146 : decode cX8_readStep 146 = .ok (.invokevirtual 216, 3) := by decide +kernel
theorem dX8_readStep_149 : decode cX8_readStep 149 = .ok (.return_, 1) := by decide +kernel
theorem dX8_work_0 : decode cX8_work 0 = .ok (.aload_n 0, 1) := by decide +kernel
theorem dX8_work_1 : decode cX8_work 1 = .ok (.iconst 0, 1) := by decide +kernel
theorem dX8_work_2 : decode cX8_work 2 = .ok (.putfield 3, 3) := by decide +kernel
theorem dX8_work_5 : decode cX8_work 5 = .ok (.aload_n 0, 1) := by decide +kernel
theorem dX8_work_6 : decode cX8_work 6 = .ok (.iload_n 1, 1) := by decide +kernel
theorem dX8_work_7 : decode cX8_work 7 = .ok (.ifCond .lt 22, 3) := by decide +kernel
theorem dX8_work_10 : decode cX8_work 10 = .ok (.iload_n 1, 1) := by decide +kernel
theorem dX8_work_11 : decode cX8_work 11 = .ok (.aload_n 0, 1) := by decide +kernel
theorem dX8_work_12 : decode cX8_work 12 = .ok (.getfield 96, 3) := by decide +kernel
theorem dX8_work_15 : decode cX8_work 15 = .ok (.if_icmp .gt 14, 3) := by decide +kernel
theorem dX8_work_18 : decode cX8_work 18 = .ok (.iload_n 1, 1) := by decide +kernel
theorem dX8_work_19 : decode cX8_work 19 = .ok (.sipush 150, 3) := by decide +kernel
theorem dX8_work_22 : decode cX8_work 22 = .ok (.if_icmp .gt 7, 3) := by decide +kernel
theorem dX8_work_25 : decode cX8_work 25 = .ok (.iconst 1, 1) := by decide +kernel
theorem dX8_work_26 : decode cX8_work 26 = .ok (.goto 4, 3) := by decide +kernel
theorem dX8_work_29 : decode cX8_work 29 = .ok (.iconst 0, 1) := by decide +kernel
theorem dX8_work_30 : decode cX8_work 30 = .ok (.iconst 1, 1) := by decide +kernel
theorem dX8_work_31 : decode cX8_work 31 = .ok (.iconst 1, 1) := by decide +kernel
theorem dX8_work_32 : decode cX8_work 32 = .ok (.invokevirtual 190, 3) := by decide +kernel
theorem dX8_work_35 : decode cX8_work 35 = .ok (.ifCond .ne 5, 3) := by decide +kernel
theorem dX8_work_38 : decode cX8_work 38 = .ok (.iconst 0, 1) := by decide +kernel
theorem dX8_work_39 : decode cX8_work 39 = .ok (.ireturn, 1) := by decide +kernel
theorem dX8_work_40 : decode cX8_work 40 = .ok (.aload_n 0, 1) := by decide +kernel
theorem dX8_work_41 : decode cX8_work 41 = .ok (.iload_n 1, 1) := by decide +kernel
theorem dX8_work_42 : decode cX8_work 42 = .ok (.invokevirtual 194, 3) := by decide +kernel
theorem dX8_work_45 : decode cX8_work 45 = .ok (.aload_n 0, 1) := by decide +kernel
theorem dX8_work_46 : decode cX8_work 46 = .ok (.getfield 170, 3) := by decide +kernel
theorem dX8_work_49 : decode cX8_work 49 = .ok (.bipush 16, 2) := by decide +kernel
theorem dX8_work_51 : decode cX8_work 51 = .ok (.if_icmp .ne 12, 3) := by decide +kernel
theorem dX8_work_54 : decode cX8_work 54 = .ok (.aload_n 0, 1) := by decide +kernel
theorem dX8_work_55 : decode cX8_work 55 = .ok (.iconst 0, 1) := by decide +kernel
theorem dX8_work_56 : decode cX8_work 56 = .ok (.invokevirtual 219, 3) := by decide +kernel
theorem dX8_work_59 : decode cX8_work 59 = .ok (.pop, 1) := by decide +kernel
theorem dX8_work_60 : decode cX8_work 60 = .ok (.bipush (-20), 2) := by decide +kernel
theorem dX8_work_62 : decode cX8_work 62 = .ok (.ireturn, 1) := by decide +kernel
theorem dX8_work_63 : decode cX8_work 63 = .ok (.aload_n 0, 1) := by decide +kernel
theorem dX8_work_64 : decode cX8_work 64 = .ok (.iconst 0, 1) := by decide +kernel
theorem dX8_work_65 : decode cX8_work 65 = .ok (.putfield 269, 3) := by decide +kernel
theorem dX8_work_68 : decode cX8_work 68 = .ok (.aload_n 0, 1) := by decide +kernel
theorem dX8_work_69 : decode cX8_work 69 = .ok (.invokevirtual 128, 3) := by decide +kernel
theorem dX8_work_72 : decode cX8_work 72 = .ok (.ifCond .eq 17, 3) := by decide +kernel
theorem dX8_work_75 : decode cX8_work 75 = .ok (.aload_n 0, 1) := by decide +kernel
theorem dX8_work_76 : decode cX8_work 76 = .ok (.invokevirtual 198, 3) := by decide +kernel
theorem dX8_work_79 : decode cX8_work 79 = .ok (.ifCond .eq 10, 3) := by decide +kernel
theorem dX8_work_82 : decode cX8_work 82 = .ok (.aload_n 0, 1) := by decide +kernel
theorem dX8_work_83 : decode cX8_work 83 = .ok (.invokevirtual 290, 3) := by decide +kernel
theorem dX8_work_86 : decode cX8_work 86 = .ok (.goto (-18), 3) := by decide +kernel
theorem dX8_work_89 : decode cX8_work 89 = .ok (.aload_n 0, 1) := by decide +kernel
theorem dX8_work_90 : decode cX8_work 90 = .ok (.iconst 0, 1) := by decide +kernel
theorem dX8_work_91 : decode cX8_work 91 = .ok (.invokevirtual 219, 3) := by decide +kernel
theorem dX8_work_94 : decode cX8_work 94 = .ok (.istore_n 2, 1) := by decide +kernel
theorem dX8_work_95 : decode cX8_work 95 = .ok (.aload_n 0, 1) := by decide +kernel
theorem dX8_work_96 : decode cX8_work 96 = .ok (.getfield 99, 3) := by decide +kernel
theorem dX8_work_99 : decode cX8_work 99 = .ok (.iconst (-1), 1) := by decide +kernel
theorem dX8_work_100 : decode cX8_work 100 = .ok (.if_icmp .eq 5, 3) := by decide +kernel
theorem dX8_work_103 : decode cX8_work 103 = .ok (.iload_n 2, 1) := by decide +kernel
theorem dX8_work_104 : decode cX8_work 104 = .ok (.ireturn, 1) := by decide +kernel
theorem dX8_work_105 : decode cX8_work 105 = .ok (.aload_n 0, 1) := by decide +kernel
theorem dX8_work_106 : decode cX8_work 106 = .ok (.aload_n 0, 1) := by decide +kernel
theorem dX8_work_107 : decode cX8_work 107 = .ok (.getfield 53, 3) := by decide +kernel
theorem dX8_work_110 : decode cX8_work 110 = .ok (.aload_n 0, 1) := by decide +kernel
theorem dX8_work_111 : decode cX8_work 111 = .ok (.getfield 56, 3) := by decide +kernel
theorem dX8_work_114 : decode cX8_work 114 = .ok (.aload_n 0, 1) := by decide +kernel
theorem dX8_work_115 : decode cX8_work 115 = .ok (.getfield 269, 3) := by decide +kernel
theorem dX8_work_118 : decode cX8_work 118 = .ok (.invokevirtual 160, 3) := by decide +kernel
theorem dX8_work_121 : decode cX8_work 121 = .ok (.iconst 0, 1) := by decide +kernel
theorem dX8_work_122 : decode cX8_work 122 = .ok (.istore_n 3, 1) := by decide +kernel
theorem dX8_work_123 : decode cX8_work 123 = .ok (.iload_n 3, 1) := by decide +kernel
theorem dX8_work_124 : decode cX8_work 124 = .ok (.bipush 28, 2) := by decide +kernel
theorem dX8_work_126 : decode cX8_work 126 = .ok (.if_icmp .ge 29, 3) := by decide +kernel
theorem dX8_work_129 : decode cX8_work 129 = .ok (.aload_n 0, 1) := by decide +kernel
theorem dX8_work_130 : decode cX8_work 130 = .ok (.getfield 65, 3) := by decide +kernel
theorem dX8_work_133 : decode cX8_work 133 = .ok (.bipush 28, 2) := by decide +kernel
theorem dX8_work_135 : decode cX8_work 135 = .ok (.aload_n 0, 1) := by decide +kernel
theorem dX8_work_136 : decode cX8_work 136 = .ok (.getfield 170, 3) := by decide +kernel
theorem dX8_work_139 : decode cX8_work 139 = .ok (.imul, 1) := by decide +kernel
theorem dX8_work_140 : decode cX8_work 140 = .ok (.iload_n 3, 1) := by decide +kernel
theorem dX8_work_141 : decode cX8_work 141 = .ok (.iadd, 1) := by decide +kernel
theorem dX8_work_142 : decode cX8_work 142 = .ok (.aload_n 0, 1) := by decide +kernel
theorem dX8_work_143 : decode cX8_work 143 = .ok (.getfield 59, 3) := by decide +kernel
theorem dX8_work_146 : decode cX8_work 146 = .ok (.iload_n 3, 1) := by decide +kernel
theorem dX8_work_147 : decode cX8_work 147 = .ok (.iaload, 1) := by decide +kernel
theorem dX8_work_148 : decode cX8_work 148 = .ok (.iastore, 1) := by decide +kernel
theorem dX8_work_149 : decode cX8_work 149 = .ok (.iinc 3 1, 3) := by decide +kernel
theorem dX8_work_152 : decode cX8_work 152 = .ok (.goto (-29), 3) := by decide +kernel
theorem dX8_work_155 : decode cX8_work 155 = .ok (.aload_n 0, 1) := by decide +kernel
theorem dX8_work_156 : decode cX8_work 156 = .ok (.dup, 1) := by decide +kernel
theorem dX8_work_157 : decode cX8_work 157 = .ok (.getfield 170, 3) := by decide +kernel
theorem dX8_work_160 : decode cX8_work 160 = .ok (.iconst 1, 1) := by decide +kernel
theorem dX8_work_161 : decode cX8_work 161 = .ok (.iadd, 1) := by decide +kernel
theorem dX8_work_162 : decode cX8_work 162 = .ok (.putfield 170, 3) := by decide +kernel
theorem dX8_work_165 : decode cX8_work 165 = .ok (.aload_n 0, 1) := by decide +kernel
theorem dX8_work_166 : decode cX8_work 166 = .ok (.invokevirtual 302, 3) := by decide +kernel
theorem dX8_work_169 : decode cX8_work 169 = .ok (.aload_n 0, 1) := by decide +kernel
theorem dX8_work_170 : decode cX8_work 170 = .ok (.iconst 0, 1) := by decide +kernel
theorem dX8_work_171 : decode cX8_work 171 = .ok (.putfield 305, 3) := by decide +kernel
theorem dX8_work_174 : decode cX8_work 174 = .ok (.aload_n 0, 1) := by decide +kernel
theorem dX8_work_175 : decode cX8_work 175 = .ok (.iconst 0, 1) := by decide +kernel
theorem dX8_work_176 : decode cX8_work 176 = .ok (.putfield 308, 3) := by decide +kernel
theorem dX8_work_179 : decode cX8_work 179 = .ok (.aload_n 0, 1) := by decide +kernel
theorem dX8_work_180 : decode cX8_work 180 = .ok (.iconst 0, 1) := by decide +kernel
theorem dX8_work_181 : decode cX8_work 181 = .ok (.putfield 311, 3) := by decide +kernel
theorem dX8_work_184 : decode cX8_work 184 = .ok (.aload_n 0, 1) := by decide +kernel
theorem dX8_work_185 : decode cX8_work 185 = .ok (.iconst 0, 1) := by decide +kernel
theorem dX8_work_186 : decode cX8_work 186 = .ok (.aload_n 0, 1) := by decide +kernel
theorem dX8_work_187 : decode cX8_work 187 = .ok (.getfield 269, 3) := by decide +kernel
theorem dX8_work_190 : decode cX8_work 190 = .ok (.invokevirtual 314, 3) := by decide +kernel
theorem dX8_work_193 : decode cX8_work 193 = .ok (.aload_n 0, 1) := by decide +kernel
theorem dX8_work_194 : decode cX8_work 194 = .ok (.aload_n 0, 1) := by decide +kernel
theorem dX8_work_195 : decode cX8_work 195 = .ok (.getfield 62, 3) := by decide +kernel
theorem dX8_work_198 : decode cX8_work 198 = .ok (.aload_n 0, 1) := by decide +kernel
theorem dX8_work_199 : decode cX8_work 199 = .ok (.getfield 59, 3) := by decide +kernel
theorem dX8_work_202 : decode cX8_work 202 = .ok (.bipush 28, 2) := by decide +kernel
theorem dX8_work_204 : decode cX8_work 204 = .ok (.invokevirtual 160, 3) := by decide +kernel
theorem dX8_work_207 : decode cX8_work 207 = .ok (.aload_n 0, 1) := by decide +kernel
theorem dX8_work_208 : decode cX8_work 208 = .ok (.aload_n 0, 1) := by decide +kernel
theorem dX8_work_209 : decode cX8_work 209 = .ok (.getfield 311, 3) := by decide +kernel
theorem dX8_work_212 : decode cX8_work 212 = .ok (.putfield 176, 3) := by decide +kernel
theorem dX8_work_215 : decode cX8_work 215 = .ok (.aload_n 0, 1) := by decide +kernel
theorem dX8_work_216 : decode cX8_work 216 = .ok (.getfield 308, 3) := by decide +kernel
theorem dX8_work_219 : decode cX8_work 219 = .ok (.ireturn, 1) := by decide +kernel
theorem dX8_goesSteps_0 : decode cX8_goesSteps 0 = .ok (.iload_n 1, 1) := by decide +kernel
theorem dX8_goesSteps_1 : decode cX8_goesSteps 1 = .ok (.istore_n 3, 1) := by decide +kernel
theorem dX8_goesSteps_2 : decode cX8_goesSteps 2 = .ok (.iload_n 3, 1) := by decide +kernel
theorem dX8_goesSteps_3 : decode cX8_goesSteps 3 = .ok (.iload_n 2, 1) := by decide +kernel
theorem dX8_goesSteps_4 : decode cX8_goesSteps 4 = .ok (.if_icmp .ge 157, 3) := by decide +kernel
theorem dX8_goesSteps_7 : decode cX8_goesSteps 7 = .ok (.aload_n 0, 1) := by decide +kernel
theorem dX8_goesSteps_8 : decode cX8_goesSteps 8 = .ok (.getfield 305, 3) := by decide +kernel
theorem dX8_goesSteps_11 : decode cX8_goesSteps 11 = .ok (.sipush 200, 3) := by decide +kernel
theorem dX8_goesSteps_14 : decode cX8_goesSteps 14 = .ok (.if_icmp .ge 147, 3) := by decide +kernel
theorem dX8_goesSteps_17 : decode cX8_goesSteps 17 = .ok (.aload_n 0, 1) := by decide +kernel
theorem dX8_goesSteps_18 : decode cX8_goesSteps 18 = .ok (.dup, 1) := by decide +kernel
theorem dX8_goesSteps_19 : decode cX8_goesSteps 19 = .ok (.getfield 305, 3) := by decide +kernel
theorem dX8_goesSteps_22 : decode cX8_goesSteps 22 = .ok (.iconst 1, 1) := by decide +kernel
theorem dX8_goesSteps_23 : decode cX8_goesSteps 23 = .ok (.iadd, 1) := by decide +kernel
theorem dX8_goesSteps_24 : decode cX8_goesSteps 24 = .ok (.putfield 305, 3) := by decide +kernel
theorem dX8_goesSteps_27 : decode cX8_goesSteps 27 = .ok (.aload_n 0, 1) := by decide +kernel
theorem dX8_goesSteps_28 : decode cX8_goesSteps 28 = .ok (.getfield 56, 3) := by decide +kernel
theorem dX8_goesSteps_31 : decode cX8_goesSteps 31 = .ok (.iload_n 3, 1) := by decide +kernel
theorem dX8_goesSteps_32 : decode cX8_goesSteps 32 = .ok (.iaload, 1) := by decide +kernel
theorem dX8_goesSteps_33 : decode cX8_goesSteps 33 = .ok (.bipush 7, 2) := by decide +kernel
theorem dX8_goesSteps_35 : decode cX8_goesSteps 35 = .ok (.if_icmp .ne 60, 3) := by decide +kernel
theorem dX8_goesSteps_38 : decode cX8_goesSteps 38 = .ok (.aload_n 0, 1) := by decide +kernel
theorem dX8_goesSteps_39 : decode cX8_goesSteps 39 = .ok (.getfield 56, 3) := by decide +kernel
theorem dX8_goesSteps_42 : decode cX8_goesSteps 42 = .ok (.iload_n 3, 1) := by decide +kernel
theorem dX8_goesSteps_43 : decode cX8_goesSteps 43 = .ok (.iconst 2, 1) := by decide +kernel
theorem dX8_goesSteps_44 : decode cX8_goesSteps 44 = .ok (.iadd, 1) := by decide +kernel
theorem dX8_goesSteps_45 : decode cX8_goesSteps 45 = .ok (.iaload, 1) := by decide +kernel
theorem dX8_goesSteps_46 : decode cX8_goesSteps 46 = .ok (.istore 4, 2) := by decide +kernel
theorem dX8_goesSteps_48 : decode cX8_goesSteps 48 = .ok (.iconst 0, 1) := by decide +kernel
theorem dX8_goesSteps_49 : decode cX8_goesSteps 49 = .ok (.istore 5, 2) := by decide +kernel
theorem dX8_goesSteps_51 : decode cX8_goesSteps 51 = .ok (.iload 5, 2) := by decide +kernel
theorem dX8_goesSteps_53 : decode cX8_goesSteps 53 = .ok (.aload_n 0, 1) := by decide +kernel
theorem dX8_goesSteps_54 : decode cX8_goesSteps 54 = .ok (.getfield 56, 3) := by decide +kernel
theorem dX8_goesSteps_57 : decode cX8_goesSteps 57 = .ok (.iload_n 3, 1) := by decide +kernel
theorem dX8_goesSteps_58 : decode cX8_goesSteps 58 = .ok (.iconst 1, 1) := by decide +kernel
theorem dX8_goesSteps_59 : decode cX8_goesSteps 59 = .ok (.iadd, 1) := by decide +kernel
theorem dX8_goesSteps_60 : decode cX8_goesSteps 60 = .ok (.iaload, 1) := by decide +kernel
theorem dX8_goesSteps_61 : decode cX8_goesSteps 61 = .ok (.if_icmp .ge 28, 3) := by decide +kernel
theorem dX8_goesSteps_64 : decode cX8_goesSteps 64 = .ok (.aload_n 0, 1) := by decide +kernel
theorem dX8_goesSteps_65 : decode cX8_goesSteps 65 = .ok (.getfield 305, 3) := by decide +kernel
theorem dX8_goesSteps_68 : decode cX8_goesSteps 68 = .ok (.sipush 200, 3) := by decide +kernel
theorem dX8_goesSteps_71 : decode cX8_goesSteps 71 = .ok (.if_icmp .ge 18, 3) := by decide +kernel
theorem dX8_goesSteps_74 : decode cX8_goesSteps 74 = .ok (.aload_n 0, 1) := by decide +kernel
theorem dX8_goesSteps_75 : decode cX8_goesSteps 75 = .ok (.iload_n 3, 1) := by decide +kernel
theorem dX8_goesSteps_76 : decode cX8_goesSteps 76 = .ok (.iconst 4, 1) := by decide +kernel
theorem dX8_goesSteps_77 : decode cX8_goesSteps 77 = .ok (.iadd, 1) := by decide +kernel
theorem dX8_goesSteps_78 : decode cX8_goesSteps 78 = .ok (.iload 4, 2) := by decide +kernel
theorem dX8_goesSteps_80 : decode cX8_goesSteps 80 = .ok (.invokevirtual 314, 3) := by decide +kernel
theorem dX8_goesSteps_83 : decode cX8_goesSteps 83 = .ok (.iinc 5 1, 3) := by decide +kernel
theorem dX8_goesSteps_86 : decode cX8_goesSteps 86 = .ok (.goto (-35), 3) := by decide +kernel
theorem dX8_goesSteps_89 : decode cX8_goesSteps 89 = .ok (.iload 4, 2) := by decide +kernel
theorem dX8_goesSteps_91 : decode cX8_goesSteps 91 = .ok (.istore_n 3, 1) := by decide +kernel
theorem dX8_goesSteps_92 : decode cX8_goesSteps 92 = .ok (.goto (-90), 3) := by decide +kernel
theorem dX8_goesSteps_95 : decode cX8_goesSteps 95 = .ok (.aload_n 0, 1) := by decide +kernel
theorem dX8_goesSteps_96 : decode cX8_goesSteps 96 = .ok (.aload_n 0, 1) := by decide +kernel
theorem dX8_goesSteps_97 : decode cX8_goesSteps 97 = .ok (.getfield 56, 3) := by decide +kernel
theorem dX8_goesSteps_100 : decode cX8_goesSteps 100 = .ok (.iload_n 3, 1) := by decide +kernel
theorem dX8_goesSteps_101 : decode cX8_goesSteps 101 = .ok (.iaload, 1) := by decide +kernel
theorem dX8_goesSteps_102 : decode cX8_goesSteps 102 = .ok (.aload_n 0, 1) := by decide +kernel
theorem dX8_goesSteps_103 : decode cX8_goesSteps 103 = .ok (.getfield 56, 3) := by decide +kernel
theorem dX8_goesSteps_106 : decode cX8_goesSteps 106 = .ok (.iload_n 3, 1) := by decide +kernel
theorem dX8_goesSteps_107 : decode cX8_goesSteps 107 = .ok (.iconst 1, 1) := by decide +kernel
theorem dX8_goesSteps_108 : decode cX8_goesSteps 108 = .ok (.iadd, 1) := by decide +kernel
theorem dX8_goesSteps_109 : decode cX8_goesSteps 109 = .ok (.iaload, 1) := by decide +kernel
theorem dX8_goesSteps_110 : decode cX8_goesSteps 110 = .ok (.aload_n 0, 1) := by decide +kernel
theorem dX8_goesSteps_111 : decode cX8_goesSteps 111 = .ok (.getfield 56, 3) := by decide +kernel
theorem dX8_goesSteps_114 : decode cX8_goesSteps 114 = .ok (.iload_n 3, 1) := by decide +kernel
theorem dX8_goesSteps_115 : decode cX8_goesSteps 115 = .ok (.iconst 2, 1) := by decide +kernel
theorem dX8_goesSteps_116 : decode cX8_goesSteps 116 = .ok (.iadd, 1) := by decide +kernel
theorem dX8_goesSteps_117 : decode cX8_goesSteps 117 = .ok (.iaload, 1) := by decide +kernel
theorem dX8_goesSteps_118 : decode cX8_goesSteps 118 = .ok (.aload_n 0, 1) := by decide +kernel
theorem dX8_goesSteps_119 : decode cX8_goesSteps 119 = .ok (.getfield 56, 3) := by decide +kernel
theorem dX8_goesSteps_122 : decode cX8_goesSteps 122 = .ok (.iload_n 3, 1) := by decide +kernel
theorem dX8_goesSteps_123 : decode cX8_goesSteps 123 = .ok (.iconst 3, 1) := by decide +kernel
theorem dX8_goesSteps_124 : decode cX8_goesSteps 124 = .ok (.iadd, 1) := by decide +kernel
theorem dX8_goesSteps_125 : decode cX8_goesSteps 125 = .ok (.iaload, 1) := by decide +kernel
theorem dX8_goesSteps_126 : decode cX8_goesSteps 126 = .ok (.invokevirtual 317, 3) := by decide +kernel
theorem dX8_goesSteps_129 : decode cX8_goesSteps 129 = .ok (.ifCond .eq 16, 3) := by decide +kernel
theorem dX8_goesSteps_132 : decode cX8_goesSteps 132 = .ok (.aload_n 0, 1) := by decide +kernel
theorem dX8_goesSteps_133 : decode cX8_goesSteps 133 = .ok (.dup, 1) := by decide +kernel
theorem dX8_goesSteps_134 : decode cX8_goesSteps 134 = .ok (.getfield 308, 3) := by decide +kernel
theorem dX8_goesSteps_137 : decode cX8_goesSteps 137 = .ok (.iconst 1, 1) := by decide +kernel
theorem dX8_goesSteps_138 : decode cX8_goesSteps 138 = .ok (.iadd, 1) := by decide +kernel
theorem dX8_goesSteps_139 : decode cX8_goesSteps 139 = .ok (.putfield 308, 3) := by decide +kernel
theorem dX8_goesSteps_142 : decode cX8_goesSteps 142 = .ok (.goto 13, 3) := by decide +kernel
theorem dX8_goesSteps_145 : decode cX8_goesSteps 145 = .ok (.aload_n 0, 1) := by decide +kernel
theorem dX8_goesSteps_146 : decode cX8_goesSteps 146 = .ok (.dup, 1) := by decide +kernel
theorem dX8_goesSteps_147 : decode cX8_goesSteps 147 = .ok (.getfield 311, 3) := by decide +kernel
theorem dX8_goesSteps_150 : decode cX8_goesSteps 150 = .ok (.iconst 1, 1) := by decide +kernel
theorem dX8_goesSteps_151 : decode cX8_goesSteps 151 = .ok (.iadd, 1) := by decide +kernel
theorem dX8_goesSteps_152 : decode cX8_goesSteps 152 = .ok (.putfield 311, 3) := by decide +kernel
theorem dX8_goesSteps_155 : decode cX8_goesSteps 155 = .ok (.iinc 3 4, 3) := by decide +kernel
theorem dX8_goesSteps_158 : decode cX8_goesSteps 158 = .ok (.goto (-156), 3) := by decide +kernel
theorem dX8_goesSteps_161 : decode cX8_goesSteps 161 = .ok (.return_, 1) := by decide +kernel
theorem dX8_take_0 : decode cX8_take 0 = .ok (.aload_n 0, 1) := by decide +kernel
theorem dX8_take_1 : decode cX8_take 1 = .ok (.aload_n 0, 1) := by decide +kernel
theorem dX8_take_2 : decode cX8_take 2 = .ok (.getfield 59, 3) := by decide +kernel
theorem dX8_take_5 : decode cX8_take 5 = .ok (.aload_n 0, 1) := by decide +kernel
theorem dX8_take_6 : decode cX8_take 6 = .ok (.getfield 62, 3) := by decide +kernel
theorem dX8_take_9 : decode cX8_take 9 = .ok (.bipush 28, 2) := by decide +kernel
theorem dX8_take_11 : decode cX8_take 11 = .ok (.invokevirtual 160, 3) := by decide +kernel
theorem dX8_take_14 : decode cX8_take 14 = .ok (.return_, 1) := by decide +kernel
theorem dX8_size_0 : decode cX8_size 0 = .ok (.iload_n 0, 1) := by decide +kernel
theorem dX8_size_1 : decode cX8_size 1 = .ok (.ifCond .ge 8, 3) := by decide +kernel
theorem dX8_size_4 : decode cX8_size 4 = .ok (.iload_n 0, 1) := by decide +kernel
theorem dX8_size_5 : decode cX8_size 5 = .ok (.ineg, 1) := by decide +kernel
theorem dX8_size_6 : decode cX8_size 6 = .ok (.goto 4, 3) := by decide +kernel
theorem dX8_size_9 : decode cX8_size 9 = .ok (.iload_n 0, 1) := by decide +kernel
theorem dX8_size_10 : decode cX8_size 10 = .ok (.ireturn, 1) := by decide +kernel
theorem dX8_isSeen_0 : decode cX8_isSeen 0 = .ok (.aload_n 0, 1) := by decide +kernel
theorem dX8_isSeen_1 : decode cX8_isSeen 1 = .ok (.getfield 62, 3) := by decide +kernel
theorem dX8_isSeen_4 : decode cX8_isSeen 4 = .ok (.bipush 10, 2) := by decide +kernel
theorem dX8_isSeen_6 : decode cX8_isSeen 6 = .ok (.iload_n 1, 1) := by decide +kernel
theorem dX8_isSeen_7 : decode cX8_isSeen 7 = .ok (.iadd, 1) := by decide +kernel
theorem dX8_isSeen_8 : decode cX8_isSeen 8 = .ok (.iaload, 1) := by decide +kernel
theorem dX8_isSeen_9 : decode cX8_isSeen 9 = .ok (.ifCond .le 40, 3) := by decide +kernel
theorem dX8_isSeen_12 : decode cX8_isSeen 12 = .ok (.aload_n 0, 1) := by decide +kernel
theorem dX8_isSeen_13 : decode cX8_isSeen 13 = .ok (.getfield 62, 3) := by decide +kernel
theorem dX8_isSeen_16 : decode cX8_isSeen 16 = .ok (.bipush 15, 2) := by decide +kernel
theorem dX8_isSeen_18 : decode cX8_isSeen 18 = .ok (.iload_n 1, 1) := by decide +kernel
theorem dX8_isSeen_19 : decode cX8_isSeen 19 = .ok (.iadd, 1) := by decide +kernel
theorem dX8_isSeen_20 : decode cX8_isSeen 20 = .ok (.iaload, 1) := by decide +kernel
theorem dX8_isSeen_21 : decode cX8_isSeen 21 = .ok (.aload_n 0, 1) := by decide +kernel
theorem dX8_isSeen_22 : decode cX8_isSeen 22 = .ok (.getfield 29, 3) := by decide +kernel
theorem dX8_isSeen_25 : decode cX8_isSeen 25 = .ok (.iconst 2, 1) := by decide +kernel
theorem dX8_isSeen_26 : decode cX8_isSeen 26 = .ok (.iload_n 2, 1) := by decide +kernel
theorem dX8_isSeen_27 : decode cX8_isSeen 27 = .ok (.imul, 1) := by decide +kernel
theorem dX8_isSeen_28 : decode cX8_isSeen 28 = .ok (.iaload, 1) := by decide +kernel
theorem dX8_isSeen_29 : decode cX8_isSeen 29 = .ok (.isub, 1) := by decide +kernel
theorem dX8_isSeen_30 : decode cX8_isSeen 30 = .ok (.invokestatic 321, 3) := by decide +kernel
theorem dX8_isSeen_33 : decode cX8_isSeen 33 = .ok (.aload_n 0, 1) := by decide +kernel
theorem dX8_isSeen_34 : decode cX8_isSeen 34 = .ok (.getfield 62, 3) := by decide +kernel
theorem dX8_isSeen_37 : decode cX8_isSeen 37 = .ok (.bipush 10, 2) := by decide +kernel
theorem dX8_isSeen_39 : decode cX8_isSeen 39 = .ok (.iload_n 1, 1) := by decide +kernel
theorem dX8_isSeen_40 : decode cX8_isSeen 40 = .ok (.iadd, 1) := by decide +kernel
theorem dX8_isSeen_41 : decode cX8_isSeen 41 = .ok (.iaload, 1) := by decide +kernel
theorem dX8_isSeen_42 : decode cX8_isSeen 42 = .ok (.if_icmp .gt 7, 3) := by decide +kernel
theorem dX8_isSeen_45 : decode cX8_isSeen 45 = .ok (.iconst 1, 1) := by decide +kernel
theorem dX8_isSeen_46 : decode cX8_isSeen 46 = .ok (.goto 4, 3) := by decide +kernel
theorem dX8_isSeen_49 : decode cX8_isSeen 49 = .ok (.iconst 0, 1) := by decide +kernel
theorem dX8_isSeen_50 : decode cX8_isSeen 50 = .ok (.ireturn, 1) := by decide +kernel
theorem dX8_ownerOf_0 : decode cX8_ownerOf 0 = .ok (.iconst (-1), 1) := by decide +kernel
theorem dX8_ownerOf_1 : decode cX8_ownerOf 1 = .ok (.istore_n 2, 1) := by decide +kernel
theorem dX8_ownerOf_2 : decode cX8_ownerOf 2 = .ok (.iconst 0, 1) := by decide +kernel
theorem dX8_ownerOf_3 : decode cX8_ownerOf 3 = .ok (.istore_n 3, 1) := by decide +kernel
theorem dX8_ownerOf_4 : decode cX8_ownerOf 4 = .ok (.iload_n 3, 1) := by decide +kernel
theorem dX8_ownerOf_5 : decode cX8_ownerOf 5 = .ok (.aload_n 0, 1) := by decide +kernel
theorem dX8_ownerOf_6 : decode cX8_ownerOf 6 = .ok (.getfield 154, 3) := by decide +kernel
theorem dX8_ownerOf_9 : decode cX8_ownerOf 9 = .ok (.if_icmp .ge 70, 3) := by decide +kernel
theorem dX8_ownerOf_12 : decode cX8_ownerOf 12 = .ok (.aload_n 0, 1) := by decide +kernel
theorem dX8_ownerOf_13 : decode cX8_ownerOf 13 = .ok (.iload_n 3, 1) := by decide +kernel
theorem dX8_ownerOf_14 : decode cX8_ownerOf 14 = .ok (.iload_n 1, 1) := by decide +kernel
theorem dX8_ownerOf_15 : decode cX8_ownerOf 15 = .ok (.invokevirtual 323, 3) := by decide +kernel
theorem dX8_ownerOf_18 : decode cX8_ownerOf 18 = .ok (.ifCond .eq 55, 3) := by decide +kernel
theorem dX8_ownerOf_21 : decode cX8_ownerOf 21 = .ok (.iload_n 2, 1) := by decide +kernel
theorem dX8_ownerOf_22 : decode cX8_ownerOf 22 = .ok (.iconst (-1), 1) := by decide +kernel
theorem dX8_ownerOf_23 : decode cX8_ownerOf 23 = .ok (.if_icmp .eq 48, 3) := by decide +kernel
theorem dX8_ownerOf_26 : decode cX8_ownerOf 26 = .ok (.aload_n 0, 1) := by decide +kernel
theorem dX8_ownerOf_27 : decode cX8_ownerOf 27 = .ok (.getfield 62, 3) := by decide +kernel
theorem dX8_ownerOf_30 : decode cX8_ownerOf 30 = .ok (.bipush 15, 2) := by decide +kernel
theorem dX8_ownerOf_32 : decode cX8_ownerOf 32 = .ok (.iload_n 3, 1) := by decide +kernel
theorem dX8_ownerOf_33 : decode cX8_ownerOf 33 = .ok (.iadd, 1) := by decide +kernel
theorem dX8_ownerOf_34 : decode cX8_ownerOf 34 = .ok (.iaload, 1) := by decide +kernel
theorem dX8_ownerOf_35 : decode cX8_ownerOf 35 = .ok (.aload_n 0, 1) := by decide +kernel
theorem dX8_ownerOf_36 : decode cX8_ownerOf 36 = .ok (.getfield 29, 3) := by decide +kernel
theorem dX8_ownerOf_39 : decode cX8_ownerOf 39 = .ok (.iconst 2, 1) := by decide +kernel
theorem dX8_ownerOf_40 : decode cX8_ownerOf 40 = .ok (.iload_n 1, 1) := by decide +kernel
theorem dX8_ownerOf_41 : decode cX8_ownerOf 41 = .ok (.imul, 1) := by decide +kernel
theorem dX8_ownerOf_42 : decode cX8_ownerOf 42 = .ok (.iaload, 1) := by decide +kernel
theorem dX8_ownerOf_43 : decode cX8_ownerOf 43 = .ok (.isub, 1) := by decide +kernel
theorem dX8_ownerOf_44 : decode cX8_ownerOf 44 = .ok (.invokestatic 321, 3) := by decide +kernel
theorem dX8_ownerOf_47 : decode cX8_ownerOf 47 = .ok (.aload_n 0, 1) := by decide +kernel
theorem dX8_ownerOf_48 : decode cX8_ownerOf 48 = .ok (.getfield 62, 3) := by decide +kernel
theorem dX8_ownerOf_51 : decode cX8_ownerOf 51 = .ok (.bipush 15, 2) := by decide +kernel
theorem dX8_ownerOf_53 : decode cX8_ownerOf 53 = .ok (.iload_n 2, 1) := by decide +kernel
theorem dX8_ownerOf_54 : decode cX8_ownerOf 54 = .ok (.iadd, 1) := by decide +kernel
theorem dX8_ownerOf_55 : decode cX8_ownerOf 55 = .ok (.iaload, 1) := by decide +kernel
theorem dX8_ownerOf_56 : decode cX8_ownerOf 56 = .ok (.aload_n 0, 1) := by decide +kernel
theorem dX8_ownerOf_57 : decode cX8_ownerOf 57 = .ok (.getfield 29, 3) := by decide +kernel
theorem dX8_ownerOf_60 : decode cX8_ownerOf 60 = .ok (.iconst 2, 1) := by decide +kernel
theorem dX8_ownerOf_61 : decode cX8_ownerOf 61 = .ok (.iload_n 1, 1) := by decide +kernel
theorem dX8_ownerOf_62 : decode cX8_ownerOf 62 = .ok (.imul, 1) := by decide +kernel
theorem dX8_ownerOf_63 : decode cX8_ownerOf 63 = .ok (.iaload, 1) := by decide +kernel
theorem dX8_ownerOf_64 : decode cX8_ownerOf 64 = .ok (.isub, 1) := by decide +kernel
theorem dX8_ownerOf_65 : decode cX8_ownerOf 65 = .ok (.invokestatic 321, 3) := by decide +kernel
theorem dX8_ownerOf_68 : decode cX8_ownerOf 68 = .ok (.if_icmp .ge 5, 3) := by decide +kernel
theorem dX8_ownerOf_71 : decode cX8_ownerOf 71 = .ok (.iload_n 3, 1) := by decide +kernel
theorem dX8_ownerOf_72 : decode cX8_ownerOf 72 = .ok (.istore_n 2, 1) := by decide +kernel
theorem dX8_ownerOf_73 : decode cX8_ownerOf 73 = .ok (.iinc 3 1, 3) := by decide +kernel
theorem dX8_ownerOf_76 : decode cX8_ownerOf 76 = .ok (.goto (-72), 3) := by decide +kernel
theorem dX8_ownerOf_79 : decode cX8_ownerOf 79 = .ok (.iload_n 2, 1) := by decide +kernel
theorem dX8_ownerOf_80 : decode cX8_ownerOf 80 = .ok (.ireturn, 1) := by decide +kernel
theorem dX8_ownedBy_0 : decode cX8_ownedBy 0 = .ok (.iconst 0, 1) := by decide +kernel
theorem dX8_ownedBy_1 : decode cX8_ownedBy 1 = .ok (.istore_n 2, 1) := by decide +kernel
theorem dX8_ownedBy_2 : decode cX8_ownedBy 2 = .ok (.iconst 0, 1) := by decide +kernel
theorem dX8_ownedBy_3 : decode cX8_ownedBy 3 = .ok (.istore_n 3, 1) := by decide +kernel
theorem dX8_ownedBy_4 : decode cX8_ownedBy 4 = .ok (.iload_n 3, 1) := by decide +kernel
theorem dX8_ownedBy_5 : decode cX8_ownedBy 5 = .ok (.aload_n 0, 1) := by decide +kernel
theorem dX8_ownedBy_6 : decode cX8_ownedBy 6 = .ok (.getfield 151, 3) := by decide +kernel
theorem dX8_ownedBy_9 : decode cX8_ownedBy 9 = .ok (.if_icmp .ge 28, 3) := by decide +kernel
theorem dX8_ownedBy_12 : decode cX8_ownedBy 12 = .ok (.iload_n 2, 1) := by decide +kernel
theorem dX8_ownedBy_13 : decode cX8_ownedBy 13 = .ok (.aload_n 0, 1) := by decide +kernel
theorem dX8_ownedBy_14 : decode cX8_ownedBy 14 = .ok (.iload_n 3, 1) := by decide +kernel
theorem dX8_ownedBy_15 : decode cX8_ownedBy 15 = .ok (.invokevirtual 327, 3) := by decide +kernel
theorem dX8_ownedBy_18 : decode cX8_ownedBy 18 = .ok (.iload_n 1, 1) := by decide +kernel
theorem dX8_ownedBy_19 : decode cX8_ownedBy 19 = .ok (.if_icmp .ne 9, 3) := by decide +kernel
theorem dX8_ownedBy_22 : decode cX8_ownedBy 22 = .ok (.iconst 1, 1) := by decide +kernel
theorem dX8_ownedBy_23 : decode cX8_ownedBy 23 = .ok (.iload_n 3, 1) := by decide +kernel
theorem dX8_ownedBy_24 : decode cX8_ownedBy 24 = .ok (.ishl, 1) := by decide +kernel
theorem dX8_ownedBy_25 : decode cX8_ownedBy 25 = .ok (.goto 4, 3) := by decide +kernel
theorem dX8_ownedBy_28 : decode cX8_ownedBy 28 = .ok (.iconst 0, 1) := by decide +kernel
theorem dX8_ownedBy_29 : decode cX8_ownedBy 29 = .ok (.ior, 1) := by decide +kernel
theorem dX8_ownedBy_30 : decode cX8_ownedBy 30 = .ok (.istore_n 2, 1) := by decide +kernel
theorem dX8_ownedBy_31 : decode cX8_ownedBy 31 = .ok (.iinc 3 1, 3) := by decide +kernel
theorem dX8_ownedBy_34 : decode cX8_ownedBy 34 = .ok (.goto (-30), 3) := by decide +kernel
theorem dX8_ownedBy_37 : decode cX8_ownedBy 37 = .ok (.iload_n 2, 1) := by decide +kernel
theorem dX8_ownedBy_38 : decode cX8_ownedBy 38 = .ok (.ireturn, 1) := by decide +kernel
theorem dX8_worthOf_0 : decode cX8_worthOf 0 = .ok (.iconst 0, 1) := by decide +kernel
theorem dX8_worthOf_1 : decode cX8_worthOf 1 = .ok (.istore_n 2, 1) := by decide +kernel
theorem dX8_worthOf_2 : decode cX8_worthOf 2 = .ok (.iconst 0, 1) := by decide +kernel
theorem dX8_worthOf_3 : decode cX8_worthOf 3 = .ok (.istore_n 3, 1) := by decide +kernel
theorem dX8_worthOf_4 : decode cX8_worthOf 4 = .ok (.iload_n 3, 1) := by decide +kernel
theorem dX8_worthOf_5 : decode cX8_worthOf 5 = .ok (.aload_n 0, 1) := by decide +kernel
theorem dX8_worthOf_6 : decode cX8_worthOf 6 = .ok (.getfield 151, 3) := by decide +kernel
theorem dX8_worthOf_9 : decode cX8_worthOf 9 = .ok (.if_icmp .ge 28, 3) := by decide +kernel
theorem dX8_worthOf_12 : decode cX8_worthOf 12 = .ok (.iload_n 2, 1) := by decide +kernel
theorem dX8_worthOf_13 : decode cX8_worthOf 13 = .ok (.iload_n 1, 1) := by decide +kernel
theorem dX8_worthOf_14 : decode cX8_worthOf 14 = .ok (.iload_n 3, 1) := by decide +kernel
theorem dX8_worthOf_15 : decode cX8_worthOf 15 = .ok (.ishr, 1) := by decide +kernel
theorem dX8_worthOf_16 : decode cX8_worthOf 16 = .ok (.iconst 1, 1) := by decide +kernel
theorem dX8_worthOf_17 : decode cX8_worthOf 17 = .ok (.iand, 1) := by decide +kernel
theorem dX8_worthOf_18 : decode cX8_worthOf 18 = .ok (.aload_n 0, 1) := by decide +kernel
theorem dX8_worthOf_19 : decode cX8_worthOf 19 = .ok (.getfield 29, 3) := by decide +kernel
theorem dX8_worthOf_22 : decode cX8_worthOf 22 = .ok (.iconst 2, 1) := by decide +kernel
theorem dX8_worthOf_23 : decode cX8_worthOf 23 = .ok (.iload_n 3, 1) := by decide +kernel
theorem dX8_worthOf_24 : decode cX8_worthOf 24 = .ok (.imul, 1) := by decide +kernel
theorem dX8_worthOf_25 : decode cX8_worthOf 25 = .ok (.iconst 1, 1) := by decide +kernel
theorem dX8_worthOf_26 : decode cX8_worthOf 26 = .ok (.iadd, 1) := by decide +kernel
theorem dX8_worthOf_27 : decode cX8_worthOf 27 = .ok (.iaload, 1) := by decide +kernel
theorem dX8_worthOf_28 : decode cX8_worthOf 28 = .ok (.imul, 1) := by decide +kernel
theorem dX8_worthOf_29 : decode cX8_worthOf 29 = .ok (.iadd, 1) := by decide +kernel
theorem dX8_worthOf_30 : decode cX8_worthOf 30 = .ok (.istore_n 2, 1) := by decide +kernel
theorem dX8_worthOf_31 : decode cX8_worthOf 31 = .ok (.iinc 3 1, 3) := by decide +kernel
theorem dX8_worthOf_34 : decode cX8_worthOf 34 = .ok (.goto (-30), 3) := by decide +kernel
theorem dX8_worthOf_37 : decode cX8_worthOf 37 = .ok (.iload_n 2, 1) := by decide +kernel
theorem dX8_worthOf_38 : decode cX8_worthOf 38 = .ok (.ireturn, 1) := by decide +kernel
theorem dX8_areTouching_0 : decode cX8_areTouching 0 = .ok (.iload_n 1, 1) := by decide +kernel
theorem dX8_areTouching_1 : decode cX8_areTouching 1 = .ok (.iload_n 2, 1) := by decide +kernel
theorem dX8_areTouching_2 : decode cX8_areTouching 2 = .ok (.if_icmp .eq 75, 3) := by decide +kernel
theorem dX8_areTouching_5 : decode cX8_areTouching 5 = .ok (.aload_n 0, 1) := by decide +kernel
theorem dX8_areTouching_6 : decode cX8_areTouching 6 = .ok (.getfield 62, 3) := by decide +kernel
theorem dX8_areTouching_9 : decode cX8_areTouching 9 = .ok (.bipush 10, 2) := by decide +kernel
theorem dX8_areTouching_11 : decode cX8_areTouching 11 = .ok (.iload_n 1, 1) := by decide +kernel
theorem dX8_areTouching_12 : decode cX8_areTouching 12 = .ok (.iadd, 1) := by decide +kernel
theorem dX8_areTouching_13 : decode cX8_areTouching 13 = .ok (.iaload, 1) := by decide +kernel
theorem dX8_areTouching_14 : decode cX8_areTouching 14 = .ok (.ifCond .le 63, 3) := by decide +kernel
theorem dX8_areTouching_17 : decode cX8_areTouching 17 = .ok (.aload_n 0, 1) := by decide +kernel
theorem dX8_areTouching_18 : decode cX8_areTouching 18 = .ok (.getfield 62, 3) := by decide +kernel
theorem dX8_areTouching_21 : decode cX8_areTouching 21 = .ok (.bipush 10, 2) := by decide +kernel
theorem dX8_areTouching_23 : decode cX8_areTouching 23 = .ok (.iload_n 2, 1) := by decide +kernel
theorem dX8_areTouching_24 : decode cX8_areTouching 24 = .ok (.iadd, 1) := by decide +kernel
theorem dX8_areTouching_25 : decode cX8_areTouching 25 = .ok (.iaload, 1) := by decide +kernel
theorem dX8_areTouching_26 : decode cX8_areTouching 26 = .ok (.ifCond .le 51, 3) := by decide +kernel
theorem dX8_areTouching_29 : decode cX8_areTouching 29 = .ok (.aload_n 0, 1) := by decide +kernel
theorem dX8_areTouching_30 : decode cX8_areTouching 30 = .ok (.getfield 62, 3) := by decide +kernel
theorem dX8_areTouching_33 : decode cX8_areTouching 33 = .ok (.bipush 15, 2) := by decide +kernel
theorem dX8_areTouching_35 : decode cX8_areTouching 35 = .ok (.iload_n 1, 1) := by decide +kernel
theorem dX8_areTouching_36 : decode cX8_areTouching 36 = .ok (.iadd, 1) := by decide +kernel
theorem dX8_areTouching_37 : decode cX8_areTouching 37 = .ok (.iaload, 1) := by decide +kernel
theorem dX8_areTouching_38 : decode cX8_areTouching 38 = .ok (.aload_n 0, 1) := by decide +kernel
theorem dX8_areTouching_39 : decode cX8_areTouching 39 = .ok (.getfield 62, 3) := by decide +kernel
theorem dX8_areTouching_42 : decode cX8_areTouching 42 = .ok (.bipush 15, 2) := by decide +kernel
theorem dX8_areTouching_44 : decode cX8_areTouching 44 = .ok (.iload_n 2, 1) := by decide +kernel
theorem dX8_areTouching_45 : decode cX8_areTouching 45 = .ok (.iadd, 1) := by decide +kernel
theorem dX8_areTouching_46 : decode cX8_areTouching 46 = .ok (.iaload, 1) := by decide +kernel
theorem dX8_areTouching_47 : decode cX8_areTouching 47 = .ok (.isub, 1) := by decide +kernel
theorem dX8_areTouching_48 : decode cX8_areTouching 48 = .ok (.invokestatic 321, 3) := by decide +kernel
theorem dX8_areTouching_51 : decode cX8_areTouching 51 = .ok (.aload_n 0, 1) := by decide +kernel
theorem dX8_areTouching_52 : decode cX8_areTouching 52 = .ok (.getfield 62, 3) := by decide +kernel
theorem dX8_areTouching_55 : decode cX8_areTouching 55 = .ok (.bipush 10, 2) := by decide +kernel
theorem dX8_areTouching_57 : decode cX8_areTouching 57 = .ok (.iload_n 1, 1) := by decide +kernel
theorem dX8_areTouching_58 : decode cX8_areTouching 58 = .ok (.iadd, 1) := by decide +kernel
theorem dX8_areTouching_59 : decode cX8_areTouching 59 = .ok (.iaload, 1) := by decide +kernel
theorem dX8_areTouching_60 : decode cX8_areTouching 60 = .ok (.aload_n 0, 1) := by decide +kernel
theorem dX8_areTouching_61 : decode cX8_areTouching 61 = .ok (.getfield 62, 3) := by decide +kernel
theorem dX8_areTouching_64 : decode cX8_areTouching 64 = .ok (.bipush 10, 2) := by decide +kernel
theorem dX8_areTouching_66 : decode cX8_areTouching 66 = .ok (.iload_n 2, 1) := by decide +kernel
theorem dX8_areTouching_67 : decode cX8_areTouching 67 = .ok (.iadd, 1) := by decide +kernel
theorem dX8_areTouching_68 : decode cX8_areTouching 68 = .ok (.iaload, 1) := by decide +kernel
theorem dX8_areTouching_69 : decode cX8_areTouching 69 = .ok (.iadd, 1) := by decide +kernel
theorem dX8_areTouching_70 : decode cX8_areTouching 70 = .ok (.if_icmp .gt 7, 3) := by decide +kernel
theorem dX8_areTouching_73 : decode cX8_areTouching 73 = .ok (.iconst 1, 1) := by decide +kernel
theorem dX8_areTouching_74 : decode cX8_areTouching 74 = .ok (.goto 4, 3) := by decide +kernel
theorem dX8_areTouching_77 : decode cX8_areTouching 77 = .ok (.iconst 0, 1) := by decide +kernel
theorem dX8_areTouching_78 : decode cX8_areTouching 78 = .ok (.ireturn, 1) := by decide +kernel
theorem dX8_touchingOf_0 : decode cX8_touchingOf 0 = .ok (.iconst 0, 1) := by decide +kernel
theorem dX8_touchingOf_1 : decode cX8_touchingOf 1 = .ok (.istore_n 2, 1) := by decide +kernel
theorem dX8_touchingOf_2 : decode cX8_touchingOf 2 = .ok (.iconst 0, 1) := by decide +kernel
theorem dX8_touchingOf_3 : decode cX8_touchingOf 3 = .ok (.istore_n 3, 1) := by decide +kernel
theorem dX8_touchingOf_4 : decode cX8_touchingOf 4 = .ok (.iload_n 3, 1) := by decide +kernel
theorem dX8_touchingOf_5 : decode cX8_touchingOf 5 = .ok (.aload_n 0, 1) := by decide +kernel
theorem dX8_touchingOf_6 : decode cX8_touchingOf 6 = .ok (.getfield 154, 3) := by decide +kernel
theorem dX8_touchingOf_9 : decode cX8_touchingOf 9 = .ok (.if_icmp .ge 28, 3) := by decide +kernel
theorem dX8_touchingOf_12 : decode cX8_touchingOf 12 = .ok (.iload_n 2, 1) := by decide +kernel
theorem dX8_touchingOf_13 : decode cX8_touchingOf 13 = .ok (.aload_n 0, 1) := by decide +kernel
theorem dX8_touchingOf_14 : decode cX8_touchingOf 14 = .ok (.iload_n 1, 1) := by decide +kernel
theorem dX8_touchingOf_15 : decode cX8_touchingOf 15 = .ok (.iload_n 3, 1) := by decide +kernel
theorem dX8_touchingOf_16 : decode cX8_touchingOf 16 = .ok (.invokevirtual 330, 3) := by decide +kernel
theorem dX8_touchingOf_19 : decode cX8_touchingOf 19 = .ok (.ifCond .eq 9, 3) := by decide +kernel
theorem dX8_touchingOf_22 : decode cX8_touchingOf 22 = .ok (.iconst 1, 1) := by decide +kernel
theorem dX8_touchingOf_23 : decode cX8_touchingOf 23 = .ok (.iload_n 3, 1) := by decide +kernel
theorem dX8_touchingOf_24 : decode cX8_touchingOf 24 = .ok (.ishl, 1) := by decide +kernel
theorem dX8_touchingOf_25 : decode cX8_touchingOf 25 = .ok (.goto 4, 3) := by decide +kernel
theorem dX8_touchingOf_28 : decode cX8_touchingOf 28 = .ok (.iconst 0, 1) := by decide +kernel
theorem dX8_touchingOf_29 : decode cX8_touchingOf 29 = .ok (.ior, 1) := by decide +kernel
theorem dX8_touchingOf_30 : decode cX8_touchingOf 30 = .ok (.istore_n 2, 1) := by decide +kernel
theorem dX8_touchingOf_31 : decode cX8_touchingOf 31 = .ok (.iinc 3 1, 3) := by decide +kernel
theorem dX8_touchingOf_34 : decode cX8_touchingOf 34 = .ok (.goto (-30), 3) := by decide +kernel
theorem dX8_touchingOf_37 : decode cX8_touchingOf 37 = .ok (.iload_n 2, 1) := by decide +kernel
theorem dX8_touchingOf_38 : decode cX8_touchingOf 38 = .ok (.ireturn, 1) := by decide +kernel
theorem dX8_ones_0 : decode cX8_ones 0 = .ok (.iconst 0, 1) := by decide +kernel
theorem dX8_ones_1 : decode cX8_ones 1 = .ok (.istore_n 1, 1) := by decide +kernel
theorem dX8_ones_2 : decode cX8_ones 2 = .ok (.iconst 0, 1) := by decide +kernel
theorem dX8_ones_3 : decode cX8_ones 3 = .ok (.istore_n 2, 1) := by decide +kernel
theorem dX8_ones_4 : decode cX8_ones 4 = .ok (.iload_n 2, 1) := by decide +kernel
theorem dX8_ones_5 : decode cX8_ones 5 = .ok (.bipush 8, 2) := by decide +kernel
theorem dX8_ones_7 : decode cX8_ones 7 = .ok (.if_icmp .ge 17, 3) := by decide +kernel
theorem dX8_ones_10 : decode cX8_ones 10 = .ok (.iload_n 1, 1) := by decide +kernel
theorem dX8_ones_11 : decode cX8_ones 11 = .ok (.iload_n 0, 1) := by decide +kernel
theorem dX8_ones_12 : decode cX8_ones 12 = .ok (.iload_n 2, 1) := by decide +kernel
theorem dX8_ones_13 : decode cX8_ones 13 = .ok (.ishr, 1) := by decide +kernel
theorem dX8_ones_14 : decode cX8_ones 14 = .ok (.iconst 1, 1) := by decide +kernel
theorem dX8_ones_15 : decode cX8_ones 15 = .ok (.iand, 1) := by decide +kernel
theorem dX8_ones_16 : decode cX8_ones 16 = .ok (.iadd, 1) := by decide +kernel
theorem dX8_ones_17 : decode cX8_ones 17 = .ok (.istore_n 1, 1) := by decide +kernel
theorem dX8_ones_18 : decode cX8_ones 18 = .ok (.iinc 2 1, 3) := by decide +kernel
theorem dX8_ones_21 : decode cX8_ones 21 = .ok (.goto (-17), 3) := by decide +kernel
theorem dX8_ones_24 : decode cX8_ones 24 = .ok (.iload_n 1, 1) := by decide +kernel
theorem dX8_ones_25 : decode cX8_ones 25 = .ok (.ireturn, 1) := by decide +kernel
theorem dX8_lifeOf_0 : decode cX8_lifeOf 0 = .ok (.aload_n 0, 1) := by decide +kernel
theorem dX8_lifeOf_1 : decode cX8_lifeOf 1 = .ok (.getfield 50, 3) := by decide +kernel
theorem dX8_lifeOf_4 : decode cX8_lifeOf 4 = .ok (.iconst 0, 1) := by decide +kernel
theorem dX8_lifeOf_5 : decode cX8_lifeOf 5 = .ok (.iload_n 1, 1) := by decide +kernel
theorem dX8_lifeOf_6 : decode cX8_lifeOf 6 = .ok (.iastore, 1) := by decide +kernel
theorem dX8_lifeOf_7 : decode cX8_lifeOf 7 = .ok (.aload_n 0, 1) := by decide +kernel
theorem dX8_lifeOf_8 : decode cX8_lifeOf 8 = .ok (.getfield 50, 3) := by decide +kernel
theorem dX8_lifeOf_11 : decode cX8_lifeOf 11 = .ok (.iconst 1, 1) := by decide +kernel
theorem dX8_lifeOf_12 : decode cX8_lifeOf 12 = .ok (.iload_n 2, 1) := by decide +kernel
theorem dX8_lifeOf_13 : decode cX8_lifeOf 13 = .ok (.iastore, 1) := by decide +kernel
theorem dX8_lifeOf_14 : decode cX8_lifeOf 14 = .ok (.aload_n 0, 1) := by decide +kernel
theorem dX8_lifeOf_15 : decode cX8_lifeOf 15 = .ok (.getfield 50, 3) := by decide +kernel
theorem dX8_lifeOf_18 : decode cX8_lifeOf 18 = .ok (.iconst 2, 1) := by decide +kernel
theorem dX8_lifeOf_19 : decode cX8_lifeOf 19 = .ok (.iload_n 3, 1) := by decide +kernel
theorem dX8_lifeOf_20 : decode cX8_lifeOf 20 = .ok (.iastore, 1) := by decide +kernel
theorem dX8_lifeOf_21 : decode cX8_lifeOf 21 = .ok (.aload_n 0, 1) := by decide +kernel
theorem dX8_lifeOf_22 : decode cX8_lifeOf 22 = .ok (.getfield 50, 3) := by decide +kernel
theorem dX8_lifeOf_25 : decode cX8_lifeOf 25 = .ok (.iconst 3, 1) := by decide +kernel
theorem dX8_lifeOf_26 : decode cX8_lifeOf 26 = .ok (.iload 4, 2) := by decide +kernel
theorem dX8_lifeOf_28 : decode cX8_lifeOf 28 = .ok (.iastore, 1) := by decide +kernel
theorem dX8_lifeOf_29 : decode cX8_lifeOf 29 = .ok (.aload_n 0, 1) := by decide +kernel
theorem dX8_lifeOf_30 : decode cX8_lifeOf 30 = .ok (.getfield 50, 3) := by decide +kernel
theorem dX8_lifeOf_33 : decode cX8_lifeOf 33 = .ok (.iconst 4, 1) := by decide +kernel
theorem dX8_lifeOf_34 : decode cX8_lifeOf 34 = .ok (.iload 5, 2) := by decide +kernel
theorem dX8_lifeOf_36 : decode cX8_lifeOf 36 = .ok (.iastore, 1) := by decide +kernel
theorem dX8_lifeOf_37 : decode cX8_lifeOf 37 = .ok (.aload_n 0, 1) := by decide +kernel
theorem dX8_lifeOf_38 : decode cX8_lifeOf 38 = .ok (.getfield 50, 3) := by decide +kernel
theorem dX8_lifeOf_41 : decode cX8_lifeOf 41 = .ok (.iconst 5, 1) := by decide +kernel
theorem dX8_lifeOf_42 : decode cX8_lifeOf 42 = .ok (.iload 6, 2) := by decide +kernel
theorem dX8_lifeOf_44 : decode cX8_lifeOf 44 = .ok (.iastore, 1) := by decide +kernel
theorem dX8_lifeOf_45 : decode cX8_lifeOf 45 = .ok (.aload_n 0, 1) := by decide +kernel
theorem dX8_lifeOf_46 : decode cX8_lifeOf 46 = .ok (.getfield 50, 3) := by decide +kernel
theorem dX8_lifeOf_49 : decode cX8_lifeOf 49 = .ok (.bipush 6, 2) := by decide +kernel
theorem dX8_lifeOf_51 : decode cX8_lifeOf 51 = .ok (.iload 7, 2) := by decide +kernel
theorem dX8_lifeOf_53 : decode cX8_lifeOf 53 = .ok (.iastore, 1) := by decide +kernel
theorem dX8_lifeOf_54 : decode cX8_lifeOf 54 = .ok (.aload_n 0, 1) := by decide +kernel
theorem dX8_lifeOf_55 : decode cX8_lifeOf 55 = .ok (.getfield 50, 3) := by decide +kernel
theorem dX8_lifeOf_58 : decode cX8_lifeOf 58 = .ok (.bipush 7, 2) := by decide +kernel
theorem dX8_lifeOf_60 : decode cX8_lifeOf 60 = .ok (.iload 8, 2) := by decide +kernel
theorem dX8_lifeOf_62 : decode cX8_lifeOf 62 = .ok (.iastore, 1) := by decide +kernel
theorem dX8_lifeOf_63 : decode cX8_lifeOf 63 = .ok (.aload_n 0, 1) := by decide +kernel
theorem dX8_lifeOf_64 : decode cX8_lifeOf 64 = .ok (.invokevirtual 333, 3) := by decide +kernel
theorem dX8_lifeOf_67 : decode cX8_lifeOf 67 = .ok (.ireturn, 1) := by decide +kernel
theorem dX8_lifeBy_0 : decode cX8_lifeBy 0 = .ok (.aload_n 0, 1) := by decide +kernel
theorem dX8_lifeBy_1 : decode cX8_lifeBy 1 = .ok (.aload_n 0, 1) := by decide +kernel
theorem dX8_lifeBy_2 : decode cX8_lifeBy 2 = .ok (.getfield 62, 3) := by decide +kernel
theorem dX8_lifeBy_5 : decode cX8_lifeBy 5 = .ok (.bipush 10, 2) := by decide +kernel
theorem dX8_lifeBy_7 : decode cX8_lifeBy 7 = .ok (.iload_n 1, 1) := by decide +kernel
theorem dX8_lifeBy_8 : decode cX8_lifeBy 8 = .ok (.iadd, 1) := by decide +kernel
theorem dX8_lifeBy_9 : decode cX8_lifeBy 9 = .ok (.iaload, 1) := by decide +kernel
theorem dX8_lifeBy_10 : decode cX8_lifeBy 10 = .ok (.aload_n 0, 1) := by decide +kernel
theorem dX8_lifeBy_11 : decode cX8_lifeBy 11 = .ok (.getfield 157, 3) := by decide +kernel
theorem dX8_lifeBy_14 : decode cX8_lifeBy 14 = .ok (.aload_n 0, 1) := by decide +kernel
theorem dX8_lifeBy_15 : decode cX8_lifeBy 15 = .ok (.iload_n 1, 1) := by decide +kernel
theorem dX8_lifeBy_16 : decode cX8_lifeBy 16 = .ok (.invokevirtual 336, 3) := by decide +kernel
theorem dX8_lifeBy_19 : decode cX8_lifeBy 19 = .ok (.invokestatic 339, 3) := by decide +kernel
theorem dX8_lifeBy_22 : decode cX8_lifeBy 22 = .ok (.aload_n 0, 1) := by decide +kernel
theorem dX8_lifeBy_23 : decode cX8_lifeBy 23 = .ok (.getfield 62, 3) := by decide +kernel
theorem dX8_lifeBy_26 : decode cX8_lifeBy 26 = .ok (.bipush 15, 2) := by decide +kernel
theorem dX8_lifeBy_28 : decode cX8_lifeBy 28 = .ok (.iload_n 1, 1) := by decide +kernel
theorem dX8_lifeBy_29 : decode cX8_lifeBy 29 = .ok (.iadd, 1) := by decide +kernel
theorem dX8_lifeBy_30 : decode cX8_lifeBy 30 = .ok (.iaload, 1) := by decide +kernel
theorem dX8_lifeBy_31 : decode cX8_lifeBy 31 = .ok (.aload_n 0, 1) := by decide +kernel
theorem dX8_lifeBy_32 : decode cX8_lifeBy 32 = .ok (.aload_n 0, 1) := by decide +kernel
theorem dX8_lifeBy_33 : decode cX8_lifeBy 33 = .ok (.iload_n 1, 1) := by decide +kernel
theorem dX8_lifeBy_34 : decode cX8_lifeBy 34 = .ok (.invokevirtual 342, 3) := by decide +kernel
theorem dX8_lifeBy_37 : decode cX8_lifeBy 37 = .ok (.invokevirtual 345, 3) := by decide +kernel
theorem dX8_lifeBy_40 : decode cX8_lifeBy 40 = .ok (.aload_n 0, 1) := by decide +kernel
theorem dX8_lifeBy_41 : decode cX8_lifeBy 41 = .ok (.getfield 62, 3) := by decide +kernel
theorem dX8_lifeBy_44 : decode cX8_lifeBy 44 = .ok (.bipush 27, 2) := by decide +kernel
theorem dX8_lifeBy_46 : decode cX8_lifeBy 46 = .ok (.iaload, 1) := by decide +kernel
theorem dX8_lifeBy_47 : decode cX8_lifeBy 47 = .ok (.aload_n 0, 1) := by decide +kernel
theorem dX8_lifeBy_48 : decode cX8_lifeBy 48 = .ok (.getfield 62, 3) := by decide +kernel
theorem dX8_lifeBy_51 : decode cX8_lifeBy 51 = .ok (.bipush 25, 2) := by decide +kernel
theorem dX8_lifeBy_53 : decode cX8_lifeBy 53 = .ok (.iaload, 1) := by decide +kernel
theorem dX8_lifeBy_54 : decode cX8_lifeBy 54 = .ok (.iload_n 1, 1) := by decide +kernel
theorem dX8_lifeBy_55 : decode cX8_lifeBy 55 = .ok (.invokevirtual 348, 3) := by decide +kernel
theorem dX8_lifeBy_58 : decode cX8_lifeBy 58 = .ok (.ireturn, 1) := by decide +kernel
theorem dX8_bursts_0 : decode cX8_bursts 0 = .ok (.aload_n 0, 1) := by decide +kernel
theorem dX8_bursts_1 : decode cX8_bursts 1 = .ok (.getfield 62, 3) := by decide +kernel
theorem dX8_bursts_4 : decode cX8_bursts 4 = .ok (.bipush 10, 2) := by decide +kernel
theorem dX8_bursts_6 : decode cX8_bursts 6 = .ok (.iload_n 1, 1) := by decide +kernel
theorem dX8_bursts_7 : decode cX8_bursts 7 = .ok (.iadd, 1) := by decide +kernel
theorem dX8_bursts_8 : decode cX8_bursts 8 = .ok (.iconst 0, 1) := by decide +kernel
theorem dX8_bursts_9 : decode cX8_bursts 9 = .ok (.iastore, 1) := by decide +kernel
theorem dX8_bursts_10 : decode cX8_bursts 10 = .ok (.aload_n 0, 1) := by decide +kernel
theorem dX8_bursts_11 : decode cX8_bursts 11 = .ok (.getfield 62, 3) := by decide +kernel
theorem dX8_bursts_14 : decode cX8_bursts 14 = .ok (.bipush 15, 2) := by decide +kernel
theorem dX8_bursts_16 : decode cX8_bursts 16 = .ok (.iload_n 1, 1) := by decide +kernel
theorem dX8_bursts_17 : decode cX8_bursts 17 = .ok (.iadd, 1) := by decide +kernel
theorem dX8_bursts_18 : decode cX8_bursts 18 = .ok (.iconst 0, 1) := by decide +kernel
theorem dX8_bursts_19 : decode cX8_bursts 19 = .ok (.iastore, 1) := by decide +kernel
theorem dX8_bursts_20 : decode cX8_bursts 20 = .ok (.aload_n 0, 1) := by decide +kernel
theorem dX8_bursts_21 : decode cX8_bursts 21 = .ok (.getfield 62, 3) := by decide +kernel
theorem dX8_bursts_24 : decode cX8_bursts 24 = .ok (.bipush 20, 2) := by decide +kernel
theorem dX8_bursts_26 : decode cX8_bursts 26 = .ok (.iload_n 1, 1) := by decide +kernel
theorem dX8_bursts_27 : decode cX8_bursts 27 = .ok (.iadd, 1) := by decide +kernel
theorem dX8_bursts_28 : decode cX8_bursts 28 = .ok (.iconst 0, 1) := by decide +kernel
theorem dX8_bursts_29 : decode cX8_bursts 29 = .ok (.iastore, 1) := by decide +kernel
theorem dX8_bursts_30 : decode cX8_bursts 30 = .ok (.aload_n 0, 1) := by decide +kernel
theorem dX8_bursts_31 : decode cX8_bursts 31 = .ok (.getfield 62, 3) := by decide +kernel
theorem dX8_bursts_34 : decode cX8_bursts 34 = .ok (.bipush 26, 2) := by decide +kernel
theorem dX8_bursts_36 : decode cX8_bursts 36 = .ok (.dup2, 1) := by decide +kernel
theorem dX8_bursts_37 : decode cX8_bursts 37 = .ok (.iaload, 1) := by decide +kernel
theorem dX8_bursts_38 : decode cX8_bursts 38 = .ok (.iconst 1, 1) := by decide +kernel
theorem dX8_bursts_39 : decode cX8_bursts 39 = .ok (.iadd, 1) := by decide +kernel
theorem dX8_bursts_40 : decode cX8_bursts 40 = .ok (.iastore, 1) := by decide +kernel
theorem dX8_bursts_41 : decode cX8_bursts 41 = .ok (.return_, 1) := by decide +kernel
theorem dX8_isBlown_0 : decode cX8_isBlown 0 = .ok (.aload_n 0, 1) := by decide +kernel
theorem dX8_isBlown_1 : decode cX8_isBlown 1 = .ok (.getfield 62, 3) := by decide +kernel
theorem dX8_isBlown_4 : decode cX8_isBlown 4 = .ok (.bipush 10, 2) := by decide +kernel
theorem dX8_isBlown_6 : decode cX8_isBlown 6 = .ok (.iload_n 1, 1) := by decide +kernel
theorem dX8_isBlown_7 : decode cX8_isBlown 7 = .ok (.iadd, 1) := by decide +kernel
theorem dX8_isBlown_8 : decode cX8_isBlown 8 = .ok (.iaload, 1) := by decide +kernel
theorem dX8_isBlown_9 : decode cX8_isBlown 9 = .ok (.ifCond .gt 19, 3) := by decide +kernel
theorem dX8_isBlown_12 : decode cX8_isBlown 12 = .ok (.aload_n 0, 1) := by decide +kernel
theorem dX8_isBlown_13 : decode cX8_isBlown 13 = .ok (.getfield 62, 3) := by decide +kernel
theorem dX8_isBlown_16 : decode cX8_isBlown 16 = .ok (.iconst 0, 1) := by decide +kernel
theorem dX8_isBlown_17 : decode cX8_isBlown 17 = .ok (.iload_n 1, 1) := by decide +kernel
theorem dX8_isBlown_18 : decode cX8_isBlown 18 = .ok (.iadd, 1) := by decide +kernel
theorem dX8_isBlown_19 : decode cX8_isBlown 19 = .ok (.iaload, 1) := by decide +kernel
theorem dX8_isBlown_20 : decode cX8_isBlown 20 = .ok (.iconst 1, 1) := by decide +kernel
theorem dX8_isBlown_21 : decode cX8_isBlown 21 = .ok (.iload_n 2, 1) := by decide +kernel
theorem dX8_isBlown_22 : decode cX8_isBlown 22 = .ok (.iconst 5, 1) := by decide +kernel
theorem dX8_isBlown_23 : decode cX8_isBlown 23 = .ok (.idiv, 1) := by decide +kernel
theorem dX8_isBlown_24 : decode cX8_isBlown 24 = .ok (.iadd, 1) := by decide +kernel
theorem dX8_isBlown_25 : decode cX8_isBlown 25 = .ok (.if_icmp .ge 5, 3) := by decide +kernel
theorem dX8_isBlown_28 : decode cX8_isBlown 28 = .ok (.iconst 0, 1) := by decide +kernel
theorem dX8_isBlown_29 : decode cX8_isBlown 29 = .ok (.ireturn, 1) := by decide +kernel
theorem dX8_isBlown_30 : decode cX8_isBlown 30 = .ok (.aload_n 0, 1) := by decide +kernel
theorem dX8_isBlown_31 : decode cX8_isBlown 31 = .ok (.getfield 62, 3) := by decide +kernel
theorem dX8_isBlown_34 : decode cX8_isBlown 34 = .ok (.iconst 0, 1) := by decide +kernel
theorem dX8_isBlown_35 : decode cX8_isBlown 35 = .ok (.iload_n 1, 1) := by decide +kernel
theorem dX8_isBlown_36 : decode cX8_isBlown 36 = .ok (.iadd, 1) := by decide +kernel
theorem dX8_isBlown_37 : decode cX8_isBlown 37 = .ok (.dup2, 1) := by decide +kernel
theorem dX8_isBlown_38 : decode cX8_isBlown 38 = .ok (.iaload, 1) := by decide +kernel
theorem dX8_isBlown_39 : decode cX8_isBlown 39 = .ok (.iconst 1, 1) := by decide +kernel
theorem dX8_isBlown_40 : decode cX8_isBlown 40 = .ok (.iload_n 2, 1) := by decide +kernel
theorem dX8_isBlown_41 : decode cX8_isBlown 41 = .ok (.iconst 5, 1) := by decide +kernel
theorem dX8_isBlown_42 : decode cX8_isBlown 42 = .ok (.idiv, 1) := by decide +kernel
theorem dX8_isBlown_43 : decode cX8_isBlown 43 = .ok (.iadd, 1) := by decide +kernel
theorem dX8_isBlown_44 : decode cX8_isBlown 44 = .ok (.isub, 1) := by decide +kernel
theorem dX8_isBlown_45 : decode cX8_isBlown 45 = .ok (.iastore, 1) := by decide +kernel
theorem dX8_isBlown_46 : decode cX8_isBlown 46 = .ok (.aload_n 0, 1) := by decide +kernel
theorem dX8_isBlown_47 : decode cX8_isBlown 47 = .ok (.getfield 62, 3) := by decide +kernel
theorem dX8_isBlown_50 : decode cX8_isBlown 50 = .ok (.bipush 10, 2) := by decide +kernel
theorem dX8_isBlown_52 : decode cX8_isBlown 52 = .ok (.iload_n 1, 1) := by decide +kernel
theorem dX8_isBlown_53 : decode cX8_isBlown 53 = .ok (.iadd, 1) := by decide +kernel
theorem dX8_isBlown_54 : decode cX8_isBlown 54 = .ok (.iload_n 2, 1) := by decide +kernel
theorem dX8_isBlown_55 : decode cX8_isBlown 55 = .ok (.iastore, 1) := by decide +kernel
theorem dX8_isBlown_56 : decode cX8_isBlown 56 = .ok (.aload_n 0, 1) := by decide +kernel
theorem dX8_isBlown_57 : decode cX8_isBlown 57 = .ok (.getfield 62, 3) := by decide +kernel
theorem dX8_isBlown_60 : decode cX8_isBlown 60 = .ok (.bipush 15, 2) := by decide +kernel
theorem dX8_isBlown_62 : decode cX8_isBlown 62 = .ok (.iload_n 1, 1) := by decide +kernel
theorem dX8_isBlown_63 : decode cX8_isBlown 63 = .ok (.iadd, 1) := by decide +kernel
theorem dX8_isBlown_64 : decode cX8_isBlown 64 = .ok (.aload_n 0, 1) := by decide +kernel
theorem dX8_isBlown_65 : decode cX8_isBlown 65 = .ok (.getfield 62, 3) := by decide +kernel
theorem dX8_isBlown_68 : decode cX8_isBlown 68 = .ok (.iconst 5, 1) := by decide +kernel
theorem dX8_isBlown_69 : decode cX8_isBlown 69 = .ok (.iload_n 1, 1) := by decide +kernel
theorem dX8_isBlown_70 : decode cX8_isBlown 70 = .ok (.iadd, 1) := by decide +kernel
theorem dX8_isBlown_71 : decode cX8_isBlown 71 = .ok (.iaload, 1) := by decide +kernel
theorem dX8_isBlown_72 : decode cX8_isBlown 72 = .ok (.iastore, 1) := by decide +kernel
theorem dX8_isBlown_73 : decode cX8_isBlown 73 = .ok (.aload_n 0, 1) := by decide +kernel
theorem dX8_isBlown_74 : decode cX8_isBlown 74 = .ok (.getfield 62, 3) := by decide +kernel
theorem dX8_isBlown_77 : decode cX8_isBlown 77 = .ok (.bipush 20, 2) := by decide +kernel
theorem dX8_isBlown_79 : decode cX8_isBlown 79 = .ok (.iload_n 1, 1) := by decide +kernel
theorem dX8_isBlown_80 : decode cX8_isBlown 80 = .ok (.iadd, 1) := by decide +kernel
theorem dX8_isBlown_81 : decode cX8_isBlown 81 = .ok (.iconst 0, 1) := by decide +kernel
theorem dX8_isBlown_82 : decode cX8_isBlown 82 = .ok (.iastore, 1) := by decide +kernel
theorem dX8_isBlown_83 : decode cX8_isBlown 83 = .ok (.aload_n 0, 1) := by decide +kernel
theorem dX8_isBlown_84 : decode cX8_isBlown 84 = .ok (.getfield 62, 3) := by decide +kernel
theorem dX8_isBlown_87 : decode cX8_isBlown 87 = .ok (.bipush 25, 2) := by decide +kernel
theorem dX8_isBlown_89 : decode cX8_isBlown 89 = .ok (.dup2, 1) := by decide +kernel
theorem dX8_isBlown_90 : decode cX8_isBlown 90 = .ok (.iaload, 1) := by decide +kernel
theorem dX8_isBlown_91 : decode cX8_isBlown 91 = .ok (.iconst 1, 1) := by decide +kernel
theorem dX8_isBlown_92 : decode cX8_isBlown 92 = .ok (.iadd, 1) := by decide +kernel
theorem dX8_isBlown_93 : decode cX8_isBlown 93 = .ok (.iastore, 1) := by decide +kernel
theorem dX8_isBlown_94 : decode cX8_isBlown 94 = .ok (.iconst 1, 1) := by decide +kernel
theorem dX8_isBlown_95 : decode cX8_isBlown 95 = .ok (.ireturn, 1) := by decide +kernel
theorem dX8_withBubbles_0 : decode cX8_withBubbles 0 = .ok (.iconst 0, 1) := by decide +kernel
theorem dX8_withBubbles_1 : decode cX8_withBubbles 1 = .ok (.istore_n 1, 1) := by decide +kernel
theorem dX8_withBubbles_2 : decode cX8_withBubbles 2 = .ok (.iconst 0, 1) := by decide +kernel
theorem dX8_withBubbles_3 : decode cX8_withBubbles 3 = .ok (.istore_n 2, 1) := by decide +kernel
theorem dX8_withBubbles_4 : decode cX8_withBubbles 4 = .ok (.iload_n 2, 1) := by decide +kernel
theorem dX8_withBubbles_5 : decode cX8_withBubbles 5 = .ok (.aload_n 0, 1) := by decide +kernel
theorem dX8_withBubbles_6 : decode cX8_withBubbles 6 = .ok (.getfield 154, 3) := by decide +kernel
theorem dX8_withBubbles_9 : decode cX8_withBubbles 9 = .ok (.if_icmp .ge 31, 3) := by decide +kernel
theorem dX8_withBubbles_12 : decode cX8_withBubbles 12 = .ok (.iload_n 1, 1) := by decide +kernel
theorem dX8_withBubbles_13 : decode cX8_withBubbles 13 = .ok (.aload_n 0, 1) := by decide +kernel
theorem dX8_withBubbles_14 : decode cX8_withBubbles 14 = .ok (.getfield 62, 3) := by decide +kernel
theorem dX8_withBubbles_17 : decode cX8_withBubbles 17 = .ok (.bipush 10, 2) := by decide +kernel
theorem dX8_withBubbles_19 : decode cX8_withBubbles 19 = .ok (.iload_n 2, 1) := by decide +kernel
theorem dX8_withBubbles_20 : decode cX8_withBubbles 20 = .ok (.iadd, 1) := by decide +kernel
theorem dX8_withBubbles_21 : decode cX8_withBubbles 21 = .ok (.iaload, 1) := by decide +kernel
theorem dX8_withBubbles_22 : decode cX8_withBubbles 22 = .ok (.ifCond .le 9, 3) := by decide +kernel
theorem dX8_withBubbles_25 : decode cX8_withBubbles 25 = .ok (.iconst 1, 1) := by decide +kernel
theorem dX8_withBubbles_26 : decode cX8_withBubbles 26 = .ok (.iload_n 2, 1) := by decide +kernel
theorem dX8_withBubbles_27 : decode cX8_withBubbles 27 = .ok (.ishl, 1) := by decide +kernel
theorem dX8_withBubbles_28 : decode cX8_withBubbles 28 = .ok (.goto 4, 3) := by decide +kernel
theorem dX8_withBubbles_31 : decode cX8_withBubbles 31 = .ok (.iconst 0, 1) := by decide +kernel
theorem dX8_withBubbles_32 : decode cX8_withBubbles 32 = .ok (.ior, 1) := by decide +kernel
theorem dX8_withBubbles_33 : decode cX8_withBubbles 33 = .ok (.istore_n 1, 1) := by decide +kernel
theorem dX8_withBubbles_34 : decode cX8_withBubbles 34 = .ok (.iinc 2 1, 3) := by decide +kernel
theorem dX8_withBubbles_37 : decode cX8_withBubbles 37 = .ok (.goto (-33), 3) := by decide +kernel
theorem dX8_withBubbles_40 : decode cX8_withBubbles 40 = .ok (.iload_n 1, 1) := by decide +kernel
theorem dX8_withBubbles_41 : decode cX8_withBubbles 41 = .ok (.ireturn, 1) := by decide +kernel
theorem dX8_isOut_0 : decode cX8_isOut 0 = .ok (.aload_n 0, 1) := by decide +kernel
theorem dX8_isOut_1 : decode cX8_isOut 1 = .ok (.getfield 62, 3) := by decide +kernel
theorem dX8_isOut_4 : decode cX8_isOut 4 = .ok (.bipush 10, 2) := by decide +kernel
theorem dX8_isOut_6 : decode cX8_isOut 6 = .ok (.iload_n 1, 1) := by decide +kernel
theorem dX8_isOut_7 : decode cX8_isOut 7 = .ok (.iadd, 1) := by decide +kernel
theorem dX8_isOut_8 : decode cX8_isOut 8 = .ok (.iaload, 1) := by decide +kernel
theorem dX8_isOut_9 : decode cX8_isOut 9 = .ok (.ifCond .le 27, 3) := by decide +kernel
theorem dX8_isOut_12 : decode cX8_isOut 12 = .ok (.aload_n 0, 1) := by decide +kernel
theorem dX8_isOut_13 : decode cX8_isOut 13 = .ok (.getfield 62, 3) := by decide +kernel
theorem dX8_isOut_16 : decode cX8_isOut 16 = .ok (.bipush 15, 2) := by decide +kernel
theorem dX8_isOut_18 : decode cX8_isOut 18 = .ok (.iload_n 1, 1) := by decide +kernel
theorem dX8_isOut_19 : decode cX8_isOut 19 = .ok (.iadd, 1) := by decide +kernel
theorem dX8_isOut_20 : decode cX8_isOut 20 = .ok (.iaload, 1) := by decide +kernel
theorem dX8_isOut_21 : decode cX8_isOut 21 = .ok (.iload_n 2, 1) := by decide +kernel
theorem dX8_isOut_22 : decode cX8_isOut 22 = .ok (.iadd, 1) := by decide +kernel
theorem dX8_isOut_23 : decode cX8_isOut 23 = .ok (.iconst 0, 1) := by decide +kernel
theorem dX8_isOut_24 : decode cX8_isOut 24 = .ok (.bipush 99, 2) := by decide +kernel
theorem dX8_isOut_26 : decode cX8_isOut 26 = .ok (.invokestatic 352, 3) := by decide +kernel
theorem dX8_isOut_29 : decode cX8_isOut 29 = .ok (.ifCond .ne 7, 3) := by decide +kernel
theorem dX8_isOut_32 : decode cX8_isOut 32 = .ok (.iconst 1, 1) := by decide +kernel
theorem dX8_isOut_33 : decode cX8_isOut 33 = .ok (.goto 4, 3) := by decide +kernel
theorem dX8_isOut_36 : decode cX8_isOut 36 = .ok (.iconst 0, 1) := by decide +kernel
theorem dX8_isOut_37 : decode cX8_isOut 37 = .ok (.ireturn, 1) := by decide +kernel
theorem dX8_isDriven_0 : decode cX8_isDriven 0 = .ok (.aload_n 0, 1) := by decide +kernel
theorem dX8_isDriven_1 : decode cX8_isDriven 1 = .ok (.invokevirtual 356, 3) := by decide +kernel
theorem dX8_isDriven_4 : decode cX8_isDriven 4 = .ok (.istore_n 2, 1) := by decide +kernel
theorem dX8_isDriven_5 : decode cX8_isDriven 5 = .ok (.iconst 0, 1) := by decide +kernel
theorem dX8_isDriven_6 : decode cX8_isDriven 6 = .ok (.istore_n 3, 1) := by decide +kernel
theorem dX8_isDriven_7 : decode cX8_isDriven 7 = .ok (.iload_n 3, 1) := by decide +kernel
theorem dX8_isDriven_8 : decode cX8_isDriven 8 = .ok (.aload_n 0, 1) := by decide +kernel
theorem dX8_isDriven_9 : decode cX8_isDriven 9 = .ok (.getfield 154, 3) := by decide +kernel
theorem dX8_isDriven_12 : decode cX8_isDriven 12 = .ok (.if_icmp .ge 50, 3) := by decide +kernel
theorem dX8_isDriven_15 : decode cX8_isDriven 15 = .ok (.iload_n 2, 1) := by decide +kernel
theorem dX8_isDriven_16 : decode cX8_isDriven 16 = .ok (.iload_n 3, 1) := by decide +kernel
theorem dX8_isDriven_17 : decode cX8_isDriven 17 = .ok (.ishr, 1) := by decide +kernel
theorem dX8_isDriven_18 : decode cX8_isDriven 18 = .ok (.iconst 1, 1) := by decide +kernel
theorem dX8_isDriven_19 : decode cX8_isDriven 19 = .ok (.iand, 1) := by decide +kernel
theorem dX8_isDriven_20 : decode cX8_isDriven 20 = .ok (.ifCond .ne 6, 3) := by decide +kernel
theorem dX8_isDriven_23 : decode cX8_isDriven 23 = .ok (.goto 33, 3) := by decide +kernel
theorem dX8_isDriven_26 : decode cX8_isDriven 26 = .ok (.aload_n 0, 1) := by decide +kernel
theorem dX8_isDriven_27 : decode cX8_isDriven 27 = .ok (.iload_n 3, 1) := by decide +kernel
theorem dX8_isDriven_28 : decode cX8_isDriven 28 = .ok (.iload_n 1, 1) := by decide +kernel
theorem dX8_isDriven_29 : decode cX8_isDriven 29 = .ok (.invokevirtual 359, 3) := by decide +kernel
theorem dX8_isDriven_32 : decode cX8_isDriven 32 = .ok (.ifCond .eq 11, 3) := by decide +kernel
theorem dX8_isDriven_35 : decode cX8_isDriven 35 = .ok (.aload_n 0, 1) := by decide +kernel
theorem dX8_isDriven_36 : decode cX8_isDriven 36 = .ok (.iload_n 3, 1) := by decide +kernel
theorem dX8_isDriven_37 : decode cX8_isDriven 37 = .ok (.invokevirtual 362, 3) := by decide +kernel
theorem dX8_isDriven_40 : decode cX8_isDriven 40 = .ok (.goto 16, 3) := by decide +kernel
theorem dX8_isDriven_43 : decode cX8_isDriven 43 = .ok (.aload_n 0, 1) := by decide +kernel
theorem dX8_isDriven_44 : decode cX8_isDriven 44 = .ok (.getfield 62, 3) := by decide +kernel
theorem dX8_isDriven_47 : decode cX8_isDriven 47 = .ok (.bipush 15, 2) := by decide +kernel
theorem dX8_isDriven_49 : decode cX8_isDriven 49 = .ok (.iload_n 3, 1) := by decide +kernel
theorem dX8_isDriven_50 : decode cX8_isDriven 50 = .ok (.iadd, 1) := by decide +kernel
theorem dX8_isDriven_51 : decode cX8_isDriven 51 = .ok (.dup2, 1) := by decide +kernel
theorem dX8_isDriven_52 : decode cX8_isDriven 52 = .ok (.iaload, 1) := by decide +kernel
theorem dX8_isDriven_53 : decode cX8_isDriven 53 = .ok (.iload_n 1, 1) := by decide +kernel
theorem dX8_isDriven_54 : decode cX8_isDriven 54 = .ok (.iadd, 1) := by decide +kernel
theorem dX8_isDriven_55 : decode cX8_isDriven 55 = .ok (.iastore, 1) := by decide +kernel
theorem dX8_isDriven_56 : decode cX8_isDriven 56 = .ok (.iinc 3 1, 3) := by decide +kernel
theorem dX8_isDriven_59 : decode cX8_isDriven 59 = .ok (.goto (-52), 3) := by decide +kernel
theorem dX8_isDriven_62 : decode cX8_isDriven 62 = .ok (.iload_n 2, 1) := by decide +kernel
theorem dX8_isDriven_63 : decode cX8_isDriven 63 = .ok (.ifCond .eq 7, 3) := by decide +kernel
theorem dX8_isDriven_66 : decode cX8_isDriven 66 = .ok (.iconst 1, 1) := by decide +kernel
theorem dX8_isDriven_67 : decode cX8_isDriven 67 = .ok (.goto 4, 3) := by decide +kernel
theorem dX8_isDriven_70 : decode cX8_isDriven 70 = .ok (.iconst 0, 1) := by decide +kernel
theorem dX8_isDriven_71 : decode cX8_isDriven 71 = .ok (.ireturn, 1) := by decide +kernel
theorem dX8_isSold_0 : decode cX8_isSold 0 = .ok (.iload_n 1, 1) := by decide +kernel
theorem dX8_isSold_1 : decode cX8_isSold 1 = .ok (.iload_n 2, 1) := by decide +kernel
theorem dX8_isSold_2 : decode cX8_isSold 2 = .ok (.if_icmp .eq 39, 3) := by decide +kernel
theorem dX8_isSold_5 : decode cX8_isSold 5 = .ok (.aload_n 0, 1) := by decide +kernel
theorem dX8_isSold_6 : decode cX8_isSold 6 = .ok (.getfield 62, 3) := by decide +kernel
theorem dX8_isSold_9 : decode cX8_isSold 9 = .ok (.bipush 10, 2) := by decide +kernel
theorem dX8_isSold_11 : decode cX8_isSold 11 = .ok (.iload_n 1, 1) := by decide +kernel
theorem dX8_isSold_12 : decode cX8_isSold 12 = .ok (.iadd, 1) := by decide +kernel
theorem dX8_isSold_13 : decode cX8_isSold 13 = .ok (.iaload, 1) := by decide +kernel
theorem dX8_isSold_14 : decode cX8_isSold 14 = .ok (.ifCond .eq 27, 3) := by decide +kernel
theorem dX8_isSold_17 : decode cX8_isSold 17 = .ok (.aload_n 0, 1) := by decide +kernel
theorem dX8_isSold_18 : decode cX8_isSold 18 = .ok (.getfield 62, 3) := by decide +kernel
theorem dX8_isSold_21 : decode cX8_isSold 21 = .ok (.bipush 10, 2) := by decide +kernel
theorem dX8_isSold_23 : decode cX8_isSold 23 = .ok (.iload_n 2, 1) := by decide +kernel
theorem dX8_isSold_24 : decode cX8_isSold 24 = .ok (.iadd, 1) := by decide +kernel
theorem dX8_isSold_25 : decode cX8_isSold 25 = .ok (.iaload, 1) := by decide +kernel
theorem dX8_isSold_26 : decode cX8_isSold 26 = .ok (.ifCond .gt 15, 3) := by decide +kernel
theorem dX8_isSold_29 : decode cX8_isSold 29 = .ok (.aload_n 0, 1) := by decide +kernel
theorem dX8_isSold_30 : decode cX8_isSold 30 = .ok (.getfield 62, 3) := by decide +kernel
theorem dX8_isSold_33 : decode cX8_isSold 33 = .ok (.iconst 0, 1) := by decide +kernel
theorem dX8_isSold_34 : decode cX8_isSold 34 = .ok (.iload_n 2, 1) := by decide +kernel
theorem dX8_isSold_35 : decode cX8_isSold 35 = .ok (.iadd, 1) := by decide +kernel
theorem dX8_isSold_36 : decode cX8_isSold 36 = .ok (.iaload, 1) := by decide +kernel
theorem dX8_isSold_37 : decode cX8_isSold 37 = .ok (.iload_n 3, 1) := by decide +kernel
theorem dX8_isSold_38 : decode cX8_isSold 38 = .ok (.if_icmp .ge 5, 3) := by decide +kernel
theorem dX8_isSold_41 : decode cX8_isSold 41 = .ok (.iconst 0, 1) := by decide +kernel
theorem dX8_isSold_42 : decode cX8_isSold 42 = .ok (.ireturn, 1) := by decide +kernel
theorem dX8_isSold_43 : decode cX8_isSold 43 = .ok (.aload_n 0, 1) := by decide +kernel
theorem dX8_isSold_44 : decode cX8_isSold 44 = .ok (.getfield 62, 3) := by decide +kernel
theorem dX8_isSold_47 : decode cX8_isSold 47 = .ok (.iconst 0, 1) := by decide +kernel
theorem dX8_isSold_48 : decode cX8_isSold 48 = .ok (.iload_n 2, 1) := by decide +kernel
theorem dX8_isSold_49 : decode cX8_isSold 49 = .ok (.iadd, 1) := by decide +kernel
theorem dX8_isSold_50 : decode cX8_isSold 50 = .ok (.dup2, 1) := by decide +kernel
theorem dX8_isSold_51 : decode cX8_isSold 51 = .ok (.iaload, 1) := by decide +kernel
theorem dX8_isSold_52 : decode cX8_isSold 52 = .ok (.iload_n 3, 1) := by decide +kernel
theorem dX8_isSold_53 : decode cX8_isSold 53 = .ok (.isub, 1) := by decide +kernel
theorem dX8_isSold_54 : decode cX8_isSold 54 = .ok (.iastore, 1) := by decide +kernel
theorem dX8_isSold_55 : decode cX8_isSold 55 = .ok (.aload_n 0, 1) := by decide +kernel
theorem dX8_isSold_56 : decode cX8_isSold 56 = .ok (.getfield 62, 3) := by decide +kernel
theorem dX8_isSold_59 : decode cX8_isSold 59 = .ok (.iconst 0, 1) := by decide +kernel
theorem dX8_isSold_60 : decode cX8_isSold 60 = .ok (.iload_n 1, 1) := by decide +kernel
theorem dX8_isSold_61 : decode cX8_isSold 61 = .ok (.iadd, 1) := by decide +kernel
theorem dX8_isSold_62 : decode cX8_isSold 62 = .ok (.dup2, 1) := by decide +kernel
theorem dX8_isSold_63 : decode cX8_isSold 63 = .ok (.iaload, 1) := by decide +kernel
theorem dX8_isSold_64 : decode cX8_isSold 64 = .ok (.iload_n 3, 1) := by decide +kernel
theorem dX8_isSold_65 : decode cX8_isSold 65 = .ok (.iadd, 1) := by decide +kernel
theorem dX8_isSold_66 : decode cX8_isSold 66 = .ok (.iastore, 1) := by decide +kernel
theorem dX8_isSold_67 : decode cX8_isSold 67 = .ok (.bipush 10, 2) := by decide +kernel
theorem dX8_isSold_69 : decode cX8_isSold 69 = .ok (.istore 4, 2) := by decide +kernel
theorem dX8_isSold_71 : decode cX8_isSold 71 = .ok (.iload 4, 2) := by decide +kernel
theorem dX8_isSold_73 : decode cX8_isSold 73 = .ok (.bipush 20, 2) := by decide +kernel
theorem dX8_isSold_75 : decode cX8_isSold 75 = .ok (.if_icmp .gt 37, 3) := by decide +kernel
theorem dX8_isSold_78 : decode cX8_isSold 78 = .ok (.aload_n 0, 1) := by decide +kernel
theorem dX8_isSold_79 : decode cX8_isSold 79 = .ok (.getfield 62, 3) := by decide +kernel
theorem dX8_isSold_82 : decode cX8_isSold 82 = .ok (.iload 4, 2) := by decide +kernel
theorem dX8_isSold_84 : decode cX8_isSold 84 = .ok (.iload_n 2, 1) := by decide +kernel
theorem dX8_isSold_85 : decode cX8_isSold 85 = .ok (.iadd, 1) := by decide +kernel
theorem dX8_isSold_86 : decode cX8_isSold 86 = .ok (.aload_n 0, 1) := by decide +kernel
theorem dX8_isSold_87 : decode cX8_isSold 87 = .ok (.getfield 62, 3) := by decide +kernel
theorem dX8_isSold_90 : decode cX8_isSold 90 = .ok (.iload 4, 2) := by decide +kernel
theorem dX8_isSold_92 : decode cX8_isSold 92 = .ok (.iload_n 1, 1) := by decide +kernel
theorem dX8_isSold_93 : decode cX8_isSold 93 = .ok (.iadd, 1) := by decide +kernel
theorem dX8_isSold_94 : decode cX8_isSold 94 = .ok (.iaload, 1) := by decide +kernel
theorem dX8_isSold_95 : decode cX8_isSold 95 = .ok (.iastore, 1) := by decide +kernel
theorem dX8_isSold_96 : decode cX8_isSold 96 = .ok (.aload_n 0, 1) := by decide +kernel
theorem dX8_isSold_97 : decode cX8_isSold 97 = .ok (.getfield 62, 3) := by decide +kernel
theorem dX8_isSold_100 : decode cX8_isSold 100 = .ok (.iload 4, 2) := by decide +kernel
theorem dX8_isSold_102 : decode cX8_isSold 102 = .ok (.iload_n 1, 1) := by decide +kernel
theorem dX8_isSold_103 : decode cX8_isSold 103 = .ok (.iadd, 1) := by decide +kernel
theorem dX8_isSold_104 : decode cX8_isSold 104 = .ok (.iconst 0, 1) := by decide +kernel
theorem dX8_isSold_105 : decode cX8_isSold 105 = .ok (.iastore, 1) := by decide +kernel
theorem dX8_isSold_106 : decode cX8_isSold 106 = .ok (.iinc 4 5, 3) := by decide +kernel
theorem dX8_isSold_109 : decode cX8_isSold 109 = .ok (.goto (-38), 3) := by decide +kernel
theorem dX8_isSold_112 : decode cX8_isSold 112 = .ok (.iconst 1, 1) := by decide +kernel
theorem dX8_isSold_113 : decode cX8_isSold 113 = .ok (.ireturn, 1) := by decide +kernel
theorem dX8_mayKeep_0 : decode cX8_mayKeep 0 = .ok (.aload_n 0, 1) := by decide +kernel
theorem dX8_mayKeep_1 : decode cX8_mayKeep 1 = .ok (.getfield 62, 3) := by decide +kernel
theorem dX8_mayKeep_4 : decode cX8_mayKeep 4 = .ok (.bipush 10, 2) := by decide +kernel
theorem dX8_mayKeep_6 : decode cX8_mayKeep 6 = .ok (.iload_n 1, 1) := by decide +kernel
theorem dX8_mayKeep_7 : decode cX8_mayKeep 7 = .ok (.iadd, 1) := by decide +kernel
theorem dX8_mayKeep_8 : decode cX8_mayKeep 8 = .ok (.iaload, 1) := by decide +kernel
theorem dX8_mayKeep_9 : decode cX8_mayKeep 9 = .ok (.ifCond .le 52, 3) := by decide +kernel
theorem dX8_mayKeep_12 : decode cX8_mayKeep 12 = .ok (.aload_n 0, 1) := by decide +kernel
theorem dX8_mayKeep_13 : decode cX8_mayKeep 13 = .ok (.getfield 62, 3) := by decide +kernel
theorem dX8_mayKeep_16 : decode cX8_mayKeep 16 = .ok (.bipush 20, 2) := by decide +kernel
theorem dX8_mayKeep_18 : decode cX8_mayKeep 18 = .ok (.iload_n 1, 1) := by decide +kernel
theorem dX8_mayKeep_19 : decode cX8_mayKeep 19 = .ok (.iadd, 1) := by decide +kernel
theorem dX8_mayKeep_20 : decode cX8_mayKeep 20 = .ok (.iaload, 1) := by decide +kernel
theorem dX8_mayKeep_21 : decode cX8_mayKeep 21 = .ok (.ifCond .le 40, 3) := by decide +kernel
theorem dX8_mayKeep_24 : decode cX8_mayKeep 24 = .ok (.aload_n 0, 1) := by decide +kernel
theorem dX8_mayKeep_25 : decode cX8_mayKeep 25 = .ok (.getfield 62, 3) := by decide +kernel
theorem dX8_mayKeep_28 : decode cX8_mayKeep 28 = .ok (.iconst 5, 1) := by decide +kernel
theorem dX8_mayKeep_29 : decode cX8_mayKeep 29 = .ok (.iload_n 1, 1) := by decide +kernel
theorem dX8_mayKeep_30 : decode cX8_mayKeep 30 = .ok (.iadd, 1) := by decide +kernel
theorem dX8_mayKeep_31 : decode cX8_mayKeep 31 = .ok (.iaload, 1) := by decide +kernel
theorem dX8_mayKeep_32 : decode cX8_mayKeep 32 = .ok (.aload_n 0, 1) := by decide +kernel
theorem dX8_mayKeep_33 : decode cX8_mayKeep 33 = .ok (.getfield 62, 3) := by decide +kernel
theorem dX8_mayKeep_36 : decode cX8_mayKeep 36 = .ok (.bipush 15, 2) := by decide +kernel
theorem dX8_mayKeep_38 : decode cX8_mayKeep 38 = .ok (.iload_n 1, 1) := by decide +kernel
theorem dX8_mayKeep_39 : decode cX8_mayKeep 39 = .ok (.iadd, 1) := by decide +kernel
theorem dX8_mayKeep_40 : decode cX8_mayKeep 40 = .ok (.iaload, 1) := by decide +kernel
theorem dX8_mayKeep_41 : decode cX8_mayKeep 41 = .ok (.isub, 1) := by decide +kernel
theorem dX8_mayKeep_42 : decode cX8_mayKeep 42 = .ok (.invokestatic 321, 3) := by decide +kernel
theorem dX8_mayKeep_45 : decode cX8_mayKeep 45 = .ok (.aload_n 0, 1) := by decide +kernel
theorem dX8_mayKeep_46 : decode cX8_mayKeep 46 = .ok (.getfield 62, 3) := by decide +kernel
theorem dX8_mayKeep_49 : decode cX8_mayKeep 49 = .ok (.bipush 10, 2) := by decide +kernel
theorem dX8_mayKeep_51 : decode cX8_mayKeep 51 = .ok (.iload_n 1, 1) := by decide +kernel
theorem dX8_mayKeep_52 : decode cX8_mayKeep 52 = .ok (.iadd, 1) := by decide +kernel
theorem dX8_mayKeep_53 : decode cX8_mayKeep 53 = .ok (.iaload, 1) := by decide +kernel
theorem dX8_mayKeep_54 : decode cX8_mayKeep 54 = .ok (.if_icmp .gt 7, 3) := by decide +kernel
theorem dX8_mayKeep_57 : decode cX8_mayKeep 57 = .ok (.iconst 1, 1) := by decide +kernel
theorem dX8_mayKeep_58 : decode cX8_mayKeep 58 = .ok (.goto 4, 3) := by decide +kernel
theorem dX8_mayKeep_61 : decode cX8_mayKeep 61 = .ok (.iconst 0, 1) := by decide +kernel
theorem dX8_mayKeep_62 : decode cX8_mayKeep 62 = .ok (.ireturn, 1) := by decide +kernel
theorem dX8_passes_0 : decode cX8_passes 0 = .ok (.iconst 0, 1) := by decide +kernel
theorem dX8_passes_1 : decode cX8_passes 1 = .ok (.istore_n 1, 1) := by decide +kernel
theorem dX8_passes_2 : decode cX8_passes 2 = .ok (.iconst 0, 1) := by decide +kernel
theorem dX8_passes_3 : decode cX8_passes 3 = .ok (.istore_n 2, 1) := by decide +kernel
theorem dX8_passes_4 : decode cX8_passes 4 = .ok (.iload_n 2, 1) := by decide +kernel
theorem dX8_passes_5 : decode cX8_passes 5 = .ok (.aload_n 0, 1) := by decide +kernel
theorem dX8_passes_6 : decode cX8_passes 6 = .ok (.getfield 154, 3) := by decide +kernel
theorem dX8_passes_9 : decode cX8_passes 9 = .ok (.if_icmp .ge 38, 3) := by decide +kernel
theorem dX8_passes_12 : decode cX8_passes 12 = .ok (.aload_n 0, 1) := by decide +kernel
theorem dX8_passes_13 : decode cX8_passes 13 = .ok (.getfield 62, 3) := by decide +kernel
theorem dX8_passes_16 : decode cX8_passes 16 = .ok (.bipush 20, 2) := by decide +kernel
theorem dX8_passes_18 : decode cX8_passes 18 = .ok (.iload_n 2, 1) := by decide +kernel
theorem dX8_passes_19 : decode cX8_passes 19 = .ok (.iadd, 1) := by decide +kernel
theorem dX8_passes_20 : decode cX8_passes 20 = .ok (.dup2, 1) := by decide +kernel
theorem dX8_passes_21 : decode cX8_passes 21 = .ok (.iaload, 1) := by decide +kernel
theorem dX8_passes_22 : decode cX8_passes 22 = .ok (.aload_n 0, 1) := by decide +kernel
theorem dX8_passes_23 : decode cX8_passes 23 = .ok (.getfield 62, 3) := by decide +kernel
theorem dX8_passes_26 : decode cX8_passes 26 = .ok (.bipush 10, 2) := by decide +kernel
theorem dX8_passes_28 : decode cX8_passes 28 = .ok (.iload_n 2, 1) := by decide +kernel
theorem dX8_passes_29 : decode cX8_passes 29 = .ok (.iadd, 1) := by decide +kernel
theorem dX8_passes_30 : decode cX8_passes 30 = .ok (.iaload, 1) := by decide +kernel
theorem dX8_passes_31 : decode cX8_passes 31 = .ok (.ifCond .le 7, 3) := by decide +kernel
theorem dX8_passes_34 : decode cX8_passes 34 = .ok (.iconst 1, 1) := by decide +kernel
theorem dX8_passes_35 : decode cX8_passes 35 = .ok (.goto 4, 3) := by decide +kernel
theorem dX8_passes_38 : decode cX8_passes 38 = .ok (.iconst 0, 1) := by decide +kernel
theorem dX8_passes_39 : decode cX8_passes 39 = .ok (.iadd, 1) := by decide +kernel
theorem dX8_passes_40 : decode cX8_passes 40 = .ok (.iastore, 1) := by decide +kernel
theorem dX8_passes_41 : decode cX8_passes 41 = .ok (.iinc 2 1, 3) := by decide +kernel
theorem dX8_passes_44 : decode cX8_passes 44 = .ok (.goto (-40), 3) := by decide +kernel
theorem dX8_passes_47 : decode cX8_passes 47 = .ok (.iconst 0, 1) := by decide +kernel
theorem dX8_passes_48 : decode cX8_passes 48 = .ok (.istore_n 2, 1) := by decide +kernel
theorem dX8_passes_49 : decode cX8_passes 49 = .ok (.iload_n 2, 1) := by decide +kernel
theorem dX8_passes_50 : decode cX8_passes 50 = .ok (.aload_n 0, 1) := by decide +kernel
theorem dX8_passes_51 : decode cX8_passes 51 = .ok (.getfield 154, 3) := by decide +kernel
theorem dX8_passes_54 : decode cX8_passes 54 = .ok (.if_icmp .ge 48, 3) := by decide +kernel
theorem dX8_passes_57 : decode cX8_passes 57 = .ok (.iload_n 1, 1) := by decide +kernel
theorem dX8_passes_58 : decode cX8_passes 58 = .ok (.aload_n 0, 1) := by decide +kernel
theorem dX8_passes_59 : decode cX8_passes 59 = .ok (.getfield 62, 3) := by decide +kernel
theorem dX8_passes_62 : decode cX8_passes 62 = .ok (.bipush 10, 2) := by decide +kernel
theorem dX8_passes_64 : decode cX8_passes 64 = .ok (.iload_n 2, 1) := by decide +kernel
theorem dX8_passes_65 : decode cX8_passes 65 = .ok (.iadd, 1) := by decide +kernel
theorem dX8_passes_66 : decode cX8_passes 66 = .ok (.iaload, 1) := by decide +kernel
theorem dX8_passes_67 : decode cX8_passes 67 = .ok (.ifCond .le 26, 3) := by decide +kernel
theorem dX8_passes_70 : decode cX8_passes 70 = .ok (.aload_n 0, 1) := by decide +kernel
theorem dX8_passes_71 : decode cX8_passes 71 = .ok (.getfield 62, 3) := by decide +kernel
theorem dX8_passes_74 : decode cX8_passes 74 = .ok (.bipush 20, 2) := by decide +kernel
theorem dX8_passes_76 : decode cX8_passes 76 = .ok (.iload_n 2, 1) := by decide +kernel
theorem dX8_passes_77 : decode cX8_passes 77 = .ok (.iadd, 1) := by decide +kernel
theorem dX8_passes_78 : decode cX8_passes 78 = .ok (.iaload, 1) := by decide +kernel
theorem dX8_passes_79 : decode cX8_passes 79 = .ok (.aload_n 0, 1) := by decide +kernel
theorem dX8_passes_80 : decode cX8_passes 80 = .ok (.iload_n 2, 1) := by decide +kernel
theorem dX8_passes_81 : decode cX8_passes 81 = .ok (.invokevirtual 365, 3) := by decide +kernel
theorem dX8_passes_84 : decode cX8_passes 84 = .ok (.if_icmp .lt 9, 3) := by decide +kernel
theorem dX8_passes_87 : decode cX8_passes 87 = .ok (.iconst 1, 1) := by decide +kernel
theorem dX8_passes_88 : decode cX8_passes 88 = .ok (.iload_n 2, 1) := by decide +kernel
theorem dX8_passes_89 : decode cX8_passes 89 = .ok (.ishl, 1) := by decide +kernel
theorem dX8_passes_90 : decode cX8_passes 90 = .ok (.goto 4, 3) := by decide +kernel
theorem dX8_passes_93 : decode cX8_passes 93 = .ok (.iconst 0, 1) := by decide +kernel
theorem dX8_passes_94 : decode cX8_passes 94 = .ok (.ior, 1) := by decide +kernel
theorem dX8_passes_95 : decode cX8_passes 95 = .ok (.istore_n 1, 1) := by decide +kernel
theorem dX8_passes_96 : decode cX8_passes 96 = .ok (.iinc 2 1, 3) := by decide +kernel
theorem dX8_passes_99 : decode cX8_passes 99 = .ok (.goto (-50), 3) := by decide +kernel
theorem dX8_passes_102 : decode cX8_passes 102 = .ok (.iconst 0, 1) := by decide +kernel
theorem dX8_passes_103 : decode cX8_passes 103 = .ok (.istore_n 2, 1) := by decide +kernel
theorem dX8_passes_104 : decode cX8_passes 104 = .ok (.iload_n 2, 1) := by decide +kernel
theorem dX8_passes_105 : decode cX8_passes 105 = .ok (.aload_n 0, 1) := by decide +kernel
theorem dX8_passes_106 : decode cX8_passes 106 = .ok (.getfield 154, 3) := by decide +kernel
