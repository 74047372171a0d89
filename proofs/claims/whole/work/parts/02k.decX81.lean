theorem dX8_passes_109 : decode cX8_passes 109 = .ok (.if_icmp .ge 23, 3) := by decide +kernel
theorem dX8_passes_112 : decode cX8_passes 112 = .ok (.iload_n 1, 1) := by decide +kernel
theorem dX8_passes_113 : decode cX8_passes 113 = .ok (.iload_n 2, 1) := by decide +kernel
theorem dX8_passes_114 : decode cX8_passes 114 = .ok (.ishr, 1) := by decide +kernel
theorem dX8_passes_115 : decode cX8_passes 115 = .ok (.iconst 1, 1) := by decide +kernel
theorem dX8_passes_116 : decode cX8_passes 116 = .ok (.iand, 1) := by decide +kernel
theorem dX8_passes_117 : decode cX8_passes 117 = .ok (.iconst 1, 1) := by decide +kernel
theorem dX8_passes_118 : decode cX8_passes 118 = .ok (.if_icmp .ne 8, 3) := by decide +kernel
theorem dX8_passes_121 : decode cX8_passes 121 = .ok (.aload_n 0, 1) := by decide +kernel
theorem dX8_passes_122 : decode cX8_passes 122 = .ok (.iload_n 2, 1) := by decide +kernel
theorem dX8_passes_123 : decode cX8_passes 123 = .ok (.invokevirtual 362, 3) := by decide +kernel
theorem dX8_passes_126 : decode cX8_passes 126 = .ok (.iinc 2 1, 3) := by decide +kernel
theorem dX8_passes_129 : decode cX8_passes 129 = .ok (.goto (-25), 3) := by decide +kernel
theorem dX8_passes_132 : decode cX8_passes 132 = .ok (.aload_n 0, 1) := by decide +kernel
theorem dX8_passes_133 : decode cX8_passes 133 = .ok (.getfield 62, 3) := by decide +kernel
theorem dX8_passes_136 : decode cX8_passes 136 = .ok (.bipush 27, 2) := by decide +kernel
theorem dX8_passes_138 : decode cX8_passes 138 = .ok (.dup2, 1) := by decide +kernel
theorem dX8_passes_139 : decode cX8_passes 139 = .ok (.iaload, 1) := by decide +kernel
theorem dX8_passes_140 : decode cX8_passes 140 = .ok (.iconst 1, 1) := by decide +kernel
theorem dX8_passes_141 : decode cX8_passes 141 = .ok (.iadd, 1) := by decide +kernel
theorem dX8_passes_142 : decode cX8_passes 142 = .ok (.iastore, 1) := by decide +kernel
theorem dX8_passes_143 : decode cX8_passes 143 = .ok (.return_, 1) := by decide +kernel
theorem dX8_isDone_0 : decode cX8_isDone 0 = .ok (.iload_n 1, 1) := by decide +kernel
theorem dX8_isDone_1 : decode cX8_isDone 1 = .ok (.ifCond .ne 10, 3) := by decide +kernel
theorem dX8_isDone_4 : decode cX8_isDone 4 = .ok (.aload_n 0, 1) := by decide +kernel
theorem dX8_isDone_5 : decode cX8_isDone 5 = .ok (.iload_n 2, 1) := by decide +kernel
theorem dX8_isDone_6 : decode cX8_isDone 6 = .ok (.iload_n 3, 1) := by decide +kernel
theorem dX8_isDone_7 : decode cX8_isDone 7 = .ok (.invokevirtual 368, 3) := by decide +kernel
theorem dX8_isDone_10 : decode cX8_isDone 10 = .ok (.ireturn, 1) := by decide +kernel
theorem dX8_isDone_11 : decode cX8_isDone 11 = .ok (.iload_n 1, 1) := by decide +kernel
theorem dX8_isDone_12 : decode cX8_isDone 12 = .ok (.iconst 1, 1) := by decide +kernel
theorem dX8_isDone_13 : decode cX8_isDone 13 = .ok (.if_icmp .eq 8, 3) := by decide +kernel
theorem dX8_isDone_16 : decode cX8_isDone 16 = .ok (.iload_n 1, 1) := by decide +kernel
theorem dX8_isDone_17 : decode cX8_isDone 17 = .ok (.iconst 2, 1) := by decide +kernel
theorem dX8_isDone_18 : decode cX8_isDone 18 = .ok (.if_icmp .ne 19, 3) := by decide +kernel
theorem dX8_isDone_21 : decode cX8_isDone 21 = .ok (.aload_n 0, 1) := by decide +kernel
theorem dX8_isDone_22 : decode cX8_isDone 22 = .ok (.iload_n 1, 1) := by decide +kernel
theorem dX8_isDone_23 : decode cX8_isDone 23 = .ok (.iconst 1, 1) := by decide +kernel
theorem dX8_isDone_24 : decode cX8_isDone 24 = .ok (.if_icmp .ne 7, 3) := by decide +kernel
theorem dX8_isDone_27 : decode cX8_isDone 27 = .ok (.iload_n 2, 1) := by decide +kernel
theorem dX8_isDone_28 : decode cX8_isDone 28 = .ok (.goto 5, 3) := by decide +kernel
theorem dX8_isDone_31 : decode cX8_isDone 31 = .ok (.iload_n 2, 1) := by decide +kernel
theorem dX8_isDone_32 : decode cX8_isDone 32 = .ok (.ineg, 1) := by decide +kernel
theorem dX8_isDone_33 : decode cX8_isDone 33 = .ok (.invokevirtual 371, 3) := by decide +kernel
theorem dX8_isDone_36 : decode cX8_isDone 36 = .ok (.ireturn, 1) := by decide +kernel
theorem dX8_isDone_37 : decode cX8_isDone 37 = .ok (.iload_n 1, 1) := by decide +kernel
theorem dX8_isDone_38 : decode cX8_isDone 38 = .ok (.iconst 4, 1) := by decide +kernel
theorem dX8_isDone_39 : decode cX8_isDone 39 = .ok (.if_icmp .ne 12, 3) := by decide +kernel
theorem dX8_isDone_42 : decode cX8_isDone 42 = .ok (.aload_n 0, 1) := by decide +kernel
theorem dX8_isDone_43 : decode cX8_isDone 43 = .ok (.iload_n 2, 1) := by decide +kernel
theorem dX8_isDone_44 : decode cX8_isDone 44 = .ok (.iload_n 3, 1) := by decide +kernel
theorem dX8_isDone_45 : decode cX8_isDone 45 = .ok (.iload 4, 2) := by decide +kernel
theorem dX8_isDone_47 : decode cX8_isDone 47 = .ok (.invokevirtual 374, 3) := by decide +kernel
theorem dX8_isDone_50 : decode cX8_isDone 50 = .ok (.ireturn, 1) := by decide +kernel
theorem dX8_isDone_51 : decode cX8_isDone 51 = .ok (.iload_n 1, 1) := by decide +kernel
theorem dX8_isDone_52 : decode cX8_isDone 52 = .ok (.iconst 3, 1) := by decide +kernel
theorem dX8_isDone_53 : decode cX8_isDone 53 = .ok (.if_icmp .ne 28, 3) := by decide +kernel
theorem dX8_isDone_56 : decode cX8_isDone 56 = .ok (.aload_n 0, 1) := by decide +kernel
theorem dX8_isDone_57 : decode cX8_isDone 57 = .ok (.getfield 62, 3) := by decide +kernel
theorem dX8_isDone_60 : decode cX8_isDone 60 = .ok (.iconst 5, 1) := by decide +kernel
theorem dX8_isDone_61 : decode cX8_isDone 61 = .ok (.iload_n 2, 1) := by decide +kernel
theorem dX8_isDone_62 : decode cX8_isDone 62 = .ok (.iadd, 1) := by decide +kernel
theorem dX8_isDone_63 : decode cX8_isDone 63 = .ok (.iaload, 1) := by decide +kernel
theorem dX8_isDone_64 : decode cX8_isDone 64 = .ok (.iload_n 3, 1) := by decide +kernel
theorem dX8_isDone_65 : decode cX8_isDone 65 = .ok (.if_icmp .ne 5, 3) := by decide +kernel
theorem dX8_isDone_68 : decode cX8_isDone 68 = .ok (.iconst 0, 1) := by decide +kernel
theorem dX8_isDone_69 : decode cX8_isDone 69 = .ok (.ireturn, 1) := by decide +kernel
theorem dX8_isDone_70 : decode cX8_isDone 70 = .ok (.aload_n 0, 1) := by decide +kernel
theorem dX8_isDone_71 : decode cX8_isDone 71 = .ok (.getfield 62, 3) := by decide +kernel
theorem dX8_isDone_74 : decode cX8_isDone 74 = .ok (.iconst 5, 1) := by decide +kernel
theorem dX8_isDone_75 : decode cX8_isDone 75 = .ok (.iload_n 2, 1) := by decide +kernel
theorem dX8_isDone_76 : decode cX8_isDone 76 = .ok (.iadd, 1) := by decide +kernel
theorem dX8_isDone_77 : decode cX8_isDone 77 = .ok (.iload_n 3, 1) := by decide +kernel
theorem dX8_isDone_78 : decode cX8_isDone 78 = .ok (.iastore, 1) := by decide +kernel
theorem dX8_isDone_79 : decode cX8_isDone 79 = .ok (.iconst 1, 1) := by decide +kernel
theorem dX8_isDone_80 : decode cX8_isDone 80 = .ok (.ireturn, 1) := by decide +kernel
theorem dX8_isDone_81 : decode cX8_isDone 81 = .ok (.iload_n 1, 1) := by decide +kernel
theorem dX8_isDone_82 : decode cX8_isDone 82 = .ok (.iconst 5, 1) := by decide +kernel
theorem dX8_isDone_83 : decode cX8_isDone 83 = .ok (.if_icmp .ne 25, 3) := by decide +kernel
theorem dX8_isDone_86 : decode cX8_isDone 86 = .ok (.aload_n 0, 1) := by decide +kernel
theorem dX8_isDone_87 : decode cX8_isDone 87 = .ok (.iload_n 2, 1) := by decide +kernel
theorem dX8_isDone_88 : decode cX8_isDone 88 = .ok (.invokevirtual 377, 3) := by decide +kernel
theorem dX8_isDone_91 : decode cX8_isDone 91 = .ok (.ifCond .ne 5, 3) := by decide +kernel
theorem dX8_isDone_94 : decode cX8_isDone 94 = .ok (.iconst 0, 1) := by decide +kernel
theorem dX8_isDone_95 : decode cX8_isDone 95 = .ok (.ireturn, 1) := by decide +kernel
theorem dX8_isDone_96 : decode cX8_isDone 96 = .ok (.aload_n 0, 1) := by decide +kernel
theorem dX8_isDone_97 : decode cX8_isDone 97 = .ok (.getfield 62, 3) := by decide +kernel
theorem dX8_isDone_100 : decode cX8_isDone 100 = .ok (.bipush 20, 2) := by decide +kernel
theorem dX8_isDone_102 : decode cX8_isDone 102 = .ok (.iload_n 2, 1) := by decide +kernel
theorem dX8_isDone_103 : decode cX8_isDone 103 = .ok (.iadd, 1) := by decide +kernel
theorem dX8_isDone_104 : decode cX8_isDone 104 = .ok (.iconst 0, 1) := by decide +kernel
theorem dX8_isDone_105 : decode cX8_isDone 105 = .ok (.iastore, 1) := by decide +kernel
theorem dX8_isDone_106 : decode cX8_isDone 106 = .ok (.iconst 1, 1) := by decide +kernel
theorem dX8_isDone_107 : decode cX8_isDone 107 = .ok (.ireturn, 1) := by decide +kernel
theorem dX8_isDone_108 : decode cX8_isDone 108 = .ok (.aload_n 0, 1) := by decide +kernel
theorem dX8_isDone_109 : decode cX8_isDone 109 = .ok (.getfield 62, 3) := by decide +kernel
theorem dX8_isDone_112 : decode cX8_isDone 112 = .ok (.bipush 27, 2) := by decide +kernel
theorem dX8_isDone_114 : decode cX8_isDone 114 = .ok (.iaload, 1) := by decide +kernel
theorem dX8_isDone_115 : decode cX8_isDone 115 = .ok (.sipush 400, 3) := by decide +kernel
theorem dX8_isDone_118 : decode cX8_isDone 118 = .ok (.if_icmp .lt 5, 3) := by decide +kernel
theorem dX8_isDone_121 : decode cX8_isDone 121 = .ok (.iconst 0, 1) := by decide +kernel
theorem dX8_isDone_122 : decode cX8_isDone 122 = .ok (.ireturn, 1) := by decide +kernel
theorem dX8_isDone_123 : decode cX8_isDone 123 = .ok (.aload_n 0, 1) := by decide +kernel
theorem dX8_isDone_124 : decode cX8_isDone 124 = .ok (.invokevirtual 380, 3) := by decide +kernel
theorem dX8_isDone_127 : decode cX8_isDone 127 = .ok (.iconst 1, 1) := by decide +kernel
theorem dX8_isDone_128 : decode cX8_isDone 128 = .ok (.ireturn, 1) := by decide +kernel
theorem dX8_book_0 : decode cX8_book 0 = .ok (.aload_n 0, 1) := by decide +kernel
theorem dX8_book_1 : decode cX8_book 1 = .ok (.iconst 0, 1) := by decide +kernel
theorem dX8_book_2 : decode cX8_book 2 = .ok (.putfield 3, 3) := by decide +kernel
theorem dX8_book_5 : decode cX8_book 5 = .ok (.aload_n 0, 1) := by decide +kernel
theorem dX8_book_6 : decode cX8_book 6 = .ok (.iload_n 1, 1) := by decide +kernel
theorem dX8_book_7 : decode cX8_book 7 = .ok (.ifCond .lt 21, 3) := by decide +kernel
theorem dX8_book_10 : decode cX8_book 10 = .ok (.iload_n 1, 1) := by decide +kernel
theorem dX8_book_11 : decode cX8_book 11 = .ok (.aload_n 0, 1) := by decide +kernel
theorem dX8_book_12 : decode cX8_book 12 = .ok (.getfield 96, 3) := by decide +kernel
theorem dX8_book_15 : decode cX8_book 15 = .ok (.if_icmp .gt 13, 3) := by decide +kernel
theorem dX8_book_18 : decode cX8_book 18 = .ok (.iload_n 1, 1) := by decide +kernel
theorem dX8_book_19 : decode cX8_book 19 = .ok (.bipush 60, 2) := by decide +kernel
theorem dX8_book_21 : decode cX8_book 21 = .ok (.if_icmp .gt 7, 3) := by decide +kernel
theorem dX8_book_24 : decode cX8_book 24 = .ok (.iconst 1, 1) := by decide +kernel
theorem dX8_book_25 : decode cX8_book 25 = .ok (.goto 4, 3) := by decide +kernel
theorem dX8_book_28 : decode cX8_book 28 = .ok (.iconst 0, 1) := by decide +kernel
theorem dX8_book_29 : decode cX8_book 29 = .ok (.iconst 1, 1) := by decide +kernel
theorem dX8_book_30 : decode cX8_book 30 = .ok (.iconst 1, 1) := by decide +kernel
theorem dX8_book_31 : decode cX8_book 31 = .ok (.invokevirtual 190, 3) := by decide +kernel
theorem dX8_book_34 : decode cX8_book 34 = .ok (.ifCond .ne 5, 3) := by decide +kernel
theorem dX8_book_37 : decode cX8_book 37 = .ok (.iconst 0, 1) := by decide +kernel
theorem dX8_book_38 : decode cX8_book 38 = .ok (.ireturn, 1) := by decide +kernel
theorem dX8_book_39 : decode cX8_book 39 = .ok (.aload_n 0, 1) := by decide +kernel
theorem dX8_book_40 : decode cX8_book 40 = .ok (.iload_n 1, 1) := by decide +kernel
theorem dX8_book_41 : decode cX8_book 41 = .ok (.invokevirtual 194, 3) := by decide +kernel
theorem dX8_book_44 : decode cX8_book 44 = .ok (.iconst 0, 1) := by decide +kernel
theorem dX8_book_45 : decode cX8_book 45 = .ok (.istore_n 2, 1) := by decide +kernel
theorem dX8_book_46 : decode cX8_book 46 = .ok (.iload_n 2, 1) := by decide +kernel
theorem dX8_book_47 : decode cX8_book 47 = .ok (.bipush 8, 2) := by decide +kernel
theorem dX8_book_49 : decode cX8_book 49 = .ok (.if_icmp .ge 16, 3) := by decide +kernel
theorem dX8_book_52 : decode cX8_book 52 = .ok (.aload_n 0, 1) := by decide +kernel
theorem dX8_book_53 : decode cX8_book 53 = .ok (.getfield 68, 3) := by decide +kernel
theorem dX8_book_56 : decode cX8_book 56 = .ok (.iload_n 2, 1) := by decide +kernel
theorem dX8_book_57 : decode cX8_book 57 = .ok (.iconst (-1), 1) := by decide +kernel
theorem dX8_book_58 : decode cX8_book 58 = .ok (.iastore, 1) := by decide +kernel
theorem dX8_book_59 : decode cX8_book 59 = .ok (.iinc 2 1, 3) := by decide +kernel
theorem dX8_book_62 : decode cX8_book 62 = .ok (.goto (-16), 3) := by decide +kernel
theorem dX8_book_65 : decode cX8_book 65 = .ok (.iconst 0, 1) := by decide +kernel
theorem dX8_book_66 : decode cX8_book 66 = .ok (.istore_n 2, 1) := by decide +kernel
theorem dX8_book_67 : decode cX8_book 67 = .ok (.aload_n 0, 1) := by decide +kernel
theorem dX8_book_68 : decode cX8_book 68 = .ok (.invokevirtual 128, 3) := by decide +kernel
theorem dX8_book_71 : decode cX8_book 71 = .ok (.ifCond .eq 96, 3) := by decide +kernel
theorem dX8_book_74 : decode cX8_book 74 = .ok (.aload_n 0, 1) := by decide +kernel
theorem dX8_book_75 : decode cX8_book 75 = .ok (.invokevirtual 198, 3) := by decide +kernel
theorem dX8_book_78 : decode cX8_book 78 = .ok (.ifCond .eq 89, 3) := by decide +kernel
theorem dX8_book_81 : decode cX8_book 81 = .ok (.aload_n 0, 1) := by decide +kernel
theorem dX8_book_82 : decode cX8_book 82 = .ok (.invokevirtual 111, 3) := by decide +kernel
theorem dX8_book_85 : decode cX8_book 85 = .ok (.pop, 1) := by decide +kernel
theorem dX8_book_86 : decode cX8_book 86 = .ok (.aload_n 0, 1) := by decide +kernel
theorem dX8_book_87 : decode cX8_book 87 = .ok (.getfield 105, 3) := by decide +kernel
theorem dX8_book_90 : decode cX8_book 90 = .ok (.istore_n 3, 1) := by decide +kernel
theorem dX8_book_91 : decode cX8_book 91 = .ok (.aload_n 0, 1) := by decide +kernel
theorem dX8_book_92 : decode cX8_book 92 = .ok (.iconst 0, 1) := by decide +kernel
theorem dX8_book_93 : decode cX8_book 93 = .ok (.aload_n 0, 1) := by decide +kernel
theorem dX8_book_94 : decode cX8_book 94 = .ok (.getfield 151, 3) := by decide +kernel
theorem dX8_book_97 : decode cX8_book 97 = .ok (.iconst 1, 1) := by decide +kernel
theorem dX8_book_98 : decode cX8_book 98 = .ok (.isub, 1) := by decide +kernel
theorem dX8_book_99 : decode cX8_book 99 = .ok (.invokevirtual 186, 3) := by decide +kernel
theorem dX8_book_102 : decode cX8_book 102 = .ok (.istore 4, 2) := by decide +kernel
theorem dX8_book_104 : decode cX8_book 104 = .ok (.aload_n 0, 1) := by decide +kernel
theorem dX8_book_105 : decode cX8_book 105 = .ok (.invokevirtual 128, 3) := by decide +kernel
theorem dX8_book_108 : decode cX8_book 108 = .ok (.ifCond .eq 20, 3) := by decide +kernel
theorem dX8_book_111 : decode cX8_book 111 = .ok (.aload_n 0, 1) := by decide +kernel
theorem dX8_book_112 : decode cX8_book 112 = .ok (.getfield 68, 3) := by decide +kernel
theorem dX8_book_115 : decode cX8_book 115 = .ok (.iload 4, 2) := by decide +kernel
theorem dX8_book_117 : decode cX8_book 117 = .ok (.iaload, 1) := by decide +kernel
theorem dX8_book_118 : decode cX8_book 118 = .ok (.iconst (-1), 1) := by decide +kernel
theorem dX8_book_119 : decode cX8_book 119 = .ok (.if_icmp .eq 9, 3) := by decide +kernel
theorem dX8_book_122 : decode cX8_book 122 = .ok (.aload_n 0, 1) := by decide +kernel
theorem dX8_book_123 : decode cX8_book 123 = .ok (.iconst 2, 1) := by decide +kernel
theorem dX8_book_124 : decode cX8_book 124 = .ok (.iload_n 3, 1) := by decide +kernel
theorem dX8_book_125 : decode cX8_book 125 = .ok (.invokevirtual 135, 3) := by decide +kernel
theorem dX8_book_128 : decode cX8_book 128 = .ok (.aload_n 0, 1) := by decide +kernel
theorem dX8_book_129 : decode cX8_book 129 = .ok (.iconst 0, 1) := by decide +kernel
theorem dX8_book_130 : decode cX8_book 130 = .ok (.iconst 5, 1) := by decide +kernel
theorem dX8_book_131 : decode cX8_book 131 = .ok (.invokevirtual 186, 3) := by decide +kernel
theorem dX8_book_134 : decode cX8_book 134 = .ok (.istore 5, 2) := by decide +kernel
theorem dX8_book_136 : decode cX8_book 136 = .ok (.aload_n 0, 1) := by decide +kernel
theorem dX8_book_137 : decode cX8_book 137 = .ok (.bipush 59, 2) := by decide +kernel
theorem dX8_book_139 : decode cX8_book 139 = .ok (.invokevirtual 216, 3) := by decide +kernel
theorem dX8_book_142 : decode cX8_book 142 = .ok (.aload_n 0, 1) := by decide +kernel
theorem dX8_book_143 : decode cX8_book 143 = .ok (.invokevirtual 128, 3) := by decide +kernel
theorem dX8_book_146 : decode cX8_book 146 = .ok (.ifCond .ne 6, 3) := by decide +kernel
theorem dX8_book_149 : decode cX8_book 149 = .ok (.goto 18, 3) := by decide +kernel
theorem dX8_book_152 : decode cX8_book 152 = .ok (.aload_n 0, 1) := by decide +kernel
theorem dX8_book_153 : decode cX8_book 153 = .ok (.getfield 68, 3) := by decide +kernel
theorem dX8_book_156 : decode cX8_book 156 = .ok (.iload 4, 2) := by decide +kernel
theorem dX8_book_158 : decode cX8_book 158 = .ok (.iload 5, 2) := by decide +kernel
theorem dX8_book_160 : decode cX8_book 160 = .ok (.iastore, 1) := by decide +kernel
theorem dX8_book_161 : decode cX8_book 161 = .ok (.iinc 2 1, 3) := by decide +kernel
theorem dX8_book_164 : decode cX8_book 164 = .ok (.goto (-97), 3) := by decide +kernel
theorem dX8_book_167 : decode cX8_book 167 = .ok (.aload_n 0, 1) := by decide +kernel
theorem dX8_book_168 : decode cX8_book 168 = .ok (.iload_n 2, 1) := by decide +kernel
theorem dX8_book_169 : decode cX8_book 169 = .ok (.invokevirtual 219, 3) := by decide +kernel
theorem dX8_book_172 : decode cX8_book 172 = .ok (.istore_n 3, 1) := by decide +kernel
theorem dX8_book_173 : decode cX8_book 173 = .ok (.aload_n 0, 1) := by decide +kernel
theorem dX8_book_174 : decode cX8_book 174 = .ok (.getfield 99, 3) := by decide +kernel
theorem dX8_book_177 : decode cX8_book 177 = .ok (.iconst (-1), 1) := by decide +kernel
theorem dX8_book_178 : decode cX8_book 178 = .ok (.if_icmp .eq 5, 3) := by decide +kernel
theorem dX8_book_181 : decode cX8_book 181 = .ok (.iload_n 3, 1) := by decide +kernel
theorem dX8_book_182 : decode cX8_book 182 = .ok (.ireturn, 1) := by decide +kernel
theorem dX8_book_183 : decode cX8_book 183 = .ok (.aload_n 0, 1) := by decide +kernel
theorem dX8_book_184 : decode cX8_book 184 = .ok (.iload_n 2, 1) := by decide +kernel
theorem dX8_book_185 : decode cX8_book 185 = .ok (.putfield 167, 3) := by decide +kernel
theorem dX8_book_188 : decode cX8_book 188 = .ok (.aload_n 0, 1) := by decide +kernel
theorem dX8_book_189 : decode cX8_book 189 = .ok (.aload_n 0, 1) := by decide +kernel
theorem dX8_book_190 : decode cX8_book 190 = .ok (.getfield 68, 3) := by decide +kernel
theorem dX8_book_193 : decode cX8_book 193 = .ok (.aload_n 0, 1) := by decide +kernel
theorem dX8_book_194 : decode cX8_book 194 = .ok (.getfield 71, 3) := by decide +kernel
theorem dX8_book_197 : decode cX8_book 197 = .ok (.bipush 8, 2) := by decide +kernel
theorem dX8_book_199 : decode cX8_book 199 = .ok (.invokevirtual 160, 3) := by decide +kernel
theorem dX8_book_202 : decode cX8_book 202 = .ok (.iload_n 3, 1) := by decide +kernel
theorem dX8_book_203 : decode cX8_book 203 = .ok (.ireturn, 1) := by decide +kernel
theorem dX8_undo_0 : decode cX8_undo 0 = .ok (.aload_n 0, 1) := by decide +kernel
theorem dX8_undo_1 : decode cX8_undo 1 = .ok (.iconst 0, 1) := by decide +kernel
theorem dX8_undo_2 : decode cX8_undo 2 = .ok (.putfield 3, 3) := by decide +kernel
theorem dX8_undo_5 : decode cX8_undo 5 = .ok (.aload_n 0, 1) := by decide +kernel
theorem dX8_undo_6 : decode cX8_undo 6 = .ok (.getfield 170, 3) := by decide +kernel
theorem dX8_undo_9 : decode cX8_undo 9 = .ok (.ifCond .ne 5, 3) := by decide +kernel
theorem dX8_undo_12 : decode cX8_undo 12 = .ok (.iconst (-1), 1) := by decide +kernel
theorem dX8_undo_13 : decode cX8_undo 13 = .ok (.ireturn, 1) := by decide +kernel
theorem dX8_undo_14 : decode cX8_undo 14 = .ok (.aload_n 0, 1) := by decide +kernel
theorem dX8_undo_15 : decode cX8_undo 15 = .ok (.dup, 1) := by decide +kernel
theorem dX8_undo_16 : decode cX8_undo 16 = .ok (.getfield 170, 3) := by decide +kernel
theorem dX8_undo_19 : decode cX8_undo 19 = .ok (.iconst 1, 1) := by decide +kernel
theorem dX8_undo_20 : decode cX8_undo 20 = .ok (.isub, 1) := by decide +kernel
theorem dX8_undo_21 : decode cX8_undo 21 = .ok (.putfield 170, 3) := by decide +kernel
theorem dX8_undo_24 : decode cX8_undo 24 = .ok (.iconst 0, 1) := by decide +kernel
theorem dX8_undo_25 : decode cX8_undo 25 = .ok (.istore_n 1, 1) := by decide +kernel
theorem dX8_undo_26 : decode cX8_undo 26 = .ok (.iload_n 1, 1) := by decide +kernel
theorem dX8_undo_27 : decode cX8_undo 27 = .ok (.bipush 28, 2) := by decide +kernel
theorem dX8_undo_29 : decode cX8_undo 29 = .ok (.if_icmp .ge 29, 3) := by decide +kernel
theorem dX8_undo_32 : decode cX8_undo 32 = .ok (.aload_n 0, 1) := by decide +kernel
theorem dX8_undo_33 : decode cX8_undo 33 = .ok (.getfield 59, 3) := by decide +kernel
theorem dX8_undo_36 : decode cX8_undo 36 = .ok (.iload_n 1, 1) := by decide +kernel
theorem dX8_undo_37 : decode cX8_undo 37 = .ok (.aload_n 0, 1) := by decide +kernel
theorem dX8_undo_38 : decode cX8_undo 38 = .ok (.getfield 65, 3) := by decide +kernel
theorem dX8_undo_41 : decode cX8_undo 41 = .ok (.bipush 28, 2) := by decide +kernel
theorem dX8_undo_43 : decode cX8_undo 43 = .ok (.aload_n 0, 1) := by decide +kernel
theorem dX8_undo_44 : decode cX8_undo 44 = .ok (.getfield 170, 3) := by decide +kernel
theorem dX8_undo_47 : decode cX8_undo 47 = .ok (.imul, 1) := by decide +kernel
theorem dX8_undo_48 : decode cX8_undo 48 = .ok (.iload_n 1, 1) := by decide +kernel
theorem dX8_undo_49 : decode cX8_undo 49 = .ok (.iadd, 1) := by decide +kernel
theorem dX8_undo_50 : decode cX8_undo 50 = .ok (.iaload, 1) := by decide +kernel
theorem dX8_undo_51 : decode cX8_undo 51 = .ok (.iastore, 1) := by decide +kernel
theorem dX8_undo_52 : decode cX8_undo 52 = .ok (.iinc 1 1, 3) := by decide +kernel
theorem dX8_undo_55 : decode cX8_undo 55 = .ok (.goto (-29), 3) := by decide +kernel
theorem dX8_undo_58 : decode cX8_undo 58 = .ok (.aload_n 0, 1) := by decide +kernel
theorem dX8_undo_59 : decode cX8_undo 59 = .ok (.iconst 0, 1) := by decide +kernel
theorem dX8_undo_60 : decode cX8_undo 60 = .ok (.putfield 176, 3) := by decide +kernel
theorem dX8_undo_63 : decode cX8_undo 63 = .ok (.aload_n 0, 1) := by decide +kernel
theorem dX8_undo_64 : decode cX8_undo 64 = .ok (.getfield 170, 3) := by decide +kernel
theorem dX8_undo_67 : decode cX8_undo 67 = .ok (.ireturn, 1) := by decide +kernel
theorem dX8_worthAll_0 : decode cX8_worthAll 0 = .ok (.iconst 0, 1) := by decide +kernel
theorem dX8_worthAll_1 : decode cX8_worthAll 1 = .ok (.istore_n 1, 1) := by decide +kernel
theorem dX8_worthAll_2 : decode cX8_worthAll 2 = .ok (.iconst 0, 1) := by decide +kernel
theorem dX8_worthAll_3 : decode cX8_worthAll 3 = .ok (.istore_n 2, 1) := by decide +kernel
theorem dX8_worthAll_4 : decode cX8_worthAll 4 = .ok (.iload_n 2, 1) := by decide +kernel
theorem dX8_worthAll_5 : decode cX8_worthAll 5 = .ok (.aload_n 0, 1) := by decide +kernel
theorem dX8_worthAll_6 : decode cX8_worthAll 6 = .ok (.getfield 151, 3) := by decide +kernel
theorem dX8_worthAll_9 : decode cX8_worthAll 9 = .ok (.if_icmp .ge 35, 3) := by decide +kernel
theorem dX8_worthAll_12 : decode cX8_worthAll 12 = .ok (.iload_n 1, 1) := by decide +kernel
theorem dX8_worthAll_13 : decode cX8_worthAll 13 = .ok (.aload_n 0, 1) := by decide +kernel
theorem dX8_worthAll_14 : decode cX8_worthAll 14 = .ok (.iload_n 2, 1) := by decide +kernel
theorem dX8_worthAll_15 : decode cX8_worthAll 15 = .ok (.invokevirtual 327, 3) := by decide +kernel
theorem dX8_worthAll_18 : decode cX8_worthAll 18 = .ok (.iconst (-1), 1) := by decide +kernel
theorem dX8_worthAll_19 : decode cX8_worthAll 19 = .ok (.if_icmp .eq 16, 3) := by decide +kernel
theorem dX8_worthAll_22 : decode cX8_worthAll 22 = .ok (.aload_n 0, 1) := by decide +kernel
theorem dX8_worthAll_23 : decode cX8_worthAll 23 = .ok (.getfield 29, 3) := by decide +kernel
theorem dX8_worthAll_26 : decode cX8_worthAll 26 = .ok (.iconst 2, 1) := by decide +kernel
theorem dX8_worthAll_27 : decode cX8_worthAll 27 = .ok (.iload_n 2, 1) := by decide +kernel
theorem dX8_worthAll_28 : decode cX8_worthAll 28 = .ok (.imul, 1) := by decide +kernel
theorem dX8_worthAll_29 : decode cX8_worthAll 29 = .ok (.iconst 1, 1) := by decide +kernel
theorem dX8_worthAll_30 : decode cX8_worthAll 30 = .ok (.iadd, 1) := by decide +kernel
theorem dX8_worthAll_31 : decode cX8_worthAll 31 = .ok (.iaload, 1) := by decide +kernel
theorem dX8_worthAll_32 : decode cX8_worthAll 32 = .ok (.goto 4, 3) := by decide +kernel
theorem dX8_worthAll_35 : decode cX8_worthAll 35 = .ok (.iconst 0, 1) := by decide +kernel
theorem dX8_worthAll_36 : decode cX8_worthAll 36 = .ok (.iadd, 1) := by decide +kernel
theorem dX8_worthAll_37 : decode cX8_worthAll 37 = .ok (.istore_n 1, 1) := by decide +kernel
theorem dX8_worthAll_38 : decode cX8_worthAll 38 = .ok (.iinc 2 1, 3) := by decide +kernel
theorem dX8_worthAll_41 : decode cX8_worthAll 41 = .ok (.goto (-37), 3) := by decide +kernel
theorem dX8_worthAll_44 : decode cX8_worthAll 44 = .ok (.iload_n 1, 1) := by decide +kernel
theorem dX8_worthAll_45 : decode cX8_worthAll 45 = .ok (.ireturn, 1) := by decide +kernel
theorem dX8_touchings_0 : decode cX8_touchings 0 = .ok (.iconst 0, 1) := by decide +kernel
theorem dX8_touchings_1 : decode cX8_touchings 1 = .ok (.istore_n 1, 1) := by decide +kernel
theorem dX8_touchings_2 : decode cX8_touchings 2 = .ok (.iconst 0, 1) := by decide +kernel
theorem dX8_touchings_3 : decode cX8_touchings 3 = .ok (.istore_n 2, 1) := by decide +kernel
theorem dX8_touchings_4 : decode cX8_touchings 4 = .ok (.iload_n 2, 1) := by decide +kernel
theorem dX8_touchings_5 : decode cX8_touchings 5 = .ok (.aload_n 0, 1) := by decide +kernel
theorem dX8_touchings_6 : decode cX8_touchings 6 = .ok (.getfield 154, 3) := by decide +kernel
theorem dX8_touchings_9 : decode cX8_touchings 9 = .ok (.if_icmp .ge 20, 3) := by decide +kernel
theorem dX8_touchings_12 : decode cX8_touchings 12 = .ok (.iload_n 1, 1) := by decide +kernel
theorem dX8_touchings_13 : decode cX8_touchings 13 = .ok (.aload_n 0, 1) := by decide +kernel
theorem dX8_touchings_14 : decode cX8_touchings 14 = .ok (.iload_n 2, 1) := by decide +kernel
theorem dX8_touchings_15 : decode cX8_touchings 15 = .ok (.invokevirtual 336, 3) := by decide +kernel
theorem dX8_touchings_18 : decode cX8_touchings 18 = .ok (.invokestatic 339, 3) := by decide +kernel
theorem dX8_touchings_21 : decode cX8_touchings 21 = .ok (.iadd, 1) := by decide +kernel
theorem dX8_touchings_22 : decode cX8_touchings 22 = .ok (.istore_n 1, 1) := by decide +kernel
theorem dX8_touchings_23 : decode cX8_touchings 23 = .ok (.iinc 2 1, 3) := by decide +kernel
theorem dX8_touchings_26 : decode cX8_touchings 26 = .ok (.goto (-22), 3) := by decide +kernel
theorem dX8_touchings_29 : decode cX8_touchings 29 = .ok (.iload_n 1, 1) := by decide +kernel
theorem dX8_touchings_30 : decode cX8_touchings 30 = .ok (.iconst 2, 1) := by decide +kernel
theorem dX8_touchings_31 : decode cX8_touchings 31 = .ok (.idiv, 1) := by decide +kernel
theorem dX8_touchings_32 : decode cX8_touchings 32 = .ok (.ireturn, 1) := by decide +kernel
theorem dX8_purses_0 : decode cX8_purses 0 = .ok (.iconst 0, 1) := by decide +kernel
theorem dX8_purses_1 : decode cX8_purses 1 = .ok (.istore_n 1, 1) := by decide +kernel
theorem dX8_purses_2 : decode cX8_purses 2 = .ok (.iconst 0, 1) := by decide +kernel
theorem dX8_purses_3 : decode cX8_purses 3 = .ok (.istore_n 2, 1) := by decide +kernel
theorem dX8_purses_4 : decode cX8_purses 4 = .ok (.iload_n 2, 1) := by decide +kernel
theorem dX8_purses_5 : decode cX8_purses 5 = .ok (.aload_n 0, 1) := by decide +kernel
theorem dX8_purses_6 : decode cX8_purses 6 = .ok (.getfield 154, 3) := by decide +kernel
theorem dX8_purses_9 : decode cX8_purses 9 = .ok (.if_icmp .ge 20, 3) := by decide +kernel
theorem dX8_purses_12 : decode cX8_purses 12 = .ok (.iload_n 1, 1) := by decide +kernel
theorem dX8_purses_13 : decode cX8_purses 13 = .ok (.aload_n 0, 1) := by decide +kernel
theorem dX8_purses_14 : decode cX8_purses 14 = .ok (.getfield 62, 3) := by decide +kernel
theorem dX8_purses_17 : decode cX8_purses 17 = .ok (.iconst 0, 1) := by decide +kernel
theorem dX8_purses_18 : decode cX8_purses 18 = .ok (.iload_n 2, 1) := by decide +kernel
theorem dX8_purses_19 : decode cX8_purses 19 = .ok (.iadd, 1) := by decide +kernel
theorem dX8_purses_20 : decode cX8_purses 20 = .ok (.iaload, 1) := by decide +kernel
theorem dX8_purses_21 : decode cX8_purses 21 = .ok (.iadd, 1) := by decide +kernel
theorem dX8_purses_22 : decode cX8_purses 22 = .ok (.istore_n 1, 1) := by decide +kernel
theorem dX8_purses_23 : decode cX8_purses 23 = .ok (.iinc 2 1, 3) := by decide +kernel
theorem dX8_purses_26 : decode cX8_purses 26 = .ok (.goto (-22), 3) := by decide +kernel
theorem dX8_purses_29 : decode cX8_purses 29 = .ok (.iload_n 1, 1) := by decide +kernel
theorem dX8_purses_30 : decode cX8_purses 30 = .ok (.ireturn, 1) := by decide +kernel
theorem dX8_told_0 : decode cX8_told 0 = .ok (.aload_n 0, 1) := by decide +kernel
theorem dX8_told_1 : decode cX8_told 1 = .ok (.iconst 0, 1) := by decide +kernel
theorem dX8_told_2 : decode cX8_told 2 = .ok (.putfield 3, 3) := by decide +kernel
theorem dX8_told_5 : decode cX8_told 5 = .ok (.aload_n 0, 1) := by decide +kernel
theorem dX8_told_6 : decode cX8_told 6 = .ok (.iload_n 1, 1) := by decide +kernel
theorem dX8_told_7 : decode cX8_told 7 = .ok (.iconst 0, 1) := by decide +kernel
theorem dX8_told_8 : decode cX8_told 8 = .ok (.bipush 11, 2) := by decide +kernel
theorem dX8_told_10 : decode cX8_told 10 = .ok (.invokestatic 352, 3) := by decide +kernel
theorem dX8_told_13 : decode cX8_told 13 = .ok (.iconst 1, 1) := by decide +kernel
theorem dX8_told_14 : decode cX8_told 14 = .ok (.iconst 1, 1) := by decide +kernel
theorem dX8_told_15 : decode cX8_told 15 = .ok (.invokevirtual 190, 3) := by decide +kernel
theorem dX8_told_18 : decode cX8_told 18 = .ok (.ifCond .ne 5, 3) := by decide +kernel
theorem dX8_told_21 : decode cX8_told 21 = .ok (.iconst 0, 1) := by decide +kernel
theorem dX8_told_22 : decode cX8_told 22 = .ok (.ireturn, 1) := by decide +kernel
theorem dX8_told_23 : decode cX8_told 23 = .ok (.aload_n 0, 1) := by decide +kernel
theorem dX8_told_24 : decode cX8_told 24 = .ok (.invokevirtual 302, 3) := by decide +kernel
theorem dX8_told_27 : decode cX8_told 27 = .ok (.iload_n 1, 1) := by decide +kernel
theorem dX8_told_28 : decode cX8_told 28 = .ok (.iconst 4, 1) := by decide +kernel
theorem dX8_told_29 : decode cX8_told 29 = .ok (.if_icmp .ge 46, 3) := by decide +kernel
theorem dX8_told_32 : decode cX8_told 32 = .ok (.iload_n 1, 1) := by decide +kernel
theorem dX8_told_33 : decode cX8_told 33 = .ok (.ifCond .ne 10, 3) := by decide +kernel
theorem dX8_told_36 : decode cX8_told 36 = .ok (.aload_n 0, 1) := by decide +kernel
theorem dX8_told_37 : decode cX8_told 37 = .ok (.getfield 151, 3) := by decide +kernel
theorem dX8_told_40 : decode cX8_told 40 = .ok (.goto 34, 3) := by decide +kernel
theorem dX8_told_43 : decode cX8_told 43 = .ok (.iload_n 1, 1) := by decide +kernel
theorem dX8_told_44 : decode cX8_told 44 = .ok (.iconst 1, 1) := by decide +kernel
theorem dX8_told_45 : decode cX8_told 45 = .ok (.if_icmp .ne 10, 3) := by decide +kernel
theorem dX8_told_48 : decode cX8_told 48 = .ok (.aload_n 0, 1) := by decide +kernel
theorem dX8_told_49 : decode cX8_told 49 = .ok (.getfield 154, 3) := by decide +kernel
theorem dX8_told_52 : decode cX8_told 52 = .ok (.goto 22, 3) := by decide +kernel
theorem dX8_told_55 : decode cX8_told 55 = .ok (.iload_n 1, 1) := by decide +kernel
theorem dX8_told_56 : decode cX8_told 56 = .ok (.iconst 2, 1) := by decide +kernel
theorem dX8_told_57 : decode cX8_told 57 = .ok (.if_icmp .ne 10, 3) := by decide +kernel
theorem dX8_told_60 : decode cX8_told 60 = .ok (.aload_n 0, 1) := by decide +kernel
theorem dX8_told_61 : decode cX8_told 61 = .ok (.getfield 157, 3) := by decide +kernel
theorem dX8_told_64 : decode cX8_told 64 = .ok (.goto 10, 3) := by decide +kernel
theorem dX8_told_67 : decode cX8_told 67 = .ok (.aload_n 0, 1) := by decide +kernel
theorem dX8_told_68 : decode cX8_told 68 = .ok (.getfield 62, 3) := by decide +kernel
theorem dX8_told_71 : decode cX8_told 71 = .ok (.bipush 27, 2) := by decide +kernel
theorem dX8_told_73 : decode cX8_told 73 = .ok (.iaload, 1) := by decide +kernel
theorem dX8_told_74 : decode cX8_told 74 = .ok (.ireturn, 1) := by decide +kernel
theorem dX8_told_75 : decode cX8_told 75 = .ok (.iload_n 1, 1) := by decide +kernel
theorem dX8_told_76 : decode cX8_told 76 = .ok (.bipush 7, 2) := by decide +kernel
theorem dX8_told_78 : decode cX8_told 78 = .ok (.if_icmp .ge 33, 3) := by decide +kernel
theorem dX8_told_81 : decode cX8_told 81 = .ok (.iload_n 1, 1) := by decide +kernel
theorem dX8_told_82 : decode cX8_told 82 = .ok (.iconst 4, 1) := by decide +kernel
theorem dX8_told_83 : decode cX8_told 83 = .ok (.if_icmp .ne 10, 3) := by decide +kernel
theorem dX8_told_86 : decode cX8_told 86 = .ok (.aload_n 0, 1) := by decide +kernel
theorem dX8_told_87 : decode cX8_told 87 = .ok (.invokevirtual 356, 3) := by decide +kernel
theorem dX8_told_90 : decode cX8_told 90 = .ok (.goto 20, 3) := by decide +kernel
theorem dX8_told_93 : decode cX8_told 93 = .ok (.aload_n 0, 1) := by decide +kernel
theorem dX8_told_94 : decode cX8_told 94 = .ok (.getfield 62, 3) := by decide +kernel
theorem dX8_told_97 : decode cX8_told 97 = .ok (.iload_n 1, 1) := by decide +kernel
theorem dX8_told_98 : decode cX8_told 98 = .ok (.iconst 5, 1) := by decide +kernel
theorem dX8_told_99 : decode cX8_told 99 = .ok (.if_icmp .ne 8, 3) := by decide +kernel
theorem dX8_told_102 : decode cX8_told 102 = .ok (.bipush 25, 2) := by decide +kernel
theorem dX8_told_104 : decode cX8_told 104 = .ok (.goto 5, 3) := by decide +kernel
theorem dX8_told_107 : decode cX8_told 107 = .ok (.bipush 26, 2) := by decide +kernel
theorem dX8_told_109 : decode cX8_told 109 = .ok (.iaload, 1) := by decide +kernel
theorem dX8_told_110 : decode cX8_told 110 = .ok (.ireturn, 1) := by decide +kernel
theorem dX8_told_111 : decode cX8_told 111 = .ok (.iload_n 1, 1) := by decide +kernel
theorem dX8_told_112 : decode cX8_told 112 = .ok (.bipush 9, 2) := by decide +kernel
theorem dX8_told_114 : decode cX8_told 114 = .ok (.if_icmp .ge 21, 3) := by decide +kernel
theorem dX8_told_117 : decode cX8_told 117 = .ok (.iload_n 1, 1) := by decide +kernel
theorem dX8_told_118 : decode cX8_told 118 = .ok (.bipush 7, 2) := by decide +kernel
theorem dX8_told_120 : decode cX8_told 120 = .ok (.if_icmp .ne 10, 3) := by decide +kernel
theorem dX8_told_123 : decode cX8_told 123 = .ok (.aload_n 0, 1) := by decide +kernel
theorem dX8_told_124 : decode cX8_told 124 = .ok (.invokevirtual 383, 3) := by decide +kernel
theorem dX8_told_127 : decode cX8_told 127 = .ok (.goto 7, 3) := by decide +kernel
theorem dX8_told_130 : decode cX8_told 130 = .ok (.aload_n 0, 1) := by decide +kernel
theorem dX8_told_131 : decode cX8_told 131 = .ok (.invokevirtual 386, 3) := by decide +kernel
theorem dX8_told_134 : decode cX8_told 134 = .ok (.ireturn, 1) := by decide +kernel
theorem dX8_told_135 : decode cX8_told 135 = .ok (.iload_n 1, 1) := by decide +kernel
theorem dX8_told_136 : decode cX8_told 136 = .ok (.bipush 9, 2) := by decide +kernel
theorem dX8_told_138 : decode cX8_told 138 = .ok (.if_icmp .ne 10, 3) := by decide +kernel
theorem dX8_told_141 : decode cX8_told 141 = .ok (.aload_n 0, 1) := by decide +kernel
theorem dX8_told_142 : decode cX8_told 142 = .ok (.getfield 167, 3) := by decide +kernel
theorem dX8_told_145 : decode cX8_told 145 = .ok (.goto 20, 3) := by decide +kernel
theorem dX8_told_148 : decode cX8_told 148 = .ok (.iload_n 1, 1) := by decide +kernel
theorem dX8_told_149 : decode cX8_told 149 = .ok (.bipush 10, 2) := by decide +kernel
theorem dX8_told_151 : decode cX8_told 151 = .ok (.if_icmp .ne 10, 3) := by decide +kernel
theorem dX8_told_154 : decode cX8_told 154 = .ok (.aload_n 0, 1) := by decide +kernel
theorem dX8_told_155 : decode cX8_told 155 = .ok (.getfield 176, 3) := by decide +kernel
theorem dX8_told_158 : decode cX8_told 158 = .ok (.goto 7, 3) := by decide +kernel
theorem dX8_told_161 : decode cX8_told 161 = .ok (.aload_n 0, 1) := by decide +kernel
theorem dX8_told_162 : decode cX8_told 162 = .ok (.invokevirtual 389, 3) := by decide +kernel
theorem dX8_told_165 : decode cX8_told 165 = .ok (.ireturn, 1) := by decide +kernel
theorem dX8_isView_0 : decode cX8_isView 0 = .ok (.aload_n 0, 1) := by decide +kernel
theorem dX8_isView_1 : decode cX8_isView 1 = .ok (.iload_n 1, 1) := by decide +kernel
theorem dX8_isView_2 : decode cX8_isView 2 = .ok (.iconst 0, 1) := by decide +kernel
theorem dX8_isView_3 : decode cX8_isView 3 = .ok (.aload_n 0, 1) := by decide +kernel
theorem dX8_isView_4 : decode cX8_isView 4 = .ok (.getfield 151, 3) := by decide +kernel
theorem dX8_isView_7 : decode cX8_isView 7 = .ok (.iconst 1, 1) := by decide +kernel
theorem dX8_isView_8 : decode cX8_isView 8 = .ok (.isub, 1) := by decide +kernel
theorem dX8_isView_9 : decode cX8_isView 9 = .ok (.invokestatic 352, 3) := by decide +kernel
theorem dX8_isView_12 : decode cX8_isView 12 = .ok (.iload_n 2, 1) := by decide +kernel
theorem dX8_isView_13 : decode cX8_isView 13 = .ok (.iconst 0, 1) := by decide +kernel
theorem dX8_isView_14 : decode cX8_isView 14 = .ok (.invokevirtual 190, 3) := by decide +kernel
theorem dX8_isView_17 : decode cX8_isView 17 = .ok (.ireturn, 1) := by decide +kernel
theorem dX8_isTenant_0 : decode cX8_isTenant 0 = .ok (.aload_n 0, 1) := by decide +kernel
theorem dX8_isTenant_1 : decode cX8_isTenant 1 = .ok (.iload_n 1, 1) := by decide +kernel
theorem dX8_isTenant_2 : decode cX8_isTenant 2 = .ok (.iconst 0, 1) := by decide +kernel
theorem dX8_isTenant_3 : decode cX8_isTenant 3 = .ok (.aload_n 0, 1) := by decide +kernel
theorem dX8_isTenant_4 : decode cX8_isTenant 4 = .ok (.getfield 154, 3) := by decide +kernel
theorem dX8_isTenant_7 : decode cX8_isTenant 7 = .ok (.iconst 1, 1) := by decide +kernel
theorem dX8_isTenant_8 : decode cX8_isTenant 8 = .ok (.isub, 1) := by decide +kernel
theorem dX8_isTenant_9 : decode cX8_isTenant 9 = .ok (.invokestatic 352, 3) := by decide +kernel
theorem dX8_isTenant_12 : decode cX8_isTenant 12 = .ok (.iload_n 2, 1) := by decide +kernel
theorem dX8_isTenant_13 : decode cX8_isTenant 13 = .ok (.iconst 0, 1) := by decide +kernel
theorem dX8_isTenant_14 : decode cX8_isTenant 14 = .ok (.invokevirtual 190, 3) := by decide +kernel
theorem dX8_isTenant_17 : decode cX8_isTenant 17 = .ok (.ireturn, 1) := by decide +kernel
theorem dX8_view_0 : decode cX8_view 0 = .ok (.aload_n 0, 1) := by decide +kernel
theorem dX8_view_1 : decode cX8_view 1 = .ok (.iconst 0, 1) := by decide +kernel
theorem dX8_view_2 : decode cX8_view 2 = .ok (.putfield 3, 3) := by decide +kernel
theorem dX8_view_5 : decode cX8_view 5 = .ok (.aload_n 0, 1) := by decide +kernel
theorem dX8_view_6 : decode cX8_view 6 = .ok (.iload_n 1, 1) := by decide +kernel
theorem dX8_view_7 : decode cX8_view 7 = .ok (.iconst 1, 1) := by decide +kernel
theorem dX8_view_8 : decode cX8_view 8 = .ok (.invokevirtual 392, 3) := by decide +kernel
theorem dX8_view_11 : decode cX8_view 11 = .ok (.ifCond .eq 18, 3) := by decide +kernel
theorem dX8_view_14 : decode cX8_view 14 = .ok (.aload_n 0, 1) := by decide +kernel
theorem dX8_view_15 : decode cX8_view 15 = .ok (.iload_n 2, 1) := by decide +kernel
theorem dX8_view_16 : decode cX8_view 16 = .ok (.iconst 0, 1) := by decide +kernel
theorem dX8_view_17 : decode cX8_view 17 = .ok (.iconst 3, 1) := by decide +kernel
theorem dX8_view_18 : decode cX8_view 18 = .ok (.invokestatic 352, 3) := by decide +kernel
theorem dX8_view_21 : decode cX8_view 21 = .ok (.iconst 2, 1) := by decide +kernel
theorem dX8_view_22 : decode cX8_view 22 = .ok (.iconst 1, 1) := by decide +kernel
theorem dX8_view_23 : decode cX8_view 23 = .ok (.invokevirtual 190, 3) := by decide +kernel
theorem dX8_view_26 : decode cX8_view 26 = .ok (.ifCond .ne 5, 3) := by decide +kernel
theorem dX8_view_29 : decode cX8_view 29 = .ok (.iconst 0, 1) := by decide +kernel
theorem dX8_view_30 : decode cX8_view 30 = .ok (.ireturn, 1) := by decide +kernel
theorem dX8_view_31 : decode cX8_view 31 = .ok (.aload_n 0, 1) := by decide +kernel
theorem dX8_view_32 : decode cX8_view 32 = .ok (.invokevirtual 302, 3) := by decide +kernel
theorem dX8_view_35 : decode cX8_view 35 = .ok (.iload_n 2, 1) := by decide +kernel
theorem dX8_view_36 : decode cX8_view 36 = .ok (.iconst 3, 1) := by decide +kernel
theorem dX8_view_37 : decode cX8_view 37 = .ok (.if_icmp .ge 27, 3) := by decide +kernel
theorem dX8_view_40 : decode cX8_view 40 = .ok (.iload_n 2, 1) := by decide +kernel
theorem dX8_view_41 : decode cX8_view 41 = .ok (.iconst 2, 1) := by decide +kernel
theorem dX8_view_42 : decode cX8_view 42 = .ok (.if_icmp .ge 16, 3) := by decide +kernel
theorem dX8_view_45 : decode cX8_view 45 = .ok (.aload_n 0, 1) := by decide +kernel
theorem dX8_view_46 : decode cX8_view 46 = .ok (.getfield 29, 3) := by decide +kernel
theorem dX8_view_49 : decode cX8_view 49 = .ok (.iconst 2, 1) := by decide +kernel
theorem dX8_view_50 : decode cX8_view 50 = .ok (.iload_n 1, 1) := by decide +kernel
theorem dX8_view_51 : decode cX8_view 51 = .ok (.imul, 1) := by decide +kernel
theorem dX8_view_52 : decode cX8_view 52 = .ok (.iload_n 2, 1) := by decide +kernel
theorem dX8_view_53 : decode cX8_view 53 = .ok (.iadd, 1) := by decide +kernel
theorem dX8_view_54 : decode cX8_view 54 = .ok (.iaload, 1) := by decide +kernel
theorem dX8_view_55 : decode cX8_view 55 = .ok (.goto 8, 3) := by decide +kernel
theorem dX8_view_58 : decode cX8_view 58 = .ok (.aload_n 0, 1) := by decide +kernel
theorem dX8_view_59 : decode cX8_view 59 = .ok (.iload_n 1, 1) := by decide +kernel
theorem dX8_view_60 : decode cX8_view 60 = .ok (.invokevirtual 327, 3) := by decide +kernel
theorem dX8_view_63 : decode cX8_view 63 = .ok (.ireturn, 1) := by decide +kernel
theorem dX8_view_64 : decode cX8_view 64 = .ok (.iconst 0, 1) := by decide +kernel
theorem dX8_view_65 : decode cX8_view 65 = .ok (.istore_n 3, 1) := by decide +kernel
theorem dX8_view_66 : decode cX8_view 66 = .ok (.iconst 0, 1) := by decide +kernel
theorem dX8_view_67 : decode cX8_view 67 = .ok (.istore 4, 2) := by decide +kernel
theorem dX8_view_69 : decode cX8_view 69 = .ok (.iload 4, 2) := by decide +kernel
theorem dX8_view_71 : decode cX8_view 71 = .ok (.aload_n 0, 1) := by decide +kernel
theorem dX8_view_72 : decode cX8_view 72 = .ok (.getfield 154, 3) := by decide +kernel
theorem dX8_view_75 : decode cX8_view 75 = .ok (.if_icmp .ge 27, 3) := by decide +kernel
theorem dX8_view_78 : decode cX8_view 78 = .ok (.iload_n 3, 1) := by decide +kernel
theorem dX8_view_79 : decode cX8_view 79 = .ok (.aload_n 0, 1) := by decide +kernel
theorem dX8_view_80 : decode cX8_view 80 = .ok (.iload 4, 2) := by decide +kernel
theorem dX8_view_82 : decode cX8_view 82 = .ok (.iload_n 1, 1) := by decide +kernel
theorem dX8_view_83 : decode cX8_view 83 = .ok (.invokevirtual 323, 3) := by decide +kernel
theorem dX8_view_86 : decode cX8_view 86 = .ok (.ifCond .eq 7, 3) := by decide +kernel
theorem dX8_view_89 : decode cX8_view 89 = .ok (.iconst 1, 1) := by decide +kernel
theorem dX8_view_90 : decode cX8_view 90 = .ok (.goto 4, 3) := by decide +kernel
theorem dX8_view_93 : decode cX8_view 93 = .ok (.iconst 0, 1) := by decide +kernel
theorem dX8_view_94 : decode cX8_view 94 = .ok (.iadd, 1) := by decide +kernel
theorem dX8_view_95 : decode cX8_view 95 = .ok (.istore_n 3, 1) := by decide +kernel
theorem dX8_view_96 : decode cX8_view 96 = .ok (.iinc 4 1, 3) := by decide +kernel
theorem dX8_view_99 : decode cX8_view 99 = .ok (.goto (-30), 3) := by decide +kernel
theorem dX8_view_102 : decode cX8_view 102 = .ok (.iload_n 3, 1) := by decide +kernel
theorem dX8_view_103 : decode cX8_view 103 = .ok (.ireturn, 1) := by decide +kernel
theorem dX8_tenant_0 : decode cX8_tenant 0 = .ok (.aload_n 0, 1) := by decide +kernel
theorem dX8_tenant_1 : decode cX8_tenant 1 = .ok (.iconst 0, 1) := by decide +kernel
theorem dX8_tenant_2 : decode cX8_tenant 2 = .ok (.putfield 3, 3) := by decide +kernel
theorem dX8_tenant_5 : decode cX8_tenant 5 = .ok (.aload_n 0, 1) := by decide +kernel
theorem dX8_tenant_6 : decode cX8_tenant 6 = .ok (.iload_n 1, 1) := by decide +kernel
theorem dX8_tenant_7 : decode cX8_tenant 7 = .ok (.iconst 1, 1) := by decide +kernel
theorem dX8_tenant_8 : decode cX8_tenant 8 = .ok (.invokevirtual 395, 3) := by decide +kernel
theorem dX8_tenant_11 : decode cX8_tenant 11 = .ok (.ifCond .eq 18, 3) := by decide +kernel
theorem dX8_tenant_14 : decode cX8_tenant 14 = .ok (.aload_n 0, 1) := by decide +kernel
theorem dX8_tenant_15 : decode cX8_tenant 15 = .ok (.iload_n 2, 1) := by decide +kernel
theorem dX8_tenant_16 : decode cX8_tenant 16 = .ok (.iconst 0, 1) := by decide +kernel
theorem dX8_tenant_17 : decode cX8_tenant 17 = .ok (.iconst 5, 1) := by decide +kernel
theorem dX8_tenant_18 : decode cX8_tenant 18 = .ok (.invokestatic 352, 3) := by decide +kernel
theorem dX8_tenant_21 : decode cX8_tenant 21 = .ok (.iconst 2, 1) := by decide +kernel
theorem dX8_tenant_22 : decode cX8_tenant 22 = .ok (.iconst 1, 1) := by decide +kernel
theorem dX8_tenant_23 : decode cX8_tenant 23 = .ok (.invokevirtual 190, 3) := by decide +kernel
theorem dX8_tenant_26 : decode cX8_tenant 26 = .ok (.ifCond .ne 5, 3) := by decide +kernel
theorem dX8_tenant_29 : decode cX8_tenant 29 = .ok (.iconst 0, 1) := by decide +kernel
theorem dX8_tenant_30 : decode cX8_tenant 30 = .ok (.ireturn, 1) := by decide +kernel
theorem dX8_tenant_31 : decode cX8_tenant 31 = .ok (.aload_n 0, 1) := by decide +kernel
theorem dX8_tenant_32 : decode cX8_tenant 32 = .ok (.invokevirtual 302, 3) := by decide +kernel
theorem dX8_tenant_35 : decode cX8_tenant 35 = .ok (.iload_n 2, 1) := by decide +kernel
theorem dX8_tenant_36 : decode cX8_tenant 36 = .ok (.iconst 2, 1) := by decide +kernel
theorem dX8_tenant_37 : decode cX8_tenant 37 = .ok (.if_icmp .ge 20, 3) := by decide +kernel
theorem dX8_tenant_40 : decode cX8_tenant 40 = .ok (.aload_n 0, 1) := by decide +kernel
theorem dX8_tenant_41 : decode cX8_tenant 41 = .ok (.getfield 62, 3) := by decide +kernel
theorem dX8_tenant_44 : decode cX8_tenant 44 = .ok (.iload_n 2, 1) := by decide +kernel
theorem dX8_tenant_45 : decode cX8_tenant 45 = .ok (.ifCond .ne 7, 3) := by decide +kernel
theorem dX8_tenant_48 : decode cX8_tenant 48 = .ok (.iconst 0, 1) := by decide +kernel
theorem dX8_tenant_49 : decode cX8_tenant 49 = .ok (.goto 4, 3) := by decide +kernel
theorem dX8_tenant_52 : decode cX8_tenant 52 = .ok (.iconst 5, 1) := by decide +kernel
theorem dX8_tenant_53 : decode cX8_tenant 53 = .ok (.iload_n 1, 1) := by decide +kernel
theorem dX8_tenant_54 : decode cX8_tenant 54 = .ok (.iadd, 1) := by decide +kernel
theorem dX8_tenant_55 : decode cX8_tenant 55 = .ok (.iaload, 1) := by decide +kernel
theorem dX8_tenant_56 : decode cX8_tenant 56 = .ok (.ireturn, 1) := by decide +kernel
theorem dX8_tenant_57 : decode cX8_tenant 57 = .ok (.iload_n 2, 1) := by decide +kernel
theorem dX8_tenant_58 : decode cX8_tenant 58 = .ok (.iconst 2, 1) := by decide +kernel
theorem dX8_tenant_59 : decode cX8_tenant 59 = .ok (.if_icmp .ne 23, 3) := by decide +kernel
theorem dX8_tenant_62 : decode cX8_tenant 62 = .ok (.aload_n 0, 1) := by decide +kernel
theorem dX8_tenant_63 : decode cX8_tenant 63 = .ok (.getfield 62, 3) := by decide +kernel
theorem dX8_tenant_66 : decode cX8_tenant 66 = .ok (.bipush 10, 2) := by decide +kernel
theorem dX8_tenant_68 : decode cX8_tenant 68 = .ok (.iload_n 1, 1) := by decide +kernel
theorem dX8_tenant_69 : decode cX8_tenant 69 = .ok (.iadd, 1) := by decide +kernel
theorem dX8_tenant_70 : decode cX8_tenant 70 = .ok (.iaload, 1) := by decide +kernel
theorem dX8_tenant_71 : decode cX8_tenant 71 = .ok (.ifCond .le 7, 3) := by decide +kernel
theorem dX8_tenant_74 : decode cX8_tenant 74 = .ok (.iconst 1, 1) := by decide +kernel
theorem dX8_tenant_75 : decode cX8_tenant 75 = .ok (.goto 42, 3) := by decide +kernel
theorem dX8_tenant_78 : decode cX8_tenant 78 = .ok (.iconst 0, 1) := by decide +kernel
theorem dX8_tenant_79 : decode cX8_tenant 79 = .ok (.goto 38, 3) := by decide +kernel
theorem dX8_tenant_82 : decode cX8_tenant 82 = .ok (.iload_n 2, 1) := by decide +kernel
theorem dX8_tenant_83 : decode cX8_tenant 83 = .ok (.iconst 3, 1) := by decide +kernel
theorem dX8_tenant_84 : decode cX8_tenant 84 = .ok (.if_icmp .ne 11, 3) := by decide +kernel
theorem dX8_tenant_87 : decode cX8_tenant 87 = .ok (.aload_n 0, 1) := by decide +kernel
theorem dX8_tenant_88 : decode cX8_tenant 88 = .ok (.iload_n 1, 1) := by decide +kernel
theorem dX8_tenant_89 : decode cX8_tenant 89 = .ok (.invokevirtual 342, 3) := by decide +kernel
theorem dX8_tenant_92 : decode cX8_tenant 92 = .ok (.goto 25, 3) := by decide +kernel
theorem dX8_tenant_95 : decode cX8_tenant 95 = .ok (.iload_n 2, 1) := by decide +kernel
theorem dX8_tenant_96 : decode cX8_tenant 96 = .ok (.iconst 4, 1) := by decide +kernel
theorem dX8_tenant_97 : decode cX8_tenant 97 = .ok (.if_icmp .ne 15, 3) := by decide +kernel
theorem dX8_tenant_100 : decode cX8_tenant 100 = .ok (.aload_n 0, 1) := by decide +kernel
theorem dX8_tenant_101 : decode cX8_tenant 101 = .ok (.aload_n 0, 1) := by decide +kernel
theorem dX8_tenant_102 : decode cX8_tenant 102 = .ok (.iload_n 1, 1) := by decide +kernel
theorem dX8_tenant_103 : decode cX8_tenant 103 = .ok (.invokevirtual 342, 3) := by decide +kernel
theorem dX8_tenant_106 : decode cX8_tenant 106 = .ok (.invokevirtual 345, 3) := by decide +kernel
theorem dX8_tenant_109 : decode cX8_tenant 109 = .ok (.goto 8, 3) := by decide +kernel
theorem dX8_tenant_112 : decode cX8_tenant 112 = .ok (.aload_n 0, 1) := by decide +kernel
theorem dX8_tenant_113 : decode cX8_tenant 113 = .ok (.iload_n 1, 1) := by decide +kernel
theorem dX8_tenant_114 : decode cX8_tenant 114 = .ok (.invokevirtual 336, 3) := by decide +kernel
theorem dX8_tenant_117 : decode cX8_tenant 117 = .ok (.ireturn, 1) := by decide +kernel
theorem dX8_seenBy_0 : decode cX8_seenBy 0 = .ok (.iconst 0, 1) := by decide +kernel
theorem dX8_seenBy_1 : decode cX8_seenBy 1 = .ok (.istore_n 2, 1) := by decide +kernel
theorem dX8_seenBy_2 : decode cX8_seenBy 2 = .ok (.iconst 0, 1) := by decide +kernel
theorem dX8_seenBy_3 : decode cX8_seenBy 3 = .ok (.istore_n 3, 1) := by decide +kernel
theorem dX8_seenBy_4 : decode cX8_seenBy 4 = .ok (.iload_n 3, 1) := by decide +kernel
theorem dX8_seenBy_5 : decode cX8_seenBy 5 = .ok (.aload_n 0, 1) := by decide +kernel
theorem dX8_seenBy_6 : decode cX8_seenBy 6 = .ok (.getfield 151, 3) := by decide +kernel
theorem dX8_seenBy_9 : decode cX8_seenBy 9 = .ok (.if_icmp .ge 28, 3) := by decide +kernel
theorem dX8_seenBy_12 : decode cX8_seenBy 12 = .ok (.iload_n 2, 1) := by decide +kernel
theorem dX8_seenBy_13 : decode cX8_seenBy 13 = .ok (.aload_n 0, 1) := by decide +kernel
theorem dX8_seenBy_14 : decode cX8_seenBy 14 = .ok (.iload_n 1, 1) := by decide +kernel
theorem dX8_seenBy_15 : decode cX8_seenBy 15 = .ok (.iload_n 3, 1) := by decide +kernel
theorem dX8_seenBy_16 : decode cX8_seenBy 16 = .ok (.invokevirtual 323, 3) := by decide +kernel
theorem dX8_seenBy_19 : decode cX8_seenBy 19 = .ok (.ifCond .eq 9, 3) := by decide +kernel
theorem dX8_seenBy_22 : decode cX8_seenBy 22 = .ok (.iconst 1, 1) := by decide +kernel
theorem dX8_seenBy_23 : decode cX8_seenBy 23 = .ok (.iload_n 3, 1) := by decide +kernel
theorem dX8_seenBy_24 : decode cX8_seenBy 24 = .ok (.ishl, 1) := by decide +kernel
theorem dX8_seenBy_25 : decode cX8_seenBy 25 = .ok (.goto 4, 3) := by decide +kernel
theorem dX8_seenBy_28 : decode cX8_seenBy 28 = .ok (.iconst 0, 1) := by decide +kernel
theorem dX8_seenBy_29 : decode cX8_seenBy 29 = .ok (.ior, 1) := by decide +kernel
theorem dX8_seenBy_30 : decode cX8_seenBy 30 = .ok (.istore_n 2, 1) := by decide +kernel
theorem dX8_seenBy_31 : decode cX8_seenBy 31 = .ok (.iinc 3 1, 3) := by decide +kernel
theorem dX8_seenBy_34 : decode cX8_seenBy 34 = .ok (.goto (-30), 3) := by decide +kernel
theorem dX8_seenBy_37 : decode cX8_seenBy 37 = .ok (.iload_n 2, 1) := by decide +kernel
theorem dX8_seenBy_38 : decode cX8_seenBy 38 = .ok (.ireturn, 1) := by decide +kernel
theorem dX8_bubble_0 : decode cX8_bubble 0 = .ok (.aload_n 0, 1) := by decide +kernel
theorem dX8_bubble_1 : decode cX8_bubble 1 = .ok (.iconst 0, 1) := by decide +kernel
theorem dX8_bubble_2 : decode cX8_bubble 2 = .ok (.putfield 3, 3) := by decide +kernel
theorem dX8_bubble_5 : decode cX8_bubble 5 = .ok (.aload_n 0, 1) := by decide +kernel
theorem dX8_bubble_6 : decode cX8_bubble 6 = .ok (.iload_n 1, 1) := by decide +kernel
theorem dX8_bubble_7 : decode cX8_bubble 7 = .ok (.iconst 1, 1) := by decide +kernel
theorem dX8_bubble_8 : decode cX8_bubble 8 = .ok (.invokevirtual 395, 3) := by decide +kernel
theorem dX8_bubble_11 : decode cX8_bubble 11 = .ok (.ifCond .eq 18, 3) := by decide +kernel
theorem dX8_bubble_14 : decode cX8_bubble 14 = .ok (.aload_n 0, 1) := by decide +kernel
theorem dX8_bubble_15 : decode cX8_bubble 15 = .ok (.iload_n 2, 1) := by decide +kernel
theorem dX8_bubble_16 : decode cX8_bubble 16 = .ok (.iconst 0, 1) := by decide +kernel
theorem dX8_bubble_17 : decode cX8_bubble 17 = .ok (.iconst 4, 1) := by decide +kernel
theorem dX8_bubble_18 : decode cX8_bubble 18 = .ok (.invokestatic 352, 3) := by decide +kernel
theorem dX8_bubble_21 : decode cX8_bubble 21 = .ok (.iconst 2, 1) := by decide +kernel
theorem dX8_bubble_22 : decode cX8_bubble 22 = .ok (.iconst 1, 1) := by decide +kernel
theorem dX8_bubble_23 : decode cX8_bubble 23 = .ok (.invokevirtual 190, 3) := by decide +kernel
theorem dX8_bubble_26 : decode cX8_bubble 26 = .ok (.ifCond .ne 5, 3) := by decide +kernel
theorem dX8_bubble_29 : decode cX8_bubble 29 = .ok (.iconst 0, 1) := by decide +kernel
theorem dX8_bubble_30 : decode cX8_bubble 30 = .ok (.ireturn, 1) := by decide +kernel
theorem dX8_bubble_31 : decode cX8_bubble 31 = .ok (.aload_n 0, 1) := by decide +kernel
theorem dX8_bubble_32 : decode cX8_bubble 32 = .ok (.invokevirtual 302, 3) := by decide +kernel
theorem dX8_bubble_35 : decode cX8_bubble 35 = .ok (.aload_n 0, 1) := by decide +kernel
theorem dX8_bubble_36 : decode cX8_bubble 36 = .ok (.getfield 62, 3) := by decide +kernel
theorem dX8_bubble_39 : decode cX8_bubble 39 = .ok (.bipush 10, 2) := by decide +kernel
theorem dX8_bubble_41 : decode cX8_bubble 41 = .ok (.iload_n 1, 1) := by decide +kernel
theorem dX8_bubble_42 : decode cX8_bubble 42 = .ok (.iadd, 1) := by decide +kernel
theorem dX8_bubble_43 : decode cX8_bubble 43 = .ok (.iaload, 1) := by decide +kernel
theorem dX8_bubble_44 : decode cX8_bubble 44 = .ok (.ifCond .ne 5, 3) := by decide +kernel
theorem dX8_bubble_47 : decode cX8_bubble 47 = .ok (.iconst (-1), 1) := by decide +kernel
theorem dX8_bubble_48 : decode cX8_bubble 48 = .ok (.ireturn, 1) := by decide +kernel
theorem dX8_bubble_49 : decode cX8_bubble 49 = .ok (.iload_n 2, 1) := by decide +kernel
theorem dX8_bubble_50 : decode cX8_bubble 50 = .ok (.iconst 3, 1) := by decide +kernel
theorem dX8_bubble_51 : decode cX8_bubble 51 = .ok (.if_icmp .ge 19, 3) := by decide +kernel
theorem dX8_bubble_54 : decode cX8_bubble 54 = .ok (.aload_n 0, 1) := by decide +kernel
theorem dX8_bubble_55 : decode cX8_bubble 55 = .ok (.getfield 62, 3) := by decide +kernel
theorem dX8_bubble_58 : decode cX8_bubble 58 = .ok (.bipush 10, 2) := by decide +kernel
theorem dX8_bubble_60 : decode cX8_bubble 60 = .ok (.iconst 5, 1) := by decide +kernel
theorem dX8_bubble_61 : decode cX8_bubble 61 = .ok (.iload_n 2, 1) := by decide +kernel
theorem dX8_bubble_62 : decode cX8_bubble 62 = .ok (.imul, 1) := by decide +kernel
theorem dX8_bubble_63 : decode cX8_bubble 63 = .ok (.iadd, 1) := by decide +kernel
theorem dX8_bubble_64 : decode cX8_bubble 64 = .ok (.iload_n 1, 1) := by decide +kernel
theorem dX8_bubble_65 : decode cX8_bubble 65 = .ok (.iadd, 1) := by decide +kernel
theorem dX8_bubble_66 : decode cX8_bubble 66 = .ok (.iaload, 1) := by decide +kernel
theorem dX8_bubble_67 : decode cX8_bubble 67 = .ok (.goto 21, 3) := by decide +kernel
theorem dX8_bubble_70 : decode cX8_bubble 70 = .ok (.iload_n 2, 1) := by decide +kernel
theorem dX8_bubble_71 : decode cX8_bubble 71 = .ok (.iconst 3, 1) := by decide +kernel
theorem dX8_bubble_72 : decode cX8_bubble 72 = .ok (.if_icmp .ne 11, 3) := by decide +kernel
theorem dX8_bubble_75 : decode cX8_bubble 75 = .ok (.aload_n 0, 1) := by decide +kernel
theorem dX8_bubble_76 : decode cX8_bubble 76 = .ok (.iload_n 1, 1) := by decide +kernel
theorem dX8_bubble_77 : decode cX8_bubble 77 = .ok (.invokevirtual 365, 3) := by decide +kernel
theorem dX8_bubble_80 : decode cX8_bubble 80 = .ok (.goto 8, 3) := by decide +kernel
theorem dX8_bubble_83 : decode cX8_bubble 83 = .ok (.aload_n 0, 1) := by decide +kernel
theorem dX8_bubble_84 : decode cX8_bubble 84 = .ok (.iload_n 1, 1) := by decide +kernel
theorem dX8_bubble_85 : decode cX8_bubble 85 = .ok (.invokevirtual 398, 3) := by decide +kernel
theorem dX8_bubble_88 : decode cX8_bubble 88 = .ok (.ireturn, 1) := by decide +kernel
theorem dX8_would_0 : decode cX8_would 0 = .ok (.aload_n 0, 1) := by decide +kernel
theorem dX8_would_1 : decode cX8_would 1 = .ok (.iconst 0, 1) := by decide +kernel
theorem dX8_would_2 : decode cX8_would 2 = .ok (.putfield 3, 3) := by decide +kernel
theorem dX8_would_5 : decode cX8_would 5 = .ok (.aload_n 0, 1) := by decide +kernel
theorem dX8_would_6 : decode cX8_would 6 = .ok (.iload_n 1, 1) := by decide +kernel
theorem dX8_would_7 : decode cX8_would 7 = .ok (.iconst 1, 1) := by decide +kernel
theorem dX8_would_8 : decode cX8_would 8 = .ok (.bipush 20, 2) := by decide +kernel
theorem dX8_would_10 : decode cX8_would 10 = .ok (.invokestatic 352, 3) := by decide +kernel
theorem dX8_would_13 : decode cX8_would 13 = .ok (.ifCond .eq 83, 3) := by decide +kernel
theorem dX8_would_16 : decode cX8_would 16 = .ok (.iload_n 2, 1) := by decide +kernel
theorem dX8_would_17 : decode cX8_would 17 = .ok (.iconst 1, 1) := by decide +kernel
theorem dX8_would_18 : decode cX8_would 18 = .ok (.bipush 20, 2) := by decide +kernel
theorem dX8_would_20 : decode cX8_would 20 = .ok (.invokestatic 352, 3) := by decide +kernel
theorem dX8_would_23 : decode cX8_would 23 = .ok (.ifCond .eq 73, 3) := by decide +kernel
theorem dX8_would_26 : decode cX8_would 26 = .ok (.iload_n 3, 1) := by decide +kernel
theorem dX8_would_27 : decode cX8_would 27 = .ok (.iconst 0, 1) := by decide +kernel
theorem dX8_would_28 : decode cX8_would 28 = .ok (.iconst 4, 1) := by decide +kernel
theorem dX8_would_29 : decode cX8_would 29 = .ok (.invokestatic 352, 3) := by decide +kernel
theorem dX8_would_32 : decode cX8_would 32 = .ok (.ifCond .eq 64, 3) := by decide +kernel
theorem dX8_would_35 : decode cX8_would 35 = .ok (.iload 4, 2) := by decide +kernel
theorem dX8_would_37 : decode cX8_would 37 = .ok (.iconst 0, 1) := by decide +kernel
theorem dX8_would_38 : decode cX8_would 38 = .ok (.bipush 99, 2) := by decide +kernel
theorem dX8_would_40 : decode cX8_would 40 = .ok (.invokestatic 352, 3) := by decide +kernel
theorem dX8_would_43 : decode cX8_would 43 = .ok (.ifCond .eq 53, 3) := by decide +kernel
theorem dX8_would_46 : decode cX8_would 46 = .ok (.iload 5, 2) := by decide +kernel
theorem dX8_would_48 : decode cX8_would 48 = .ok (.iconst 0, 1) := by decide +kernel
theorem dX8_would_49 : decode cX8_would 49 = .ok (.sipush 480, 3) := by decide +kernel
theorem dX8_would_52 : decode cX8_would 52 = .ok (.invokestatic 352, 3) := by decide +kernel
theorem dX8_would_55 : decode cX8_would 55 = .ok (.ifCond .eq 41, 3) := by decide +kernel
theorem dX8_would_58 : decode cX8_would 58 = .ok (.iload 6, 2) := by decide +kernel
theorem dX8_would_60 : decode cX8_would 60 = .ok (.iconst 0, 1) := by decide +kernel
theorem dX8_would_61 : decode cX8_would 61 = .ok (.sipush 400, 3) := by decide +kernel
theorem dX8_would_64 : decode cX8_would 64 = .ok (.invokestatic 352, 3) := by decide +kernel
theorem dX8_would_67 : decode cX8_would 67 = .ok (.ifCond .eq 29, 3) := by decide +kernel
theorem dX8_would_70 : decode cX8_would 70 = .ok (.iload 7, 2) := by decide +kernel
theorem dX8_would_72 : decode cX8_would 72 = .ok (.iconst 0, 1) := by decide +kernel
theorem dX8_would_73 : decode cX8_would 73 = .ok (.sipush 999, 3) := by decide +kernel
theorem dX8_would_76 : decode cX8_would 76 = .ok (.invokestatic 352, 3) := by decide +kernel
theorem dX8_would_79 : decode cX8_would 79 = .ok (.ifCond .eq 17, 3) := by decide +kernel
theorem dX8_would_82 : decode cX8_would 82 = .ok (.iload 8, 2) := by decide +kernel
theorem dX8_would_84 : decode cX8_would 84 = .ok (.iconst 0, 1) := by decide +kernel
theorem dX8_would_85 : decode cX8_would 85 = .ok (.iconst 4, 1) := by decide +kernel
theorem dX8_would_86 : decode cX8_would 86 = .ok (.invokestatic 352, 3) := by decide +kernel
theorem dX8_would_89 : decode cX8_would 89 = .ok (.ifCond .eq 7, 3) := by decide +kernel
theorem dX8_would_92 : decode cX8_would 92 = .ok (.iconst 1, 1) := by decide +kernel
theorem dX8_would_93 : decode cX8_would 93 = .ok (.goto 4, 3) := by decide +kernel
theorem dX8_would_96 : decode cX8_would 96 = .ok (.iconst 0, 1) := by decide +kernel
theorem dX8_would_97 : decode cX8_would 97 = .ok (.iconst 1, 1) := by decide +kernel
theorem dX8_would_98 : decode cX8_would 98 = .ok (.iconst 1, 1) := by decide +kernel
theorem dX8_would_99 : decode cX8_would 99 = .ok (.invokevirtual 190, 3) := by decide +kernel
theorem dX8_would_102 : decode cX8_would 102 = .ok (.ifCond .ne 5, 3) := by decide +kernel
theorem dX8_would_105 : decode cX8_would 105 = .ok (.iconst 0, 1) := by decide +kernel
theorem dX8_would_106 : decode cX8_would 106 = .ok (.ireturn, 1) := by decide +kernel
theorem dX8_would_107 : decode cX8_would 107 = .ok (.aload_n 0, 1) := by decide +kernel
theorem dX8_would_108 : decode cX8_would 108 = .ok (.iload_n 1, 1) := by decide +kernel
theorem dX8_would_109 : decode cX8_would 109 = .ok (.iload_n 2, 1) := by decide +kernel
theorem dX8_would_110 : decode cX8_would 110 = .ok (.iload_n 3, 1) := by decide +kernel
theorem dX8_would_111 : decode cX8_would 111 = .ok (.iload 4, 2) := by decide +kernel
theorem dX8_would_113 : decode cX8_would 113 = .ok (.iload 5, 2) := by decide +kernel
theorem dX8_would_115 : decode cX8_would 115 = .ok (.iload 6, 2) := by decide +kernel
theorem dX8_would_117 : decode cX8_would 117 = .ok (.iload 7, 2) := by decide +kernel
theorem dX8_would_119 : decode cX8_would 119 = .ok (.iload 8, 2) := by decide +kernel
theorem dX8_would_121 : decode cX8_would 121 = .ok (.invokevirtual 348, 3) := by decide +kernel
theorem dX8_would_124 : decode cX8_would 124 = .ok (.ireturn, 1) := by decide +kernel
theorem dX8_ahead_0 : decode cX8_ahead 0 = .ok (.aload_n 0, 1) := by decide +kernel
theorem dX8_ahead_1 : decode cX8_ahead 1 = .ok (.iconst 0, 1) := by decide +kernel
theorem dX8_ahead_2 : decode cX8_ahead 2 = .ok (.putfield 3, 3) := by decide +kernel
theorem dX8_ahead_5 : decode cX8_ahead 5 = .ok (.aload_n 0, 1) := by decide +kernel
theorem dX8_ahead_6 : decode cX8_ahead 6 = .ok (.iload_n 1, 1) := by decide +kernel
theorem dX8_ahead_7 : decode cX8_ahead 7 = .ok (.iconst 0, 1) := by decide +kernel
theorem dX8_ahead_8 : decode cX8_ahead 8 = .ok (.bipush 99, 2) := by decide +kernel
theorem dX8_ahead_10 : decode cX8_ahead 10 = .ok (.invokestatic 352, 3) := by decide +kernel
theorem dX8_ahead_13 : decode cX8_ahead 13 = .ok (.ifCond .eq 16, 3) := by decide +kernel
theorem dX8_ahead_16 : decode cX8_ahead 16 = .ok (.iload_n 2, 1) := by decide +kernel
theorem dX8_ahead_17 : decode cX8_ahead 17 = .ok (.iconst 0, 1) := by decide +kernel
theorem dX8_ahead_18 : decode cX8_ahead 18 = .ok (.iconst 2, 1) := by decide +kernel
theorem dX8_ahead_19 : decode cX8_ahead 19 = .ok (.invokestatic 352, 3) := by decide +kernel
theorem dX8_ahead_22 : decode cX8_ahead 22 = .ok (.ifCond .eq 7, 3) := by decide +kernel
theorem dX8_ahead_25 : decode cX8_ahead 25 = .ok (.iconst 1, 1) := by decide +kernel
theorem dX8_ahead_26 : decode cX8_ahead 26 = .ok (.goto 4, 3) := by decide +kernel
theorem dX8_ahead_29 : decode cX8_ahead 29 = .ok (.iconst 0, 1) := by decide +kernel
theorem dX8_ahead_30 : decode cX8_ahead 30 = .ok (.iconst 1, 1) := by decide +kernel
theorem dX8_ahead_31 : decode cX8_ahead 31 = .ok (.iconst 1, 1) := by decide +kernel
theorem dX8_ahead_32 : decode cX8_ahead 32 = .ok (.invokevirtual 190, 3) := by decide +kernel
theorem dX8_ahead_35 : decode cX8_ahead 35 = .ok (.ifCond .ne 5, 3) := by decide +kernel
theorem dX8_ahead_38 : decode cX8_ahead 38 = .ok (.iconst 0, 1) := by decide +kernel
theorem dX8_ahead_39 : decode cX8_ahead 39 = .ok (.ireturn, 1) := by decide +kernel
theorem dX8_ahead_40 : decode cX8_ahead 40 = .ok (.aload_n 0, 1) := by decide +kernel
theorem dX8_ahead_41 : decode cX8_ahead 41 = .ok (.invokevirtual 302, 3) := by decide +kernel
theorem dX8_ahead_44 : decode cX8_ahead 44 = .ok (.iconst 0, 1) := by decide +kernel
theorem dX8_ahead_45 : decode cX8_ahead 45 = .ok (.istore_n 3, 1) := by decide +kernel
theorem dX8_ahead_46 : decode cX8_ahead 46 = .ok (.iload_n 3, 1) := by decide +kernel
theorem dX8_ahead_47 : decode cX8_ahead 47 = .ok (.iload_n 1, 1) := by decide +kernel
theorem dX8_ahead_48 : decode cX8_ahead 48 = .ok (.if_icmp .ge 13, 3) := by decide +kernel
theorem dX8_ahead_51 : decode cX8_ahead 51 = .ok (.aload_n 0, 1) := by decide +kernel
theorem dX8_ahead_52 : decode cX8_ahead 52 = .ok (.invokevirtual 380, 3) := by decide +kernel
theorem dX8_ahead_55 : decode cX8_ahead 55 = .ok (.iinc 3 1, 3) := by decide +kernel
theorem dX8_ahead_58 : decode cX8_ahead 58 = .ok (.goto (-12), 3) := by decide +kernel
theorem dX8_ahead_61 : decode cX8_ahead 61 = .ok (.iload_n 2, 1) := by decide +kernel
theorem dX8_ahead_62 : decode cX8_ahead 62 = .ok (.ifCond .ne 10, 3) := by decide +kernel
theorem dX8_ahead_65 : decode cX8_ahead 65 = .ok (.aload_n 0, 1) := by decide +kernel
theorem dX8_ahead_66 : decode cX8_ahead 66 = .ok (.invokevirtual 356, 3) := by decide +kernel
theorem dX8_ahead_69 : decode cX8_ahead 69 = .ok (.goto 22, 3) := by decide +kernel
theorem dX8_ahead_72 : decode cX8_ahead 72 = .ok (.iload_n 2, 1) := by decide +kernel
theorem dX8_ahead_73 : decode cX8_ahead 73 = .ok (.iconst 1, 1) := by decide +kernel
theorem dX8_ahead_74 : decode cX8_ahead 74 = .ok (.if_icmp .ne 10, 3) := by decide +kernel
theorem dX8_ahead_77 : decode cX8_ahead 77 = .ok (.aload_n 0, 1) := by decide +kernel
theorem dX8_ahead_78 : decode cX8_ahead 78 = .ok (.invokevirtual 386, 3) := by decide +kernel
theorem dX8_ahead_81 : decode cX8_ahead 81 = .ok (.goto 10, 3) := by decide +kernel
theorem dX8_ahead_84 : decode cX8_ahead 84 = .ok (.aload_n 0, 1) := by decide +kernel
theorem dX8_ahead_85 : decode cX8_ahead 85 = .ok (.getfield 62, 3) := by decide +kernel
theorem dX8_ahead_88 : decode cX8_ahead 88 = .ok (.bipush 26, 2) := by decide +kernel
theorem dX8_ahead_90 : decode cX8_ahead 90 = .ok (.iaload, 1) := by decide +kernel
theorem dX8_ahead_91 : decode cX8_ahead 91 = .ok (.ireturn, 1) := by decide +kernel
theorem dX8_lasts_0 : decode cX8_lasts 0 = .ok (.aload_n 0, 1) := by decide +kernel
theorem dX8_lasts_1 : decode cX8_lasts 1 = .ok (.iconst 0, 1) := by decide +kernel
theorem dX8_lasts_2 : decode cX8_lasts 2 = .ok (.putfield 3, 3) := by decide +kernel
theorem dX8_lasts_5 : decode cX8_lasts 5 = .ok (.aload_n 0, 1) := by decide +kernel
theorem dX8_lasts_6 : decode cX8_lasts 6 = .ok (.iload_n 1, 1) := by decide +kernel
theorem dX8_lasts_7 : decode cX8_lasts 7 = .ok (.iconst 1, 1) := by decide +kernel
theorem dX8_lasts_8 : decode cX8_lasts 8 = .ok (.invokevirtual 395, 3) := by decide +kernel
theorem dX8_lasts_11 : decode cX8_lasts 11 = .ok (.ifCond .ne 5, 3) := by decide +kernel
theorem dX8_lasts_14 : decode cX8_lasts 14 = .ok (.iconst 0, 1) := by decide +kernel
theorem dX8_lasts_15 : decode cX8_lasts 15 = .ok (.ireturn, 1) := by decide +kernel
theorem dX8_lasts_16 : decode cX8_lasts 16 = .ok (.aload_n 0, 1) := by decide +kernel
theorem dX8_lasts_17 : decode cX8_lasts 17 = .ok (.invokevirtual 302, 3) := by decide +kernel
theorem dX8_lasts_20 : decode cX8_lasts 20 = .ok (.iconst 1, 1) := by decide +kernel
theorem dX8_lasts_21 : decode cX8_lasts 21 = .ok (.istore_n 2, 1) := by decide +kernel
theorem dX8_lasts_22 : decode cX8_lasts 22 = .ok (.iload_n 2, 1) := by decide +kernel
theorem dX8_lasts_23 : decode cX8_lasts 23 = .ok (.bipush 99, 2) := by decide +kernel
theorem dX8_lasts_25 : decode cX8_lasts 25 = .ok (.if_icmp .gt 39, 3) := by decide +kernel
theorem dX8_lasts_28 : decode cX8_lasts 28 = .ok (.aload_n 0, 1) := by decide +kernel
theorem dX8_lasts_29 : decode cX8_lasts 29 = .ok (.getfield 62, 3) := by decide +kernel
theorem dX8_lasts_32 : decode cX8_lasts 32 = .ok (.bipush 10, 2) := by decide +kernel
theorem dX8_lasts_34 : decode cX8_lasts 34 = .ok (.iload_n 1, 1) := by decide +kernel
theorem dX8_lasts_35 : decode cX8_lasts 35 = .ok (.iadd, 1) := by decide +kernel
theorem dX8_lasts_36 : decode cX8_lasts 36 = .ok (.iaload, 1) := by decide +kernel
theorem dX8_lasts_37 : decode cX8_lasts 37 = .ok (.ifCond .le 27, 3) := by decide +kernel
theorem dX8_lasts_40 : decode cX8_lasts 40 = .ok (.aload_n 0, 1) := by decide +kernel
theorem dX8_lasts_41 : decode cX8_lasts 41 = .ok (.invokevirtual 380, 3) := by decide +kernel
theorem dX8_lasts_44 : decode cX8_lasts 44 = .ok (.aload_n 0, 1) := by decide +kernel
theorem dX8_lasts_45 : decode cX8_lasts 45 = .ok (.getfield 62, 3) := by decide +kernel
theorem dX8_lasts_48 : decode cX8_lasts 48 = .ok (.bipush 10, 2) := by decide +kernel
theorem dX8_lasts_50 : decode cX8_lasts 50 = .ok (.iload_n 1, 1) := by decide +kernel
theorem dX8_lasts_51 : decode cX8_lasts 51 = .ok (.iadd, 1) := by decide +kernel
theorem dX8_lasts_52 : decode cX8_lasts 52 = .ok (.iaload, 1) := by decide +kernel
theorem dX8_lasts_53 : decode cX8_lasts 53 = .ok (.ifCond .ne 5, 3) := by decide +kernel
theorem dX8_lasts_56 : decode cX8_lasts 56 = .ok (.iload_n 2, 1) := by decide +kernel
theorem dX8_lasts_57 : decode cX8_lasts 57 = .ok (.ireturn, 1) := by decide +kernel
theorem dX8_lasts_58 : decode cX8_lasts 58 = .ok (.iinc 2 1, 3) := by decide +kernel
theorem dX8_lasts_61 : decode cX8_lasts 61 = .ok (.goto (-39), 3) := by decide +kernel
theorem dX8_lasts_64 : decode cX8_lasts 64 = .ok (.iconst (-1), 1) := by decide +kernel
theorem dX8_lasts_65 : decode cX8_lasts 65 = .ok (.ireturn, 1) := by decide +kernel
theorem dX8_least_0 : decode cX8_least 0 = .ok (.lload_n 0, 1) := by decide +kernel
theorem dX8_least_1 : decode cX8_least 1 = .ok (.lstore 5, 2) := by decide +kernel
theorem dX8_least_3 : decode cX8_least 3 = .ok (.lload_n 2, 1) := by decide +kernel
theorem dX8_least_4 : decode cX8_least 4 = .ok (.lstore 7, 2) := by decide +kernel
theorem dX8_least_6 : decode cX8_least 6 = .ok (.lload 7, 2) := by decide +kernel
theorem dX8_least_8 : decode cX8_least 8 = .ok (.lconst 0, 1) := by decide +kernel
theorem dX8_least_9 : decode cX8_least 9 = .ok (.lcmp, 1) := by decide +kernel
theorem dX8_least_10 : decode cX8_least 10 = .ok (.ifCond .eq 21, 3) := by decide +kernel
theorem dX8_least_13 : decode cX8_least 13 = .ok (.lload 5, 2) := by decide +kernel
theorem dX8_least_15 : decode cX8_least 15 = .ok (.lload 7, 2) := by decide +kernel
theorem dX8_least_17 : decode cX8_least 17 = .ok (.lrem, 1) := by decide +kernel
theorem dX8_least_18 : decode cX8_least 18 = .ok (.lstore 9, 2) := by decide +kernel
theorem dX8_least_20 : decode cX8_least 20 = .ok (.lload 7, 2) := by decide +kernel
theorem dX8_least_22 : decode cX8_least 22 = .ok (.lstore 5, 2) := by decide +kernel
theorem dX8_least_24 : decode cX8_least 24 = .ok (.lload 9, 2) := by decide +kernel
theorem dX8_least_26 : decode cX8_least 26 = .ok (.lstore 7, 2) := by decide +kernel
theorem dX8_least_28 : decode cX8_least 28 = .ok (.goto (-22), 3) := by decide +kernel
theorem dX8_least_31 : decode cX8_least 31 = .ok (.iload 4, 2) := by decide +kernel
theorem dX8_least_33 : decode cX8_least 33 = .ok (.ifCond .ne 7, 3) := by decide +kernel
theorem dX8_least_36 : decode cX8_least 36 = .ok (.lload_n 0, 1) := by decide +kernel
theorem dX8_least_37 : decode cX8_least 37 = .ok (.goto 4, 3) := by decide +kernel
theorem dX8_least_40 : decode cX8_least 40 = .ok (.lload_n 2, 1) := by decide +kernel
theorem dX8_least_41 : decode cX8_least 41 = .ok (.lload 5, 2) := by decide +kernel
theorem dX8_least_43 : decode cX8_least 43 = .ok (.ldiv, 1) := by decide +kernel
theorem dX8_least_44 : decode cX8_least 44 = .ok (.lreturn, 1) := by decide +kernel
theorem dX8_wall_0 : decode cX8_wall 0 = .ok (.aload_n 0, 1) := by decide +kernel
theorem dX8_wall_1 : decode cX8_wall 1 = .ok (.iconst 0, 1) := by decide +kernel
theorem dX8_wall_2 : decode cX8_wall 2 = .ok (.putfield 3, 3) := by decide +kernel
theorem dX8_wall_5 : decode cX8_wall 5 = .ok (.aload_n 0, 1) := by decide +kernel
theorem dX8_wall_6 : decode cX8_wall 6 = .ok (.iload_n 1, 1) := by decide +kernel
theorem dX8_wall_7 : decode cX8_wall 7 = .ok (.iconst 1, 1) := by decide +kernel
theorem dX8_wall_8 : decode cX8_wall 8 = .ok (.invokevirtual 395, 3) := by decide +kernel
theorem dX8_wall_11 : decode cX8_wall 11 = .ok (.ifCond .eq 27, 3) := by decide +kernel
theorem dX8_wall_14 : decode cX8_wall 14 = .ok (.aload_n 0, 1) := by decide +kernel
theorem dX8_wall_15 : decode cX8_wall 15 = .ok (.iload_n 2, 1) := by decide +kernel
theorem dX8_wall_16 : decode cX8_wall 16 = .ok (.iconst 1, 1) := by decide +kernel
theorem dX8_wall_17 : decode cX8_wall 17 = .ok (.invokevirtual 395, 3) := by decide +kernel
theorem dX8_wall_20 : decode cX8_wall 20 = .ok (.ifCond .eq 18, 3) := by decide +kernel
theorem dX8_wall_23 : decode cX8_wall 23 = .ok (.aload_n 0, 1) := by decide +kernel
theorem dX8_wall_24 : decode cX8_wall 24 = .ok (.iload_n 3, 1) := by decide +kernel
theorem dX8_wall_25 : decode cX8_wall 25 = .ok (.iconst 0, 1) := by decide +kernel
theorem dX8_wall_26 : decode cX8_wall 26 = .ok (.iconst 1, 1) := by decide +kernel
theorem dX8_wall_27 : decode cX8_wall 27 = .ok (.invokestatic 352, 3) := by decide +kernel
theorem dX8_wall_30 : decode cX8_wall 30 = .ok (.iconst 2, 1) := by decide +kernel
theorem dX8_wall_31 : decode cX8_wall 31 = .ok (.iconst 1, 1) := by decide +kernel
theorem dX8_wall_32 : decode cX8_wall 32 = .ok (.invokevirtual 190, 3) := by decide +kernel
theorem dX8_wall_35 : decode cX8_wall 35 = .ok (.ifCond .ne 5, 3) := by decide +kernel
theorem dX8_wall_38 : decode cX8_wall 38 = .ok (.iconst 0, 1) := by decide +kernel
theorem dX8_wall_39 : decode cX8_wall 39 = .ok (.ireturn, 1) := by decide +kernel
theorem dX8_wall_40 : decode cX8_wall 40 = .ok (.aload_n 0, 1) := by decide +kernel
theorem dX8_wall_41 : decode cX8_wall 41 = .ok (.invokevirtual 302, 3) := by decide +kernel
theorem dX8_wall_44 : decode cX8_wall 44 = .ok (.aload_n 0, 1) := by decide +kernel
theorem dX8_wall_45 : decode cX8_wall 45 = .ok (.iload_n 1, 1) := by decide +kernel
theorem dX8_wall_46 : decode cX8_wall 46 = .ok (.iload_n 2, 1) := by decide +kernel
theorem dX8_wall_47 : decode cX8_wall 47 = .ok (.invokevirtual 330, 3) := by decide +kernel
theorem dX8_wall_50 : decode cX8_wall 50 = .ok (.ifCond .ne 5, 3) := by decide +kernel
theorem dX8_wall_53 : decode cX8_wall 53 = .ok (.iconst (-1), 1) := by decide +kernel
theorem dX8_wall_54 : decode cX8_wall 54 = .ok (.ireturn, 1) := by decide +kernel
theorem dX8_wall_55 : decode cX8_wall 55 = .ok (.aload_n 0, 1) := by decide +kernel
theorem dX8_wall_56 : decode cX8_wall 56 = .ok (.getfield 62, 3) := by decide +kernel
theorem dX8_wall_59 : decode cX8_wall 59 = .ok (.bipush 10, 2) := by decide +kernel
theorem dX8_wall_61 : decode cX8_wall 61 = .ok (.iload_n 1, 1) := by decide +kernel
theorem dX8_wall_62 : decode cX8_wall 62 = .ok (.iadd, 1) := by decide +kernel
theorem dX8_wall_63 : decode cX8_wall 63 = .ok (.iaload, 1) := by decide +kernel
theorem dX8_wall_64 : decode cX8_wall 64 = .ok (.istore 4, 2) := by decide +kernel
theorem dX8_wall_66 : decode cX8_wall 66 = .ok (.aload_n 0, 1) := by decide +kernel
theorem dX8_wall_67 : decode cX8_wall 67 = .ok (.getfield 62, 3) := by decide +kernel
theorem dX8_wall_70 : decode cX8_wall 70 = .ok (.bipush 10, 2) := by decide +kernel
theorem dX8_wall_72 : decode cX8_wall 72 = .ok (.iload_n 2, 1) := by decide +kernel
theorem dX8_wall_73 : decode cX8_wall 73 = .ok (.iadd, 1) := by decide +kernel
theorem dX8_wall_74 : decode cX8_wall 74 = .ok (.iaload, 1) := by decide +kernel
theorem dX8_wall_75 : decode cX8_wall 75 = .ok (.istore 5, 2) := by decide +kernel
theorem dX8_wall_77 : decode cX8_wall 77 = .ok (.iload 4, 2) := by decide +kernel
theorem dX8_wall_79 : decode cX8_wall 79 = .ok (.iload 5, 2) := by decide +kernel
theorem dX8_wall_81 : decode cX8_wall 81 = .ok (.if_icmp .ne 7, 3) := by decide +kernel
theorem dX8_wall_84 : decode cX8_wall 84 = .ok (.iload_n 3, 1) := by decide +kernel
theorem dX8_wall_85 : decode cX8_wall 85 = .ok (.goto 23, 3) := by decide +kernel
theorem dX8_wall_88 : decode cX8_wall 88 = .ok (.iload 4, 2) := by decide +kernel
theorem dX8_wall_90 : decode cX8_wall 90 = .ok (.iload 5, 2) := by decide +kernel
theorem dX8_wall_92 : decode cX8_wall 92 = .ok (.imul, 1) := by decide +kernel
theorem dX8_wall_93 : decode cX8_wall 93 = .ok (.i2l, 1) := by decide +kernel
theorem dX8_wall_94 : decode cX8_wall 94 = .ok (.iload 4, 2) := by decide +kernel
theorem dX8_wall_96 : decode cX8_wall 96 = .ok (.iload 5, 2) := by decide +kernel
theorem dX8_wall_98 : decode cX8_wall 98 = .ok (.isub, 1) := by decide +kernel
theorem dX8_wall_99 : decode cX8_wall 99 = .ok (.invokestatic 321, 3) := by decide +kernel
theorem dX8_wall_102 : decode cX8_wall 102 = .ok (.i2l, 1) := by decide +kernel
theorem dX8_wall_103 : decode cX8_wall 103 = .ok (.iload_n 3, 1) := by decide +kernel
theorem dX8_wall_104 : decode cX8_wall 104 = .ok (.invokestatic 401, 3) := by decide +kernel
theorem dX8_wall_107 : decode cX8_wall 107 = .ok (.l2i, 1) := by decide +kernel
theorem dX8_wall_108 : decode cX8_wall 108 = .ok (.ireturn, 1) := by decide +kernel
theorem dX8_worthFrom_0 : decode cX8_worthFrom 0 = .ok (.iconst 0, 1) := by decide +kernel
theorem dX8_worthFrom_1 : decode cX8_worthFrom 1 = .ok (.istore_n 3, 1) := by decide +kernel
theorem dX8_worthFrom_2 : decode cX8_worthFrom 2 = .ok (.iconst 0, 1) := by decide +kernel
theorem dX8_worthFrom_3 : decode cX8_worthFrom 3 = .ok (.istore 4, 2) := by decide +kernel
theorem dX8_worthFrom_5 : decode cX8_worthFrom 5 = .ok (.iload 4, 2) := by decide +kernel
theorem dX8_worthFrom_7 : decode cX8_worthFrom 7 = .ok (.aload_n 0, 1) := by decide +kernel
theorem dX8_worthFrom_8 : decode cX8_worthFrom 8 = .ok (.getfield 151, 3) := by decide +kernel
theorem dX8_worthFrom_11 : decode cX8_worthFrom 11 = .ok (.if_icmp .ge 44, 3) := by decide +kernel
theorem dX8_worthFrom_14 : decode cX8_worthFrom 14 = .ok (.iload_n 3, 1) := by decide +kernel
theorem dX8_worthFrom_15 : decode cX8_worthFrom 15 = .ok (.aload_n 0, 1) := by decide +kernel
theorem dX8_worthFrom_16 : decode cX8_worthFrom 16 = .ok (.getfield 29, 3) := by decide +kernel
theorem dX8_worthFrom_19 : decode cX8_worthFrom 19 = .ok (.iconst 2, 1) := by decide +kernel
theorem dX8_worthFrom_20 : decode cX8_worthFrom 20 = .ok (.iload 4, 2) := by decide +kernel
theorem dX8_worthFrom_22 : decode cX8_worthFrom 22 = .ok (.imul, 1) := by decide +kernel
theorem dX8_worthFrom_23 : decode cX8_worthFrom 23 = .ok (.iaload, 1) := by decide +kernel
theorem dX8_worthFrom_24 : decode cX8_worthFrom 24 = .ok (.iload_n 1, 1) := by decide +kernel
theorem dX8_worthFrom_25 : decode cX8_worthFrom 25 = .ok (.iload_n 2, 1) := by decide +kernel
theorem dX8_worthFrom_26 : decode cX8_worthFrom 26 = .ok (.invokestatic 352, 3) := by decide +kernel
theorem dX8_worthFrom_29 : decode cX8_worthFrom 29 = .ok (.ifCond .eq 17, 3) := by decide +kernel
theorem dX8_worthFrom_32 : decode cX8_worthFrom 32 = .ok (.aload_n 0, 1) := by decide +kernel
theorem dX8_worthFrom_33 : decode cX8_worthFrom 33 = .ok (.getfield 29, 3) := by decide +kernel
theorem dX8_worthFrom_36 : decode cX8_worthFrom 36 = .ok (.iconst 2, 1) := by decide +kernel
theorem dX8_worthFrom_37 : decode cX8_worthFrom 37 = .ok (.iload 4, 2) := by decide +kernel
theorem dX8_worthFrom_39 : decode cX8_worthFrom 39 = .ok (.imul, 1) := by decide +kernel
theorem dX8_worthFrom_40 : decode cX8_worthFrom 40 = .ok (.iconst 1, 1) := by decide +kernel
theorem dX8_worthFrom_41 : decode cX8_worthFrom 41 = .ok (.iadd, 1) := by decide +kernel
theorem dX8_worthFrom_42 : decode cX8_worthFrom 42 = .ok (.iaload, 1) := by decide +kernel
theorem dX8_worthFrom_43 : decode cX8_worthFrom 43 = .ok (.goto 4, 3) := by decide +kernel
theorem dX8_worthFrom_46 : decode cX8_worthFrom 46 = .ok (.iconst 0, 1) := by decide +kernel
theorem dX8_worthFrom_47 : decode cX8_worthFrom 47 = .ok (.iadd, 1) := by decide +kernel
theorem dX8_worthFrom_48 : decode cX8_worthFrom 48 = .ok (.istore_n 3, 1) := by decide +kernel
theorem dX8_worthFrom_49 : decode cX8_worthFrom 49 = .ok (.iinc 4 1, 3) := by decide +kernel
theorem dX8_worthFrom_52 : decode cX8_worthFrom 52 = .ok (.goto (-47), 3) := by decide +kernel
theorem dX8_worthFrom_55 : decode cX8_worthFrom 55 = .ok (.iload_n 3, 1) := by decide +kernel
theorem dX8_worthFrom_56 : decode cX8_worthFrom 56 = .ok (.ireturn, 1) := by decide +kernel
theorem dX8_pitch_0 : decode cX8_pitch 0 = .ok (.aload_n 0, 1) := by decide +kernel
theorem dX8_pitch_1 : decode cX8_pitch 1 = .ok (.iconst 0, 1) := by decide +kernel
theorem dX8_pitch_2 : decode cX8_pitch 2 = .ok (.putfield 3, 3) := by decide +kernel
theorem dX8_pitch_5 : decode cX8_pitch 5 = .ok (.aload_n 0, 1) := by decide +kernel
theorem dX8_pitch_6 : decode cX8_pitch 6 = .ok (.iload_n 1, 1) := by decide +kernel
theorem dX8_pitch_7 : decode cX8_pitch 7 = .ok (.iconst 1, 1) := by decide +kernel
theorem dX8_pitch_8 : decode cX8_pitch 8 = .ok (.bipush 20, 2) := by decide +kernel
theorem dX8_pitch_10 : decode cX8_pitch 10 = .ok (.invokestatic 352, 3) := by decide +kernel
theorem dX8_pitch_13 : decode cX8_pitch 13 = .ok (.ifCond .eq 16, 3) := by decide +kernel
theorem dX8_pitch_16 : decode cX8_pitch 16 = .ok (.iload_n 2, 1) := by decide +kernel
theorem dX8_pitch_17 : decode cX8_pitch 17 = .ok (.iconst 0, 1) := by decide +kernel
theorem dX8_pitch_18 : decode cX8_pitch 18 = .ok (.iconst 1, 1) := by decide +kernel
theorem dX8_pitch_19 : decode cX8_pitch 19 = .ok (.invokestatic 352, 3) := by decide +kernel
theorem dX8_pitch_22 : decode cX8_pitch 22 = .ok (.ifCond .eq 7, 3) := by decide +kernel
theorem dX8_pitch_25 : decode cX8_pitch 25 = .ok (.iconst 1, 1) := by decide +kernel
theorem dX8_pitch_26 : decode cX8_pitch 26 = .ok (.goto 4, 3) := by decide +kernel
theorem dX8_pitch_29 : decode cX8_pitch 29 = .ok (.iconst 0, 1) := by decide +kernel
theorem dX8_pitch_30 : decode cX8_pitch 30 = .ok (.iconst 1, 1) := by decide +kernel
theorem dX8_pitch_31 : decode cX8_pitch 31 = .ok (.iconst 1, 1) := by decide +kernel
theorem dX8_pitch_32 : decode cX8_pitch 32 = .ok (.invokevirtual 190, 3) := by decide +kernel
theorem dX8_pitch_35 : decode cX8_pitch 35 = .ok (.ifCond .ne 5, 3) := by decide +kernel
theorem dX8_pitch_38 : decode cX8_pitch 38 = .ok (.iconst 0, 1) := by decide +kernel
theorem dX8_pitch_39 : decode cX8_pitch 39 = .ok (.ireturn, 1) := by decide +kernel
theorem dX8_pitch_40 : decode cX8_pitch 40 = .ok (.iconst 0, 1) := by decide +kernel
theorem dX8_pitch_41 : decode cX8_pitch 41 = .ok (.istore_n 3, 1) := by decide +kernel
theorem dX8_pitch_42 : decode cX8_pitch 42 = .ok (.iconst 1, 1) := by decide +kernel
theorem dX8_pitch_43 : decode cX8_pitch 43 = .ok (.istore 4, 2) := by decide +kernel
theorem dX8_pitch_45 : decode cX8_pitch 45 = .ok (.iload 4, 2) := by decide +kernel
theorem dX8_pitch_47 : decode cX8_pitch 47 = .ok (.bipush 99, 2) := by decide +kernel
theorem dX8_pitch_49 : decode cX8_pitch 49 = .ok (.if_icmp .gt 37, 3) := by decide +kernel
theorem dX8_pitch_52 : decode cX8_pitch 52 = .ok (.aload_n 0, 1) := by decide +kernel
theorem dX8_pitch_53 : decode cX8_pitch 53 = .ok (.iload 4, 2) := by decide +kernel
theorem dX8_pitch_55 : decode cX8_pitch 55 = .ok (.iload_n 1, 1) := by decide +kernel
theorem dX8_pitch_56 : decode cX8_pitch 56 = .ok (.isub, 1) := by decide +kernel
theorem dX8_pitch_57 : decode cX8_pitch 57 = .ok (.iload 4, 2) := by decide +kernel
theorem dX8_pitch_59 : decode cX8_pitch 59 = .ok (.iload_n 1, 1) := by decide +kernel
theorem dX8_pitch_60 : decode cX8_pitch 60 = .ok (.iadd, 1) := by decide +kernel
theorem dX8_pitch_61 : decode cX8_pitch 61 = .ok (.invokevirtual 404, 3) := by decide +kernel
theorem dX8_pitch_64 : decode cX8_pitch 64 = .ok (.aload_n 0, 1) := by decide +kernel
theorem dX8_pitch_65 : decode cX8_pitch 65 = .ok (.iload_n 3, 1) := by decide +kernel
theorem dX8_pitch_66 : decode cX8_pitch 66 = .ok (.iload_n 1, 1) := by decide +kernel
theorem dX8_pitch_67 : decode cX8_pitch 67 = .ok (.isub, 1) := by decide +kernel
theorem dX8_pitch_68 : decode cX8_pitch 68 = .ok (.iload_n 3, 1) := by decide +kernel
theorem dX8_pitch_69 : decode cX8_pitch 69 = .ok (.iload_n 1, 1) := by decide +kernel
theorem dX8_pitch_70 : decode cX8_pitch 70 = .ok (.iadd, 1) := by decide +kernel
theorem dX8_pitch_71 : decode cX8_pitch 71 = .ok (.invokevirtual 404, 3) := by decide +kernel
theorem dX8_pitch_74 : decode cX8_pitch 74 = .ok (.if_icmp .le 6, 3) := by decide +kernel
theorem dX8_pitch_77 : decode cX8_pitch 77 = .ok (.iload 4, 2) := by decide +kernel
theorem dX8_pitch_79 : decode cX8_pitch 79 = .ok (.istore_n 3, 1) := by decide +kernel
theorem dX8_pitch_80 : decode cX8_pitch 80 = .ok (.iinc 4 1, 3) := by decide +kernel
theorem dX8_pitch_83 : decode cX8_pitch 83 = .ok (.goto (-38), 3) := by decide +kernel
theorem dX8_pitch_86 : decode cX8_pitch 86 = .ok (.iload_n 2, 1) := by decide +kernel
theorem dX8_pitch_87 : decode cX8_pitch 87 = .ok (.ifCond .ne 7, 3) := by decide +kernel
theorem dX8_pitch_90 : decode cX8_pitch 90 = .ok (.iload_n 3, 1) := by decide +kernel
theorem dX8_pitch_91 : decode cX8_pitch 91 = .ok (.goto 13, 3) := by decide +kernel
theorem dX8_pitch_94 : decode cX8_pitch 94 = .ok (.aload_n 0, 1) := by decide +kernel
theorem dX8_pitch_95 : decode cX8_pitch 95 = .ok (.iload_n 3, 1) := by decide +kernel
theorem dX8_pitch_96 : decode cX8_pitch 96 = .ok (.iload_n 1, 1) := by decide +kernel
theorem dX8_pitch_97 : decode cX8_pitch 97 = .ok (.isub, 1) := by decide +kernel
theorem dX8_pitch_98 : decode cX8_pitch 98 = .ok (.iload_n 3, 1) := by decide +kernel
theorem dX8_pitch_99 : decode cX8_pitch 99 = .ok (.iload_n 1, 1) := by decide +kernel
theorem dX8_pitch_100 : decode cX8_pitch 100 = .ok (.iadd, 1) := by decide +kernel
theorem dX8_pitch_101 : decode cX8_pitch 101 = .ok (.invokevirtual 404, 3) := by decide +kernel
theorem dX8_pitch_104 : decode cX8_pitch 104 = .ok (.ireturn, 1) := by decide +kernel
theorem dX8_street_0 : decode cX8_street 0 = .ok (.aload_n 0, 1) := by decide +kernel
theorem dX8_street_1 : decode cX8_street 1 = .ok (.iconst 0, 1) := by decide +kernel
theorem dX8_street_2 : decode cX8_street 2 = .ok (.putfield 3, 3) := by decide +kernel
theorem dX8_street_5 : decode cX8_street 5 = .ok (.aload_n 0, 1) := by decide +kernel
theorem dX8_street_6 : decode cX8_street 6 = .ok (.iload_n 1, 1) := by decide +kernel
theorem dX8_street_7 : decode cX8_street 7 = .ok (.iconst 1, 1) := by decide +kernel
theorem dX8_street_8 : decode cX8_street 8 = .ok (.bipush 20, 2) := by decide +kernel
theorem dX8_street_10 : decode cX8_street 10 = .ok (.invokestatic 352, 3) := by decide +kernel
theorem dX8_street_13 : decode cX8_street 13 = .ok (.ifCond .eq 17, 3) := by decide +kernel
theorem dX8_street_16 : decode cX8_street 16 = .ok (.iload_n 2, 1) := by decide +kernel
theorem dX8_street_17 : decode cX8_street 17 = .ok (.iconst 0, 1) := by decide +kernel
theorem dX8_street_18 : decode cX8_street 18 = .ok (.bipush 8, 2) := by decide +kernel
theorem dX8_street_20 : decode cX8_street 20 = .ok (.invokestatic 352, 3) := by decide +kernel
theorem dX8_street_23 : decode cX8_street 23 = .ok (.ifCond .eq 7, 3) := by decide +kernel
theorem dX8_street_26 : decode cX8_street 26 = .ok (.iconst 1, 1) := by decide +kernel
theorem dX8_street_27 : decode cX8_street 27 = .ok (.goto 4, 3) := by decide +kernel
theorem dX8_street_30 : decode cX8_street 30 = .ok (.iconst 0, 1) := by decide +kernel
theorem dX8_street_31 : decode cX8_street 31 = .ok (.iconst 1, 1) := by decide +kernel
theorem dX8_street_32 : decode cX8_street 32 = .ok (.iconst 1, 1) := by decide +kernel
theorem dX8_street_33 : decode cX8_street 33 = .ok (.invokevirtual 190, 3) := by decide +kernel
theorem dX8_street_36 : decode cX8_street 36 = .ok (.ifCond .ne 5, 3) := by decide +kernel
theorem dX8_street_39 : decode cX8_street 39 = .ok (.iconst 0, 1) := by decide +kernel
theorem dX8_street_40 : decode cX8_street 40 = .ok (.ireturn, 1) := by decide +kernel
theorem dX8_street_41 : decode cX8_street 41 = .ok (.iconst 0, 1) := by decide +kernel
theorem dX8_street_42 : decode cX8_street 42 = .ok (.istore_n 3, 1) := by decide +kernel
theorem dX8_street_43 : decode cX8_street 43 = .ok (.iload_n 3, 1) := by decide +kernel
theorem dX8_street_44 : decode cX8_street 44 = .ok (.sipush 1278, 3) := by decide +kernel
theorem dX8_street_47 : decode cX8_street 47 = .ok (.if_icmp .ge 16, 3) := by decide +kernel
theorem dX8_street_50 : decode cX8_street 50 = .ok (.aload_n 0, 1) := by decide +kernel
theorem dX8_street_51 : decode cX8_street 51 = .ok (.getfield 74, 3) := by decide +kernel
theorem dX8_street_54 : decode cX8_street 54 = .ok (.iload_n 3, 1) := by decide +kernel
theorem dX8_street_55 : decode cX8_street 55 = .ok (.iconst 0, 1) := by decide +kernel
theorem dX8_street_56 : decode cX8_street 56 = .ok (.iastore, 1) := by decide +kernel
theorem dX8_street_57 : decode cX8_street 57 = .ok (.iinc 3 1, 3) := by decide +kernel
theorem dX8_street_60 : decode cX8_street 60 = .ok (.goto (-17), 3) := by decide +kernel
theorem dX8_street_63 : decode cX8_street 63 = .ok (.iconst 1, 1) := by decide +kernel
theorem dX8_street_64 : decode cX8_street 64 = .ok (.istore_n 3, 1) := by decide +kernel
theorem dX8_street_65 : decode cX8_street 65 = .ok (.iload_n 3, 1) := by decide +kernel
theorem dX8_street_66 : decode cX8_street 66 = .ok (.iload_n 2, 1) := by decide +kernel
theorem dX8_street_67 : decode cX8_street 67 = .ok (.if_icmp .gt 104, 3) := by decide +kernel
theorem dX8_street_70 : decode cX8_street 70 = .ok (.bipush 99, 2) := by decide +kernel
theorem dX8_street_72 : decode cX8_street 72 = .ok (.istore 4, 2) := by decide +kernel
theorem dX8_street_74 : decode cX8_street 74 = .ok (.iload 4, 2) := by decide +kernel
theorem dX8_street_76 : decode cX8_street 76 = .ok (.ifCond .lt 89, 3) := by decide +kernel
theorem dX8_street_79 : decode cX8_street 79 = .ok (.aload_n 0, 1) := by decide +kernel
theorem dX8_street_80 : decode cX8_street 80 = .ok (.getfield 74, 3) := by decide +kernel
theorem dX8_street_83 : decode cX8_street 83 = .ok (.sipush 142, 3) := by decide +kernel
theorem dX8_street_86 : decode cX8_street 86 = .ok (.iload_n 3, 1) := by decide +kernel
theorem dX8_street_87 : decode cX8_street 87 = .ok (.imul, 1) := by decide +kernel
theorem dX8_street_88 : decode cX8_street 88 = .ok (.iload 4, 2) := by decide +kernel
theorem dX8_street_90 : decode cX8_street 90 = .ok (.iadd, 1) := by decide +kernel
theorem dX8_street_91 : decode cX8_street 91 = .ok (.iconst 1, 1) := by decide +kernel
theorem dX8_street_92 : decode cX8_street 92 = .ok (.iadd, 1) := by decide +kernel
theorem dX8_street_93 : decode cX8_street 93 = .ok (.iaload, 1) := by decide +kernel
theorem dX8_street_94 : decode cX8_street 94 = .ok (.istore 5, 2) := by decide +kernel
theorem dX8_street_96 : decode cX8_street 96 = .ok (.aload_n 0, 1) := by decide +kernel
theorem dX8_street_97 : decode cX8_street 97 = .ok (.iload 4, 2) := by decide +kernel
theorem dX8_street_99 : decode cX8_street 99 = .ok (.iload 4, 2) := by decide +kernel
theorem dX8_street_101 : decode cX8_street 101 = .ok (.iconst 2, 1) := by decide +kernel
theorem dX8_street_102 : decode cX8_street 102 = .ok (.iload_n 1, 1) := by decide +kernel
theorem dX8_street_103 : decode cX8_street 103 = .ok (.imul, 1) := by decide +kernel
theorem dX8_street_104 : decode cX8_street 104 = .ok (.iadd, 1) := by decide +kernel
theorem dX8_street_105 : decode cX8_street 105 = .ok (.invokevirtual 404, 3) := by decide +kernel
theorem dX8_street_108 : decode cX8_street 108 = .ok (.aload_n 0, 1) := by decide +kernel
theorem dX8_street_109 : decode cX8_street 109 = .ok (.getfield 74, 3) := by decide +kernel
theorem dX8_street_112 : decode cX8_street 112 = .ok (.sipush 142, 3) := by decide +kernel
theorem dX8_street_115 : decode cX8_street 115 = .ok (.iload_n 3, 1) := by decide +kernel
theorem dX8_street_116 : decode cX8_street 116 = .ok (.iconst 1, 1) := by decide +kernel
theorem dX8_street_117 : decode cX8_street 117 = .ok (.isub, 1) := by decide +kernel
theorem dX8_street_118 : decode cX8_street 118 = .ok (.imul, 1) := by decide +kernel
theorem dX8_street_119 : decode cX8_street 119 = .ok (.iload 4, 2) := by decide +kernel
theorem dX8_street_121 : decode cX8_street 121 = .ok (.iadd, 1) := by decide +kernel
theorem dX8_street_122 : decode cX8_street 122 = .ok (.iconst 2, 1) := by decide +kernel
theorem dX8_street_123 : decode cX8_street 123 = .ok (.iload_n 1, 1) := by decide +kernel
theorem dX8_street_124 : decode cX8_street 124 = .ok (.imul, 1) := by decide +kernel
theorem dX8_street_125 : decode cX8_street 125 = .ok (.iadd, 1) := by decide +kernel
theorem dX8_street_126 : decode cX8_street 126 = .ok (.iconst 1, 1) := by decide +kernel
theorem dX8_street_127 : decode cX8_street 127 = .ok (.iadd, 1) := by decide +kernel
theorem dX8_street_128 : decode cX8_street 128 = .ok (.iaload, 1) := by decide +kernel
theorem dX8_street_129 : decode cX8_street 129 = .ok (.iadd, 1) := by decide +kernel
theorem dX8_street_130 : decode cX8_street 130 = .ok (.istore 6, 2) := by decide +kernel
theorem dX8_street_132 : decode cX8_street 132 = .ok (.aload_n 0, 1) := by decide +kernel
theorem dX8_street_133 : decode cX8_street 133 = .ok (.getfield 74, 3) := by decide +kernel
theorem dX8_street_136 : decode cX8_street 136 = .ok (.sipush 142, 3) := by decide +kernel
theorem dX8_street_139 : decode cX8_street 139 = .ok (.iload_n 3, 1) := by decide +kernel
theorem dX8_street_140 : decode cX8_street 140 = .ok (.imul, 1) := by decide +kernel
theorem dX8_street_141 : decode cX8_street 141 = .ok (.iload 4, 2) := by decide +kernel
theorem dX8_street_143 : decode cX8_street 143 = .ok (.iadd, 1) := by decide +kernel
theorem dX8_street_144 : decode cX8_street 144 = .ok (.iload 6, 2) := by decide +kernel
theorem dX8_street_146 : decode cX8_street 146 = .ok (.iload 5, 2) := by decide +kernel
theorem dX8_street_148 : decode cX8_street 148 = .ok (.if_icmp .le 8, 3) := by decide +kernel
theorem dX8_street_151 : decode cX8_street 151 = .ok (.iload 6, 2) := by decide +kernel
theorem dX8_street_153 : decode cX8_street 153 = .ok (.goto 5, 3) := by decide +kernel
theorem dX8_street_156 : decode cX8_street 156 = .ok (.iload 5, 2) := by decide +kernel
theorem dX8_street_158 : decode cX8_street 158 = .ok (.iastore, 1) := by decide +kernel
theorem dX8_street_159 : decode cX8_street 159 = .ok (.iinc 4 (-1), 3) := by decide +kernel
theorem dX8_street_162 : decode cX8_street 162 = .ok (.goto (-88), 3) := by decide +kernel
theorem dX8_street_165 : decode cX8_street 165 = .ok (.iinc 3 1, 3) := by decide +kernel
theorem dX8_street_168 : decode cX8_street 168 = .ok (.goto (-103), 3) := by decide +kernel
theorem dX8_street_171 : decode cX8_street 171 = .ok (.aload_n 0, 1) := by decide +kernel
theorem dX8_street_172 : decode cX8_street 172 = .ok (.getfield 74, 3) := by decide +kernel
theorem dX8_street_175 : decode cX8_street 175 = .ok (.sipush 142, 3) := by decide +kernel
theorem dX8_street_178 : decode cX8_street 178 = .ok (.iload_n 2, 1) := by decide +kernel
theorem dX8_street_179 : decode cX8_street 179 = .ok (.imul, 1) := by decide +kernel
theorem dX8_street_180 : decode cX8_street 180 = .ok (.iaload, 1) := by decide +kernel
theorem dX8_street_181 : decode cX8_street 181 = .ok (.ireturn, 1) := by decide +kernel
theorem dX8_laysOwners_0 : decode cX8_laysOwners 0 = .ok (.iconst 0, 1) := by decide +kernel
theorem dX8_laysOwners_1 : decode cX8_laysOwners 1 = .ok (.istore_n 1, 1) := by decide +kernel
theorem dX8_laysOwners_2 : decode cX8_laysOwners 2 = .ok (.iload_n 1, 1) := by decide +kernel
theorem dX8_laysOwners_3 : decode cX8_laysOwners 3 = .ok (.aload_n 0, 1) := by decide +kernel
theorem dX8_laysOwners_4 : decode cX8_laysOwners 4 = .ok (.getfield 154, 3) := by decide +kernel
theorem dX8_laysOwners_7 : decode cX8_laysOwners 7 = .ok (.if_icmp .ge 86, 3) := by decide +kernel
theorem dX8_laysOwners_10 : decode cX8_laysOwners 10 = .ok (.iconst 1, 1) := by decide +kernel
theorem dX8_laysOwners_11 : decode cX8_laysOwners 11 = .ok (.istore_n 2, 1) := by decide +kernel
theorem dX8_laysOwners_12 : decode cX8_laysOwners 12 = .ok (.iload_n 2, 1) := by decide +kernel
theorem dX8_laysOwners_13 : decode cX8_laysOwners 13 = .ok (.bipush 20, 2) := by decide +kernel
theorem dX8_laysOwners_15 : decode cX8_laysOwners 15 = .ok (.if_icmp .gt 72, 3) := by decide +kernel
theorem dX8_laysOwners_18 : decode cX8_laysOwners 18 = .ok (.aload_n 0, 1) := by decide +kernel
theorem dX8_laysOwners_19 : decode cX8_laysOwners 19 = .ok (.invokevirtual 302, 3) := by decide +kernel
theorem dX8_laysOwners_22 : decode cX8_laysOwners 22 = .ok (.aload_n 0, 1) := by decide +kernel
theorem dX8_laysOwners_23 : decode cX8_laysOwners 23 = .ok (.iload_n 1, 1) := by decide +kernel
theorem dX8_laysOwners_24 : decode cX8_laysOwners 24 = .ok (.iload_n 2, 1) := by decide +kernel
theorem dX8_laysOwners_25 : decode cX8_laysOwners 25 = .ok (.invokevirtual 368, 3) := by decide +kernel
theorem dX8_laysOwners_28 : decode cX8_laysOwners 28 = .ok (.pop, 1) := by decide +kernel
theorem dX8_laysOwners_29 : decode cX8_laysOwners 29 = .ok (.iconst 0, 1) := by decide +kernel
theorem dX8_laysOwners_30 : decode cX8_laysOwners 30 = .ok (.istore_n 3, 1) := by decide +kernel
theorem dX8_laysOwners_31 : decode cX8_laysOwners 31 = .ok (.iload_n 3, 1) := by decide +kernel
theorem dX8_laysOwners_32 : decode cX8_laysOwners 32 = .ok (.aload_n 0, 1) := by decide +kernel
theorem dX8_laysOwners_33 : decode cX8_laysOwners 33 = .ok (.getfield 151, 3) := by decide +kernel
theorem dX8_laysOwners_36 : decode cX8_laysOwners 36 = .ok (.if_icmp .ge 45, 3) := by decide +kernel
theorem dX8_laysOwners_39 : decode cX8_laysOwners 39 = .ok (.aload_n 0, 1) := by decide +kernel
theorem dX8_laysOwners_40 : decode cX8_laysOwners 40 = .ok (.getfield 77, 3) := by decide +kernel
theorem dX8_laysOwners_43 : decode cX8_laysOwners 43 = .ok (.bipush 8, 2) := by decide +kernel
theorem dX8_laysOwners_45 : decode cX8_laysOwners 45 = .ok (.bipush 20, 2) := by decide +kernel
theorem dX8_laysOwners_47 : decode cX8_laysOwners 47 = .ok (.iload_n 1, 1) := by decide +kernel
theorem dX8_laysOwners_48 : decode cX8_laysOwners 48 = .ok (.imul, 1) := by decide +kernel
theorem dX8_laysOwners_49 : decode cX8_laysOwners 49 = .ok (.iload_n 2, 1) := by decide +kernel
theorem dX8_laysOwners_50 : decode cX8_laysOwners 50 = .ok (.iadd, 1) := by decide +kernel
theorem dX8_laysOwners_51 : decode cX8_laysOwners 51 = .ok (.iconst 1, 1) := by decide +kernel
theorem dX8_laysOwners_52 : decode cX8_laysOwners 52 = .ok (.isub, 1) := by decide +kernel
theorem dX8_laysOwners_53 : decode cX8_laysOwners 53 = .ok (.imul, 1) := by decide +kernel
theorem dX8_laysOwners_54 : decode cX8_laysOwners 54 = .ok (.iload_n 3, 1) := by decide +kernel
theorem dX8_laysOwners_55 : decode cX8_laysOwners 55 = .ok (.iadd, 1) := by decide +kernel
theorem dX8_laysOwners_56 : decode cX8_laysOwners 56 = .ok (.aload_n 0, 1) := by decide +kernel
theorem dX8_laysOwners_57 : decode cX8_laysOwners 57 = .ok (.iload_n 3, 1) := by decide +kernel
theorem dX8_laysOwners_58 : decode cX8_laysOwners 58 = .ok (.invokevirtual 327, 3) := by decide +kernel
theorem dX8_laysOwners_61 : decode cX8_laysOwners 61 = .ok (.iconst (-1), 1) := by decide +kernel
theorem dX8_laysOwners_62 : decode cX8_laysOwners 62 = .ok (.if_icmp .ne 7, 3) := by decide +kernel
theorem dX8_laysOwners_65 : decode cX8_laysOwners 65 = .ok (.iconst 5, 1) := by decide +kernel
theorem dX8_laysOwners_66 : decode cX8_laysOwners 66 = .ok (.goto 8, 3) := by decide +kernel
theorem dX8_laysOwners_69 : decode cX8_laysOwners 69 = .ok (.aload_n 0, 1) := by decide +kernel
theorem dX8_laysOwners_70 : decode cX8_laysOwners 70 = .ok (.iload_n 3, 1) := by decide +kernel
theorem dX8_laysOwners_71 : decode cX8_laysOwners 71 = .ok (.invokevirtual 327, 3) := by decide +kernel
theorem dX8_laysOwners_74 : decode cX8_laysOwners 74 = .ok (.iastore, 1) := by decide +kernel
theorem dX8_laysOwners_75 : decode cX8_laysOwners 75 = .ok (.iinc 3 1, 3) := by decide +kernel
theorem dX8_laysOwners_78 : decode cX8_laysOwners 78 = .ok (.goto (-47), 3) := by decide +kernel
theorem dX8_laysOwners_81 : decode cX8_laysOwners 81 = .ok (.iinc 2 1, 3) := by decide +kernel
theorem dX8_laysOwners_84 : decode cX8_laysOwners 84 = .ok (.goto (-72), 3) := by decide +kernel
theorem dX8_laysOwners_87 : decode cX8_laysOwners 87 = .ok (.iinc 1 1, 3) := by decide +kernel
theorem dX8_laysOwners_90 : decode cX8_laysOwners 90 = .ok (.goto (-88), 3) := by decide +kernel
theorem dX8_laysOwners_93 : decode cX8_laysOwners 93 = .ok (.return_, 1) := by decide +kernel
theorem dX8_isFit_0 : decode cX8_isFit 0 = .ok (.iconst 1, 1) := by decide +kernel
theorem dX8_isFit_1 : decode cX8_isFit 1 = .ok (.istore_n 2, 1) := by decide +kernel
theorem dX8_isFit_2 : decode cX8_isFit 2 = .ok (.iconst 0, 1) := by decide +kernel
theorem dX8_isFit_3 : decode cX8_isFit 3 = .ok (.istore_n 3, 1) := by decide +kernel
theorem dX8_isFit_4 : decode cX8_isFit 4 = .ok (.iload_n 3, 1) := by decide +kernel
theorem dX8_isFit_5 : decode cX8_isFit 5 = .ok (.aload_n 0, 1) := by decide +kernel
theorem dX8_isFit_6 : decode cX8_isFit 6 = .ok (.getfield 151, 3) := by decide +kernel
theorem dX8_isFit_9 : decode cX8_isFit 9 = .ok (.if_icmp .ge 49, 3) := by decide +kernel
theorem dX8_isFit_12 : decode cX8_isFit 12 = .ok (.iload_n 2, 1) := by decide +kernel
theorem dX8_isFit_13 : decode cX8_isFit 13 = .ok (.ifCond .eq 37, 3) := by decide +kernel
theorem dX8_isFit_16 : decode cX8_isFit 16 = .ok (.aload_n 0, 1) := by decide +kernel
theorem dX8_isFit_17 : decode cX8_isFit 17 = .ok (.getfield 71, 3) := by decide +kernel
theorem dX8_isFit_20 : decode cX8_isFit 20 = .ok (.iload_n 3, 1) := by decide +kernel
theorem dX8_isFit_21 : decode cX8_isFit 21 = .ok (.iaload, 1) := by decide +kernel
theorem dX8_isFit_22 : decode cX8_isFit 22 = .ok (.iconst (-1), 1) := by decide +kernel
theorem dX8_isFit_23 : decode cX8_isFit 23 = .ok (.if_icmp .eq 23, 3) := by decide +kernel
theorem dX8_isFit_26 : decode cX8_isFit 26 = .ok (.aload_n 0, 1) := by decide +kernel
theorem dX8_isFit_27 : decode cX8_isFit 27 = .ok (.getfield 77, 3) := by decide +kernel
theorem dX8_isFit_30 : decode cX8_isFit 30 = .ok (.bipush 8, 2) := by decide +kernel
theorem dX8_isFit_32 : decode cX8_isFit 32 = .ok (.iload_n 1, 1) := by decide +kernel
theorem dX8_isFit_33 : decode cX8_isFit 33 = .ok (.imul, 1) := by decide +kernel
theorem dX8_isFit_34 : decode cX8_isFit 34 = .ok (.iload_n 3, 1) := by decide +kernel
theorem dX8_isFit_35 : decode cX8_isFit 35 = .ok (.iadd, 1) := by decide +kernel
theorem dX8_isFit_36 : decode cX8_isFit 36 = .ok (.iaload, 1) := by decide +kernel
theorem dX8_isFit_37 : decode cX8_isFit 37 = .ok (.aload_n 0, 1) := by decide +kernel
theorem dX8_isFit_38 : decode cX8_isFit 38 = .ok (.getfield 71, 3) := by decide +kernel
theorem dX8_isFit_41 : decode cX8_isFit 41 = .ok (.iload_n 3, 1) := by decide +kernel
theorem dX8_isFit_42 : decode cX8_isFit 42 = .ok (.iaload, 1) := by decide +kernel
theorem dX8_isFit_43 : decode cX8_isFit 43 = .ok (.if_icmp .ne 7, 3) := by decide +kernel
theorem dX8_isFit_46 : decode cX8_isFit 46 = .ok (.iconst 1, 1) := by decide +kernel
theorem dX8_isFit_47 : decode cX8_isFit 47 = .ok (.goto 4, 3) := by decide +kernel
theorem dX8_isFit_50 : decode cX8_isFit 50 = .ok (.iconst 0, 1) := by decide +kernel
theorem dX8_isFit_51 : decode cX8_isFit 51 = .ok (.istore_n 2, 1) := by decide +kernel
theorem dX8_isFit_52 : decode cX8_isFit 52 = .ok (.iinc 3 1, 3) := by decide +kernel
theorem dX8_isFit_55 : decode cX8_isFit 55 = .ok (.goto (-51), 3) := by decide +kernel
theorem dX8_isFit_58 : decode cX8_isFit 58 = .ok (.iload_n 2, 1) := by decide +kernel
theorem dX8_isFit_59 : decode cX8_isFit 59 = .ok (.ireturn, 1) := by decide +kernel
theorem dX8_fits_0 : decode cX8_fits 0 = .ok (.aload_n 0, 1) := by decide +kernel
theorem dX8_fits_1 : decode cX8_fits 1 = .ok (.iconst 0, 1) := by decide +kernel
theorem dX8_fits_2 : decode cX8_fits 2 = .ok (.putfield 3, 3) := by decide +kernel
theorem dX8_fits_5 : decode cX8_fits 5 = .ok (.aload_n 0, 1) := by decide +kernel
theorem dX8_fits_6 : decode cX8_fits 6 = .ok (.iload_n 1, 1) := by decide +kernel
theorem dX8_fits_7 : decode cX8_fits 7 = .ok (.iconst 0, 1) := by decide +kernel
theorem dX8_fits_8 : decode cX8_fits 8 = .ok (.iconst 1, 1) := by decide +kernel
theorem dX8_fits_9 : decode cX8_fits 9 = .ok (.invokestatic 352, 3) := by decide +kernel
theorem dX8_fits_12 : decode cX8_fits 12 = .ok (.iconst 1, 1) := by decide +kernel
theorem dX8_fits_13 : decode cX8_fits 13 = .ok (.iconst 1, 1) := by decide +kernel
theorem dX8_fits_14 : decode cX8_fits 14 = .ok (.invokevirtual 190, 3) := by decide +kernel
theorem dX8_fits_17 : decode cX8_fits 17 = .ok (.ifCond .ne 5, 3) := by decide +kernel
theorem dX8_fits_20 : decode cX8_fits 20 = .ok (.iconst 0, 1) := by decide +kernel
theorem dX8_fits_21 : decode cX8_fits 21 = .ok (.ireturn, 1) := by decide +kernel
theorem dX8_fits_22 : decode cX8_fits 22 = .ok (.aload_n 0, 1) := by decide +kernel
theorem dX8_fits_23 : decode cX8_fits 23 = .ok (.invokevirtual 407, 3) := by decide +kernel
theorem dX8_fits_26 : decode cX8_fits 26 = .ok (.iconst 0, 1) := by decide +kernel
theorem dX8_fits_27 : decode cX8_fits 27 = .ok (.istore_n 2, 1) := by decide +kernel
theorem dX8_fits_28 : decode cX8_fits 28 = .ok (.iconst (-1), 1) := by decide +kernel
theorem dX8_fits_29 : decode cX8_fits 29 = .ok (.istore_n 3, 1) := by decide +kernel
theorem dX8_fits_30 : decode cX8_fits 30 = .ok (.iconst 0, 1) := by decide +kernel
theorem dX8_fits_31 : decode cX8_fits 31 = .ok (.istore 4, 2) := by decide +kernel
theorem dX8_fits_33 : decode cX8_fits 33 = .ok (.iload 4, 2) := by decide +kernel
theorem dX8_fits_35 : decode cX8_fits 35 = .ok (.bipush 20, 2) := by decide +kernel
theorem dX8_fits_37 : decode cX8_fits 37 = .ok (.aload_n 0, 1) := by decide +kernel
theorem dX8_fits_38 : decode cX8_fits 38 = .ok (.getfield 154, 3) := by decide +kernel
theorem dX8_fits_41 : decode cX8_fits 41 = .ok (.imul, 1) := by decide +kernel
theorem dX8_fits_42 : decode cX8_fits 42 = .ok (.if_icmp .ge 50, 3) := by decide +kernel
theorem dX8_fits_45 : decode cX8_fits 45 = .ok (.aload_n 0, 1) := by decide +kernel
theorem dX8_fits_46 : decode cX8_fits 46 = .ok (.iload 4, 2) := by decide +kernel
theorem dX8_fits_48 : decode cX8_fits 48 = .ok (.invokevirtual 410, 3) := by decide +kernel
theorem dX8_fits_51 : decode cX8_fits 51 = .ok (.ifCond .ne 6, 3) := by decide +kernel
theorem dX8_fits_54 : decode cX8_fits 54 = .ok (.goto 32, 3) := by decide +kernel
theorem dX8_fits_57 : decode cX8_fits 57 = .ok (.iinc 2 1, 3) := by decide +kernel
theorem dX8_fits_60 : decode cX8_fits 60 = .ok (.iload_n 3, 1) := by decide +kernel
theorem dX8_fits_61 : decode cX8_fits 61 = .ok (.iconst (-1), 1) := by decide +kernel
theorem dX8_fits_62 : decode cX8_fits 62 = .ok (.if_icmp .ne 22, 3) := by decide +kernel
theorem dX8_fits_65 : decode cX8_fits 65 = .ok (.bipush 100, 2) := by decide +kernel
theorem dX8_fits_67 : decode cX8_fits 67 = .ok (.iload 4, 2) := by decide +kernel
theorem dX8_fits_69 : decode cX8_fits 69 = .ok (.bipush 20, 2) := by decide +kernel
theorem dX8_fits_71 : decode cX8_fits 71 = .ok (.idiv, 1) := by decide +kernel
theorem dX8_fits_72 : decode cX8_fits 72 = .ok (.imul, 1) := by decide +kernel
theorem dX8_fits_73 : decode cX8_fits 73 = .ok (.iload 4, 2) := by decide +kernel
theorem dX8_fits_75 : decode cX8_fits 75 = .ok (.bipush 20, 2) := by decide +kernel
theorem dX8_fits_77 : decode cX8_fits 77 = .ok (.irem, 1) := by decide +kernel
theorem dX8_fits_78 : decode cX8_fits 78 = .ok (.iadd, 1) := by decide +kernel
theorem dX8_fits_79 : decode cX8_fits 79 = .ok (.iconst 1, 1) := by decide +kernel
theorem dX8_fits_80 : decode cX8_fits 80 = .ok (.iadd, 1) := by decide +kernel
theorem dX8_fits_81 : decode cX8_fits 81 = .ok (.goto 4, 3) := by decide +kernel
theorem dX8_fits_84 : decode cX8_fits 84 = .ok (.iload_n 3, 1) := by decide +kernel
theorem dX8_fits_85 : decode cX8_fits 85 = .ok (.istore_n 3, 1) := by decide +kernel
theorem dX8_fits_86 : decode cX8_fits 86 = .ok (.iinc 4 1, 3) := by decide +kernel
theorem dX8_fits_89 : decode cX8_fits 89 = .ok (.goto (-56), 3) := by decide +kernel
theorem dX8_fits_92 : decode cX8_fits 92 = .ok (.iload_n 1, 1) := by decide +kernel
theorem dX8_fits_93 : decode cX8_fits 93 = .ok (.ifCond .ne 7, 3) := by decide +kernel
theorem dX8_fits_96 : decode cX8_fits 96 = .ok (.iload_n 2, 1) := by decide +kernel
theorem dX8_fits_97 : decode cX8_fits 97 = .ok (.goto 4, 3) := by decide +kernel
theorem dX8_fits_100 : decode cX8_fits 100 = .ok (.iload_n 3, 1) := by decide +kernel
theorem dX8_fits_101 : decode cX8_fits 101 = .ok (.ireturn, 1) := by decide +kernel
theorem dX8_worstOf_0 : decode cX8_worstOf 0 = .ok (.iconst 0, 1) := by decide +kernel
theorem dX8_worstOf_1 : decode cX8_worstOf 1 = .ok (.istore_n 2, 1) := by decide +kernel
theorem dX8_worstOf_2 : decode cX8_worstOf 2 = .ok (.iload_n 2, 1) := by decide +kernel
theorem dX8_worstOf_3 : decode cX8_worstOf 3 = .ok (.iconst 5, 1) := by decide +kernel
theorem dX8_worstOf_4 : decode cX8_worstOf 4 = .ok (.if_icmp .gt 16, 3) := by decide +kernel
theorem dX8_worstOf_7 : decode cX8_worstOf 7 = .ok (.aload_n 0, 1) := by decide +kernel
theorem dX8_worstOf_8 : decode cX8_worstOf 8 = .ok (.getfield 80, 3) := by decide +kernel
theorem dX8_worstOf_11 : decode cX8_worstOf 11 = .ok (.iload_n 2, 1) := by decide +kernel
theorem dX8_worstOf_12 : decode cX8_worstOf 12 = .ok (.iconst 0, 1) := by decide +kernel
theorem dX8_worstOf_13 : decode cX8_worstOf 13 = .ok (.iastore, 1) := by decide +kernel
theorem dX8_worstOf_14 : decode cX8_worstOf 14 = .ok (.iinc 2 1, 3) := by decide +kernel
theorem dX8_worstOf_17 : decode cX8_worstOf 17 = .ok (.goto (-15), 3) := by decide +kernel
theorem dX8_worstOf_20 : decode cX8_worstOf 20 = .ok (.iconst 0, 1) := by decide +kernel
theorem dX8_worstOf_21 : decode cX8_worstOf 21 = .ok (.istore_n 2, 1) := by decide +kernel
theorem dX8_worstOf_22 : decode cX8_worstOf 22 = .ok (.iconst 0, 1) := by decide +kernel
theorem dX8_worstOf_23 : decode cX8_worstOf 23 = .ok (.istore_n 3, 1) := by decide +kernel
theorem dX8_worstOf_24 : decode cX8_worstOf 24 = .ok (.iload_n 3, 1) := by decide +kernel
theorem dX8_worstOf_25 : decode cX8_worstOf 25 = .ok (.bipush 20, 2) := by decide +kernel
theorem dX8_worstOf_27 : decode cX8_worstOf 27 = .ok (.aload_n 0, 1) := by decide +kernel
theorem dX8_worstOf_28 : decode cX8_worstOf 28 = .ok (.getfield 154, 3) := by decide +kernel
theorem dX8_worstOf_31 : decode cX8_worstOf 31 = .ok (.imul, 1) := by decide +kernel
theorem dX8_worstOf_32 : decode cX8_worstOf 32 = .ok (.if_icmp .ge 67, 3) := by decide +kernel
theorem dX8_worstOf_35 : decode cX8_worstOf 35 = .ok (.aload_n 0, 1) := by decide +kernel
theorem dX8_worstOf_36 : decode cX8_worstOf 36 = .ok (.iload_n 3, 1) := by decide +kernel
theorem dX8_worstOf_37 : decode cX8_worstOf 37 = .ok (.invokevirtual 410, 3) := by decide +kernel
theorem dX8_worstOf_40 : decode cX8_worstOf 40 = .ok (.ifCond .ne 6, 3) := by decide +kernel
theorem dX8_worstOf_43 : decode cX8_worstOf 43 = .ok (.goto 50, 3) := by decide +kernel
theorem dX8_worstOf_46 : decode cX8_worstOf 46 = .ok (.aload_n 0, 1) := by decide +kernel
theorem dX8_worstOf_47 : decode cX8_worstOf 47 = .ok (.getfield 77, 3) := by decide +kernel
theorem dX8_worstOf_50 : decode cX8_worstOf 50 = .ok (.bipush 8, 2) := by decide +kernel
theorem dX8_worstOf_52 : decode cX8_worstOf 52 = .ok (.iload_n 3, 1) := by decide +kernel
theorem dX8_worstOf_53 : decode cX8_worstOf 53 = .ok (.imul, 1) := by decide +kernel
theorem dX8_worstOf_54 : decode cX8_worstOf 54 = .ok (.iload_n 1, 1) := by decide +kernel
theorem dX8_worstOf_55 : decode cX8_worstOf 55 = .ok (.iadd, 1) := by decide +kernel
theorem dX8_worstOf_56 : decode cX8_worstOf 56 = .ok (.iaload, 1) := by decide +kernel
theorem dX8_worstOf_57 : decode cX8_worstOf 57 = .ok (.istore 4, 2) := by decide +kernel
theorem dX8_worstOf_59 : decode cX8_worstOf 59 = .ok (.aload_n 0, 1) := by decide +kernel
theorem dX8_worstOf_60 : decode cX8_worstOf 60 = .ok (.getfield 80, 3) := by decide +kernel
theorem dX8_worstOf_63 : decode cX8_worstOf 63 = .ok (.iload 4, 2) := by decide +kernel
theorem dX8_worstOf_65 : decode cX8_worstOf 65 = .ok (.dup2, 1) := by decide +kernel
theorem dX8_worstOf_66 : decode cX8_worstOf 66 = .ok (.iaload, 1) := by decide +kernel
theorem dX8_worstOf_67 : decode cX8_worstOf 67 = .ok (.iconst 1, 1) := by decide +kernel
theorem dX8_worstOf_68 : decode cX8_worstOf 68 = .ok (.iadd, 1) := by decide +kernel
theorem dX8_worstOf_69 : decode cX8_worstOf 69 = .ok (.iastore, 1) := by decide +kernel
theorem dX8_worstOf_70 : decode cX8_worstOf 70 = .ok (.aload_n 0, 1) := by decide +kernel
theorem dX8_worstOf_71 : decode cX8_worstOf 71 = .ok (.getfield 80, 3) := by decide +kernel
theorem dX8_worstOf_74 : decode cX8_worstOf 74 = .ok (.iload 4, 2) := by decide +kernel
theorem dX8_worstOf_76 : decode cX8_worstOf 76 = .ok (.iaload, 1) := by decide +kernel
theorem dX8_worstOf_77 : decode cX8_worstOf 77 = .ok (.iload_n 2, 1) := by decide +kernel
theorem dX8_worstOf_78 : decode cX8_worstOf 78 = .ok (.if_icmp .le 13, 3) := by decide +kernel
theorem dX8_worstOf_81 : decode cX8_worstOf 81 = .ok (.aload_n 0, 1) := by decide +kernel
theorem dX8_worstOf_82 : decode cX8_worstOf 82 = .ok (.getfield 80, 3) := by decide +kernel
theorem dX8_worstOf_85 : decode cX8_worstOf 85 = .ok (.iload 4, 2) := by decide +kernel
theorem dX8_worstOf_87 : decode cX8_worstOf 87 = .ok (.iaload, 1) := by decide +kernel
theorem dX8_worstOf_88 : decode cX8_worstOf 88 = .ok (.goto 4, 3) := by decide +kernel
theorem dX8_worstOf_91 : decode cX8_worstOf 91 = .ok (.iload_n 2, 1) := by decide +kernel
theorem dX8_worstOf_92 : decode cX8_worstOf 92 = .ok (.istore_n 2, 1) := by decide +kernel
theorem dX8_worstOf_93 : decode cX8_worstOf 93 = .ok (.iinc 3 1, 3) := by decide +kernel
theorem dX8_worstOf_96 : decode cX8_worstOf 96 = .ok (.goto (-72), 3) := by decide +kernel
theorem dX8_worstOf_99 : decode cX8_worstOf 99 = .ok (.iload_n 2, 1) := by decide +kernel
theorem dX8_worstOf_100 : decode cX8_worstOf 100 = .ok (.ireturn, 1) := by decide +kernel
theorem dX8_look_0 : decode cX8_look 0 = .ok (.aload_n 0, 1) := by decide +kernel
theorem dX8_look_1 : decode cX8_look 1 = .ok (.iconst 0, 1) := by decide +kernel
theorem dX8_look_2 : decode cX8_look 2 = .ok (.putfield 3, 3) := by decide +kernel
theorem dX8_look_5 : decode cX8_look 5 = .ok (.aload_n 0, 1) := by decide +kernel
theorem dX8_look_6 : decode cX8_look 6 = .ok (.iload_n 1, 1) := by decide +kernel
theorem dX8_look_7 : decode cX8_look 7 = .ok (.iconst 0, 1) := by decide +kernel
theorem dX8_look_8 : decode cX8_look 8 = .ok (.iconst 1, 1) := by decide +kernel
theorem dX8_look_9 : decode cX8_look 9 = .ok (.invokestatic 352, 3) := by decide +kernel
theorem dX8_look_12 : decode cX8_look 12 = .ok (.iconst 1, 1) := by decide +kernel
theorem dX8_look_13 : decode cX8_look 13 = .ok (.iconst 1, 1) := by decide +kernel
theorem dX8_look_14 : decode cX8_look 14 = .ok (.invokevirtual 190, 3) := by decide +kernel
theorem dX8_look_17 : decode cX8_look 17 = .ok (.ifCond .ne 5, 3) := by decide +kernel
theorem dX8_look_20 : decode cX8_look 20 = .ok (.iconst 0, 1) := by decide +kernel
theorem dX8_look_21 : decode cX8_look 21 = .ok (.ireturn, 1) := by decide +kernel
theorem dX8_look_22 : decode cX8_look 22 = .ok (.aload_n 0, 1) := by decide +kernel
theorem dX8_look_23 : decode cX8_look 23 = .ok (.invokevirtual 407, 3) := by decide +kernel
theorem dX8_look_26 : decode cX8_look 26 = .ok (.iconst (-1), 1) := by decide +kernel
theorem dX8_look_27 : decode cX8_look 27 = .ok (.istore_n 2, 1) := by decide +kernel
theorem dX8_look_28 : decode cX8_look 28 = .ok (.iconst (-1), 1) := by decide +kernel
theorem dX8_look_29 : decode cX8_look 29 = .ok (.istore_n 3, 1) := by decide +kernel
theorem dX8_look_30 : decode cX8_look 30 = .ok (.iconst 0, 1) := by decide +kernel
theorem dX8_look_31 : decode cX8_look 31 = .ok (.istore 4, 2) := by decide +kernel
theorem dX8_look_33 : decode cX8_look 33 = .ok (.iload 4, 2) := by decide +kernel
theorem dX8_look_35 : decode cX8_look 35 = .ok (.aload_n 0, 1) := by decide +kernel
theorem dX8_look_36 : decode cX8_look 36 = .ok (.getfield 151, 3) := by decide +kernel
theorem dX8_look_39 : decode cX8_look 39 = .ok (.if_icmp .ge 51, 3) := by decide +kernel
theorem dX8_look_42 : decode cX8_look 42 = .ok (.aload_n 0, 1) := by decide +kernel
theorem dX8_look_43 : decode cX8_look 43 = .ok (.getfield 71, 3) := by decide +kernel
theorem dX8_look_46 : decode cX8_look 46 = .ok (.iload 4, 2) := by decide +kernel
theorem dX8_look_48 : decode cX8_look 48 = .ok (.iaload, 1) := by decide +kernel
theorem dX8_look_49 : decode cX8_look 49 = .ok (.iconst (-1), 1) := by decide +kernel
theorem dX8_look_50 : decode cX8_look 50 = .ok (.if_icmp .eq 6, 3) := by decide +kernel
theorem dX8_look_53 : decode cX8_look 53 = .ok (.goto 31, 3) := by decide +kernel
theorem dX8_look_56 : decode cX8_look 56 = .ok (.aload_n 0, 1) := by decide +kernel
theorem dX8_look_57 : decode cX8_look 57 = .ok (.iload 4, 2) := by decide +kernel
theorem dX8_look_59 : decode cX8_look 59 = .ok (.invokevirtual 413, 3) := by decide +kernel
theorem dX8_look_62 : decode cX8_look 62 = .ok (.istore 5, 2) := by decide +kernel
theorem dX8_look_64 : decode cX8_look 64 = .ok (.iload_n 2, 1) := by decide +kernel
theorem dX8_look_65 : decode cX8_look 65 = .ok (.iconst (-1), 1) := by decide +kernel
theorem dX8_look_66 : decode cX8_look 66 = .ok (.if_icmp .eq 12, 3) := by decide +kernel
theorem dX8_look_69 : decode cX8_look 69 = .ok (.iload 5, 2) := by decide +kernel
theorem dX8_look_71 : decode cX8_look 71 = .ok (.iload_n 3, 1) := by decide +kernel
theorem dX8_look_72 : decode cX8_look 72 = .ok (.if_icmp .lt 6, 3) := by decide +kernel
theorem dX8_look_75 : decode cX8_look 75 = .ok (.goto 9, 3) := by decide +kernel
theorem dX8_look_78 : decode cX8_look 78 = .ok (.iload 4, 2) := by decide +kernel
theorem dX8_look_80 : decode cX8_look 80 = .ok (.istore_n 2, 1) := by decide +kernel
theorem dX8_look_81 : decode cX8_look 81 = .ok (.iload 5, 2) := by decide +kernel
theorem dX8_look_83 : decode cX8_look 83 = .ok (.istore_n 3, 1) := by decide +kernel
theorem dX8_look_84 : decode cX8_look 84 = .ok (.iinc 4 1, 3) := by decide +kernel
theorem dX8_look_87 : decode cX8_look 87 = .ok (.goto (-54), 3) := by decide +kernel
theorem dX8_look_90 : decode cX8_look 90 = .ok (.iload_n 1, 1) := by decide +kernel
theorem dX8_look_91 : decode cX8_look 91 = .ok (.ifCond .ne 7, 3) := by decide +kernel
theorem dX8_look_94 : decode cX8_look 94 = .ok (.iload_n 2, 1) := by decide +kernel
theorem dX8_look_95 : decode cX8_look 95 = .ok (.goto 4, 3) := by decide +kernel
theorem dX8_look_98 : decode cX8_look 98 = .ok (.iload_n 3, 1) := by decide +kernel
theorem dX8_look_99 : decode cX8_look 99 = .ok (.ireturn, 1) := by decide +kernel
theorem dX8_numberOf_0 : decode cX8_numberOf 0 = .ok (.lconst 1, 1) := by decide +kernel
theorem dX8_numberOf_1 : decode cX8_numberOf 1 = .ok (.lstore_n 3, 1) := by decide +kernel
theorem dX8_numberOf_2 : decode cX8_numberOf 2 = .ok (.iconst 0, 1) := by decide +kernel
theorem dX8_numberOf_3 : decode cX8_numberOf 3 = .ok (.istore 5, 2) := by decide +kernel
theorem dX8_numberOf_5 : decode cX8_numberOf 5 = .ok (.iload 5, 2) := by decide +kernel
theorem dX8_numberOf_7 : decode cX8_numberOf 7 = .ok (.iload_n 1, 1) := by decide +kernel
theorem dX8_numberOf_8 : decode cX8_numberOf 8 = .ok (.if_icmp .ge 14, 3) := by decide +kernel
theorem dX8_numberOf_11 : decode cX8_numberOf 11 = .ok (.lload_n 3, 1) := by decide +kernel
theorem dX8_numberOf_12 : decode cX8_numberOf 12 = .ok (.iload_n 2, 1) := by decide +kernel
theorem dX8_numberOf_13 : decode cX8_numberOf 13 = .ok (.i2l, 1) := by decide +kernel
theorem dX8_numberOf_14 : decode cX8_numberOf 14 = .ok (.lmul, 1) := by decide +kernel
theorem dX8_numberOf_15 : decode cX8_numberOf 15 = .ok (.lstore_n 3, 1) := by decide +kernel
theorem dX8_numberOf_16 : decode cX8_numberOf 16 = .ok (.iinc 5 1, 3) := by decide +kernel
theorem dX8_numberOf_19 : decode cX8_numberOf 19 = .ok (.goto (-14), 3) := by decide +kernel
theorem dX8_numberOf_22 : decode cX8_numberOf 22 = .ok (.lload_n 3, 1) := by decide +kernel
theorem dX8_numberOf_23 : decode cX8_numberOf 23 = .ok (.lreturn, 1) := by decide +kernel
theorem dX8_stands_0 : decode cX8_stands 0 = .ok (.aload_n 0, 1) := by decide +kernel
theorem dX8_stands_1 : decode cX8_stands 1 = .ok (.iconst 0, 1) := by decide +kernel
theorem dX8_stands_2 : decode cX8_stands 2 = .ok (.putfield 3, 3) := by decide +kernel
theorem dX8_stands_5 : decode cX8_stands 5 = .ok (.aload_n 0, 1) := by decide +kernel
theorem dX8_stands_6 : decode cX8_stands 6 = .ok (.iload_n 1, 1) := by decide +kernel
theorem dX8_stands_7 : decode cX8_stands 7 = .ok (.iconst 0, 1) := by decide +kernel
theorem dX8_stands_8 : decode cX8_stands 8 = .ok (.bipush 12, 2) := by decide +kernel
theorem dX8_stands_10 : decode cX8_stands 10 = .ok (.invokestatic 352, 3) := by decide +kernel
theorem dX8_stands_13 : decode cX8_stands 13 = .ok (.ifCond .eq 26, 3) := by decide +kernel
theorem dX8_stands_16 : decode cX8_stands 16 = .ok (.iload_n 2, 1) := by decide +kernel
theorem dX8_stands_17 : decode cX8_stands 17 = .ok (.iconst 0, 1) := by decide +kernel
theorem dX8_stands_18 : decode cX8_stands 18 = .ok (.bipush 16, 2) := by decide +kernel
theorem dX8_stands_20 : decode cX8_stands 20 = .ok (.invokestatic 352, 3) := by decide +kernel
theorem dX8_stands_23 : decode cX8_stands 23 = .ok (.ifCond .eq 16, 3) := by decide +kernel
theorem dX8_stands_26 : decode cX8_stands 26 = .ok (.iload_n 3, 1) := by decide +kernel
theorem dX8_stands_27 : decode cX8_stands 27 = .ok (.iconst 0, 1) := by decide +kernel
theorem dX8_stands_28 : decode cX8_stands 28 = .ok (.iconst 1, 1) := by decide +kernel
theorem dX8_stands_29 : decode cX8_stands 29 = .ok (.invokestatic 352, 3) := by decide +kernel
theorem dX8_stands_32 : decode cX8_stands 32 = .ok (.ifCond .eq 7, 3) := by decide +kernel
theorem dX8_stands_35 : decode cX8_stands 35 = .ok (.iconst 1, 1) := by decide +kernel
theorem dX8_stands_36 : decode cX8_stands 36 = .ok (.goto 4, 3) := by decide +kernel
theorem dX8_stands_39 : decode cX8_stands 39 = .ok (.iconst 0, 1) := by decide +kernel
theorem dX8_stands_40 : decode cX8_stands 40 = .ok (.iconst 1, 1) := by decide +kernel
theorem dX8_stands_41 : decode cX8_stands 41 = .ok (.iconst 1, 1) := by decide +kernel
theorem dX8_stands_42 : decode cX8_stands 42 = .ok (.invokevirtual 190, 3) := by decide +kernel
theorem dX8_stands_45 : decode cX8_stands 45 = .ok (.ifCond .ne 5, 3) := by decide +kernel
theorem dX8_stands_48 : decode cX8_stands 48 = .ok (.lconst 0, 1) := by decide +kernel
theorem dX8_stands_49 : decode cX8_stands 49 = .ok (.lreturn, 1) := by decide +kernel
theorem dX8_stands_50 : decode cX8_stands 50 = .ok (.aload_n 0, 1) := by decide +kernel
theorem dX8_stands_51 : decode cX8_stands 51 = .ok (.iload_n 1, 1) := by decide +kernel
theorem dX8_stands_52 : decode cX8_stands 52 = .ok (.bipush 16, 2) := by decide +kernel
theorem dX8_stands_54 : decode cX8_stands 54 = .ok (.iload_n 2, 1) := by decide +kernel
theorem dX8_stands_55 : decode cX8_stands 55 = .ok (.isub, 1) := by decide +kernel
theorem dX8_stands_56 : decode cX8_stands 56 = .ok (.invokevirtual 416, 3) := by decide +kernel
theorem dX8_stands_59 : decode cX8_stands 59 = .ok (.aload_n 0, 1) := by decide +kernel
theorem dX8_stands_60 : decode cX8_stands 60 = .ok (.iload_n 1, 1) := by decide +kernel
theorem dX8_stands_61 : decode cX8_stands 61 = .ok (.bipush 16, 2) := by decide +kernel
theorem dX8_stands_63 : decode cX8_stands 63 = .ok (.invokevirtual 416, 3) := by decide +kernel
theorem dX8_stands_66 : decode cX8_stands 66 = .ok (.iload_n 3, 1) := by decide +kernel
theorem dX8_stands_67 : decode cX8_stands 67 = .ok (.invokestatic 401, 3) := by decide +kernel
theorem dX8_stands_70 : decode cX8_stands 70 = .ok (.lreturn, 1) := by decide +kernel
theorem dX8_mean_0 : decode cX8_mean 0 = .ok (.aload_n 0, 1) := by decide +kernel
theorem dX8_mean_1 : decode cX8_mean 1 = .ok (.iconst 0, 1) := by decide +kernel
theorem dX8_mean_2 : decode cX8_mean 2 = .ok (.putfield 3, 3) := by decide +kernel
theorem dX8_mean_5 : decode cX8_mean 5 = .ok (.aload_n 0, 1) := by decide +kernel
theorem dX8_mean_6 : decode cX8_mean 6 = .ok (.iload_n 1, 1) := by decide +kernel
theorem dX8_mean_7 : decode cX8_mean 7 = .ok (.iconst 0, 1) := by decide +kernel
theorem dX8_mean_8 : decode cX8_mean 8 = .ok (.bipush 12, 2) := by decide +kernel
theorem dX8_mean_10 : decode cX8_mean 10 = .ok (.invokestatic 352, 3) := by decide +kernel
theorem dX8_mean_13 : decode cX8_mean 13 = .ok (.ifCond .eq 26, 3) := by decide +kernel
theorem dX8_mean_16 : decode cX8_mean 16 = .ok (.iload_n 2, 1) := by decide +kernel
theorem dX8_mean_17 : decode cX8_mean 17 = .ok (.iconst 0, 1) := by decide +kernel
theorem dX8_mean_18 : decode cX8_mean 18 = .ok (.bipush 16, 2) := by decide +kernel
theorem dX8_mean_20 : decode cX8_mean 20 = .ok (.invokestatic 352, 3) := by decide +kernel
theorem dX8_mean_23 : decode cX8_mean 23 = .ok (.ifCond .eq 16, 3) := by decide +kernel
theorem dX8_mean_26 : decode cX8_mean 26 = .ok (.iload_n 3, 1) := by decide +kernel
theorem dX8_mean_27 : decode cX8_mean 27 = .ok (.iconst 0, 1) := by decide +kernel
theorem dX8_mean_28 : decode cX8_mean 28 = .ok (.iconst 1, 1) := by decide +kernel
theorem dX8_mean_29 : decode cX8_mean 29 = .ok (.invokestatic 352, 3) := by decide +kernel
theorem dX8_mean_32 : decode cX8_mean 32 = .ok (.ifCond .eq 7, 3) := by decide +kernel
theorem dX8_mean_35 : decode cX8_mean 35 = .ok (.iconst 1, 1) := by decide +kernel
theorem dX8_mean_36 : decode cX8_mean 36 = .ok (.goto 4, 3) := by decide +kernel
theorem dX8_mean_39 : decode cX8_mean 39 = .ok (.iconst 0, 1) := by decide +kernel
theorem dX8_mean_40 : decode cX8_mean 40 = .ok (.iconst 1, 1) := by decide +kernel
theorem dX8_mean_41 : decode cX8_mean 41 = .ok (.iconst 1, 1) := by decide +kernel
theorem dX8_mean_42 : decode cX8_mean 42 = .ok (.invokevirtual 190, 3) := by decide +kernel
theorem dX8_mean_45 : decode cX8_mean 45 = .ok (.ifCond .ne 5, 3) := by decide +kernel
theorem dX8_mean_48 : decode cX8_mean 48 = .ok (.lconst 0, 1) := by decide +kernel
theorem dX8_mean_49 : decode cX8_mean 49 = .ok (.lreturn, 1) := by decide +kernel
theorem dX8_mean_50 : decode cX8_mean 50 = .ok (.lconst 0, 1) := by decide +kernel
theorem dX8_mean_51 : decode cX8_mean 51 = .ok (.lstore 4, 2) := by decide +kernel
theorem dX8_mean_53 : decode cX8_mean 53 = .ok (.iconst 1, 1) := by decide +kernel
theorem dX8_mean_54 : decode cX8_mean 54 = .ok (.istore 6, 2) := by decide +kernel
theorem dX8_mean_56 : decode cX8_mean 56 = .ok (.iload 6, 2) := by decide +kernel
theorem dX8_mean_58 : decode cX8_mean 58 = .ok (.iload_n 1, 1) := by decide +kernel
theorem dX8_mean_59 : decode cX8_mean 59 = .ok (.if_icmp .gt 35, 3) := by decide +kernel
theorem dX8_mean_62 : decode cX8_mean 62 = .ok (.lload 4, 2) := by decide +kernel
theorem dX8_mean_64 : decode cX8_mean 64 = .ok (.aload_n 0, 1) := by decide +kernel
theorem dX8_mean_65 : decode cX8_mean 65 = .ok (.iload 6, 2) := by decide +kernel
theorem dX8_mean_67 : decode cX8_mean 67 = .ok (.bipush 16, 2) := by decide +kernel
theorem dX8_mean_69 : decode cX8_mean 69 = .ok (.iload_n 2, 1) := by decide +kernel
theorem dX8_mean_70 : decode cX8_mean 70 = .ok (.isub, 1) := by decide +kernel
theorem dX8_mean_71 : decode cX8_mean 71 = .ok (.invokevirtual 416, 3) := by decide +kernel
theorem dX8_mean_74 : decode cX8_mean 74 = .ok (.aload_n 0, 1) := by decide +kernel
theorem dX8_mean_75 : decode cX8_mean 75 = .ok (.iload_n 1, 1) := by decide +kernel
theorem dX8_mean_76 : decode cX8_mean 76 = .ok (.iload 6, 2) := by decide +kernel
theorem dX8_mean_78 : decode cX8_mean 78 = .ok (.isub, 1) := by decide +kernel
theorem dX8_mean_79 : decode cX8_mean 79 = .ok (.bipush 16, 2) := by decide +kernel
theorem dX8_mean_81 : decode cX8_mean 81 = .ok (.invokevirtual 416, 3) := by decide +kernel
theorem dX8_mean_84 : decode cX8_mean 84 = .ok (.lmul, 1) := by decide +kernel
theorem dX8_mean_85 : decode cX8_mean 85 = .ok (.ladd, 1) := by decide +kernel
theorem dX8_mean_86 : decode cX8_mean 86 = .ok (.lstore 4, 2) := by decide +kernel
theorem dX8_mean_88 : decode cX8_mean 88 = .ok (.iinc 6 1, 3) := by decide +kernel
theorem dX8_mean_91 : decode cX8_mean 91 = .ok (.goto (-35), 3) := by decide +kernel
theorem dX8_mean_94 : decode cX8_mean 94 = .ok (.lload 4, 2) := by decide +kernel
theorem dX8_mean_96 : decode cX8_mean 96 = .ok (.aload_n 0, 1) := by decide +kernel
theorem dX8_mean_97 : decode cX8_mean 97 = .ok (.iload_n 1, 1) := by decide +kernel
theorem dX8_mean_98 : decode cX8_mean 98 = .ok (.bipush 16, 2) := by decide +kernel
theorem dX8_mean_100 : decode cX8_mean 100 = .ok (.invokevirtual 416, 3) := by decide +kernel
theorem dX8_mean_103 : decode cX8_mean 103 = .ok (.iload_n 3, 1) := by decide +kernel
theorem dX8_mean_104 : decode cX8_mean 104 = .ok (.invokestatic 401, 3) := by decide +kernel
theorem dX8_mean_107 : decode cX8_mean 107 = .ok (.lreturn, 1) := by decide +kernel
theorem dX8_sure_0 : decode cX8_sure 0 = .ok (.aload_n 0, 1) := by decide +kernel
theorem dX8_sure_1 : decode cX8_sure 1 = .ok (.iconst 0, 1) := by decide +kernel
theorem dX8_sure_2 : decode cX8_sure 2 = .ok (.putfield 3, 3) := by decide +kernel
theorem dX8_sure_5 : decode cX8_sure 5 = .ok (.aload_n 0, 1) := by decide +kernel
theorem dX8_sure_6 : decode cX8_sure 6 = .ok (.iload_n 1, 1) := by decide +kernel
theorem dX8_sure_7 : decode cX8_sure 7 = .ok (.iconst 0, 1) := by decide +kernel
theorem dX8_sure_8 : decode cX8_sure 8 = .ok (.sipush 999, 3) := by decide +kernel
theorem dX8_sure_11 : decode cX8_sure 11 = .ok (.invokestatic 352, 3) := by decide +kernel
theorem dX8_sure_14 : decode cX8_sure 14 = .ok (.iconst 1, 1) := by decide +kernel
theorem dX8_sure_15 : decode cX8_sure 15 = .ok (.iconst 1, 1) := by decide +kernel
theorem dX8_sure_16 : decode cX8_sure 16 = .ok (.invokevirtual 190, 3) := by decide +kernel
theorem dX8_sure_19 : decode cX8_sure 19 = .ok (.ifCond .ne 5, 3) := by decide +kernel
theorem dX8_sure_22 : decode cX8_sure 22 = .ok (.iconst 0, 1) := by decide +kernel
theorem dX8_sure_23 : decode cX8_sure 23 = .ok (.ireturn, 1) := by decide +kernel
theorem dX8_sure_24 : decode cX8_sure 24 = .ok (.iconst 0, 1) := by decide +kernel
theorem dX8_sure_25 : decode cX8_sure 25 = .ok (.istore_n 2, 1) := by decide +kernel
theorem dX8_sure_26 : decode cX8_sure 26 = .ok (.iload_n 2, 1) := by decide +kernel
theorem dX8_sure_27 : decode cX8_sure 27 = .ok (.iload_n 1, 1) := by decide +kernel
theorem dX8_sure_28 : decode cX8_sure 28 = .ok (.if_icmp .gt 67, 3) := by decide +kernel
theorem dX8_sure_31 : decode cX8_sure 31 = .ok (.aload_n 0, 1) := by decide +kernel
theorem dX8_sure_32 : decode cX8_sure 32 = .ok (.getfield 83, 3) := by decide +kernel
theorem dX8_sure_35 : decode cX8_sure 35 = .ok (.iload_n 2, 1) := by decide +kernel
theorem dX8_sure_36 : decode cX8_sure 36 = .ok (.iload_n 2, 1) := by decide +kernel
theorem dX8_sure_37 : decode cX8_sure 37 = .ok (.ifCond .le 14, 3) := by decide +kernel
theorem dX8_sure_40 : decode cX8_sure 40 = .ok (.aload_n 0, 1) := by decide +kernel
theorem dX8_sure_41 : decode cX8_sure 41 = .ok (.getfield 83, 3) := by decide +kernel
theorem dX8_sure_44 : decode cX8_sure 44 = .ok (.iload_n 2, 1) := by decide +kernel
theorem dX8_sure_45 : decode cX8_sure 45 = .ok (.iconst 1, 1) := by decide +kernel
theorem dX8_sure_46 : decode cX8_sure 46 = .ok (.isub, 1) := by decide +kernel
theorem dX8_sure_47 : decode cX8_sure 47 = .ok (.baload, 1) := by decide +kernel
theorem dX8_sure_48 : decode cX8_sure 48 = .ok (.ifCond .eq 35, 3) := by decide +kernel
theorem dX8_sure_51 : decode cX8_sure 51 = .ok (.iload_n 2, 1) := by decide +kernel
theorem dX8_sure_52 : decode cX8_sure 52 = .ok (.iconst 2, 1) := by decide +kernel
theorem dX8_sure_53 : decode cX8_sure 53 = .ok (.if_icmp .le 14, 3) := by decide +kernel
theorem dX8_sure_56 : decode cX8_sure 56 = .ok (.aload_n 0, 1) := by decide +kernel
theorem dX8_sure_57 : decode cX8_sure 57 = .ok (.getfield 83, 3) := by decide +kernel
theorem dX8_sure_60 : decode cX8_sure 60 = .ok (.iload_n 2, 1) := by decide +kernel
theorem dX8_sure_61 : decode cX8_sure 61 = .ok (.iconst 3, 1) := by decide +kernel
theorem dX8_sure_62 : decode cX8_sure 62 = .ok (.isub, 1) := by decide +kernel
theorem dX8_sure_63 : decode cX8_sure 63 = .ok (.baload, 1) := by decide +kernel
theorem dX8_sure_64 : decode cX8_sure 64 = .ok (.ifCond .eq 19, 3) := by decide +kernel
theorem dX8_sure_67 : decode cX8_sure 67 = .ok (.iload_n 2, 1) := by decide +kernel
theorem dX8_sure_68 : decode cX8_sure 68 = .ok (.iconst 3, 1) := by decide +kernel
theorem dX8_sure_69 : decode cX8_sure 69 = .ok (.if_icmp .le 18, 3) := by decide +kernel
theorem dX8_sure_72 : decode cX8_sure 72 = .ok (.aload_n 0, 1) := by decide +kernel
theorem dX8_sure_73 : decode cX8_sure 73 = .ok (.getfield 83, 3) := by decide +kernel
theorem dX8_sure_76 : decode cX8_sure 76 = .ok (.iload_n 2, 1) := by decide +kernel
theorem dX8_sure_77 : decode cX8_sure 77 = .ok (.iconst 4, 1) := by decide +kernel
theorem dX8_sure_78 : decode cX8_sure 78 = .ok (.isub, 1) := by decide +kernel
theorem dX8_sure_79 : decode cX8_sure 79 = .ok (.baload, 1) := by decide +kernel
theorem dX8_sure_80 : decode cX8_sure 80 = .ok (.ifCond .ne 7, 3) := by decide +kernel
theorem dX8_sure_83 : decode cX8_sure 83 = .ok (.iconst 1, 1) := by decide +kernel
theorem dX8_sure_84 : decode cX8_sure 84 = .ok (.goto 4, 3) := by decide +kernel
theorem dX8_sure_87 : decode cX8_sure 87 = .ok (.iconst 0, 1) := by decide +kernel
theorem dX8_sure_88 : decode cX8_sure 88 = .ok (.bastore, 1) := by decide +kernel
theorem dX8_sure_89 : decode cX8_sure 89 = .ok (.iinc 2 1, 3) := by decide +kernel
theorem dX8_sure_92 : decode cX8_sure 92 = .ok (.goto (-66), 3) := by decide +kernel
theorem dX8_sure_95 : decode cX8_sure 95 = .ok (.aload_n 0, 1) := by decide +kernel
theorem dX8_sure_96 : decode cX8_sure 96 = .ok (.getfield 83, 3) := by decide +kernel
theorem dX8_sure_99 : decode cX8_sure 99 = .ok (.iload_n 1, 1) := by decide +kernel
theorem dX8_sure_100 : decode cX8_sure 100 = .ok (.baload, 1) := by decide +kernel
theorem dX8_sure_101 : decode cX8_sure 101 = .ok (.ifCond .ne 5, 3) := by decide +kernel
theorem dX8_sure_104 : decode cX8_sure 104 = .ok (.iconst (-1), 1) := by decide +kernel
theorem dX8_sure_105 : decode cX8_sure 105 = .ok (.ireturn, 1) := by decide +kernel
theorem dX8_sure_106 : decode cX8_sure 106 = .ok (.aload_n 0, 1) := by decide +kernel
theorem dX8_sure_107 : decode cX8_sure 107 = .ok (.getfield 83, 3) := by decide +kernel
theorem dX8_sure_110 : decode cX8_sure 110 = .ok (.iload_n 1, 1) := by decide +kernel
theorem dX8_sure_111 : decode cX8_sure 111 = .ok (.iconst 1, 1) := by decide +kernel
theorem dX8_sure_112 : decode cX8_sure 112 = .ok (.isub, 1) := by decide +kernel
theorem dX8_sure_113 : decode cX8_sure 113 = .ok (.baload, 1) := by decide +kernel
theorem dX8_sure_114 : decode cX8_sure 114 = .ok (.ifCond .ne 7, 3) := by decide +kernel
theorem dX8_sure_117 : decode cX8_sure 117 = .ok (.iconst 1, 1) := by decide +kernel
theorem dX8_sure_118 : decode cX8_sure 118 = .ok (.goto 24, 3) := by decide +kernel
theorem dX8_sure_121 : decode cX8_sure 121 = .ok (.iload_n 1, 1) := by decide +kernel
theorem dX8_sure_122 : decode cX8_sure 122 = .ok (.iconst 2, 1) := by decide +kernel
theorem dX8_sure_123 : decode cX8_sure 123 = .ok (.if_icmp .le 18, 3) := by decide +kernel
theorem dX8_sure_126 : decode cX8_sure 126 = .ok (.aload_n 0, 1) := by decide +kernel
theorem dX8_sure_127 : decode cX8_sure 127 = .ok (.getfield 83, 3) := by decide +kernel
theorem dX8_sure_130 : decode cX8_sure 130 = .ok (.iload_n 1, 1) := by decide +kernel
theorem dX8_sure_131 : decode cX8_sure 131 = .ok (.iconst 3, 1) := by decide +kernel
theorem dX8_sure_132 : decode cX8_sure 132 = .ok (.isub, 1) := by decide +kernel
theorem dX8_sure_133 : decode cX8_sure 133 = .ok (.baload, 1) := by decide +kernel
theorem dX8_sure_134 : decode cX8_sure 134 = .ok (.ifCond .ne 7, 3) := by decide +kernel
theorem dX8_sure_137 : decode cX8_sure 137 = .ok (.iconst 3, 1) := by decide +kernel
theorem dX8_sure_138 : decode cX8_sure 138 = .ok (.goto 4, 3) := by decide +kernel
theorem dX8_sure_141 : decode cX8_sure 141 = .ok (.iconst 4, 1) := by decide +kernel
theorem dX8_sure_142 : decode cX8_sure 142 = .ok (.ireturn, 1) := by decide +kernel
theorem dX8_hasBy_0 : decode cX8_hasBy 0 = .ok (.iload_n 0, 1) := by decide +kernel
theorem dX8_hasBy_1 : decode cX8_hasBy 1 = .ok (.iload_n 1, 1) := by decide +kernel
theorem dX8_hasBy_2 : decode cX8_hasBy 2 = .ok (.if_icmp .ne 17, 3) := by decide +kernel
theorem dX8_hasBy_5 : decode cX8_hasBy 5 = .ok (.iload_n 0, 1) := by decide +kernel
theorem dX8_hasBy_6 : decode cX8_hasBy 6 = .ok (.ifCond .ne 9, 3) := by decide +kernel
theorem dX8_hasBy_9 : decode cX8_hasBy 9 = .ok (.iload_n 2, 1) := by decide +kernel
theorem dX8_hasBy_10 : decode cX8_hasBy 10 = .ok (.iload_n 3, 1) := by decide +kernel
theorem dX8_hasBy_11 : decode cX8_hasBy 11 = .ok (.isub, 1) := by decide +kernel
theorem dX8_hasBy_12 : decode cX8_hasBy 12 = .ok (.goto 20, 3) := by decide +kernel
theorem dX8_hasBy_15 : decode cX8_hasBy 15 = .ok (.iconst 0, 1) := by decide +kernel
theorem dX8_hasBy_16 : decode cX8_hasBy 16 = .ok (.goto 16, 3) := by decide +kernel
theorem dX8_hasBy_19 : decode cX8_hasBy 19 = .ok (.iload_n 0, 1) := by decide +kernel
theorem dX8_hasBy_20 : decode cX8_hasBy 20 = .ok (.ifCond .ne 11, 3) := by decide +kernel
theorem dX8_hasBy_23 : decode cX8_hasBy 23 = .ok (.iload_n 2, 1) := by decide +kernel
theorem dX8_hasBy_24 : decode cX8_hasBy 24 = .ok (.iconst 2, 1) := by decide +kernel
theorem dX8_hasBy_25 : decode cX8_hasBy 25 = .ok (.iload_n 3, 1) := by decide +kernel
theorem dX8_hasBy_26 : decode cX8_hasBy 26 = .ok (.imul, 1) := by decide +kernel
theorem dX8_hasBy_27 : decode cX8_hasBy 27 = .ok (.isub, 1) := by decide +kernel
theorem dX8_hasBy_28 : decode cX8_hasBy 28 = .ok (.goto 4, 3) := by decide +kernel
theorem dX8_hasBy_31 : decode cX8_hasBy 31 = .ok (.iload_n 2, 1) := by decide +kernel
theorem dX8_hasBy_32 : decode cX8_hasBy 32 = .ok (.ireturn, 1) := by decide +kernel
theorem dX8_pay_0 : decode cX8_pay 0 = .ok (.aload_n 0, 1) := by decide +kernel
theorem dX8_pay_1 : decode cX8_pay 1 = .ok (.iconst 0, 1) := by decide +kernel
theorem dX8_pay_2 : decode cX8_pay 2 = .ok (.putfield 3, 3) := by decide +kernel
theorem dX8_pay_5 : decode cX8_pay 5 = .ok (.aload_n 0, 1) := by decide +kernel
theorem dX8_pay_6 : decode cX8_pay 6 = .ok (.iload_n 1, 1) := by decide +kernel
theorem dX8_pay_7 : decode cX8_pay 7 = .ok (.iconst 0, 1) := by decide +kernel
theorem dX8_pay_8 : decode cX8_pay 8 = .ok (.bipush 99, 2) := by decide +kernel
theorem dX8_pay_10 : decode cX8_pay 10 = .ok (.invokestatic 352, 3) := by decide +kernel
theorem dX8_pay_13 : decode cX8_pay 13 = .ok (.ifCond .eq 26, 3) := by decide +kernel
theorem dX8_pay_16 : decode cX8_pay 16 = .ok (.iload_n 2, 1) := by decide +kernel
theorem dX8_pay_17 : decode cX8_pay 17 = .ok (.iconst 0, 1) := by decide +kernel
theorem dX8_pay_18 : decode cX8_pay 18 = .ok (.bipush 99, 2) := by decide +kernel
theorem dX8_pay_20 : decode cX8_pay 20 = .ok (.invokestatic 352, 3) := by decide +kernel
theorem dX8_pay_23 : decode cX8_pay 23 = .ok (.ifCond .eq 16, 3) := by decide +kernel
theorem dX8_pay_26 : decode cX8_pay 26 = .ok (.iload_n 3, 1) := by decide +kernel
theorem dX8_pay_27 : decode cX8_pay 27 = .ok (.iconst 0, 1) := by decide +kernel
theorem dX8_pay_28 : decode cX8_pay 28 = .ok (.iconst 2, 1) := by decide +kernel
theorem dX8_pay_29 : decode cX8_pay 29 = .ok (.invokestatic 352, 3) := by decide +kernel
theorem dX8_pay_32 : decode cX8_pay 32 = .ok (.ifCond .eq 7, 3) := by decide +kernel
theorem dX8_pay_35 : decode cX8_pay 35 = .ok (.iconst 1, 1) := by decide +kernel
theorem dX8_pay_36 : decode cX8_pay 36 = .ok (.goto 4, 3) := by decide +kernel
theorem dX8_pay_39 : decode cX8_pay 39 = .ok (.iconst 0, 1) := by decide +kernel
theorem dX8_pay_40 : decode cX8_pay 40 = .ok (.iconst 1, 1) := by decide +kernel
theorem dX8_pay_41 : decode cX8_pay 41 = .ok (.iconst 1, 1) := by decide +kernel
theorem dX8_pay_42 : decode cX8_pay 42 = .ok (.invokevirtual 190, 3) := by decide +kernel
theorem dX8_pay_45 : decode cX8_pay 45 = .ok (.ifCond .ne 5, 3) := by decide +kernel
theorem dX8_pay_48 : decode cX8_pay 48 = .ok (.iconst 0, 1) := by decide +kernel
theorem dX8_pay_49 : decode cX8_pay 49 = .ok (.ireturn, 1) := by decide +kernel
theorem dX8_pay_50 : decode cX8_pay 50 = .ok (.iconst 0, 1) := by decide +kernel
theorem dX8_pay_51 : decode cX8_pay 51 = .ok (.istore 4, 2) := by decide +kernel
theorem dX8_pay_53 : decode cX8_pay 53 = .ok (.iconst (-1), 1) := by decide +kernel
theorem dX8_pay_54 : decode cX8_pay 54 = .ok (.istore 5, 2) := by decide +kernel
theorem dX8_pay_56 : decode cX8_pay 56 = .ok (.iconst 0, 1) := by decide +kernel
theorem dX8_pay_57 : decode cX8_pay 57 = .ok (.istore 6, 2) := by decide +kernel
theorem dX8_pay_59 : decode cX8_pay 59 = .ok (.iload 6, 2) := by decide +kernel
theorem dX8_pay_61 : decode cX8_pay 61 = .ok (.iconst 4, 1) := by decide +kernel
theorem dX8_pay_62 : decode cX8_pay 62 = .ok (.if_icmp .ge 94, 3) := by decide +kernel
theorem dX8_pay_65 : decode cX8_pay 65 = .ok (.iload 6, 2) := by decide +kernel
theorem dX8_pay_67 : decode cX8_pay 67 = .ok (.iconst 2, 1) := by decide +kernel
theorem dX8_pay_68 : decode cX8_pay 68 = .ok (.idiv, 1) := by decide +kernel
theorem dX8_pay_69 : decode cX8_pay 69 = .ok (.istore 7, 2) := by decide +kernel
theorem dX8_pay_71 : decode cX8_pay 71 = .ok (.iload 6, 2) := by decide +kernel
theorem dX8_pay_73 : decode cX8_pay 73 = .ok (.iconst 2, 1) := by decide +kernel
theorem dX8_pay_74 : decode cX8_pay 74 = .ok (.irem, 1) := by decide +kernel
theorem dX8_pay_75 : decode cX8_pay 75 = .ok (.istore 8, 2) := by decide +kernel
theorem dX8_pay_77 : decode cX8_pay 77 = .ok (.iconst 1, 1) := by decide +kernel
theorem dX8_pay_78 : decode cX8_pay 78 = .ok (.iload 7, 2) := by decide +kernel
theorem dX8_pay_80 : decode cX8_pay 80 = .ok (.isub, 1) := by decide +kernel
theorem dX8_pay_81 : decode cX8_pay 81 = .ok (.iload 8, 2) := by decide +kernel
theorem dX8_pay_83 : decode cX8_pay 83 = .ok (.iload_n 1, 1) := by decide +kernel
theorem dX8_pay_84 : decode cX8_pay 84 = .ok (.iload_n 2, 1) := by decide +kernel
theorem dX8_pay_85 : decode cX8_pay 85 = .ok (.invokestatic 420, 3) := by decide +kernel
theorem dX8_pay_88 : decode cX8_pay 88 = .ok (.iload 7, 2) := by decide +kernel
theorem dX8_pay_90 : decode cX8_pay 90 = .ok (.iload 8, 2) := by decide +kernel
theorem dX8_pay_92 : decode cX8_pay 92 = .ok (.iload_n 1, 1) := by decide +kernel
theorem dX8_pay_93 : decode cX8_pay 93 = .ok (.iload_n 2, 1) := by decide +kernel
theorem dX8_pay_94 : decode cX8_pay 94 = .ok (.invokestatic 420, 3) := by decide +kernel
theorem dX8_pay_97 : decode cX8_pay 97 = .ok (.if_icmp .gt 53, 3) := by decide +kernel
theorem dX8_pay_100 : decode cX8_pay 100 = .ok (.iconst 1, 1) := by decide +kernel
theorem dX8_pay_101 : decode cX8_pay 101 = .ok (.iload 8, 2) := by decide +kernel
theorem dX8_pay_103 : decode cX8_pay 103 = .ok (.isub, 1) := by decide +kernel
theorem dX8_pay_104 : decode cX8_pay 104 = .ok (.iload 7, 2) := by decide +kernel
theorem dX8_pay_106 : decode cX8_pay 106 = .ok (.iload_n 1, 1) := by decide +kernel
theorem dX8_pay_107 : decode cX8_pay 107 = .ok (.iload_n 2, 1) := by decide +kernel
theorem dX8_pay_108 : decode cX8_pay 108 = .ok (.invokestatic 420, 3) := by decide +kernel
theorem dX8_pay_111 : decode cX8_pay 111 = .ok (.iload 8, 2) := by decide +kernel
theorem dX8_pay_113 : decode cX8_pay 113 = .ok (.iload 7, 2) := by decide +kernel
theorem dX8_pay_115 : decode cX8_pay 115 = .ok (.iload_n 1, 1) := by decide +kernel
theorem dX8_pay_116 : decode cX8_pay 116 = .ok (.iload_n 2, 1) := by decide +kernel
theorem dX8_pay_117 : decode cX8_pay 117 = .ok (.invokestatic 420, 3) := by decide +kernel
theorem dX8_pay_120 : decode cX8_pay 120 = .ok (.if_icmp .le 6, 3) := by decide +kernel
theorem dX8_pay_123 : decode cX8_pay 123 = .ok (.goto 27, 3) := by decide +kernel
theorem dX8_pay_126 : decode cX8_pay 126 = .ok (.iinc 4 1, 3) := by decide +kernel
theorem dX8_pay_129 : decode cX8_pay 129 = .ok (.iload 5, 2) := by decide +kernel
theorem dX8_pay_131 : decode cX8_pay 131 = .ok (.iconst (-1), 1) := by decide +kernel
theorem dX8_pay_132 : decode cX8_pay 132 = .ok (.if_icmp .ne 14, 3) := by decide +kernel
theorem dX8_pay_135 : decode cX8_pay 135 = .ok (.bipush 10, 2) := by decide +kernel
theorem dX8_pay_137 : decode cX8_pay 137 = .ok (.iload 7, 2) := by decide +kernel
theorem dX8_pay_139 : decode cX8_pay 139 = .ok (.imul, 1) := by decide +kernel
theorem dX8_pay_140 : decode cX8_pay 140 = .ok (.iload 8, 2) := by decide +kernel
theorem dX8_pay_142 : decode cX8_pay 142 = .ok (.iadd, 1) := by decide +kernel
theorem dX8_pay_143 : decode cX8_pay 143 = .ok (.goto 5, 3) := by decide +kernel
theorem dX8_pay_146 : decode cX8_pay 146 = .ok (.iload 5, 2) := by decide +kernel
theorem dX8_pay_148 : decode cX8_pay 148 = .ok (.istore 5, 2) := by decide +kernel
theorem dX8_pay_150 : decode cX8_pay 150 = .ok (.iinc 6 1, 3) := by decide +kernel
theorem dX8_pay_153 : decode cX8_pay 153 = .ok (.goto (-94), 3) := by decide +kernel
theorem dX8_pay_156 : decode cX8_pay 156 = .ok (.iload_n 3, 1) := by decide +kernel
theorem dX8_pay_157 : decode cX8_pay 157 = .ok (.ifCond .ne 8, 3) := by decide +kernel
theorem dX8_pay_160 : decode cX8_pay 160 = .ok (.iload 4, 2) := by decide +kernel
theorem dX8_pay_162 : decode cX8_pay 162 = .ok (.goto 54, 3) := by decide +kernel
theorem dX8_pay_165 : decode cX8_pay 165 = .ok (.iload_n 3, 1) := by decide +kernel
theorem dX8_pay_166 : decode cX8_pay 166 = .ok (.iconst 1, 1) := by decide +kernel
theorem dX8_pay_167 : decode cX8_pay 167 = .ok (.if_icmp .ne 8, 3) := by decide +kernel
theorem dX8_pay_170 : decode cX8_pay 170 = .ok (.iload 5, 2) := by decide +kernel
theorem dX8_pay_172 : decode cX8_pay 172 = .ok (.goto 44, 3) := by decide +kernel
theorem dX8_pay_175 : decode cX8_pay 175 = .ok (.iload 5, 2) := by decide +kernel
theorem dX8_pay_177 : decode cX8_pay 177 = .ok (.iconst (-1), 1) := by decide +kernel
theorem dX8_pay_178 : decode cX8_pay 178 = .ok (.if_icmp .ne 7, 3) := by decide +kernel
theorem dX8_pay_181 : decode cX8_pay 181 = .ok (.iconst 0, 1) := by decide +kernel
theorem dX8_pay_182 : decode cX8_pay 182 = .ok (.goto 34, 3) := by decide +kernel
theorem dX8_pay_185 : decode cX8_pay 185 = .ok (.iload 5, 2) := by decide +kernel
theorem dX8_pay_187 : decode cX8_pay 187 = .ok (.bipush 10, 2) := by decide +kernel
theorem dX8_pay_189 : decode cX8_pay 189 = .ok (.idiv, 1) := by decide +kernel
theorem dX8_pay_190 : decode cX8_pay 190 = .ok (.iload 5, 2) := by decide +kernel
theorem dX8_pay_192 : decode cX8_pay 192 = .ok (.bipush 10, 2) := by decide +kernel
theorem dX8_pay_194 : decode cX8_pay 194 = .ok (.irem, 1) := by decide +kernel
theorem dX8_pay_195 : decode cX8_pay 195 = .ok (.iload_n 1, 1) := by decide +kernel
theorem dX8_pay_196 : decode cX8_pay 196 = .ok (.iload_n 2, 1) := by decide +kernel
theorem dX8_pay_197 : decode cX8_pay 197 = .ok (.invokestatic 420, 3) := by decide +kernel
theorem dX8_pay_200 : decode cX8_pay 200 = .ok (.iload 5, 2) := by decide +kernel
theorem dX8_pay_202 : decode cX8_pay 202 = .ok (.bipush 10, 2) := by decide +kernel
theorem dX8_pay_204 : decode cX8_pay 204 = .ok (.irem, 1) := by decide +kernel
theorem dX8_pay_205 : decode cX8_pay 205 = .ok (.iload 5, 2) := by decide +kernel
theorem dX8_pay_207 : decode cX8_pay 207 = .ok (.bipush 10, 2) := by decide +kernel
theorem dX8_pay_209 : decode cX8_pay 209 = .ok (.idiv, 1) := by decide +kernel
theorem dX8_pay_210 : decode cX8_pay 210 = .ok (.iload_n 1, 1) := by decide +kernel
theorem dX8_pay_211 : decode cX8_pay 211 = .ok (.iload_n 2, 1) := by decide +kernel
theorem dX8_pay_212 : decode cX8_pay 212 = .ok (.invokestatic 420, 3) := by decide +kernel
theorem dX8_pay_215 : decode cX8_pay 215 = .ok (.iadd, 1) := by decide +kernel
theorem dX8_pay_216 : decode cX8_pay 216 = .ok (.ireturn, 1) := by decide +kernel
theorem dX8_bounded_0 : decode cX8_bounded 0 = .ok (.aload_n 0, 1) := by decide +kernel
theorem dX8_bounded_1 : decode cX8_bounded 1 = .ok (.aload_n 0, 1) := by decide +kernel
theorem dX8_bounded_2 : decode cX8_bounded 2 = .ok (.iload_n 1, 1) := by decide +kernel
theorem dX8_bounded_3 : decode cX8_bounded 3 = .ok (.invokevirtual 342, 3) := by decide +kernel
theorem dX8_bounded_6 : decode cX8_bounded 6 = .ok (.invokevirtual 345, 3) := by decide +kernel
theorem dX8_bounded_9 : decode cX8_bounded 9 = .ok (.istore_n 3, 1) := by decide +kernel
theorem dX8_bounded_10 : decode cX8_bounded 10 = .ok (.iload_n 3, 1) := by decide +kernel
theorem dX8_bounded_11 : decode cX8_bounded 11 = .ok (.iload_n 2, 1) := by decide +kernel
theorem dX8_bounded_12 : decode cX8_bounded 12 = .ok (.if_icmp .ge 7, 3) := by decide +kernel
theorem dX8_bounded_15 : decode cX8_bounded 15 = .ok (.iload_n 3, 1) := by decide +kernel
theorem dX8_bounded_16 : decode cX8_bounded 16 = .ok (.goto 4, 3) := by decide +kernel
theorem dX8_bounded_19 : decode cX8_bounded 19 = .ok (.iload_n 2, 1) := by decide +kernel
theorem dX8_bounded_20 : decode cX8_bounded 20 = .ok (.ireturn, 1) := by decide +kernel
theorem dX8_sunBy_0 : decode cX8_sunBy 0 = .ok (.iconst 0, 1) := by decide +kernel
theorem dX8_sunBy_1 : decode cX8_sunBy 1 = .ok (.istore_n 3, 1) := by decide +kernel
theorem dX8_sunBy_2 : decode cX8_sunBy 2 = .ok (.iconst 0, 1) := by decide +kernel
theorem dX8_sunBy_3 : decode cX8_sunBy 3 = .ok (.istore 4, 2) := by decide +kernel
theorem dX8_sunBy_5 : decode cX8_sunBy 5 = .ok (.iload 4, 2) := by decide +kernel
theorem dX8_sunBy_7 : decode cX8_sunBy 7 = .ok (.aload_n 0, 1) := by decide +kernel
theorem dX8_sunBy_8 : decode cX8_sunBy 8 = .ok (.getfield 154, 3) := by decide +kernel
theorem dX8_sunBy_11 : decode cX8_sunBy 11 = .ok (.if_icmp .ge 26, 3) := by decide +kernel
theorem dX8_sunBy_14 : decode cX8_sunBy 14 = .ok (.iload_n 3, 1) := by decide +kernel
theorem dX8_sunBy_15 : decode cX8_sunBy 15 = .ok (.iload_n 1, 1) := by decide +kernel
theorem dX8_sunBy_16 : decode cX8_sunBy 16 = .ok (.iload 4, 2) := by decide +kernel
theorem dX8_sunBy_18 : decode cX8_sunBy 18 = .ok (.ishr, 1) := by decide +kernel
theorem dX8_sunBy_19 : decode cX8_sunBy 19 = .ok (.iconst 1, 1) := by decide +kernel
theorem dX8_sunBy_20 : decode cX8_sunBy 20 = .ok (.iand, 1) := by decide +kernel
theorem dX8_sunBy_21 : decode cX8_sunBy 21 = .ok (.aload_n 0, 1) := by decide +kernel
theorem dX8_sunBy_22 : decode cX8_sunBy 22 = .ok (.iload 4, 2) := by decide +kernel
theorem dX8_sunBy_24 : decode cX8_sunBy 24 = .ok (.iload_n 2, 1) := by decide +kernel
theorem dX8_sunBy_25 : decode cX8_sunBy 25 = .ok (.invokevirtual 424, 3) := by decide +kernel
theorem dX8_sunBy_28 : decode cX8_sunBy 28 = .ok (.imul, 1) := by decide +kernel
theorem dX8_sunBy_29 : decode cX8_sunBy 29 = .ok (.iadd, 1) := by decide +kernel
theorem dX8_sunBy_30 : decode cX8_sunBy 30 = .ok (.istore_n 3, 1) := by decide +kernel
theorem dX8_sunBy_31 : decode cX8_sunBy 31 = .ok (.iinc 4 1, 3) := by decide +kernel
theorem dX8_sunBy_34 : decode cX8_sunBy 34 = .ok (.goto (-29), 3) := by decide +kernel
theorem dX8_sunBy_37 : decode cX8_sunBy 37 = .ok (.iload_n 3, 1) := by decide +kernel
theorem dX8_sunBy_38 : decode cX8_sunBy 38 = .ok (.ireturn, 1) := by decide +kernel
theorem dX8_sun_0 : decode cX8_sun 0 = .ok (.aload_n 0, 1) := by decide +kernel
theorem dX8_sun_1 : decode cX8_sun 1 = .ok (.iconst 0, 1) := by decide +kernel
theorem dX8_sun_2 : decode cX8_sun 2 = .ok (.putfield 3, 3) := by decide +kernel
theorem dX8_sun_5 : decode cX8_sun 5 = .ok (.aload_n 0, 1) := by decide +kernel
theorem dX8_sun_6 : decode cX8_sun 6 = .ok (.iload_n 1, 1) := by decide +kernel
theorem dX8_sun_7 : decode cX8_sun 7 = .ok (.iconst 1, 1) := by decide +kernel
theorem dX8_sun_8 : decode cX8_sun 8 = .ok (.invokevirtual 395, 3) := by decide +kernel
theorem dX8_sun_11 : decode cX8_sun 11 = .ok (.ifCond .eq 42, 3) := by decide +kernel
theorem dX8_sun_14 : decode cX8_sun 14 = .ok (.aload_n 0, 1) := by decide +kernel
theorem dX8_sun_15 : decode cX8_sun 15 = .ok (.iload_n 2, 1) := by decide +kernel
theorem dX8_sun_16 : decode cX8_sun 16 = .ok (.ifCond .lt 28, 3) := by decide +kernel
theorem dX8_sun_19 : decode cX8_sun 19 = .ok (.iload_n 2, 1) := by decide +kernel
theorem dX8_sun_20 : decode cX8_sun 20 = .ok (.iconst 1, 1) := by decide +kernel
theorem dX8_sun_21 : decode cX8_sun 21 = .ok (.aload_n 0, 1) := by decide +kernel
theorem dX8_sun_22 : decode cX8_sun 22 = .ok (.getfield 154, 3) := by decide +kernel
theorem dX8_sun_25 : decode cX8_sun 25 = .ok (.ishl, 1) := by decide +kernel
theorem dX8_sun_26 : decode cX8_sun 26 = .ok (.if_icmp .ge 18, 3) := by decide +kernel
theorem dX8_sun_29 : decode cX8_sun 29 = .ok (.iload_n 3, 1) := by decide +kernel
theorem dX8_sun_30 : decode cX8_sun 30 = .ok (.iconst 0, 1) := by decide +kernel
theorem dX8_sun_31 : decode cX8_sun 31 = .ok (.sipush 999, 3) := by decide +kernel
theorem dX8_sun_34 : decode cX8_sun 34 = .ok (.invokestatic 352, 3) := by decide +kernel
theorem dX8_sun_37 : decode cX8_sun 37 = .ok (.ifCond .eq 7, 3) := by decide +kernel
theorem dX8_sun_40 : decode cX8_sun 40 = .ok (.iconst 1, 1) := by decide +kernel
theorem dX8_sun_41 : decode cX8_sun 41 = .ok (.goto 4, 3) := by decide +kernel
theorem dX8_sun_44 : decode cX8_sun 44 = .ok (.iconst 0, 1) := by decide +kernel
theorem dX8_sun_45 : decode cX8_sun 45 = .ok (.iconst 2, 1) := by decide +kernel
theorem dX8_sun_46 : decode cX8_sun 46 = .ok (.iconst 1, 1) := by decide +kernel
theorem dX8_sun_47 : decode cX8_sun 47 = .ok (.invokevirtual 190, 3) := by decide +kernel
theorem dX8_sun_50 : decode cX8_sun 50 = .ok (.ifCond .ne 5, 3) := by decide +kernel
theorem dX8_sun_53 : decode cX8_sun 53 = .ok (.iconst 0, 1) := by decide +kernel
theorem dX8_sun_54 : decode cX8_sun 54 = .ok (.ireturn, 1) := by decide +kernel
theorem dX8_sun_55 : decode cX8_sun 55 = .ok (.aload_n 0, 1) := by decide +kernel
theorem dX8_sun_56 : decode cX8_sun 56 = .ok (.invokevirtual 302, 3) := by decide +kernel
theorem dX8_sun_59 : decode cX8_sun 59 = .ok (.sipush 480, 3) := by decide +kernel
theorem dX8_sun_62 : decode cX8_sun 62 = .ok (.istore 4, 2) := by decide +kernel
theorem dX8_sun_64 : decode cX8_sun 64 = .ok (.aload_n 0, 1) := by decide +kernel
theorem dX8_sun_65 : decode cX8_sun 65 = .ok (.iload_n 2, 1) := by decide +kernel
theorem dX8_sun_66 : decode cX8_sun 66 = .ok (.iload 4, 2) := by decide +kernel
theorem dX8_sun_68 : decode cX8_sun 68 = .ok (.invokevirtual 427, 3) := by decide +kernel
theorem dX8_sun_71 : decode cX8_sun 71 = .ok (.iload_n 3, 1) := by decide +kernel
theorem dX8_sun_72 : decode cX8_sun 72 = .ok (.if_icmp .le 9, 3) := by decide +kernel
theorem dX8_sun_75 : decode cX8_sun 75 = .ok (.iinc 4 (-1), 3) := by decide +kernel
theorem dX8_sun_78 : decode cX8_sun 78 = .ok (.goto (-14), 3) := by decide +kernel
theorem dX8_sun_81 : decode cX8_sun 81 = .ok (.iload_n 2, 1) := by decide +kernel
theorem dX8_sun_82 : decode cX8_sun 82 = .ok (.iload_n 1, 1) := by decide +kernel
theorem dX8_sun_83 : decode cX8_sun 83 = .ok (.ishr, 1) := by decide +kernel
theorem dX8_sun_84 : decode cX8_sun 84 = .ok (.iconst 1, 1) := by decide +kernel
theorem dX8_sun_85 : decode cX8_sun 85 = .ok (.iand, 1) := by decide +kernel
theorem dX8_sun_86 : decode cX8_sun 86 = .ok (.ifCond .ne 7, 3) := by decide +kernel
theorem dX8_sun_89 : decode cX8_sun 89 = .ok (.iconst 0, 1) := by decide +kernel
theorem dX8_sun_90 : decode cX8_sun 90 = .ok (.goto 10, 3) := by decide +kernel
theorem dX8_sun_93 : decode cX8_sun 93 = .ok (.aload_n 0, 1) := by decide +kernel
theorem dX8_sun_94 : decode cX8_sun 94 = .ok (.iload_n 1, 1) := by decide +kernel
theorem dX8_sun_95 : decode cX8_sun 95 = .ok (.iload 4, 2) := by decide +kernel
theorem dX8_sun_97 : decode cX8_sun 97 = .ok (.invokevirtual 424, 3) := by decide +kernel
theorem dX8_sun_100 : decode cX8_sun 100 = .ok (.ireturn, 1) := by decide +kernel
theorem dX8_richest_0 : decode cX8_richest 0 = .ok (.aload_n 0, 1) := by decide +kernel
theorem dX8_richest_1 : decode cX8_richest 1 = .ok (.iconst 0, 1) := by decide +kernel
theorem dX8_richest_2 : decode cX8_richest 2 = .ok (.putfield 3, 3) := by decide +kernel
theorem dX8_richest_5 : decode cX8_richest 5 = .ok (.aload_n 0, 1) := by decide +kernel
theorem dX8_richest_6 : decode cX8_richest 6 = .ok (.iload_n 1, 1) := by decide +kernel
theorem dX8_richest_7 : decode cX8_richest 7 = .ok (.iconst 0, 1) := by decide +kernel
theorem dX8_richest_8 : decode cX8_richest 8 = .ok (.iconst 1, 1) := by decide +kernel
theorem dX8_richest_9 : decode cX8_richest 9 = .ok (.invokestatic 352, 3) := by decide +kernel
theorem dX8_richest_12 : decode cX8_richest 12 = .ok (.iconst 1, 1) := by decide +kernel
theorem dX8_richest_13 : decode cX8_richest 13 = .ok (.iconst 1, 1) := by decide +kernel
theorem dX8_richest_14 : decode cX8_richest 14 = .ok (.invokevirtual 190, 3) := by decide +kernel
theorem dX8_richest_17 : decode cX8_richest 17 = .ok (.ifCond .ne 5, 3) := by decide +kernel
theorem dX8_richest_20 : decode cX8_richest 20 = .ok (.iconst 0, 1) := by decide +kernel
theorem dX8_richest_21 : decode cX8_richest 21 = .ok (.ireturn, 1) := by decide +kernel
theorem dX8_richest_22 : decode cX8_richest 22 = .ok (.aload_n 0, 1) := by decide +kernel
theorem dX8_richest_23 : decode cX8_richest 23 = .ok (.invokevirtual 302, 3) := by decide +kernel
theorem dX8_richest_26 : decode cX8_richest 26 = .ok (.iconst (-1), 1) := by decide +kernel
theorem dX8_richest_27 : decode cX8_richest 27 = .ok (.istore_n 2, 1) := by decide +kernel
theorem dX8_richest_28 : decode cX8_richest 28 = .ok (.iconst 0, 1) := by decide +kernel
theorem dX8_richest_29 : decode cX8_richest 29 = .ok (.istore_n 3, 1) := by decide +kernel
theorem dX8_richest_30 : decode cX8_richest 30 = .ok (.iload_n 3, 1) := by decide +kernel
theorem dX8_richest_31 : decode cX8_richest 31 = .ok (.aload_n 0, 1) := by decide +kernel
theorem dX8_richest_32 : decode cX8_richest 32 = .ok (.getfield 154, 3) := by decide +kernel
theorem dX8_richest_35 : decode cX8_richest 35 = .ok (.if_icmp .ge 49, 3) := by decide +kernel
theorem dX8_richest_38 : decode cX8_richest 38 = .ok (.aload_n 0, 1) := by decide +kernel
theorem dX8_richest_39 : decode cX8_richest 39 = .ok (.getfield 62, 3) := by decide +kernel
theorem dX8_richest_42 : decode cX8_richest 42 = .ok (.bipush 10, 2) := by decide +kernel
theorem dX8_richest_44 : decode cX8_richest 44 = .ok (.iload_n 3, 1) := by decide +kernel
theorem dX8_richest_45 : decode cX8_richest 45 = .ok (.iadd, 1) := by decide +kernel
theorem dX8_richest_46 : decode cX8_richest 46 = .ok (.iaload, 1) := by decide +kernel
theorem dX8_richest_47 : decode cX8_richest 47 = .ok (.ifCond .le 31, 3) := by decide +kernel
theorem dX8_richest_50 : decode cX8_richest 50 = .ok (.iload_n 2, 1) := by decide +kernel
theorem dX8_richest_51 : decode cX8_richest 51 = .ok (.iconst (-1), 1) := by decide +kernel
theorem dX8_richest_52 : decode cX8_richest 52 = .ok (.if_icmp .eq 24, 3) := by decide +kernel
theorem dX8_richest_55 : decode cX8_richest 55 = .ok (.aload_n 0, 1) := by decide +kernel
theorem dX8_richest_56 : decode cX8_richest 56 = .ok (.aload_n 0, 1) := by decide +kernel
theorem dX8_richest_57 : decode cX8_richest 57 = .ok (.iload_n 3, 1) := by decide +kernel
theorem dX8_richest_58 : decode cX8_richest 58 = .ok (.invokevirtual 342, 3) := by decide +kernel
theorem dX8_richest_61 : decode cX8_richest 61 = .ok (.invokevirtual 345, 3) := by decide +kernel
theorem dX8_richest_64 : decode cX8_richest 64 = .ok (.aload_n 0, 1) := by decide +kernel
theorem dX8_richest_65 : decode cX8_richest 65 = .ok (.aload_n 0, 1) := by decide +kernel
theorem dX8_richest_66 : decode cX8_richest 66 = .ok (.iload_n 2, 1) := by decide +kernel
theorem dX8_richest_67 : decode cX8_richest 67 = .ok (.invokevirtual 342, 3) := by decide +kernel
theorem dX8_richest_70 : decode cX8_richest 70 = .ok (.invokevirtual 345, 3) := by decide +kernel
theorem dX8_richest_73 : decode cX8_richest 73 = .ok (.if_icmp .le 5, 3) := by decide +kernel
theorem dX8_richest_76 : decode cX8_richest 76 = .ok (.iload_n 3, 1) := by decide +kernel
theorem dX8_richest_77 : decode cX8_richest 77 = .ok (.istore_n 2, 1) := by decide +kernel
theorem dX8_richest_78 : decode cX8_richest 78 = .ok (.iinc 3 1, 3) := by decide +kernel
theorem dX8_richest_81 : decode cX8_richest 81 = .ok (.goto (-51), 3) := by decide +kernel
theorem dX8_richest_84 : decode cX8_richest 84 = .ok (.iload_n 1, 1) := by decide +kernel
theorem dX8_richest_85 : decode cX8_richest 85 = .ok (.ifCond .eq 8, 3) := by decide +kernel
theorem dX8_richest_88 : decode cX8_richest 88 = .ok (.iload_n 2, 1) := by decide +kernel
theorem dX8_richest_89 : decode cX8_richest 89 = .ok (.iconst (-1), 1) := by decide +kernel
theorem dX8_richest_90 : decode cX8_richest 90 = .ok (.if_icmp .ne 7, 3) := by decide +kernel
theorem dX8_richest_93 : decode cX8_richest 93 = .ok (.iload_n 2, 1) := by decide +kernel
theorem dX8_richest_94 : decode cX8_richest 94 = .ok (.goto 12, 3) := by decide +kernel
theorem dX8_richest_97 : decode cX8_richest 97 = .ok (.aload_n 0, 1) := by decide +kernel
theorem dX8_richest_98 : decode cX8_richest 98 = .ok (.aload_n 0, 1) := by decide +kernel
theorem dX8_richest_99 : decode cX8_richest 99 = .ok (.iload_n 2, 1) := by decide +kernel
theorem dX8_richest_100 : decode cX8_richest 100 = .ok (.invokevirtual 342, 3) := by decide +kernel
theorem dX8_richest_103 : decode cX8_richest 103 = .ok (.invokevirtual 345, 3) := by decide +kernel
theorem dX8_richest_106 : decode cX8_richest 106 = .ok (.ireturn, 1) := by decide +kernel
theorem dX8_idle_0 : decode cX8_idle 0 = .ok (.aload_n 0, 1) := by decide +kernel
theorem dX8_idle_1 : decode cX8_idle 1 = .ok (.iconst 0, 1) := by decide +kernel
theorem dX8_idle_2 : decode cX8_idle 2 = .ok (.putfield 3, 3) := by decide +kernel
theorem dX8_idle_5 : decode cX8_idle 5 = .ok (.aload_n 0, 1) := by decide +kernel
theorem dX8_idle_6 : decode cX8_idle 6 = .ok (.invokevirtual 302, 3) := by decide +kernel
theorem dX8_idle_9 : decode cX8_idle 9 = .ok (.iconst 0, 1) := by decide +kernel
theorem dX8_idle_10 : decode cX8_idle 10 = .ok (.istore_n 1, 1) := by decide +kernel
theorem dX8_idle_11 : decode cX8_idle 11 = .ok (.iconst 0, 1) := by decide +kernel
theorem dX8_idle_12 : decode cX8_idle 12 = .ok (.istore_n 2, 1) := by decide +kernel
theorem dX8_idle_13 : decode cX8_idle 13 = .ok (.iload_n 2, 1) := by decide +kernel
theorem dX8_idle_14 : decode cX8_idle 14 = .ok (.aload_n 0, 1) := by decide +kernel
theorem dX8_idle_15 : decode cX8_idle 15 = .ok (.getfield 151, 3) := by decide +kernel
theorem dX8_idle_18 : decode cX8_idle 18 = .ok (.if_icmp .ge 28, 3) := by decide +kernel
theorem dX8_idle_21 : decode cX8_idle 21 = .ok (.iload_n 1, 1) := by decide +kernel
theorem dX8_idle_22 : decode cX8_idle 22 = .ok (.aload_n 0, 1) := by decide +kernel
theorem dX8_idle_23 : decode cX8_idle 23 = .ok (.iload_n 2, 1) := by decide +kernel
theorem dX8_idle_24 : decode cX8_idle 24 = .ok (.invokevirtual 327, 3) := by decide +kernel
theorem dX8_idle_27 : decode cX8_idle 27 = .ok (.iconst (-1), 1) := by decide +kernel
theorem dX8_idle_28 : decode cX8_idle 28 = .ok (.if_icmp .ne 9, 3) := by decide +kernel
theorem dX8_idle_31 : decode cX8_idle 31 = .ok (.iconst 1, 1) := by decide +kernel
theorem dX8_idle_32 : decode cX8_idle 32 = .ok (.iload_n 2, 1) := by decide +kernel
theorem dX8_idle_33 : decode cX8_idle 33 = .ok (.ishl, 1) := by decide +kernel
theorem dX8_idle_34 : decode cX8_idle 34 = .ok (.goto 4, 3) := by decide +kernel
theorem dX8_idle_37 : decode cX8_idle 37 = .ok (.iconst 0, 1) := by decide +kernel
theorem dX8_idle_38 : decode cX8_idle 38 = .ok (.ior, 1) := by decide +kernel
theorem dX8_idle_39 : decode cX8_idle 39 = .ok (.istore_n 1, 1) := by decide +kernel
theorem dX8_idle_40 : decode cX8_idle 40 = .ok (.iinc 2 1, 3) := by decide +kernel
theorem dX8_idle_43 : decode cX8_idle 43 = .ok (.goto (-30), 3) := by decide +kernel
theorem dX8_idle_46 : decode cX8_idle 46 = .ok (.iload_n 1, 1) := by decide +kernel
theorem dX8_idle_47 : decode cX8_idle 47 = .ok (.ireturn, 1) := by decide +kernel
theorem dX8_under_0 : decode cX8_under 0 = .ok (.aload_n 0, 1) := by decide +kernel
theorem dX8_under_1 : decode cX8_under 1 = .ok (.iconst 0, 1) := by decide +kernel
theorem dX8_under_2 : decode cX8_under 2 = .ok (.putfield 3, 3) := by decide +kernel
theorem dX8_under_5 : decode cX8_under 5 = .ok (.aload_n 0, 1) := by decide +kernel
theorem dX8_under_6 : decode cX8_under 6 = .ok (.invokevirtual 302, 3) := by decide +kernel
theorem dX8_under_9 : decode cX8_under 9 = .ok (.iconst 0, 1) := by decide +kernel
theorem dX8_under_10 : decode cX8_under 10 = .ok (.istore_n 1, 1) := by decide +kernel
theorem dX8_under_11 : decode cX8_under 11 = .ok (.iconst 0, 1) := by decide +kernel
theorem dX8_under_12 : decode cX8_under 12 = .ok (.istore_n 2, 1) := by decide +kernel
theorem dX8_under_13 : decode cX8_under 13 = .ok (.iload_n 2, 1) := by decide +kernel
theorem dX8_under_14 : decode cX8_under 14 = .ok (.aload_n 0, 1) := by decide +kernel
theorem dX8_under_15 : decode cX8_under 15 = .ok (.getfield 154, 3) := by decide +kernel
theorem dX8_under_18 : decode cX8_under 18 = .ok (.if_icmp .ge 27, 3) := by decide +kernel
theorem dX8_under_21 : decode cX8_under 21 = .ok (.iload_n 1, 1) := by decide +kernel
theorem dX8_under_22 : decode cX8_under 22 = .ok (.aload_n 0, 1) := by decide +kernel
theorem dX8_under_23 : decode cX8_under 23 = .ok (.iload_n 2, 1) := by decide +kernel
theorem dX8_under_24 : decode cX8_under 24 = .ok (.invokevirtual 377, 3) := by decide +kernel
theorem dX8_under_27 : decode cX8_under 27 = .ok (.ifCond .eq 9, 3) := by decide +kernel
theorem dX8_under_30 : decode cX8_under 30 = .ok (.iconst 1, 1) := by decide +kernel
theorem dX8_under_31 : decode cX8_under 31 = .ok (.iload_n 2, 1) := by decide +kernel
theorem dX8_under_32 : decode cX8_under 32 = .ok (.ishl, 1) := by decide +kernel
theorem dX8_under_33 : decode cX8_under 33 = .ok (.goto 4, 3) := by decide +kernel
theorem dX8_under_36 : decode cX8_under 36 = .ok (.iconst 0, 1) := by decide +kernel
theorem dX8_under_37 : decode cX8_under 37 = .ok (.ior, 1) := by decide +kernel
theorem dX8_under_38 : decode cX8_under 38 = .ok (.istore_n 1, 1) := by decide +kernel
theorem dX8_under_39 : decode cX8_under 39 = .ok (.iinc 2 1, 3) := by decide +kernel
theorem dX8_under_42 : decode cX8_under 42 = .ok (.goto (-29), 3) := by decide +kernel
theorem dX8_under_45 : decode cX8_under 45 = .ok (.iload_n 1, 1) := by decide +kernel
theorem dX8_under_46 : decode cX8_under 46 = .ok (.ireturn, 1) := by decide +kernel
theorem dX8_offer_0 : decode cX8_offer 0 = .ok (.aload_n 0, 1) := by decide +kernel
theorem dX8_offer_1 : decode cX8_offer 1 = .ok (.iconst 0, 1) := by decide +kernel
theorem dX8_offer_2 : decode cX8_offer 2 = .ok (.putfield 3, 3) := by decide +kernel
theorem dX8_offer_5 : decode cX8_offer 5 = .ok (.aload_n 0, 1) := by decide +kernel
theorem dX8_offer_6 : decode cX8_offer 6 = .ok (.iload_n 1, 1) := by decide +kernel
theorem dX8_offer_7 : decode cX8_offer 7 = .ok (.iconst 1, 1) := by decide +kernel
theorem dX8_offer_8 : decode cX8_offer 8 = .ok (.invokevirtual 395, 3) := by decide +kernel
theorem dX8_offer_11 : decode cX8_offer 11 = .ok (.ifCond .eq 19, 3) := by decide +kernel
theorem dX8_offer_14 : decode cX8_offer 14 = .ok (.aload_n 0, 1) := by decide +kernel
theorem dX8_offer_15 : decode cX8_offer 15 = .ok (.iload_n 2, 1) := by decide +kernel
theorem dX8_offer_16 : decode cX8_offer 16 = .ok (.iconst 1, 1) := by decide +kernel
theorem dX8_offer_17 : decode cX8_offer 17 = .ok (.bipush 20, 2) := by decide +kernel
theorem dX8_offer_19 : decode cX8_offer 19 = .ok (.invokestatic 352, 3) := by decide +kernel
theorem dX8_offer_22 : decode cX8_offer 22 = .ok (.iconst 2, 1) := by decide +kernel
theorem dX8_offer_23 : decode cX8_offer 23 = .ok (.iconst 1, 1) := by decide +kernel
theorem dX8_offer_24 : decode cX8_offer 24 = .ok (.invokevirtual 190, 3) := by decide +kernel
theorem dX8_offer_27 : decode cX8_offer 27 = .ok (.ifCond .ne 5, 3) := by decide +kernel
theorem dX8_offer_30 : decode cX8_offer 30 = .ok (.iconst 0, 1) := by decide +kernel
theorem dX8_offer_31 : decode cX8_offer 31 = .ok (.ireturn, 1) := by decide +kernel
theorem dX8_offer_32 : decode cX8_offer 32 = .ok (.aload_n 0, 1) := by decide +kernel
theorem dX8_offer_33 : decode cX8_offer 33 = .ok (.invokevirtual 302, 3) := by decide +kernel
theorem dX8_offer_36 : decode cX8_offer 36 = .ok (.aload_n 0, 1) := by decide +kernel
theorem dX8_offer_37 : decode cX8_offer 37 = .ok (.getfield 62, 3) := by decide +kernel
theorem dX8_offer_40 : decode cX8_offer 40 = .ok (.bipush 10, 2) := by decide +kernel
theorem dX8_offer_42 : decode cX8_offer 42 = .ok (.iload_n 1, 1) := by decide +kernel
theorem dX8_offer_43 : decode cX8_offer 43 = .ok (.iadd, 1) := by decide +kernel
theorem dX8_offer_44 : decode cX8_offer 44 = .ok (.iaload, 1) := by decide +kernel
theorem dX8_offer_45 : decode cX8_offer 45 = .ok (.ifCond .le 5, 3) := by decide +kernel
theorem dX8_offer_48 : decode cX8_offer 48 = .ok (.iconst (-1), 1) := by decide +kernel
theorem dX8_offer_49 : decode cX8_offer 49 = .ok (.ireturn, 1) := by decide +kernel
theorem dX8_offer_50 : decode cX8_offer 50 = .ok (.aload_n 0, 1) := by decide +kernel
theorem dX8_offer_51 : decode cX8_offer 51 = .ok (.getfield 62, 3) := by decide +kernel
theorem dX8_offer_54 : decode cX8_offer 54 = .ok (.bipush 10, 2) := by decide +kernel
theorem dX8_offer_56 : decode cX8_offer 56 = .ok (.iload_n 1, 1) := by decide +kernel
theorem dX8_offer_57 : decode cX8_offer 57 = .ok (.iadd, 1) := by decide +kernel
theorem dX8_offer_58 : decode cX8_offer 58 = .ok (.iload_n 2, 1) := by decide +kernel
theorem dX8_offer_59 : decode cX8_offer 59 = .ok (.iastore, 1) := by decide +kernel
theorem dX8_offer_60 : decode cX8_offer 60 = .ok (.aload_n 0, 1) := by decide +kernel
theorem dX8_offer_61 : decode cX8_offer 61 = .ok (.getfield 62, 3) := by decide +kernel
theorem dX8_offer_64 : decode cX8_offer 64 = .ok (.bipush 15, 2) := by decide +kernel
theorem dX8_offer_66 : decode cX8_offer 66 = .ok (.iload_n 1, 1) := by decide +kernel
theorem dX8_offer_67 : decode cX8_offer 67 = .ok (.iadd, 1) := by decide +kernel
theorem dX8_offer_68 : decode cX8_offer 68 = .ok (.aload_n 0, 1) := by decide +kernel
theorem dX8_offer_69 : decode cX8_offer 69 = .ok (.getfield 62, 3) := by decide +kernel
theorem dX8_offer_72 : decode cX8_offer 72 = .ok (.iconst 5, 1) := by decide +kernel
theorem dX8_offer_73 : decode cX8_offer 73 = .ok (.iload_n 1, 1) := by decide +kernel
theorem dX8_offer_74 : decode cX8_offer 74 = .ok (.iadd, 1) := by decide +kernel
theorem dX8_offer_75 : decode cX8_offer 75 = .ok (.iaload, 1) := by decide +kernel
theorem dX8_offer_76 : decode cX8_offer 76 = .ok (.iastore, 1) := by decide +kernel
theorem dX8_offer_77 : decode cX8_offer 77 = .ok (.aload_n 0, 1) := by decide +kernel
theorem dX8_offer_78 : decode cX8_offer 78 = .ok (.aload_n 0, 1) := by decide +kernel
theorem dX8_offer_79 : decode cX8_offer 79 = .ok (.iload_n 1, 1) := by decide +kernel
theorem dX8_offer_80 : decode cX8_offer 80 = .ok (.invokevirtual 342, 3) := by decide +kernel
theorem dX8_offer_83 : decode cX8_offer 83 = .ok (.invokevirtual 345, 3) := by decide +kernel
theorem dX8_offer_86 : decode cX8_offer 86 = .ok (.ireturn, 1) := by decide +kernel
theorem dX8_lost_0 : decode cX8_lost 0 = .ok (.aload_n 0, 1) := by decide +kernel
theorem dX8_lost_1 : decode cX8_lost 1 = .ok (.iconst 0, 1) := by decide +kernel
theorem dX8_lost_2 : decode cX8_lost 2 = .ok (.putfield 3, 3) := by decide +kernel
theorem dX8_lost_5 : decode cX8_lost 5 = .ok (.aload_n 0, 1) := by decide +kernel
theorem dX8_lost_6 : decode cX8_lost 6 = .ok (.iload_n 1, 1) := by decide +kernel
theorem dX8_lost_7 : decode cX8_lost 7 = .ok (.iconst 1, 1) := by decide +kernel
theorem dX8_lost_8 : decode cX8_lost 8 = .ok (.bipush 20, 2) := by decide +kernel
theorem dX8_lost_10 : decode cX8_lost 10 = .ok (.invokestatic 352, 3) := by decide +kernel
theorem dX8_lost_13 : decode cX8_lost 13 = .ok (.ifCond .eq 16, 3) := by decide +kernel
theorem dX8_lost_16 : decode cX8_lost 16 = .ok (.iload_n 2, 1) := by decide +kernel
theorem dX8_lost_17 : decode cX8_lost 17 = .ok (.iconst 0, 1) := by decide +kernel
theorem dX8_lost_18 : decode cX8_lost 18 = .ok (.iconst 1, 1) := by decide +kernel
theorem dX8_lost_19 : decode cX8_lost 19 = .ok (.invokestatic 352, 3) := by decide +kernel
theorem dX8_lost_22 : decode cX8_lost 22 = .ok (.ifCond .eq 7, 3) := by decide +kernel
theorem dX8_lost_25 : decode cX8_lost 25 = .ok (.iconst 1, 1) := by decide +kernel
theorem dX8_lost_26 : decode cX8_lost 26 = .ok (.goto 4, 3) := by decide +kernel
theorem dX8_lost_29 : decode cX8_lost 29 = .ok (.iconst 0, 1) := by decide +kernel
theorem dX8_lost_30 : decode cX8_lost 30 = .ok (.iconst 1, 1) := by decide +kernel
theorem dX8_lost_31 : decode cX8_lost 31 = .ok (.iconst 1, 1) := by decide +kernel
theorem dX8_lost_32 : decode cX8_lost 32 = .ok (.invokevirtual 190, 3) := by decide +kernel
theorem dX8_lost_35 : decode cX8_lost 35 = .ok (.ifCond .ne 5, 3) := by decide +kernel
theorem dX8_lost_38 : decode cX8_lost 38 = .ok (.iconst 0, 1) := by decide +kernel
theorem dX8_lost_39 : decode cX8_lost 39 = .ok (.ireturn, 1) := by decide +kernel
theorem dX8_lost_40 : decode cX8_lost 40 = .ok (.aload_n 0, 1) := by decide +kernel
theorem dX8_lost_41 : decode cX8_lost 41 = .ok (.invokevirtual 302, 3) := by decide +kernel
theorem dX8_lost_44 : decode cX8_lost 44 = .ok (.iconst 0, 1) := by decide +kernel
theorem dX8_lost_45 : decode cX8_lost 45 = .ok (.istore_n 3, 1) := by decide +kernel
theorem dX8_lost_46 : decode cX8_lost 46 = .ok (.iconst 0, 1) := by decide +kernel
theorem dX8_lost_47 : decode cX8_lost 47 = .ok (.istore 4, 2) := by decide +kernel
theorem dX8_lost_49 : decode cX8_lost 49 = .ok (.iload 4, 2) := by decide +kernel
theorem dX8_lost_51 : decode cX8_lost 51 = .ok (.aload_n 0, 1) := by decide +kernel
theorem dX8_lost_52 : decode cX8_lost 52 = .ok (.getfield 154, 3) := by decide +kernel
theorem dX8_lost_55 : decode cX8_lost 55 = .ok (.if_icmp .ge 39, 3) := by decide +kernel
theorem dX8_lost_58 : decode cX8_lost 58 = .ok (.iload_n 3, 1) := by decide +kernel
theorem dX8_lost_59 : decode cX8_lost 59 = .ok (.aload_n 0, 1) := by decide +kernel
theorem dX8_lost_60 : decode cX8_lost 60 = .ok (.iload 4, 2) := by decide +kernel
theorem dX8_lost_62 : decode cX8_lost 62 = .ok (.iload_n 2, 1) := by decide +kernel
theorem dX8_lost_63 : decode cX8_lost 63 = .ok (.ifCond .ne 7, 3) := by decide +kernel
theorem dX8_lost_66 : decode cX8_lost 66 = .ok (.iload_n 1, 1) := by decide +kernel
theorem dX8_lost_67 : decode cX8_lost 67 = .ok (.goto 5, 3) := by decide +kernel
theorem dX8_lost_70 : decode cX8_lost 70 = .ok (.iload_n 1, 1) := by decide +kernel
theorem dX8_lost_71 : decode cX8_lost 71 = .ok (.ineg, 1) := by decide +kernel
theorem dX8_lost_72 : decode cX8_lost 72 = .ok (.invokevirtual 359, 3) := by decide +kernel
theorem dX8_lost_75 : decode cX8_lost 75 = .ok (.ifCond .eq 10, 3) := by decide +kernel
theorem dX8_lost_78 : decode cX8_lost 78 = .ok (.iconst 1, 1) := by decide +kernel
theorem dX8_lost_79 : decode cX8_lost 79 = .ok (.iload 4, 2) := by decide +kernel
theorem dX8_lost_81 : decode cX8_lost 81 = .ok (.ishl, 1) := by decide +kernel
theorem dX8_lost_82 : decode cX8_lost 82 = .ok (.goto 4, 3) := by decide +kernel
theorem dX8_lost_85 : decode cX8_lost 85 = .ok (.iconst 0, 1) := by decide +kernel
theorem dX8_lost_86 : decode cX8_lost 86 = .ok (.ior, 1) := by decide +kernel
theorem dX8_lost_87 : decode cX8_lost 87 = .ok (.istore_n 3, 1) := by decide +kernel
theorem dX8_lost_88 : decode cX8_lost 88 = .ok (.iinc 4 1, 3) := by decide +kernel
theorem dX8_lost_91 : decode cX8_lost 91 = .ok (.goto (-42), 3) := by decide +kernel
theorem dX8_lost_94 : decode cX8_lost 94 = .ok (.iload_n 3, 1) := by decide +kernel
theorem dX8_lost_95 : decode cX8_lost 95 = .ok (.ireturn, 1) := by decide +kernel
theorem dX8_terrace_0 : decode cX8_terrace 0 = .ok (.aload_n 0, 1) := by decide +kernel
theorem dX8_terrace_1 : decode cX8_terrace 1 = .ok (.iconst 0, 1) := by decide +kernel
theorem dX8_terrace_2 : decode cX8_terrace 2 = .ok (.putfield 3, 3) := by decide +kernel
theorem dX8_terrace_5 : decode cX8_terrace 5 = .ok (.aload_n 0, 1) := by decide +kernel
theorem dX8_terrace_6 : decode cX8_terrace 6 = .ok (.iload_n 1, 1) := by decide +kernel
theorem dX8_terrace_7 : decode cX8_terrace 7 = .ok (.iconst 1, 1) := by decide +kernel
theorem dX8_terrace_8 : decode cX8_terrace 8 = .ok (.invokevirtual 395, 3) := by decide +kernel
theorem dX8_terrace_11 : decode cX8_terrace 11 = .ok (.ifCond .ne 5, 3) := by decide +kernel
theorem dX8_terrace_14 : decode cX8_terrace 14 = .ok (.iconst 0, 1) := by decide +kernel
theorem dX8_terrace_15 : decode cX8_terrace 15 = .ok (.ireturn, 1) := by decide +kernel
theorem dX8_terrace_16 : decode cX8_terrace 16 = .ok (.aload_n 0, 1) := by decide +kernel
theorem dX8_terrace_17 : decode cX8_terrace 17 = .ok (.invokevirtual 302, 3) := by decide +kernel
theorem dX8_terrace_20 : decode cX8_terrace 20 = .ok (.aload_n 0, 1) := by decide +kernel
theorem dX8_terrace_21 : decode cX8_terrace 21 = .ok (.getfield 62, 3) := by decide +kernel
theorem dX8_terrace_24 : decode cX8_terrace 24 = .ok (.bipush 10, 2) := by decide +kernel
theorem dX8_terrace_26 : decode cX8_terrace 26 = .ok (.iload_n 1, 1) := by decide +kernel
theorem dX8_terrace_27 : decode cX8_terrace 27 = .ok (.iadd, 1) := by decide +kernel
theorem dX8_terrace_28 : decode cX8_terrace 28 = .ok (.iaload, 1) := by decide +kernel
theorem dX8_terrace_29 : decode cX8_terrace 29 = .ok (.ifCond .le 9, 3) := by decide +kernel
theorem dX8_terrace_32 : decode cX8_terrace 32 = .ok (.iconst 1, 1) := by decide +kernel
theorem dX8_terrace_33 : decode cX8_terrace 33 = .ok (.iload_n 1, 1) := by decide +kernel
theorem dX8_terrace_34 : decode cX8_terrace 34 = .ok (.ishl, 1) := by decide +kernel
theorem dX8_terrace_35 : decode cX8_terrace 35 = .ok (.goto 4, 3) := by decide +kernel
theorem dX8_terrace_38 : decode cX8_terrace 38 = .ok (.iconst 0, 1) := by decide +kernel
theorem dX8_terrace_39 : decode cX8_terrace 39 = .ok (.istore_n 2, 1) := by decide +kernel
theorem dX8_terrace_40 : decode cX8_terrace 40 = .ok (.iconst 0, 1) := by decide +kernel
theorem dX8_terrace_41 : decode cX8_terrace 41 = .ok (.istore_n 3, 1) := by decide +kernel
theorem dX8_terrace_42 : decode cX8_terrace 42 = .ok (.iload_n 3, 1) := by decide +kernel
theorem dX8_terrace_43 : decode cX8_terrace 43 = .ok (.iconst 5, 1) := by decide +kernel
theorem dX8_terrace_44 : decode cX8_terrace 44 = .ok (.if_icmp .ge 46, 3) := by decide +kernel
theorem dX8_terrace_47 : decode cX8_terrace 47 = .ok (.iconst 0, 1) := by decide +kernel
theorem dX8_terrace_48 : decode cX8_terrace 48 = .ok (.istore 4, 2) := by decide +kernel
theorem dX8_terrace_50 : decode cX8_terrace 50 = .ok (.iload 4, 2) := by decide +kernel
theorem dX8_terrace_52 : decode cX8_terrace 52 = .ok (.aload_n 0, 1) := by decide +kernel
theorem dX8_terrace_53 : decode cX8_terrace 53 = .ok (.getfield 154, 3) := by decide +kernel
theorem dX8_terrace_56 : decode cX8_terrace 56 = .ok (.if_icmp .ge 28, 3) := by decide +kernel
theorem dX8_terrace_59 : decode cX8_terrace 59 = .ok (.iload_n 2, 1) := by decide +kernel
theorem dX8_terrace_60 : decode cX8_terrace 60 = .ok (.iload 4, 2) := by decide +kernel
theorem dX8_terrace_62 : decode cX8_terrace 62 = .ok (.ishr, 1) := by decide +kernel
theorem dX8_terrace_63 : decode cX8_terrace 63 = .ok (.iconst 1, 1) := by decide +kernel
theorem dX8_terrace_64 : decode cX8_terrace 64 = .ok (.iand, 1) := by decide +kernel
theorem dX8_terrace_65 : decode cX8_terrace 65 = .ok (.iconst 1, 1) := by decide +kernel
theorem dX8_terrace_66 : decode cX8_terrace 66 = .ok (.if_icmp .ne 12, 3) := by decide +kernel
theorem dX8_terrace_69 : decode cX8_terrace 69 = .ok (.iload_n 2, 1) := by decide +kernel
theorem dX8_terrace_70 : decode cX8_terrace 70 = .ok (.aload_n 0, 1) := by decide +kernel
theorem dX8_terrace_71 : decode cX8_terrace 71 = .ok (.iload 4, 2) := by decide +kernel
theorem dX8_terrace_73 : decode cX8_terrace 73 = .ok (.invokevirtual 336, 3) := by decide +kernel
theorem dX8_terrace_76 : decode cX8_terrace 76 = .ok (.ior, 1) := by decide +kernel
theorem dX8_terrace_77 : decode cX8_terrace 77 = .ok (.istore_n 2, 1) := by decide +kernel
theorem dX8_terrace_78 : decode cX8_terrace 78 = .ok (.iinc 4 1, 3) := by decide +kernel
theorem dX8_terrace_81 : decode cX8_terrace 81 = .ok (.goto (-31), 3) := by decide +kernel
theorem dX8_terrace_84 : decode cX8_terrace 84 = .ok (.iinc 3 1, 3) := by decide +kernel
theorem dX8_terrace_87 : decode cX8_terrace 87 = .ok (.goto (-45), 3) := by decide +kernel
theorem dX8_terrace_90 : decode cX8_terrace 90 = .ok (.iload_n 2, 1) := by decide +kernel
theorem dX8_terrace_91 : decode cX8_terrace 91 = .ok (.ireturn, 1) := by decide +kernel
theorem dX8_overlap_0 : decode cX8_overlap 0 = .ok (.aload_n 0, 1) := by decide +kernel
theorem dX8_overlap_1 : decode cX8_overlap 1 = .ok (.iconst 0, 1) := by decide +kernel
theorem dX8_overlap_2 : decode cX8_overlap 2 = .ok (.putfield 3, 3) := by decide +kernel
theorem dX8_overlap_5 : decode cX8_overlap 5 = .ok (.aload_n 0, 1) := by decide +kernel
theorem dX8_overlap_6 : decode cX8_overlap 6 = .ok (.iload_n 1, 1) := by decide +kernel
theorem dX8_overlap_7 : decode cX8_overlap 7 = .ok (.iconst 1, 1) := by decide +kernel
theorem dX8_overlap_8 : decode cX8_overlap 8 = .ok (.invokevirtual 395, 3) := by decide +kernel
theorem dX8_overlap_11 : decode cX8_overlap 11 = .ok (.ifCond .eq 12, 3) := by decide +kernel
theorem dX8_overlap_14 : decode cX8_overlap 14 = .ok (.aload_n 0, 1) := by decide +kernel
theorem dX8_overlap_15 : decode cX8_overlap 15 = .ok (.iload_n 2, 1) := by decide +kernel
theorem dX8_overlap_16 : decode cX8_overlap 16 = .ok (.iconst 1, 1) := by decide +kernel
theorem dX8_overlap_17 : decode cX8_overlap 17 = .ok (.invokevirtual 395, 3) := by decide +kernel
theorem dX8_overlap_20 : decode cX8_overlap 20 = .ok (.ifCond .ne 5, 3) := by decide +kernel
theorem dX8_overlap_23 : decode cX8_overlap 23 = .ok (.iconst 0, 1) := by decide +kernel
theorem dX8_overlap_24 : decode cX8_overlap 24 = .ok (.ireturn, 1) := by decide +kernel
theorem dX8_overlap_25 : decode cX8_overlap 25 = .ok (.iload_n 1, 1) := by decide +kernel
theorem dX8_overlap_26 : decode cX8_overlap 26 = .ok (.iload_n 2, 1) := by decide +kernel
theorem dX8_overlap_27 : decode cX8_overlap 27 = .ok (.if_icmp .eq 27, 3) := by decide +kernel
theorem dX8_overlap_30 : decode cX8_overlap 30 = .ok (.aload_n 0, 1) := by decide +kernel
theorem dX8_overlap_31 : decode cX8_overlap 31 = .ok (.getfield 59, 3) := by decide +kernel
theorem dX8_overlap_34 : decode cX8_overlap 34 = .ok (.bipush 10, 2) := by decide +kernel
theorem dX8_overlap_36 : decode cX8_overlap 36 = .ok (.iload_n 1, 1) := by decide +kernel
theorem dX8_overlap_37 : decode cX8_overlap 37 = .ok (.iadd, 1) := by decide +kernel
theorem dX8_overlap_38 : decode cX8_overlap 38 = .ok (.iaload, 1) := by decide +kernel
theorem dX8_overlap_39 : decode cX8_overlap 39 = .ok (.ifCond .eq 15, 3) := by decide +kernel
theorem dX8_overlap_42 : decode cX8_overlap 42 = .ok (.aload_n 0, 1) := by decide +kernel
theorem dX8_overlap_43 : decode cX8_overlap 43 = .ok (.getfield 59, 3) := by decide +kernel
theorem dX8_overlap_46 : decode cX8_overlap 46 = .ok (.bipush 10, 2) := by decide +kernel
theorem dX8_overlap_48 : decode cX8_overlap 48 = .ok (.iload_n 2, 1) := by decide +kernel
theorem dX8_overlap_49 : decode cX8_overlap 49 = .ok (.iadd, 1) := by decide +kernel
theorem dX8_overlap_50 : decode cX8_overlap 50 = .ok (.iaload, 1) := by decide +kernel
theorem dX8_overlap_51 : decode cX8_overlap 51 = .ok (.ifCond .ne 7, 3) := by decide +kernel
theorem dX8_overlap_54 : decode cX8_overlap 54 = .ok (.ldc_w 432, 3) := by decide +kernel
theorem dX8_overlap_57 : decode cX8_overlap 57 = .ok (.ireturn, 1) := by decide +kernel
theorem dX8_overlap_58 : decode cX8_overlap 58 = .ok (.aload_n 0, 1) := by decide +kernel
theorem dX8_overlap_59 : decode cX8_overlap 59 = .ok (.getfield 59, 3) := by decide +kernel
theorem dX8_overlap_62 : decode cX8_overlap 62 = .ok (.bipush 10, 2) := by decide +kernel
theorem dX8_overlap_64 : decode cX8_overlap 64 = .ok (.iload_n 1, 1) := by decide +kernel
theorem dX8_overlap_65 : decode cX8_overlap 65 = .ok (.iadd, 1) := by decide +kernel
theorem dX8_overlap_66 : decode cX8_overlap 66 = .ok (.iaload, 1) := by decide +kernel
theorem dX8_overlap_67 : decode cX8_overlap 67 = .ok (.aload_n 0, 1) := by decide +kernel
theorem dX8_overlap_68 : decode cX8_overlap 68 = .ok (.getfield 59, 3) := by decide +kernel
theorem dX8_overlap_71 : decode cX8_overlap 71 = .ok (.bipush 10, 2) := by decide +kernel
theorem dX8_overlap_73 : decode cX8_overlap 73 = .ok (.iload_n 2, 1) := by decide +kernel
theorem dX8_overlap_74 : decode cX8_overlap 74 = .ok (.iadd, 1) := by decide +kernel
theorem dX8_overlap_75 : decode cX8_overlap 75 = .ok (.iaload, 1) := by decide +kernel
theorem dX8_overlap_76 : decode cX8_overlap 76 = .ok (.iadd, 1) := by decide +kernel
theorem dX8_overlap_77 : decode cX8_overlap 77 = .ok (.aload_n 0, 1) := by decide +kernel
theorem dX8_overlap_78 : decode cX8_overlap 78 = .ok (.getfield 59, 3) := by decide +kernel
theorem dX8_overlap_81 : decode cX8_overlap 81 = .ok (.bipush 15, 2) := by decide +kernel
theorem dX8_overlap_83 : decode cX8_overlap 83 = .ok (.iload_n 1, 1) := by decide +kernel
theorem dX8_overlap_84 : decode cX8_overlap 84 = .ok (.iadd, 1) := by decide +kernel
theorem dX8_overlap_85 : decode cX8_overlap 85 = .ok (.iaload, 1) := by decide +kernel
theorem dX8_overlap_86 : decode cX8_overlap 86 = .ok (.aload_n 0, 1) := by decide +kernel
theorem dX8_overlap_87 : decode cX8_overlap 87 = .ok (.getfield 59, 3) := by decide +kernel
theorem dX8_overlap_90 : decode cX8_overlap 90 = .ok (.bipush 15, 2) := by decide +kernel
theorem dX8_overlap_92 : decode cX8_overlap 92 = .ok (.iload_n 2, 1) := by decide +kernel
theorem dX8_overlap_93 : decode cX8_overlap 93 = .ok (.iadd, 1) := by decide +kernel
theorem dX8_overlap_94 : decode cX8_overlap 94 = .ok (.iaload, 1) := by decide +kernel
theorem dX8_overlap_95 : decode cX8_overlap 95 = .ok (.isub, 1) := by decide +kernel
theorem dX8_overlap_96 : decode cX8_overlap 96 = .ok (.invokestatic 321, 3) := by decide +kernel
theorem dX8_overlap_99 : decode cX8_overlap 99 = .ok (.isub, 1) := by decide +kernel
theorem dX8_overlap_100 : decode cX8_overlap 100 = .ok (.ireturn, 1) := by decide +kernel
theorem dX8_vacant_0 : decode cX8_vacant 0 = .ok (.aload_n 0, 1) := by decide +kernel
theorem dX8_vacant_1 : decode cX8_vacant 1 = .ok (.iconst 0, 1) := by decide +kernel
theorem dX8_vacant_2 : decode cX8_vacant 2 = .ok (.putfield 3, 3) := by decide +kernel
theorem dX8_vacant_5 : decode cX8_vacant 5 = .ok (.aload_n 0, 1) := by decide +kernel
theorem dX8_vacant_6 : decode cX8_vacant 6 = .ok (.iload_n 1, 1) := by decide +kernel
theorem dX8_vacant_7 : decode cX8_vacant 7 = .ok (.iconst 0, 1) := by decide +kernel
theorem dX8_vacant_8 : decode cX8_vacant 8 = .ok (.iconst 1, 1) := by decide +kernel
theorem dX8_vacant_9 : decode cX8_vacant 9 = .ok (.invokestatic 352, 3) := by decide +kernel
theorem dX8_vacant_12 : decode cX8_vacant 12 = .ok (.iconst 1, 1) := by decide +kernel
theorem dX8_vacant_13 : decode cX8_vacant 13 = .ok (.iconst 1, 1) := by decide +kernel
theorem dX8_vacant_14 : decode cX8_vacant 14 = .ok (.invokevirtual 190, 3) := by decide +kernel
theorem dX8_vacant_17 : decode cX8_vacant 17 = .ok (.ifCond .ne 5, 3) := by decide +kernel
theorem dX8_vacant_20 : decode cX8_vacant 20 = .ok (.iconst 0, 1) := by decide +kernel
theorem dX8_vacant_21 : decode cX8_vacant 21 = .ok (.ireturn, 1) := by decide +kernel
theorem dX8_vacant_22 : decode cX8_vacant 22 = .ok (.aload_n 0, 1) := by decide +kernel
theorem dX8_vacant_23 : decode cX8_vacant 23 = .ok (.invokevirtual 302, 3) := by decide +kernel
theorem dX8_vacant_26 : decode cX8_vacant 26 = .ok (.iconst (-1), 1) := by decide +kernel
theorem dX8_vacant_27 : decode cX8_vacant 27 = .ok (.istore_n 2, 1) := by decide +kernel
theorem dX8_vacant_28 : decode cX8_vacant 28 = .ok (.iconst 0, 1) := by decide +kernel
theorem dX8_vacant_29 : decode cX8_vacant 29 = .ok (.istore_n 3, 1) := by decide +kernel
theorem dX8_vacant_30 : decode cX8_vacant 30 = .ok (.iload_n 3, 1) := by decide +kernel
theorem dX8_vacant_31 : decode cX8_vacant 31 = .ok (.aload_n 0, 1) := by decide +kernel
theorem dX8_vacant_32 : decode cX8_vacant 32 = .ok (.getfield 151, 3) := by decide +kernel
theorem dX8_vacant_35 : decode cX8_vacant 35 = .ok (.if_icmp .ge 48, 3) := by decide +kernel
theorem dX8_vacant_38 : decode cX8_vacant 38 = .ok (.aload_n 0, 1) := by decide +kernel
theorem dX8_vacant_39 : decode cX8_vacant 39 = .ok (.iload_n 3, 1) := by decide +kernel
theorem dX8_vacant_40 : decode cX8_vacant 40 = .ok (.invokevirtual 327, 3) := by decide +kernel
theorem dX8_vacant_43 : decode cX8_vacant 43 = .ok (.iconst (-1), 1) := by decide +kernel
theorem dX8_vacant_44 : decode cX8_vacant 44 = .ok (.if_icmp .ne 33, 3) := by decide +kernel
theorem dX8_vacant_47 : decode cX8_vacant 47 = .ok (.iload_n 2, 1) := by decide +kernel
theorem dX8_vacant_48 : decode cX8_vacant 48 = .ok (.iconst (-1), 1) := by decide +kernel
theorem dX8_vacant_49 : decode cX8_vacant 49 = .ok (.if_icmp .eq 26, 3) := by decide +kernel
theorem dX8_vacant_52 : decode cX8_vacant 52 = .ok (.aload_n 0, 1) := by decide +kernel
theorem dX8_vacant_53 : decode cX8_vacant 53 = .ok (.getfield 29, 3) := by decide +kernel
theorem dX8_vacant_56 : decode cX8_vacant 56 = .ok (.iconst 2, 1) := by decide +kernel
theorem dX8_vacant_57 : decode cX8_vacant 57 = .ok (.iload_n 3, 1) := by decide +kernel
theorem dX8_vacant_58 : decode cX8_vacant 58 = .ok (.imul, 1) := by decide +kernel
theorem dX8_vacant_59 : decode cX8_vacant 59 = .ok (.iconst 1, 1) := by decide +kernel
theorem dX8_vacant_60 : decode cX8_vacant 60 = .ok (.iadd, 1) := by decide +kernel
theorem dX8_vacant_61 : decode cX8_vacant 61 = .ok (.iaload, 1) := by decide +kernel
theorem dX8_vacant_62 : decode cX8_vacant 62 = .ok (.aload_n 0, 1) := by decide +kernel
theorem dX8_vacant_63 : decode cX8_vacant 63 = .ok (.getfield 29, 3) := by decide +kernel
theorem dX8_vacant_66 : decode cX8_vacant 66 = .ok (.iconst 2, 1) := by decide +kernel
theorem dX8_vacant_67 : decode cX8_vacant 67 = .ok (.iload_n 2, 1) := by decide +kernel
theorem dX8_vacant_68 : decode cX8_vacant 68 = .ok (.imul, 1) := by decide +kernel
theorem dX8_vacant_69 : decode cX8_vacant 69 = .ok (.iconst 1, 1) := by decide +kernel
theorem dX8_vacant_70 : decode cX8_vacant 70 = .ok (.iadd, 1) := by decide +kernel
theorem dX8_vacant_71 : decode cX8_vacant 71 = .ok (.iaload, 1) := by decide +kernel
theorem dX8_vacant_72 : decode cX8_vacant 72 = .ok (.if_icmp .le 5, 3) := by decide +kernel
theorem dX8_vacant_75 : decode cX8_vacant 75 = .ok (.iload_n 3, 1) := by decide +kernel
theorem dX8_vacant_76 : decode cX8_vacant 76 = .ok (.istore_n 2, 1) := by decide +kernel
theorem dX8_vacant_77 : decode cX8_vacant 77 = .ok (.iinc 3 1, 3) := by decide +kernel
theorem dX8_vacant_80 : decode cX8_vacant 80 = .ok (.goto (-50), 3) := by decide +kernel
theorem dX8_vacant_83 : decode cX8_vacant 83 = .ok (.iload_n 1, 1) := by decide +kernel
theorem dX8_vacant_84 : decode cX8_vacant 84 = .ok (.ifCond .eq 8, 3) := by decide +kernel
theorem dX8_vacant_87 : decode cX8_vacant 87 = .ok (.iload_n 2, 1) := by decide +kernel
theorem dX8_vacant_88 : decode cX8_vacant 88 = .ok (.iconst (-1), 1) := by decide +kernel
theorem dX8_vacant_89 : decode cX8_vacant 89 = .ok (.if_icmp .ne 7, 3) := by decide +kernel
theorem dX8_vacant_92 : decode cX8_vacant 92 = .ok (.iload_n 2, 1) := by decide +kernel
theorem dX8_vacant_93 : decode cX8_vacant 93 = .ok (.goto 13, 3) := by decide +kernel
theorem dX8_vacant_96 : decode cX8_vacant 96 = .ok (.aload_n 0, 1) := by decide +kernel
theorem dX8_vacant_97 : decode cX8_vacant 97 = .ok (.getfield 29, 3) := by decide +kernel
theorem dX8_vacant_100 : decode cX8_vacant 100 = .ok (.iconst 2, 1) := by decide +kernel
theorem dX8_vacant_101 : decode cX8_vacant 101 = .ok (.iload_n 2, 1) := by decide +kernel
theorem dX8_vacant_102 : decode cX8_vacant 102 = .ok (.imul, 1) := by decide +kernel
theorem dX8_vacant_103 : decode cX8_vacant 103 = .ok (.iconst 1, 1) := by decide +kernel
theorem dX8_vacant_104 : decode cX8_vacant 104 = .ok (.iadd, 1) := by decide +kernel
theorem dX8_vacant_105 : decode cX8_vacant 105 = .ok (.iaload, 1) := by decide +kernel
theorem dX8_vacant_106 : decode cX8_vacant 106 = .ok (.ireturn, 1) := by decide +kernel
theorem dX8_needs_0 : decode cX8_needs 0 = .ok (.aload_n 0, 1) := by decide +kernel
theorem dX8_needs_1 : decode cX8_needs 1 = .ok (.iconst 0, 1) := by decide +kernel
theorem dX8_needs_2 : decode cX8_needs 2 = .ok (.putfield 3, 3) := by decide +kernel
theorem dX8_needs_5 : decode cX8_needs 5 = .ok (.aload_n 0, 1) := by decide +kernel
theorem dX8_needs_6 : decode cX8_needs 6 = .ok (.iload_n 1, 1) := by decide +kernel
theorem dX8_needs_7 : decode cX8_needs 7 = .ok (.iconst 1, 1) := by decide +kernel
theorem dX8_needs_8 : decode cX8_needs 8 = .ok (.invokevirtual 395, 3) := by decide +kernel
theorem dX8_needs_11 : decode cX8_needs 11 = .ok (.ifCond .eq 12, 3) := by decide +kernel
theorem dX8_needs_14 : decode cX8_needs 14 = .ok (.aload_n 0, 1) := by decide +kernel
theorem dX8_needs_15 : decode cX8_needs 15 = .ok (.iload_n 2, 1) := by decide +kernel
theorem dX8_needs_16 : decode cX8_needs 16 = .ok (.iconst 1, 1) := by decide +kernel
theorem dX8_needs_17 : decode cX8_needs 17 = .ok (.invokevirtual 392, 3) := by decide +kernel
theorem dX8_needs_20 : decode cX8_needs 20 = .ok (.ifCond .ne 5, 3) := by decide +kernel
theorem dX8_needs_23 : decode cX8_needs 23 = .ok (.iconst 0, 1) := by decide +kernel
theorem dX8_needs_24 : decode cX8_needs 24 = .ok (.ireturn, 1) := by decide +kernel
theorem dX8_needs_25 : decode cX8_needs 25 = .ok (.aload_n 0, 1) := by decide +kernel
theorem dX8_needs_26 : decode cX8_needs 26 = .ok (.getfield 59, 3) := by decide +kernel
theorem dX8_needs_29 : decode cX8_needs 29 = .ok (.iconst 5, 1) := by decide +kernel
theorem dX8_needs_30 : decode cX8_needs 30 = .ok (.iload_n 1, 1) := by decide +kernel
theorem dX8_needs_31 : decode cX8_needs 31 = .ok (.iadd, 1) := by decide +kernel
theorem dX8_needs_32 : decode cX8_needs 32 = .ok (.iaload, 1) := by decide +kernel
theorem dX8_needs_33 : decode cX8_needs 33 = .ok (.aload_n 0, 1) := by decide +kernel
theorem dX8_needs_34 : decode cX8_needs 34 = .ok (.getfield 29, 3) := by decide +kernel
theorem dX8_needs_37 : decode cX8_needs 37 = .ok (.iconst 2, 1) := by decide +kernel
theorem dX8_needs_38 : decode cX8_needs 38 = .ok (.iload_n 2, 1) := by decide +kernel
theorem dX8_needs_39 : decode cX8_needs 39 = .ok (.imul, 1) := by decide +kernel
theorem dX8_needs_40 : decode cX8_needs 40 = .ok (.iaload, 1) := by decide +kernel
theorem dX8_needs_41 : decode cX8_needs 41 = .ok (.isub, 1) := by decide +kernel
theorem dX8_needs_42 : decode cX8_needs 42 = .ok (.invokestatic 321, 3) := by decide +kernel
theorem dX8_needs_45 : decode cX8_needs 45 = .ok (.istore_n 3, 1) := by decide +kernel
theorem dX8_needs_46 : decode cX8_needs 46 = .ok (.iload_n 3, 1) := by decide +kernel
theorem dX8_needs_47 : decode cX8_needs 47 = .ok (.bipush 20, 2) := by decide +kernel
theorem dX8_needs_49 : decode cX8_needs 49 = .ok (.if_icmp .le 7, 3) := by decide +kernel
theorem dX8_needs_52 : decode cX8_needs 52 = .ok (.iconst (-1), 1) := by decide +kernel
theorem dX8_needs_53 : decode cX8_needs 53 = .ok (.goto 12, 3) := by decide +kernel
theorem dX8_needs_56 : decode cX8_needs 56 = .ok (.iload_n 3, 1) := by decide +kernel
theorem dX8_needs_57 : decode cX8_needs 57 = .ok (.ifCond .ne 7, 3) := by decide +kernel
theorem dX8_needs_60 : decode cX8_needs 60 = .ok (.iconst 1, 1) := by decide +kernel
theorem dX8_needs_61 : decode cX8_needs 61 = .ok (.goto 4, 3) := by decide +kernel
theorem dX8_needs_64 : decode cX8_needs 64 = .ok (.iload_n 3, 1) := by decide +kernel
theorem dX8_needs_65 : decode cX8_needs 65 = .ok (.ireturn, 1) := by decide +kernel
theorem dX8_buyers_0 : decode cX8_buyers 0 = .ok (.aload_n 0, 1) := by decide +kernel
theorem dX8_buyers_1 : decode cX8_buyers 1 = .ok (.iconst 0, 1) := by decide +kernel
theorem dX8_buyers_2 : decode cX8_buyers 2 = .ok (.putfield 3, 3) := by decide +kernel
theorem dX8_buyers_5 : decode cX8_buyers 5 = .ok (.aload_n 0, 1) := by decide +kernel
theorem dX8_buyers_6 : decode cX8_buyers 6 = .ok (.iload_n 1, 1) := by decide +kernel
theorem dX8_buyers_7 : decode cX8_buyers 7 = .ok (.iconst 1, 1) := by decide +kernel
theorem dX8_buyers_8 : decode cX8_buyers 8 = .ok (.invokevirtual 395, 3) := by decide +kernel
theorem dX8_buyers_11 : decode cX8_buyers 11 = .ok (.ifCond .eq 19, 3) := by decide +kernel
theorem dX8_buyers_14 : decode cX8_buyers 14 = .ok (.aload_n 0, 1) := by decide +kernel
theorem dX8_buyers_15 : decode cX8_buyers 15 = .ok (.iload_n 2, 1) := by decide +kernel
theorem dX8_buyers_16 : decode cX8_buyers 16 = .ok (.iconst 0, 1) := by decide +kernel
theorem dX8_buyers_17 : decode cX8_buyers 17 = .ok (.bipush 99, 2) := by decide +kernel
theorem dX8_buyers_19 : decode cX8_buyers 19 = .ok (.invokestatic 352, 3) := by decide +kernel
theorem dX8_buyers_22 : decode cX8_buyers 22 = .ok (.iconst 2, 1) := by decide +kernel
theorem dX8_buyers_23 : decode cX8_buyers 23 = .ok (.iconst 1, 1) := by decide +kernel
theorem dX8_buyers_24 : decode cX8_buyers 24 = .ok (.invokevirtual 190, 3) := by decide +kernel
theorem dX8_buyers_27 : decode cX8_buyers 27 = .ok (.ifCond .ne 5, 3) := by decide +kernel
theorem dX8_buyers_30 : decode cX8_buyers 30 = .ok (.iconst 0, 1) := by decide +kernel
theorem dX8_buyers_31 : decode cX8_buyers 31 = .ok (.ireturn, 1) := by decide +kernel
theorem dX8_buyers_32 : decode cX8_buyers 32 = .ok (.iconst 0, 1) := by decide +kernel
theorem dX8_buyers_33 : decode cX8_buyers 33 = .ok (.istore_n 3, 1) := by decide +kernel
theorem dX8_buyers_34 : decode cX8_buyers 34 = .ok (.iconst 0, 1) := by decide +kernel
theorem dX8_buyers_35 : decode cX8_buyers 35 = .ok (.istore 4, 2) := by decide +kernel
theorem dX8_buyers_37 : decode cX8_buyers 37 = .ok (.iload 4, 2) := by decide +kernel
theorem dX8_buyers_39 : decode cX8_buyers 39 = .ok (.aload_n 0, 1) := by decide +kernel
theorem dX8_buyers_40 : decode cX8_buyers 40 = .ok (.getfield 154, 3) := by decide +kernel
theorem dX8_buyers_43 : decode cX8_buyers 43 = .ok (.if_icmp .ge 35, 3) := by decide +kernel
theorem dX8_buyers_46 : decode cX8_buyers 46 = .ok (.aload_n 0, 1) := by decide +kernel
theorem dX8_buyers_47 : decode cX8_buyers 47 = .ok (.invokevirtual 302, 3) := by decide +kernel
theorem dX8_buyers_50 : decode cX8_buyers 50 = .ok (.iload_n 3, 1) := by decide +kernel
theorem dX8_buyers_51 : decode cX8_buyers 51 = .ok (.aload_n 0, 1) := by decide +kernel
theorem dX8_buyers_52 : decode cX8_buyers 52 = .ok (.iload_n 1, 1) := by decide +kernel
theorem dX8_buyers_53 : decode cX8_buyers 53 = .ok (.iload 4, 2) := by decide +kernel
theorem dX8_buyers_55 : decode cX8_buyers 55 = .ok (.iload_n 2, 1) := by decide +kernel
theorem dX8_buyers_56 : decode cX8_buyers 56 = .ok (.invokevirtual 374, 3) := by decide +kernel
theorem dX8_buyers_59 : decode cX8_buyers 59 = .ok (.ifCond .eq 10, 3) := by decide +kernel
theorem dX8_buyers_62 : decode cX8_buyers 62 = .ok (.iconst 1, 1) := by decide +kernel
theorem dX8_buyers_63 : decode cX8_buyers 63 = .ok (.iload 4, 2) := by decide +kernel
theorem dX8_buyers_65 : decode cX8_buyers 65 = .ok (.ishl, 1) := by decide +kernel
theorem dX8_buyers_66 : decode cX8_buyers 66 = .ok (.goto 4, 3) := by decide +kernel
theorem dX8_buyers_69 : decode cX8_buyers 69 = .ok (.iconst 0, 1) := by decide +kernel
theorem dX8_buyers_70 : decode cX8_buyers 70 = .ok (.ior, 1) := by decide +kernel
theorem dX8_buyers_71 : decode cX8_buyers 71 = .ok (.istore_n 3, 1) := by decide +kernel
theorem dX8_buyers_72 : decode cX8_buyers 72 = .ok (.iinc 4 1, 3) := by decide +kernel
theorem dX8_buyers_75 : decode cX8_buyers 75 = .ok (.goto (-38), 3) := by decide +kernel
theorem dX8_buyers_78 : decode cX8_buyers 78 = .ok (.iload_n 3, 1) := by decide +kernel
theorem dX8_buyers_79 : decode cX8_buyers 79 = .ok (.ireturn, 1) := by decide +kernel
theorem dX8_affords_0 : decode cX8_affords 0 = .ok (.aload_n 0, 1) := by decide +kernel
theorem dX8_affords_1 : decode cX8_affords 1 = .ok (.iconst 0, 1) := by decide +kernel
theorem dX8_affords_2 : decode cX8_affords 2 = .ok (.putfield 3, 3) := by decide +kernel
theorem dX8_affords_5 : decode cX8_affords 5 = .ok (.aload_n 0, 1) := by decide +kernel
theorem dX8_affords_6 : decode cX8_affords 6 = .ok (.iload_n 1, 1) := by decide +kernel
theorem dX8_affords_7 : decode cX8_affords 7 = .ok (.iconst 1, 1) := by decide +kernel
theorem dX8_affords_8 : decode cX8_affords 8 = .ok (.invokevirtual 395, 3) := by decide +kernel
theorem dX8_affords_11 : decode cX8_affords 11 = .ok (.ifCond .ne 5, 3) := by decide +kernel
theorem dX8_affords_14 : decode cX8_affords 14 = .ok (.iconst 0, 1) := by decide +kernel
theorem dX8_affords_15 : decode cX8_affords 15 = .ok (.ireturn, 1) := by decide +kernel
theorem dX8_affords_16 : decode cX8_affords 16 = .ok (.aload_n 0, 1) := by decide +kernel
theorem dX8_affords_17 : decode cX8_affords 17 = .ok (.getfield 59, 3) := by decide +kernel
theorem dX8_affords_20 : decode cX8_affords 20 = .ok (.bipush 10, 2) := by decide +kernel
theorem dX8_affords_22 : decode cX8_affords 22 = .ok (.iload_n 1, 1) := by decide +kernel
theorem dX8_affords_23 : decode cX8_affords 23 = .ok (.iadd, 1) := by decide +kernel
theorem dX8_affords_24 : decode cX8_affords 24 = .ok (.iaload, 1) := by decide +kernel
theorem dX8_affords_25 : decode cX8_affords 25 = .ok (.ifCond .le 5, 3) := by decide +kernel
theorem dX8_affords_28 : decode cX8_affords 28 = .ok (.iconst (-1), 1) := by decide +kernel
theorem dX8_affords_29 : decode cX8_affords 29 = .ok (.ireturn, 1) := by decide +kernel
theorem dX8_affords_30 : decode cX8_affords 30 = .ok (.bipush 20, 2) := by decide +kernel
theorem dX8_affords_32 : decode cX8_affords 32 = .ok (.istore_n 2, 1) := by decide +kernel
theorem dX8_affords_33 : decode cX8_affords 33 = .ok (.iload_n 2, 1) := by decide +kernel
theorem dX8_affords_34 : decode cX8_affords 34 = .ok (.ifCond .le 25, 3) := by decide +kernel
theorem dX8_affords_37 : decode cX8_affords 37 = .ok (.iconst 1, 1) := by decide +kernel
theorem dX8_affords_38 : decode cX8_affords 38 = .ok (.iload_n 2, 1) := by decide +kernel
theorem dX8_affords_39 : decode cX8_affords 39 = .ok (.iconst 5, 1) := by decide +kernel
theorem dX8_affords_40 : decode cX8_affords 40 = .ok (.idiv, 1) := by decide +kernel
theorem dX8_affords_41 : decode cX8_affords 41 = .ok (.iadd, 1) := by decide +kernel
theorem dX8_affords_42 : decode cX8_affords 42 = .ok (.aload_n 0, 1) := by decide +kernel
theorem dX8_affords_43 : decode cX8_affords 43 = .ok (.getfield 59, 3) := by decide +kernel
theorem dX8_affords_46 : decode cX8_affords 46 = .ok (.iconst 0, 1) := by decide +kernel
theorem dX8_affords_47 : decode cX8_affords 47 = .ok (.iload_n 1, 1) := by decide +kernel
theorem dX8_affords_48 : decode cX8_affords 48 = .ok (.iadd, 1) := by decide +kernel
theorem dX8_affords_49 : decode cX8_affords 49 = .ok (.iaload, 1) := by decide +kernel
theorem dX8_affords_50 : decode cX8_affords 50 = .ok (.if_icmp .le 9, 3) := by decide +kernel
theorem dX8_affords_53 : decode cX8_affords 53 = .ok (.iinc 2 (-1), 3) := by decide +kernel
theorem dX8_affords_56 : decode cX8_affords 56 = .ok (.goto (-23), 3) := by decide +kernel
theorem dX8_affords_59 : decode cX8_affords 59 = .ok (.iload_n 2, 1) := by decide +kernel
theorem dX8_affords_60 : decode cX8_affords 60 = .ok (.ireturn, 1) := by decide +kernel
theorem dX8_front_0 : decode cX8_front 0 = .ok (.aload_n 0, 1) := by decide +kernel
theorem dX8_front_1 : decode cX8_front 1 = .ok (.iconst 0, 1) := by decide +kernel
theorem dX8_front_2 : decode cX8_front 2 = .ok (.putfield 3, 3) := by decide +kernel
theorem dX8_front_5 : decode cX8_front 5 = .ok (.aload_n 0, 1) := by decide +kernel
theorem dX8_front_6 : decode cX8_front 6 = .ok (.iload_n 1, 1) := by decide +kernel
theorem dX8_front_7 : decode cX8_front 7 = .ok (.iconst 0, 1) := by decide +kernel
theorem dX8_front_8 : decode cX8_front 8 = .ok (.bipush 99, 2) := by decide +kernel
theorem dX8_front_10 : decode cX8_front 10 = .ok (.invokestatic 352, 3) := by decide +kernel
theorem dX8_front_13 : decode cX8_front 13 = .ok (.ifCond .eq 26, 3) := by decide +kernel
theorem dX8_front_16 : decode cX8_front 16 = .ok (.iload_n 2, 1) := by decide +kernel
theorem dX8_front_17 : decode cX8_front 17 = .ok (.iconst 0, 1) := by decide +kernel
theorem dX8_front_18 : decode cX8_front 18 = .ok (.bipush 99, 2) := by decide +kernel
theorem dX8_front_20 : decode cX8_front 20 = .ok (.invokestatic 352, 3) := by decide +kernel
theorem dX8_front_23 : decode cX8_front 23 = .ok (.ifCond .eq 16, 3) := by decide +kernel
theorem dX8_front_26 : decode cX8_front 26 = .ok (.iload_n 3, 1) := by decide +kernel
theorem dX8_front_27 : decode cX8_front 27 = .ok (.iconst 0, 1) := by decide +kernel
theorem dX8_front_28 : decode cX8_front 28 = .ok (.iconst 1, 1) := by decide +kernel
theorem dX8_front_29 : decode cX8_front 29 = .ok (.invokestatic 352, 3) := by decide +kernel
theorem dX8_front_32 : decode cX8_front 32 = .ok (.ifCond .eq 7, 3) := by decide +kernel
theorem dX8_front_35 : decode cX8_front 35 = .ok (.iconst 1, 1) := by decide +kernel
theorem dX8_front_36 : decode cX8_front 36 = .ok (.goto 4, 3) := by decide +kernel
theorem dX8_front_39 : decode cX8_front 39 = .ok (.iconst 0, 1) := by decide +kernel
theorem dX8_front_40 : decode cX8_front 40 = .ok (.iconst 1, 1) := by decide +kernel
theorem dX8_front_41 : decode cX8_front 41 = .ok (.iconst 1, 1) := by decide +kernel
theorem dX8_front_42 : decode cX8_front 42 = .ok (.invokevirtual 190, 3) := by decide +kernel
theorem dX8_front_45 : decode cX8_front 45 = .ok (.ifCond .ne 5, 3) := by decide +kernel
theorem dX8_front_48 : decode cX8_front 48 = .ok (.iconst 0, 1) := by decide +kernel
theorem dX8_front_49 : decode cX8_front 49 = .ok (.ireturn, 1) := by decide +kernel
theorem dX8_front_50 : decode cX8_front 50 = .ok (.aload_n 0, 1) := by decide +kernel
theorem dX8_front_51 : decode cX8_front 51 = .ok (.invokevirtual 302, 3) := by decide +kernel
theorem dX8_front_54 : decode cX8_front 54 = .ok (.iconst 0, 1) := by decide +kernel
theorem dX8_front_55 : decode cX8_front 55 = .ok (.istore 4, 2) := by decide +kernel
theorem dX8_front_57 : decode cX8_front 57 = .ok (.iconst 0, 1) := by decide +kernel
theorem dX8_front_58 : decode cX8_front 58 = .ok (.istore 5, 2) := by decide +kernel
theorem dX8_front_60 : decode cX8_front 60 = .ok (.iload 5, 2) := by decide +kernel
theorem dX8_front_62 : decode cX8_front 62 = .ok (.aload_n 0, 1) := by decide +kernel
theorem dX8_front_63 : decode cX8_front 63 = .ok (.getfield 151, 3) := by decide +kernel
theorem dX8_front_66 : decode cX8_front 66 = .ok (.if_icmp .ge 65, 3) := by decide +kernel
theorem dX8_front_69 : decode cX8_front 69 = .ok (.iload 4, 2) := by decide +kernel
theorem dX8_front_71 : decode cX8_front 71 = .ok (.aload_n 0, 1) := by decide +kernel
theorem dX8_front_72 : decode cX8_front 72 = .ok (.getfield 29, 3) := by decide +kernel
theorem dX8_front_75 : decode cX8_front 75 = .ok (.iconst 2, 1) := by decide +kernel
theorem dX8_front_76 : decode cX8_front 76 = .ok (.iload 5, 2) := by decide +kernel
theorem dX8_front_78 : decode cX8_front 78 = .ok (.imul, 1) := by decide +kernel
theorem dX8_front_79 : decode cX8_front 79 = .ok (.iaload, 1) := by decide +kernel
theorem dX8_front_80 : decode cX8_front 80 = .ok (.iload_n 1, 1) := by decide +kernel
theorem dX8_front_81 : decode cX8_front 81 = .ok (.iload_n 2, 1) := by decide +kernel
theorem dX8_front_82 : decode cX8_front 82 = .ok (.invokestatic 352, 3) := by decide +kernel
theorem dX8_front_85 : decode cX8_front 85 = .ok (.ifCond .eq 36, 3) := by decide +kernel
theorem dX8_front_88 : decode cX8_front 88 = .ok (.aload_n 0, 1) := by decide +kernel
theorem dX8_front_89 : decode cX8_front 89 = .ok (.iload 5, 2) := by decide +kernel
theorem dX8_front_91 : decode cX8_front 91 = .ok (.invokevirtual 327, 3) := by decide +kernel
theorem dX8_front_94 : decode cX8_front 94 = .ok (.iconst (-1), 1) := by decide +kernel
theorem dX8_front_95 : decode cX8_front 95 = .ok (.if_icmp .ne 7, 3) := by decide +kernel
theorem dX8_front_98 : decode cX8_front 98 = .ok (.iconst 1, 1) := by decide +kernel
theorem dX8_front_99 : decode cX8_front 99 = .ok (.goto 4, 3) := by decide +kernel
theorem dX8_front_102 : decode cX8_front 102 = .ok (.iconst 0, 1) := by decide +kernel
theorem dX8_front_103 : decode cX8_front 103 = .ok (.iload_n 3, 1) := by decide +kernel
theorem dX8_front_104 : decode cX8_front 104 = .ok (.if_icmp .ne 17, 3) := by decide +kernel
theorem dX8_front_107 : decode cX8_front 107 = .ok (.aload_n 0, 1) := by decide +kernel
theorem dX8_front_108 : decode cX8_front 108 = .ok (.getfield 29, 3) := by decide +kernel
theorem dX8_front_111 : decode cX8_front 111 = .ok (.iconst 2, 1) := by decide +kernel
theorem dX8_front_112 : decode cX8_front 112 = .ok (.iload 5, 2) := by decide +kernel
theorem dX8_front_114 : decode cX8_front 114 = .ok (.imul, 1) := by decide +kernel
theorem dX8_front_115 : decode cX8_front 115 = .ok (.iconst 1, 1) := by decide +kernel
theorem dX8_front_116 : decode cX8_front 116 = .ok (.iadd, 1) := by decide +kernel
theorem dX8_front_117 : decode cX8_front 117 = .ok (.iaload, 1) := by decide +kernel
theorem dX8_front_118 : decode cX8_front 118 = .ok (.goto 4, 3) := by decide +kernel
theorem dX8_front_121 : decode cX8_front 121 = .ok (.iconst 0, 1) := by decide +kernel
theorem dX8_front_122 : decode cX8_front 122 = .ok (.iadd, 1) := by decide +kernel
theorem dX8_front_123 : decode cX8_front 123 = .ok (.istore 4, 2) := by decide +kernel
theorem dX8_front_125 : decode cX8_front 125 = .ok (.iinc 5 1, 3) := by decide +kernel
theorem dX8_front_128 : decode cX8_front 128 = .ok (.goto (-68), 3) := by decide +kernel
theorem dX8_front_131 : decode cX8_front 131 = .ok (.iload 4, 2) := by decide +kernel
theorem dX8_front_133 : decode cX8_front 133 = .ok (.ireturn, 1) := by decide +kernel
theorem dX8_closest_0 : decode cX8_closest 0 = .ok (.aload_n 0, 1) := by decide +kernel
theorem dX8_closest_1 : decode cX8_closest 1 = .ok (.iconst 0, 1) := by decide +kernel
theorem dX8_closest_2 : decode cX8_closest 2 = .ok (.putfield 3, 3) := by decide +kernel
theorem dX8_closest_5 : decode cX8_closest 5 = .ok (.aload_n 0, 1) := by decide +kernel
theorem dX8_closest_6 : decode cX8_closest 6 = .ok (.iload_n 1, 1) := by decide +kernel
theorem dX8_closest_7 : decode cX8_closest 7 = .ok (.iconst 1, 1) := by decide +kernel
theorem dX8_closest_8 : decode cX8_closest 8 = .ok (.invokevirtual 392, 3) := by decide +kernel
theorem dX8_closest_11 : decode cX8_closest 11 = .ok (.ifCond .eq 18, 3) := by decide +kernel
theorem dX8_closest_14 : decode cX8_closest 14 = .ok (.aload_n 0, 1) := by decide +kernel
theorem dX8_closest_15 : decode cX8_closest 15 = .ok (.iload_n 2, 1) := by decide +kernel
theorem dX8_closest_16 : decode cX8_closest 16 = .ok (.iconst 0, 1) := by decide +kernel
theorem dX8_closest_17 : decode cX8_closest 17 = .ok (.iconst 1, 1) := by decide +kernel
theorem dX8_closest_18 : decode cX8_closest 18 = .ok (.invokestatic 352, 3) := by decide +kernel
theorem dX8_closest_21 : decode cX8_closest 21 = .ok (.iconst 2, 1) := by decide +kernel
theorem dX8_closest_22 : decode cX8_closest 22 = .ok (.iconst 1, 1) := by decide +kernel
theorem dX8_closest_23 : decode cX8_closest 23 = .ok (.invokevirtual 190, 3) := by decide +kernel
theorem dX8_closest_26 : decode cX8_closest 26 = .ok (.ifCond .ne 5, 3) := by decide +kernel
theorem dX8_closest_29 : decode cX8_closest 29 = .ok (.iconst 0, 1) := by decide +kernel
theorem dX8_closest_30 : decode cX8_closest 30 = .ok (.ireturn, 1) := by decide +kernel
theorem dX8_closest_31 : decode cX8_closest 31 = .ok (.iconst (-1), 1) := by decide +kernel
theorem dX8_closest_32 : decode cX8_closest 32 = .ok (.istore_n 3, 1) := by decide +kernel
theorem dX8_closest_33 : decode cX8_closest 33 = .ok (.iconst (-1), 1) := by decide +kernel
theorem dX8_closest_34 : decode cX8_closest 34 = .ok (.istore 4, 2) := by decide +kernel
theorem dX8_closest_36 : decode cX8_closest 36 = .ok (.iconst 0, 1) := by decide +kernel
theorem dX8_closest_37 : decode cX8_closest 37 = .ok (.istore 5, 2) := by decide +kernel
theorem dX8_closest_39 : decode cX8_closest 39 = .ok (.iload 5, 2) := by decide +kernel
theorem dX8_closest_41 : decode cX8_closest 41 = .ok (.aload_n 0, 1) := by decide +kernel
theorem dX8_closest_42 : decode cX8_closest 42 = .ok (.getfield 154, 3) := by decide +kernel
theorem dX8_closest_45 : decode cX8_closest 45 = .ok (.if_icmp .ge 68, 3) := by decide +kernel
theorem dX8_closest_48 : decode cX8_closest 48 = .ok (.aload_n 0, 1) := by decide +kernel
theorem dX8_closest_49 : decode cX8_closest 49 = .ok (.getfield 59, 3) := by decide +kernel
theorem dX8_closest_52 : decode cX8_closest 52 = .ok (.bipush 15, 2) := by decide +kernel
theorem dX8_closest_54 : decode cX8_closest 54 = .ok (.iload 5, 2) := by decide +kernel
theorem dX8_closest_56 : decode cX8_closest 56 = .ok (.iadd, 1) := by decide +kernel
theorem dX8_closest_57 : decode cX8_closest 57 = .ok (.iaload, 1) := by decide +kernel
theorem dX8_closest_58 : decode cX8_closest 58 = .ok (.aload_n 0, 1) := by decide +kernel
theorem dX8_closest_59 : decode cX8_closest 59 = .ok (.getfield 29, 3) := by decide +kernel
theorem dX8_closest_62 : decode cX8_closest 62 = .ok (.iconst 2, 1) := by decide +kernel
theorem dX8_closest_63 : decode cX8_closest 63 = .ok (.iload_n 1, 1) := by decide +kernel
theorem dX8_closest_64 : decode cX8_closest 64 = .ok (.imul, 1) := by decide +kernel
theorem dX8_closest_65 : decode cX8_closest 65 = .ok (.iaload, 1) := by decide +kernel
theorem dX8_closest_66 : decode cX8_closest 66 = .ok (.isub, 1) := by decide +kernel
theorem dX8_closest_67 : decode cX8_closest 67 = .ok (.invokestatic 321, 3) := by decide +kernel
theorem dX8_closest_70 : decode cX8_closest 70 = .ok (.istore 6, 2) := by decide +kernel
theorem dX8_closest_72 : decode cX8_closest 72 = .ok (.aload_n 0, 1) := by decide +kernel
theorem dX8_closest_73 : decode cX8_closest 73 = .ok (.getfield 59, 3) := by decide +kernel
theorem dX8_closest_76 : decode cX8_closest 76 = .ok (.bipush 10, 2) := by decide +kernel
theorem dX8_closest_78 : decode cX8_closest 78 = .ok (.iload 5, 2) := by decide +kernel
theorem dX8_closest_80 : decode cX8_closest 80 = .ok (.iadd, 1) := by decide +kernel
theorem dX8_closest_81 : decode cX8_closest 81 = .ok (.iaload, 1) := by decide +kernel
theorem dX8_closest_82 : decode cX8_closest 82 = .ok (.ifCond .eq 25, 3) := by decide +kernel
theorem dX8_closest_85 : decode cX8_closest 85 = .ok (.iload_n 3, 1) := by decide +kernel
theorem dX8_closest_86 : decode cX8_closest 86 = .ok (.iconst (-1), 1) := by decide +kernel
theorem dX8_closest_87 : decode cX8_closest 87 = .ok (.if_icmp .eq 13, 3) := by decide +kernel
theorem dX8_closest_90 : decode cX8_closest 90 = .ok (.iload 6, 2) := by decide +kernel
theorem dX8_closest_92 : decode cX8_closest 92 = .ok (.iload 4, 2) := by decide +kernel
theorem dX8_closest_94 : decode cX8_closest 94 = .ok (.if_icmp .lt 6, 3) := by decide +kernel
theorem dX8_closest_97 : decode cX8_closest 97 = .ok (.goto 10, 3) := by decide +kernel
theorem dX8_closest_100 : decode cX8_closest 100 = .ok (.iload 5, 2) := by decide +kernel
theorem dX8_closest_102 : decode cX8_closest 102 = .ok (.istore_n 3, 1) := by decide +kernel
theorem dX8_closest_103 : decode cX8_closest 103 = .ok (.iload 6, 2) := by decide +kernel
theorem dX8_closest_105 : decode cX8_closest 105 = .ok (.istore 4, 2) := by decide +kernel
theorem dX8_closest_107 : decode cX8_closest 107 = .ok (.iinc 5 1, 3) := by decide +kernel
theorem dX8_closest_110 : decode cX8_closest 110 = .ok (.goto (-71), 3) := by decide +kernel
theorem dX8_closest_113 : decode cX8_closest 113 = .ok (.iload_n 2, 1) := by decide +kernel
theorem dX8_closest_114 : decode cX8_closest 114 = .ok (.ifCond .ne 7, 3) := by decide +kernel
theorem dX8_closest_117 : decode cX8_closest 117 = .ok (.iload_n 3, 1) := by decide +kernel
theorem dX8_closest_118 : decode cX8_closest 118 = .ok (.goto 5, 3) := by decide +kernel
theorem dX8_closest_121 : decode cX8_closest 121 = .ok (.iload 4, 2) := by decide +kernel
theorem dX8_closest_123 : decode cX8_closest 123 = .ok (.ireturn, 1) := by decide +kernel
