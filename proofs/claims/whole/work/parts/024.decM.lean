theorem dM_init_0 : decode cM_init 0 = .ok (.aload_n 0, 1) := by decide +kernel
theorem dM_init_1 : decode cM_init 1 = .ok (.invokespecial 1, 3) := by decide +kernel
theorem dM_init_4 : decode cM_init 4 = .ok (.aload_n 0, 1) := by decide +kernel
theorem dM_init_5 : decode cM_init 5 = .ok (.iconst 1, 1) := by decide +kernel
theorem dM_init_6 : decode cM_init 6 = .ok (.putfield 7, 3) := by decide +kernel
theorem dM_init_9 : decode cM_init 9 = .ok (.aload_n 0, 1) := by decide +kernel
theorem dM_init_10 : decode cM_init 10 = .ok (.iconst (-1), 1) := by decide +kernel
theorem dM_init_11 : decode cM_init 11 = .ok (.putfield 13, 3) := by decide +kernel
theorem dM_init_14 : decode cM_init 14 = .ok (.aload_n 0, 1) := by decide +kernel
theorem dM_init_15 : decode cM_init 15 = .ok (.iconst 3, 1) := by decide +kernel
theorem dM_init_16 : decode cM_init 16 = .ok (.newarray .boolean, 2) := by decide +kernel
theorem dM_init_18 : decode cM_init 18 = .ok (.putfield 17, 3) := by decide +kernel
theorem dM_init_21 : decode cM_init 21 = .ok (.aload_n 0, 1) := by decide +kernel
theorem dM_init_22 : decode cM_init 22 = .ok (.bipush 70, 2) := by decide +kernel
theorem dM_init_24 : decode cM_init 24 = .ok (.newarray .int, 2) := by decide +kernel
theorem dM_init_26 : decode cM_init 26 = .ok (.putfield 21, 3) := by decide +kernel
theorem dM_init_29 : decode cM_init 29 = .ok (.aload_n 0, 1) := by decide +kernel
theorem dM_init_30 : decode cM_init 30 = .ok (.bipush 70, 2) := by decide +kernel
theorem dM_init_32 : decode cM_init 32 = .ok (.newarray .boolean, 2) := by decide +kernel
theorem dM_init_34 : decode cM_init 34 = .ok (.putfield 25, 3) := by decide +kernel
theorem dM_init_37 : decode cM_init 37 = .ok (.aload_n 0, 1) := by decide +kernel
theorem dM_init_38 : decode cM_init 38 = .ok (.bipush 72, 2) := by decide +kernel
theorem dM_init_40 : decode cM_init 40 = .ok (.newarray .int, 2) := by decide +kernel
theorem dM_init_42 : decode cM_init 42 = .ok (.putfield 28, 3) := by decide +kernel
theorem dM_init_45 : decode cM_init 45 = .ok (.aload_n 0, 1) := by decide +kernel
theorem dM_init_46 : decode cM_init 46 = .ok (.bipush 72, 2) := by decide +kernel
theorem dM_init_48 : decode cM_init 48 = .ok (.newarray .int, 2) := by decide +kernel
theorem dM_init_50 : decode cM_init 50 = .ok (.putfield 31, 3) := by decide +kernel
theorem dM_init_53 : decode cM_init 53 = .ok (.aload_n 0, 1) := by decide +kernel
theorem dM_init_54 : decode cM_init 54 = .ok (.bipush 72, 2) := by decide +kernel
theorem dM_init_56 : decode cM_init 56 = .ok (.newarray .int, 2) := by decide +kernel
theorem dM_init_58 : decode cM_init 58 = .ok (.putfield 34, 3) := by decide +kernel
theorem dM_init_61 : decode cM_init 61 = .ok (.aload_n 0, 1) := by decide +kernel
theorem dM_init_62 : decode cM_init 62 = .ok (.sipush 288, 3) := by decide +kernel
theorem dM_init_65 : decode cM_init 65 = .ok (.newarray .int, 2) := by decide +kernel
theorem dM_init_67 : decode cM_init 67 = .ok (.putfield 37, 3) := by decide +kernel
theorem dM_init_70 : decode cM_init 70 = .ok (.aload_n 0, 1) := by decide +kernel
theorem dM_init_71 : decode cM_init 71 = .ok (.sipush 288, 3) := by decide +kernel
theorem dM_init_74 : decode cM_init 74 = .ok (.newarray .long, 2) := by decide +kernel
theorem dM_init_76 : decode cM_init 76 = .ok (.putfield 40, 3) := by decide +kernel
theorem dM_init_79 : decode cM_init 79 = .ok (.aload_n 0, 1) := by decide +kernel
theorem dM_init_80 : decode cM_init 80 = .ok (.sipush 144, 3) := by decide +kernel
theorem dM_init_83 : decode cM_init 83 = .ok (.newarray .boolean, 2) := by decide +kernel
theorem dM_init_85 : decode cM_init 85 = .ok (.putfield 44, 3) := by decide +kernel
theorem dM_init_88 : decode cM_init 88 = .ok (.aload_n 0, 1) := by decide +kernel
theorem dM_init_89 : decode cM_init 89 = .ok (.sipush 576, 3) := by decide +kernel
theorem dM_init_92 : decode cM_init 92 = .ok (.newarray .int, 2) := by decide +kernel
theorem dM_init_94 : decode cM_init 94 = .ok (.putfield 47, 3) := by decide +kernel
theorem dM_init_97 : decode cM_init 97 = .ok (.aload_n 0, 1) := by decide +kernel
theorem dM_init_98 : decode cM_init 98 = .ok (.bipush 72, 2) := by decide +kernel
theorem dM_init_100 : decode cM_init 100 = .ok (.newarray .boolean, 2) := by decide +kernel
theorem dM_init_102 : decode cM_init 102 = .ok (.putfield 50, 3) := by decide +kernel
theorem dM_init_105 : decode cM_init 105 = .ok (.aload_n 0, 1) := by decide +kernel
theorem dM_init_106 : decode cM_init 106 = .ok (.bipush 72, 2) := by decide +kernel
theorem dM_init_108 : decode cM_init 108 = .ok (.newarray .int, 2) := by decide +kernel
theorem dM_init_110 : decode cM_init 110 = .ok (.putfield 53, 3) := by decide +kernel
theorem dM_init_113 : decode cM_init 113 = .ok (.aload_n 0, 1) := by decide +kernel
theorem dM_init_114 : decode cM_init 114 = .ok (.sipush 576, 3) := by decide +kernel
theorem dM_init_117 : decode cM_init 117 = .ok (.newarray .int, 2) := by decide +kernel
theorem dM_init_119 : decode cM_init 119 = .ok (.putfield 56, 3) := by decide +kernel
theorem dM_init_122 : decode cM_init 122 = .ok (.aload_n 0, 1) := by decide +kernel
theorem dM_init_123 : decode cM_init 123 = .ok (.bipush 72, 2) := by decide +kernel
theorem dM_init_125 : decode cM_init 125 = .ok (.newarray .int, 2) := by decide +kernel
theorem dM_init_127 : decode cM_init 127 = .ok (.putfield 59, 3) := by decide +kernel
theorem dM_init_130 : decode cM_init 130 = .ok (.aload_n 0, 1) := by decide +kernel
theorem dM_init_131 : decode cM_init 131 = .ok (.bipush 8, 2) := by decide +kernel
theorem dM_init_133 : decode cM_init 133 = .ok (.newarray .int, 2) := by decide +kernel
theorem dM_init_135 : decode cM_init 135 = .ok (.putfield 62, 3) := by decide +kernel
theorem dM_init_138 : decode cM_init 138 = .ok (.aload_n 0, 1) := by decide +kernel
theorem dM_init_139 : decode cM_init 139 = .ok (.bipush 8, 2) := by decide +kernel
theorem dM_init_141 : decode cM_init 141 = .ok (.newarray .int, 2) := by decide +kernel
theorem dM_init_143 : decode cM_init 143 = .ok (.putfield 65, 3) := by decide +kernel
theorem dM_init_146 : decode cM_init 146 = .ok (.aload_n 0, 1) := by decide +kernel
theorem dM_init_147 : decode cM_init 147 = .ok (.iconst (-1), 1) := by decide +kernel
theorem dM_init_148 : decode cM_init 148 = .ok (.putfield 68, 3) := by decide +kernel
theorem dM_init_151 : decode cM_init 151 = .ok (.aload_n 0, 1) := by decide +kernel
theorem dM_init_152 : decode cM_init 152 = .ok (.iconst 3, 1) := by decide +kernel
theorem dM_init_153 : decode cM_init 153 = .ok (.newarray .boolean, 2) := by decide +kernel
theorem dM_init_155 : decode cM_init 155 = .ok (.putfield 71, 3) := by decide +kernel
theorem dM_init_158 : decode cM_init 158 = .ok (.aload_n 0, 1) := by decide +kernel
theorem dM_init_159 : decode cM_init 159 = .ok (.iconst 3, 1) := by decide +kernel
theorem dM_init_160 : decode cM_init 160 = .ok (.newarray .int, 2) := by decide +kernel
theorem dM_init_162 : decode cM_init 162 = .ok (.putfield 74, 3) := by decide +kernel
theorem dM_init_165 : decode cM_init 165 = .ok (.aload_n 0, 1) := by decide +kernel
theorem dM_init_166 : decode cM_init 166 = .ok (.iconst 3, 1) := by decide +kernel
theorem dM_init_167 : decode cM_init 167 = .ok (.newarray .int, 2) := by decide +kernel
theorem dM_init_169 : decode cM_init 169 = .ok (.putfield 77, 3) := by decide +kernel
theorem dM_init_172 : decode cM_init 172 = .ok (.aload_n 0, 1) := by decide +kernel
theorem dM_init_173 : decode cM_init 173 = .ok (.bipush 8, 2) := by decide +kernel
theorem dM_init_175 : decode cM_init 175 = .ok (.newarray .int, 2) := by decide +kernel
theorem dM_init_177 : decode cM_init 177 = .ok (.putfield 80, 3) := by decide +kernel
theorem dM_init_180 : decode cM_init 180 = .ok (.iconst 0, 1) := by decide +kernel
theorem dM_init_181 : decode cM_init 181 = .ok (.istore_n 1, 1) := by decide +kernel
theorem dM_init_182 : decode cM_init 182 = .ok (.iload_n 1, 1) := by decide +kernel
theorem dM_init_183 : decode cM_init 183 = .ok (.bipush 72, 2) := by decide +kernel
theorem dM_init_185 : decode cM_init 185 = .ok (.if_icmp .ge 16, 3) := by decide +kernel
theorem dM_init_188 : decode cM_init 188 = .ok (.aload_n 0, 1) := by decide +kernel
theorem dM_init_189 : decode cM_init 189 = .ok (.getfield 28, 3) := by decide +kernel
theorem dM_init_192 : decode cM_init 192 = .ok (.iload_n 1, 1) := by decide +kernel
theorem dM_init_193 : decode cM_init 193 = .ok (.iconst (-1), 1) := by decide +kernel
theorem dM_init_194 : decode cM_init 194 = .ok (.iastore, 1) := by decide +kernel
theorem dM_init_195 : decode cM_init 195 = .ok (.iinc 1 1, 3) := by decide +kernel
theorem dM_init_198 : decode cM_init 198 = .ok (.goto (-16), 3) := by decide +kernel
theorem dM_init_201 : decode cM_init 201 = .ok (.return_, 1) := by decide +kernel
theorem dM_thrown_0 : decode cM_thrown 0 = .ok (.aload_n 0, 1) := by decide +kernel
theorem dM_thrown_1 : decode cM_thrown 1 = .ok (.getfield 83, 3) := by decide +kernel
theorem dM_thrown_4 : decode cM_thrown 4 = .ok (.ireturn, 1) := by decide +kernel
theorem dM_sentence_0 : decode cM_sentence 0 = .ok (.aload_n 0, 1) := by decide +kernel
theorem dM_sentence_1 : decode cM_sentence 1 = .ok (.aload_n 0, 1) := by decide +kernel
theorem dM_sentence_2 : decode cM_sentence 2 = .ok (.getfield 7, 3) := by decide +kernel
theorem dM_sentence_5 : decode cM_sentence 5 = .ok (.ifCond .eq 7, 3) := by decide +kernel
theorem dM_sentence_8 : decode cM_sentence 8 = .ok (.iconst 0, 1) := by decide +kernel
theorem dM_sentence_9 : decode cM_sentence 9 = .ok (.goto 4, 3) := by decide +kernel
theorem dM_sentence_12 : decode cM_sentence 12 = .ok (.iconst 1, 1) := by decide +kernel
theorem dM_sentence_13 : decode cM_sentence 13 = .ok (.putfield 83, 3) := by decide +kernel
theorem dM_sentence_16 : decode cM_sentence 16 = .ok (.aload_n 0, 1) := by decide +kernel
theorem dM_sentence_17 : decode cM_sentence 17 = .ok (.getfield 83, 3) := by decide +kernel
theorem dM_sentence_20 : decode cM_sentence 20 = .ok (.ifCond .le 5, 3) := by decide +kernel
theorem dM_sentence_23 : decode cM_sentence 23 = .ok (.iconst 0, 1) := by decide +kernel
theorem dM_sentence_24 : decode cM_sentence 24 = .ok (.ireturn, 1) := by decide +kernel
theorem dM_sentence_25 : decode cM_sentence 25 = .ok (.aload_n 0, 1) := by decide +kernel
theorem dM_sentence_26 : decode cM_sentence 26 = .ok (.getfield 34, 3) := by decide +kernel
theorem dM_sentence_29 : decode cM_sentence 29 = .ok (.bipush 70, 2) := by decide +kernel
theorem dM_sentence_31 : decode cM_sentence 31 = .ok (.iaload, 1) := by decide +kernel
theorem dM_sentence_32 : decode cM_sentence 32 = .ok (.istore 4, 2) := by decide +kernel
theorem dM_sentence_34 : decode cM_sentence 34 = .ok (.iload_n 1, 1) := by decide +kernel
theorem dM_sentence_35 : decode cM_sentence 35 = .ok (.iconst 4, 1) := by decide +kernel
theorem dM_sentence_36 : decode cM_sentence 36 = .ok (.invokestatic 96, 3) := by decide +kernel
theorem dM_sentence_39 : decode cM_sentence 39 = .ok (.ifCond .eq 16, 3) := by decide +kernel
theorem dM_sentence_42 : decode cM_sentence 42 = .ok (.lload_n 2, 1) := by decide +kernel
theorem dM_sentence_43 : decode cM_sentence 43 = .ok (.invokestatic 100, 3) := by decide +kernel
theorem dM_sentence_46 : decode cM_sentence 46 = .ok (.ifCond .eq 9, 3) := by decide +kernel
theorem dM_sentence_49 : decode cM_sentence 49 = .ok (.iload 4, 2) := by decide +kernel
theorem dM_sentence_51 : decode cM_sentence 51 = .ok (.iconst 4, 1) := by decide +kernel
theorem dM_sentence_52 : decode cM_sentence 52 = .ok (.if_icmp .ne 5, 3) := by decide +kernel
theorem dM_sentence_55 : decode cM_sentence 55 = .ok (.iconst (-1), 1) := by decide +kernel
theorem dM_sentence_56 : decode cM_sentence 56 = .ok (.ireturn, 1) := by decide +kernel
theorem dM_sentence_57 : decode cM_sentence 57 = .ok (.aload_n 0, 1) := by decide +kernel
theorem dM_sentence_58 : decode cM_sentence 58 = .ok (.getfield 37, 3) := by decide +kernel
theorem dM_sentence_61 : decode cM_sentence 61 = .ok (.sipush 280, 3) := by decide +kernel
theorem dM_sentence_64 : decode cM_sentence 64 = .ok (.iload 4, 2) := by decide +kernel
theorem dM_sentence_66 : decode cM_sentence 66 = .ok (.iadd, 1) := by decide +kernel
theorem dM_sentence_67 : decode cM_sentence 67 = .ok (.iload_n 1, 1) := by decide +kernel
theorem dM_sentence_68 : decode cM_sentence 68 = .ok (.iastore, 1) := by decide +kernel
theorem dM_sentence_69 : decode cM_sentence 69 = .ok (.aload_n 0, 1) := by decide +kernel
theorem dM_sentence_70 : decode cM_sentence 70 = .ok (.getfield 40, 3) := by decide +kernel
theorem dM_sentence_73 : decode cM_sentence 73 = .ok (.sipush 280, 3) := by decide +kernel
theorem dM_sentence_76 : decode cM_sentence 76 = .ok (.iload 4, 2) := by decide +kernel
theorem dM_sentence_78 : decode cM_sentence 78 = .ok (.iadd, 1) := by decide +kernel
theorem dM_sentence_79 : decode cM_sentence 79 = .ok (.lload_n 2, 1) := by decide +kernel
theorem dM_sentence_80 : decode cM_sentence 80 = .ok (.lastore, 1) := by decide +kernel
theorem dM_sentence_81 : decode cM_sentence 81 = .ok (.aload_n 0, 1) := by decide +kernel
theorem dM_sentence_82 : decode cM_sentence 82 = .ok (.getfield 34, 3) := by decide +kernel
theorem dM_sentence_85 : decode cM_sentence 85 = .ok (.bipush 70, 2) := by decide +kernel
theorem dM_sentence_87 : decode cM_sentence 87 = .ok (.iload 4, 2) := by decide +kernel
theorem dM_sentence_89 : decode cM_sentence 89 = .ok (.iconst 1, 1) := by decide +kernel
theorem dM_sentence_90 : decode cM_sentence 90 = .ok (.iadd, 1) := by decide +kernel
theorem dM_sentence_91 : decode cM_sentence 91 = .ok (.iastore, 1) := by decide +kernel
theorem dM_sentence_92 : decode cM_sentence 92 = .ok (.iload 4, 2) := by decide +kernel
theorem dM_sentence_94 : decode cM_sentence 94 = .ok (.iconst 1, 1) := by decide +kernel
theorem dM_sentence_95 : decode cM_sentence 95 = .ok (.iadd, 1) := by decide +kernel
theorem dM_sentence_96 : decode cM_sentence 96 = .ok (.ireturn, 1) := by decide +kernel
theorem dM_isIn_0 : decode cM_isIn 0 = .ok (.iload_n 0, 1) := by decide +kernel
theorem dM_isIn_1 : decode cM_isIn 1 = .ok (.ifCond .lt 12, 3) := by decide +kernel
theorem dM_isIn_4 : decode cM_isIn 4 = .ok (.iload_n 0, 1) := by decide +kernel
theorem dM_isIn_5 : decode cM_isIn 5 = .ok (.iload_n 1, 1) := by decide +kernel
theorem dM_isIn_6 : decode cM_isIn 6 = .ok (.if_icmp .ge 7, 3) := by decide +kernel
theorem dM_isIn_9 : decode cM_isIn 9 = .ok (.iconst 1, 1) := by decide +kernel
theorem dM_isIn_10 : decode cM_isIn 10 = .ok (.goto 4, 3) := by decide +kernel
theorem dM_isIn_13 : decode cM_isIn 13 = .ok (.iconst 0, 1) := by decide +kernel
theorem dM_isIn_14 : decode cM_isIn 14 = .ok (.ireturn, 1) := by decide +kernel
theorem dM_isText_0 : decode cM_isText 0 = .ok (.lload_n 0, 1) := by decide +kernel
theorem dM_isText_1 : decode cM_isText 1 = .ok (.invokestatic 88, 3) := by decide +kernel
theorem dM_isText_4 : decode cM_isText 4 = .ok (.istore_n 2, 1) := by decide +kernel
theorem dM_isText_5 : decode cM_isText 5 = .ok (.iload_n 2, 1) := by decide +kernel
theorem dM_isText_6 : decode cM_isText 6 = .ok (.ifCond .le 24, 3) := by decide +kernel
theorem dM_isText_9 : decode cM_isText 9 = .ok (.iload_n 2, 1) := by decide +kernel
theorem dM_isText_10 : decode cM_isText 10 = .ok (.bipush 8, 2) := by decide +kernel
theorem dM_isText_12 : decode cM_isText 12 = .ok (.if_icmp .eq 14, 3) := by decide +kernel
theorem dM_isText_15 : decode cM_isText 15 = .ok (.lload_n 0, 1) := by decide +kernel
theorem dM_isText_16 : decode cM_isText 16 = .ok (.bipush 8, 2) := by decide +kernel
theorem dM_isText_18 : decode cM_isText 18 = .ok (.iload_n 2, 1) := by decide +kernel
theorem dM_isText_19 : decode cM_isText 19 = .ok (.imul, 1) := by decide +kernel
theorem dM_isText_20 : decode cM_isText 20 = .ok (.lushr, 1) := by decide +kernel
theorem dM_isText_21 : decode cM_isText 21 = .ok (.lconst 0, 1) := by decide +kernel
theorem dM_isText_22 : decode cM_isText 22 = .ok (.lcmp, 1) := by decide +kernel
theorem dM_isText_23 : decode cM_isText 23 = .ok (.ifCond .ne 7, 3) := by decide +kernel
theorem dM_isText_26 : decode cM_isText 26 = .ok (.iconst 1, 1) := by decide +kernel
theorem dM_isText_27 : decode cM_isText 27 = .ok (.goto 4, 3) := by decide +kernel
theorem dM_isText_30 : decode cM_isText 30 = .ok (.iconst 0, 1) := by decide +kernel
theorem dM_isText_31 : decode cM_isText 31 = .ok (.istore_n 3, 1) := by decide +kernel
theorem dM_isText_32 : decode cM_isText 32 = .ok (.iconst 0, 1) := by decide +kernel
theorem dM_isText_33 : decode cM_isText 33 = .ok (.istore 4, 2) := by decide +kernel
theorem dM_isText_35 : decode cM_isText 35 = .ok (.iload 4, 2) := by decide +kernel
theorem dM_isText_37 : decode cM_isText 37 = .ok (.iload_n 2, 1) := by decide +kernel
theorem dM_isText_38 : decode cM_isText 38 = .ok (.if_icmp .ge 50, 3) := by decide +kernel
theorem dM_isText_41 : decode cM_isText 41 = .ok (.lload_n 0, 1) := by decide +kernel
theorem dM_isText_42 : decode cM_isText 42 = .ok (.bipush 8, 2) := by decide +kernel
theorem dM_isText_44 : decode cM_isText 44 = .ok (.iload 4, 2) := by decide +kernel
theorem dM_isText_46 : decode cM_isText 46 = .ok (.imul, 1) := by decide +kernel
theorem dM_isText_47 : decode cM_isText 47 = .ok (.lushr, 1) := by decide +kernel
theorem dM_isText_48 : decode cM_isText 48 = .ok (.ldc2_w 86, 3) := by decide +kernel
theorem dM_isText_51 : decode cM_isText 51 = .ok (.land, 1) := by decide +kernel
theorem dM_isText_52 : decode cM_isText 52 = .ok (.lstore 5, 2) := by decide +kernel
theorem dM_isText_54 : decode cM_isText 54 = .ok (.iload_n 3, 1) := by decide +kernel
theorem dM_isText_55 : decode cM_isText 55 = .ok (.ifCond .eq 25, 3) := by decide +kernel
theorem dM_isText_58 : decode cM_isText 58 = .ok (.lload 5, 2) := by decide +kernel
theorem dM_isText_60 : decode cM_isText 60 = .ok (.ldc2_w 92, 3) := by decide +kernel
theorem dM_isText_63 : decode cM_isText 63 = .ok (.lcmp, 1) := by decide +kernel
theorem dM_isText_64 : decode cM_isText 64 = .ok (.ifCond .le 16, 3) := by decide +kernel
theorem dM_isText_67 : decode cM_isText 67 = .ok (.lload 5, 2) := by decide +kernel
theorem dM_isText_69 : decode cM_isText 69 = .ok (.ldc2_w 94, 3) := by decide +kernel
theorem dM_isText_72 : decode cM_isText 72 = .ok (.lcmp, 1) := by decide +kernel
theorem dM_isText_73 : decode cM_isText 73 = .ok (.ifCond .ge 7, 3) := by decide +kernel
theorem dM_isText_76 : decode cM_isText 76 = .ok (.iconst 1, 1) := by decide +kernel
theorem dM_isText_77 : decode cM_isText 77 = .ok (.goto 4, 3) := by decide +kernel
theorem dM_isText_80 : decode cM_isText 80 = .ok (.iconst 0, 1) := by decide +kernel
theorem dM_isText_81 : decode cM_isText 81 = .ok (.istore_n 3, 1) := by decide +kernel
theorem dM_isText_82 : decode cM_isText 82 = .ok (.iinc 4 1, 3) := by decide +kernel
theorem dM_isText_85 : decode cM_isText 85 = .ok (.goto (-50), 3) := by decide +kernel
theorem dM_isText_88 : decode cM_isText 88 = .ok (.iload_n 3, 1) := by decide +kernel
theorem dM_isText_89 : decode cM_isText 89 = .ok (.ireturn, 1) := by decide +kernel
theorem dM_signs_0 : decode cM_signs 0 = .ok (.iconst 0, 1) := by decide +kernel
theorem dM_signs_1 : decode cM_signs 1 = .ok (.istore_n 2, 1) := by decide +kernel
theorem dM_signs_2 : decode cM_signs 2 = .ok (.iload_n 2, 1) := by decide +kernel
theorem dM_signs_3 : decode cM_signs 3 = .ok (.bipush 8, 2) := by decide +kernel
theorem dM_signs_5 : decode cM_signs 5 = .ok (.if_icmp .ge 25, 3) := by decide +kernel
theorem dM_signs_8 : decode cM_signs 8 = .ok (.lload_n 0, 1) := by decide +kernel
theorem dM_signs_9 : decode cM_signs 9 = .ok (.bipush 8, 2) := by decide +kernel
theorem dM_signs_11 : decode cM_signs 11 = .ok (.iload_n 2, 1) := by decide +kernel
theorem dM_signs_12 : decode cM_signs 12 = .ok (.imul, 1) := by decide +kernel
theorem dM_signs_13 : decode cM_signs 13 = .ok (.lushr, 1) := by decide +kernel
theorem dM_signs_14 : decode cM_signs 14 = .ok (.ldc2_w 86, 3) := by decide +kernel
theorem dM_signs_17 : decode cM_signs 17 = .ok (.land, 1) := by decide +kernel
theorem dM_signs_18 : decode cM_signs 18 = .ok (.lconst 0, 1) := by decide +kernel
theorem dM_signs_19 : decode cM_signs 19 = .ok (.lcmp, 1) := by decide +kernel
theorem dM_signs_20 : decode cM_signs 20 = .ok (.ifCond .eq 10, 3) := by decide +kernel
theorem dM_signs_23 : decode cM_signs 23 = .ok (.iload_n 2, 1) := by decide +kernel
theorem dM_signs_24 : decode cM_signs 24 = .ok (.iconst 1, 1) := by decide +kernel
theorem dM_signs_25 : decode cM_signs 25 = .ok (.iadd, 1) := by decide +kernel
theorem dM_signs_26 : decode cM_signs 26 = .ok (.istore_n 2, 1) := by decide +kernel
theorem dM_signs_27 : decode cM_signs 27 = .ok (.goto (-25), 3) := by decide +kernel
theorem dM_signs_30 : decode cM_signs 30 = .ok (.iload_n 2, 1) := by decide +kernel
theorem dM_signs_31 : decode cM_signs 31 = .ok (.ireturn, 1) := by decide +kernel
theorem dM_sound_0 : decode cM_sound 0 = .ok (.aload_n 0, 1) := by decide +kernel
theorem dM_sound_1 : decode cM_sound 1 = .ok (.aload_n 0, 1) := by decide +kernel
theorem dM_sound_2 : decode cM_sound 2 = .ok (.getfield 7, 3) := by decide +kernel
theorem dM_sound_5 : decode cM_sound 5 = .ok (.ifCond .eq 7, 3) := by decide +kernel
theorem dM_sound_8 : decode cM_sound 8 = .ok (.iconst 0, 1) := by decide +kernel
theorem dM_sound_9 : decode cM_sound 9 = .ok (.goto 4, 3) := by decide +kernel
theorem dM_sound_12 : decode cM_sound 12 = .ok (.iconst 1, 1) := by decide +kernel
theorem dM_sound_13 : decode cM_sound 13 = .ok (.putfield 83, 3) := by decide +kernel
theorem dM_sound_16 : decode cM_sound 16 = .ok (.aload_n 0, 1) := by decide +kernel
theorem dM_sound_17 : decode cM_sound 17 = .ok (.getfield 83, 3) := by decide +kernel
theorem dM_sound_20 : decode cM_sound 20 = .ok (.ifCond .gt 29, 3) := by decide +kernel
theorem dM_sound_23 : decode cM_sound 23 = .ok (.iload_n 1, 1) := by decide +kernel
theorem dM_sound_24 : decode cM_sound 24 = .ok (.iconst 2, 1) := by decide +kernel
theorem dM_sound_25 : decode cM_sound 25 = .ok (.invokestatic 96, 3) := by decide +kernel
theorem dM_sound_28 : decode cM_sound 28 = .ok (.ifCond .eq 21, 3) := by decide +kernel
theorem dM_sound_31 : decode cM_sound 31 = .ok (.iload_n 2, 1) := by decide +kernel
theorem dM_sound_32 : decode cM_sound 32 = .ok (.iconst 4, 1) := by decide +kernel
theorem dM_sound_33 : decode cM_sound 33 = .ok (.invokestatic 96, 3) := by decide +kernel
theorem dM_sound_36 : decode cM_sound 36 = .ok (.ifCond .eq 13, 3) := by decide +kernel
theorem dM_sound_39 : decode cM_sound 39 = .ok (.iload_n 3, 1) := by decide +kernel
theorem dM_sound_40 : decode cM_sound 40 = .ok (.sipush 256, 3) := by decide +kernel
theorem dM_sound_43 : decode cM_sound 43 = .ok (.invokestatic 96, 3) := by decide +kernel
theorem dM_sound_46 : decode cM_sound 46 = .ok (.ifCond .ne 5, 3) := by decide +kernel
theorem dM_sound_49 : decode cM_sound 49 = .ok (.iconst 0, 1) := by decide +kernel
theorem dM_sound_50 : decode cM_sound 50 = .ok (.ireturn, 1) := by decide +kernel
theorem dM_sound_51 : decode cM_sound 51 = .ok (.aload_n 0, 1) := by decide +kernel
theorem dM_sound_52 : decode cM_sound 52 = .ok (.getfield 44, 3) := by decide +kernel
theorem dM_sound_55 : decode cM_sound 55 = .ok (.sipush 140, 3) := by decide +kernel
theorem dM_sound_58 : decode cM_sound 58 = .ok (.iload_n 1, 1) := by decide +kernel
theorem dM_sound_59 : decode cM_sound 59 = .ok (.iadd, 1) := by decide +kernel
theorem dM_sound_60 : decode cM_sound 60 = .ok (.iconst 1, 1) := by decide +kernel
theorem dM_sound_61 : decode cM_sound 61 = .ok (.bastore, 1) := by decide +kernel
theorem dM_sound_62 : decode cM_sound 62 = .ok (.aload_n 0, 1) := by decide +kernel
theorem dM_sound_63 : decode cM_sound 63 = .ok (.getfield 47, 3) := by decide +kernel
theorem dM_sound_66 : decode cM_sound 66 = .ok (.sipush 560, 3) := by decide +kernel
theorem dM_sound_69 : decode cM_sound 69 = .ok (.iconst 4, 1) := by decide +kernel
theorem dM_sound_70 : decode cM_sound 70 = .ok (.iload_n 1, 1) := by decide +kernel
theorem dM_sound_71 : decode cM_sound 71 = .ok (.imul, 1) := by decide +kernel
theorem dM_sound_72 : decode cM_sound 72 = .ok (.iadd, 1) := by decide +kernel
theorem dM_sound_73 : decode cM_sound 73 = .ok (.iload_n 2, 1) := by decide +kernel
theorem dM_sound_74 : decode cM_sound 74 = .ok (.iadd, 1) := by decide +kernel
theorem dM_sound_75 : decode cM_sound 75 = .ok (.iload_n 3, 1) := by decide +kernel
theorem dM_sound_76 : decode cM_sound 76 = .ok (.iastore, 1) := by decide +kernel
theorem dM_sound_77 : decode cM_sound 77 = .ok (.iconst 1, 1) := by decide +kernel
theorem dM_sound_78 : decode cM_sound 78 = .ok (.ireturn, 1) := by decide +kernel
theorem dM_paint_0 : decode cM_paint 0 = .ok (.aload_n 0, 1) := by decide +kernel
theorem dM_paint_1 : decode cM_paint 1 = .ok (.aload_n 0, 1) := by decide +kernel
theorem dM_paint_2 : decode cM_paint 2 = .ok (.getfield 7, 3) := by decide +kernel
theorem dM_paint_5 : decode cM_paint 5 = .ok (.ifCond .eq 7, 3) := by decide +kernel
theorem dM_paint_8 : decode cM_paint 8 = .ok (.iconst 0, 1) := by decide +kernel
theorem dM_paint_9 : decode cM_paint 9 = .ok (.goto 4, 3) := by decide +kernel
theorem dM_paint_12 : decode cM_paint 12 = .ok (.iconst 1, 1) := by decide +kernel
theorem dM_paint_13 : decode cM_paint 13 = .ok (.putfield 83, 3) := by decide +kernel
theorem dM_paint_16 : decode cM_paint 16 = .ok (.aload_n 0, 1) := by decide +kernel
theorem dM_paint_17 : decode cM_paint 17 = .ok (.getfield 83, 3) := by decide +kernel
theorem dM_paint_20 : decode cM_paint 20 = .ok (.ifCond .gt 21, 3) := by decide +kernel
theorem dM_paint_23 : decode cM_paint 23 = .ok (.iload_n 1, 1) := by decide +kernel
theorem dM_paint_24 : decode cM_paint 24 = .ok (.bipush 8, 2) := by decide +kernel
theorem dM_paint_26 : decode cM_paint 26 = .ok (.invokestatic 96, 3) := by decide +kernel
theorem dM_paint_29 : decode cM_paint 29 = .ok (.ifCond .eq 12, 3) := by decide +kernel
theorem dM_paint_32 : decode cM_paint 32 = .ok (.iload_n 2, 1) := by decide +kernel
theorem dM_paint_33 : decode cM_paint 33 = .ok (.ldc 104, 2) := by decide +kernel
theorem dM_paint_35 : decode cM_paint 35 = .ok (.invokestatic 96, 3) := by decide +kernel
theorem dM_paint_38 : decode cM_paint 38 = .ok (.ifCond .ne 5, 3) := by decide +kernel
theorem dM_paint_41 : decode cM_paint 41 = .ok (.iconst 0, 1) := by decide +kernel
theorem dM_paint_42 : decode cM_paint 42 = .ok (.ireturn, 1) := by decide +kernel
theorem dM_paint_43 : decode cM_paint 43 = .ok (.aload_n 0, 1) := by decide +kernel
theorem dM_paint_44 : decode cM_paint 44 = .ok (.getfield 62, 3) := by decide +kernel
theorem dM_paint_47 : decode cM_paint 47 = .ok (.iload_n 1, 1) := by decide +kernel
theorem dM_paint_48 : decode cM_paint 48 = .ok (.iload_n 2, 1) := by decide +kernel
theorem dM_paint_49 : decode cM_paint 49 = .ok (.iastore, 1) := by decide +kernel
theorem dM_paint_50 : decode cM_paint 50 = .ok (.iconst 1, 1) := by decide +kernel
theorem dM_paint_51 : decode cM_paint 51 = .ok (.ireturn, 1) := by decide +kernel
theorem dM_show_0 : decode cM_show 0 = .ok (.aload_n 0, 1) := by decide +kernel
theorem dM_show_1 : decode cM_show 1 = .ok (.aload_n 0, 1) := by decide +kernel
theorem dM_show_2 : decode cM_show 2 = .ok (.getfield 7, 3) := by decide +kernel
theorem dM_show_5 : decode cM_show 5 = .ok (.ifCond .eq 7, 3) := by decide +kernel
theorem dM_show_8 : decode cM_show 8 = .ok (.iconst 0, 1) := by decide +kernel
theorem dM_show_9 : decode cM_show 9 = .ok (.goto 4, 3) := by decide +kernel
theorem dM_show_12 : decode cM_show 12 = .ok (.iconst 1, 1) := by decide +kernel
theorem dM_show_13 : decode cM_show 13 = .ok (.putfield 83, 3) := by decide +kernel
theorem dM_show_16 : decode cM_show 16 = .ok (.aload_n 0, 1) := by decide +kernel
theorem dM_show_17 : decode cM_show 17 = .ok (.getfield 83, 3) := by decide +kernel
theorem dM_show_20 : decode cM_show 20 = .ok (.ifCond .gt 13, 3) := by decide +kernel
theorem dM_show_23 : decode cM_show 23 = .ok (.aload_n 0, 1) := by decide +kernel
theorem dM_show_24 : decode cM_show 24 = .ok (.getfield 50, 3) := by decide +kernel
theorem dM_show_27 : decode cM_show 27 = .ok (.bipush 70, 2) := by decide +kernel
theorem dM_show_29 : decode cM_show 29 = .ok (.baload, 1) := by decide +kernel
theorem dM_show_30 : decode cM_show 30 = .ok (.ifCond .eq 5, 3) := by decide +kernel
theorem dM_show_33 : decode cM_show 33 = .ok (.iconst 0, 1) := by decide +kernel
theorem dM_show_34 : decode cM_show 34 = .ok (.ireturn, 1) := by decide +kernel
theorem dM_show_35 : decode cM_show 35 = .ok (.aload_n 0, 1) := by decide +kernel
theorem dM_show_36 : decode cM_show 36 = .ok (.getfield 50, 3) := by decide +kernel
theorem dM_show_39 : decode cM_show 39 = .ok (.bipush 70, 2) := by decide +kernel
theorem dM_show_41 : decode cM_show 41 = .ok (.iconst 1, 1) := by decide +kernel
theorem dM_show_42 : decode cM_show 42 = .ok (.bastore, 1) := by decide +kernel
theorem dM_show_43 : decode cM_show 43 = .ok (.iconst 0, 1) := by decide +kernel
theorem dM_show_44 : decode cM_show 44 = .ok (.istore_n 1, 1) := by decide +kernel
theorem dM_show_45 : decode cM_show 45 = .ok (.iload_n 1, 1) := by decide +kernel
theorem dM_show_46 : decode cM_show 46 = .ok (.bipush 8, 2) := by decide +kernel
theorem dM_show_48 : decode cM_show 48 = .ok (.if_icmp .ge 25, 3) := by decide +kernel
theorem dM_show_51 : decode cM_show 51 = .ok (.aload_n 0, 1) := by decide +kernel
theorem dM_show_52 : decode cM_show 52 = .ok (.getfield 56, 3) := by decide +kernel
theorem dM_show_55 : decode cM_show 55 = .ok (.sipush 560, 3) := by decide +kernel
theorem dM_show_58 : decode cM_show 58 = .ok (.iload_n 1, 1) := by decide +kernel
theorem dM_show_59 : decode cM_show 59 = .ok (.iadd, 1) := by decide +kernel
theorem dM_show_60 : decode cM_show 60 = .ok (.aload_n 0, 1) := by decide +kernel
theorem dM_show_61 : decode cM_show 61 = .ok (.getfield 62, 3) := by decide +kernel
theorem dM_show_64 : decode cM_show 64 = .ok (.iload_n 1, 1) := by decide +kernel
theorem dM_show_65 : decode cM_show 65 = .ok (.iaload, 1) := by decide +kernel
theorem dM_show_66 : decode cM_show 66 = .ok (.iastore, 1) := by decide +kernel
theorem dM_show_67 : decode cM_show 67 = .ok (.iinc 1 1, 3) := by decide +kernel
theorem dM_show_70 : decode cM_show 70 = .ok (.goto (-25), 3) := by decide +kernel
theorem dM_show_73 : decode cM_show 73 = .ok (.iconst 1, 1) := by decide +kernel
theorem dM_show_74 : decode cM_show 74 = .ok (.ireturn, 1) := by decide +kernel
theorem dM_contact_0 : decode cM_contact 0 = .ok (.aload_n 0, 1) := by decide +kernel
theorem dM_contact_1 : decode cM_contact 1 = .ok (.aload_n 0, 1) := by decide +kernel
theorem dM_contact_2 : decode cM_contact 2 = .ok (.getfield 7, 3) := by decide +kernel
theorem dM_contact_5 : decode cM_contact 5 = .ok (.ifCond .eq 7, 3) := by decide +kernel
theorem dM_contact_8 : decode cM_contact 8 = .ok (.iconst 0, 1) := by decide +kernel
theorem dM_contact_9 : decode cM_contact 9 = .ok (.goto 4, 3) := by decide +kernel
theorem dM_contact_12 : decode cM_contact 12 = .ok (.iconst 1, 1) := by decide +kernel
theorem dM_contact_13 : decode cM_contact 13 = .ok (.putfield 83, 3) := by decide +kernel
theorem dM_contact_16 : decode cM_contact 16 = .ok (.aload_n 0, 1) := by decide +kernel
theorem dM_contact_17 : decode cM_contact 17 = .ok (.getfield 83, 3) := by decide +kernel
theorem dM_contact_20 : decode cM_contact 20 = .ok (.ifCond .gt 12, 3) := by decide +kernel
theorem dM_contact_23 : decode cM_contact 23 = .ok (.iload_n 1, 1) := by decide +kernel
theorem dM_contact_24 : decode cM_contact 24 = .ok (.bipush 16, 2) := by decide +kernel
theorem dM_contact_26 : decode cM_contact 26 = .ok (.invokestatic 96, 3) := by decide +kernel
theorem dM_contact_29 : decode cM_contact 29 = .ok (.ifCond .ne 5, 3) := by decide +kernel
theorem dM_contact_32 : decode cM_contact 32 = .ok (.iconst 0, 1) := by decide +kernel
theorem dM_contact_33 : decode cM_contact 33 = .ok (.ireturn, 1) := by decide +kernel
theorem dM_contact_34 : decode cM_contact 34 = .ok (.aload_n 0, 1) := by decide +kernel
theorem dM_contact_35 : decode cM_contact 35 = .ok (.getfield 59, 3) := by decide +kernel
theorem dM_contact_38 : decode cM_contact 38 = .ok (.bipush 70, 2) := by decide +kernel
theorem dM_contact_40 : decode cM_contact 40 = .ok (.iload_n 2, 1) := by decide +kernel
theorem dM_contact_41 : decode cM_contact 41 = .ok (.ifCond .eq 17, 3) := by decide +kernel
theorem dM_contact_44 : decode cM_contact 44 = .ok (.aload_n 0, 1) := by decide +kernel
theorem dM_contact_45 : decode cM_contact 45 = .ok (.getfield 59, 3) := by decide +kernel
theorem dM_contact_48 : decode cM_contact 48 = .ok (.bipush 70, 2) := by decide +kernel
theorem dM_contact_50 : decode cM_contact 50 = .ok (.iaload, 1) := by decide +kernel
theorem dM_contact_51 : decode cM_contact 51 = .ok (.iconst 1, 1) := by decide +kernel
theorem dM_contact_52 : decode cM_contact 52 = .ok (.iload_n 1, 1) := by decide +kernel
theorem dM_contact_53 : decode cM_contact 53 = .ok (.ishl, 1) := by decide +kernel
theorem dM_contact_54 : decode cM_contact 54 = .ok (.ior, 1) := by decide +kernel
theorem dM_contact_55 : decode cM_contact 55 = .ok (.goto 16, 3) := by decide +kernel
theorem dM_contact_58 : decode cM_contact 58 = .ok (.aload_n 0, 1) := by decide +kernel
theorem dM_contact_59 : decode cM_contact 59 = .ok (.getfield 59, 3) := by decide +kernel
theorem dM_contact_62 : decode cM_contact 62 = .ok (.bipush 70, 2) := by decide +kernel
theorem dM_contact_64 : decode cM_contact 64 = .ok (.iaload, 1) := by decide +kernel
theorem dM_contact_65 : decode cM_contact 65 = .ok (.iconst 1, 1) := by decide +kernel
theorem dM_contact_66 : decode cM_contact 66 = .ok (.iload_n 1, 1) := by decide +kernel
theorem dM_contact_67 : decode cM_contact 67 = .ok (.ishl, 1) := by decide +kernel
theorem dM_contact_68 : decode cM_contact 68 = .ok (.iconst (-1), 1) := by decide +kernel
theorem dM_contact_69 : decode cM_contact 69 = .ok (.ixor, 1) := by decide +kernel
theorem dM_contact_70 : decode cM_contact 70 = .ok (.iand, 1) := by decide +kernel
theorem dM_contact_71 : decode cM_contact 71 = .ok (.iastore, 1) := by decide +kernel
theorem dM_contact_72 : decode cM_contact 72 = .ok (.iconst 1, 1) := by decide +kernel
theorem dM_contact_73 : decode cM_contact 73 = .ok (.ireturn, 1) := by decide +kernel
theorem dM_second_0 : decode cM_second 0 = .ok (.aload_n 0, 1) := by decide +kernel
theorem dM_second_1 : decode cM_second 1 = .ok (.aload_n 0, 1) := by decide +kernel
theorem dM_second_2 : decode cM_second 2 = .ok (.getfield 7, 3) := by decide +kernel
theorem dM_second_5 : decode cM_second 5 = .ok (.ifCond .ne 7, 3) := by decide +kernel
theorem dM_second_8 : decode cM_second 8 = .ok (.iconst 1, 1) := by decide +kernel
theorem dM_second_9 : decode cM_second 9 = .ok (.goto 23, 3) := by decide +kernel
theorem dM_second_12 : decode cM_second 12 = .ok (.iload_n 1, 1) := by decide +kernel
theorem dM_second_13 : decode cM_second 13 = .ok (.aload_n 0, 1) := by decide +kernel
theorem dM_second_14 : decode cM_second 14 = .ok (.getfield 105, 3) := by decide +kernel
theorem dM_second_17 : decode cM_second 17 = .ok (.if_icmp .le 10, 3) := by decide +kernel
theorem dM_second_20 : decode cM_second 20 = .ok (.iload_n 1, 1) := by decide +kernel
theorem dM_second_21 : decode cM_second 21 = .ok (.sipush 9999, 3) := by decide +kernel
theorem dM_second_24 : decode cM_second 24 = .ok (.if_icmp .le 7, 3) := by decide +kernel
theorem dM_second_27 : decode cM_second 27 = .ok (.iconst 2, 1) := by decide +kernel
theorem dM_second_28 : decode cM_second 28 = .ok (.goto 4, 3) := by decide +kernel
theorem dM_second_31 : decode cM_second 31 = .ok (.iconst 0, 1) := by decide +kernel
theorem dM_second_32 : decode cM_second 32 = .ok (.putfield 83, 3) := by decide +kernel
theorem dM_second_35 : decode cM_second 35 = .ok (.aload_n 0, 1) := by decide +kernel
theorem dM_second_36 : decode cM_second 36 = .ok (.getfield 83, 3) := by decide +kernel
theorem dM_second_39 : decode cM_second 39 = .ok (.ifCond .le 5, 3) := by decide +kernel
theorem dM_second_42 : decode cM_second 42 = .ok (.iconst 0, 1) := by decide +kernel
theorem dM_second_43 : decode cM_second 43 = .ok (.ireturn, 1) := by decide +kernel
theorem dM_second_44 : decode cM_second 44 = .ok (.aload_n 0, 1) := by decide +kernel
theorem dM_second_45 : decode cM_second 45 = .ok (.getfield 50, 3) := by decide +kernel
theorem dM_second_48 : decode cM_second 48 = .ok (.bipush 70, 2) := by decide +kernel
theorem dM_second_50 : decode cM_second 50 = .ok (.baload, 1) := by decide +kernel
theorem dM_second_51 : decode cM_second 51 = .ok (.ifCond .eq 10, 3) := by decide +kernel
theorem dM_second_54 : decode cM_second 54 = .ok (.aload_n 0, 1) := by decide +kernel
theorem dM_second_55 : decode cM_second 55 = .ok (.invokevirtual 140, 3) := by decide +kernel
theorem dM_second_58 : decode cM_second 58 = .ok (.goto 4, 3) := by decide +kernel
theorem dM_second_61 : decode cM_second 61 = .ok (.iconst 0, 1) := by decide +kernel
theorem dM_second_62 : decode cM_second 62 = .ok (.istore_n 2, 1) := by decide +kernel
theorem dM_second_63 : decode cM_second 63 = .ok (.iconst 0, 1) := by decide +kernel
theorem dM_second_64 : decode cM_second 64 = .ok (.istore_n 3, 1) := by decide +kernel
theorem dM_second_65 : decode cM_second 65 = .ok (.iconst 1, 1) := by decide +kernel
theorem dM_second_66 : decode cM_second 66 = .ok (.istore 4, 2) := by decide +kernel
theorem dM_second_68 : decode cM_second 68 = .ok (.iconst 0, 1) := by decide +kernel
theorem dM_second_69 : decode cM_second 69 = .ok (.istore 5, 2) := by decide +kernel
theorem dM_second_71 : decode cM_second 71 = .ok (.iload 5, 2) := by decide +kernel
theorem dM_second_73 : decode cM_second 73 = .ok (.iconst 3, 1) := by decide +kernel
theorem dM_second_74 : decode cM_second 74 = .ok (.if_icmp .ge 64, 3) := by decide +kernel
theorem dM_second_77 : decode cM_second 77 = .ok (.iload 4, 2) := by decide +kernel
theorem dM_second_79 : decode cM_second 79 = .ok (.ifCond .eq 59, 3) := by decide +kernel
theorem dM_second_82 : decode cM_second 82 = .ok (.aload_n 0, 1) := by decide +kernel
theorem dM_second_83 : decode cM_second 83 = .ok (.iload 5, 2) := by decide +kernel
theorem dM_second_85 : decode cM_second 85 = .ok (.iload_n 2, 1) := by decide +kernel
theorem dM_second_86 : decode cM_second 86 = .ok (.invokevirtual 144, 3) := by decide +kernel
theorem dM_second_89 : decode cM_second 89 = .ok (.bipush 15, 2) := by decide +kernel
theorem dM_second_91 : decode cM_second 91 = .ok (.iadd, 1) := by decide +kernel
theorem dM_second_92 : decode cM_second 92 = .ok (.bipush 16, 2) := by decide +kernel
theorem dM_second_94 : decode cM_second 94 = .ok (.idiv, 1) := by decide +kernel
theorem dM_second_95 : decode cM_second 95 = .ok (.istore 6, 2) := by decide +kernel
theorem dM_second_97 : decode cM_second 97 = .ok (.aload_n 0, 1) := by decide +kernel
theorem dM_second_98 : decode cM_second 98 = .ok (.getfield 17, 3) := by decide +kernel
theorem dM_second_101 : decode cM_second 101 = .ok (.iload 5, 2) := by decide +kernel
theorem dM_second_103 : decode cM_second 103 = .ok (.baload, 1) := by decide +kernel
theorem dM_second_104 : decode cM_second 104 = .ok (.ifCond .ne 28, 3) := by decide +kernel
theorem dM_second_107 : decode cM_second 107 = .ok (.aload_n 0, 1) := by decide +kernel
theorem dM_second_108 : decode cM_second 108 = .ok (.iload 5, 2) := by decide +kernel
theorem dM_second_110 : decode cM_second 110 = .ok (.iload 6, 2) := by decide +kernel
theorem dM_second_112 : decode cM_second 112 = .ok (.invokevirtual 148, 3) := by decide +kernel
theorem dM_second_115 : decode cM_second 115 = .ok (.ifCond .eq 17, 3) := by decide +kernel
theorem dM_second_118 : decode cM_second 118 = .ok (.aload_n 0, 1) := by decide +kernel
theorem dM_second_119 : decode cM_second 119 = .ok (.iload 5, 2) := by decide +kernel
theorem dM_second_121 : decode cM_second 121 = .ok (.iload 6, 2) := by decide +kernel
theorem dM_second_123 : decode cM_second 123 = .ok (.invokevirtual 151, 3) := by decide +kernel
theorem dM_second_126 : decode cM_second 126 = .ok (.istore 4, 2) := by decide +kernel
theorem dM_second_128 : decode cM_second 128 = .ok (.iload_n 3, 1) := by decide +kernel
theorem dM_second_129 : decode cM_second 129 = .ok (.iconst 1, 1) := by decide +kernel
theorem dM_second_130 : decode cM_second 130 = .ok (.iadd, 1) := by decide +kernel
theorem dM_second_131 : decode cM_second 131 = .ok (.istore_n 3, 1) := by decide +kernel
theorem dM_second_132 : decode cM_second 132 = .ok (.iinc 5 1, 3) := by decide +kernel
theorem dM_second_135 : decode cM_second 135 = .ok (.goto (-64), 3) := by decide +kernel
theorem dM_second_138 : decode cM_second 138 = .ok (.iload 4, 2) := by decide +kernel
theorem dM_second_140 : decode cM_second 140 = .ok (.ifCond .ne 14, 3) := by decide +kernel
theorem dM_second_143 : decode cM_second 143 = .ok (.aload_n 0, 1) := by decide +kernel
theorem dM_second_144 : decode cM_second 144 = .ok (.invokevirtual 154, 3) := by decide +kernel
theorem dM_second_147 : decode cM_second 147 = .ok (.aload_n 0, 1) := by decide +kernel
theorem dM_second_148 : decode cM_second 148 = .ok (.iload_n 1, 1) := by decide +kernel
theorem dM_second_149 : decode cM_second 149 = .ok (.putfield 105, 3) := by decide +kernel
theorem dM_second_152 : decode cM_second 152 = .ok (.iconst (-1), 1) := by decide +kernel
theorem dM_second_153 : decode cM_second 153 = .ok (.ireturn, 1) := by decide +kernel
theorem dM_second_154 : decode cM_second 154 = .ok (.iconst 0, 1) := by decide +kernel
theorem dM_second_155 : decode cM_second 155 = .ok (.istore 5, 2) := by decide +kernel
theorem dM_second_157 : decode cM_second 157 = .ok (.iload 5, 2) := by decide +kernel
theorem dM_second_159 : decode cM_second 159 = .ok (.bipush 8, 2) := by decide +kernel
theorem dM_second_161 : decode cM_second 161 = .ok (.if_icmp .ge 37, 3) := by decide +kernel
theorem dM_second_164 : decode cM_second 164 = .ok (.aload_n 0, 1) := by decide +kernel
theorem dM_second_165 : decode cM_second 165 = .ok (.getfield 50, 3) := by decide +kernel
theorem dM_second_168 : decode cM_second 168 = .ok (.bipush 70, 2) := by decide +kernel
theorem dM_second_170 : decode cM_second 170 = .ok (.baload, 1) := by decide +kernel
theorem dM_second_171 : decode cM_second 171 = .ok (.ifCond .eq 27, 3) := by decide +kernel
theorem dM_second_174 : decode cM_second 174 = .ok (.aload_n 0, 1) := by decide +kernel
theorem dM_second_175 : decode cM_second 175 = .ok (.getfield 65, 3) := by decide +kernel
theorem dM_second_178 : decode cM_second 178 = .ok (.iload 5, 2) := by decide +kernel
theorem dM_second_180 : decode cM_second 180 = .ok (.aload_n 0, 1) := by decide +kernel
theorem dM_second_181 : decode cM_second 181 = .ok (.getfield 56, 3) := by decide +kernel
theorem dM_second_184 : decode cM_second 184 = .ok (.sipush 560, 3) := by decide +kernel
theorem dM_second_187 : decode cM_second 187 = .ok (.iload 5, 2) := by decide +kernel
theorem dM_second_189 : decode cM_second 189 = .ok (.iadd, 1) := by decide +kernel
theorem dM_second_190 : decode cM_second 190 = .ok (.iaload, 1) := by decide +kernel
theorem dM_second_191 : decode cM_second 191 = .ok (.iastore, 1) := by decide +kernel
theorem dM_second_192 : decode cM_second 192 = .ok (.iinc 5 1, 3) := by decide +kernel
theorem dM_second_195 : decode cM_second 195 = .ok (.goto (-38), 3) := by decide +kernel
theorem dM_second_198 : decode cM_second 198 = .ok (.aload_n 0, 1) := by decide +kernel
theorem dM_second_199 : decode cM_second 199 = .ok (.aload_n 0, 1) := by decide +kernel
theorem dM_second_200 : decode cM_second 200 = .ok (.getfield 50, 3) := by decide +kernel
theorem dM_second_203 : decode cM_second 203 = .ok (.bipush 70, 2) := by decide +kernel
theorem dM_second_205 : decode cM_second 205 = .ok (.baload, 1) := by decide +kernel
theorem dM_second_206 : decode cM_second 206 = .ok (.ifCond .eq 10, 3) := by decide +kernel
theorem dM_second_209 : decode cM_second 209 = .ok (.aload_n 0, 1) := by decide +kernel
theorem dM_second_210 : decode cM_second 210 = .ok (.getfield 105, 3) := by decide +kernel
theorem dM_second_213 : decode cM_second 213 = .ok (.goto 7, 3) := by decide +kernel
theorem dM_second_216 : decode cM_second 216 = .ok (.aload_n 0, 1) := by decide +kernel
theorem dM_second_217 : decode cM_second 217 = .ok (.getfield 68, 3) := by decide +kernel
theorem dM_second_220 : decode cM_second 220 = .ok (.putfield 68, 3) := by decide +kernel
theorem dM_second_223 : decode cM_second 223 = .ok (.aload_n 0, 1) := by decide +kernel
theorem dM_second_224 : decode cM_second 224 = .ok (.invokevirtual 137, 3) := by decide +kernel
theorem dM_second_227 : decode cM_second 227 = .ok (.aload_n 0, 1) := by decide +kernel
theorem dM_second_228 : decode cM_second 228 = .ok (.iload_n 1, 1) := by decide +kernel
theorem dM_second_229 : decode cM_second 229 = .ok (.putfield 105, 3) := by decide +kernel
theorem dM_second_232 : decode cM_second 232 = .ok (.iload_n 3, 1) := by decide +kernel
theorem dM_second_233 : decode cM_second 233 = .ok (.ireturn, 1) := by decide +kernel
theorem dM_codePicture_0 : decode cM_codePicture 0 = .ok (.aload_n 0, 1) := by decide +kernel
theorem dM_codePicture_1 : decode cM_codePicture 1 = .ok (.getfield 68, 3) := by decide +kernel
theorem dM_codePicture_4 : decode cM_codePicture 4 = .ok (.ifCond .lt 24, 3) := by decide +kernel
theorem dM_codePicture_7 : decode cM_codePicture 7 = .ok (.aload_n 0, 1) := by decide +kernel
theorem dM_codePicture_8 : decode cM_codePicture 8 = .ok (.getfield 68, 3) := by decide +kernel
theorem dM_codePicture_11 : decode cM_codePicture 11 = .ok (.bipush 10, 2) := by decide +kernel
theorem dM_codePicture_13 : decode cM_codePicture 13 = .ok (.idiv, 1) := by decide +kernel
theorem dM_codePicture_14 : decode cM_codePicture 14 = .ok (.aload_n 0, 1) := by decide +kernel
theorem dM_codePicture_15 : decode cM_codePicture 15 = .ok (.getfield 105, 3) := by decide +kernel
theorem dM_codePicture_18 : decode cM_codePicture 18 = .ok (.bipush 10, 2) := by decide +kernel
theorem dM_codePicture_20 : decode cM_codePicture 20 = .ok (.idiv, 1) := by decide +kernel
theorem dM_codePicture_21 : decode cM_codePicture 21 = .ok (.if_icmp .ne 7, 3) := by decide +kernel
theorem dM_codePicture_24 : decode cM_codePicture 24 = .ok (.iconst 1, 1) := by decide +kernel
theorem dM_codePicture_25 : decode cM_codePicture 25 = .ok (.goto 4, 3) := by decide +kernel
theorem dM_codePicture_28 : decode cM_codePicture 28 = .ok (.iconst 0, 1) := by decide +kernel
theorem dM_codePicture_29 : decode cM_codePicture 29 = .ok (.istore_n 1, 1) := by decide +kernel
theorem dM_codePicture_30 : decode cM_codePicture 30 = .ok (.bipush 16, 2) := by decide +kernel
theorem dM_codePicture_32 : decode cM_codePicture 32 = .ok (.istore_n 2, 1) := by decide +kernel
theorem dM_codePicture_33 : decode cM_codePicture 33 = .ok (.aload_n 0, 1) := by decide +kernel
theorem dM_codePicture_34 : decode cM_codePicture 34 = .ok (.getfield 53, 3) := by decide +kernel
theorem dM_codePicture_37 : decode cM_codePicture 37 = .ok (.bipush 70, 2) := by decide +kernel
theorem dM_codePicture_39 : decode cM_codePicture 39 = .ok (.iconst (-1), 1) := by decide +kernel
theorem dM_codePicture_40 : decode cM_codePicture 40 = .ok (.iastore, 1) := by decide +kernel
theorem dM_codePicture_41 : decode cM_codePicture 41 = .ok (.aload_n 0, 1) := by decide +kernel
theorem dM_codePicture_42 : decode cM_codePicture 42 = .ok (.iconst 0, 1) := by decide +kernel
theorem dM_codePicture_43 : decode cM_codePicture 43 = .ok (.invokevirtual 108, 3) := by decide +kernel
theorem dM_codePicture_46 : decode cM_codePicture 46 = .ok (.iload_n 2, 1) := by decide +kernel
theorem dM_codePicture_47 : decode cM_codePicture 47 = .ok (.if_icmp .ge 11, 3) := by decide +kernel
theorem dM_codePicture_50 : decode cM_codePicture 50 = .ok (.aload_n 0, 1) := by decide +kernel
theorem dM_codePicture_51 : decode cM_codePicture 51 = .ok (.iconst 0, 1) := by decide +kernel
theorem dM_codePicture_52 : decode cM_codePicture 52 = .ok (.invokevirtual 108, 3) := by decide +kernel
theorem dM_codePicture_55 : decode cM_codePicture 55 = .ok (.goto 4, 3) := by decide +kernel
theorem dM_codePicture_58 : decode cM_codePicture 58 = .ok (.iload_n 2, 1) := by decide +kernel
theorem dM_codePicture_59 : decode cM_codePicture 59 = .ok (.istore_n 2, 1) := by decide +kernel
theorem dM_codePicture_60 : decode cM_codePicture 60 = .ok (.iload_n 1, 1) := by decide +kernel
theorem dM_codePicture_61 : decode cM_codePicture 61 = .ok (.ifCond .eq 29, 3) := by decide +kernel
theorem dM_codePicture_64 : decode cM_codePicture 64 = .ok (.aload_n 0, 1) := by decide +kernel
theorem dM_codePicture_65 : decode cM_codePicture 65 = .ok (.iconst 1, 1) := by decide +kernel
theorem dM_codePicture_66 : decode cM_codePicture 66 = .ok (.invokevirtual 108, 3) := by decide +kernel
theorem dM_codePicture_69 : decode cM_codePicture 69 = .ok (.iload_n 2, 1) := by decide +kernel
theorem dM_codePicture_70 : decode cM_codePicture 70 = .ok (.if_icmp .ge 20, 3) := by decide +kernel
theorem dM_codePicture_73 : decode cM_codePicture 73 = .ok (.aload_n 0, 1) := by decide +kernel
theorem dM_codePicture_74 : decode cM_codePicture 74 = .ok (.iconst 1, 1) := by decide +kernel
theorem dM_codePicture_75 : decode cM_codePicture 75 = .ok (.invokevirtual 108, 3) := by decide +kernel
theorem dM_codePicture_78 : decode cM_codePicture 78 = .ok (.istore_n 2, 1) := by decide +kernel
theorem dM_codePicture_79 : decode cM_codePicture 79 = .ok (.aload_n 0, 1) := by decide +kernel
theorem dM_codePicture_80 : decode cM_codePicture 80 = .ok (.getfield 53, 3) := by decide +kernel
theorem dM_codePicture_83 : decode cM_codePicture 83 = .ok (.bipush 70, 2) := by decide +kernel
theorem dM_codePicture_85 : decode cM_codePicture 85 = .ok (.aload_n 0, 1) := by decide +kernel
theorem dM_codePicture_86 : decode cM_codePicture 86 = .ok (.getfield 68, 3) := by decide +kernel
theorem dM_codePicture_89 : decode cM_codePicture 89 = .ok (.iastore, 1) := by decide +kernel
theorem dM_codePicture_90 : decode cM_codePicture 90 = .ok (.iload_n 2, 1) := by decide +kernel
theorem dM_codePicture_91 : decode cM_codePicture 91 = .ok (.ireturn, 1) := by decide +kernel
theorem dM_runs_0 : decode cM_runs 0 = .ok (.iconst 0, 1) := by decide +kernel
theorem dM_runs_1 : decode cM_runs 1 = .ok (.istore_n 2, 1) := by decide +kernel
theorem dM_runs_2 : decode cM_runs 2 = .ok (.iconst (-1), 1) := by decide +kernel
theorem dM_runs_3 : decode cM_runs 3 = .ok (.istore_n 3, 1) := by decide +kernel
theorem dM_runs_4 : decode cM_runs 4 = .ok (.iconst 0, 1) := by decide +kernel
theorem dM_runs_5 : decode cM_runs 5 = .ok (.istore 4, 2) := by decide +kernel
theorem dM_runs_7 : decode cM_runs 7 = .ok (.iload 4, 2) := by decide +kernel
theorem dM_runs_9 : decode cM_runs 9 = .ok (.bipush 64, 2) := by decide +kernel
theorem dM_runs_11 : decode cM_runs 11 = .ok (.if_icmp .ge 75, 3) := by decide +kernel
theorem dM_runs_14 : decode cM_runs 14 = .ok (.aload_n 0, 1) := by decide +kernel
theorem dM_runs_15 : decode cM_runs 15 = .ok (.getfield 56, 3) := by decide +kernel
theorem dM_runs_18 : decode cM_runs 18 = .ok (.sipush 560, 3) := by decide +kernel
theorem dM_runs_21 : decode cM_runs 21 = .ok (.iload 4, 2) := by decide +kernel
theorem dM_runs_23 : decode cM_runs 23 = .ok (.bipush 8, 2) := by decide +kernel
theorem dM_runs_25 : decode cM_runs 25 = .ok (.idiv, 1) := by decide +kernel
theorem dM_runs_26 : decode cM_runs 26 = .ok (.iadd, 1) := by decide +kernel
theorem dM_runs_27 : decode cM_runs 27 = .ok (.iaload, 1) := by decide +kernel
theorem dM_runs_28 : decode cM_runs 28 = .ok (.iload_n 1, 1) := by decide +kernel
theorem dM_runs_29 : decode cM_runs 29 = .ok (.ifCond .eq 16, 3) := by decide +kernel
theorem dM_runs_32 : decode cM_runs 32 = .ok (.aload_n 0, 1) := by decide +kernel
theorem dM_runs_33 : decode cM_runs 33 = .ok (.getfield 65, 3) := by decide +kernel
theorem dM_runs_36 : decode cM_runs 36 = .ok (.iload 4, 2) := by decide +kernel
theorem dM_runs_38 : decode cM_runs 38 = .ok (.bipush 8, 2) := by decide +kernel
theorem dM_runs_40 : decode cM_runs 40 = .ok (.idiv, 1) := by decide +kernel
theorem dM_runs_41 : decode cM_runs 41 = .ok (.iaload, 1) := by decide +kernel
theorem dM_runs_42 : decode cM_runs 42 = .ok (.goto 4, 3) := by decide +kernel
theorem dM_runs_45 : decode cM_runs 45 = .ok (.iconst 0, 1) := by decide +kernel
theorem dM_runs_46 : decode cM_runs 46 = .ok (.ixor, 1) := by decide +kernel
theorem dM_runs_47 : decode cM_runs 47 = .ok (.istore 5, 2) := by decide +kernel
theorem dM_runs_49 : decode cM_runs 49 = .ok (.iload 5, 2) := by decide +kernel
theorem dM_runs_51 : decode cM_runs 51 = .ok (.iconst 2, 1) := by decide +kernel
theorem dM_runs_52 : decode cM_runs 52 = .ok (.iload 4, 2) := by decide +kernel
theorem dM_runs_54 : decode cM_runs 54 = .ok (.bipush 8, 2) := by decide +kernel
theorem dM_runs_56 : decode cM_runs 56 = .ok (.irem, 1) := by decide +kernel
theorem dM_runs_57 : decode cM_runs 57 = .ok (.imul, 1) := by decide +kernel
theorem dM_runs_58 : decode cM_runs 58 = .ok (.ishr, 1) := by decide +kernel
theorem dM_runs_59 : decode cM_runs 59 = .ok (.iconst 3, 1) := by decide +kernel
theorem dM_runs_60 : decode cM_runs 60 = .ok (.iand, 1) := by decide +kernel
theorem dM_runs_61 : decode cM_runs 61 = .ok (.istore 6, 2) := by decide +kernel
theorem dM_runs_63 : decode cM_runs 63 = .ok (.iload 6, 2) := by decide +kernel
theorem dM_runs_65 : decode cM_runs 65 = .ok (.iload_n 3, 1) := by decide +kernel
theorem dM_runs_66 : decode cM_runs 66 = .ok (.if_icmp .eq 9, 3) := by decide +kernel
theorem dM_runs_69 : decode cM_runs 69 = .ok (.iload_n 2, 1) := by decide +kernel
theorem dM_runs_70 : decode cM_runs 70 = .ok (.iconst 1, 1) := by decide +kernel
theorem dM_runs_71 : decode cM_runs 71 = .ok (.iadd, 1) := by decide +kernel
theorem dM_runs_72 : decode cM_runs 72 = .ok (.goto 4, 3) := by decide +kernel
theorem dM_runs_75 : decode cM_runs 75 = .ok (.iload_n 2, 1) := by decide +kernel
theorem dM_runs_76 : decode cM_runs 76 = .ok (.istore_n 2, 1) := by decide +kernel
theorem dM_runs_77 : decode cM_runs 77 = .ok (.iload 6, 2) := by decide +kernel
theorem dM_runs_79 : decode cM_runs 79 = .ok (.istore_n 3, 1) := by decide +kernel
theorem dM_runs_80 : decode cM_runs 80 = .ok (.iinc 4 1, 3) := by decide +kernel
theorem dM_runs_83 : decode cM_runs 83 = .ok (.goto (-76), 3) := by decide +kernel
theorem dM_runs_86 : decode cM_runs 86 = .ok (.iload_n 2, 1) := by decide +kernel
theorem dM_runs_87 : decode cM_runs 87 = .ok (.ireturn, 1) := by decide +kernel
theorem dM_bytesFor_0 : decode cM_bytesFor 0 = .ok (.bipush 6, 2) := by decide +kernel
theorem dM_bytesFor_2 : decode cM_bytesFor 2 = .ok (.istore_n 3, 1) := by decide +kernel
theorem dM_bytesFor_3 : decode cM_bytesFor 3 = .ok (.iconst 0, 1) := by decide +kernel
theorem dM_bytesFor_4 : decode cM_bytesFor 4 = .ok (.istore 4, 2) := by decide +kernel
theorem dM_bytesFor_6 : decode cM_bytesFor 6 = .ok (.iload 4, 2) := by decide +kernel
theorem dM_bytesFor_8 : decode cM_bytesFor 8 = .ok (.aload_n 0, 1) := by decide +kernel
theorem dM_bytesFor_9 : decode cM_bytesFor 9 = .ok (.getfield 34, 3) := by decide +kernel
theorem dM_bytesFor_12 : decode cM_bytesFor 12 = .ok (.bipush 70, 2) := by decide +kernel
theorem dM_bytesFor_14 : decode cM_bytesFor 14 = .ok (.iaload, 1) := by decide +kernel
theorem dM_bytesFor_15 : decode cM_bytesFor 15 = .ok (.if_icmp .ge 28, 3) := by decide +kernel
theorem dM_bytesFor_18 : decode cM_bytesFor 18 = .ok (.iload_n 3, 1) := by decide +kernel
theorem dM_bytesFor_19 : decode cM_bytesFor 19 = .ok (.iconst 2, 1) := by decide +kernel
theorem dM_bytesFor_20 : decode cM_bytesFor 20 = .ok (.iadd, 1) := by decide +kernel
theorem dM_bytesFor_21 : decode cM_bytesFor 21 = .ok (.aload_n 0, 1) := by decide +kernel
theorem dM_bytesFor_22 : decode cM_bytesFor 22 = .ok (.getfield 40, 3) := by decide +kernel
theorem dM_bytesFor_25 : decode cM_bytesFor 25 = .ok (.sipush 280, 3) := by decide +kernel
theorem dM_bytesFor_28 : decode cM_bytesFor 28 = .ok (.iload 4, 2) := by decide +kernel
theorem dM_bytesFor_30 : decode cM_bytesFor 30 = .ok (.iadd, 1) := by decide +kernel
theorem dM_bytesFor_31 : decode cM_bytesFor 31 = .ok (.laload, 1) := by decide +kernel
theorem dM_bytesFor_32 : decode cM_bytesFor 32 = .ok (.invokestatic 88, 3) := by decide +kernel
theorem dM_bytesFor_35 : decode cM_bytesFor 35 = .ok (.iadd, 1) := by decide +kernel
theorem dM_bytesFor_36 : decode cM_bytesFor 36 = .ok (.istore_n 3, 1) := by decide +kernel
theorem dM_bytesFor_37 : decode cM_bytesFor 37 = .ok (.iinc 4 1, 3) := by decide +kernel
theorem dM_bytesFor_40 : decode cM_bytesFor 40 = .ok (.goto (-34), 3) := by decide +kernel
theorem dM_bytesFor_43 : decode cM_bytesFor 43 = .ok (.aload_n 0, 1) := by decide +kernel
theorem dM_bytesFor_44 : decode cM_bytesFor 44 = .ok (.getfield 44, 3) := by decide +kernel
theorem dM_bytesFor_47 : decode cM_bytesFor 47 = .ok (.sipush 140, 3) := by decide +kernel
theorem dM_bytesFor_50 : decode cM_bytesFor 50 = .ok (.baload, 1) := by decide +kernel
theorem dM_bytesFor_51 : decode cM_bytesFor 51 = .ok (.ifCond .eq 9, 3) := by decide +kernel
theorem dM_bytesFor_54 : decode cM_bytesFor 54 = .ok (.iload_n 3, 1) := by decide +kernel
theorem dM_bytesFor_55 : decode cM_bytesFor 55 = .ok (.iconst 5, 1) := by decide +kernel
theorem dM_bytesFor_56 : decode cM_bytesFor 56 = .ok (.iadd, 1) := by decide +kernel
theorem dM_bytesFor_57 : decode cM_bytesFor 57 = .ok (.goto 4, 3) := by decide +kernel
theorem dM_bytesFor_60 : decode cM_bytesFor 60 = .ok (.iload_n 3, 1) := by decide +kernel
theorem dM_bytesFor_61 : decode cM_bytesFor 61 = .ok (.istore_n 3, 1) := by decide +kernel
theorem dM_bytesFor_62 : decode cM_bytesFor 62 = .ok (.aload_n 0, 1) := by decide +kernel
theorem dM_bytesFor_63 : decode cM_bytesFor 63 = .ok (.getfield 44, 3) := by decide +kernel
theorem dM_bytesFor_66 : decode cM_bytesFor 66 = .ok (.sipush 141, 3) := by decide +kernel
theorem dM_bytesFor_69 : decode cM_bytesFor 69 = .ok (.baload, 1) := by decide +kernel
theorem dM_bytesFor_70 : decode cM_bytesFor 70 = .ok (.ifCond .eq 14, 3) := by decide +kernel
theorem dM_bytesFor_73 : decode cM_bytesFor 73 = .ok (.iload_n 1, 1) := by decide +kernel
theorem dM_bytesFor_74 : decode cM_bytesFor 74 = .ok (.iconst 2, 1) := by decide +kernel
theorem dM_bytesFor_75 : decode cM_bytesFor 75 = .ok (.if_icmp .ge 9, 3) := by decide +kernel
theorem dM_bytesFor_78 : decode cM_bytesFor 78 = .ok (.iload_n 3, 1) := by decide +kernel
theorem dM_bytesFor_79 : decode cM_bytesFor 79 = .ok (.iconst 5, 1) := by decide +kernel
theorem dM_bytesFor_80 : decode cM_bytesFor 80 = .ok (.iadd, 1) := by decide +kernel
theorem dM_bytesFor_81 : decode cM_bytesFor 81 = .ok (.goto 4, 3) := by decide +kernel
theorem dM_bytesFor_84 : decode cM_bytesFor 84 = .ok (.iload_n 3, 1) := by decide +kernel
theorem dM_bytesFor_85 : decode cM_bytesFor 85 = .ok (.istore_n 3, 1) := by decide +kernel
theorem dM_bytesFor_86 : decode cM_bytesFor 86 = .ok (.aload_n 0, 1) := by decide +kernel
theorem dM_bytesFor_87 : decode cM_bytesFor 87 = .ok (.getfield 50, 3) := by decide +kernel
theorem dM_bytesFor_90 : decode cM_bytesFor 90 = .ok (.bipush 70, 2) := by decide +kernel
theorem dM_bytesFor_92 : decode cM_bytesFor 92 = .ok (.baload, 1) := by decide +kernel
theorem dM_bytesFor_93 : decode cM_bytesFor 93 = .ok (.ifCond .eq 11, 3) := by decide +kernel
theorem dM_bytesFor_96 : decode cM_bytesFor 96 = .ok (.iload_n 3, 1) := by decide +kernel
theorem dM_bytesFor_97 : decode cM_bytesFor 97 = .ok (.iconst 1, 1) := by decide +kernel
theorem dM_bytesFor_98 : decode cM_bytesFor 98 = .ok (.iadd, 1) := by decide +kernel
theorem dM_bytesFor_99 : decode cM_bytesFor 99 = .ok (.iload_n 2, 1) := by decide +kernel
theorem dM_bytesFor_100 : decode cM_bytesFor 100 = .ok (.iadd, 1) := by decide +kernel
theorem dM_bytesFor_101 : decode cM_bytesFor 101 = .ok (.goto 4, 3) := by decide +kernel
theorem dM_bytesFor_104 : decode cM_bytesFor 104 = .ok (.iload_n 3, 1) := by decide +kernel
theorem dM_bytesFor_105 : decode cM_bytesFor 105 = .ok (.ireturn, 1) := by decide +kernel
theorem dM_makeRoom_0 : decode cM_makeRoom 0 = .ok (.iconst 1, 1) := by decide +kernel
theorem dM_makeRoom_1 : decode cM_makeRoom 1 = .ok (.istore_n 3, 1) := by decide +kernel
theorem dM_makeRoom_2 : decode cM_makeRoom 2 = .ok (.iload_n 3, 1) := by decide +kernel
theorem dM_makeRoom_3 : decode cM_makeRoom 3 = .ok (.ifCond .eq 131, 3) := by decide +kernel
theorem dM_makeRoom_6 : decode cM_makeRoom 6 = .ok (.aload_n 0, 1) := by decide +kernel
theorem dM_makeRoom_7 : decode cM_makeRoom 7 = .ok (.iload_n 1, 1) := by decide +kernel
theorem dM_makeRoom_8 : decode cM_makeRoom 8 = .ok (.invokevirtual 119, 3) := by decide +kernel
theorem dM_makeRoom_11 : decode cM_makeRoom 11 = .ok (.iload_n 2, 1) := by decide +kernel
theorem dM_makeRoom_12 : decode cM_makeRoom 12 = .ok (.if_icmp .ge 122, 3) := by decide +kernel
theorem dM_makeRoom_15 : decode cM_makeRoom 15 = .ok (.iconst (-1), 1) := by decide +kernel
theorem dM_makeRoom_16 : decode cM_makeRoom 16 = .ok (.istore 4, 2) := by decide +kernel
theorem dM_makeRoom_18 : decode cM_makeRoom 18 = .ok (.iload_n 1, 1) := by decide +kernel
theorem dM_makeRoom_19 : decode cM_makeRoom 19 = .ok (.invokestatic 112, 3) := by decide +kernel
theorem dM_makeRoom_22 : decode cM_makeRoom 22 = .ok (.istore 5, 2) := by decide +kernel
theorem dM_makeRoom_24 : decode cM_makeRoom 24 = .ok (.iload 5, 2) := by decide +kernel
theorem dM_makeRoom_26 : decode cM_makeRoom 26 = .ok (.iload_n 1, 1) := by decide +kernel
theorem dM_makeRoom_27 : decode cM_makeRoom 27 = .ok (.invokestatic 116, 3) := by decide +kernel
theorem dM_makeRoom_30 : decode cM_makeRoom 30 = .ok (.if_icmp .ge 80, 3) := by decide +kernel
theorem dM_makeRoom_33 : decode cM_makeRoom 33 = .ok (.aload_n 0, 1) := by decide +kernel
theorem dM_makeRoom_34 : decode cM_makeRoom 34 = .ok (.getfield 28, 3) := by decide +kernel
theorem dM_makeRoom_37 : decode cM_makeRoom 37 = .ok (.iload 5, 2) := by decide +kernel
theorem dM_makeRoom_39 : decode cM_makeRoom 39 = .ok (.iaload, 1) := by decide +kernel
theorem dM_makeRoom_40 : decode cM_makeRoom 40 = .ok (.ifCond .lt 25, 3) := by decide +kernel
theorem dM_makeRoom_43 : decode cM_makeRoom 43 = .ok (.iload_n 1, 1) := by decide +kernel
theorem dM_makeRoom_44 : decode cM_makeRoom 44 = .ok (.ifCond .gt 17, 3) := by decide +kernel
theorem dM_makeRoom_47 : decode cM_makeRoom 47 = .ok (.aload_n 0, 1) := by decide +kernel
theorem dM_makeRoom_48 : decode cM_makeRoom 48 = .ok (.aload_n 0, 1) := by decide +kernel
theorem dM_makeRoom_49 : decode cM_makeRoom 49 = .ok (.getfield 28, 3) := by decide +kernel
theorem dM_makeRoom_52 : decode cM_makeRoom 52 = .ok (.iload 5, 2) := by decide +kernel
theorem dM_makeRoom_54 : decode cM_makeRoom 54 = .ok (.iaload, 1) := by decide +kernel
theorem dM_makeRoom_55 : decode cM_makeRoom 55 = .ok (.invokevirtual 122, 3) := by decide +kernel
theorem dM_makeRoom_58 : decode cM_makeRoom 58 = .ok (.ifCond .ne 7, 3) := by decide +kernel
theorem dM_makeRoom_61 : decode cM_makeRoom 61 = .ok (.iconst 1, 1) := by decide +kernel
theorem dM_makeRoom_62 : decode cM_makeRoom 62 = .ok (.goto 4, 3) := by decide +kernel
theorem dM_makeRoom_65 : decode cM_makeRoom 65 = .ok (.iconst 0, 1) := by decide +kernel
theorem dM_makeRoom_66 : decode cM_makeRoom 66 = .ok (.istore 6, 2) := by decide +kernel
theorem dM_makeRoom_68 : decode cM_makeRoom 68 = .ok (.iload 6, 2) := by decide +kernel
theorem dM_makeRoom_70 : decode cM_makeRoom 70 = .ok (.ifCond .eq 30, 3) := by decide +kernel
theorem dM_makeRoom_73 : decode cM_makeRoom 73 = .ok (.iload 4, 2) := by decide +kernel
theorem dM_makeRoom_75 : decode cM_makeRoom 75 = .ok (.ifCond .lt 20, 3) := by decide +kernel
theorem dM_makeRoom_78 : decode cM_makeRoom 78 = .ok (.aload_n 0, 1) := by decide +kernel
theorem dM_makeRoom_79 : decode cM_makeRoom 79 = .ok (.getfield 28, 3) := by decide +kernel
theorem dM_makeRoom_82 : decode cM_makeRoom 82 = .ok (.iload 5, 2) := by decide +kernel
theorem dM_makeRoom_84 : decode cM_makeRoom 84 = .ok (.iaload, 1) := by decide +kernel
theorem dM_makeRoom_85 : decode cM_makeRoom 85 = .ok (.aload_n 0, 1) := by decide +kernel
theorem dM_makeRoom_86 : decode cM_makeRoom 86 = .ok (.getfield 28, 3) := by decide +kernel
theorem dM_makeRoom_89 : decode cM_makeRoom 89 = .ok (.iload 4, 2) := by decide +kernel
theorem dM_makeRoom_91 : decode cM_makeRoom 91 = .ok (.iaload, 1) := by decide +kernel
theorem dM_makeRoom_92 : decode cM_makeRoom 92 = .ok (.if_icmp .ge 8, 3) := by decide +kernel
theorem dM_makeRoom_95 : decode cM_makeRoom 95 = .ok (.iload 5, 2) := by decide +kernel
theorem dM_makeRoom_97 : decode cM_makeRoom 97 = .ok (.goto 5, 3) := by decide +kernel
theorem dM_makeRoom_100 : decode cM_makeRoom 100 = .ok (.iload 4, 2) := by decide +kernel
theorem dM_makeRoom_102 : decode cM_makeRoom 102 = .ok (.istore 4, 2) := by decide +kernel
theorem dM_makeRoom_104 : decode cM_makeRoom 104 = .ok (.iinc 5 1, 3) := by decide +kernel
theorem dM_makeRoom_107 : decode cM_makeRoom 107 = .ok (.goto (-83), 3) := by decide +kernel
theorem dM_makeRoom_110 : decode cM_makeRoom 110 = .ok (.iload 4, 2) := by decide +kernel
theorem dM_makeRoom_112 : decode cM_makeRoom 112 = .ok (.ifCond .lt 7, 3) := by decide +kernel
theorem dM_makeRoom_115 : decode cM_makeRoom 115 = .ok (.iconst 1, 1) := by decide +kernel
theorem dM_makeRoom_116 : decode cM_makeRoom 116 = .ok (.goto 4, 3) := by decide +kernel
theorem dM_makeRoom_119 : decode cM_makeRoom 119 = .ok (.iconst 0, 1) := by decide +kernel
theorem dM_makeRoom_120 : decode cM_makeRoom 120 = .ok (.istore_n 3, 1) := by decide +kernel
theorem dM_makeRoom_121 : decode cM_makeRoom 121 = .ok (.iload_n 3, 1) := by decide +kernel
theorem dM_makeRoom_122 : decode cM_makeRoom 122 = .ok (.ifCond .eq 9, 3) := by decide +kernel
theorem dM_makeRoom_125 : decode cM_makeRoom 125 = .ok (.aload_n 0, 1) := by decide +kernel
theorem dM_makeRoom_126 : decode cM_makeRoom 126 = .ok (.iload 4, 2) := by decide +kernel
theorem dM_makeRoom_128 : decode cM_makeRoom 128 = .ok (.invokevirtual 126, 3) := by decide +kernel
theorem dM_makeRoom_131 : decode cM_makeRoom 131 = .ok (.goto (-129), 3) := by decide +kernel
theorem dM_makeRoom_134 : decode cM_makeRoom 134 = .ok (.iload_n 3, 1) := by decide +kernel
theorem dM_makeRoom_135 : decode cM_makeRoom 135 = .ok (.ireturn, 1) := by decide +kernel
theorem dM_freePages_0 : decode cM_freePages 0 = .ok (.iconst 0, 1) := by decide +kernel
theorem dM_freePages_1 : decode cM_freePages 1 = .ok (.istore_n 2, 1) := by decide +kernel
theorem dM_freePages_2 : decode cM_freePages 2 = .ok (.iload_n 1, 1) := by decide +kernel
theorem dM_freePages_3 : decode cM_freePages 3 = .ok (.invokestatic 112, 3) := by decide +kernel
theorem dM_freePages_6 : decode cM_freePages 6 = .ok (.istore_n 3, 1) := by decide +kernel
theorem dM_freePages_7 : decode cM_freePages 7 = .ok (.iload_n 3, 1) := by decide +kernel
theorem dM_freePages_8 : decode cM_freePages 8 = .ok (.iload_n 1, 1) := by decide +kernel
theorem dM_freePages_9 : decode cM_freePages 9 = .ok (.invokestatic 116, 3) := by decide +kernel
theorem dM_freePages_12 : decode cM_freePages 12 = .ok (.if_icmp .ge 26, 3) := by decide +kernel
theorem dM_freePages_15 : decode cM_freePages 15 = .ok (.aload_n 0, 1) := by decide +kernel
theorem dM_freePages_16 : decode cM_freePages 16 = .ok (.getfield 21, 3) := by decide +kernel
theorem dM_freePages_19 : decode cM_freePages 19 = .ok (.iload_n 3, 1) := by decide +kernel
theorem dM_freePages_20 : decode cM_freePages 20 = .ok (.iaload, 1) := by decide +kernel
theorem dM_freePages_21 : decode cM_freePages 21 = .ok (.ifCond .ne 9, 3) := by decide +kernel
theorem dM_freePages_24 : decode cM_freePages 24 = .ok (.iload_n 2, 1) := by decide +kernel
theorem dM_freePages_25 : decode cM_freePages 25 = .ok (.iconst 1, 1) := by decide +kernel
theorem dM_freePages_26 : decode cM_freePages 26 = .ok (.iadd, 1) := by decide +kernel
theorem dM_freePages_27 : decode cM_freePages 27 = .ok (.goto 4, 3) := by decide +kernel
theorem dM_freePages_30 : decode cM_freePages 30 = .ok (.iload_n 2, 1) := by decide +kernel
theorem dM_freePages_31 : decode cM_freePages 31 = .ok (.istore_n 2, 1) := by decide +kernel
theorem dM_freePages_32 : decode cM_freePages 32 = .ok (.iinc 3 1, 3) := by decide +kernel
theorem dM_freePages_35 : decode cM_freePages 35 = .ok (.goto (-28), 3) := by decide +kernel
theorem dM_freePages_38 : decode cM_freePages 38 = .ok (.iload_n 2, 1) := by decide +kernel
theorem dM_freePages_39 : decode cM_freePages 39 = .ok (.ireturn, 1) := by decide +kernel
theorem dM_base_0 : decode cM_base 0 = .ok (.iload_n 0, 1) := by decide +kernel
theorem dM_base_1 : decode cM_base 1 = .ok (.ifCond .ne 7, 3) := by decide +kernel
theorem dM_base_4 : decode cM_base 4 = .ok (.iconst 0, 1) := by decide +kernel
theorem dM_base_5 : decode cM_base 5 = .ok (.goto 15, 3) := by decide +kernel
theorem dM_base_8 : decode cM_base 8 = .ok (.iload_n 0, 1) := by decide +kernel
theorem dM_base_9 : decode cM_base 9 = .ok (.iconst 1, 1) := by decide +kernel
theorem dM_base_10 : decode cM_base 10 = .ok (.if_icmp .ne 8, 3) := by decide +kernel
theorem dM_base_13 : decode cM_base 13 = .ok (.bipush 40, 2) := by decide +kernel
theorem dM_base_15 : decode cM_base 15 = .ok (.goto 5, 3) := by decide +kernel
theorem dM_base_18 : decode cM_base 18 = .ok (.bipush 60, 2) := by decide +kernel
theorem dM_base_20 : decode cM_base 20 = .ok (.ireturn, 1) := by decide +kernel
theorem dM_end_0 : decode cM_end 0 = .ok (.iload_n 0, 1) := by decide +kernel
theorem dM_end_1 : decode cM_end 1 = .ok (.ifCond .ne 8, 3) := by decide +kernel
theorem dM_end_4 : decode cM_end 4 = .ok (.bipush 40, 2) := by decide +kernel
theorem dM_end_6 : decode cM_end 6 = .ok (.goto 15, 3) := by decide +kernel
theorem dM_end_9 : decode cM_end 9 = .ok (.iload_n 0, 1) := by decide +kernel
theorem dM_end_10 : decode cM_end 10 = .ok (.iconst 1, 1) := by decide +kernel
theorem dM_end_11 : decode cM_end 11 = .ok (.if_icmp .ne 8, 3) := by decide +kernel
theorem dM_end_14 : decode cM_end 14 = .ok (.bipush 60, 2) := by decide +kernel
theorem dM_end_16 : decode cM_end 16 = .ok (.goto 5, 3) := by decide +kernel
theorem dM_end_19 : decode cM_end 19 = .ok (.bipush 70, 2) := by decide +kernel
theorem dM_end_21 : decode cM_end 21 = .ok (.ireturn, 1) := by decide +kernel
theorem dM_isFrozen_0 : decode cM_isFrozen 0 = .ok (.iconst 0, 1) := by decide +kernel
theorem dM_isFrozen_1 : decode cM_isFrozen 1 = .ok (.istore_n 2, 1) := by decide +kernel
theorem dM_isFrozen_2 : decode cM_isFrozen 2 = .ok (.iconst 0, 1) := by decide +kernel
theorem dM_isFrozen_3 : decode cM_isFrozen 3 = .ok (.istore_n 3, 1) := by decide +kernel
theorem dM_isFrozen_4 : decode cM_isFrozen 4 = .ok (.iload_n 3, 1) := by decide +kernel
theorem dM_isFrozen_5 : decode cM_isFrozen 5 = .ok (.iconst 3, 1) := by decide +kernel
theorem dM_isFrozen_6 : decode cM_isFrozen 6 = .ok (.if_icmp .ge 48, 3) := by decide +kernel
theorem dM_isFrozen_9 : decode cM_isFrozen 9 = .ok (.iload_n 2, 1) := by decide +kernel
theorem dM_isFrozen_10 : decode cM_isFrozen 10 = .ok (.ifCond .ne 32, 3) := by decide +kernel
theorem dM_isFrozen_13 : decode cM_isFrozen 13 = .ok (.aload_n 0, 1) := by decide +kernel
theorem dM_isFrozen_14 : decode cM_isFrozen 14 = .ok (.getfield 71, 3) := by decide +kernel
theorem dM_isFrozen_17 : decode cM_isFrozen 17 = .ok (.iload_n 3, 1) := by decide +kernel
theorem dM_isFrozen_18 : decode cM_isFrozen 18 = .ok (.baload, 1) := by decide +kernel
theorem dM_isFrozen_19 : decode cM_isFrozen 19 = .ok (.ifCond .eq 27, 3) := by decide +kernel
theorem dM_isFrozen_22 : decode cM_isFrozen 22 = .ok (.iload_n 1, 1) := by decide +kernel
theorem dM_isFrozen_23 : decode cM_isFrozen 23 = .ok (.aload_n 0, 1) := by decide +kernel
theorem dM_isFrozen_24 : decode cM_isFrozen 24 = .ok (.getfield 74, 3) := by decide +kernel
theorem dM_isFrozen_27 : decode cM_isFrozen 27 = .ok (.iload_n 3, 1) := by decide +kernel
theorem dM_isFrozen_28 : decode cM_isFrozen 28 = .ok (.iaload, 1) := by decide +kernel
theorem dM_isFrozen_29 : decode cM_isFrozen 29 = .ok (.if_icmp .lt 17, 3) := by decide +kernel
theorem dM_isFrozen_32 : decode cM_isFrozen 32 = .ok (.iload_n 1, 1) := by decide +kernel
theorem dM_isFrozen_33 : decode cM_isFrozen 33 = .ok (.aload_n 0, 1) := by decide +kernel
theorem dM_isFrozen_34 : decode cM_isFrozen 34 = .ok (.getfield 77, 3) := by decide +kernel
theorem dM_isFrozen_37 : decode cM_isFrozen 37 = .ok (.iload_n 3, 1) := by decide +kernel
theorem dM_isFrozen_38 : decode cM_isFrozen 38 = .ok (.iaload, 1) := by decide +kernel
theorem dM_isFrozen_39 : decode cM_isFrozen 39 = .ok (.if_icmp .gt 7, 3) := by decide +kernel
theorem dM_isFrozen_42 : decode cM_isFrozen 42 = .ok (.iconst 1, 1) := by decide +kernel
theorem dM_isFrozen_43 : decode cM_isFrozen 43 = .ok (.goto 4, 3) := by decide +kernel
theorem dM_isFrozen_46 : decode cM_isFrozen 46 = .ok (.iconst 0, 1) := by decide +kernel
theorem dM_isFrozen_47 : decode cM_isFrozen 47 = .ok (.istore_n 2, 1) := by decide +kernel
theorem dM_isFrozen_48 : decode cM_isFrozen 48 = .ok (.iinc 3 1, 3) := by decide +kernel
theorem dM_isFrozen_51 : decode cM_isFrozen 51 = .ok (.goto (-47), 3) := by decide +kernel
theorem dM_isFrozen_54 : decode cM_isFrozen 54 = .ok (.iload_n 2, 1) := by decide +kernel
theorem dM_isFrozen_55 : decode cM_isFrozen 55 = .ok (.ireturn, 1) := by decide +kernel
theorem dM_takeOut_0 : decode cM_takeOut 0 = .ok (.iconst 0, 1) := by decide +kernel
theorem dM_takeOut_1 : decode cM_takeOut 1 = .ok (.istore_n 2, 1) := by decide +kernel
theorem dM_takeOut_2 : decode cM_takeOut 2 = .ok (.iload_n 2, 1) := by decide +kernel
theorem dM_takeOut_3 : decode cM_takeOut 3 = .ok (.bipush 70, 2) := by decide +kernel
theorem dM_takeOut_5 : decode cM_takeOut 5 = .ok (.if_icmp .ge 37, 3) := by decide +kernel
theorem dM_takeOut_8 : decode cM_takeOut 8 = .ok (.aload_n 0, 1) := by decide +kernel
theorem dM_takeOut_9 : decode cM_takeOut 9 = .ok (.getfield 21, 3) := by decide +kernel
theorem dM_takeOut_12 : decode cM_takeOut 12 = .ok (.iload_n 2, 1) := by decide +kernel
theorem dM_takeOut_13 : decode cM_takeOut 13 = .ok (.aload_n 0, 1) := by decide +kernel
theorem dM_takeOut_14 : decode cM_takeOut 14 = .ok (.getfield 21, 3) := by decide +kernel
theorem dM_takeOut_17 : decode cM_takeOut 17 = .ok (.iload_n 2, 1) := by decide +kernel
theorem dM_takeOut_18 : decode cM_takeOut 18 = .ok (.iaload, 1) := by decide +kernel
theorem dM_takeOut_19 : decode cM_takeOut 19 = .ok (.iload_n 1, 1) := by decide +kernel
theorem dM_takeOut_20 : decode cM_takeOut 20 = .ok (.iconst 1, 1) := by decide +kernel
theorem dM_takeOut_21 : decode cM_takeOut 21 = .ok (.iadd, 1) := by decide +kernel
theorem dM_takeOut_22 : decode cM_takeOut 22 = .ok (.if_icmp .ne 7, 3) := by decide +kernel
theorem dM_takeOut_25 : decode cM_takeOut 25 = .ok (.iconst 0, 1) := by decide +kernel
theorem dM_takeOut_26 : decode cM_takeOut 26 = .ok (.goto 9, 3) := by decide +kernel
theorem dM_takeOut_29 : decode cM_takeOut 29 = .ok (.aload_n 0, 1) := by decide +kernel
theorem dM_takeOut_30 : decode cM_takeOut 30 = .ok (.getfield 21, 3) := by decide +kernel
theorem dM_takeOut_33 : decode cM_takeOut 33 = .ok (.iload_n 2, 1) := by decide +kernel
theorem dM_takeOut_34 : decode cM_takeOut 34 = .ok (.iaload, 1) := by decide +kernel
theorem dM_takeOut_35 : decode cM_takeOut 35 = .ok (.iastore, 1) := by decide +kernel
theorem dM_takeOut_36 : decode cM_takeOut 36 = .ok (.iinc 2 1, 3) := by decide +kernel
theorem dM_takeOut_39 : decode cM_takeOut 39 = .ok (.goto (-37), 3) := by decide +kernel
theorem dM_takeOut_42 : decode cM_takeOut 42 = .ok (.aload_n 0, 1) := by decide +kernel
theorem dM_takeOut_43 : decode cM_takeOut 43 = .ok (.getfield 28, 3) := by decide +kernel
theorem dM_takeOut_46 : decode cM_takeOut 46 = .ok (.iload_n 1, 1) := by decide +kernel
theorem dM_takeOut_47 : decode cM_takeOut 47 = .ok (.iconst (-1), 1) := by decide +kernel
theorem dM_takeOut_48 : decode cM_takeOut 48 = .ok (.iastore, 1) := by decide +kernel
theorem dM_takeOut_49 : decode cM_takeOut 49 = .ok (.return_, 1) := by decide +kernel
theorem dM_write_0 : decode cM_write 0 = .ok (.aload_n 0, 1) := by decide +kernel
theorem dM_write_1 : decode cM_write 1 = .ok (.iload_n 1, 1) := by decide +kernel
theorem dM_write_2 : decode cM_write 2 = .ok (.invokevirtual 130, 3) := by decide +kernel
theorem dM_write_5 : decode cM_write 5 = .ok (.istore_n 3, 1) := by decide +kernel
theorem dM_write_6 : decode cM_write 6 = .ok (.aload_n 0, 1) := by decide +kernel
theorem dM_write_7 : decode cM_write 7 = .ok (.bipush 70, 2) := by decide +kernel
theorem dM_write_9 : decode cM_write 9 = .ok (.iload_n 3, 1) := by decide +kernel
theorem dM_write_10 : decode cM_write 10 = .ok (.invokevirtual 133, 3) := by decide +kernel
theorem dM_write_13 : decode cM_write 13 = .ok (.aload_n 0, 1) := by decide +kernel
theorem dM_write_14 : decode cM_write 14 = .ok (.getfield 28, 3) := by decide +kernel
theorem dM_write_17 : decode cM_write 17 = .ok (.iload_n 3, 1) := by decide +kernel
theorem dM_write_18 : decode cM_write 18 = .ok (.aload_n 0, 1) := by decide +kernel
theorem dM_write_19 : decode cM_write 19 = .ok (.getfield 105, 3) := by decide +kernel
theorem dM_write_22 : decode cM_write 22 = .ok (.iastore, 1) := by decide +kernel
theorem dM_write_23 : decode cM_write 23 = .ok (.aload_n 0, 1) := by decide +kernel
theorem dM_write_24 : decode cM_write 24 = .ok (.getfield 31, 3) := by decide +kernel
theorem dM_write_27 : decode cM_write 27 = .ok (.iload_n 3, 1) := by decide +kernel
theorem dM_write_28 : decode cM_write 28 = .ok (.iload_n 2, 1) := by decide +kernel
theorem dM_write_29 : decode cM_write 29 = .ok (.iastore, 1) := by decide +kernel
theorem dM_write_30 : decode cM_write 30 = .ok (.iload_n 1, 1) := by decide +kernel
theorem dM_write_31 : decode cM_write 31 = .ok (.iconst 2, 1) := by decide +kernel
theorem dM_write_32 : decode cM_write 32 = .ok (.if_icmp .ne 43, 3) := by decide +kernel
theorem dM_write_35 : decode cM_write 35 = .ok (.aload_n 0, 1) := by decide +kernel
theorem dM_write_36 : decode cM_write 36 = .ok (.getfield 44, 3) := by decide +kernel
theorem dM_write_39 : decode cM_write 39 = .ok (.iconst 2, 1) := by decide +kernel
theorem dM_write_40 : decode cM_write 40 = .ok (.iload_n 3, 1) := by decide +kernel
theorem dM_write_41 : decode cM_write 41 = .ok (.imul, 1) := by decide +kernel
theorem dM_write_42 : decode cM_write 42 = .ok (.iconst 1, 1) := by decide +kernel
theorem dM_write_43 : decode cM_write 43 = .ok (.iadd, 1) := by decide +kernel
theorem dM_write_44 : decode cM_write 44 = .ok (.iconst 0, 1) := by decide +kernel
theorem dM_write_45 : decode cM_write 45 = .ok (.bastore, 1) := by decide +kernel
theorem dM_write_46 : decode cM_write 46 = .ok (.iconst 4, 1) := by decide +kernel
theorem dM_write_47 : decode cM_write 47 = .ok (.istore 4, 2) := by decide +kernel
theorem dM_write_49 : decode cM_write 49 = .ok (.iload 4, 2) := by decide +kernel
theorem dM_write_51 : decode cM_write 51 = .ok (.bipush 8, 2) := by decide +kernel
theorem dM_write_53 : decode cM_write 53 = .ok (.if_icmp .ge 22, 3) := by decide +kernel
theorem dM_write_56 : decode cM_write 56 = .ok (.aload_n 0, 1) := by decide +kernel
theorem dM_write_57 : decode cM_write 57 = .ok (.getfield 47, 3) := by decide +kernel
theorem dM_write_60 : decode cM_write 60 = .ok (.bipush 8, 2) := by decide +kernel
theorem dM_write_62 : decode cM_write 62 = .ok (.iload_n 3, 1) := by decide +kernel
theorem dM_write_63 : decode cM_write 63 = .ok (.imul, 1) := by decide +kernel
theorem dM_write_64 : decode cM_write 64 = .ok (.iload 4, 2) := by decide +kernel
theorem dM_write_66 : decode cM_write 66 = .ok (.iadd, 1) := by decide +kernel
theorem dM_write_67 : decode cM_write 67 = .ok (.iconst 0, 1) := by decide +kernel
theorem dM_write_68 : decode cM_write 68 = .ok (.iastore, 1) := by decide +kernel
theorem dM_write_69 : decode cM_write 69 = .ok (.iinc 4 1, 3) := by decide +kernel
theorem dM_write_72 : decode cM_write 72 = .ok (.goto (-23), 3) := by decide +kernel
theorem dM_write_75 : decode cM_write 75 = .ok (.iconst 0, 1) := by decide +kernel
theorem dM_write_76 : decode cM_write 76 = .ok (.istore 4, 2) := by decide +kernel
theorem dM_write_78 : decode cM_write 78 = .ok (.iload 4, 2) := by decide +kernel
theorem dM_write_80 : decode cM_write 80 = .ok (.iload_n 2, 1) := by decide +kernel
theorem dM_write_81 : decode cM_write 81 = .ok (.if_icmp .ge 90, 3) := by decide +kernel
theorem dM_write_84 : decode cM_write 84 = .ok (.aload_n 0, 1) := by decide +kernel
theorem dM_write_85 : decode cM_write 85 = .ok (.getfield 13, 3) := by decide +kernel
theorem dM_write_88 : decode cM_write 88 = .ok (.ifCond .ne 10, 3) := by decide +kernel
theorem dM_write_91 : decode cM_write 91 = .ok (.aload_n 0, 1) := by decide +kernel
theorem dM_write_92 : decode cM_write 92 = .ok (.iload_n 3, 1) := by decide +kernel
theorem dM_write_93 : decode cM_write 93 = .ok (.invokevirtual 126, 3) := by decide +kernel
theorem dM_write_96 : decode cM_write 96 = .ok (.iconst 0, 1) := by decide +kernel
theorem dM_write_97 : decode cM_write 97 = .ok (.ireturn, 1) := by decide +kernel
theorem dM_write_98 : decode cM_write 98 = .ok (.aload_n 0, 1) := by decide +kernel
theorem dM_write_99 : decode cM_write 99 = .ok (.aload_n 0, 1) := by decide +kernel
theorem dM_write_100 : decode cM_write 100 = .ok (.getfield 13, 3) := by decide +kernel
theorem dM_write_103 : decode cM_write 103 = .ok (.ifCond .le 12, 3) := by decide +kernel
theorem dM_write_106 : decode cM_write 106 = .ok (.aload_n 0, 1) := by decide +kernel
theorem dM_write_107 : decode cM_write 107 = .ok (.getfield 13, 3) := by decide +kernel
theorem dM_write_110 : decode cM_write 110 = .ok (.iconst 1, 1) := by decide +kernel
theorem dM_write_111 : decode cM_write 111 = .ok (.isub, 1) := by decide +kernel
theorem dM_write_112 : decode cM_write 112 = .ok (.goto 7, 3) := by decide +kernel
theorem dM_write_115 : decode cM_write 115 = .ok (.aload_n 0, 1) := by decide +kernel
theorem dM_write_116 : decode cM_write 116 = .ok (.getfield 13, 3) := by decide +kernel
theorem dM_write_119 : decode cM_write 119 = .ok (.putfield 13, 3) := by decide +kernel
theorem dM_write_122 : decode cM_write 122 = .ok (.iload_n 1, 1) := by decide +kernel
theorem dM_write_123 : decode cM_write 123 = .ok (.invokestatic 112, 3) := by decide +kernel
theorem dM_write_126 : decode cM_write 126 = .ok (.istore 5, 2) := by decide +kernel
theorem dM_write_128 : decode cM_write 128 = .ok (.aload_n 0, 1) := by decide +kernel
theorem dM_write_129 : decode cM_write 129 = .ok (.getfield 21, 3) := by decide +kernel
theorem dM_write_132 : decode cM_write 132 = .ok (.iload 5, 2) := by decide +kernel
theorem dM_write_134 : decode cM_write 134 = .ok (.iaload, 1) := by decide +kernel
theorem dM_write_135 : decode cM_write 135 = .ok (.ifCond .le 12, 3) := by decide +kernel
theorem dM_write_138 : decode cM_write 138 = .ok (.iload 5, 2) := by decide +kernel
theorem dM_write_140 : decode cM_write 140 = .ok (.iconst 1, 1) := by decide +kernel
theorem dM_write_141 : decode cM_write 141 = .ok (.iadd, 1) := by decide +kernel
theorem dM_write_142 : decode cM_write 142 = .ok (.istore 5, 2) := by decide +kernel
theorem dM_write_144 : decode cM_write 144 = .ok (.goto (-16), 3) := by decide +kernel
theorem dM_write_147 : decode cM_write 147 = .ok (.aload_n 0, 1) := by decide +kernel
theorem dM_write_148 : decode cM_write 148 = .ok (.getfield 21, 3) := by decide +kernel
theorem dM_write_151 : decode cM_write 151 = .ok (.iload 5, 2) := by decide +kernel
theorem dM_write_153 : decode cM_write 153 = .ok (.iload_n 3, 1) := by decide +kernel
theorem dM_write_154 : decode cM_write 154 = .ok (.iconst 1, 1) := by decide +kernel
theorem dM_write_155 : decode cM_write 155 = .ok (.iadd, 1) := by decide +kernel
theorem dM_write_156 : decode cM_write 156 = .ok (.iastore, 1) := by decide +kernel
theorem dM_write_157 : decode cM_write 157 = .ok (.aload_n 0, 1) := by decide +kernel
theorem dM_write_158 : decode cM_write 158 = .ok (.getfield 25, 3) := by decide +kernel
theorem dM_write_161 : decode cM_write 161 = .ok (.iload 5, 2) := by decide +kernel
theorem dM_write_163 : decode cM_write 163 = .ok (.iconst 0, 1) := by decide +kernel
theorem dM_write_164 : decode cM_write 164 = .ok (.bastore, 1) := by decide +kernel
theorem dM_write_165 : decode cM_write 165 = .ok (.iinc 4 1, 3) := by decide +kernel
theorem dM_write_168 : decode cM_write 168 = .ok (.goto (-90), 3) := by decide +kernel
theorem dM_write_171 : decode cM_write 171 = .ok (.iconst 1, 1) := by decide +kernel
theorem dM_write_172 : decode cM_write 172 = .ok (.ireturn, 1) := by decide +kernel
theorem dM_freeBundle_0 : decode cM_freeBundle 0 = .ok (.iload_n 1, 1) := by decide +kernel
theorem dM_freeBundle_1 : decode cM_freeBundle 1 = .ok (.invokestatic 112, 3) := by decide +kernel
theorem dM_freeBundle_4 : decode cM_freeBundle 4 = .ok (.istore_n 2, 1) := by decide +kernel
theorem dM_freeBundle_5 : decode cM_freeBundle 5 = .ok (.aload_n 0, 1) := by decide +kernel
theorem dM_freeBundle_6 : decode cM_freeBundle 6 = .ok (.getfield 28, 3) := by decide +kernel
theorem dM_freeBundle_9 : decode cM_freeBundle 9 = .ok (.iload_n 2, 1) := by decide +kernel
theorem dM_freeBundle_10 : decode cM_freeBundle 10 = .ok (.iaload, 1) := by decide +kernel
theorem dM_freeBundle_11 : decode cM_freeBundle 11 = .ok (.ifCond .lt 10, 3) := by decide +kernel
theorem dM_freeBundle_14 : decode cM_freeBundle 14 = .ok (.iload_n 2, 1) := by decide +kernel
theorem dM_freeBundle_15 : decode cM_freeBundle 15 = .ok (.iconst 1, 1) := by decide +kernel
theorem dM_freeBundle_16 : decode cM_freeBundle 16 = .ok (.iadd, 1) := by decide +kernel
theorem dM_freeBundle_17 : decode cM_freeBundle 17 = .ok (.istore_n 2, 1) := by decide +kernel
theorem dM_freeBundle_18 : decode cM_freeBundle 18 = .ok (.goto (-13), 3) := by decide +kernel
theorem dM_freeBundle_21 : decode cM_freeBundle 21 = .ok (.iload_n 2, 1) := by decide +kernel
theorem dM_freeBundle_22 : decode cM_freeBundle 22 = .ok (.ireturn, 1) := by decide +kernel
theorem dM_copyBundle_0 : decode cM_copyBundle 0 = .ok (.aload_n 0, 1) := by decide +kernel
theorem dM_copyBundle_1 : decode cM_copyBundle 1 = .ok (.getfield 28, 3) := by decide +kernel
theorem dM_copyBundle_4 : decode cM_copyBundle 4 = .ok (.iload_n 2, 1) := by decide +kernel
theorem dM_copyBundle_5 : decode cM_copyBundle 5 = .ok (.aload_n 0, 1) := by decide +kernel
theorem dM_copyBundle_6 : decode cM_copyBundle 6 = .ok (.getfield 28, 3) := by decide +kernel
theorem dM_copyBundle_9 : decode cM_copyBundle 9 = .ok (.iload_n 1, 1) := by decide +kernel
theorem dM_copyBundle_10 : decode cM_copyBundle 10 = .ok (.iaload, 1) := by decide +kernel
theorem dM_copyBundle_11 : decode cM_copyBundle 11 = .ok (.iastore, 1) := by decide +kernel
theorem dM_copyBundle_12 : decode cM_copyBundle 12 = .ok (.aload_n 0, 1) := by decide +kernel
theorem dM_copyBundle_13 : decode cM_copyBundle 13 = .ok (.getfield 31, 3) := by decide +kernel
theorem dM_copyBundle_16 : decode cM_copyBundle 16 = .ok (.iload_n 2, 1) := by decide +kernel
theorem dM_copyBundle_17 : decode cM_copyBundle 17 = .ok (.aload_n 0, 1) := by decide +kernel
theorem dM_copyBundle_18 : decode cM_copyBundle 18 = .ok (.getfield 31, 3) := by decide +kernel
theorem dM_copyBundle_21 : decode cM_copyBundle 21 = .ok (.iload_n 1, 1) := by decide +kernel
theorem dM_copyBundle_22 : decode cM_copyBundle 22 = .ok (.iaload, 1) := by decide +kernel
theorem dM_copyBundle_23 : decode cM_copyBundle 23 = .ok (.iastore, 1) := by decide +kernel
theorem dM_copyBundle_24 : decode cM_copyBundle 24 = .ok (.aload_n 0, 1) := by decide +kernel
theorem dM_copyBundle_25 : decode cM_copyBundle 25 = .ok (.getfield 34, 3) := by decide +kernel
theorem dM_copyBundle_28 : decode cM_copyBundle 28 = .ok (.iload_n 2, 1) := by decide +kernel
theorem dM_copyBundle_29 : decode cM_copyBundle 29 = .ok (.aload_n 0, 1) := by decide +kernel
theorem dM_copyBundle_30 : decode cM_copyBundle 30 = .ok (.getfield 34, 3) := by decide +kernel
theorem dM_copyBundle_33 : decode cM_copyBundle 33 = .ok (.iload_n 1, 1) := by decide +kernel
theorem dM_copyBundle_34 : decode cM_copyBundle 34 = .ok (.iaload, 1) := by decide +kernel
theorem dM_copyBundle_35 : decode cM_copyBundle 35 = .ok (.iastore, 1) := by decide +kernel
theorem dM_copyBundle_36 : decode cM_copyBundle 36 = .ok (.aload_n 0, 1) := by decide +kernel
theorem dM_copyBundle_37 : decode cM_copyBundle 37 = .ok (.getfield 50, 3) := by decide +kernel
theorem dM_copyBundle_40 : decode cM_copyBundle 40 = .ok (.iload_n 2, 1) := by decide +kernel
theorem dM_copyBundle_41 : decode cM_copyBundle 41 = .ok (.aload_n 0, 1) := by decide +kernel
theorem dM_copyBundle_42 : decode cM_copyBundle 42 = .ok (.getfield 50, 3) := by decide +kernel
theorem dM_copyBundle_45 : decode cM_copyBundle 45 = .ok (.iload_n 1, 1) := by decide +kernel
theorem dM_copyBundle_46 : decode cM_copyBundle 46 = .ok (.baload, 1) := by decide +kernel
theorem dM_copyBundle_47 : decode cM_copyBundle 47 = .ok (.bastore, 1) := by decide +kernel
theorem dM_copyBundle_48 : decode cM_copyBundle 48 = .ok (.aload_n 0, 1) := by decide +kernel
theorem dM_copyBundle_49 : decode cM_copyBundle 49 = .ok (.getfield 53, 3) := by decide +kernel
theorem dM_copyBundle_52 : decode cM_copyBundle 52 = .ok (.iload_n 2, 1) := by decide +kernel
theorem dM_copyBundle_53 : decode cM_copyBundle 53 = .ok (.aload_n 0, 1) := by decide +kernel
theorem dM_copyBundle_54 : decode cM_copyBundle 54 = .ok (.getfield 53, 3) := by decide +kernel
theorem dM_copyBundle_57 : decode cM_copyBundle 57 = .ok (.iload_n 1, 1) := by decide +kernel
theorem dM_copyBundle_58 : decode cM_copyBundle 58 = .ok (.iaload, 1) := by decide +kernel
theorem dM_copyBundle_59 : decode cM_copyBundle 59 = .ok (.iastore, 1) := by decide +kernel
theorem dM_copyBundle_60 : decode cM_copyBundle 60 = .ok (.aload_n 0, 1) := by decide +kernel
theorem dM_copyBundle_61 : decode cM_copyBundle 61 = .ok (.getfield 59, 3) := by decide +kernel
theorem dM_copyBundle_64 : decode cM_copyBundle 64 = .ok (.iload_n 2, 1) := by decide +kernel
theorem dM_copyBundle_65 : decode cM_copyBundle 65 = .ok (.aload_n 0, 1) := by decide +kernel
theorem dM_copyBundle_66 : decode cM_copyBundle 66 = .ok (.getfield 59, 3) := by decide +kernel
theorem dM_copyBundle_69 : decode cM_copyBundle 69 = .ok (.iload_n 1, 1) := by decide +kernel
theorem dM_copyBundle_70 : decode cM_copyBundle 70 = .ok (.iaload, 1) := by decide +kernel
theorem dM_copyBundle_71 : decode cM_copyBundle 71 = .ok (.iastore, 1) := by decide +kernel
theorem dM_copyBundle_72 : decode cM_copyBundle 72 = .ok (.iconst 0, 1) := by decide +kernel
theorem dM_copyBundle_73 : decode cM_copyBundle 73 = .ok (.istore_n 3, 1) := by decide +kernel
theorem dM_copyBundle_74 : decode cM_copyBundle 74 = .ok (.iload_n 3, 1) := by decide +kernel
theorem dM_copyBundle_75 : decode cM_copyBundle 75 = .ok (.bipush 8, 2) := by decide +kernel
theorem dM_copyBundle_77 : decode cM_copyBundle 77 = .ok (.if_icmp .ge 53, 3) := by decide +kernel
theorem dM_copyBundle_80 : decode cM_copyBundle 80 = .ok (.aload_n 0, 1) := by decide +kernel
theorem dM_copyBundle_81 : decode cM_copyBundle 81 = .ok (.getfield 56, 3) := by decide +kernel
theorem dM_copyBundle_84 : decode cM_copyBundle 84 = .ok (.bipush 8, 2) := by decide +kernel
theorem dM_copyBundle_86 : decode cM_copyBundle 86 = .ok (.iload_n 2, 1) := by decide +kernel
theorem dM_copyBundle_87 : decode cM_copyBundle 87 = .ok (.imul, 1) := by decide +kernel
theorem dM_copyBundle_88 : decode cM_copyBundle 88 = .ok (.iload_n 3, 1) := by decide +kernel
theorem dM_copyBundle_89 : decode cM_copyBundle 89 = .ok (.iadd, 1) := by decide +kernel
theorem dM_copyBundle_90 : decode cM_copyBundle 90 = .ok (.aload_n 0, 1) := by decide +kernel
theorem dM_copyBundle_91 : decode cM_copyBundle 91 = .ok (.getfield 56, 3) := by decide +kernel
theorem dM_copyBundle_94 : decode cM_copyBundle 94 = .ok (.bipush 8, 2) := by decide +kernel
theorem dM_copyBundle_96 : decode cM_copyBundle 96 = .ok (.iload_n 1, 1) := by decide +kernel
theorem dM_copyBundle_97 : decode cM_copyBundle 97 = .ok (.imul, 1) := by decide +kernel
theorem dM_copyBundle_98 : decode cM_copyBundle 98 = .ok (.iload_n 3, 1) := by decide +kernel
theorem dM_copyBundle_99 : decode cM_copyBundle 99 = .ok (.iadd, 1) := by decide +kernel
theorem dM_copyBundle_100 : decode cM_copyBundle 100 = .ok (.iaload, 1) := by decide +kernel
theorem dM_copyBundle_101 : decode cM_copyBundle 101 = .ok (.iastore, 1) := by decide +kernel
theorem dM_copyBundle_102 : decode cM_copyBundle 102 = .ok (.aload_n 0, 1) := by decide +kernel
theorem dM_copyBundle_103 : decode cM_copyBundle 103 = .ok (.getfield 47, 3) := by decide +kernel
theorem dM_copyBundle_106 : decode cM_copyBundle 106 = .ok (.bipush 8, 2) := by decide +kernel
theorem dM_copyBundle_108 : decode cM_copyBundle 108 = .ok (.iload_n 2, 1) := by decide +kernel
theorem dM_copyBundle_109 : decode cM_copyBundle 109 = .ok (.imul, 1) := by decide +kernel
theorem dM_copyBundle_110 : decode cM_copyBundle 110 = .ok (.iload_n 3, 1) := by decide +kernel
theorem dM_copyBundle_111 : decode cM_copyBundle 111 = .ok (.iadd, 1) := by decide +kernel
theorem dM_copyBundle_112 : decode cM_copyBundle 112 = .ok (.aload_n 0, 1) := by decide +kernel
theorem dM_copyBundle_113 : decode cM_copyBundle 113 = .ok (.getfield 47, 3) := by decide +kernel
theorem dM_copyBundle_116 : decode cM_copyBundle 116 = .ok (.bipush 8, 2) := by decide +kernel
theorem dM_copyBundle_118 : decode cM_copyBundle 118 = .ok (.iload_n 1, 1) := by decide +kernel
theorem dM_copyBundle_119 : decode cM_copyBundle 119 = .ok (.imul, 1) := by decide +kernel
theorem dM_copyBundle_120 : decode cM_copyBundle 120 = .ok (.iload_n 3, 1) := by decide +kernel
theorem dM_copyBundle_121 : decode cM_copyBundle 121 = .ok (.iadd, 1) := by decide +kernel
theorem dM_copyBundle_122 : decode cM_copyBundle 122 = .ok (.iaload, 1) := by decide +kernel
theorem dM_copyBundle_123 : decode cM_copyBundle 123 = .ok (.iastore, 1) := by decide +kernel
theorem dM_copyBundle_124 : decode cM_copyBundle 124 = .ok (.iinc 3 1, 3) := by decide +kernel
theorem dM_copyBundle_127 : decode cM_copyBundle 127 = .ok (.goto (-53), 3) := by decide +kernel
theorem dM_copyBundle_130 : decode cM_copyBundle 130 = .ok (.iconst 0, 1) := by decide +kernel
theorem dM_copyBundle_131 : decode cM_copyBundle 131 = .ok (.istore_n 3, 1) := by decide +kernel
theorem dM_copyBundle_132 : decode cM_copyBundle 132 = .ok (.iload_n 3, 1) := by decide +kernel
theorem dM_copyBundle_133 : decode cM_copyBundle 133 = .ok (.iconst 4, 1) := by decide +kernel
theorem dM_copyBundle_134 : decode cM_copyBundle 134 = .ok (.if_icmp .ge 49, 3) := by decide +kernel
theorem dM_copyBundle_137 : decode cM_copyBundle 137 = .ok (.aload_n 0, 1) := by decide +kernel
theorem dM_copyBundle_138 : decode cM_copyBundle 138 = .ok (.getfield 37, 3) := by decide +kernel
theorem dM_copyBundle_141 : decode cM_copyBundle 141 = .ok (.iconst 4, 1) := by decide +kernel
theorem dM_copyBundle_142 : decode cM_copyBundle 142 = .ok (.iload_n 2, 1) := by decide +kernel
theorem dM_copyBundle_143 : decode cM_copyBundle 143 = .ok (.imul, 1) := by decide +kernel
theorem dM_copyBundle_144 : decode cM_copyBundle 144 = .ok (.iload_n 3, 1) := by decide +kernel
theorem dM_copyBundle_145 : decode cM_copyBundle 145 = .ok (.iadd, 1) := by decide +kernel
theorem dM_copyBundle_146 : decode cM_copyBundle 146 = .ok (.aload_n 0, 1) := by decide +kernel
theorem dM_copyBundle_147 : decode cM_copyBundle 147 = .ok (.getfield 37, 3) := by decide +kernel
theorem dM_copyBundle_150 : decode cM_copyBundle 150 = .ok (.iconst 4, 1) := by decide +kernel
theorem dM_copyBundle_151 : decode cM_copyBundle 151 = .ok (.iload_n 1, 1) := by decide +kernel
theorem dM_copyBundle_152 : decode cM_copyBundle 152 = .ok (.imul, 1) := by decide +kernel
theorem dM_copyBundle_153 : decode cM_copyBundle 153 = .ok (.iload_n 3, 1) := by decide +kernel
theorem dM_copyBundle_154 : decode cM_copyBundle 154 = .ok (.iadd, 1) := by decide +kernel
theorem dM_copyBundle_155 : decode cM_copyBundle 155 = .ok (.iaload, 1) := by decide +kernel
theorem dM_copyBundle_156 : decode cM_copyBundle 156 = .ok (.iastore, 1) := by decide +kernel
theorem dM_copyBundle_157 : decode cM_copyBundle 157 = .ok (.aload_n 0, 1) := by decide +kernel
theorem dM_copyBundle_158 : decode cM_copyBundle 158 = .ok (.getfield 40, 3) := by decide +kernel
theorem dM_copyBundle_161 : decode cM_copyBundle 161 = .ok (.iconst 4, 1) := by decide +kernel
theorem dM_copyBundle_162 : decode cM_copyBundle 162 = .ok (.iload_n 2, 1) := by decide +kernel
theorem dM_copyBundle_163 : decode cM_copyBundle 163 = .ok (.imul, 1) := by decide +kernel
theorem dM_copyBundle_164 : decode cM_copyBundle 164 = .ok (.iload_n 3, 1) := by decide +kernel
theorem dM_copyBundle_165 : decode cM_copyBundle 165 = .ok (.iadd, 1) := by decide +kernel
theorem dM_copyBundle_166 : decode cM_copyBundle 166 = .ok (.aload_n 0, 1) := by decide +kernel
theorem dM_copyBundle_167 : decode cM_copyBundle 167 = .ok (.getfield 40, 3) := by decide +kernel
theorem dM_copyBundle_170 : decode cM_copyBundle 170 = .ok (.iconst 4, 1) := by decide +kernel
theorem dM_copyBundle_171 : decode cM_copyBundle 171 = .ok (.iload_n 1, 1) := by decide +kernel
theorem dM_copyBundle_172 : decode cM_copyBundle 172 = .ok (.imul, 1) := by decide +kernel
theorem dM_copyBundle_173 : decode cM_copyBundle 173 = .ok (.iload_n 3, 1) := by decide +kernel
theorem dM_copyBundle_174 : decode cM_copyBundle 174 = .ok (.iadd, 1) := by decide +kernel
theorem dM_copyBundle_175 : decode cM_copyBundle 175 = .ok (.laload, 1) := by decide +kernel
theorem dM_copyBundle_176 : decode cM_copyBundle 176 = .ok (.lastore, 1) := by decide +kernel
theorem dM_copyBundle_177 : decode cM_copyBundle 177 = .ok (.iinc 3 1, 3) := by decide +kernel
theorem dM_copyBundle_180 : decode cM_copyBundle 180 = .ok (.goto (-48), 3) := by decide +kernel
theorem dM_copyBundle_183 : decode cM_copyBundle 183 = .ok (.aload_n 0, 1) := by decide +kernel
theorem dM_copyBundle_184 : decode cM_copyBundle 184 = .ok (.getfield 44, 3) := by decide +kernel
theorem dM_copyBundle_187 : decode cM_copyBundle 187 = .ok (.iconst 2, 1) := by decide +kernel
theorem dM_copyBundle_188 : decode cM_copyBundle 188 = .ok (.iload_n 2, 1) := by decide +kernel
theorem dM_copyBundle_189 : decode cM_copyBundle 189 = .ok (.imul, 1) := by decide +kernel
theorem dM_copyBundle_190 : decode cM_copyBundle 190 = .ok (.aload_n 0, 1) := by decide +kernel
theorem dM_copyBundle_191 : decode cM_copyBundle 191 = .ok (.getfield 44, 3) := by decide +kernel
theorem dM_copyBundle_194 : decode cM_copyBundle 194 = .ok (.iconst 2, 1) := by decide +kernel
theorem dM_copyBundle_195 : decode cM_copyBundle 195 = .ok (.iload_n 1, 1) := by decide +kernel
theorem dM_copyBundle_196 : decode cM_copyBundle 196 = .ok (.imul, 1) := by decide +kernel
theorem dM_copyBundle_197 : decode cM_copyBundle 197 = .ok (.baload, 1) := by decide +kernel
theorem dM_copyBundle_198 : decode cM_copyBundle 198 = .ok (.bastore, 1) := by decide +kernel
theorem dM_copyBundle_199 : decode cM_copyBundle 199 = .ok (.aload_n 0, 1) := by decide +kernel
theorem dM_copyBundle_200 : decode cM_copyBundle 200 = .ok (.getfield 44, 3) := by decide +kernel
theorem dM_copyBundle_203 : decode cM_copyBundle 203 = .ok (.iconst 2, 1) := by decide +kernel
theorem dM_copyBundle_204 : decode cM_copyBundle 204 = .ok (.iload_n 2, 1) := by decide +kernel
theorem dM_copyBundle_205 : decode cM_copyBundle 205 = .ok (.imul, 1) := by decide +kernel
theorem dM_copyBundle_206 : decode cM_copyBundle 206 = .ok (.iconst 1, 1) := by decide +kernel
theorem dM_copyBundle_207 : decode cM_copyBundle 207 = .ok (.iadd, 1) := by decide +kernel
theorem dM_copyBundle_208 : decode cM_copyBundle 208 = .ok (.aload_n 0, 1) := by decide +kernel
theorem dM_copyBundle_209 : decode cM_copyBundle 209 = .ok (.getfield 44, 3) := by decide +kernel
theorem dM_copyBundle_212 : decode cM_copyBundle 212 = .ok (.iconst 2, 1) := by decide +kernel
theorem dM_copyBundle_213 : decode cM_copyBundle 213 = .ok (.iload_n 1, 1) := by decide +kernel
theorem dM_copyBundle_214 : decode cM_copyBundle 214 = .ok (.imul, 1) := by decide +kernel
theorem dM_copyBundle_215 : decode cM_copyBundle 215 = .ok (.iconst 1, 1) := by decide +kernel
theorem dM_copyBundle_216 : decode cM_copyBundle 216 = .ok (.iadd, 1) := by decide +kernel
theorem dM_copyBundle_217 : decode cM_copyBundle 217 = .ok (.baload, 1) := by decide +kernel
theorem dM_copyBundle_218 : decode cM_copyBundle 218 = .ok (.bastore, 1) := by decide +kernel
theorem dM_copyBundle_219 : decode cM_copyBundle 219 = .ok (.return_, 1) := by decide +kernel
theorem dM_lose_0 : decode cM_lose 0 = .ok (.aload_n 0, 1) := by decide +kernel
theorem dM_lose_1 : decode cM_lose 1 = .ok (.iconst 0, 1) := by decide +kernel
theorem dM_lose_2 : decode cM_lose 2 = .ok (.putfield 7, 3) := by decide +kernel
theorem dM_lose_5 : decode cM_lose 5 = .ok (.aload_n 0, 1) := by decide +kernel
theorem dM_lose_6 : decode cM_lose 6 = .ok (.iconst (-1), 1) := by decide +kernel
theorem dM_lose_7 : decode cM_lose 7 = .ok (.putfield 13, 3) := by decide +kernel
theorem dM_lose_10 : decode cM_lose 10 = .ok (.aload_n 0, 1) := by decide +kernel
theorem dM_lose_11 : decode cM_lose 11 = .ok (.invokevirtual 137, 3) := by decide +kernel
theorem dM_lose_14 : decode cM_lose 14 = .ok (.aload_n 0, 1) := by decide +kernel
theorem dM_lose_15 : decode cM_lose 15 = .ok (.getfield 59, 3) := by decide +kernel
theorem dM_lose_18 : decode cM_lose 18 = .ok (.bipush 70, 2) := by decide +kernel
theorem dM_lose_20 : decode cM_lose 20 = .ok (.iconst 0, 1) := by decide +kernel
theorem dM_lose_21 : decode cM_lose 21 = .ok (.iastore, 1) := by decide +kernel
theorem dM_lose_22 : decode cM_lose 22 = .ok (.aload_n 0, 1) := by decide +kernel
theorem dM_lose_23 : decode cM_lose 23 = .ok (.iconst (-1), 1) := by decide +kernel
theorem dM_lose_24 : decode cM_lose 24 = .ok (.putfield 68, 3) := by decide +kernel
theorem dM_lose_27 : decode cM_lose 27 = .ok (.iconst 0, 1) := by decide +kernel
theorem dM_lose_28 : decode cM_lose 28 = .ok (.istore_n 1, 1) := by decide +kernel
theorem dM_lose_29 : decode cM_lose 29 = .ok (.iload_n 1, 1) := by decide +kernel
theorem dM_lose_30 : decode cM_lose 30 = .ok (.bipush 8, 2) := by decide +kernel
theorem dM_lose_32 : decode cM_lose 32 = .ok (.if_icmp .ge 16, 3) := by decide +kernel
theorem dM_lose_35 : decode cM_lose 35 = .ok (.aload_n 0, 1) := by decide +kernel
theorem dM_lose_36 : decode cM_lose 36 = .ok (.getfield 62, 3) := by decide +kernel
theorem dM_lose_39 : decode cM_lose 39 = .ok (.iload_n 1, 1) := by decide +kernel
theorem dM_lose_40 : decode cM_lose 40 = .ok (.iconst 0, 1) := by decide +kernel
theorem dM_lose_41 : decode cM_lose 41 = .ok (.iastore, 1) := by decide +kernel
theorem dM_lose_42 : decode cM_lose 42 = .ok (.iinc 1 1, 3) := by decide +kernel
theorem dM_lose_45 : decode cM_lose 45 = .ok (.goto (-16), 3) := by decide +kernel
theorem dM_lose_48 : decode cM_lose 48 = .ok (.return_, 1) := by decide +kernel
theorem dM_clear_0 : decode cM_clear 0 = .ok (.aload_n 0, 1) := by decide +kernel
theorem dM_clear_1 : decode cM_clear 1 = .ok (.getfield 34, 3) := by decide +kernel
theorem dM_clear_4 : decode cM_clear 4 = .ok (.bipush 70, 2) := by decide +kernel
theorem dM_clear_6 : decode cM_clear 6 = .ok (.iconst 0, 1) := by decide +kernel
theorem dM_clear_7 : decode cM_clear 7 = .ok (.iastore, 1) := by decide +kernel
theorem dM_clear_8 : decode cM_clear 8 = .ok (.aload_n 0, 1) := by decide +kernel
theorem dM_clear_9 : decode cM_clear 9 = .ok (.getfield 50, 3) := by decide +kernel
theorem dM_clear_12 : decode cM_clear 12 = .ok (.bipush 70, 2) := by decide +kernel
theorem dM_clear_14 : decode cM_clear 14 = .ok (.iconst 0, 1) := by decide +kernel
theorem dM_clear_15 : decode cM_clear 15 = .ok (.bastore, 1) := by decide +kernel
theorem dM_clear_16 : decode cM_clear 16 = .ok (.aload_n 0, 1) := by decide +kernel
theorem dM_clear_17 : decode cM_clear 17 = .ok (.getfield 44, 3) := by decide +kernel
theorem dM_clear_20 : decode cM_clear 20 = .ok (.sipush 140, 3) := by decide +kernel
theorem dM_clear_23 : decode cM_clear 23 = .ok (.iconst 0, 1) := by decide +kernel
theorem dM_clear_24 : decode cM_clear 24 = .ok (.bastore, 1) := by decide +kernel
theorem dM_clear_25 : decode cM_clear 25 = .ok (.aload_n 0, 1) := by decide +kernel
theorem dM_clear_26 : decode cM_clear 26 = .ok (.getfield 44, 3) := by decide +kernel
theorem dM_clear_29 : decode cM_clear 29 = .ok (.sipush 141, 3) := by decide +kernel
theorem dM_clear_32 : decode cM_clear 32 = .ok (.iconst 0, 1) := by decide +kernel
theorem dM_clear_33 : decode cM_clear 33 = .ok (.bastore, 1) := by decide +kernel
theorem dM_clear_34 : decode cM_clear 34 = .ok (.iconst 0, 1) := by decide +kernel
theorem dM_clear_35 : decode cM_clear 35 = .ok (.istore_n 1, 1) := by decide +kernel
theorem dM_clear_36 : decode cM_clear 36 = .ok (.iload_n 1, 1) := by decide +kernel
theorem dM_clear_37 : decode cM_clear 37 = .ok (.bipush 8, 2) := by decide +kernel
theorem dM_clear_39 : decode cM_clear 39 = .ok (.if_icmp .ge 20, 3) := by decide +kernel
theorem dM_clear_42 : decode cM_clear 42 = .ok (.aload_n 0, 1) := by decide +kernel
theorem dM_clear_43 : decode cM_clear 43 = .ok (.getfield 47, 3) := by decide +kernel
theorem dM_clear_46 : decode cM_clear 46 = .ok (.sipush 560, 3) := by decide +kernel
theorem dM_clear_49 : decode cM_clear 49 = .ok (.iload_n 1, 1) := by decide +kernel
theorem dM_clear_50 : decode cM_clear 50 = .ok (.iadd, 1) := by decide +kernel
theorem dM_clear_51 : decode cM_clear 51 = .ok (.iconst 0, 1) := by decide +kernel
theorem dM_clear_52 : decode cM_clear 52 = .ok (.iastore, 1) := by decide +kernel
theorem dM_clear_53 : decode cM_clear 53 = .ok (.iinc 1 1, 3) := by decide +kernel
theorem dM_clear_56 : decode cM_clear 56 = .ok (.goto (-20), 3) := by decide +kernel
theorem dM_clear_59 : decode cM_clear 59 = .ok (.return_, 1) := by decide +kernel
theorem dM_now_0 : decode cM_now 0 = .ok (.aload_n 0, 1) := by decide +kernel
theorem dM_now_1 : decode cM_now 1 = .ok (.iconst 0, 1) := by decide +kernel
theorem dM_now_2 : decode cM_now 2 = .ok (.putfield 83, 3) := by decide +kernel
theorem dM_now_5 : decode cM_now 5 = .ok (.aload_n 0, 1) := by decide +kernel
theorem dM_now_6 : decode cM_now 6 = .ok (.getfield 105, 3) := by decide +kernel
theorem dM_now_9 : decode cM_now 9 = .ok (.ireturn, 1) := by decide +kernel
theorem dM_freeze_0 : decode cM_freeze 0 = .ok (.aload_n 0, 1) := by decide +kernel
theorem dM_freeze_1 : decode cM_freeze 1 = .ok (.aload_n 0, 1) := by decide +kernel
theorem dM_freeze_2 : decode cM_freeze 2 = .ok (.getfield 7, 3) := by decide +kernel
theorem dM_freeze_5 : decode cM_freeze 5 = .ok (.ifCond .eq 7, 3) := by decide +kernel
theorem dM_freeze_8 : decode cM_freeze 8 = .ok (.iconst 0, 1) := by decide +kernel
theorem dM_freeze_9 : decode cM_freeze 9 = .ok (.goto 4, 3) := by decide +kernel
theorem dM_freeze_12 : decode cM_freeze 12 = .ok (.iconst 1, 1) := by decide +kernel
theorem dM_freeze_13 : decode cM_freeze 13 = .ok (.putfield 83, 3) := by decide +kernel
theorem dM_freeze_16 : decode cM_freeze 16 = .ok (.aload_n 0, 1) := by decide +kernel
theorem dM_freeze_17 : decode cM_freeze 17 = .ok (.getfield 83, 3) := by decide +kernel
theorem dM_freeze_20 : decode cM_freeze 20 = .ok (.ifCond .le 5, 3) := by decide +kernel
theorem dM_freeze_23 : decode cM_freeze 23 = .ok (.iconst 0, 1) := by decide +kernel
theorem dM_freeze_24 : decode cM_freeze 24 = .ok (.ireturn, 1) := by decide +kernel
theorem dM_freeze_25 : decode cM_freeze 25 = .ok (.iconst 0, 1) := by decide +kernel
theorem dM_freeze_26 : decode cM_freeze 26 = .ok (.istore_n 3, 1) := by decide +kernel
theorem dM_freeze_27 : decode cM_freeze 27 = .ok (.iload_n 3, 1) := by decide +kernel
theorem dM_freeze_28 : decode cM_freeze 28 = .ok (.iconst 3, 1) := by decide +kernel
theorem dM_freeze_29 : decode cM_freeze 29 = .ok (.if_icmp .ge 19, 3) := by decide +kernel
theorem dM_freeze_32 : decode cM_freeze 32 = .ok (.aload_n 0, 1) := by decide +kernel
theorem dM_freeze_33 : decode cM_freeze 33 = .ok (.getfield 71, 3) := by decide +kernel
theorem dM_freeze_36 : decode cM_freeze 36 = .ok (.iload_n 3, 1) := by decide +kernel
theorem dM_freeze_37 : decode cM_freeze 37 = .ok (.baload, 1) := by decide +kernel
theorem dM_freeze_38 : decode cM_freeze 38 = .ok (.ifCond .eq 10, 3) := by decide +kernel
theorem dM_freeze_41 : decode cM_freeze 41 = .ok (.iload_n 3, 1) := by decide +kernel
theorem dM_freeze_42 : decode cM_freeze 42 = .ok (.iconst 1, 1) := by decide +kernel
theorem dM_freeze_43 : decode cM_freeze 43 = .ok (.iadd, 1) := by decide +kernel
theorem dM_freeze_44 : decode cM_freeze 44 = .ok (.istore_n 3, 1) := by decide +kernel
theorem dM_freeze_45 : decode cM_freeze 45 = .ok (.goto (-18), 3) := by decide +kernel
theorem dM_freeze_48 : decode cM_freeze 48 = .ok (.iload_n 1, 1) := by decide +kernel
theorem dM_freeze_49 : decode cM_freeze 49 = .ok (.bipush 10, 2) := by decide +kernel
theorem dM_freeze_51 : decode cM_freeze 51 = .ok (.invokestatic 96, 3) := by decide +kernel
theorem dM_freeze_54 : decode cM_freeze 54 = .ok (.ifCond .eq 17, 3) := by decide +kernel
theorem dM_freeze_57 : decode cM_freeze 57 = .ok (.iload_n 2, 1) := by decide +kernel
theorem dM_freeze_58 : decode cM_freeze 58 = .ok (.bipush 10, 2) := by decide +kernel
theorem dM_freeze_60 : decode cM_freeze 60 = .ok (.invokestatic 96, 3) := by decide +kernel
theorem dM_freeze_63 : decode cM_freeze 63 = .ok (.ifCond .eq 8, 3) := by decide +kernel
theorem dM_freeze_66 : decode cM_freeze 66 = .ok (.iload_n 3, 1) := by decide +kernel
theorem dM_freeze_67 : decode cM_freeze 67 = .ok (.iconst 3, 1) := by decide +kernel
theorem dM_freeze_68 : decode cM_freeze 68 = .ok (.if_icmp .ne 5, 3) := by decide +kernel
theorem dM_freeze_71 : decode cM_freeze 71 = .ok (.iconst (-1), 1) := by decide +kernel
theorem dM_freeze_72 : decode cM_freeze 72 = .ok (.ireturn, 1) := by decide +kernel
theorem dM_freeze_73 : decode cM_freeze 73 = .ok (.aload_n 0, 1) := by decide +kernel
theorem dM_freeze_74 : decode cM_freeze 74 = .ok (.getfield 71, 3) := by decide +kernel
theorem dM_freeze_77 : decode cM_freeze 77 = .ok (.iload_n 3, 1) := by decide +kernel
theorem dM_freeze_78 : decode cM_freeze 78 = .ok (.iconst 1, 1) := by decide +kernel
theorem dM_freeze_79 : decode cM_freeze 79 = .ok (.bastore, 1) := by decide +kernel
theorem dM_freeze_80 : decode cM_freeze 80 = .ok (.aload_n 0, 1) := by decide +kernel
theorem dM_freeze_81 : decode cM_freeze 81 = .ok (.getfield 74, 3) := by decide +kernel
theorem dM_freeze_84 : decode cM_freeze 84 = .ok (.iload_n 3, 1) := by decide +kernel
theorem dM_freeze_85 : decode cM_freeze 85 = .ok (.aload_n 0, 1) := by decide +kernel
theorem dM_freeze_86 : decode cM_freeze 86 = .ok (.getfield 105, 3) := by decide +kernel
theorem dM_freeze_89 : decode cM_freeze 89 = .ok (.iload_n 1, 1) := by decide +kernel
theorem dM_freeze_90 : decode cM_freeze 90 = .ok (.if_icmp .le 12, 3) := by decide +kernel
theorem dM_freeze_93 : decode cM_freeze 93 = .ok (.aload_n 0, 1) := by decide +kernel
theorem dM_freeze_94 : decode cM_freeze 94 = .ok (.getfield 105, 3) := by decide +kernel
theorem dM_freeze_97 : decode cM_freeze 97 = .ok (.iload_n 1, 1) := by decide +kernel
theorem dM_freeze_98 : decode cM_freeze 98 = .ok (.isub, 1) := by decide +kernel
theorem dM_freeze_99 : decode cM_freeze 99 = .ok (.goto 4, 3) := by decide +kernel
theorem dM_freeze_102 : decode cM_freeze 102 = .ok (.iconst 0, 1) := by decide +kernel
theorem dM_freeze_103 : decode cM_freeze 103 = .ok (.iastore, 1) := by decide +kernel
theorem dM_freeze_104 : decode cM_freeze 104 = .ok (.aload_n 0, 1) := by decide +kernel
theorem dM_freeze_105 : decode cM_freeze 105 = .ok (.getfield 77, 3) := by decide +kernel
theorem dM_freeze_108 : decode cM_freeze 108 = .ok (.iload_n 3, 1) := by decide +kernel
theorem dM_freeze_109 : decode cM_freeze 109 = .ok (.aload_n 0, 1) := by decide +kernel
theorem dM_freeze_110 : decode cM_freeze 110 = .ok (.getfield 105, 3) := by decide +kernel
theorem dM_freeze_113 : decode cM_freeze 113 = .ok (.iload_n 2, 1) := by decide +kernel
theorem dM_freeze_114 : decode cM_freeze 114 = .ok (.iadd, 1) := by decide +kernel
theorem dM_freeze_115 : decode cM_freeze 115 = .ok (.iastore, 1) := by decide +kernel
theorem dM_freeze_116 : decode cM_freeze 116 = .ok (.aload_n 0, 1) := by decide +kernel
theorem dM_freeze_117 : decode cM_freeze 117 = .ok (.getfield 71, 3) := by decide +kernel
theorem dM_freeze_120 : decode cM_freeze 120 = .ok (.iload_n 3, 1) := by decide +kernel
theorem dM_freeze_121 : decode cM_freeze 121 = .ok (.aload_n 0, 1) := by decide +kernel
theorem dM_freeze_122 : decode cM_freeze 122 = .ok (.invokevirtual 157, 3) := by decide +kernel
theorem dM_freeze_125 : decode cM_freeze 125 = .ok (.bipush 20, 2) := by decide +kernel
theorem dM_freeze_127 : decode cM_freeze 127 = .ok (.if_icmp .gt 7, 3) := by decide +kernel
theorem dM_freeze_130 : decode cM_freeze 130 = .ok (.iconst 1, 1) := by decide +kernel
theorem dM_freeze_131 : decode cM_freeze 131 = .ok (.goto 4, 3) := by decide +kernel
theorem dM_freeze_134 : decode cM_freeze 134 = .ok (.iconst 0, 1) := by decide +kernel
theorem dM_freeze_135 : decode cM_freeze 135 = .ok (.bastore, 1) := by decide +kernel
theorem dM_freeze_136 : decode cM_freeze 136 = .ok (.aload_n 0, 1) := by decide +kernel
theorem dM_freeze_137 : decode cM_freeze 137 = .ok (.getfield 71, 3) := by decide +kernel
theorem dM_freeze_140 : decode cM_freeze 140 = .ok (.iload_n 3, 1) := by decide +kernel
theorem dM_freeze_141 : decode cM_freeze 141 = .ok (.baload, 1) := by decide +kernel
theorem dM_freeze_142 : decode cM_freeze 142 = .ok (.ifCond .eq 7, 3) := by decide +kernel
theorem dM_freeze_145 : decode cM_freeze 145 = .ok (.iload_n 3, 1) := by decide +kernel
theorem dM_freeze_146 : decode cM_freeze 146 = .ok (.goto 4, 3) := by decide +kernel
theorem dM_freeze_149 : decode cM_freeze 149 = .ok (.iconst (-1), 1) := by decide +kernel
theorem dM_freeze_150 : decode cM_freeze 150 = .ok (.ireturn, 1) := by decide +kernel
theorem dM_frozenPages_0 : decode cM_frozenPages 0 = .ok (.iconst 0, 1) := by decide +kernel
theorem dM_frozenPages_1 : decode cM_frozenPages 1 = .ok (.istore_n 1, 1) := by decide +kernel
theorem dM_frozenPages_2 : decode cM_frozenPages 2 = .ok (.iconst 0, 1) := by decide +kernel
theorem dM_frozenPages_3 : decode cM_frozenPages 3 = .ok (.istore_n 2, 1) := by decide +kernel
theorem dM_frozenPages_4 : decode cM_frozenPages 4 = .ok (.iload_n 2, 1) := by decide +kernel
theorem dM_frozenPages_5 : decode cM_frozenPages 5 = .ok (.bipush 40, 2) := by decide +kernel
theorem dM_frozenPages_7 : decode cM_frozenPages 7 = .ok (.if_icmp .ge 44, 3) := by decide +kernel
theorem dM_frozenPages_10 : decode cM_frozenPages 10 = .ok (.aload_n 0, 1) := by decide +kernel
theorem dM_frozenPages_11 : decode cM_frozenPages 11 = .ok (.getfield 28, 3) := by decide +kernel
theorem dM_frozenPages_14 : decode cM_frozenPages 14 = .ok (.iload_n 2, 1) := by decide +kernel
theorem dM_frozenPages_15 : decode cM_frozenPages 15 = .ok (.iaload, 1) := by decide +kernel
theorem dM_frozenPages_16 : decode cM_frozenPages 16 = .ok (.ifCond .lt 27, 3) := by decide +kernel
theorem dM_frozenPages_19 : decode cM_frozenPages 19 = .ok (.aload_n 0, 1) := by decide +kernel
theorem dM_frozenPages_20 : decode cM_frozenPages 20 = .ok (.aload_n 0, 1) := by decide +kernel
theorem dM_frozenPages_21 : decode cM_frozenPages 21 = .ok (.getfield 28, 3) := by decide +kernel
theorem dM_frozenPages_24 : decode cM_frozenPages 24 = .ok (.iload_n 2, 1) := by decide +kernel
theorem dM_frozenPages_25 : decode cM_frozenPages 25 = .ok (.iaload, 1) := by decide +kernel
theorem dM_frozenPages_26 : decode cM_frozenPages 26 = .ok (.invokevirtual 122, 3) := by decide +kernel
theorem dM_frozenPages_29 : decode cM_frozenPages 29 = .ok (.ifCond .eq 14, 3) := by decide +kernel
theorem dM_frozenPages_32 : decode cM_frozenPages 32 = .ok (.iload_n 1, 1) := by decide +kernel
theorem dM_frozenPages_33 : decode cM_frozenPages 33 = .ok (.aload_n 0, 1) := by decide +kernel
theorem dM_frozenPages_34 : decode cM_frozenPages 34 = .ok (.getfield 31, 3) := by decide +kernel
theorem dM_frozenPages_37 : decode cM_frozenPages 37 = .ok (.iload_n 2, 1) := by decide +kernel
theorem dM_frozenPages_38 : decode cM_frozenPages 38 = .ok (.iaload, 1) := by decide +kernel
theorem dM_frozenPages_39 : decode cM_frozenPages 39 = .ok (.iadd, 1) := by decide +kernel
theorem dM_frozenPages_40 : decode cM_frozenPages 40 = .ok (.goto 4, 3) := by decide +kernel
theorem dM_frozenPages_43 : decode cM_frozenPages 43 = .ok (.iload_n 1, 1) := by decide +kernel
theorem dM_frozenPages_44 : decode cM_frozenPages 44 = .ok (.istore_n 1, 1) := by decide +kernel
theorem dM_frozenPages_45 : decode cM_frozenPages 45 = .ok (.iinc 2 1, 3) := by decide +kernel
theorem dM_frozenPages_48 : decode cM_frozenPages 48 = .ok (.goto (-44), 3) := by decide +kernel
theorem dM_frozenPages_51 : decode cM_frozenPages 51 = .ok (.aload_n 0, 1) := by decide +kernel
theorem dM_frozenPages_52 : decode cM_frozenPages 52 = .ok (.getfield 105, 3) := by decide +kernel
theorem dM_frozenPages_55 : decode cM_frozenPages 55 = .ok (.istore_n 2, 1) := by decide +kernel
theorem dM_frozenPages_56 : decode cM_frozenPages 56 = .ok (.iload_n 2, 1) := by decide +kernel
theorem dM_frozenPages_57 : decode cM_frozenPages 57 = .ok (.aload_n 0, 1) := by decide +kernel
theorem dM_frozenPages_58 : decode cM_frozenPages 58 = .ok (.getfield 105, 3) := by decide +kernel
theorem dM_frozenPages_61 : decode cM_frozenPages 61 = .ok (.bipush 10, 2) := by decide +kernel
theorem dM_frozenPages_63 : decode cM_frozenPages 63 = .ok (.iadd, 1) := by decide +kernel
theorem dM_frozenPages_64 : decode cM_frozenPages 64 = .ok (.if_icmp .ge 25, 3) := by decide +kernel
theorem dM_frozenPages_67 : decode cM_frozenPages 67 = .ok (.aload_n 0, 1) := by decide +kernel
theorem dM_frozenPages_68 : decode cM_frozenPages 68 = .ok (.iload_n 2, 1) := by decide +kernel
theorem dM_frozenPages_69 : decode cM_frozenPages 69 = .ok (.invokevirtual 122, 3) := by decide +kernel
theorem dM_frozenPages_72 : decode cM_frozenPages 72 = .ok (.ifCond .eq 9, 3) := by decide +kernel
theorem dM_frozenPages_75 : decode cM_frozenPages 75 = .ok (.iload_n 1, 1) := by decide +kernel
theorem dM_frozenPages_76 : decode cM_frozenPages 76 = .ok (.iconst 5, 1) := by decide +kernel
theorem dM_frozenPages_77 : decode cM_frozenPages 77 = .ok (.iadd, 1) := by decide +kernel
theorem dM_frozenPages_78 : decode cM_frozenPages 78 = .ok (.goto 4, 3) := by decide +kernel
theorem dM_frozenPages_81 : decode cM_frozenPages 81 = .ok (.iload_n 1, 1) := by decide +kernel
theorem dM_frozenPages_82 : decode cM_frozenPages 82 = .ok (.istore_n 1, 1) := by decide +kernel
theorem dM_frozenPages_83 : decode cM_frozenPages 83 = .ok (.iinc 2 1, 3) := by decide +kernel
theorem dM_frozenPages_86 : decode cM_frozenPages 86 = .ok (.goto (-30), 3) := by decide +kernel
theorem dM_frozenPages_89 : decode cM_frozenPages 89 = .ok (.iload_n 1, 1) := by decide +kernel
theorem dM_frozenPages_90 : decode cM_frozenPages 90 = .ok (.ireturn, 1) := by decide +kernel
theorem dM_release_0 : decode cM_release 0 = .ok (.aload_n 0, 1) := by decide +kernel
theorem dM_release_1 : decode cM_release 1 = .ok (.aload_n 0, 1) := by decide +kernel
theorem dM_release_2 : decode cM_release 2 = .ok (.getfield 7, 3) := by decide +kernel
theorem dM_release_5 : decode cM_release 5 = .ok (.ifCond .eq 7, 3) := by decide +kernel
theorem dM_release_8 : decode cM_release 8 = .ok (.iconst 0, 1) := by decide +kernel
theorem dM_release_9 : decode cM_release 9 = .ok (.goto 4, 3) := by decide +kernel
theorem dM_release_12 : decode cM_release 12 = .ok (.iconst 1, 1) := by decide +kernel
theorem dM_release_13 : decode cM_release 13 = .ok (.putfield 83, 3) := by decide +kernel
theorem dM_release_16 : decode cM_release 16 = .ok (.aload_n 0, 1) := by decide +kernel
theorem dM_release_17 : decode cM_release 17 = .ok (.getfield 83, 3) := by decide +kernel
theorem dM_release_20 : decode cM_release 20 = .ok (.ifCond .gt 20, 3) := by decide +kernel
theorem dM_release_23 : decode cM_release 23 = .ok (.iload_n 1, 1) := by decide +kernel
theorem dM_release_24 : decode cM_release 24 = .ok (.iconst 3, 1) := by decide +kernel
theorem dM_release_25 : decode cM_release 25 = .ok (.invokestatic 96, 3) := by decide +kernel
theorem dM_release_28 : decode cM_release 28 = .ok (.ifCond .eq 12, 3) := by decide +kernel
theorem dM_release_31 : decode cM_release 31 = .ok (.aload_n 0, 1) := by decide +kernel
theorem dM_release_32 : decode cM_release 32 = .ok (.getfield 71, 3) := by decide +kernel
theorem dM_release_35 : decode cM_release 35 = .ok (.iload_n 1, 1) := by decide +kernel
theorem dM_release_36 : decode cM_release 36 = .ok (.baload, 1) := by decide +kernel
theorem dM_release_37 : decode cM_release 37 = .ok (.ifCond .ne 5, 3) := by decide +kernel
theorem dM_release_40 : decode cM_release 40 = .ok (.iconst 0, 1) := by decide +kernel
theorem dM_release_41 : decode cM_release 41 = .ok (.ireturn, 1) := by decide +kernel
theorem dM_release_42 : decode cM_release 42 = .ok (.aload_n 0, 1) := by decide +kernel
theorem dM_release_43 : decode cM_release 43 = .ok (.getfield 71, 3) := by decide +kernel
theorem dM_release_46 : decode cM_release 46 = .ok (.iload_n 1, 1) := by decide +kernel
theorem dM_release_47 : decode cM_release 47 = .ok (.iconst 0, 1) := by decide +kernel
theorem dM_release_48 : decode cM_release 48 = .ok (.bastore, 1) := by decide +kernel
theorem dM_release_49 : decode cM_release 49 = .ok (.iconst 1, 1) := by decide +kernel
theorem dM_release_50 : decode cM_release 50 = .ok (.ireturn, 1) := by decide +kernel
theorem dM_frozen_0 : decode cM_frozen 0 = .ok (.aload_n 0, 1) := by decide +kernel
theorem dM_frozen_1 : decode cM_frozen 1 = .ok (.iconst 0, 1) := by decide +kernel
theorem dM_frozen_2 : decode cM_frozen 2 = .ok (.putfield 83, 3) := by decide +kernel
theorem dM_frozen_5 : decode cM_frozen 5 = .ok (.iload_n 1, 1) := by decide +kernel
theorem dM_frozen_6 : decode cM_frozen 6 = .ok (.iconst 3, 1) := by decide +kernel
theorem dM_frozen_7 : decode cM_frozen 7 = .ok (.invokestatic 96, 3) := by decide +kernel
theorem dM_frozen_10 : decode cM_frozen 10 = .ok (.ifCond .eq 12, 3) := by decide +kernel
theorem dM_frozen_13 : decode cM_frozen 13 = .ok (.aload_n 0, 1) := by decide +kernel
theorem dM_frozen_14 : decode cM_frozen 14 = .ok (.getfield 71, 3) := by decide +kernel
theorem dM_frozen_17 : decode cM_frozen 17 = .ok (.iload_n 1, 1) := by decide +kernel
theorem dM_frozen_18 : decode cM_frozen 18 = .ok (.baload, 1) := by decide +kernel
theorem dM_frozen_19 : decode cM_frozen 19 = .ok (.ifCond .ne 7, 3) := by decide +kernel
theorem dM_frozen_22 : decode cM_frozen 22 = .ok (.iconst (-1), 1) := by decide +kernel
theorem dM_frozen_23 : decode cM_frozen 23 = .ok (.goto 22, 3) := by decide +kernel
theorem dM_frozen_26 : decode cM_frozen 26 = .ok (.iload_n 2, 1) := by decide +kernel
theorem dM_frozen_27 : decode cM_frozen 27 = .ok (.ifCond .eq 12, 3) := by decide +kernel
theorem dM_frozen_30 : decode cM_frozen 30 = .ok (.aload_n 0, 1) := by decide +kernel
theorem dM_frozen_31 : decode cM_frozen 31 = .ok (.getfield 77, 3) := by decide +kernel
theorem dM_frozen_34 : decode cM_frozen 34 = .ok (.iload_n 1, 1) := by decide +kernel
theorem dM_frozen_35 : decode cM_frozen 35 = .ok (.iaload, 1) := by decide +kernel
theorem dM_frozen_36 : decode cM_frozen 36 = .ok (.goto 9, 3) := by decide +kernel
theorem dM_frozen_39 : decode cM_frozen 39 = .ok (.aload_n 0, 1) := by decide +kernel
theorem dM_frozen_40 : decode cM_frozen 40 = .ok (.getfield 74, 3) := by decide +kernel
theorem dM_frozen_43 : decode cM_frozen 43 = .ok (.iload_n 1, 1) := by decide +kernel
theorem dM_frozen_44 : decode cM_frozen 44 = .ok (.iaload, 1) := by decide +kernel
theorem dM_frozen_45 : decode cM_frozen 45 = .ok (.ireturn, 1) := by decide +kernel
theorem dM_kept_0 : decode cM_kept 0 = .ok (.aload_n 0, 1) := by decide +kernel
theorem dM_kept_1 : decode cM_kept 1 = .ok (.iconst 0, 1) := by decide +kernel
theorem dM_kept_2 : decode cM_kept 2 = .ok (.putfield 83, 3) := by decide +kernel
theorem dM_kept_5 : decode cM_kept 5 = .ok (.iconst (-1), 1) := by decide +kernel
theorem dM_kept_6 : decode cM_kept 6 = .ok (.istore_n 3, 1) := by decide +kernel
theorem dM_kept_7 : decode cM_kept 7 = .ok (.iload_n 1, 1) := by decide +kernel
theorem dM_kept_8 : decode cM_kept 8 = .ok (.invokestatic 112, 3) := by decide +kernel
theorem dM_kept_11 : decode cM_kept 11 = .ok (.istore 4, 2) := by decide +kernel
theorem dM_kept_13 : decode cM_kept 13 = .ok (.aload_n 0, 1) := by decide +kernel
theorem dM_kept_14 : decode cM_kept 14 = .ok (.iload_n 1, 1) := by decide +kernel
theorem dM_kept_15 : decode cM_kept 15 = .ok (.invokevirtual 160, 3) := by decide +kernel
theorem dM_kept_18 : decode cM_kept 18 = .ok (.ifCond .eq 85, 3) := by decide +kernel
theorem dM_kept_21 : decode cM_kept 21 = .ok (.iload 4, 2) := by decide +kernel
theorem dM_kept_23 : decode cM_kept 23 = .ok (.iload_n 1, 1) := by decide +kernel
theorem dM_kept_24 : decode cM_kept 24 = .ok (.invokestatic 116, 3) := by decide +kernel
theorem dM_kept_27 : decode cM_kept 27 = .ok (.if_icmp .ge 76, 3) := by decide +kernel
theorem dM_kept_30 : decode cM_kept 30 = .ok (.iload_n 3, 1) := by decide +kernel
theorem dM_kept_31 : decode cM_kept 31 = .ok (.ifCond .lt 32, 3) := by decide +kernel
theorem dM_kept_34 : decode cM_kept 34 = .ok (.iload_n 2, 1) := by decide +kernel
theorem dM_kept_35 : decode cM_kept 35 = .ok (.ifCond .eq 17, 3) := by decide +kernel
theorem dM_kept_38 : decode cM_kept 38 = .ok (.aload_n 0, 1) := by decide +kernel
theorem dM_kept_39 : decode cM_kept 39 = .ok (.getfield 28, 3) := by decide +kernel
theorem dM_kept_42 : decode cM_kept 42 = .ok (.iload 4, 2) := by decide +kernel
theorem dM_kept_44 : decode cM_kept 44 = .ok (.iaload, 1) := by decide +kernel
theorem dM_kept_45 : decode cM_kept 45 = .ok (.iload_n 3, 1) := by decide +kernel
theorem dM_kept_46 : decode cM_kept 46 = .ok (.if_icmp .le 21, 3) := by decide +kernel
theorem dM_kept_49 : decode cM_kept 49 = .ok (.goto 14, 3) := by decide +kernel
theorem dM_kept_52 : decode cM_kept 52 = .ok (.aload_n 0, 1) := by decide +kernel
theorem dM_kept_53 : decode cM_kept 53 = .ok (.getfield 28, 3) := by decide +kernel
theorem dM_kept_56 : decode cM_kept 56 = .ok (.iload 4, 2) := by decide +kernel
theorem dM_kept_58 : decode cM_kept 58 = .ok (.iaload, 1) := by decide +kernel
theorem dM_kept_59 : decode cM_kept 59 = .ok (.iload_n 3, 1) := by decide +kernel
theorem dM_kept_60 : decode cM_kept 60 = .ok (.if_icmp .ge 7, 3) := by decide +kernel
theorem dM_kept_63 : decode cM_kept 63 = .ok (.iconst 1, 1) := by decide +kernel
theorem dM_kept_64 : decode cM_kept 64 = .ok (.goto 4, 3) := by decide +kernel
theorem dM_kept_67 : decode cM_kept 67 = .ok (.iconst 0, 1) := by decide +kernel
theorem dM_kept_68 : decode cM_kept 68 = .ok (.istore 5, 2) := by decide +kernel
theorem dM_kept_70 : decode cM_kept 70 = .ok (.aload_n 0, 1) := by decide +kernel
theorem dM_kept_71 : decode cM_kept 71 = .ok (.getfield 28, 3) := by decide +kernel
theorem dM_kept_74 : decode cM_kept 74 = .ok (.iload 4, 2) := by decide +kernel
theorem dM_kept_76 : decode cM_kept 76 = .ok (.iaload, 1) := by decide +kernel
theorem dM_kept_77 : decode cM_kept 77 = .ok (.ifCond .lt 18, 3) := by decide +kernel
theorem dM_kept_80 : decode cM_kept 80 = .ok (.iload 5, 2) := by decide +kernel
theorem dM_kept_82 : decode cM_kept 82 = .ok (.ifCond .eq 13, 3) := by decide +kernel
theorem dM_kept_85 : decode cM_kept 85 = .ok (.aload_n 0, 1) := by decide +kernel
theorem dM_kept_86 : decode cM_kept 86 = .ok (.getfield 28, 3) := by decide +kernel
theorem dM_kept_89 : decode cM_kept 89 = .ok (.iload 4, 2) := by decide +kernel
theorem dM_kept_91 : decode cM_kept 91 = .ok (.iaload, 1) := by decide +kernel
theorem dM_kept_92 : decode cM_kept 92 = .ok (.goto 4, 3) := by decide +kernel
theorem dM_kept_95 : decode cM_kept 95 = .ok (.iload_n 3, 1) := by decide +kernel
theorem dM_kept_96 : decode cM_kept 96 = .ok (.istore_n 3, 1) := by decide +kernel
theorem dM_kept_97 : decode cM_kept 97 = .ok (.iinc 4 1, 3) := by decide +kernel
theorem dM_kept_100 : decode cM_kept 100 = .ok (.goto (-87), 3) := by decide +kernel
theorem dM_kept_103 : decode cM_kept 103 = .ok (.iload_n 3, 1) := by decide +kernel
theorem dM_kept_104 : decode cM_kept 104 = .ok (.ireturn, 1) := by decide +kernel
theorem dM_isStore_0 : decode cM_isStore 0 = .ok (.iload_n 1, 1) := by decide +kernel
theorem dM_isStore_1 : decode cM_isStore 1 = .ok (.iconst 3, 1) := by decide +kernel
theorem dM_isStore_2 : decode cM_isStore 2 = .ok (.invokestatic 96, 3) := by decide +kernel
theorem dM_isStore_5 : decode cM_isStore 5 = .ok (.ireturn, 1) := by decide +kernel
theorem dM_free_0 : decode cM_free 0 = .ok (.aload_n 0, 1) := by decide +kernel
theorem dM_free_1 : decode cM_free 1 = .ok (.iconst 0, 1) := by decide +kernel
theorem dM_free_2 : decode cM_free 2 = .ok (.putfield 83, 3) := by decide +kernel
theorem dM_free_5 : decode cM_free 5 = .ok (.aload_n 0, 1) := by decide +kernel
theorem dM_free_6 : decode cM_free 6 = .ok (.iload_n 1, 1) := by decide +kernel
theorem dM_free_7 : decode cM_free 7 = .ok (.invokevirtual 160, 3) := by decide +kernel
theorem dM_free_10 : decode cM_free 10 = .ok (.ifCond .eq 11, 3) := by decide +kernel
theorem dM_free_13 : decode cM_free 13 = .ok (.aload_n 0, 1) := by decide +kernel
theorem dM_free_14 : decode cM_free 14 = .ok (.iload_n 1, 1) := by decide +kernel
theorem dM_free_15 : decode cM_free 15 = .ok (.invokevirtual 119, 3) := by decide +kernel
theorem dM_free_18 : decode cM_free 18 = .ok (.goto 4, 3) := by decide +kernel
theorem dM_free_21 : decode cM_free 21 = .ok (.iconst (-1), 1) := by decide +kernel
theorem dM_free_22 : decode cM_free 22 = .ok (.ireturn, 1) := by decide +kernel
theorem dM_has_0 : decode cM_has 0 = .ok (.aload_n 0, 1) := by decide +kernel
theorem dM_has_1 : decode cM_has 1 = .ok (.iconst 0, 1) := by decide +kernel
theorem dM_has_2 : decode cM_has 2 = .ok (.putfield 83, 3) := by decide +kernel
theorem dM_has_5 : decode cM_has 5 = .ok (.aload_n 0, 1) := by decide +kernel
theorem dM_has_6 : decode cM_has 6 = .ok (.iload_n 1, 1) := by decide +kernel
theorem dM_has_7 : decode cM_has 7 = .ok (.iload_n 2, 1) := by decide +kernel
theorem dM_has_8 : decode cM_has 8 = .ok (.invokevirtual 166, 3) := by decide +kernel
theorem dM_has_11 : decode cM_has 11 = .ok (.ifCond .lt 7, 3) := by decide +kernel
theorem dM_has_14 : decode cM_has 14 = .ok (.iconst 1, 1) := by decide +kernel
theorem dM_has_15 : decode cM_has 15 = .ok (.goto 4, 3) := by decide +kernel
theorem dM_has_18 : decode cM_has 18 = .ok (.iconst 0, 1) := by decide +kernel
theorem dM_has_19 : decode cM_has 19 = .ok (.ireturn, 1) := by decide +kernel
theorem dM_bundle_0 : decode cM_bundle 0 = .ok (.iconst (-1), 1) := by decide +kernel
theorem dM_bundle_1 : decode cM_bundle 1 = .ok (.istore_n 3, 1) := by decide +kernel
theorem dM_bundle_2 : decode cM_bundle 2 = .ok (.iload_n 1, 1) := by decide +kernel
theorem dM_bundle_3 : decode cM_bundle 3 = .ok (.invokestatic 112, 3) := by decide +kernel
theorem dM_bundle_6 : decode cM_bundle 6 = .ok (.istore 4, 2) := by decide +kernel
theorem dM_bundle_8 : decode cM_bundle 8 = .ok (.aload_n 0, 1) := by decide +kernel
theorem dM_bundle_9 : decode cM_bundle 9 = .ok (.iload_n 1, 1) := by decide +kernel
theorem dM_bundle_10 : decode cM_bundle 10 = .ok (.invokevirtual 160, 3) := by decide +kernel
theorem dM_bundle_13 : decode cM_bundle 13 = .ok (.ifCond .eq 49, 3) := by decide +kernel
theorem dM_bundle_16 : decode cM_bundle 16 = .ok (.iload 4, 2) := by decide +kernel
theorem dM_bundle_18 : decode cM_bundle 18 = .ok (.iload_n 1, 1) := by decide +kernel
theorem dM_bundle_19 : decode cM_bundle 19 = .ok (.invokestatic 116, 3) := by decide +kernel
theorem dM_bundle_22 : decode cM_bundle 22 = .ok (.if_icmp .ge 40, 3) := by decide +kernel
theorem dM_bundle_25 : decode cM_bundle 25 = .ok (.iload_n 2, 1) := by decide +kernel
theorem dM_bundle_26 : decode cM_bundle 26 = .ok (.ifCond .lt 28, 3) := by decide +kernel
theorem dM_bundle_29 : decode cM_bundle 29 = .ok (.aload_n 0, 1) := by decide +kernel
theorem dM_bundle_30 : decode cM_bundle 30 = .ok (.getfield 28, 3) := by decide +kernel
theorem dM_bundle_33 : decode cM_bundle 33 = .ok (.iload 4, 2) := by decide +kernel
theorem dM_bundle_35 : decode cM_bundle 35 = .ok (.iaload, 1) := by decide +kernel
theorem dM_bundle_36 : decode cM_bundle 36 = .ok (.iload_n 2, 1) := by decide +kernel
theorem dM_bundle_37 : decode cM_bundle 37 = .ok (.if_icmp .ne 17, 3) := by decide +kernel
theorem dM_bundle_40 : decode cM_bundle 40 = .ok (.aload_n 0, 1) := by decide +kernel
theorem dM_bundle_41 : decode cM_bundle 41 = .ok (.iload 4, 2) := by decide +kernel
theorem dM_bundle_43 : decode cM_bundle 43 = .ok (.invokevirtual 163, 3) := by decide +kernel
theorem dM_bundle_46 : decode cM_bundle 46 = .ok (.ifCond .eq 8, 3) := by decide +kernel
theorem dM_bundle_49 : decode cM_bundle 49 = .ok (.iload 4, 2) := by decide +kernel
theorem dM_bundle_51 : decode cM_bundle 51 = .ok (.goto 4, 3) := by decide +kernel
theorem dM_bundle_54 : decode cM_bundle 54 = .ok (.iload_n 3, 1) := by decide +kernel
theorem dM_bundle_55 : decode cM_bundle 55 = .ok (.istore_n 3, 1) := by decide +kernel
theorem dM_bundle_56 : decode cM_bundle 56 = .ok (.iinc 4 1, 3) := by decide +kernel
theorem dM_bundle_59 : decode cM_bundle 59 = .ok (.goto (-51), 3) := by decide +kernel
theorem dM_bundle_62 : decode cM_bundle 62 = .ok (.iload_n 3, 1) := by decide +kernel
theorem dM_bundle_63 : decode cM_bundle 63 = .ok (.ireturn, 1) := by decide +kernel
theorem dM_isReadable_0 : decode cM_isReadable 0 = .ok (.aload_n 0, 1) := by decide +kernel
theorem dM_isReadable_1 : decode cM_isReadable 1 = .ok (.getfield 28, 3) := by decide +kernel
theorem dM_isReadable_4 : decode cM_isReadable 4 = .ok (.iload_n 1, 1) := by decide +kernel
theorem dM_isReadable_5 : decode cM_isReadable 5 = .ok (.iaload, 1) := by decide +kernel
theorem dM_isReadable_6 : decode cM_isReadable 6 = .ok (.ifCond .lt 7, 3) := by decide +kernel
theorem dM_isReadable_9 : decode cM_isReadable 9 = .ok (.iconst 1, 1) := by decide +kernel
theorem dM_isReadable_10 : decode cM_isReadable 10 = .ok (.goto 4, 3) := by decide +kernel
theorem dM_isReadable_13 : decode cM_isReadable 13 = .ok (.iconst 0, 1) := by decide +kernel
theorem dM_isReadable_14 : decode cM_isReadable 14 = .ok (.istore_n 2, 1) := by decide +kernel
theorem dM_isReadable_15 : decode cM_isReadable 15 = .ok (.iconst 0, 1) := by decide +kernel
theorem dM_isReadable_16 : decode cM_isReadable 16 = .ok (.istore_n 3, 1) := by decide +kernel
theorem dM_isReadable_17 : decode cM_isReadable 17 = .ok (.iload_n 3, 1) := by decide +kernel
theorem dM_isReadable_18 : decode cM_isReadable 18 = .ok (.bipush 70, 2) := by decide +kernel
theorem dM_isReadable_20 : decode cM_isReadable 20 = .ok (.if_icmp .ge 40, 3) := by decide +kernel
theorem dM_isReadable_23 : decode cM_isReadable 23 = .ok (.iload_n 2, 1) := by decide +kernel
theorem dM_isReadable_24 : decode cM_isReadable 24 = .ok (.ifCond .eq 28, 3) := by decide +kernel
theorem dM_isReadable_27 : decode cM_isReadable 27 = .ok (.aload_n 0, 1) := by decide +kernel
theorem dM_isReadable_28 : decode cM_isReadable 28 = .ok (.getfield 21, 3) := by decide +kernel
theorem dM_isReadable_31 : decode cM_isReadable 31 = .ok (.iload_n 3, 1) := by decide +kernel
theorem dM_isReadable_32 : decode cM_isReadable 32 = .ok (.iaload, 1) := by decide +kernel
theorem dM_isReadable_33 : decode cM_isReadable 33 = .ok (.iload_n 1, 1) := by decide +kernel
theorem dM_isReadable_34 : decode cM_isReadable 34 = .ok (.iconst 1, 1) := by decide +kernel
theorem dM_isReadable_35 : decode cM_isReadable 35 = .ok (.iadd, 1) := by decide +kernel
theorem dM_isReadable_36 : decode cM_isReadable 36 = .ok (.if_icmp .ne 12, 3) := by decide +kernel
theorem dM_isReadable_39 : decode cM_isReadable 39 = .ok (.aload_n 0, 1) := by decide +kernel
theorem dM_isReadable_40 : decode cM_isReadable 40 = .ok (.getfield 25, 3) := by decide +kernel
theorem dM_isReadable_43 : decode cM_isReadable 43 = .ok (.iload_n 3, 1) := by decide +kernel
theorem dM_isReadable_44 : decode cM_isReadable 44 = .ok (.baload, 1) := by decide +kernel
theorem dM_isReadable_45 : decode cM_isReadable 45 = .ok (.ifCond .ne 7, 3) := by decide +kernel
theorem dM_isReadable_48 : decode cM_isReadable 48 = .ok (.iconst 1, 1) := by decide +kernel
theorem dM_isReadable_49 : decode cM_isReadable 49 = .ok (.goto 4, 3) := by decide +kernel
theorem dM_isReadable_52 : decode cM_isReadable 52 = .ok (.iconst 0, 1) := by decide +kernel
theorem dM_isReadable_53 : decode cM_isReadable 53 = .ok (.istore_n 2, 1) := by decide +kernel
theorem dM_isReadable_54 : decode cM_isReadable 54 = .ok (.iinc 3 1, 3) := by decide +kernel
theorem dM_isReadable_57 : decode cM_isReadable 57 = .ok (.goto (-40), 3) := by decide +kernel
theorem dM_isReadable_60 : decode cM_isReadable 60 = .ok (.iload_n 2, 1) := by decide +kernel
theorem dM_isReadable_61 : decode cM_isReadable 61 = .ok (.ireturn, 1) := by decide +kernel
theorem dM_replay_0 : decode cM_replay 0 = .ok (.aload_n 0, 1) := by decide +kernel
theorem dM_replay_1 : decode cM_replay 1 = .ok (.iconst 0, 1) := by decide +kernel
theorem dM_replay_2 : decode cM_replay 2 = .ok (.putfield 83, 3) := by decide +kernel
theorem dM_replay_5 : decode cM_replay 5 = .ok (.aload_n 0, 1) := by decide +kernel
theorem dM_replay_6 : decode cM_replay 6 = .ok (.iload_n 1, 1) := by decide +kernel
theorem dM_replay_7 : decode cM_replay 7 = .ok (.iload_n 2, 1) := by decide +kernel
theorem dM_replay_8 : decode cM_replay 8 = .ok (.invokevirtual 166, 3) := by decide +kernel
theorem dM_replay_11 : decode cM_replay 11 = .ok (.istore_n 3, 1) := by decide +kernel
theorem dM_replay_12 : decode cM_replay 12 = .ok (.iload_n 3, 1) := by decide +kernel
theorem dM_replay_13 : decode cM_replay 13 = .ok (.ifCond .ge 5, 3) := by decide +kernel
theorem dM_replay_16 : decode cM_replay 16 = .ok (.iconst (-1), 1) := by decide +kernel
theorem dM_replay_17 : decode cM_replay 17 = .ok (.ireturn, 1) := by decide +kernel
theorem dM_replay_18 : decode cM_replay 18 = .ok (.aload_n 0, 1) := by decide +kernel
theorem dM_replay_19 : decode cM_replay 19 = .ok (.iload_n 3, 1) := by decide +kernel
theorem dM_replay_20 : decode cM_replay 20 = .ok (.bipush 71, 2) := by decide +kernel
theorem dM_replay_22 : decode cM_replay 22 = .ok (.invokevirtual 133, 3) := by decide +kernel
theorem dM_replay_25 : decode cM_replay 25 = .ok (.aload_n 0, 1) := by decide +kernel
theorem dM_replay_26 : decode cM_replay 26 = .ok (.iconst 1, 1) := by decide +kernel
theorem dM_replay_27 : decode cM_replay 27 = .ok (.putfield 172, 3) := by decide +kernel
theorem dM_replay_30 : decode cM_replay 30 = .ok (.aload_n 0, 1) := by decide +kernel
theorem dM_replay_31 : decode cM_replay 31 = .ok (.iload_n 1, 1) := by decide +kernel
theorem dM_replay_32 : decode cM_replay 32 = .ok (.iload_n 2, 1) := by decide +kernel
theorem dM_replay_33 : decode cM_replay 33 = .ok (.invokevirtual 175, 3) := by decide +kernel
theorem dM_replay_36 : decode cM_replay 36 = .ok (.aload_n 0, 1) := by decide +kernel
theorem dM_replay_37 : decode cM_replay 37 = .ok (.getfield 34, 3) := by decide +kernel
theorem dM_replay_40 : decode cM_replay 40 = .ok (.iload_n 3, 1) := by decide +kernel
theorem dM_replay_41 : decode cM_replay 41 = .ok (.iaload, 1) := by decide +kernel
theorem dM_replay_42 : decode cM_replay 42 = .ok (.ireturn, 1) := by decide +kernel
theorem dM_look_0 : decode cM_look 0 = .ok (.aload_n 0, 1) := by decide +kernel
theorem dM_look_1 : decode cM_look 1 = .ok (.iconst 1, 1) := by decide +kernel
theorem dM_look_2 : decode cM_look 2 = .ok (.putfield 169, 3) := by decide +kernel
theorem dM_look_5 : decode cM_look 5 = .ok (.iconst (-1), 1) := by decide +kernel
theorem dM_look_6 : decode cM_look 6 = .ok (.istore_n 3, 1) := by decide +kernel
theorem dM_look_7 : decode cM_look 7 = .ok (.iconst 0, 1) := by decide +kernel
theorem dM_look_8 : decode cM_look 8 = .ok (.istore 4, 2) := by decide +kernel
theorem dM_look_10 : decode cM_look 10 = .ok (.iload 4, 2) := by decide +kernel
theorem dM_look_12 : decode cM_look 12 = .ok (.bipush 8, 2) := by decide +kernel
theorem dM_look_14 : decode cM_look 14 = .ok (.if_icmp .ge 17, 3) := by decide +kernel
theorem dM_look_17 : decode cM_look 17 = .ok (.aload_n 0, 1) := by decide +kernel
theorem dM_look_18 : decode cM_look 18 = .ok (.getfield 80, 3) := by decide +kernel
theorem dM_look_21 : decode cM_look 21 = .ok (.iload 4, 2) := by decide +kernel
theorem dM_look_23 : decode cM_look 23 = .ok (.iconst 0, 1) := by decide +kernel
theorem dM_look_24 : decode cM_look 24 = .ok (.iastore, 1) := by decide +kernel
theorem dM_look_25 : decode cM_look 25 = .ok (.iinc 4 1, 3) := by decide +kernel
theorem dM_look_28 : decode cM_look 28 = .ok (.goto (-18), 3) := by decide +kernel
theorem dM_look_31 : decode cM_look 31 = .ok (.iload_n 2, 1) := by decide +kernel
theorem dM_look_32 : decode cM_look 32 = .ok (.bipush 10, 2) := by decide +kernel
theorem dM_look_34 : decode cM_look 34 = .ok (.idiv, 1) := by decide +kernel
theorem dM_look_35 : decode cM_look 35 = .ok (.bipush 10, 2) := by decide +kernel
theorem dM_look_37 : decode cM_look 37 = .ok (.imul, 1) := by decide +kernel
theorem dM_look_38 : decode cM_look 38 = .ok (.istore 4, 2) := by decide +kernel
theorem dM_look_40 : decode cM_look 40 = .ok (.iload 4, 2) := by decide +kernel
theorem dM_look_42 : decode cM_look 42 = .ok (.iload_n 2, 1) := by decide +kernel
theorem dM_look_43 : decode cM_look 43 = .ok (.if_icmp .gt 109, 3) := by decide +kernel
theorem dM_look_46 : decode cM_look 46 = .ok (.aload_n 0, 1) := by decide +kernel
theorem dM_look_47 : decode cM_look 47 = .ok (.iload_n 1, 1) := by decide +kernel
theorem dM_look_48 : decode cM_look 48 = .ok (.iload 4, 2) := by decide +kernel
theorem dM_look_50 : decode cM_look 50 = .ok (.invokevirtual 166, 3) := by decide +kernel
theorem dM_look_53 : decode cM_look 53 = .ok (.istore 5, 2) := by decide +kernel
theorem dM_look_55 : decode cM_look 55 = .ok (.iload 5, 2) := by decide +kernel
theorem dM_look_57 : decode cM_look 57 = .ok (.ifCond .lt 89, 3) := by decide +kernel
theorem dM_look_60 : decode cM_look 60 = .ok (.aload_n 0, 1) := by decide +kernel
theorem dM_look_61 : decode cM_look 61 = .ok (.getfield 50, 3) := by decide +kernel
theorem dM_look_64 : decode cM_look 64 = .ok (.iload 5, 2) := by decide +kernel
theorem dM_look_66 : decode cM_look 66 = .ok (.baload, 1) := by decide +kernel
theorem dM_look_67 : decode cM_look 67 = .ok (.ifCond .eq 79, 3) := by decide +kernel
theorem dM_look_70 : decode cM_look 70 = .ok (.aload_n 0, 1) := by decide +kernel
theorem dM_look_71 : decode cM_look 71 = .ok (.aload_n 0, 1) := by decide +kernel
theorem dM_look_72 : decode cM_look 72 = .ok (.getfield 53, 3) := by decide +kernel
theorem dM_look_75 : decode cM_look 75 = .ok (.iload 5, 2) := by decide +kernel
theorem dM_look_77 : decode cM_look 77 = .ok (.iaload, 1) := by decide +kernel
theorem dM_look_78 : decode cM_look 78 = .ok (.ifCond .lt 21, 3) := by decide +kernel
theorem dM_look_81 : decode cM_look 81 = .ok (.aload_n 0, 1) := by decide +kernel
theorem dM_look_82 : decode cM_look 82 = .ok (.getfield 169, 3) := by decide +kernel
theorem dM_look_85 : decode cM_look 85 = .ok (.ifCond .eq 18, 3) := by decide +kernel
theorem dM_look_88 : decode cM_look 88 = .ok (.iload_n 3, 1) := by decide +kernel
theorem dM_look_89 : decode cM_look 89 = .ok (.aload_n 0, 1) := by decide +kernel
theorem dM_look_90 : decode cM_look 90 = .ok (.getfield 53, 3) := by decide +kernel
theorem dM_look_93 : decode cM_look 93 = .ok (.iload 5, 2) := by decide +kernel
theorem dM_look_95 : decode cM_look 95 = .ok (.iaload, 1) := by decide +kernel
theorem dM_look_96 : decode cM_look 96 = .ok (.if_icmp .ne 7, 3) := by decide +kernel
theorem dM_look_99 : decode cM_look 99 = .ok (.iconst 1, 1) := by decide +kernel
theorem dM_look_100 : decode cM_look 100 = .ok (.goto 4, 3) := by decide +kernel
theorem dM_look_103 : decode cM_look 103 = .ok (.iconst 0, 1) := by decide +kernel
theorem dM_look_104 : decode cM_look 104 = .ok (.putfield 169, 3) := by decide +kernel
theorem dM_look_107 : decode cM_look 107 = .ok (.iload 4, 2) := by decide +kernel
theorem dM_look_109 : decode cM_look 109 = .ok (.istore_n 3, 1) := by decide +kernel
theorem dM_look_110 : decode cM_look 110 = .ok (.iconst 0, 1) := by decide +kernel
theorem dM_look_111 : decode cM_look 111 = .ok (.istore 6, 2) := by decide +kernel
theorem dM_look_113 : decode cM_look 113 = .ok (.iload 6, 2) := by decide +kernel
theorem dM_look_115 : decode cM_look 115 = .ok (.bipush 8, 2) := by decide +kernel
theorem dM_look_117 : decode cM_look 117 = .ok (.if_icmp .ge 29, 3) := by decide +kernel
theorem dM_look_120 : decode cM_look 120 = .ok (.aload_n 0, 1) := by decide +kernel
theorem dM_look_121 : decode cM_look 121 = .ok (.getfield 80, 3) := by decide +kernel
theorem dM_look_124 : decode cM_look 124 = .ok (.iload 6, 2) := by decide +kernel
theorem dM_look_126 : decode cM_look 126 = .ok (.aload_n 0, 1) := by decide +kernel
theorem dM_look_127 : decode cM_look 127 = .ok (.getfield 56, 3) := by decide +kernel
theorem dM_look_130 : decode cM_look 130 = .ok (.bipush 8, 2) := by decide +kernel
theorem dM_look_132 : decode cM_look 132 = .ok (.iload 5, 2) := by decide +kernel
theorem dM_look_134 : decode cM_look 134 = .ok (.imul, 1) := by decide +kernel
theorem dM_look_135 : decode cM_look 135 = .ok (.iload 6, 2) := by decide +kernel
theorem dM_look_137 : decode cM_look 137 = .ok (.iadd, 1) := by decide +kernel
theorem dM_look_138 : decode cM_look 138 = .ok (.iaload, 1) := by decide +kernel
theorem dM_look_139 : decode cM_look 139 = .ok (.iastore, 1) := by decide +kernel
theorem dM_look_140 : decode cM_look 140 = .ok (.iinc 6 1, 3) := by decide +kernel
theorem dM_look_143 : decode cM_look 143 = .ok (.goto (-30), 3) := by decide +kernel
theorem dM_look_146 : decode cM_look 146 = .ok (.iinc 4 1, 3) := by decide +kernel
theorem dM_look_149 : decode cM_look 149 = .ok (.goto (-109), 3) := by decide +kernel
theorem dM_look_152 : decode cM_look 152 = .ok (.return_, 1) := by decide +kernel
theorem dM_outSentence_0 : decode cM_outSentence 0 = .ok (.aload_n 0, 1) := by decide +kernel
theorem dM_outSentence_1 : decode cM_outSentence 1 = .ok (.iconst 0, 1) := by decide +kernel
theorem dM_outSentence_2 : decode cM_outSentence 2 = .ok (.putfield 83, 3) := by decide +kernel
theorem dM_outSentence_5 : decode cM_outSentence 5 = .ok (.aload_n 0, 1) := by decide +kernel
theorem dM_outSentence_6 : decode cM_outSentence 6 = .ok (.iload_n 1, 1) := by decide +kernel
theorem dM_outSentence_7 : decode cM_outSentence 7 = .ok (.invokevirtual 178, 3) := by decide +kernel
theorem dM_outSentence_10 : decode cM_outSentence 10 = .ok (.ifCond .eq 16, 3) := by decide +kernel
theorem dM_outSentence_13 : decode cM_outSentence 13 = .ok (.aload_n 0, 1) := by decide +kernel
theorem dM_outSentence_14 : decode cM_outSentence 14 = .ok (.getfield 40, 3) := by decide +kernel
theorem dM_outSentence_17 : decode cM_outSentence 17 = .ok (.sipush 284, 3) := by decide +kernel
theorem dM_outSentence_20 : decode cM_outSentence 20 = .ok (.iload_n 1, 1) := by decide +kernel
theorem dM_outSentence_21 : decode cM_outSentence 21 = .ok (.iadd, 1) := by decide +kernel
theorem dM_outSentence_22 : decode cM_outSentence 22 = .ok (.laload, 1) := by decide +kernel
theorem dM_outSentence_23 : decode cM_outSentence 23 = .ok (.goto 4, 3) := by decide +kernel
theorem dM_outSentence_26 : decode cM_outSentence 26 = .ok (.lconst 0, 1) := by decide +kernel
theorem dM_outSentence_27 : decode cM_outSentence 27 = .ok (.lreturn, 1) := by decide +kernel
theorem dM_isLoaded_0 : decode cM_isLoaded 0 = .ok (.aload_n 0, 1) := by decide +kernel
theorem dM_isLoaded_1 : decode cM_isLoaded 1 = .ok (.getfield 172, 3) := by decide +kernel
theorem dM_isLoaded_4 : decode cM_isLoaded 4 = .ok (.ifCond .eq 22, 3) := by decide +kernel
theorem dM_isLoaded_7 : decode cM_isLoaded 7 = .ok (.iload_n 1, 1) := by decide +kernel
theorem dM_isLoaded_8 : decode cM_isLoaded 8 = .ok (.ifCond .lt 18, 3) := by decide +kernel
theorem dM_isLoaded_11 : decode cM_isLoaded 11 = .ok (.iload_n 1, 1) := by decide +kernel
theorem dM_isLoaded_12 : decode cM_isLoaded 12 = .ok (.aload_n 0, 1) := by decide +kernel
theorem dM_isLoaded_13 : decode cM_isLoaded 13 = .ok (.getfield 34, 3) := by decide +kernel
theorem dM_isLoaded_16 : decode cM_isLoaded 16 = .ok (.bipush 71, 2) := by decide +kernel
theorem dM_isLoaded_18 : decode cM_isLoaded 18 = .ok (.iaload, 1) := by decide +kernel
theorem dM_isLoaded_19 : decode cM_isLoaded 19 = .ok (.if_icmp .ge 7, 3) := by decide +kernel
theorem dM_isLoaded_22 : decode cM_isLoaded 22 = .ok (.iconst 1, 1) := by decide +kernel
theorem dM_isLoaded_23 : decode cM_isLoaded 23 = .ok (.goto 4, 3) := by decide +kernel
theorem dM_isLoaded_26 : decode cM_isLoaded 26 = .ok (.iconst 0, 1) := by decide +kernel
theorem dM_isLoaded_27 : decode cM_isLoaded 27 = .ok (.ireturn, 1) := by decide +kernel
theorem dM_outSource_0 : decode cM_outSource 0 = .ok (.aload_n 0, 1) := by decide +kernel
theorem dM_outSource_1 : decode cM_outSource 1 = .ok (.iconst 0, 1) := by decide +kernel
theorem dM_outSource_2 : decode cM_outSource 2 = .ok (.putfield 83, 3) := by decide +kernel
theorem dM_outSource_5 : decode cM_outSource 5 = .ok (.aload_n 0, 1) := by decide +kernel
theorem dM_outSource_6 : decode cM_outSource 6 = .ok (.iload_n 1, 1) := by decide +kernel
theorem dM_outSource_7 : decode cM_outSource 7 = .ok (.invokevirtual 178, 3) := by decide +kernel
theorem dM_outSource_10 : decode cM_outSource 10 = .ok (.ifCond .eq 16, 3) := by decide +kernel
theorem dM_outSource_13 : decode cM_outSource 13 = .ok (.aload_n 0, 1) := by decide +kernel
theorem dM_outSource_14 : decode cM_outSource 14 = .ok (.getfield 37, 3) := by decide +kernel
theorem dM_outSource_17 : decode cM_outSource 17 = .ok (.sipush 284, 3) := by decide +kernel
theorem dM_outSource_20 : decode cM_outSource 20 = .ok (.iload_n 1, 1) := by decide +kernel
theorem dM_outSource_21 : decode cM_outSource 21 = .ok (.iadd, 1) := by decide +kernel
theorem dM_outSource_22 : decode cM_outSource 22 = .ok (.iaload, 1) := by decide +kernel
theorem dM_outSource_23 : decode cM_outSource 23 = .ok (.goto 4, 3) := by decide +kernel
theorem dM_outSource_26 : decode cM_outSource 26 = .ok (.iconst (-1), 1) := by decide +kernel
theorem dM_outSource_27 : decode cM_outSource 27 = .ok (.ireturn, 1) := by decide +kernel
theorem dM_outSound_0 : decode cM_outSound 0 = .ok (.aload_n 0, 1) := by decide +kernel
theorem dM_outSound_1 : decode cM_outSound 1 = .ok (.iconst 0, 1) := by decide +kernel
theorem dM_outSound_2 : decode cM_outSound 2 = .ok (.putfield 83, 3) := by decide +kernel
theorem dM_outSound_5 : decode cM_outSound 5 = .ok (.iload_n 1, 1) := by decide +kernel
theorem dM_outSound_6 : decode cM_outSound 6 = .ok (.iconst 2, 1) := by decide +kernel
theorem dM_outSound_7 : decode cM_outSound 7 = .ok (.invokestatic 96, 3) := by decide +kernel
theorem dM_outSound_10 : decode cM_outSound 10 = .ok (.ifCond .eq 11, 3) := by decide +kernel
theorem dM_outSound_13 : decode cM_outSound 13 = .ok (.iload_n 2, 1) := by decide +kernel
theorem dM_outSound_14 : decode cM_outSound 14 = .ok (.iconst 4, 1) := by decide +kernel
theorem dM_outSound_15 : decode cM_outSound 15 = .ok (.invokestatic 96, 3) := by decide +kernel
theorem dM_outSound_18 : decode cM_outSound 18 = .ok (.ifCond .ne 7, 3) := by decide +kernel
theorem dM_outSound_21 : decode cM_outSound 21 = .ok (.iconst (-1), 1) := by decide +kernel
theorem dM_outSound_22 : decode cM_outSound 22 = .ok (.goto 28, 3) := by decide +kernel
theorem dM_outSound_25 : decode cM_outSound 25 = .ok (.aload_n 0, 1) := by decide +kernel
theorem dM_outSound_26 : decode cM_outSound 26 = .ok (.getfield 172, 3) := by decide +kernel
theorem dM_outSound_29 : decode cM_outSound 29 = .ok (.ifCond .eq 20, 3) := by decide +kernel
theorem dM_outSound_32 : decode cM_outSound 32 = .ok (.aload_n 0, 1) := by decide +kernel
theorem dM_outSound_33 : decode cM_outSound 33 = .ok (.getfield 47, 3) := by decide +kernel
theorem dM_outSound_36 : decode cM_outSound 36 = .ok (.sipush 568, 3) := by decide +kernel
theorem dM_outSound_39 : decode cM_outSound 39 = .ok (.iconst 4, 1) := by decide +kernel
theorem dM_outSound_40 : decode cM_outSound 40 = .ok (.iload_n 1, 1) := by decide +kernel
theorem dM_outSound_41 : decode cM_outSound 41 = .ok (.imul, 1) := by decide +kernel
theorem dM_outSound_42 : decode cM_outSound 42 = .ok (.iadd, 1) := by decide +kernel
theorem dM_outSound_43 : decode cM_outSound 43 = .ok (.iload_n 2, 1) := by decide +kernel
theorem dM_outSound_44 : decode cM_outSound 44 = .ok (.iadd, 1) := by decide +kernel
theorem dM_outSound_45 : decode cM_outSound 45 = .ok (.iaload, 1) := by decide +kernel
theorem dM_outSound_46 : decode cM_outSound 46 = .ok (.goto 4, 3) := by decide +kernel
theorem dM_outSound_49 : decode cM_outSound 49 = .ok (.iconst 0, 1) := by decide +kernel
theorem dM_outSound_50 : decode cM_outSound 50 = .ok (.ireturn, 1) := by decide +kernel
theorem dM_outContacts_0 : decode cM_outContacts 0 = .ok (.aload_n 0, 1) := by decide +kernel
theorem dM_outContacts_1 : decode cM_outContacts 1 = .ok (.iconst 0, 1) := by decide +kernel
theorem dM_outContacts_2 : decode cM_outContacts 2 = .ok (.putfield 83, 3) := by decide +kernel
theorem dM_outContacts_5 : decode cM_outContacts 5 = .ok (.aload_n 0, 1) := by decide +kernel
theorem dM_outContacts_6 : decode cM_outContacts 6 = .ok (.getfield 172, 3) := by decide +kernel
theorem dM_outContacts_9 : decode cM_outContacts 9 = .ok (.ifCond .eq 13, 3) := by decide +kernel
theorem dM_outContacts_12 : decode cM_outContacts 12 = .ok (.aload_n 0, 1) := by decide +kernel
theorem dM_outContacts_13 : decode cM_outContacts 13 = .ok (.getfield 59, 3) := by decide +kernel
theorem dM_outContacts_16 : decode cM_outContacts 16 = .ok (.bipush 71, 2) := by decide +kernel
theorem dM_outContacts_18 : decode cM_outContacts 18 = .ok (.iaload, 1) := by decide +kernel
theorem dM_outContacts_19 : decode cM_outContacts 19 = .ok (.goto 4, 3) := by decide +kernel
theorem dM_outContacts_22 : decode cM_outContacts 22 = .ok (.iconst 0, 1) := by decide +kernel
theorem dM_outContacts_23 : decode cM_outContacts 23 = .ok (.ireturn, 1) := by decide +kernel
theorem dM_outRow_0 : decode cM_outRow 0 = .ok (.aload_n 0, 1) := by decide +kernel
theorem dM_outRow_1 : decode cM_outRow 1 = .ok (.iconst 0, 1) := by decide +kernel
theorem dM_outRow_2 : decode cM_outRow 2 = .ok (.putfield 83, 3) := by decide +kernel
theorem dM_outRow_5 : decode cM_outRow 5 = .ok (.iload_n 1, 1) := by decide +kernel
theorem dM_outRow_6 : decode cM_outRow 6 = .ok (.bipush 8, 2) := by decide +kernel
theorem dM_outRow_8 : decode cM_outRow 8 = .ok (.invokestatic 96, 3) := by decide +kernel
theorem dM_outRow_11 : decode cM_outRow 11 = .ok (.ifCond .ne 7, 3) := by decide +kernel
theorem dM_outRow_14 : decode cM_outRow 14 = .ok (.iconst (-1), 1) := by decide +kernel
theorem dM_outRow_15 : decode cM_outRow 15 = .ok (.goto 31, 3) := by decide +kernel
theorem dM_outRow_18 : decode cM_outRow 18 = .ok (.aload_n 0, 1) := by decide +kernel
theorem dM_outRow_19 : decode cM_outRow 19 = .ok (.getfield 172, 3) := by decide +kernel
theorem dM_outRow_22 : decode cM_outRow 22 = .ok (.ifCond .ne 7, 3) := by decide +kernel
theorem dM_outRow_25 : decode cM_outRow 25 = .ok (.iconst 0, 1) := by decide +kernel
theorem dM_outRow_26 : decode cM_outRow 26 = .ok (.goto 20, 3) := by decide +kernel
theorem dM_outRow_29 : decode cM_outRow 29 = .ok (.aload_n 0, 1) := by decide +kernel
theorem dM_outRow_30 : decode cM_outRow 30 = .ok (.getfield 169, 3) := by decide +kernel
theorem dM_outRow_33 : decode cM_outRow 33 = .ok (.ifCond .eq 12, 3) := by decide +kernel
theorem dM_outRow_36 : decode cM_outRow 36 = .ok (.aload_n 0, 1) := by decide +kernel
theorem dM_outRow_37 : decode cM_outRow 37 = .ok (.getfield 80, 3) := by decide +kernel
theorem dM_outRow_40 : decode cM_outRow 40 = .ok (.iload_n 1, 1) := by decide +kernel
theorem dM_outRow_41 : decode cM_outRow 41 = .ok (.iaload, 1) := by decide +kernel
theorem dM_outRow_42 : decode cM_outRow 42 = .ok (.goto 4, 3) := by decide +kernel
theorem dM_outRow_45 : decode cM_outRow 45 = .ok (.iconst (-1), 1) := by decide +kernel
theorem dM_outRow_46 : decode cM_outRow 46 = .ok (.ireturn, 1) := by decide +kernel
theorem dM_find_0 : decode cM_find 0 = .ok (.aload_n 0, 1) := by decide +kernel
theorem dM_find_1 : decode cM_find 1 = .ok (.iconst 0, 1) := by decide +kernel
theorem dM_find_2 : decode cM_find 2 = .ok (.putfield 83, 3) := by decide +kernel
theorem dM_find_5 : decode cM_find 5 = .ok (.iconst (-1), 1) := by decide +kernel
theorem dM_find_6 : decode cM_find 6 = .ok (.istore 4, 2) := by decide +kernel
theorem dM_find_8 : decode cM_find 8 = .ok (.iload_n 1, 1) := by decide +kernel
theorem dM_find_9 : decode cM_find 9 = .ok (.invokestatic 112, 3) := by decide +kernel
theorem dM_find_12 : decode cM_find 12 = .ok (.istore 5, 2) := by decide +kernel
theorem dM_find_14 : decode cM_find 14 = .ok (.aload_n 0, 1) := by decide +kernel
theorem dM_find_15 : decode cM_find 15 = .ok (.iload_n 1, 1) := by decide +kernel
theorem dM_find_16 : decode cM_find 16 = .ok (.invokevirtual 160, 3) := by decide +kernel
theorem dM_find_19 : decode cM_find 19 = .ok (.ifCond .eq 138, 3) := by decide +kernel
theorem dM_find_22 : decode cM_find 22 = .ok (.iload 5, 2) := by decide +kernel
theorem dM_find_24 : decode cM_find 24 = .ok (.iload_n 1, 1) := by decide +kernel
theorem dM_find_25 : decode cM_find 25 = .ok (.invokestatic 116, 3) := by decide +kernel
theorem dM_find_28 : decode cM_find 28 = .ok (.if_icmp .ge 129, 3) := by decide +kernel
theorem dM_find_31 : decode cM_find 31 = .ok (.iconst 0, 1) := by decide +kernel
theorem dM_find_32 : decode cM_find 32 = .ok (.istore 6, 2) := by decide +kernel
theorem dM_find_34 : decode cM_find 34 = .ok (.iconst 0, 1) := by decide +kernel
theorem dM_find_35 : decode cM_find 35 = .ok (.istore 7, 2) := by decide +kernel
theorem dM_find_37 : decode cM_find 37 = .ok (.iload 7, 2) := by decide +kernel
theorem dM_find_39 : decode cM_find 39 = .ok (.aload_n 0, 1) := by decide +kernel
theorem dM_find_40 : decode cM_find 40 = .ok (.getfield 34, 3) := by decide +kernel
theorem dM_find_43 : decode cM_find 43 = .ok (.iload 5, 2) := by decide +kernel
theorem dM_find_45 : decode cM_find 45 = .ok (.iaload, 1) := by decide +kernel
theorem dM_find_46 : decode cM_find 46 = .ok (.if_icmp .ge 37, 3) := by decide +kernel
theorem dM_find_49 : decode cM_find 49 = .ok (.iload 6, 2) := by decide +kernel
theorem dM_find_51 : decode cM_find 51 = .ok (.ifCond .ne 19, 3) := by decide +kernel
theorem dM_find_54 : decode cM_find 54 = .ok (.aload_n 0, 1) := by decide +kernel
theorem dM_find_55 : decode cM_find 55 = .ok (.getfield 37, 3) := by decide +kernel
theorem dM_find_58 : decode cM_find 58 = .ok (.iconst 4, 1) := by decide +kernel
theorem dM_find_59 : decode cM_find 59 = .ok (.iload 5, 2) := by decide +kernel
theorem dM_find_61 : decode cM_find 61 = .ok (.imul, 1) := by decide +kernel
theorem dM_find_62 : decode cM_find 62 = .ok (.iload 7, 2) := by decide +kernel
theorem dM_find_64 : decode cM_find 64 = .ok (.iadd, 1) := by decide +kernel
theorem dM_find_65 : decode cM_find 65 = .ok (.iaload, 1) := by decide +kernel
theorem dM_find_66 : decode cM_find 66 = .ok (.iload_n 2, 1) := by decide +kernel
theorem dM_find_67 : decode cM_find 67 = .ok (.if_icmp .ne 7, 3) := by decide +kernel
theorem dM_find_70 : decode cM_find 70 = .ok (.iconst 1, 1) := by decide +kernel
theorem dM_find_71 : decode cM_find 71 = .ok (.goto 4, 3) := by decide +kernel
theorem dM_find_74 : decode cM_find 74 = .ok (.iconst 0, 1) := by decide +kernel
theorem dM_find_75 : decode cM_find 75 = .ok (.istore 6, 2) := by decide +kernel
theorem dM_find_77 : decode cM_find 77 = .ok (.iinc 7 1, 3) := by decide +kernel
theorem dM_find_80 : decode cM_find 80 = .ok (.goto (-43), 3) := by decide +kernel
theorem dM_find_83 : decode cM_find 83 = .ok (.iload 6, 2) := by decide +kernel
theorem dM_find_85 : decode cM_find 85 = .ok (.ifCond .eq 44, 3) := by decide +kernel
theorem dM_find_88 : decode cM_find 88 = .ok (.aload_n 0, 1) := by decide +kernel
theorem dM_find_89 : decode cM_find 89 = .ok (.getfield 28, 3) := by decide +kernel
theorem dM_find_92 : decode cM_find 92 = .ok (.iload 5, 2) := by decide +kernel
theorem dM_find_94 : decode cM_find 94 = .ok (.iaload, 1) := by decide +kernel
theorem dM_find_95 : decode cM_find 95 = .ok (.iload_n 3, 1) := by decide +kernel
theorem dM_find_96 : decode cM_find 96 = .ok (.if_icmp .lt 33, 3) := by decide +kernel
theorem dM_find_99 : decode cM_find 99 = .ok (.aload_n 0, 1) := by decide +kernel
theorem dM_find_100 : decode cM_find 100 = .ok (.iload 5, 2) := by decide +kernel
theorem dM_find_102 : decode cM_find 102 = .ok (.invokevirtual 163, 3) := by decide +kernel
theorem dM_find_105 : decode cM_find 105 = .ok (.ifCond .eq 24, 3) := by decide +kernel
theorem dM_find_108 : decode cM_find 108 = .ok (.iload 4, 2) := by decide +kernel
theorem dM_find_110 : decode cM_find 110 = .ok (.ifCond .lt 15, 3) := by decide +kernel
theorem dM_find_113 : decode cM_find 113 = .ok (.aload_n 0, 1) := by decide +kernel
theorem dM_find_114 : decode cM_find 114 = .ok (.getfield 28, 3) := by decide +kernel
theorem dM_find_117 : decode cM_find 117 = .ok (.iload 5, 2) := by decide +kernel
theorem dM_find_119 : decode cM_find 119 = .ok (.iaload, 1) := by decide +kernel
theorem dM_find_120 : decode cM_find 120 = .ok (.iload 4, 2) := by decide +kernel
theorem dM_find_122 : decode cM_find 122 = .ok (.if_icmp .ge 7, 3) := by decide +kernel
theorem dM_find_125 : decode cM_find 125 = .ok (.iconst 1, 1) := by decide +kernel
theorem dM_find_126 : decode cM_find 126 = .ok (.goto 4, 3) := by decide +kernel
theorem dM_find_129 : decode cM_find 129 = .ok (.iconst 0, 1) := by decide +kernel
theorem dM_find_130 : decode cM_find 130 = .ok (.istore 7, 2) := by decide +kernel
theorem dM_find_132 : decode cM_find 132 = .ok (.iload 7, 2) := by decide +kernel
theorem dM_find_134 : decode cM_find 134 = .ok (.ifCond .eq 13, 3) := by decide +kernel
theorem dM_find_137 : decode cM_find 137 = .ok (.aload_n 0, 1) := by decide +kernel
theorem dM_find_138 : decode cM_find 138 = .ok (.getfield 28, 3) := by decide +kernel
theorem dM_find_141 : decode cM_find 141 = .ok (.iload 5, 2) := by decide +kernel
theorem dM_find_143 : decode cM_find 143 = .ok (.iaload, 1) := by decide +kernel
theorem dM_find_144 : decode cM_find 144 = .ok (.goto 5, 3) := by decide +kernel
theorem dM_find_147 : decode cM_find 147 = .ok (.iload 4, 2) := by decide +kernel
theorem dM_find_149 : decode cM_find 149 = .ok (.istore 4, 2) := by decide +kernel
theorem dM_find_151 : decode cM_find 151 = .ok (.iinc 5 1, 3) := by decide +kernel
theorem dM_find_154 : decode cM_find 154 = .ok (.goto (-140), 3) := by decide +kernel
theorem dM_find_157 : decode cM_find 157 = .ok (.iload 4, 2) := by decide +kernel
theorem dM_find_159 : decode cM_find 159 = .ok (.ireturn, 1) := by decide +kernel
theorem dM_fail_0 : decode cM_fail 0 = .ok (.aload_n 0, 1) := by decide +kernel
theorem dM_fail_1 : decode cM_fail 1 = .ok (.iconst 0, 1) := by decide +kernel
theorem dM_fail_2 : decode cM_fail 2 = .ok (.putfield 83, 3) := by decide +kernel
theorem dM_fail_5 : decode cM_fail 5 = .ok (.aload_n 0, 1) := by decide +kernel
theorem dM_fail_6 : decode cM_fail 6 = .ok (.iload_n 1, 1) := by decide +kernel
theorem dM_fail_7 : decode cM_fail 7 = .ok (.invokevirtual 160, 3) := by decide +kernel
theorem dM_fail_10 : decode cM_fail 10 = .ok (.ifCond .eq 13, 3) := by decide +kernel
theorem dM_fail_13 : decode cM_fail 13 = .ok (.aload_n 0, 1) := by decide +kernel
theorem dM_fail_14 : decode cM_fail 14 = .ok (.getfield 17, 3) := by decide +kernel
theorem dM_fail_17 : decode cM_fail 17 = .ok (.iload_n 1, 1) := by decide +kernel
theorem dM_fail_18 : decode cM_fail 18 = .ok (.baload, 1) := by decide +kernel
theorem dM_fail_19 : decode cM_fail 19 = .ok (.iload_n 2, 1) := by decide +kernel
theorem dM_fail_20 : decode cM_fail 20 = .ok (.if_icmp .ne 5, 3) := by decide +kernel
theorem dM_fail_23 : decode cM_fail 23 = .ok (.iconst 0, 1) := by decide +kernel
theorem dM_fail_24 : decode cM_fail 24 = .ok (.ireturn, 1) := by decide +kernel
theorem dM_fail_25 : decode cM_fail 25 = .ok (.aload_n 0, 1) := by decide +kernel
theorem dM_fail_26 : decode cM_fail 26 = .ok (.getfield 17, 3) := by decide +kernel
theorem dM_fail_29 : decode cM_fail 29 = .ok (.iload_n 1, 1) := by decide +kernel
theorem dM_fail_30 : decode cM_fail 30 = .ok (.iload_n 2, 1) := by decide +kernel
theorem dM_fail_31 : decode cM_fail 31 = .ok (.bastore, 1) := by decide +kernel
theorem dM_fail_32 : decode cM_fail 32 = .ok (.iconst 1, 1) := by decide +kernel
theorem dM_fail_33 : decode cM_fail 33 = .ok (.ireturn, 1) := by decide +kernel
theorem dM_cutAfter_0 : decode cM_cutAfter 0 = .ok (.aload_n 0, 1) := by decide +kernel
theorem dM_cutAfter_1 : decode cM_cutAfter 1 = .ok (.iconst 0, 1) := by decide +kernel
theorem dM_cutAfter_2 : decode cM_cutAfter 2 = .ok (.putfield 83, 3) := by decide +kernel
theorem dM_cutAfter_5 : decode cM_cutAfter 5 = .ok (.iload_n 1, 1) := by decide +kernel
theorem dM_cutAfter_6 : decode cM_cutAfter 6 = .ok (.ifCond .lt 16, 3) := by decide +kernel
theorem dM_cutAfter_9 : decode cM_cutAfter 9 = .ok (.iload_n 1, 1) := by decide +kernel
theorem dM_cutAfter_10 : decode cM_cutAfter 10 = .ok (.bipush 100, 2) := by decide +kernel
theorem dM_cutAfter_12 : decode cM_cutAfter 12 = .ok (.if_icmp .gt 10, 3) := by decide +kernel
theorem dM_cutAfter_15 : decode cM_cutAfter 15 = .ok (.aload_n 0, 1) := by decide +kernel
theorem dM_cutAfter_16 : decode cM_cutAfter 16 = .ok (.getfield 7, 3) := by decide +kernel
theorem dM_cutAfter_19 : decode cM_cutAfter 19 = .ok (.ifCond .ne 5, 3) := by decide +kernel
theorem dM_cutAfter_22 : decode cM_cutAfter 22 = .ok (.iconst 0, 1) := by decide +kernel
theorem dM_cutAfter_23 : decode cM_cutAfter 23 = .ok (.ireturn, 1) := by decide +kernel
theorem dM_cutAfter_24 : decode cM_cutAfter 24 = .ok (.aload_n 0, 1) := by decide +kernel
theorem dM_cutAfter_25 : decode cM_cutAfter 25 = .ok (.iload_n 1, 1) := by decide +kernel
theorem dM_cutAfter_26 : decode cM_cutAfter 26 = .ok (.putfield 13, 3) := by decide +kernel
theorem dM_cutAfter_29 : decode cM_cutAfter 29 = .ok (.iconst 1, 1) := by decide +kernel
theorem dM_cutAfter_30 : decode cM_cutAfter 30 = .ok (.ireturn, 1) := by decide +kernel
theorem dM_start_0 : decode cM_start 0 = .ok (.aload_n 0, 1) := by decide +kernel
theorem dM_start_1 : decode cM_start 1 = .ok (.iconst 0, 1) := by decide +kernel
theorem dM_start_2 : decode cM_start 2 = .ok (.putfield 83, 3) := by decide +kernel
theorem dM_start_5 : decode cM_start 5 = .ok (.aload_n 0, 1) := by decide +kernel
theorem dM_start_6 : decode cM_start 6 = .ok (.getfield 7, 3) := by decide +kernel
theorem dM_start_9 : decode cM_start 9 = .ok (.ifCond .eq 5, 3) := by decide +kernel
theorem dM_start_12 : decode cM_start 12 = .ok (.iconst 0, 1) := by decide +kernel
theorem dM_start_13 : decode cM_start 13 = .ok (.ireturn, 1) := by decide +kernel
theorem dM_start_14 : decode cM_start 14 = .ok (.aload_n 0, 1) := by decide +kernel
theorem dM_start_15 : decode cM_start 15 = .ok (.iconst 1, 1) := by decide +kernel
theorem dM_start_16 : decode cM_start 16 = .ok (.putfield 7, 3) := by decide +kernel
theorem dM_start_19 : decode cM_start 19 = .ok (.iconst 1, 1) := by decide +kernel
theorem dM_start_20 : decode cM_start 20 = .ok (.ireturn, 1) := by decide +kernel
theorem dM_spoil_0 : decode cM_spoil 0 = .ok (.aload_n 0, 1) := by decide +kernel
theorem dM_spoil_1 : decode cM_spoil 1 = .ok (.iconst 0, 1) := by decide +kernel
theorem dM_spoil_2 : decode cM_spoil 2 = .ok (.putfield 83, 3) := by decide +kernel
theorem dM_spoil_5 : decode cM_spoil 5 = .ok (.aload_n 0, 1) := by decide +kernel
theorem dM_spoil_6 : decode cM_spoil 6 = .ok (.iload_n 1, 1) := by decide +kernel
theorem dM_spoil_7 : decode cM_spoil 7 = .ok (.invokevirtual 160, 3) := by decide +kernel
theorem dM_spoil_10 : decode cM_spoil 10 = .ok (.ifCond .eq 33, 3) := by decide +kernel
theorem dM_spoil_13 : decode cM_spoil 13 = .ok (.iload_n 2, 1) := by decide +kernel
theorem dM_spoil_14 : decode cM_spoil 14 = .ok (.iload_n 1, 1) := by decide +kernel
theorem dM_spoil_15 : decode cM_spoil 15 = .ok (.invokestatic 116, 3) := by decide +kernel
theorem dM_spoil_18 : decode cM_spoil 18 = .ok (.iload_n 1, 1) := by decide +kernel
theorem dM_spoil_19 : decode cM_spoil 19 = .ok (.invokestatic 112, 3) := by decide +kernel
theorem dM_spoil_22 : decode cM_spoil 22 = .ok (.isub, 1) := by decide +kernel
theorem dM_spoil_23 : decode cM_spoil 23 = .ok (.invokestatic 96, 3) := by decide +kernel
theorem dM_spoil_26 : decode cM_spoil 26 = .ok (.ifCond .eq 17, 3) := by decide +kernel
theorem dM_spoil_29 : decode cM_spoil 29 = .ok (.aload_n 0, 1) := by decide +kernel
theorem dM_spoil_30 : decode cM_spoil 30 = .ok (.getfield 25, 3) := by decide +kernel
theorem dM_spoil_33 : decode cM_spoil 33 = .ok (.iload_n 1, 1) := by decide +kernel
theorem dM_spoil_34 : decode cM_spoil 34 = .ok (.invokestatic 112, 3) := by decide +kernel
theorem dM_spoil_37 : decode cM_spoil 37 = .ok (.iload_n 2, 1) := by decide +kernel
theorem dM_spoil_38 : decode cM_spoil 38 = .ok (.iadd, 1) := by decide +kernel
theorem dM_spoil_39 : decode cM_spoil 39 = .ok (.baload, 1) := by decide +kernel
theorem dM_spoil_40 : decode cM_spoil 40 = .ok (.ifCond .eq 5, 3) := by decide +kernel
theorem dM_spoil_43 : decode cM_spoil 43 = .ok (.iconst 0, 1) := by decide +kernel
theorem dM_spoil_44 : decode cM_spoil 44 = .ok (.ireturn, 1) := by decide +kernel
theorem dM_spoil_45 : decode cM_spoil 45 = .ok (.aload_n 0, 1) := by decide +kernel
theorem dM_spoil_46 : decode cM_spoil 46 = .ok (.getfield 25, 3) := by decide +kernel
theorem dM_spoil_49 : decode cM_spoil 49 = .ok (.iload_n 1, 1) := by decide +kernel
theorem dM_spoil_50 : decode cM_spoil 50 = .ok (.invokestatic 112, 3) := by decide +kernel
theorem dM_spoil_53 : decode cM_spoil 53 = .ok (.iload_n 2, 1) := by decide +kernel
theorem dM_spoil_54 : decode cM_spoil 54 = .ok (.iadd, 1) := by decide +kernel
theorem dM_spoil_55 : decode cM_spoil 55 = .ok (.iconst 1, 1) := by decide +kernel
theorem dM_spoil_56 : decode cM_spoil 56 = .ok (.bastore, 1) := by decide +kernel
theorem dM_spoil_57 : decode cM_spoil 57 = .ok (.iconst 1, 1) := by decide +kernel
theorem dM_spoil_58 : decode cM_spoil 58 = .ok (.ireturn, 1) := by decide +kernel
theorem dM_unreadable_0 : decode cM_unreadable 0 = .ok (.aload_n 0, 1) := by decide +kernel
theorem dM_unreadable_1 : decode cM_unreadable 1 = .ok (.iconst 0, 1) := by decide +kernel
theorem dM_unreadable_2 : decode cM_unreadable 2 = .ok (.putfield 83, 3) := by decide +kernel
theorem dM_unreadable_5 : decode cM_unreadable 5 = .ok (.aload_n 0, 1) := by decide +kernel
theorem dM_unreadable_6 : decode cM_unreadable 6 = .ok (.iload_n 1, 1) := by decide +kernel
theorem dM_unreadable_7 : decode cM_unreadable 7 = .ok (.invokevirtual 160, 3) := by decide +kernel
theorem dM_unreadable_10 : decode cM_unreadable 10 = .ok (.ifCond .ne 5, 3) := by decide +kernel
theorem dM_unreadable_13 : decode cM_unreadable 13 = .ok (.iconst (-1), 1) := by decide +kernel
theorem dM_unreadable_14 : decode cM_unreadable 14 = .ok (.ireturn, 1) := by decide +kernel
theorem dM_unreadable_15 : decode cM_unreadable 15 = .ok (.iconst 0, 1) := by decide +kernel
theorem dM_unreadable_16 : decode cM_unreadable 16 = .ok (.istore_n 2, 1) := by decide +kernel
theorem dM_unreadable_17 : decode cM_unreadable 17 = .ok (.iload_n 1, 1) := by decide +kernel
theorem dM_unreadable_18 : decode cM_unreadable 18 = .ok (.invokestatic 112, 3) := by decide +kernel
theorem dM_unreadable_21 : decode cM_unreadable 21 = .ok (.istore_n 3, 1) := by decide +kernel
theorem dM_unreadable_22 : decode cM_unreadable 22 = .ok (.iload_n 3, 1) := by decide +kernel
theorem dM_unreadable_23 : decode cM_unreadable 23 = .ok (.iload_n 1, 1) := by decide +kernel
theorem dM_unreadable_24 : decode cM_unreadable 24 = .ok (.invokestatic 116, 3) := by decide +kernel
theorem dM_unreadable_27 : decode cM_unreadable 27 = .ok (.if_icmp .ge 34, 3) := by decide +kernel
theorem dM_unreadable_30 : decode cM_unreadable 30 = .ok (.aload_n 0, 1) := by decide +kernel
theorem dM_unreadable_31 : decode cM_unreadable 31 = .ok (.getfield 28, 3) := by decide +kernel
theorem dM_unreadable_34 : decode cM_unreadable 34 = .ok (.iload_n 3, 1) := by decide +kernel
theorem dM_unreadable_35 : decode cM_unreadable 35 = .ok (.iaload, 1) := by decide +kernel
theorem dM_unreadable_36 : decode cM_unreadable 36 = .ok (.ifCond .lt 17, 3) := by decide +kernel
theorem dM_unreadable_39 : decode cM_unreadable 39 = .ok (.aload_n 0, 1) := by decide +kernel
theorem dM_unreadable_40 : decode cM_unreadable 40 = .ok (.iload_n 3, 1) := by decide +kernel
theorem dM_unreadable_41 : decode cM_unreadable 41 = .ok (.invokevirtual 163, 3) := by decide +kernel
theorem dM_unreadable_44 : decode cM_unreadable 44 = .ok (.ifCond .ne 9, 3) := by decide +kernel
theorem dM_unreadable_47 : decode cM_unreadable 47 = .ok (.iload_n 2, 1) := by decide +kernel
theorem dM_unreadable_48 : decode cM_unreadable 48 = .ok (.iconst 1, 1) := by decide +kernel
theorem dM_unreadable_49 : decode cM_unreadable 49 = .ok (.iadd, 1) := by decide +kernel
theorem dM_unreadable_50 : decode cM_unreadable 50 = .ok (.goto 4, 3) := by decide +kernel
theorem dM_unreadable_53 : decode cM_unreadable 53 = .ok (.iload_n 2, 1) := by decide +kernel
theorem dM_unreadable_54 : decode cM_unreadable 54 = .ok (.istore_n 2, 1) := by decide +kernel
theorem dM_unreadable_55 : decode cM_unreadable 55 = .ok (.iinc 3 1, 3) := by decide +kernel
theorem dM_unreadable_58 : decode cM_unreadable 58 = .ok (.goto (-36), 3) := by decide +kernel
theorem dM_unreadable_61 : decode cM_unreadable 61 = .ok (.iload_n 2, 1) := by decide +kernel
theorem dM_unreadable_62 : decode cM_unreadable 62 = .ok (.ireturn, 1) := by decide +kernel
