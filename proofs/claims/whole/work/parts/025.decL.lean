theorem dL_sentence_0 : decode cL_sentence 0 = .ok (.aload 4, 2) := by decide +kernel
theorem dL_sentence_2 : decode cL_sentence 2 = .ok (.iconst 0, 1) := by decide +kernel
theorem dL_sentence_3 : decode cL_sentence 3 = .ok (.aload_n 0, 1) := by decide +kernel
theorem dL_sentence_4 : decode cL_sentence 4 = .ok (.iload_n 1, 1) := by decide +kernel
theorem dL_sentence_5 : decode cL_sentence 5 = .ok (.lload_n 2, 1) := by decide +kernel
theorem dL_sentence_6 : decode cL_sentence 6 = .ok (.invokevirtual 7, 3) := by decide +kernel
theorem dL_sentence_9 : decode cL_sentence 9 = .ok (.i2l, 1) := by decide +kernel
theorem dL_sentence_10 : decode cL_sentence 10 = .ok (.lastore, 1) := by decide +kernel
theorem dL_sentence_11 : decode cL_sentence 11 = .ok (.goto 7, 3) := by decide +kernel
theorem dL_sentence_14 : decode cL_sentence 14 = .ok (.astore 5, 2) := by decide +kernel
theorem dL_sentence_16 : decode cL_sentence 16 = .ok (.iconst 1, 1) := by decide +kernel
theorem dL_sentence_17 : decode cL_sentence 17 = .ok (.ireturn, 1) := by decide +kernel
theorem dL_sentence_18 : decode cL_sentence 18 = .ok (.iconst 0, 1) := by decide +kernel
theorem dL_sentence_19 : decode cL_sentence 19 = .ok (.ireturn, 1) := by decide +kernel
theorem dL_sound_0 : decode cL_sound 0 = .ok (.aload 4, 2) := by decide +kernel
theorem dL_sound_2 : decode cL_sound 2 = .ok (.iconst 0, 1) := by decide +kernel
theorem dL_sound_3 : decode cL_sound 3 = .ok (.aload_n 0, 1) := by decide +kernel
theorem dL_sound_4 : decode cL_sound 4 = .ok (.iload_n 1, 1) := by decide +kernel
theorem dL_sound_5 : decode cL_sound 5 = .ok (.iload_n 2, 1) := by decide +kernel
theorem dL_sound_6 : decode cL_sound 6 = .ok (.iload_n 3, 1) := by decide +kernel
theorem dL_sound_7 : decode cL_sound 7 = .ok (.invokevirtual 15, 3) := by decide +kernel
theorem dL_sound_10 : decode cL_sound 10 = .ok (.ifCond .eq 7, 3) := by decide +kernel
theorem dL_sound_13 : decode cL_sound 13 = .ok (.lconst 1, 1) := by decide +kernel
theorem dL_sound_14 : decode cL_sound 14 = .ok (.goto 4, 3) := by decide +kernel
theorem dL_sound_17 : decode cL_sound 17 = .ok (.lconst 0, 1) := by decide +kernel
theorem dL_sound_18 : decode cL_sound 18 = .ok (.lastore, 1) := by decide +kernel
theorem dL_sound_19 : decode cL_sound 19 = .ok (.goto 7, 3) := by decide +kernel
theorem dL_sound_22 : decode cL_sound 22 = .ok (.astore 5, 2) := by decide +kernel
theorem dL_sound_24 : decode cL_sound 24 = .ok (.iconst 1, 1) := by decide +kernel
theorem dL_sound_25 : decode cL_sound 25 = .ok (.ireturn, 1) := by decide +kernel
theorem dL_sound_26 : decode cL_sound 26 = .ok (.iconst 0, 1) := by decide +kernel
theorem dL_sound_27 : decode cL_sound 27 = .ok (.ireturn, 1) := by decide +kernel
theorem dL_paint_0 : decode cL_paint 0 = .ok (.aload_n 3, 1) := by decide +kernel
theorem dL_paint_1 : decode cL_paint 1 = .ok (.iconst 0, 1) := by decide +kernel
theorem dL_paint_2 : decode cL_paint 2 = .ok (.aload_n 0, 1) := by decide +kernel
theorem dL_paint_3 : decode cL_paint 3 = .ok (.iload_n 1, 1) := by decide +kernel
theorem dL_paint_4 : decode cL_paint 4 = .ok (.iload_n 2, 1) := by decide +kernel
theorem dL_paint_5 : decode cL_paint 5 = .ok (.invokevirtual 19, 3) := by decide +kernel
theorem dL_paint_8 : decode cL_paint 8 = .ok (.ifCond .eq 7, 3) := by decide +kernel
theorem dL_paint_11 : decode cL_paint 11 = .ok (.lconst 1, 1) := by decide +kernel
theorem dL_paint_12 : decode cL_paint 12 = .ok (.goto 4, 3) := by decide +kernel
theorem dL_paint_15 : decode cL_paint 15 = .ok (.lconst 0, 1) := by decide +kernel
theorem dL_paint_16 : decode cL_paint 16 = .ok (.lastore, 1) := by decide +kernel
theorem dL_paint_17 : decode cL_paint 17 = .ok (.goto 7, 3) := by decide +kernel
theorem dL_paint_20 : decode cL_paint 20 = .ok (.astore 4, 2) := by decide +kernel
theorem dL_paint_22 : decode cL_paint 22 = .ok (.iconst 1, 1) := by decide +kernel
theorem dL_paint_23 : decode cL_paint 23 = .ok (.ireturn, 1) := by decide +kernel
theorem dL_paint_24 : decode cL_paint 24 = .ok (.iconst 0, 1) := by decide +kernel
theorem dL_paint_25 : decode cL_paint 25 = .ok (.ireturn, 1) := by decide +kernel
theorem dL_show_0 : decode cL_show 0 = .ok (.aload_n 1, 1) := by decide +kernel
theorem dL_show_1 : decode cL_show 1 = .ok (.iconst 0, 1) := by decide +kernel
theorem dL_show_2 : decode cL_show 2 = .ok (.aload_n 0, 1) := by decide +kernel
theorem dL_show_3 : decode cL_show 3 = .ok (.invokevirtual 23, 3) := by decide +kernel
theorem dL_show_6 : decode cL_show 6 = .ok (.ifCond .eq 7, 3) := by decide +kernel
theorem dL_show_9 : decode cL_show 9 = .ok (.lconst 1, 1) := by decide +kernel
theorem dL_show_10 : decode cL_show 10 = .ok (.goto 4, 3) := by decide +kernel
theorem dL_show_13 : decode cL_show 13 = .ok (.lconst 0, 1) := by decide +kernel
theorem dL_show_14 : decode cL_show 14 = .ok (.lastore, 1) := by decide +kernel
theorem dL_show_15 : decode cL_show 15 = .ok (.goto 6, 3) := by decide +kernel
theorem dL_show_18 : decode cL_show 18 = .ok (.astore_n 2, 1) := by decide +kernel
theorem dL_show_19 : decode cL_show 19 = .ok (.iconst 1, 1) := by decide +kernel
theorem dL_show_20 : decode cL_show 20 = .ok (.ireturn, 1) := by decide +kernel
theorem dL_show_21 : decode cL_show 21 = .ok (.iconst 0, 1) := by decide +kernel
theorem dL_show_22 : decode cL_show 22 = .ok (.ireturn, 1) := by decide +kernel
theorem dL_contact_0 : decode cL_contact 0 = .ok (.aload_n 3, 1) := by decide +kernel
theorem dL_contact_1 : decode cL_contact 1 = .ok (.iconst 0, 1) := by decide +kernel
theorem dL_contact_2 : decode cL_contact 2 = .ok (.aload_n 0, 1) := by decide +kernel
theorem dL_contact_3 : decode cL_contact 3 = .ok (.iload_n 1, 1) := by decide +kernel
theorem dL_contact_4 : decode cL_contact 4 = .ok (.iload_n 2, 1) := by decide +kernel
theorem dL_contact_5 : decode cL_contact 5 = .ok (.invokevirtual 27, 3) := by decide +kernel
theorem dL_contact_8 : decode cL_contact 8 = .ok (.ifCond .eq 7, 3) := by decide +kernel
theorem dL_contact_11 : decode cL_contact 11 = .ok (.lconst 1, 1) := by decide +kernel
theorem dL_contact_12 : decode cL_contact 12 = .ok (.goto 4, 3) := by decide +kernel
theorem dL_contact_15 : decode cL_contact 15 = .ok (.lconst 0, 1) := by decide +kernel
theorem dL_contact_16 : decode cL_contact 16 = .ok (.lastore, 1) := by decide +kernel
theorem dL_contact_17 : decode cL_contact 17 = .ok (.goto 7, 3) := by decide +kernel
theorem dL_contact_20 : decode cL_contact 20 = .ok (.astore 4, 2) := by decide +kernel
theorem dL_contact_22 : decode cL_contact 22 = .ok (.iconst 1, 1) := by decide +kernel
theorem dL_contact_23 : decode cL_contact 23 = .ok (.ireturn, 1) := by decide +kernel
theorem dL_contact_24 : decode cL_contact 24 = .ok (.iconst 0, 1) := by decide +kernel
theorem dL_contact_25 : decode cL_contact 25 = .ok (.ireturn, 1) := by decide +kernel
theorem dL_second_0 : decode cL_second 0 = .ok (.aload_n 2, 1) := by decide +kernel
theorem dL_second_1 : decode cL_second 1 = .ok (.iconst 0, 1) := by decide +kernel
theorem dL_second_2 : decode cL_second 2 = .ok (.aload_n 0, 1) := by decide +kernel
theorem dL_second_3 : decode cL_second 3 = .ok (.iload_n 1, 1) := by decide +kernel
theorem dL_second_4 : decode cL_second 4 = .ok (.invokevirtual 31, 3) := by decide +kernel
theorem dL_second_7 : decode cL_second 7 = .ok (.i2l, 1) := by decide +kernel
theorem dL_second_8 : decode cL_second 8 = .ok (.lastore, 1) := by decide +kernel
theorem dL_second_9 : decode cL_second 9 = .ok (.goto 9, 3) := by decide +kernel
theorem dL_second_12 : decode cL_second 12 = .ok (.astore_n 3, 1) := by decide +kernel
theorem dL_second_13 : decode cL_second 13 = .ok (.iconst 1, 1) := by decide +kernel
theorem dL_second_14 : decode cL_second 14 = .ok (.ireturn, 1) := by decide +kernel
theorem dL_second_15 : decode cL_second 15 = .ok (.astore_n 3, 1) := by decide +kernel
theorem dL_second_16 : decode cL_second 16 = .ok (.iconst 2, 1) := by decide +kernel
theorem dL_second_17 : decode cL_second 17 = .ok (.ireturn, 1) := by decide +kernel
theorem dL_second_18 : decode cL_second 18 = .ok (.iconst 0, 1) := by decide +kernel
theorem dL_second_19 : decode cL_second 19 = .ok (.ireturn, 1) := by decide +kernel
theorem dL_freeze_0 : decode cL_freeze 0 = .ok (.aload_n 3, 1) := by decide +kernel
theorem dL_freeze_1 : decode cL_freeze 1 = .ok (.iconst 0, 1) := by decide +kernel
theorem dL_freeze_2 : decode cL_freeze 2 = .ok (.aload_n 0, 1) := by decide +kernel
theorem dL_freeze_3 : decode cL_freeze 3 = .ok (.iload_n 1, 1) := by decide +kernel
theorem dL_freeze_4 : decode cL_freeze 4 = .ok (.iload_n 2, 1) := by decide +kernel
theorem dL_freeze_5 : decode cL_freeze 5 = .ok (.invokevirtual 37, 3) := by decide +kernel
theorem dL_freeze_8 : decode cL_freeze 8 = .ok (.i2l, 1) := by decide +kernel
theorem dL_freeze_9 : decode cL_freeze 9 = .ok (.lastore, 1) := by decide +kernel
theorem dL_freeze_10 : decode cL_freeze 10 = .ok (.goto 7, 3) := by decide +kernel
theorem dL_freeze_13 : decode cL_freeze 13 = .ok (.astore 4, 2) := by decide +kernel
theorem dL_freeze_15 : decode cL_freeze 15 = .ok (.iconst 1, 1) := by decide +kernel
theorem dL_freeze_16 : decode cL_freeze 16 = .ok (.ireturn, 1) := by decide +kernel
theorem dL_freeze_17 : decode cL_freeze 17 = .ok (.iconst 0, 1) := by decide +kernel
theorem dL_freeze_18 : decode cL_freeze 18 = .ok (.ireturn, 1) := by decide +kernel
theorem dL_release_0 : decode cL_release 0 = .ok (.aload_n 2, 1) := by decide +kernel
theorem dL_release_1 : decode cL_release 1 = .ok (.iconst 0, 1) := by decide +kernel
theorem dL_release_2 : decode cL_release 2 = .ok (.aload_n 0, 1) := by decide +kernel
theorem dL_release_3 : decode cL_release 3 = .ok (.iload_n 1, 1) := by decide +kernel
theorem dL_release_4 : decode cL_release 4 = .ok (.invokevirtual 41, 3) := by decide +kernel
theorem dL_release_7 : decode cL_release 7 = .ok (.ifCond .eq 7, 3) := by decide +kernel
theorem dL_release_10 : decode cL_release 10 = .ok (.lconst 1, 1) := by decide +kernel
theorem dL_release_11 : decode cL_release 11 = .ok (.goto 4, 3) := by decide +kernel
theorem dL_release_14 : decode cL_release 14 = .ok (.lconst 0, 1) := by decide +kernel
theorem dL_release_15 : decode cL_release 15 = .ok (.lastore, 1) := by decide +kernel
theorem dL_release_16 : decode cL_release 16 = .ok (.goto 6, 3) := by decide +kernel
theorem dL_release_19 : decode cL_release 19 = .ok (.astore_n 3, 1) := by decide +kernel
theorem dL_release_20 : decode cL_release 20 = .ok (.iconst 1, 1) := by decide +kernel
theorem dL_release_21 : decode cL_release 21 = .ok (.ireturn, 1) := by decide +kernel
theorem dL_release_22 : decode cL_release 22 = .ok (.iconst 0, 1) := by decide +kernel
theorem dL_release_23 : decode cL_release 23 = .ok (.ireturn, 1) := by decide +kernel
theorem dL_law_0 : decode code 0 = .ok (.new 8, 3) := by decide +kernel
theorem dL_law_3 : decode code 3 = .ok (.dup, 1) := by decide +kernel
theorem dL_law_4 : decode code 4 = .ok (.invokespecial 45, 3) := by decide +kernel
theorem dL_law_7 : decode code 7 = .ok (.astore_n 1, 1) := by decide +kernel
theorem dL_law_8 : decode code 8 = .ok (.new 46, 3) := by decide +kernel
theorem dL_law_11 : decode code 11 = .ok (.dup, 1) := by decide +kernel
theorem dL_law_12 : decode code 12 = .ok (.invokespecial 48, 3) := by decide +kernel
theorem dL_law_15 : decode code 15 = .ok (.astore_n 2, 1) := by decide +kernel
theorem dL_law_16 : decode code 16 = .ok (.iconst 1, 1) := by decide +kernel
theorem dL_law_17 : decode code 17 = .ok (.newarray .long, 2) := by decide +kernel
theorem dL_law_19 : decode code 19 = .ok (.astore_n 3, 1) := by decide +kernel
theorem dL_law_20 : decode code 20 = .ok (.iconst 0, 1) := by decide +kernel
theorem dL_law_21 : decode code 21 = .ok (.istore 4, 2) := by decide +kernel
theorem dL_law_23 : decode code 23 = .ok (.iload 4, 2) := by decide +kernel
theorem dL_law_25 : decode code 25 = .ok (.aload_n 0, 1) := by decide +kernel
theorem dL_law_26 : decode code 26 = .ok (.arraylength, 1) := by decide +kernel
theorem dL_law_27 : decode code 27 = .ok (.iconst 4, 1) := by decide +kernel
theorem dL_law_28 : decode code 28 = .ok (.isub, 1) := by decide +kernel
theorem dL_law_29 : decode code 29 = .ok (.if_icmp .gt 1266, 3) := by decide +kernel
theorem dL_law_32 : decode code 32 = .ok (.aload_n 0, 1) := by decide +kernel
theorem dL_law_33 : decode code 33 = .ok (.iload 4, 2) := by decide +kernel
theorem dL_law_35 : decode code 35 = .ok (.iaload, 1) := by decide +kernel
theorem dL_law_36 : decode code 36 = .ok (.bipush 31, 2) := by decide +kernel
theorem dL_law_38 : decode code 38 = .ok (.iand, 1) := by decide +kernel
theorem dL_law_39 : decode code 39 = .ok (.tableswitch 1250 0 24 #[113, 213, 300, 375, 426, 517, 573, 586, 654, 717, 770, 823, 848, 885, 922, 948, 973, 1010, 1023, 1048, 1097, 1150, 1175, 1188, 1225], 113) := by decide +kernel
theorem dL_law_152 : decode code 152 = .ok (.aload_n 1, 1) := by decide +kernel
theorem dL_law_153 : decode code 153 = .ok (.aload_n 0, 1) := by decide +kernel
theorem dL_law_154 : decode code 154 = .ok (.iload 4, 2) := by decide +kernel
theorem dL_law_156 : decode code 156 = .ok (.iconst 1, 1) := by decide +kernel
theorem dL_law_157 : decode code 157 = .ok (.iadd, 1) := by decide +kernel
theorem dL_law_158 : decode code 158 = .ok (.iaload, 1) := by decide +kernel
theorem dL_law_159 : decode code 159 = .ok (.aload_n 0, 1) := by decide +kernel
theorem dL_law_160 : decode code 160 = .ok (.iload 4, 2) := by decide +kernel
theorem dL_law_162 : decode code 162 = .ok (.iconst 2, 1) := by decide +kernel
theorem dL_law_163 : decode code 163 = .ok (.iadd, 1) := by decide +kernel
theorem dL_law_164 : decode code 164 = .ok (.iaload, 1) := by decide +kernel
theorem dL_law_165 : decode code 165 = .ok (.i2l, 1) := by decide +kernel
theorem dL_law_166 : decode code 166 = .ok (.bipush 32, 2) := by decide +kernel
theorem dL_law_168 : decode code 168 = .ok (.lshl, 1) := by decide +kernel
theorem dL_law_169 : decode code 169 = .ok (.aload_n 0, 1) := by decide +kernel
theorem dL_law_170 : decode code 170 = .ok (.iload 4, 2) := by decide +kernel
theorem dL_law_172 : decode code 172 = .ok (.iconst 3, 1) := by decide +kernel
theorem dL_law_173 : decode code 173 = .ok (.iadd, 1) := by decide +kernel
theorem dL_law_174 : decode code 174 = .ok (.iaload, 1) := by decide +kernel
theorem dL_law_175 : decode code 175 = .ok (.i2l, 1) := by decide +kernel
theorem dL_law_176 : decode code 176 = .ok (.ldc2_w 49, 3) := by decide +kernel
theorem dL_law_179 : decode code 179 = .ok (.land, 1) := by decide +kernel
theorem dL_law_180 : decode code 180 = .ok (.lor, 1) := by decide +kernel
theorem dL_law_181 : decode code 181 = .ok (.aload_n 3, 1) := by decide +kernel
theorem dL_law_182 : decode code 182 = .ok (.invokestatic 51, 3) := by decide +kernel
theorem dL_law_185 : decode code 185 = .ok (.istore 5, 2) := by decide +kernel
theorem dL_law_187 : decode code 187 = .ok (.aload_n 2, 1) := by decide +kernel
theorem dL_law_188 : decode code 188 = .ok (.aload_n 0, 1) := by decide +kernel
theorem dL_law_189 : decode code 189 = .ok (.iload 4, 2) := by decide +kernel
theorem dL_law_191 : decode code 191 = .ok (.iconst 1, 1) := by decide +kernel
theorem dL_law_192 : decode code 192 = .ok (.iadd, 1) := by decide +kernel
theorem dL_law_193 : decode code 193 = .ok (.iaload, 1) := by decide +kernel
theorem dL_law_194 : decode code 194 = .ok (.aload_n 0, 1) := by decide +kernel
theorem dL_law_195 : decode code 195 = .ok (.iload 4, 2) := by decide +kernel
theorem dL_law_197 : decode code 197 = .ok (.iconst 2, 1) := by decide +kernel
theorem dL_law_198 : decode code 198 = .ok (.iadd, 1) := by decide +kernel
theorem dL_law_199 : decode code 199 = .ok (.iaload, 1) := by decide +kernel
theorem dL_law_200 : decode code 200 = .ok (.i2l, 1) := by decide +kernel
theorem dL_law_201 : decode code 201 = .ok (.bipush 32, 2) := by decide +kernel
theorem dL_law_203 : decode code 203 = .ok (.lshl, 1) := by decide +kernel
theorem dL_law_204 : decode code 204 = .ok (.aload_n 0, 1) := by decide +kernel
theorem dL_law_205 : decode code 205 = .ok (.iload 4, 2) := by decide +kernel
theorem dL_law_207 : decode code 207 = .ok (.iconst 3, 1) := by decide +kernel
theorem dL_law_208 : decode code 208 = .ok (.iadd, 1) := by decide +kernel
theorem dL_law_209 : decode code 209 = .ok (.iaload, 1) := by decide +kernel
theorem dL_law_210 : decode code 210 = .ok (.i2l, 1) := by decide +kernel
theorem dL_law_211 : decode code 211 = .ok (.ldc2_w 49, 3) := by decide +kernel
theorem dL_law_214 : decode code 214 = .ok (.land, 1) := by decide +kernel
theorem dL_law_215 : decode code 215 = .ok (.lor, 1) := by decide +kernel
theorem dL_law_216 : decode code 216 = .ok (.invokevirtual 56, 3) := by decide +kernel
theorem dL_law_219 : decode code 219 = .ok (.istore 6, 2) := by decide +kernel
theorem dL_law_221 : decode code 221 = .ok (.aload_n 2, 1) := by decide +kernel
theorem dL_law_222 : decode code 222 = .ok (.invokevirtual 57, 3) := by decide +kernel
theorem dL_law_225 : decode code 225 = .ok (.iload 5, 2) := by decide +kernel
theorem dL_law_227 : decode code 227 = .ok (.if_icmp .eq 5, 3) := by decide +kernel
theorem dL_law_230 : decode code 230 = .ok (.iconst 0, 1) := by decide +kernel
theorem dL_law_231 : decode code 231 = .ok (.ireturn, 1) := by decide +kernel
theorem dL_law_232 : decode code 232 = .ok (.iload 5, 2) := by decide +kernel
theorem dL_law_234 : decode code 234 = .ok (.ifCond .ne 15, 3) := by decide +kernel
theorem dL_law_237 : decode code 237 = .ok (.aload_n 3, 1) := by decide +kernel
theorem dL_law_238 : decode code 238 = .ok (.iconst 0, 1) := by decide +kernel
theorem dL_law_239 : decode code 239 = .ok (.laload, 1) := by decide +kernel
theorem dL_law_240 : decode code 240 = .ok (.iload 6, 2) := by decide +kernel
theorem dL_law_242 : decode code 242 = .ok (.i2l, 1) := by decide +kernel
theorem dL_law_243 : decode code 243 = .ok (.lcmp, 1) := by decide +kernel
theorem dL_law_244 : decode code 244 = .ok (.ifCond .eq 5, 3) := by decide +kernel
theorem dL_law_247 : decode code 247 = .ok (.iconst 0, 1) := by decide +kernel
theorem dL_law_248 : decode code 248 = .ok (.ireturn, 1) := by decide +kernel
theorem dL_law_249 : decode code 249 = .ok (.goto 1040, 3) := by decide +kernel
theorem dL_law_252 : decode code 252 = .ok (.aload_n 1, 1) := by decide +kernel
theorem dL_law_253 : decode code 253 = .ok (.aload_n 0, 1) := by decide +kernel
theorem dL_law_254 : decode code 254 = .ok (.iload 4, 2) := by decide +kernel
theorem dL_law_256 : decode code 256 = .ok (.iconst 1, 1) := by decide +kernel
theorem dL_law_257 : decode code 257 = .ok (.iadd, 1) := by decide +kernel
theorem dL_law_258 : decode code 258 = .ok (.iaload, 1) := by decide +kernel
theorem dL_law_259 : decode code 259 = .ok (.aload_n 0, 1) := by decide +kernel
theorem dL_law_260 : decode code 260 = .ok (.iload 4, 2) := by decide +kernel
theorem dL_law_262 : decode code 262 = .ok (.iconst 2, 1) := by decide +kernel
theorem dL_law_263 : decode code 263 = .ok (.iadd, 1) := by decide +kernel
theorem dL_law_264 : decode code 264 = .ok (.iaload, 1) := by decide +kernel
theorem dL_law_265 : decode code 265 = .ok (.aload_n 0, 1) := by decide +kernel
theorem dL_law_266 : decode code 266 = .ok (.iload 4, 2) := by decide +kernel
theorem dL_law_268 : decode code 268 = .ok (.iconst 3, 1) := by decide +kernel
theorem dL_law_269 : decode code 269 = .ok (.iadd, 1) := by decide +kernel
theorem dL_law_270 : decode code 270 = .ok (.iaload, 1) := by decide +kernel
theorem dL_law_271 : decode code 271 = .ok (.aload_n 3, 1) := by decide +kernel
theorem dL_law_272 : decode code 272 = .ok (.invokestatic 61, 3) := by decide +kernel
theorem dL_law_275 : decode code 275 = .ok (.istore 5, 2) := by decide +kernel
theorem dL_law_277 : decode code 277 = .ok (.aload_n 2, 1) := by decide +kernel
theorem dL_law_278 : decode code 278 = .ok (.aload_n 0, 1) := by decide +kernel
theorem dL_law_279 : decode code 279 = .ok (.iload 4, 2) := by decide +kernel
theorem dL_law_281 : decode code 281 = .ok (.iconst 1, 1) := by decide +kernel
theorem dL_law_282 : decode code 282 = .ok (.iadd, 1) := by decide +kernel
theorem dL_law_283 : decode code 283 = .ok (.iaload, 1) := by decide +kernel
theorem dL_law_284 : decode code 284 = .ok (.aload_n 0, 1) := by decide +kernel
theorem dL_law_285 : decode code 285 = .ok (.iload 4, 2) := by decide +kernel
theorem dL_law_287 : decode code 287 = .ok (.iconst 2, 1) := by decide +kernel
theorem dL_law_288 : decode code 288 = .ok (.iadd, 1) := by decide +kernel
theorem dL_law_289 : decode code 289 = .ok (.iaload, 1) := by decide +kernel
theorem dL_law_290 : decode code 290 = .ok (.aload_n 0, 1) := by decide +kernel
theorem dL_law_291 : decode code 291 = .ok (.iload 4, 2) := by decide +kernel
theorem dL_law_293 : decode code 293 = .ok (.iconst 3, 1) := by decide +kernel
theorem dL_law_294 : decode code 294 = .ok (.iadd, 1) := by decide +kernel
theorem dL_law_295 : decode code 295 = .ok (.iaload, 1) := by decide +kernel
theorem dL_law_296 : decode code 296 = .ok (.invokevirtual 64, 3) := by decide +kernel
theorem dL_law_299 : decode code 299 = .ok (.istore 6, 2) := by decide +kernel
theorem dL_law_301 : decode code 301 = .ok (.aload_n 2, 1) := by decide +kernel
theorem dL_law_302 : decode code 302 = .ok (.invokevirtual 57, 3) := by decide +kernel
theorem dL_law_305 : decode code 305 = .ok (.iload 5, 2) := by decide +kernel
theorem dL_law_307 : decode code 307 = .ok (.if_icmp .eq 5, 3) := by decide +kernel
theorem dL_law_310 : decode code 310 = .ok (.iconst 0, 1) := by decide +kernel
theorem dL_law_311 : decode code 311 = .ok (.ireturn, 1) := by decide +kernel
theorem dL_law_312 : decode code 312 = .ok (.iload 5, 2) := by decide +kernel
theorem dL_law_314 : decode code 314 = .ok (.ifCond .ne 22, 3) := by decide +kernel
theorem dL_law_317 : decode code 317 = .ok (.aload_n 3, 1) := by decide +kernel
theorem dL_law_318 : decode code 318 = .ok (.iconst 0, 1) := by decide +kernel
theorem dL_law_319 : decode code 319 = .ok (.laload, 1) := by decide +kernel
theorem dL_law_320 : decode code 320 = .ok (.iload 6, 2) := by decide +kernel
theorem dL_law_322 : decode code 322 = .ok (.ifCond .eq 7, 3) := by decide +kernel
theorem dL_law_325 : decode code 325 = .ok (.lconst 1, 1) := by decide +kernel
theorem dL_law_326 : decode code 326 = .ok (.goto 4, 3) := by decide +kernel
theorem dL_law_329 : decode code 329 = .ok (.lconst 0, 1) := by decide +kernel
theorem dL_law_330 : decode code 330 = .ok (.lcmp, 1) := by decide +kernel
theorem dL_law_331 : decode code 331 = .ok (.ifCond .eq 5, 3) := by decide +kernel
theorem dL_law_334 : decode code 334 = .ok (.iconst 0, 1) := by decide +kernel
theorem dL_law_335 : decode code 335 = .ok (.ireturn, 1) := by decide +kernel
theorem dL_law_336 : decode code 336 = .ok (.goto 953, 3) := by decide +kernel
theorem dL_law_339 : decode code 339 = .ok (.aload_n 1, 1) := by decide +kernel
theorem dL_law_340 : decode code 340 = .ok (.aload_n 0, 1) := by decide +kernel
theorem dL_law_341 : decode code 341 = .ok (.iload 4, 2) := by decide +kernel
theorem dL_law_343 : decode code 343 = .ok (.iconst 1, 1) := by decide +kernel
theorem dL_law_344 : decode code 344 = .ok (.iadd, 1) := by decide +kernel
theorem dL_law_345 : decode code 345 = .ok (.iaload, 1) := by decide +kernel
theorem dL_law_346 : decode code 346 = .ok (.aload_n 0, 1) := by decide +kernel
theorem dL_law_347 : decode code 347 = .ok (.iload 4, 2) := by decide +kernel
theorem dL_law_349 : decode code 349 = .ok (.iconst 2, 1) := by decide +kernel
theorem dL_law_350 : decode code 350 = .ok (.iadd, 1) := by decide +kernel
theorem dL_law_351 : decode code 351 = .ok (.iaload, 1) := by decide +kernel
theorem dL_law_352 : decode code 352 = .ok (.aload_n 3, 1) := by decide +kernel
theorem dL_law_353 : decode code 353 = .ok (.invokestatic 65, 3) := by decide +kernel
theorem dL_law_356 : decode code 356 = .ok (.istore 5, 2) := by decide +kernel
theorem dL_law_358 : decode code 358 = .ok (.aload_n 2, 1) := by decide +kernel
theorem dL_law_359 : decode code 359 = .ok (.aload_n 0, 1) := by decide +kernel
theorem dL_law_360 : decode code 360 = .ok (.iload 4, 2) := by decide +kernel
theorem dL_law_362 : decode code 362 = .ok (.iconst 1, 1) := by decide +kernel
theorem dL_law_363 : decode code 363 = .ok (.iadd, 1) := by decide +kernel
theorem dL_law_364 : decode code 364 = .ok (.iaload, 1) := by decide +kernel
theorem dL_law_365 : decode code 365 = .ok (.aload_n 0, 1) := by decide +kernel
theorem dL_law_366 : decode code 366 = .ok (.iload 4, 2) := by decide +kernel
theorem dL_law_368 : decode code 368 = .ok (.iconst 2, 1) := by decide +kernel
theorem dL_law_369 : decode code 369 = .ok (.iadd, 1) := by decide +kernel
theorem dL_law_370 : decode code 370 = .ok (.iaload, 1) := by decide +kernel
theorem dL_law_371 : decode code 371 = .ok (.invokevirtual 68, 3) := by decide +kernel
theorem dL_law_374 : decode code 374 = .ok (.istore 6, 2) := by decide +kernel
theorem dL_law_376 : decode code 376 = .ok (.aload_n 2, 1) := by decide +kernel
theorem dL_law_377 : decode code 377 = .ok (.invokevirtual 57, 3) := by decide +kernel
theorem dL_law_380 : decode code 380 = .ok (.iload 5, 2) := by decide +kernel
theorem dL_law_382 : decode code 382 = .ok (.if_icmp .eq 5, 3) := by decide +kernel
theorem dL_law_385 : decode code 385 = .ok (.iconst 0, 1) := by decide +kernel
theorem dL_law_386 : decode code 386 = .ok (.ireturn, 1) := by decide +kernel
theorem dL_law_387 : decode code 387 = .ok (.iload 5, 2) := by decide +kernel
theorem dL_law_389 : decode code 389 = .ok (.ifCond .ne 22, 3) := by decide +kernel
theorem dL_law_392 : decode code 392 = .ok (.aload_n 3, 1) := by decide +kernel
theorem dL_law_393 : decode code 393 = .ok (.iconst 0, 1) := by decide +kernel
theorem dL_law_394 : decode code 394 = .ok (.laload, 1) := by decide +kernel
theorem dL_law_395 : decode code 395 = .ok (.iload 6, 2) := by decide +kernel
theorem dL_law_397 : decode code 397 = .ok (.ifCond .eq 7, 3) := by decide +kernel
theorem dL_law_400 : decode code 400 = .ok (.lconst 1, 1) := by decide +kernel
theorem dL_law_401 : decode code 401 = .ok (.goto 4, 3) := by decide +kernel
theorem dL_law_404 : decode code 404 = .ok (.lconst 0, 1) := by decide +kernel
theorem dL_law_405 : decode code 405 = .ok (.lcmp, 1) := by decide +kernel
theorem dL_law_406 : decode code 406 = .ok (.ifCond .eq 5, 3) := by decide +kernel
theorem dL_law_409 : decode code 409 = .ok (.iconst 0, 1) := by decide +kernel
theorem dL_law_410 : decode code 410 = .ok (.ireturn, 1) := by decide +kernel
theorem dL_law_411 : decode code 411 = .ok (.goto 878, 3) := by decide +kernel
theorem dL_law_414 : decode code 414 = .ok (.aload_n 1, 1) := by decide +kernel
theorem dL_law_415 : decode code 415 = .ok (.aload_n 3, 1) := by decide +kernel
theorem dL_law_416 : decode code 416 = .ok (.invokestatic 69, 3) := by decide +kernel
theorem dL_law_419 : decode code 419 = .ok (.istore 5, 2) := by decide +kernel
theorem dL_law_421 : decode code 421 = .ok (.aload_n 2, 1) := by decide +kernel
theorem dL_law_422 : decode code 422 = .ok (.invokevirtual 72, 3) := by decide +kernel
theorem dL_law_425 : decode code 425 = .ok (.istore 6, 2) := by decide +kernel
theorem dL_law_427 : decode code 427 = .ok (.aload_n 2, 1) := by decide +kernel
theorem dL_law_428 : decode code 428 = .ok (.invokevirtual 57, 3) := by decide +kernel
theorem dL_law_431 : decode code 431 = .ok (.iload 5, 2) := by decide +kernel
theorem dL_law_433 : decode code 433 = .ok (.if_icmp .eq 5, 3) := by decide +kernel
theorem dL_law_436 : decode code 436 = .ok (.iconst 0, 1) := by decide +kernel
theorem dL_law_437 : decode code 437 = .ok (.ireturn, 1) := by decide +kernel
theorem dL_law_438 : decode code 438 = .ok (.iload 5, 2) := by decide +kernel
theorem dL_law_440 : decode code 440 = .ok (.ifCond .ne 22, 3) := by decide +kernel
theorem dL_law_443 : decode code 443 = .ok (.aload_n 3, 1) := by decide +kernel
theorem dL_law_444 : decode code 444 = .ok (.iconst 0, 1) := by decide +kernel
theorem dL_law_445 : decode code 445 = .ok (.laload, 1) := by decide +kernel
theorem dL_law_446 : decode code 446 = .ok (.iload 6, 2) := by decide +kernel
theorem dL_law_448 : decode code 448 = .ok (.ifCond .eq 7, 3) := by decide +kernel
theorem dL_law_451 : decode code 451 = .ok (.lconst 1, 1) := by decide +kernel
theorem dL_law_452 : decode code 452 = .ok (.goto 4, 3) := by decide +kernel
theorem dL_law_455 : decode code 455 = .ok (.lconst 0, 1) := by decide +kernel
theorem dL_law_456 : decode code 456 = .ok (.lcmp, 1) := by decide +kernel
theorem dL_law_457 : decode code 457 = .ok (.ifCond .eq 5, 3) := by decide +kernel
theorem dL_law_460 : decode code 460 = .ok (.iconst 0, 1) := by decide +kernel
theorem dL_law_461 : decode code 461 = .ok (.ireturn, 1) := by decide +kernel
theorem dL_law_462 : decode code 462 = .ok (.goto 827, 3) := by decide +kernel
theorem dL_law_465 : decode code 465 = .ok (.aload_n 1, 1) := by decide +kernel
theorem dL_law_466 : decode code 466 = .ok (.aload_n 0, 1) := by decide +kernel
theorem dL_law_467 : decode code 467 = .ok (.iload 4, 2) := by decide +kernel
theorem dL_law_469 : decode code 469 = .ok (.iconst 1, 1) := by decide +kernel
theorem dL_law_470 : decode code 470 = .ok (.iadd, 1) := by decide +kernel
theorem dL_law_471 : decode code 471 = .ok (.iaload, 1) := by decide +kernel
theorem dL_law_472 : decode code 472 = .ok (.aload_n 0, 1) := by decide +kernel
theorem dL_law_473 : decode code 473 = .ok (.iload 4, 2) := by decide +kernel
theorem dL_law_475 : decode code 475 = .ok (.iconst 2, 1) := by decide +kernel
theorem dL_law_476 : decode code 476 = .ok (.iadd, 1) := by decide +kernel
theorem dL_law_477 : decode code 477 = .ok (.iaload, 1) := by decide +kernel
theorem dL_law_478 : decode code 478 = .ok (.ifCond .eq 7, 3) := by decide +kernel
theorem dL_law_481 : decode code 481 = .ok (.iconst 1, 1) := by decide +kernel
theorem dL_law_482 : decode code 482 = .ok (.goto 4, 3) := by decide +kernel
theorem dL_law_485 : decode code 485 = .ok (.iconst 0, 1) := by decide +kernel
theorem dL_law_486 : decode code 486 = .ok (.aload_n 3, 1) := by decide +kernel
theorem dL_law_487 : decode code 487 = .ok (.invokestatic 73, 3) := by decide +kernel
theorem dL_law_490 : decode code 490 = .ok (.istore 5, 2) := by decide +kernel
theorem dL_law_492 : decode code 492 = .ok (.aload_n 2, 1) := by decide +kernel
theorem dL_law_493 : decode code 493 = .ok (.aload_n 0, 1) := by decide +kernel
theorem dL_law_494 : decode code 494 = .ok (.iload 4, 2) := by decide +kernel
theorem dL_law_496 : decode code 496 = .ok (.iconst 1, 1) := by decide +kernel
theorem dL_law_497 : decode code 497 = .ok (.iadd, 1) := by decide +kernel
theorem dL_law_498 : decode code 498 = .ok (.iaload, 1) := by decide +kernel
theorem dL_law_499 : decode code 499 = .ok (.aload_n 0, 1) := by decide +kernel
theorem dL_law_500 : decode code 500 = .ok (.iload 4, 2) := by decide +kernel
theorem dL_law_502 : decode code 502 = .ok (.iconst 2, 1) := by decide +kernel
theorem dL_law_503 : decode code 503 = .ok (.iadd, 1) := by decide +kernel
theorem dL_law_504 : decode code 504 = .ok (.iaload, 1) := by decide +kernel
theorem dL_law_505 : decode code 505 = .ok (.ifCond .eq 7, 3) := by decide +kernel
theorem dL_law_508 : decode code 508 = .ok (.iconst 1, 1) := by decide +kernel
theorem dL_law_509 : decode code 509 = .ok (.goto 4, 3) := by decide +kernel
theorem dL_law_512 : decode code 512 = .ok (.iconst 0, 1) := by decide +kernel
theorem dL_law_513 : decode code 513 = .ok (.invokevirtual 76, 3) := by decide +kernel
theorem dL_law_516 : decode code 516 = .ok (.istore 6, 2) := by decide +kernel
theorem dL_law_518 : decode code 518 = .ok (.aload_n 2, 1) := by decide +kernel
theorem dL_law_519 : decode code 519 = .ok (.invokevirtual 57, 3) := by decide +kernel
theorem dL_law_522 : decode code 522 = .ok (.iload 5, 2) := by decide +kernel
theorem dL_law_524 : decode code 524 = .ok (.if_icmp .eq 5, 3) := by decide +kernel
theorem dL_law_527 : decode code 527 = .ok (.iconst 0, 1) := by decide +kernel
theorem dL_law_528 : decode code 528 = .ok (.ireturn, 1) := by decide +kernel
theorem dL_law_529 : decode code 529 = .ok (.iload 5, 2) := by decide +kernel
theorem dL_law_531 : decode code 531 = .ok (.ifCond .ne 22, 3) := by decide +kernel
theorem dL_law_534 : decode code 534 = .ok (.aload_n 3, 1) := by decide +kernel
theorem dL_law_535 : decode code 535 = .ok (.iconst 0, 1) := by decide +kernel
theorem dL_law_536 : decode code 536 = .ok (.laload, 1) := by decide +kernel
theorem dL_law_537 : decode code 537 = .ok (.iload 6, 2) := by decide +kernel
theorem dL_law_539 : decode code 539 = .ok (.ifCond .eq 7, 3) := by decide +kernel
theorem dL_law_542 : decode code 542 = .ok (.lconst 1, 1) := by decide +kernel
theorem dL_law_543 : decode code 543 = .ok (.goto 4, 3) := by decide +kernel
theorem dL_law_546 : decode code 546 = .ok (.lconst 0, 1) := by decide +kernel
theorem dL_law_547 : decode code 547 = .ok (.lcmp, 1) := by decide +kernel
theorem dL_law_548 : decode code 548 = .ok (.ifCond .eq 5, 3) := by decide +kernel
theorem dL_law_551 : decode code 551 = .ok (.iconst 0, 1) := by decide +kernel
theorem dL_law_552 : decode code 552 = .ok (.ireturn, 1) := by decide +kernel
theorem dL_law_553 : decode code 553 = .ok (.goto 736, 3) := by decide +kernel
theorem dL_law_556 : decode code 556 = .ok (.aload_n 1, 1) := by decide +kernel
theorem dL_law_557 : decode code 557 = .ok (.aload_n 0, 1) := by decide +kernel
theorem dL_law_558 : decode code 558 = .ok (.iload 4, 2) := by decide +kernel
theorem dL_law_560 : decode code 560 = .ok (.iconst 1, 1) := by decide +kernel
theorem dL_law_561 : decode code 561 = .ok (.iadd, 1) := by decide +kernel
theorem dL_law_562 : decode code 562 = .ok (.iaload, 1) := by decide +kernel
theorem dL_law_563 : decode code 563 = .ok (.aload_n 3, 1) := by decide +kernel
theorem dL_law_564 : decode code 564 = .ok (.invokestatic 77, 3) := by decide +kernel
theorem dL_law_567 : decode code 567 = .ok (.istore 5, 2) := by decide +kernel
theorem dL_law_569 : decode code 569 = .ok (.aload_n 2, 1) := by decide +kernel
theorem dL_law_570 : decode code 570 = .ok (.aload_n 0, 1) := by decide +kernel
theorem dL_law_571 : decode code 571 = .ok (.iload 4, 2) := by decide +kernel
theorem dL_law_573 : decode code 573 = .ok (.iconst 1, 1) := by decide +kernel
theorem dL_law_574 : decode code 574 = .ok (.iadd, 1) := by decide +kernel
theorem dL_law_575 : decode code 575 = .ok (.iaload, 1) := by decide +kernel
theorem dL_law_576 : decode code 576 = .ok (.invokevirtual 80, 3) := by decide +kernel
theorem dL_law_579 : decode code 579 = .ok (.istore 6, 2) := by decide +kernel
theorem dL_law_581 : decode code 581 = .ok (.aload_n 2, 1) := by decide +kernel
theorem dL_law_582 : decode code 582 = .ok (.invokevirtual 57, 3) := by decide +kernel
theorem dL_law_585 : decode code 585 = .ok (.iload 5, 2) := by decide +kernel
theorem dL_law_587 : decode code 587 = .ok (.if_icmp .eq 5, 3) := by decide +kernel
theorem dL_law_590 : decode code 590 = .ok (.iconst 0, 1) := by decide +kernel
theorem dL_law_591 : decode code 591 = .ok (.ireturn, 1) := by decide +kernel
theorem dL_law_592 : decode code 592 = .ok (.iload 5, 2) := by decide +kernel
theorem dL_law_594 : decode code 594 = .ok (.ifCond .ne 15, 3) := by decide +kernel
theorem dL_law_597 : decode code 597 = .ok (.aload_n 3, 1) := by decide +kernel
theorem dL_law_598 : decode code 598 = .ok (.iconst 0, 1) := by decide +kernel
theorem dL_law_599 : decode code 599 = .ok (.laload, 1) := by decide +kernel
theorem dL_law_600 : decode code 600 = .ok (.iload 6, 2) := by decide +kernel
theorem dL_law_602 : decode code 602 = .ok (.i2l, 1) := by decide +kernel
theorem dL_law_603 : decode code 603 = .ok (.lcmp, 1) := by decide +kernel
theorem dL_law_604 : decode code 604 = .ok (.ifCond .eq 5, 3) := by decide +kernel
theorem dL_law_607 : decode code 607 = .ok (.iconst 0, 1) := by decide +kernel
theorem dL_law_608 : decode code 608 = .ok (.ireturn, 1) := by decide +kernel
theorem dL_law_609 : decode code 609 = .ok (.goto 680, 3) := by decide +kernel
theorem dL_law_612 : decode code 612 = .ok (.aload_n 1, 1) := by decide +kernel
theorem dL_law_613 : decode code 613 = .ok (.invokevirtual 81, 3) := by decide +kernel
theorem dL_law_616 : decode code 616 = .ok (.aload_n 2, 1) := by decide +kernel
theorem dL_law_617 : decode code 617 = .ok (.invokevirtual 84, 3) := by decide +kernel
theorem dL_law_620 : decode code 620 = .ok (.if_icmp .eq 669, 3) := by decide +kernel
theorem dL_law_623 : decode code 623 = .ok (.iconst 0, 1) := by decide +kernel
theorem dL_law_624 : decode code 624 = .ok (.ireturn, 1) := by decide +kernel
theorem dL_law_625 : decode code 625 = .ok (.aload_n 1, 1) := by decide +kernel
theorem dL_law_626 : decode code 626 = .ok (.aload_n 0, 1) := by decide +kernel
theorem dL_law_627 : decode code 627 = .ok (.iload 4, 2) := by decide +kernel
theorem dL_law_629 : decode code 629 = .ok (.iconst 1, 1) := by decide +kernel
theorem dL_law_630 : decode code 630 = .ok (.iadd, 1) := by decide +kernel
theorem dL_law_631 : decode code 631 = .ok (.iaload, 1) := by decide +kernel
theorem dL_law_632 : decode code 632 = .ok (.aload_n 0, 1) := by decide +kernel
theorem dL_law_633 : decode code 633 = .ok (.iload 4, 2) := by decide +kernel
theorem dL_law_635 : decode code 635 = .ok (.iconst 2, 1) := by decide +kernel
theorem dL_law_636 : decode code 636 = .ok (.iadd, 1) := by decide +kernel
theorem dL_law_637 : decode code 637 = .ok (.iaload, 1) := by decide +kernel
theorem dL_law_638 : decode code 638 = .ok (.aload_n 3, 1) := by decide +kernel
theorem dL_law_639 : decode code 639 = .ok (.invokestatic 85, 3) := by decide +kernel
theorem dL_law_642 : decode code 642 = .ok (.istore 5, 2) := by decide +kernel
theorem dL_law_644 : decode code 644 = .ok (.aload_n 2, 1) := by decide +kernel
theorem dL_law_645 : decode code 645 = .ok (.aload_n 0, 1) := by decide +kernel
theorem dL_law_646 : decode code 646 = .ok (.iload 4, 2) := by decide +kernel
theorem dL_law_648 : decode code 648 = .ok (.iconst 1, 1) := by decide +kernel
theorem dL_law_649 : decode code 649 = .ok (.iadd, 1) := by decide +kernel
theorem dL_law_650 : decode code 650 = .ok (.iaload, 1) := by decide +kernel
theorem dL_law_651 : decode code 651 = .ok (.aload_n 0, 1) := by decide +kernel
theorem dL_law_652 : decode code 652 = .ok (.iload 4, 2) := by decide +kernel
theorem dL_law_654 : decode code 654 = .ok (.iconst 2, 1) := by decide +kernel
theorem dL_law_655 : decode code 655 = .ok (.iadd, 1) := by decide +kernel
theorem dL_law_656 : decode code 656 = .ok (.iaload, 1) := by decide +kernel
theorem dL_law_657 : decode code 657 = .ok (.invokevirtual 87, 3) := by decide +kernel
theorem dL_law_660 : decode code 660 = .ok (.istore 6, 2) := by decide +kernel
theorem dL_law_662 : decode code 662 = .ok (.aload_n 2, 1) := by decide +kernel
theorem dL_law_663 : decode code 663 = .ok (.invokevirtual 57, 3) := by decide +kernel
theorem dL_law_666 : decode code 666 = .ok (.iload 5, 2) := by decide +kernel
theorem dL_law_668 : decode code 668 = .ok (.if_icmp .eq 5, 3) := by decide +kernel
theorem dL_law_671 : decode code 671 = .ok (.iconst 0, 1) := by decide +kernel
theorem dL_law_672 : decode code 672 = .ok (.ireturn, 1) := by decide +kernel
theorem dL_law_673 : decode code 673 = .ok (.iload 5, 2) := by decide +kernel
theorem dL_law_675 : decode code 675 = .ok (.ifCond .ne 15, 3) := by decide +kernel
theorem dL_law_678 : decode code 678 = .ok (.aload_n 3, 1) := by decide +kernel
theorem dL_law_679 : decode code 679 = .ok (.iconst 0, 1) := by decide +kernel
theorem dL_law_680 : decode code 680 = .ok (.laload, 1) := by decide +kernel
theorem dL_law_681 : decode code 681 = .ok (.iload 6, 2) := by decide +kernel
theorem dL_law_683 : decode code 683 = .ok (.i2l, 1) := by decide +kernel
theorem dL_law_684 : decode code 684 = .ok (.lcmp, 1) := by decide +kernel
theorem dL_law_685 : decode code 685 = .ok (.ifCond .eq 5, 3) := by decide +kernel
theorem dL_law_688 : decode code 688 = .ok (.iconst 0, 1) := by decide +kernel
theorem dL_law_689 : decode code 689 = .ok (.ireturn, 1) := by decide +kernel
theorem dL_law_690 : decode code 690 = .ok (.goto 599, 3) := by decide +kernel
theorem dL_law_693 : decode code 693 = .ok (.aload_n 1, 1) := by decide +kernel
theorem dL_law_694 : decode code 694 = .ok (.aload_n 0, 1) := by decide +kernel
theorem dL_law_695 : decode code 695 = .ok (.iload 4, 2) := by decide +kernel
theorem dL_law_697 : decode code 697 = .ok (.iconst 1, 1) := by decide +kernel
theorem dL_law_698 : decode code 698 = .ok (.iadd, 1) := by decide +kernel
theorem dL_law_699 : decode code 699 = .ok (.iaload, 1) := by decide +kernel
theorem dL_law_700 : decode code 700 = .ok (.aload_n 3, 1) := by decide +kernel
theorem dL_law_701 : decode code 701 = .ok (.invokestatic 88, 3) := by decide +kernel
theorem dL_law_704 : decode code 704 = .ok (.istore 5, 2) := by decide +kernel
theorem dL_law_706 : decode code 706 = .ok (.aload_n 2, 1) := by decide +kernel
theorem dL_law_707 : decode code 707 = .ok (.aload_n 0, 1) := by decide +kernel
theorem dL_law_708 : decode code 708 = .ok (.iload 4, 2) := by decide +kernel
theorem dL_law_710 : decode code 710 = .ok (.iconst 1, 1) := by decide +kernel
theorem dL_law_711 : decode code 711 = .ok (.iadd, 1) := by decide +kernel
theorem dL_law_712 : decode code 712 = .ok (.iaload, 1) := by decide +kernel
theorem dL_law_713 : decode code 713 = .ok (.invokevirtual 90, 3) := by decide +kernel
theorem dL_law_716 : decode code 716 = .ok (.istore 6, 2) := by decide +kernel
theorem dL_law_718 : decode code 718 = .ok (.aload_n 2, 1) := by decide +kernel
theorem dL_law_719 : decode code 719 = .ok (.invokevirtual 57, 3) := by decide +kernel
theorem dL_law_722 : decode code 722 = .ok (.iload 5, 2) := by decide +kernel
theorem dL_law_724 : decode code 724 = .ok (.if_icmp .eq 5, 3) := by decide +kernel
theorem dL_law_727 : decode code 727 = .ok (.iconst 0, 1) := by decide +kernel
theorem dL_law_728 : decode code 728 = .ok (.ireturn, 1) := by decide +kernel
theorem dL_law_729 : decode code 729 = .ok (.iload 5, 2) := by decide +kernel
theorem dL_law_731 : decode code 731 = .ok (.ifCond .ne 22, 3) := by decide +kernel
theorem dL_law_734 : decode code 734 = .ok (.aload_n 3, 1) := by decide +kernel
theorem dL_law_735 : decode code 735 = .ok (.iconst 0, 1) := by decide +kernel
theorem dL_law_736 : decode code 736 = .ok (.laload, 1) := by decide +kernel
theorem dL_law_737 : decode code 737 = .ok (.iload 6, 2) := by decide +kernel
theorem dL_law_739 : decode code 739 = .ok (.ifCond .eq 7, 3) := by decide +kernel
theorem dL_law_742 : decode code 742 = .ok (.lconst 1, 1) := by decide +kernel
theorem dL_law_743 : decode code 743 = .ok (.goto 4, 3) := by decide +kernel
theorem dL_law_746 : decode code 746 = .ok (.lconst 0, 1) := by decide +kernel
theorem dL_law_747 : decode code 747 = .ok (.lcmp, 1) := by decide +kernel
theorem dL_law_748 : decode code 748 = .ok (.ifCond .eq 5, 3) := by decide +kernel
theorem dL_law_751 : decode code 751 = .ok (.iconst 0, 1) := by decide +kernel
theorem dL_law_752 : decode code 752 = .ok (.ireturn, 1) := by decide +kernel
theorem dL_law_753 : decode code 753 = .ok (.goto 536, 3) := by decide +kernel
theorem dL_law_756 : decode code 756 = .ok (.aload_n 1, 1) := by decide +kernel
theorem dL_law_757 : decode code 757 = .ok (.aload_n 0, 1) := by decide +kernel
theorem dL_law_758 : decode code 758 = .ok (.iload 4, 2) := by decide +kernel
theorem dL_law_760 : decode code 760 = .ok (.iconst 1, 1) := by decide +kernel
theorem dL_law_761 : decode code 761 = .ok (.iadd, 1) := by decide +kernel
theorem dL_law_762 : decode code 762 = .ok (.iaload, 1) := by decide +kernel
theorem dL_law_763 : decode code 763 = .ok (.aload_n 0, 1) := by decide +kernel
theorem dL_law_764 : decode code 764 = .ok (.iload 4, 2) := by decide +kernel
theorem dL_law_766 : decode code 766 = .ok (.iconst 2, 1) := by decide +kernel
theorem dL_law_767 : decode code 767 = .ok (.iadd, 1) := by decide +kernel
theorem dL_law_768 : decode code 768 = .ok (.iaload, 1) := by decide +kernel
theorem dL_law_769 : decode code 769 = .ok (.ifCond .eq 7, 3) := by decide +kernel
theorem dL_law_772 : decode code 772 = .ok (.iconst 1, 1) := by decide +kernel
theorem dL_law_773 : decode code 773 = .ok (.goto 4, 3) := by decide +kernel
theorem dL_law_776 : decode code 776 = .ok (.iconst 0, 1) := by decide +kernel
theorem dL_law_777 : decode code 777 = .ok (.invokevirtual 91, 3) := by decide +kernel
theorem dL_law_780 : decode code 780 = .ok (.aload_n 2, 1) := by decide +kernel
theorem dL_law_781 : decode code 781 = .ok (.aload_n 0, 1) := by decide +kernel
theorem dL_law_782 : decode code 782 = .ok (.iload 4, 2) := by decide +kernel
theorem dL_law_784 : decode code 784 = .ok (.iconst 1, 1) := by decide +kernel
theorem dL_law_785 : decode code 785 = .ok (.iadd, 1) := by decide +kernel
theorem dL_law_786 : decode code 786 = .ok (.iaload, 1) := by decide +kernel
theorem dL_law_787 : decode code 787 = .ok (.aload_n 0, 1) := by decide +kernel
theorem dL_law_788 : decode code 788 = .ok (.iload 4, 2) := by decide +kernel
theorem dL_law_790 : decode code 790 = .ok (.iconst 2, 1) := by decide +kernel
theorem dL_law_791 : decode code 791 = .ok (.iadd, 1) := by decide +kernel
theorem dL_law_792 : decode code 792 = .ok (.iaload, 1) := by decide +kernel
theorem dL_law_793 : decode code 793 = .ok (.ifCond .eq 7, 3) := by decide +kernel
theorem dL_law_796 : decode code 796 = .ok (.iconst 1, 1) := by decide +kernel
theorem dL_law_797 : decode code 797 = .ok (.goto 4, 3) := by decide +kernel
theorem dL_law_800 : decode code 800 = .ok (.iconst 0, 1) := by decide +kernel
theorem dL_law_801 : decode code 801 = .ok (.invokevirtual 95, 3) := by decide +kernel
theorem dL_law_804 : decode code 804 = .ok (.if_icmp .eq 485, 3) := by decide +kernel
theorem dL_law_807 : decode code 807 = .ok (.iconst 0, 1) := by decide +kernel
theorem dL_law_808 : decode code 808 = .ok (.ireturn, 1) := by decide +kernel
theorem dL_law_809 : decode code 809 = .ok (.aload_n 1, 1) := by decide +kernel
theorem dL_law_810 : decode code 810 = .ok (.aload_n 0, 1) := by decide +kernel
theorem dL_law_811 : decode code 811 = .ok (.iload 4, 2) := by decide +kernel
theorem dL_law_813 : decode code 813 = .ok (.iconst 1, 1) := by decide +kernel
theorem dL_law_814 : decode code 814 = .ok (.iadd, 1) := by decide +kernel
theorem dL_law_815 : decode code 815 = .ok (.iaload, 1) := by decide +kernel
theorem dL_law_816 : decode code 816 = .ok (.aload_n 0, 1) := by decide +kernel
theorem dL_law_817 : decode code 817 = .ok (.iload 4, 2) := by decide +kernel
theorem dL_law_819 : decode code 819 = .ok (.iconst 2, 1) := by decide +kernel
theorem dL_law_820 : decode code 820 = .ok (.iadd, 1) := by decide +kernel
theorem dL_law_821 : decode code 821 = .ok (.iaload, 1) := by decide +kernel
theorem dL_law_822 : decode code 822 = .ok (.ifCond .eq 7, 3) := by decide +kernel
theorem dL_law_825 : decode code 825 = .ok (.iconst 1, 1) := by decide +kernel
theorem dL_law_826 : decode code 826 = .ok (.goto 4, 3) := by decide +kernel
theorem dL_law_829 : decode code 829 = .ok (.iconst 0, 1) := by decide +kernel
theorem dL_law_830 : decode code 830 = .ok (.invokevirtual 96, 3) := by decide +kernel
theorem dL_law_833 : decode code 833 = .ok (.aload_n 2, 1) := by decide +kernel
theorem dL_law_834 : decode code 834 = .ok (.aload_n 0, 1) := by decide +kernel
theorem dL_law_835 : decode code 835 = .ok (.iload 4, 2) := by decide +kernel
theorem dL_law_837 : decode code 837 = .ok (.iconst 1, 1) := by decide +kernel
theorem dL_law_838 : decode code 838 = .ok (.iadd, 1) := by decide +kernel
theorem dL_law_839 : decode code 839 = .ok (.iaload, 1) := by decide +kernel
theorem dL_law_840 : decode code 840 = .ok (.aload_n 0, 1) := by decide +kernel
theorem dL_law_841 : decode code 841 = .ok (.iload 4, 2) := by decide +kernel
theorem dL_law_843 : decode code 843 = .ok (.iconst 2, 1) := by decide +kernel
theorem dL_law_844 : decode code 844 = .ok (.iadd, 1) := by decide +kernel
theorem dL_law_845 : decode code 845 = .ok (.iaload, 1) := by decide +kernel
theorem dL_law_846 : decode code 846 = .ok (.ifCond .eq 7, 3) := by decide +kernel
theorem dL_law_849 : decode code 849 = .ok (.iconst 1, 1) := by decide +kernel
theorem dL_law_850 : decode code 850 = .ok (.goto 4, 3) := by decide +kernel
theorem dL_law_853 : decode code 853 = .ok (.iconst 0, 1) := by decide +kernel
theorem dL_law_854 : decode code 854 = .ok (.invokevirtual 99, 3) := by decide +kernel
theorem dL_law_857 : decode code 857 = .ok (.if_icmp .eq 432, 3) := by decide +kernel
theorem dL_law_860 : decode code 860 = .ok (.iconst 0, 1) := by decide +kernel
theorem dL_law_861 : decode code 861 = .ok (.ireturn, 1) := by decide +kernel
theorem dL_law_862 : decode code 862 = .ok (.aload_n 1, 1) := by decide +kernel
theorem dL_law_863 : decode code 863 = .ok (.aload_n 0, 1) := by decide +kernel
theorem dL_law_864 : decode code 864 = .ok (.iload 4, 2) := by decide +kernel
theorem dL_law_866 : decode code 866 = .ok (.iconst 1, 1) := by decide +kernel
theorem dL_law_867 : decode code 867 = .ok (.iadd, 1) := by decide +kernel
theorem dL_law_868 : decode code 868 = .ok (.iaload, 1) := by decide +kernel
theorem dL_law_869 : decode code 869 = .ok (.invokevirtual 100, 3) := by decide +kernel
theorem dL_law_872 : decode code 872 = .ok (.aload_n 2, 1) := by decide +kernel
theorem dL_law_873 : decode code 873 = .ok (.aload_n 0, 1) := by decide +kernel
theorem dL_law_874 : decode code 874 = .ok (.iload 4, 2) := by decide +kernel
theorem dL_law_876 : decode code 876 = .ok (.iconst 1, 1) := by decide +kernel
theorem dL_law_877 : decode code 877 = .ok (.iadd, 1) := by decide +kernel
theorem dL_law_878 : decode code 878 = .ok (.iaload, 1) := by decide +kernel
theorem dL_law_879 : decode code 879 = .ok (.invokevirtual 103, 3) := by decide +kernel
theorem dL_law_882 : decode code 882 = .ok (.if_icmp .eq 407, 3) := by decide +kernel
theorem dL_law_885 : decode code 885 = .ok (.iconst 0, 1) := by decide +kernel
theorem dL_law_886 : decode code 886 = .ok (.ireturn, 1) := by decide +kernel
theorem dL_law_887 : decode code 887 = .ok (.aload_n 1, 1) := by decide +kernel
theorem dL_law_888 : decode code 888 = .ok (.aload_n 0, 1) := by decide +kernel
theorem dL_law_889 : decode code 889 = .ok (.iload 4, 2) := by decide +kernel
theorem dL_law_891 : decode code 891 = .ok (.iconst 1, 1) := by decide +kernel
theorem dL_law_892 : decode code 892 = .ok (.iadd, 1) := by decide +kernel
theorem dL_law_893 : decode code 893 = .ok (.iaload, 1) := by decide +kernel
theorem dL_law_894 : decode code 894 = .ok (.aload_n 0, 1) := by decide +kernel
theorem dL_law_895 : decode code 895 = .ok (.iload 4, 2) := by decide +kernel
theorem dL_law_897 : decode code 897 = .ok (.iconst 2, 1) := by decide +kernel
theorem dL_law_898 : decode code 898 = .ok (.iadd, 1) := by decide +kernel
theorem dL_law_899 : decode code 899 = .ok (.iaload, 1) := by decide +kernel
theorem dL_law_900 : decode code 900 = .ok (.invokevirtual 104, 3) := by decide +kernel
theorem dL_law_903 : decode code 903 = .ok (.aload_n 2, 1) := by decide +kernel
theorem dL_law_904 : decode code 904 = .ok (.aload_n 0, 1) := by decide +kernel
theorem dL_law_905 : decode code 905 = .ok (.iload 4, 2) := by decide +kernel
theorem dL_law_907 : decode code 907 = .ok (.iconst 1, 1) := by decide +kernel
theorem dL_law_908 : decode code 908 = .ok (.iadd, 1) := by decide +kernel
theorem dL_law_909 : decode code 909 = .ok (.iaload, 1) := by decide +kernel
theorem dL_law_910 : decode code 910 = .ok (.aload_n 0, 1) := by decide +kernel
theorem dL_law_911 : decode code 911 = .ok (.iload 4, 2) := by decide +kernel
theorem dL_law_913 : decode code 913 = .ok (.iconst 2, 1) := by decide +kernel
theorem dL_law_914 : decode code 914 = .ok (.iadd, 1) := by decide +kernel
theorem dL_law_915 : decode code 915 = .ok (.iaload, 1) := by decide +kernel
theorem dL_law_916 : decode code 916 = .ok (.invokevirtual 107, 3) := by decide +kernel
theorem dL_law_919 : decode code 919 = .ok (.if_icmp .eq 370, 3) := by decide +kernel
theorem dL_law_922 : decode code 922 = .ok (.iconst 0, 1) := by decide +kernel
theorem dL_law_923 : decode code 923 = .ok (.ireturn, 1) := by decide +kernel
theorem dL_law_924 : decode code 924 = .ok (.aload_n 1, 1) := by decide +kernel
theorem dL_law_925 : decode code 925 = .ok (.aload_n 0, 1) := by decide +kernel
theorem dL_law_926 : decode code 926 = .ok (.iload 4, 2) := by decide +kernel
theorem dL_law_928 : decode code 928 = .ok (.iconst 1, 1) := by decide +kernel
theorem dL_law_929 : decode code 929 = .ok (.iadd, 1) := by decide +kernel
theorem dL_law_930 : decode code 930 = .ok (.iaload, 1) := by decide +kernel
theorem dL_law_931 : decode code 931 = .ok (.aload_n 0, 1) := by decide +kernel
theorem dL_law_932 : decode code 932 = .ok (.iload 4, 2) := by decide +kernel
theorem dL_law_934 : decode code 934 = .ok (.iconst 2, 1) := by decide +kernel
theorem dL_law_935 : decode code 935 = .ok (.iadd, 1) := by decide +kernel
theorem dL_law_936 : decode code 936 = .ok (.iaload, 1) := by decide +kernel
theorem dL_law_937 : decode code 937 = .ok (.invokevirtual 108, 3) := by decide +kernel
theorem dL_law_940 : decode code 940 = .ok (.aload_n 2, 1) := by decide +kernel
theorem dL_law_941 : decode code 941 = .ok (.aload_n 0, 1) := by decide +kernel
theorem dL_law_942 : decode code 942 = .ok (.iload 4, 2) := by decide +kernel
theorem dL_law_944 : decode code 944 = .ok (.iconst 1, 1) := by decide +kernel
theorem dL_law_945 : decode code 945 = .ok (.iadd, 1) := by decide +kernel
theorem dL_law_946 : decode code 946 = .ok (.iaload, 1) := by decide +kernel
theorem dL_law_947 : decode code 947 = .ok (.aload_n 0, 1) := by decide +kernel
theorem dL_law_948 : decode code 948 = .ok (.iload 4, 2) := by decide +kernel
theorem dL_law_950 : decode code 950 = .ok (.iconst 2, 1) := by decide +kernel
theorem dL_law_951 : decode code 951 = .ok (.iadd, 1) := by decide +kernel
theorem dL_law_952 : decode code 952 = .ok (.iaload, 1) := by decide +kernel
theorem dL_law_953 : decode code 953 = .ok (.invokevirtual 111, 3) := by decide +kernel
theorem dL_law_956 : decode code 956 = .ok (.if_icmp .eq 333, 3) := by decide +kernel
theorem dL_law_959 : decode code 959 = .ok (.iconst 0, 1) := by decide +kernel
theorem dL_law_960 : decode code 960 = .ok (.ireturn, 1) := by decide +kernel
theorem dL_law_961 : decode code 961 = .ok (.aload_n 1, 1) := by decide +kernel
theorem dL_law_962 : decode code 962 = .ok (.aload_n 0, 1) := by decide +kernel
theorem dL_law_963 : decode code 963 = .ok (.iload 4, 2) := by decide +kernel
theorem dL_law_965 : decode code 965 = .ok (.iconst 1, 1) := by decide +kernel
theorem dL_law_966 : decode code 966 = .ok (.iadd, 1) := by decide +kernel
theorem dL_law_967 : decode code 967 = .ok (.iaload, 1) := by decide +kernel
theorem dL_law_968 : decode code 968 = .ok (.invokevirtual 112, 3) := by decide +kernel
theorem dL_law_971 : decode code 971 = .ok (.aload_n 2, 1) := by decide +kernel
theorem dL_law_972 : decode code 972 = .ok (.aload_n 0, 1) := by decide +kernel
theorem dL_law_973 : decode code 973 = .ok (.iload 4, 2) := by decide +kernel
theorem dL_law_975 : decode code 975 = .ok (.iconst 1, 1) := by decide +kernel
theorem dL_law_976 : decode code 976 = .ok (.iadd, 1) := by decide +kernel
theorem dL_law_977 : decode code 977 = .ok (.iaload, 1) := by decide +kernel
theorem dL_law_978 : decode code 978 = .ok (.invokevirtual 116, 3) := by decide +kernel
theorem dL_law_981 : decode code 981 = .ok (.lcmp, 1) := by decide +kernel
theorem dL_law_982 : decode code 982 = .ok (.ifCond .eq 307, 3) := by decide +kernel
theorem dL_law_985 : decode code 985 = .ok (.iconst 0, 1) := by decide +kernel
theorem dL_law_986 : decode code 986 = .ok (.ireturn, 1) := by decide +kernel
theorem dL_law_987 : decode code 987 = .ok (.aload_n 1, 1) := by decide +kernel
theorem dL_law_988 : decode code 988 = .ok (.aload_n 0, 1) := by decide +kernel
theorem dL_law_989 : decode code 989 = .ok (.iload 4, 2) := by decide +kernel
theorem dL_law_991 : decode code 991 = .ok (.iconst 1, 1) := by decide +kernel
theorem dL_law_992 : decode code 992 = .ok (.iadd, 1) := by decide +kernel
theorem dL_law_993 : decode code 993 = .ok (.iaload, 1) := by decide +kernel
theorem dL_law_994 : decode code 994 = .ok (.invokevirtual 117, 3) := by decide +kernel
theorem dL_law_997 : decode code 997 = .ok (.aload_n 2, 1) := by decide +kernel
theorem dL_law_998 : decode code 998 = .ok (.aload_n 0, 1) := by decide +kernel
theorem dL_law_999 : decode code 999 = .ok (.iload 4, 2) := by decide +kernel
theorem dL_law_1001 : decode code 1001 = .ok (.iconst 1, 1) := by decide +kernel
theorem dL_law_1002 : decode code 1002 = .ok (.iadd, 1) := by decide +kernel
theorem dL_law_1003 : decode code 1003 = .ok (.iaload, 1) := by decide +kernel
theorem dL_law_1004 : decode code 1004 = .ok (.invokevirtual 120, 3) := by decide +kernel
theorem dL_law_1007 : decode code 1007 = .ok (.if_icmp .eq 282, 3) := by decide +kernel
theorem dL_law_1010 : decode code 1010 = .ok (.iconst 0, 1) := by decide +kernel
theorem dL_law_1011 : decode code 1011 = .ok (.ireturn, 1) := by decide +kernel
theorem dL_law_1012 : decode code 1012 = .ok (.aload_n 1, 1) := by decide +kernel
theorem dL_law_1013 : decode code 1013 = .ok (.aload_n 0, 1) := by decide +kernel
theorem dL_law_1014 : decode code 1014 = .ok (.iload 4, 2) := by decide +kernel
theorem dL_law_1016 : decode code 1016 = .ok (.iconst 1, 1) := by decide +kernel
theorem dL_law_1017 : decode code 1017 = .ok (.iadd, 1) := by decide +kernel
theorem dL_law_1018 : decode code 1018 = .ok (.iaload, 1) := by decide +kernel
theorem dL_law_1019 : decode code 1019 = .ok (.aload_n 0, 1) := by decide +kernel
theorem dL_law_1020 : decode code 1020 = .ok (.iload 4, 2) := by decide +kernel
theorem dL_law_1022 : decode code 1022 = .ok (.iconst 2, 1) := by decide +kernel
theorem dL_law_1023 : decode code 1023 = .ok (.iadd, 1) := by decide +kernel
theorem dL_law_1024 : decode code 1024 = .ok (.iaload, 1) := by decide +kernel
theorem dL_law_1025 : decode code 1025 = .ok (.invokevirtual 121, 3) := by decide +kernel
theorem dL_law_1028 : decode code 1028 = .ok (.aload_n 2, 1) := by decide +kernel
theorem dL_law_1029 : decode code 1029 = .ok (.aload_n 0, 1) := by decide +kernel
theorem dL_law_1030 : decode code 1030 = .ok (.iload 4, 2) := by decide +kernel
theorem dL_law_1032 : decode code 1032 = .ok (.iconst 1, 1) := by decide +kernel
theorem dL_law_1033 : decode code 1033 = .ok (.iadd, 1) := by decide +kernel
theorem dL_law_1034 : decode code 1034 = .ok (.iaload, 1) := by decide +kernel
theorem dL_law_1035 : decode code 1035 = .ok (.aload_n 0, 1) := by decide +kernel
theorem dL_law_1036 : decode code 1036 = .ok (.iload 4, 2) := by decide +kernel
theorem dL_law_1038 : decode code 1038 = .ok (.iconst 2, 1) := by decide +kernel
theorem dL_law_1039 : decode code 1039 = .ok (.iadd, 1) := by decide +kernel
theorem dL_law_1040 : decode code 1040 = .ok (.iaload, 1) := by decide +kernel
theorem dL_law_1041 : decode code 1041 = .ok (.invokevirtual 124, 3) := by decide +kernel
theorem dL_law_1044 : decode code 1044 = .ok (.if_icmp .eq 245, 3) := by decide +kernel
theorem dL_law_1047 : decode code 1047 = .ok (.iconst 0, 1) := by decide +kernel
theorem dL_law_1048 : decode code 1048 = .ok (.ireturn, 1) := by decide +kernel
theorem dL_law_1049 : decode code 1049 = .ok (.aload_n 1, 1) := by decide +kernel
theorem dL_law_1050 : decode code 1050 = .ok (.invokevirtual 125, 3) := by decide +kernel
theorem dL_law_1053 : decode code 1053 = .ok (.aload_n 2, 1) := by decide +kernel
theorem dL_law_1054 : decode code 1054 = .ok (.invokevirtual 128, 3) := by decide +kernel
theorem dL_law_1057 : decode code 1057 = .ok (.if_icmp .eq 232, 3) := by decide +kernel
theorem dL_law_1060 : decode code 1060 = .ok (.iconst 0, 1) := by decide +kernel
theorem dL_law_1061 : decode code 1061 = .ok (.ireturn, 1) := by decide +kernel
theorem dL_law_1062 : decode code 1062 = .ok (.aload_n 1, 1) := by decide +kernel
theorem dL_law_1063 : decode code 1063 = .ok (.aload_n 0, 1) := by decide +kernel
theorem dL_law_1064 : decode code 1064 = .ok (.iload 4, 2) := by decide +kernel
theorem dL_law_1066 : decode code 1066 = .ok (.iconst 1, 1) := by decide +kernel
theorem dL_law_1067 : decode code 1067 = .ok (.iadd, 1) := by decide +kernel
theorem dL_law_1068 : decode code 1068 = .ok (.iaload, 1) := by decide +kernel
theorem dL_law_1069 : decode code 1069 = .ok (.invokevirtual 129, 3) := by decide +kernel
theorem dL_law_1072 : decode code 1072 = .ok (.aload_n 2, 1) := by decide +kernel
theorem dL_law_1073 : decode code 1073 = .ok (.aload_n 0, 1) := by decide +kernel
theorem dL_law_1074 : decode code 1074 = .ok (.iload 4, 2) := by decide +kernel
theorem dL_law_1076 : decode code 1076 = .ok (.iconst 1, 1) := by decide +kernel
theorem dL_law_1077 : decode code 1077 = .ok (.iadd, 1) := by decide +kernel
theorem dL_law_1078 : decode code 1078 = .ok (.iaload, 1) := by decide +kernel
theorem dL_law_1079 : decode code 1079 = .ok (.invokevirtual 132, 3) := by decide +kernel
theorem dL_law_1082 : decode code 1082 = .ok (.if_icmp .eq 207, 3) := by decide +kernel
theorem dL_law_1085 : decode code 1085 = .ok (.iconst 0, 1) := by decide +kernel
theorem dL_law_1086 : decode code 1086 = .ok (.ireturn, 1) := by decide +kernel
theorem dL_law_1087 : decode code 1087 = .ok (.aload_n 1, 1) := by decide +kernel
theorem dL_law_1088 : decode code 1088 = .ok (.aload_n 0, 1) := by decide +kernel
theorem dL_law_1089 : decode code 1089 = .ok (.iload 4, 2) := by decide +kernel
theorem dL_law_1091 : decode code 1091 = .ok (.iconst 1, 1) := by decide +kernel
theorem dL_law_1092 : decode code 1092 = .ok (.iadd, 1) := by decide +kernel
theorem dL_law_1093 : decode code 1093 = .ok (.iaload, 1) := by decide +kernel
theorem dL_law_1094 : decode code 1094 = .ok (.aload_n 0, 1) := by decide +kernel
theorem dL_law_1095 : decode code 1095 = .ok (.iload 4, 2) := by decide +kernel
theorem dL_law_1097 : decode code 1097 = .ok (.iconst 2, 1) := by decide +kernel
theorem dL_law_1098 : decode code 1098 = .ok (.iadd, 1) := by decide +kernel
theorem dL_law_1099 : decode code 1099 = .ok (.iaload, 1) := by decide +kernel
theorem dL_law_1100 : decode code 1100 = .ok (.aload_n 0, 1) := by decide +kernel
theorem dL_law_1101 : decode code 1101 = .ok (.iload 4, 2) := by decide +kernel
theorem dL_law_1103 : decode code 1103 = .ok (.iconst 3, 1) := by decide +kernel
theorem dL_law_1104 : decode code 1104 = .ok (.iadd, 1) := by decide +kernel
theorem dL_law_1105 : decode code 1105 = .ok (.iaload, 1) := by decide +kernel
theorem dL_law_1106 : decode code 1106 = .ok (.invokevirtual 133, 3) := by decide +kernel
theorem dL_law_1109 : decode code 1109 = .ok (.aload_n 2, 1) := by decide +kernel
theorem dL_law_1110 : decode code 1110 = .ok (.aload_n 0, 1) := by decide +kernel
theorem dL_law_1111 : decode code 1111 = .ok (.iload 4, 2) := by decide +kernel
theorem dL_law_1113 : decode code 1113 = .ok (.iconst 1, 1) := by decide +kernel
theorem dL_law_1114 : decode code 1114 = .ok (.iadd, 1) := by decide +kernel
theorem dL_law_1115 : decode code 1115 = .ok (.iaload, 1) := by decide +kernel
theorem dL_law_1116 : decode code 1116 = .ok (.aload_n 0, 1) := by decide +kernel
theorem dL_law_1117 : decode code 1117 = .ok (.iload 4, 2) := by decide +kernel
theorem dL_law_1119 : decode code 1119 = .ok (.iconst 2, 1) := by decide +kernel
theorem dL_law_1120 : decode code 1120 = .ok (.iadd, 1) := by decide +kernel
theorem dL_law_1121 : decode code 1121 = .ok (.iaload, 1) := by decide +kernel
theorem dL_law_1122 : decode code 1122 = .ok (.aload_n 0, 1) := by decide +kernel
theorem dL_law_1123 : decode code 1123 = .ok (.iload 4, 2) := by decide +kernel
theorem dL_law_1125 : decode code 1125 = .ok (.iconst 3, 1) := by decide +kernel
theorem dL_law_1126 : decode code 1126 = .ok (.iadd, 1) := by decide +kernel
theorem dL_law_1127 : decode code 1127 = .ok (.iaload, 1) := by decide +kernel
theorem dL_law_1128 : decode code 1128 = .ok (.invokevirtual 137, 3) := by decide +kernel
theorem dL_law_1131 : decode code 1131 = .ok (.if_icmp .eq 158, 3) := by decide +kernel
theorem dL_law_1134 : decode code 1134 = .ok (.iconst 0, 1) := by decide +kernel
theorem dL_law_1135 : decode code 1135 = .ok (.ireturn, 1) := by decide +kernel
theorem dL_law_1136 : decode code 1136 = .ok (.aload_n 1, 1) := by decide +kernel
theorem dL_law_1137 : decode code 1137 = .ok (.aload_n 0, 1) := by decide +kernel
theorem dL_law_1138 : decode code 1138 = .ok (.iload 4, 2) := by decide +kernel
theorem dL_law_1140 : decode code 1140 = .ok (.iconst 1, 1) := by decide +kernel
theorem dL_law_1141 : decode code 1141 = .ok (.iadd, 1) := by decide +kernel
theorem dL_law_1142 : decode code 1142 = .ok (.iaload, 1) := by decide +kernel
theorem dL_law_1143 : decode code 1143 = .ok (.aload_n 0, 1) := by decide +kernel
theorem dL_law_1144 : decode code 1144 = .ok (.iload 4, 2) := by decide +kernel
theorem dL_law_1146 : decode code 1146 = .ok (.iconst 2, 1) := by decide +kernel
theorem dL_law_1147 : decode code 1147 = .ok (.iadd, 1) := by decide +kernel
theorem dL_law_1148 : decode code 1148 = .ok (.iaload, 1) := by decide +kernel
theorem dL_law_1149 : decode code 1149 = .ok (.ifCond .eq 7, 3) := by decide +kernel
theorem dL_law_1152 : decode code 1152 = .ok (.iconst 1, 1) := by decide +kernel
theorem dL_law_1153 : decode code 1153 = .ok (.goto 4, 3) := by decide +kernel
theorem dL_law_1156 : decode code 1156 = .ok (.iconst 0, 1) := by decide +kernel
theorem dL_law_1157 : decode code 1157 = .ok (.invokevirtual 138, 3) := by decide +kernel
theorem dL_law_1160 : decode code 1160 = .ok (.aload_n 2, 1) := by decide +kernel
theorem dL_law_1161 : decode code 1161 = .ok (.aload_n 0, 1) := by decide +kernel
theorem dL_law_1162 : decode code 1162 = .ok (.iload 4, 2) := by decide +kernel
theorem dL_law_1164 : decode code 1164 = .ok (.iconst 1, 1) := by decide +kernel
theorem dL_law_1165 : decode code 1165 = .ok (.iadd, 1) := by decide +kernel
theorem dL_law_1166 : decode code 1166 = .ok (.iaload, 1) := by decide +kernel
theorem dL_law_1167 : decode code 1167 = .ok (.aload_n 0, 1) := by decide +kernel
theorem dL_law_1168 : decode code 1168 = .ok (.iload 4, 2) := by decide +kernel
theorem dL_law_1170 : decode code 1170 = .ok (.iconst 2, 1) := by decide +kernel
theorem dL_law_1171 : decode code 1171 = .ok (.iadd, 1) := by decide +kernel
theorem dL_law_1172 : decode code 1172 = .ok (.iaload, 1) := by decide +kernel
theorem dL_law_1173 : decode code 1173 = .ok (.ifCond .eq 7, 3) := by decide +kernel
theorem dL_law_1176 : decode code 1176 = .ok (.iconst 1, 1) := by decide +kernel
theorem dL_law_1177 : decode code 1177 = .ok (.goto 4, 3) := by decide +kernel
theorem dL_law_1180 : decode code 1180 = .ok (.iconst 0, 1) := by decide +kernel
theorem dL_law_1181 : decode code 1181 = .ok (.invokevirtual 141, 3) := by decide +kernel
theorem dL_law_1184 : decode code 1184 = .ok (.if_icmp .eq 105, 3) := by decide +kernel
theorem dL_law_1187 : decode code 1187 = .ok (.iconst 0, 1) := by decide +kernel
theorem dL_law_1188 : decode code 1188 = .ok (.ireturn, 1) := by decide +kernel
theorem dL_law_1189 : decode code 1189 = .ok (.aload_n 1, 1) := by decide +kernel
theorem dL_law_1190 : decode code 1190 = .ok (.aload_n 0, 1) := by decide +kernel
theorem dL_law_1191 : decode code 1191 = .ok (.iload 4, 2) := by decide +kernel
theorem dL_law_1193 : decode code 1193 = .ok (.iconst 1, 1) := by decide +kernel
theorem dL_law_1194 : decode code 1194 = .ok (.iadd, 1) := by decide +kernel
theorem dL_law_1195 : decode code 1195 = .ok (.iaload, 1) := by decide +kernel
theorem dL_law_1196 : decode code 1196 = .ok (.invokevirtual 142, 3) := by decide +kernel
theorem dL_law_1199 : decode code 1199 = .ok (.aload_n 2, 1) := by decide +kernel
theorem dL_law_1200 : decode code 1200 = .ok (.aload_n 0, 1) := by decide +kernel
theorem dL_law_1201 : decode code 1201 = .ok (.iload 4, 2) := by decide +kernel
theorem dL_law_1203 : decode code 1203 = .ok (.iconst 1, 1) := by decide +kernel
theorem dL_law_1204 : decode code 1204 = .ok (.iadd, 1) := by decide +kernel
theorem dL_law_1205 : decode code 1205 = .ok (.iaload, 1) := by decide +kernel
theorem dL_law_1206 : decode code 1206 = .ok (.invokevirtual 145, 3) := by decide +kernel
theorem dL_law_1209 : decode code 1209 = .ok (.if_icmp .eq 80, 3) := by decide +kernel
theorem dL_law_1212 : decode code 1212 = .ok (.iconst 0, 1) := by decide +kernel
theorem dL_law_1213 : decode code 1213 = .ok (.ireturn, 1) := by decide +kernel
theorem dL_law_1214 : decode code 1214 = .ok (.aload_n 1, 1) := by decide +kernel
theorem dL_law_1215 : decode code 1215 = .ok (.invokevirtual 146, 3) := by decide +kernel
theorem dL_law_1218 : decode code 1218 = .ok (.aload_n 2, 1) := by decide +kernel
theorem dL_law_1219 : decode code 1219 = .ok (.invokevirtual 149, 3) := by decide +kernel
theorem dL_law_1222 : decode code 1222 = .ok (.if_icmp .eq 67, 3) := by decide +kernel
theorem dL_law_1225 : decode code 1225 = .ok (.iconst 0, 1) := by decide +kernel
theorem dL_law_1226 : decode code 1226 = .ok (.ireturn, 1) := by decide +kernel
theorem dL_law_1227 : decode code 1227 = .ok (.aload_n 1, 1) := by decide +kernel
theorem dL_law_1228 : decode code 1228 = .ok (.aload_n 0, 1) := by decide +kernel
theorem dL_law_1229 : decode code 1229 = .ok (.iload 4, 2) := by decide +kernel
theorem dL_law_1231 : decode code 1231 = .ok (.iconst 1, 1) := by decide +kernel
theorem dL_law_1232 : decode code 1232 = .ok (.iadd, 1) := by decide +kernel
theorem dL_law_1233 : decode code 1233 = .ok (.iaload, 1) := by decide +kernel
theorem dL_law_1234 : decode code 1234 = .ok (.aload_n 0, 1) := by decide +kernel
theorem dL_law_1235 : decode code 1235 = .ok (.iload 4, 2) := by decide +kernel
theorem dL_law_1237 : decode code 1237 = .ok (.iconst 2, 1) := by decide +kernel
theorem dL_law_1238 : decode code 1238 = .ok (.iadd, 1) := by decide +kernel
theorem dL_law_1239 : decode code 1239 = .ok (.iaload, 1) := by decide +kernel
theorem dL_law_1240 : decode code 1240 = .ok (.invokevirtual 150, 3) := by decide +kernel
theorem dL_law_1243 : decode code 1243 = .ok (.aload_n 2, 1) := by decide +kernel
theorem dL_law_1244 : decode code 1244 = .ok (.aload_n 0, 1) := by decide +kernel
theorem dL_law_1245 : decode code 1245 = .ok (.iload 4, 2) := by decide +kernel
theorem dL_law_1247 : decode code 1247 = .ok (.iconst 1, 1) := by decide +kernel
theorem dL_law_1248 : decode code 1248 = .ok (.iadd, 1) := by decide +kernel
theorem dL_law_1249 : decode code 1249 = .ok (.iaload, 1) := by decide +kernel
theorem dL_law_1250 : decode code 1250 = .ok (.aload_n 0, 1) := by decide +kernel
theorem dL_law_1251 : decode code 1251 = .ok (.iload 4, 2) := by decide +kernel
theorem dL_law_1253 : decode code 1253 = .ok (.iconst 2, 1) := by decide +kernel
theorem dL_law_1254 : decode code 1254 = .ok (.iadd, 1) := by decide +kernel
theorem dL_law_1255 : decode code 1255 = .ok (.iaload, 1) := by decide +kernel
theorem dL_law_1256 : decode code 1256 = .ok (.invokevirtual 153, 3) := by decide +kernel
theorem dL_law_1259 : decode code 1259 = .ok (.if_icmp .eq 30, 3) := by decide +kernel
theorem dL_law_1262 : decode code 1262 = .ok (.iconst 0, 1) := by decide +kernel
theorem dL_law_1263 : decode code 1263 = .ok (.ireturn, 1) := by decide +kernel
theorem dL_law_1264 : decode code 1264 = .ok (.aload_n 1, 1) := by decide +kernel
theorem dL_law_1265 : decode code 1265 = .ok (.aload_n 0, 1) := by decide +kernel
theorem dL_law_1266 : decode code 1266 = .ok (.iload 4, 2) := by decide +kernel
theorem dL_law_1268 : decode code 1268 = .ok (.iconst 1, 1) := by decide +kernel
theorem dL_law_1269 : decode code 1269 = .ok (.iadd, 1) := by decide +kernel
theorem dL_law_1270 : decode code 1270 = .ok (.iaload, 1) := by decide +kernel
theorem dL_law_1271 : decode code 1271 = .ok (.invokevirtual 154, 3) := by decide +kernel
theorem dL_law_1274 : decode code 1274 = .ok (.aload_n 2, 1) := by decide +kernel
theorem dL_law_1275 : decode code 1275 = .ok (.aload_n 0, 1) := by decide +kernel
theorem dL_law_1276 : decode code 1276 = .ok (.iload 4, 2) := by decide +kernel
theorem dL_law_1278 : decode code 1278 = .ok (.iconst 1, 1) := by decide +kernel
theorem dL_law_1279 : decode code 1279 = .ok (.iadd, 1) := by decide +kernel
theorem dL_law_1280 : decode code 1280 = .ok (.iaload, 1) := by decide +kernel
theorem dL_law_1281 : decode code 1281 = .ok (.invokevirtual 157, 3) := by decide +kernel
theorem dL_law_1284 : decode code 1284 = .ok (.if_icmp .eq 5, 3) := by decide +kernel
theorem dL_law_1287 : decode code 1287 = .ok (.iconst 0, 1) := by decide +kernel
theorem dL_law_1288 : decode code 1288 = .ok (.ireturn, 1) := by decide +kernel
theorem dL_law_1289 : decode code 1289 = .ok (.iinc 4 4, 3) := by decide +kernel
theorem dL_law_1292 : decode code 1292 = .ok (.goto (-1269), 3) := by decide +kernel
theorem dL_law_1295 : decode code 1295 = .ok (.iconst 1, 1) := by decide +kernel
theorem dL_law_1296 : decode code 1296 = .ok (.ireturn, 1) := by decide +kernel
