theorem dX12_whole_121 : decode cX12_whole 121 = .ok (.goto 8, 3) := by decide +kernel
theorem dX12_whole_124 : decode cX12_whole 124 = .ok (.lload 6, 2) := by decide +kernel
theorem dX12_whole_126 : decode cX12_whole 126 = .ok (.lload 8, 2) := by decide +kernel
theorem dX12_whole_128 : decode cX12_whole 128 = .ok (.ldiv, 1) := by decide +kernel
theorem dX12_whole_129 : decode cX12_whole 129 = .ok (.lreturn, 1) := by decide +kernel
theorem dX12_within_0 : decode cX12_within 0 = .ok (.aload_n 0, 1) := by decide +kernel
theorem dX12_within_1 : decode cX12_within 1 = .ok (.getfield 68, 3) := by decide +kernel
theorem dX12_within_4 : decode cX12_within 4 = .ok (.iload_n 1, 1) := by decide +kernel
theorem dX12_within_5 : decode cX12_within 5 = .ok (.iaload, 1) := by decide +kernel
theorem dX12_within_6 : decode cX12_within 6 = .ok (.aload_n 0, 1) := by decide +kernel
theorem dX12_within_7 : decode cX12_within 7 = .ok (.getfield 65, 3) := by decide +kernel
theorem dX12_within_10 : decode cX12_within 10 = .ok (.iload_n 1, 1) := by decide +kernel
theorem dX12_within_11 : decode cX12_within 11 = .ok (.iaload, 1) := by decide +kernel
theorem dX12_within_12 : decode cX12_within 12 = .ok (.if_icmp .eq 11, 3) := by decide +kernel
theorem dX12_within_15 : decode cX12_within 15 = .ok (.aload_n 0, 1) := by decide +kernel
theorem dX12_within_16 : decode cX12_within 16 = .ok (.iload_n 1, 1) := by decide +kernel
theorem dX12_within_17 : decode cX12_within 17 = .ok (.invokevirtual 368, 3) := by decide +kernel
theorem dX12_within_20 : decode cX12_within 20 = .ok (.ifCond .ne 5, 3) := by decide +kernel
theorem dX12_within_23 : decode cX12_within 23 = .ok (.iload_n 3, 1) := by decide +kernel
theorem dX12_within_24 : decode cX12_within 24 = .ok (.ireturn, 1) := by decide +kernel
theorem dX12_within_25 : decode cX12_within 25 = .ok (.lconst 0, 1) := by decide +kernel
theorem dX12_within_26 : decode cX12_within 26 = .ok (.iload_n 2, 1) := by decide +kernel
theorem dX12_within_27 : decode cX12_within 27 = .ok (.i2l, 1) := by decide +kernel
theorem dX12_within_28 : decode cX12_within 28 = .ok (.aload_n 0, 1) := by decide +kernel
theorem dX12_within_29 : decode cX12_within 29 = .ok (.getfield 121, 3) := by decide +kernel
theorem dX12_within_32 : decode cX12_within 32 = .ok (.iconst 0, 1) := by decide +kernel
theorem dX12_within_33 : decode cX12_within 33 = .ok (.laload, 1) := by decide +kernel
theorem dX12_within_34 : decode cX12_within 34 = .ok (.invokestatic 371, 3) := by decide +kernel
theorem dX12_within_37 : decode cX12_within 37 = .ok (.invokestatic 375, 3) := by decide +kernel
theorem dX12_within_40 : decode cX12_within 40 = .ok (.l2i, 1) := by decide +kernel
theorem dX12_within_41 : decode cX12_within 41 = .ok (.ireturn, 1) := by decide +kernel
theorem dX12_word_0 : decode cX12_word 0 = .ok (.iconst 0, 1) := by decide +kernel
theorem dX12_word_1 : decode cX12_word 1 = .ok (.istore_n 1, 1) := by decide +kernel
theorem dX12_word_2 : decode cX12_word 2 = .ok (.iconst 0, 1) := by decide +kernel
theorem dX12_word_3 : decode cX12_word 3 = .ok (.istore_n 2, 1) := by decide +kernel
theorem dX12_word_4 : decode cX12_word 4 = .ok (.iload_n 2, 1) := by decide +kernel
theorem dX12_word_5 : decode cX12_word 5 = .ok (.ldc 206, 2) := by decide +kernel
theorem dX12_word_7 : decode cX12_word 7 = .ok (.invokevirtual 208, 3) := by decide +kernel
theorem dX12_word_10 : decode cX12_word 10 = .ok (.if_icmp .ge 113, 3) := by decide +kernel
theorem dX12_word_13 : decode cX12_word 13 = .ok (.iconst 0, 1) := by decide +kernel
theorem dX12_word_14 : decode cX12_word 14 = .ok (.istore_n 3, 1) := by decide +kernel
theorem dX12_word_15 : decode cX12_word 15 = .ok (.ldc 206, 2) := by decide +kernel
theorem dX12_word_17 : decode cX12_word 17 = .ok (.iload_n 2, 1) := by decide +kernel
theorem dX12_word_18 : decode cX12_word 18 = .ok (.iload_n 3, 1) := by decide +kernel
theorem dX12_word_19 : decode cX12_word 19 = .ok (.iadd, 1) := by decide +kernel
theorem dX12_word_20 : decode cX12_word 20 = .ok (.invokevirtual 213, 3) := by decide +kernel
theorem dX12_word_23 : decode cX12_word 23 = .ok (.bipush 32, 2) := by decide +kernel
theorem dX12_word_25 : decode cX12_word 25 = .ok (.if_icmp .eq 44, 3) := by decide +kernel
theorem dX12_word_28 : decode cX12_word 28 = .ok (.aload_n 0, 1) := by decide +kernel
theorem dX12_word_29 : decode cX12_word 29 = .ok (.getfield 179, 3) := by decide +kernel
theorem dX12_word_32 : decode cX12_word 32 = .ok (.iload_n 3, 1) := by decide +kernel
theorem dX12_word_33 : decode cX12_word 33 = .ok (.iadd, 1) := by decide +kernel
theorem dX12_word_34 : decode cX12_word 34 = .ok (.aload_n 0, 1) := by decide +kernel
theorem dX12_word_35 : decode cX12_word 35 = .ok (.getfield 169, 3) := by decide +kernel
theorem dX12_word_38 : decode cX12_word 38 = .ok (.if_icmp .ge 31, 3) := by decide +kernel
theorem dX12_word_41 : decode cX12_word 41 = .ok (.aload_n 0, 1) := by decide +kernel
theorem dX12_word_42 : decode cX12_word 42 = .ok (.getfield 7, 3) := by decide +kernel
theorem dX12_word_45 : decode cX12_word 45 = .ok (.aload_n 0, 1) := by decide +kernel
theorem dX12_word_46 : decode cX12_word 46 = .ok (.getfield 179, 3) := by decide +kernel
theorem dX12_word_49 : decode cX12_word 49 = .ok (.iload_n 3, 1) := by decide +kernel
theorem dX12_word_50 : decode cX12_word 50 = .ok (.iadd, 1) := by decide +kernel
theorem dX12_word_51 : decode cX12_word 51 = .ok (.iaload, 1) := by decide +kernel
theorem dX12_word_52 : decode cX12_word 52 = .ok (.ldc 206, 2) := by decide +kernel
theorem dX12_word_54 : decode cX12_word 54 = .ok (.iload_n 2, 1) := by decide +kernel
theorem dX12_word_55 : decode cX12_word 55 = .ok (.iload_n 3, 1) := by decide +kernel
theorem dX12_word_56 : decode cX12_word 56 = .ok (.iadd, 1) := by decide +kernel
theorem dX12_word_57 : decode cX12_word 57 = .ok (.invokevirtual 213, 3) := by decide +kernel
theorem dX12_word_60 : decode cX12_word 60 = .ok (.if_icmp .ne 9, 3) := by decide +kernel
theorem dX12_word_63 : decode cX12_word 63 = .ok (.iinc 3 1, 3) := by decide +kernel
theorem dX12_word_66 : decode cX12_word 66 = .ok (.goto (-51), 3) := by decide +kernel
theorem dX12_word_69 : decode cX12_word 69 = .ok (.ldc 206, 2) := by decide +kernel
theorem dX12_word_71 : decode cX12_word 71 = .ok (.iload_n 2, 1) := by decide +kernel
theorem dX12_word_72 : decode cX12_word 72 = .ok (.iload_n 3, 1) := by decide +kernel
theorem dX12_word_73 : decode cX12_word 73 = .ok (.iadd, 1) := by decide +kernel
theorem dX12_word_74 : decode cX12_word 74 = .ok (.invokevirtual 213, 3) := by decide +kernel
theorem dX12_word_77 : decode cX12_word 77 = .ok (.bipush 32, 2) := by decide +kernel
theorem dX12_word_79 : decode cX12_word 79 = .ok (.if_icmp .ne 18, 3) := by decide +kernel
theorem dX12_word_82 : decode cX12_word 82 = .ok (.aload_n 0, 1) := by decide +kernel
theorem dX12_word_83 : decode cX12_word 83 = .ok (.getfield 179, 3) := by decide +kernel
theorem dX12_word_86 : decode cX12_word 86 = .ok (.iload_n 3, 1) := by decide +kernel
theorem dX12_word_87 : decode cX12_word 87 = .ok (.iadd, 1) := by decide +kernel
theorem dX12_word_88 : decode cX12_word 88 = .ok (.aload_n 0, 1) := by decide +kernel
theorem dX12_word_89 : decode cX12_word 89 = .ok (.getfield 169, 3) := by decide +kernel
theorem dX12_word_92 : decode cX12_word 92 = .ok (.if_icmp .ne 5, 3) := by decide +kernel
theorem dX12_word_95 : decode cX12_word 95 = .ok (.iload_n 1, 1) := by decide +kernel
theorem dX12_word_96 : decode cX12_word 96 = .ok (.ireturn, 1) := by decide +kernel
theorem dX12_word_97 : decode cX12_word 97 = .ok (.ldc 206, 2) := by decide +kernel
theorem dX12_word_99 : decode cX12_word 99 = .ok (.iload_n 2, 1) := by decide +kernel
theorem dX12_word_100 : decode cX12_word 100 = .ok (.invokevirtual 213, 3) := by decide +kernel
theorem dX12_word_103 : decode cX12_word 103 = .ok (.bipush 32, 2) := by decide +kernel
theorem dX12_word_105 : decode cX12_word 105 = .ok (.if_icmp .eq 9, 3) := by decide +kernel
theorem dX12_word_108 : decode cX12_word 108 = .ok (.iinc 2 1, 3) := by decide +kernel
theorem dX12_word_111 : decode cX12_word 111 = .ok (.goto (-14), 3) := by decide +kernel
theorem dX12_word_114 : decode cX12_word 114 = .ok (.iinc 2 1, 3) := by decide +kernel
theorem dX12_word_117 : decode cX12_word 117 = .ok (.iinc 1 1, 3) := by decide +kernel
theorem dX12_word_120 : decode cX12_word 120 = .ok (.goto (-116), 3) := by decide +kernel
theorem dX12_word_123 : decode cX12_word 123 = .ok (.iconst (-1), 1) := by decide +kernel
theorem dX12_word_124 : decode cX12_word 124 = .ok (.ireturn, 1) := by decide +kernel
theorem dX12_works_0 : decode cX12_works 0 = .ok (.aload_n 0, 1) := by decide +kernel
theorem dX12_works_1 : decode cX12_works 1 = .ok (.getfield 121, 3) := by decide +kernel
theorem dX12_works_4 : decode cX12_works 4 = .ok (.aload_n 0, 1) := by decide +kernel
theorem dX12_works_5 : decode cX12_works 5 = .ok (.getfield 348, 3) := by decide +kernel
theorem dX12_works_8 : decode cX12_works 8 = .ok (.iconst 1, 1) := by decide +kernel
theorem dX12_works_9 : decode cX12_works 9 = .ok (.isub, 1) := by decide +kernel
theorem dX12_works_10 : decode cX12_works 10 = .ok (.laload, 1) := by decide +kernel
theorem dX12_works_11 : decode cX12_works 11 = .ok (.lstore_n 2, 1) := by decide +kernel
theorem dX12_works_12 : decode cX12_works 12 = .ok (.iload_n 1, 1) := by decide +kernel
theorem dX12_works_13 : decode cX12_works 13 = .ok (.sipush 260, 3) := by decide +kernel
theorem dX12_works_16 : decode cX12_works 16 = .ok (.if_icmp .ne 30, 3) := by decide +kernel
theorem dX12_works_19 : decode cX12_works 19 = .ok (.aload_n 0, 1) := by decide +kernel
theorem dX12_works_20 : decode cX12_works 20 = .ok (.getfield 121, 3) := by decide +kernel
theorem dX12_works_23 : decode cX12_works 23 = .ok (.aload_n 0, 1) := by decide +kernel
theorem dX12_works_24 : decode cX12_works 24 = .ok (.getfield 348, 3) := by decide +kernel
theorem dX12_works_27 : decode cX12_works 27 = .ok (.iconst 1, 1) := by decide +kernel
theorem dX12_works_28 : decode cX12_works 28 = .ok (.isub, 1) := by decide +kernel
theorem dX12_works_29 : decode cX12_works 29 = .ok (.lload_n 2, 1) := by decide +kernel
theorem dX12_works_30 : decode cX12_works 30 = .ok (.lconst 0, 1) := by decide +kernel
theorem dX12_works_31 : decode cX12_works 31 = .ok (.lcmp, 1) := by decide +kernel
theorem dX12_works_32 : decode cX12_works 32 = .ok (.ifCond .ne 7, 3) := by decide +kernel
theorem dX12_works_35 : decode cX12_works 35 = .ok (.iconst 1, 1) := by decide +kernel
theorem dX12_works_36 : decode cX12_works 36 = .ok (.goto 4, 3) := by decide +kernel
theorem dX12_works_39 : decode cX12_works 39 = .ok (.iconst 0, 1) := by decide +kernel
theorem dX12_works_40 : decode cX12_works 40 = .ok (.invokestatic 351, 3) := by decide +kernel
theorem dX12_works_43 : decode cX12_works 43 = .ok (.lastore, 1) := by decide +kernel
theorem dX12_works_44 : decode cX12_works 44 = .ok (.iconst 1, 1) := by decide +kernel
theorem dX12_works_45 : decode cX12_works 45 = .ok (.ireturn, 1) := by decide +kernel
theorem dX12_works_46 : decode cX12_works 46 = .ok (.aload_n 0, 1) := by decide +kernel
theorem dX12_works_47 : decode cX12_works 47 = .ok (.getfield 121, 3) := by decide +kernel
theorem dX12_works_50 : decode cX12_works 50 = .ok (.aload_n 0, 1) := by decide +kernel
theorem dX12_works_51 : decode cX12_works 51 = .ok (.getfield 348, 3) := by decide +kernel
theorem dX12_works_54 : decode cX12_works 54 = .ok (.iconst 2, 1) := by decide +kernel
theorem dX12_works_55 : decode cX12_works 55 = .ok (.isub, 1) := by decide +kernel
theorem dX12_works_56 : decode cX12_works 56 = .ok (.laload, 1) := by decide +kernel
theorem dX12_works_57 : decode cX12_works 57 = .ok (.lstore 4, 2) := by decide +kernel
theorem dX12_works_59 : decode cX12_works 59 = .ok (.aload_n 0, 1) := by decide +kernel
theorem dX12_works_60 : decode cX12_works 60 = .ok (.dup, 1) := by decide +kernel
theorem dX12_works_61 : decode cX12_works 61 = .ok (.getfield 348, 3) := by decide +kernel
theorem dX12_works_64 : decode cX12_works 64 = .ok (.iconst 1, 1) := by decide +kernel
theorem dX12_works_65 : decode cX12_works 65 = .ok (.isub, 1) := by decide +kernel
theorem dX12_works_66 : decode cX12_works 66 = .ok (.putfield 348, 3) := by decide +kernel
theorem dX12_works_69 : decode cX12_works 69 = .ok (.iload_n 1, 1) := by decide +kernel
theorem dX12_works_70 : decode cX12_works 70 = .ok (.lookupswitch 314 #[(42, 116), (43, 98), (45, 107), (47, 151), (60, 168), (61, 208), (62, 188), (256, 228), (257, 268), (258, 248), (261, 288)], 98) := by decide +kernel
theorem dX12_works_168 : decode cX12_works 168 = .ok (.lload 4, 2) := by decide +kernel
theorem dX12_works_170 : decode cX12_works 170 = .ok (.lload_n 2, 1) := by decide +kernel
theorem dX12_works_171 : decode cX12_works 171 = .ok (.ladd, 1) := by decide +kernel
theorem dX12_works_172 : decode cX12_works 172 = .ok (.lstore 6, 2) := by decide +kernel
theorem dX12_works_174 : decode cX12_works 174 = .ok (.goto 233, 3) := by decide +kernel
theorem dX12_works_177 : decode cX12_works 177 = .ok (.lload 4, 2) := by decide +kernel
theorem dX12_works_179 : decode cX12_works 179 = .ok (.lload_n 2, 1) := by decide +kernel
theorem dX12_works_180 : decode cX12_works 180 = .ok (.lsub, 1) := by decide +kernel
theorem dX12_works_181 : decode cX12_works 181 = .ok (.lstore 6, 2) := by decide +kernel
theorem dX12_works_183 : decode cX12_works 183 = .ok (.goto 224, 3) := by decide +kernel
theorem dX12_works_186 : decode cX12_works 186 = .ok (.lload 4, 2) := by decide +kernel
theorem dX12_works_188 : decode cX12_works 188 = .ok (.lconst 0, 1) := by decide +kernel
theorem dX12_works_189 : decode cX12_works 189 = .ok (.lcmp, 1) := by decide +kernel
theorem dX12_works_190 : decode cX12_works 190 = .ok (.ifCond .eq 22, 3) := by decide +kernel
theorem dX12_works_193 : decode cX12_works 193 = .ok (.lload_n 2, 1) := by decide +kernel
theorem dX12_works_194 : decode cX12_works 194 = .ok (.invokestatic 355, 3) := by decide +kernel
theorem dX12_works_197 : decode cX12_works 197 = .ok (.ldc2_w 361, 3) := by decide +kernel
theorem dX12_works_200 : decode cX12_works 200 = .ok (.lload 4, 2) := by decide +kernel
theorem dX12_works_202 : decode cX12_works 202 = .ok (.invokestatic 355, 3) := by decide +kernel
theorem dX12_works_205 : decode cX12_works 205 = .ok (.ldiv, 1) := by decide +kernel
theorem dX12_works_206 : decode cX12_works 206 = .ok (.lcmp, 1) := by decide +kernel
theorem dX12_works_207 : decode cX12_works 207 = .ok (.ifCond .le 5, 3) := by decide +kernel
theorem dX12_works_210 : decode cX12_works 210 = .ok (.iconst 0, 1) := by decide +kernel
theorem dX12_works_211 : decode cX12_works 211 = .ok (.ireturn, 1) := by decide +kernel
theorem dX12_works_212 : decode cX12_works 212 = .ok (.lload 4, 2) := by decide +kernel
theorem dX12_works_214 : decode cX12_works 214 = .ok (.lload_n 2, 1) := by decide +kernel
theorem dX12_works_215 : decode cX12_works 215 = .ok (.lmul, 1) := by decide +kernel
theorem dX12_works_216 : decode cX12_works 216 = .ok (.lstore 6, 2) := by decide +kernel
theorem dX12_works_218 : decode cX12_works 218 = .ok (.goto 189, 3) := by decide +kernel
theorem dX12_works_221 : decode cX12_works 221 = .ok (.lload_n 2, 1) := by decide +kernel
theorem dX12_works_222 : decode cX12_works 222 = .ok (.lconst 0, 1) := by decide +kernel
theorem dX12_works_223 : decode cX12_works 223 = .ok (.lcmp, 1) := by decide +kernel
theorem dX12_works_224 : decode cX12_works 224 = .ok (.ifCond .ne 5, 3) := by decide +kernel
theorem dX12_works_227 : decode cX12_works 227 = .ok (.iconst 0, 1) := by decide +kernel
theorem dX12_works_228 : decode cX12_works 228 = .ok (.ireturn, 1) := by decide +kernel
theorem dX12_works_229 : decode cX12_works 229 = .ok (.lload 4, 2) := by decide +kernel
theorem dX12_works_231 : decode cX12_works 231 = .ok (.lload_n 2, 1) := by decide +kernel
theorem dX12_works_232 : decode cX12_works 232 = .ok (.ldiv, 1) := by decide +kernel
theorem dX12_works_233 : decode cX12_works 233 = .ok (.lstore 6, 2) := by decide +kernel
theorem dX12_works_235 : decode cX12_works 235 = .ok (.goto 172, 3) := by decide +kernel
theorem dX12_works_238 : decode cX12_works 238 = .ok (.lload 4, 2) := by decide +kernel
theorem dX12_works_240 : decode cX12_works 240 = .ok (.lload_n 2, 1) := by decide +kernel
theorem dX12_works_241 : decode cX12_works 241 = .ok (.lcmp, 1) := by decide +kernel
theorem dX12_works_242 : decode cX12_works 242 = .ok (.ifCond .ge 7, 3) := by decide +kernel
theorem dX12_works_245 : decode cX12_works 245 = .ok (.iconst 1, 1) := by decide +kernel
theorem dX12_works_246 : decode cX12_works 246 = .ok (.goto 4, 3) := by decide +kernel
theorem dX12_works_249 : decode cX12_works 249 = .ok (.iconst 0, 1) := by decide +kernel
theorem dX12_works_250 : decode cX12_works 250 = .ok (.invokestatic 351, 3) := by decide +kernel
theorem dX12_works_253 : decode cX12_works 253 = .ok (.lstore 6, 2) := by decide +kernel
theorem dX12_works_255 : decode cX12_works 255 = .ok (.goto 152, 3) := by decide +kernel
theorem dX12_works_258 : decode cX12_works 258 = .ok (.lload 4, 2) := by decide +kernel
theorem dX12_works_260 : decode cX12_works 260 = .ok (.lload_n 2, 1) := by decide +kernel
theorem dX12_works_261 : decode cX12_works 261 = .ok (.lcmp, 1) := by decide +kernel
theorem dX12_works_262 : decode cX12_works 262 = .ok (.ifCond .le 7, 3) := by decide +kernel
theorem dX12_works_265 : decode cX12_works 265 = .ok (.iconst 1, 1) := by decide +kernel
theorem dX12_works_266 : decode cX12_works 266 = .ok (.goto 4, 3) := by decide +kernel
theorem dX12_works_269 : decode cX12_works 269 = .ok (.iconst 0, 1) := by decide +kernel
theorem dX12_works_270 : decode cX12_works 270 = .ok (.invokestatic 351, 3) := by decide +kernel
theorem dX12_works_273 : decode cX12_works 273 = .ok (.lstore 6, 2) := by decide +kernel
theorem dX12_works_275 : decode cX12_works 275 = .ok (.goto 132, 3) := by decide +kernel
theorem dX12_works_278 : decode cX12_works 278 = .ok (.lload 4, 2) := by decide +kernel
theorem dX12_works_280 : decode cX12_works 280 = .ok (.lload_n 2, 1) := by decide +kernel
theorem dX12_works_281 : decode cX12_works 281 = .ok (.lcmp, 1) := by decide +kernel
theorem dX12_works_282 : decode cX12_works 282 = .ok (.ifCond .ne 7, 3) := by decide +kernel
theorem dX12_works_285 : decode cX12_works 285 = .ok (.iconst 1, 1) := by decide +kernel
theorem dX12_works_286 : decode cX12_works 286 = .ok (.goto 4, 3) := by decide +kernel
theorem dX12_works_289 : decode cX12_works 289 = .ok (.iconst 0, 1) := by decide +kernel
theorem dX12_works_290 : decode cX12_works 290 = .ok (.invokestatic 351, 3) := by decide +kernel
theorem dX12_works_293 : decode cX12_works 293 = .ok (.lstore 6, 2) := by decide +kernel
theorem dX12_works_295 : decode cX12_works 295 = .ok (.goto 112, 3) := by decide +kernel
theorem dX12_works_298 : decode cX12_works 298 = .ok (.lload 4, 2) := by decide +kernel
theorem dX12_works_300 : decode cX12_works 300 = .ok (.lload_n 2, 1) := by decide +kernel
theorem dX12_works_301 : decode cX12_works 301 = .ok (.lcmp, 1) := by decide +kernel
theorem dX12_works_302 : decode cX12_works 302 = .ok (.ifCond .gt 7, 3) := by decide +kernel
theorem dX12_works_305 : decode cX12_works 305 = .ok (.iconst 1, 1) := by decide +kernel
theorem dX12_works_306 : decode cX12_works 306 = .ok (.goto 4, 3) := by decide +kernel
theorem dX12_works_309 : decode cX12_works 309 = .ok (.iconst 0, 1) := by decide +kernel
theorem dX12_works_310 : decode cX12_works 310 = .ok (.invokestatic 351, 3) := by decide +kernel
theorem dX12_works_313 : decode cX12_works 313 = .ok (.lstore 6, 2) := by decide +kernel
theorem dX12_works_315 : decode cX12_works 315 = .ok (.goto 92, 3) := by decide +kernel
theorem dX12_works_318 : decode cX12_works 318 = .ok (.lload 4, 2) := by decide +kernel
theorem dX12_works_320 : decode cX12_works 320 = .ok (.lload_n 2, 1) := by decide +kernel
theorem dX12_works_321 : decode cX12_works 321 = .ok (.lcmp, 1) := by decide +kernel
theorem dX12_works_322 : decode cX12_works 322 = .ok (.ifCond .lt 7, 3) := by decide +kernel
theorem dX12_works_325 : decode cX12_works 325 = .ok (.iconst 1, 1) := by decide +kernel
theorem dX12_works_326 : decode cX12_works 326 = .ok (.goto 4, 3) := by decide +kernel
theorem dX12_works_329 : decode cX12_works 329 = .ok (.iconst 0, 1) := by decide +kernel
theorem dX12_works_330 : decode cX12_works 330 = .ok (.invokestatic 351, 3) := by decide +kernel
theorem dX12_works_333 : decode cX12_works 333 = .ok (.lstore 6, 2) := by decide +kernel
theorem dX12_works_335 : decode cX12_works 335 = .ok (.goto 72, 3) := by decide +kernel
theorem dX12_works_338 : decode cX12_works 338 = .ok (.lload 4, 2) := by decide +kernel
theorem dX12_works_340 : decode cX12_works 340 = .ok (.lload_n 2, 1) := by decide +kernel
theorem dX12_works_341 : decode cX12_works 341 = .ok (.lcmp, 1) := by decide +kernel
theorem dX12_works_342 : decode cX12_works 342 = .ok (.ifCond .eq 7, 3) := by decide +kernel
theorem dX12_works_345 : decode cX12_works 345 = .ok (.iconst 1, 1) := by decide +kernel
theorem dX12_works_346 : decode cX12_works 346 = .ok (.goto 4, 3) := by decide +kernel
theorem dX12_works_349 : decode cX12_works 349 = .ok (.iconst 0, 1) := by decide +kernel
theorem dX12_works_350 : decode cX12_works 350 = .ok (.invokestatic 351, 3) := by decide +kernel
theorem dX12_works_353 : decode cX12_works 353 = .ok (.lstore 6, 2) := by decide +kernel
theorem dX12_works_355 : decode cX12_works 355 = .ok (.goto 52, 3) := by decide +kernel
theorem dX12_works_358 : decode cX12_works 358 = .ok (.lload 4, 2) := by decide +kernel
theorem dX12_works_360 : decode cX12_works 360 = .ok (.lconst 0, 1) := by decide +kernel
theorem dX12_works_361 : decode cX12_works 361 = .ok (.lcmp, 1) := by decide +kernel
theorem dX12_works_362 : decode cX12_works 362 = .ok (.ifCond .eq 13, 3) := by decide +kernel
theorem dX12_works_365 : decode cX12_works 365 = .ok (.lload_n 2, 1) := by decide +kernel
theorem dX12_works_366 : decode cX12_works 366 = .ok (.lconst 0, 1) := by decide +kernel
theorem dX12_works_367 : decode cX12_works 367 = .ok (.lcmp, 1) := by decide +kernel
theorem dX12_works_368 : decode cX12_works 368 = .ok (.ifCond .eq 7, 3) := by decide +kernel
theorem dX12_works_371 : decode cX12_works 371 = .ok (.iconst 1, 1) := by decide +kernel
theorem dX12_works_372 : decode cX12_works 372 = .ok (.goto 4, 3) := by decide +kernel
theorem dX12_works_375 : decode cX12_works 375 = .ok (.iconst 0, 1) := by decide +kernel
theorem dX12_works_376 : decode cX12_works 376 = .ok (.invokestatic 351, 3) := by decide +kernel
theorem dX12_works_379 : decode cX12_works 379 = .ok (.lstore 6, 2) := by decide +kernel
theorem dX12_works_381 : decode cX12_works 381 = .ok (.goto 26, 3) := by decide +kernel
theorem dX12_works_384 : decode cX12_works 384 = .ok (.lload 4, 2) := by decide +kernel
theorem dX12_works_386 : decode cX12_works 386 = .ok (.lconst 0, 1) := by decide +kernel
theorem dX12_works_387 : decode cX12_works 387 = .ok (.lcmp, 1) := by decide +kernel
theorem dX12_works_388 : decode cX12_works 388 = .ok (.ifCond .ne 9, 3) := by decide +kernel
theorem dX12_works_391 : decode cX12_works 391 = .ok (.lload_n 2, 1) := by decide +kernel
theorem dX12_works_392 : decode cX12_works 392 = .ok (.lconst 0, 1) := by decide +kernel
theorem dX12_works_393 : decode cX12_works 393 = .ok (.lcmp, 1) := by decide +kernel
theorem dX12_works_394 : decode cX12_works 394 = .ok (.ifCond .eq 7, 3) := by decide +kernel
theorem dX12_works_397 : decode cX12_works 397 = .ok (.iconst 1, 1) := by decide +kernel
theorem dX12_works_398 : decode cX12_works 398 = .ok (.goto 4, 3) := by decide +kernel
theorem dX12_works_401 : decode cX12_works 401 = .ok (.iconst 0, 1) := by decide +kernel
theorem dX12_works_402 : decode cX12_works 402 = .ok (.invokestatic 351, 3) := by decide +kernel
theorem dX12_works_405 : decode cX12_works 405 = .ok (.lstore 6, 2) := by decide +kernel
theorem dX12_works_407 : decode cX12_works 407 = .ok (.aload_n 0, 1) := by decide +kernel
theorem dX12_works_408 : decode cX12_works 408 = .ok (.getfield 121, 3) := by decide +kernel
theorem dX12_works_411 : decode cX12_works 411 = .ok (.aload_n 0, 1) := by decide +kernel
theorem dX12_works_412 : decode cX12_works 412 = .ok (.getfield 348, 3) := by decide +kernel
theorem dX12_works_415 : decode cX12_works 415 = .ok (.iconst 1, 1) := by decide +kernel
theorem dX12_works_416 : decode cX12_works 416 = .ok (.isub, 1) := by decide +kernel
theorem dX12_works_417 : decode cX12_works 417 = .ok (.lload 6, 2) := by decide +kernel
theorem dX12_works_419 : decode cX12_works 419 = .ok (.lastore, 1) := by decide +kernel
theorem dX12_works_420 : decode cX12_works 420 = .ok (.lload 6, 2) := by decide +kernel
theorem dX12_works_422 : decode cX12_works 422 = .ok (.ldc2_w 361, 3) := by decide +kernel
theorem dX12_works_425 : decode cX12_works 425 = .ok (.lcmp, 1) := by decide +kernel
theorem dX12_works_426 : decode cX12_works 426 = .ok (.ifCond .gt 16, 3) := by decide +kernel
theorem dX12_works_429 : decode cX12_works 429 = .ok (.lload 6, 2) := by decide +kernel
theorem dX12_works_431 : decode cX12_works 431 = .ok (.ldc2_w 363, 3) := by decide +kernel
theorem dX12_works_434 : decode cX12_works 434 = .ok (.lcmp, 1) := by decide +kernel
theorem dX12_works_435 : decode cX12_works 435 = .ok (.ifCond .lt 7, 3) := by decide +kernel
theorem dX12_works_438 : decode cX12_works 438 = .ok (.iconst 1, 1) := by decide +kernel
theorem dX12_works_439 : decode cX12_works 439 = .ok (.goto 4, 3) := by decide +kernel
theorem dX12_works_442 : decode cX12_works 442 = .ok (.iconst 0, 1) := by decide +kernel
theorem dX12_works_443 : decode cX12_works 443 = .ok (.ireturn, 1) := by decide +kernel
theorem dX12_wrong_0 : decode cX12_wrong 0 = .ok (.aload_n 0, 1) := by decide +kernel
theorem dX12_wrong_1 : decode cX12_wrong 1 = .ok (.getfield 217, 3) := by decide +kernel
theorem dX12_wrong_4 : decode cX12_wrong 4 = .ok (.ifCond .eq 4, 3) := by decide +kernel
theorem dX12_wrong_7 : decode cX12_wrong 7 = .ok (.return_, 1) := by decide +kernel
theorem dX12_wrong_8 : decode cX12_wrong 8 = .ok (.aload_n 0, 1) := by decide +kernel
theorem dX12_wrong_9 : decode cX12_wrong 9 = .ok (.iload_n 1, 1) := by decide +kernel
theorem dX12_wrong_10 : decode cX12_wrong 10 = .ok (.putfield 217, 3) := by decide +kernel
theorem dX12_wrong_13 : decode cX12_wrong 13 = .ok (.aload_n 0, 1) := by decide +kernel
theorem dX12_wrong_14 : decode cX12_wrong 14 = .ok (.aload_n 0, 1) := by decide +kernel
theorem dX12_wrong_15 : decode cX12_wrong 15 = .ok (.getfield 179, 3) := by decide +kernel
theorem dX12_wrong_18 : decode cX12_wrong 18 = .ok (.putfield 220, 3) := by decide +kernel
theorem dX12_wrong_21 : decode cX12_wrong 21 = .ok (.return_, 1) := by decide +kernel
theorem dJ6_bitCount_0f7a4_0 : decode cJ6_bitCount_0f7a4 0 = .ok (.iload_n 0, 1) := by decide +kernel
theorem dJ6_bitCount_0f7a4_1 : decode cJ6_bitCount_0f7a4 1 = .ok (.iload_n 0, 1) := by decide +kernel
theorem dJ6_bitCount_0f7a4_2 : decode cJ6_bitCount_0f7a4 2 = .ok (.iconst 1, 1) := by decide +kernel
theorem dJ6_bitCount_0f7a4_3 : decode cJ6_bitCount_0f7a4 3 = .ok (.iushr, 1) := by decide +kernel
theorem dJ6_bitCount_0f7a4_4 : decode cJ6_bitCount_0f7a4 4 = .ok (.ldc_w 265, 3) := by decide +kernel
theorem dJ6_bitCount_0f7a4_7 : decode cJ6_bitCount_0f7a4 7 = .ok (.iand, 1) := by decide +kernel
theorem dJ6_bitCount_0f7a4_8 : decode cJ6_bitCount_0f7a4 8 = .ok (.isub, 1) := by decide +kernel
theorem dJ6_bitCount_0f7a4_9 : decode cJ6_bitCount_0f7a4 9 = .ok (.istore_n 0, 1) := by decide +kernel
theorem dJ6_bitCount_0f7a4_10 : decode cJ6_bitCount_0f7a4 10 = .ok (.iload_n 0, 1) := by decide +kernel
theorem dJ6_bitCount_0f7a4_11 : decode cJ6_bitCount_0f7a4 11 = .ok (.ldc_w 266, 3) := by decide +kernel
theorem dJ6_bitCount_0f7a4_14 : decode cJ6_bitCount_0f7a4 14 = .ok (.iand, 1) := by decide +kernel
theorem dJ6_bitCount_0f7a4_15 : decode cJ6_bitCount_0f7a4 15 = .ok (.iload_n 0, 1) := by decide +kernel
theorem dJ6_bitCount_0f7a4_16 : decode cJ6_bitCount_0f7a4 16 = .ok (.iconst 2, 1) := by decide +kernel
theorem dJ6_bitCount_0f7a4_17 : decode cJ6_bitCount_0f7a4 17 = .ok (.iushr, 1) := by decide +kernel
theorem dJ6_bitCount_0f7a4_18 : decode cJ6_bitCount_0f7a4 18 = .ok (.ldc_w 266, 3) := by decide +kernel
theorem dJ6_bitCount_0f7a4_21 : decode cJ6_bitCount_0f7a4 21 = .ok (.iand, 1) := by decide +kernel
theorem dJ6_bitCount_0f7a4_22 : decode cJ6_bitCount_0f7a4 22 = .ok (.iadd, 1) := by decide +kernel
theorem dJ6_bitCount_0f7a4_23 : decode cJ6_bitCount_0f7a4 23 = .ok (.istore_n 0, 1) := by decide +kernel
theorem dJ6_bitCount_0f7a4_24 : decode cJ6_bitCount_0f7a4 24 = .ok (.iload_n 0, 1) := by decide +kernel
theorem dJ6_bitCount_0f7a4_25 : decode cJ6_bitCount_0f7a4 25 = .ok (.iload_n 0, 1) := by decide +kernel
theorem dJ6_bitCount_0f7a4_26 : decode cJ6_bitCount_0f7a4 26 = .ok (.iconst 4, 1) := by decide +kernel
theorem dJ6_bitCount_0f7a4_27 : decode cJ6_bitCount_0f7a4 27 = .ok (.iushr, 1) := by decide +kernel
theorem dJ6_bitCount_0f7a4_28 : decode cJ6_bitCount_0f7a4 28 = .ok (.iadd, 1) := by decide +kernel
theorem dJ6_bitCount_0f7a4_29 : decode cJ6_bitCount_0f7a4 29 = .ok (.ldc_w 267, 3) := by decide +kernel
theorem dJ6_bitCount_0f7a4_32 : decode cJ6_bitCount_0f7a4 32 = .ok (.iand, 1) := by decide +kernel
theorem dJ6_bitCount_0f7a4_33 : decode cJ6_bitCount_0f7a4 33 = .ok (.istore_n 0, 1) := by decide +kernel
theorem dJ6_bitCount_0f7a4_34 : decode cJ6_bitCount_0f7a4 34 = .ok (.iload_n 0, 1) := by decide +kernel
theorem dJ6_bitCount_0f7a4_35 : decode cJ6_bitCount_0f7a4 35 = .ok (.iload_n 0, 1) := by decide +kernel
theorem dJ6_bitCount_0f7a4_36 : decode cJ6_bitCount_0f7a4 36 = .ok (.bipush 8, 2) := by decide +kernel
theorem dJ6_bitCount_0f7a4_38 : decode cJ6_bitCount_0f7a4 38 = .ok (.iushr, 1) := by decide +kernel
theorem dJ6_bitCount_0f7a4_39 : decode cJ6_bitCount_0f7a4 39 = .ok (.iadd, 1) := by decide +kernel
theorem dJ6_bitCount_0f7a4_40 : decode cJ6_bitCount_0f7a4 40 = .ok (.istore_n 0, 1) := by decide +kernel
theorem dJ6_bitCount_0f7a4_41 : decode cJ6_bitCount_0f7a4 41 = .ok (.iload_n 0, 1) := by decide +kernel
theorem dJ6_bitCount_0f7a4_42 : decode cJ6_bitCount_0f7a4 42 = .ok (.iload_n 0, 1) := by decide +kernel
theorem dJ6_bitCount_0f7a4_43 : decode cJ6_bitCount_0f7a4 43 = .ok (.bipush 16, 2) := by decide +kernel
theorem dJ6_bitCount_0f7a4_45 : decode cJ6_bitCount_0f7a4 45 = .ok (.iushr, 1) := by decide +kernel
theorem dJ6_bitCount_0f7a4_46 : decode cJ6_bitCount_0f7a4 46 = .ok (.iadd, 1) := by decide +kernel
theorem dJ6_bitCount_0f7a4_47 : decode cJ6_bitCount_0f7a4 47 = .ok (.istore_n 0, 1) := by decide +kernel
theorem dJ6_bitCount_0f7a4_48 : decode cJ6_bitCount_0f7a4 48 = .ok (.iload_n 0, 1) := by decide +kernel
theorem dJ6_bitCount_0f7a4_49 : decode cJ6_bitCount_0f7a4 49 = .ok (.bipush 63, 2) := by decide +kernel
theorem dJ6_bitCount_0f7a4_51 : decode cJ6_bitCount_0f7a4 51 = .ok (.iand, 1) := by decide +kernel
theorem dJ6_bitCount_0f7a4_52 : decode cJ6_bitCount_0f7a4 52 = .ok (.ireturn, 1) := by decide +kernel
theorem dJ13_bitCount_95d88_0 : decode cJ13_bitCount_95d88 0 = .ok (.lload_n 0, 1) := by decide +kernel
theorem dJ13_bitCount_95d88_1 : decode cJ13_bitCount_95d88 1 = .ok (.lload_n 0, 1) := by decide +kernel
theorem dJ13_bitCount_95d88_2 : decode cJ13_bitCount_95d88 2 = .ok (.iconst 1, 1) := by decide +kernel
theorem dJ13_bitCount_95d88_3 : decode cJ13_bitCount_95d88 3 = .ok (.lushr, 1) := by decide +kernel
theorem dJ13_bitCount_95d88_4 : decode cJ13_bitCount_95d88 4 = .ok (.ldc2_w 314, 3) := by decide +kernel
theorem dJ13_bitCount_95d88_7 : decode cJ13_bitCount_95d88 7 = .ok (.land, 1) := by decide +kernel
theorem dJ13_bitCount_95d88_8 : decode cJ13_bitCount_95d88 8 = .ok (.lsub, 1) := by decide +kernel
theorem dJ13_bitCount_95d88_9 : decode cJ13_bitCount_95d88 9 = .ok (.lstore_n 0, 1) := by decide +kernel
theorem dJ13_bitCount_95d88_10 : decode cJ13_bitCount_95d88 10 = .ok (.lload_n 0, 1) := by decide +kernel
theorem dJ13_bitCount_95d88_11 : decode cJ13_bitCount_95d88 11 = .ok (.ldc2_w 316, 3) := by decide +kernel
theorem dJ13_bitCount_95d88_14 : decode cJ13_bitCount_95d88 14 = .ok (.land, 1) := by decide +kernel
theorem dJ13_bitCount_95d88_15 : decode cJ13_bitCount_95d88 15 = .ok (.lload_n 0, 1) := by decide +kernel
theorem dJ13_bitCount_95d88_16 : decode cJ13_bitCount_95d88 16 = .ok (.iconst 2, 1) := by decide +kernel
theorem dJ13_bitCount_95d88_17 : decode cJ13_bitCount_95d88 17 = .ok (.lushr, 1) := by decide +kernel
theorem dJ13_bitCount_95d88_18 : decode cJ13_bitCount_95d88 18 = .ok (.ldc2_w 316, 3) := by decide +kernel
theorem dJ13_bitCount_95d88_21 : decode cJ13_bitCount_95d88 21 = .ok (.land, 1) := by decide +kernel
theorem dJ13_bitCount_95d88_22 : decode cJ13_bitCount_95d88 22 = .ok (.ladd, 1) := by decide +kernel
theorem dJ13_bitCount_95d88_23 : decode cJ13_bitCount_95d88 23 = .ok (.lstore_n 0, 1) := by decide +kernel
theorem dJ13_bitCount_95d88_24 : decode cJ13_bitCount_95d88 24 = .ok (.lload_n 0, 1) := by decide +kernel
theorem dJ13_bitCount_95d88_25 : decode cJ13_bitCount_95d88 25 = .ok (.lload_n 0, 1) := by decide +kernel
theorem dJ13_bitCount_95d88_26 : decode cJ13_bitCount_95d88 26 = .ok (.iconst 4, 1) := by decide +kernel
theorem dJ13_bitCount_95d88_27 : decode cJ13_bitCount_95d88 27 = .ok (.lushr, 1) := by decide +kernel
theorem dJ13_bitCount_95d88_28 : decode cJ13_bitCount_95d88 28 = .ok (.ladd, 1) := by decide +kernel
theorem dJ13_bitCount_95d88_29 : decode cJ13_bitCount_95d88 29 = .ok (.ldc2_w 318, 3) := by decide +kernel
theorem dJ13_bitCount_95d88_32 : decode cJ13_bitCount_95d88 32 = .ok (.land, 1) := by decide +kernel
theorem dJ13_bitCount_95d88_33 : decode cJ13_bitCount_95d88 33 = .ok (.lstore_n 0, 1) := by decide +kernel
theorem dJ13_bitCount_95d88_34 : decode cJ13_bitCount_95d88 34 = .ok (.lload_n 0, 1) := by decide +kernel
theorem dJ13_bitCount_95d88_35 : decode cJ13_bitCount_95d88 35 = .ok (.lload_n 0, 1) := by decide +kernel
theorem dJ13_bitCount_95d88_36 : decode cJ13_bitCount_95d88 36 = .ok (.bipush 8, 2) := by decide +kernel
theorem dJ13_bitCount_95d88_38 : decode cJ13_bitCount_95d88 38 = .ok (.lushr, 1) := by decide +kernel
theorem dJ13_bitCount_95d88_39 : decode cJ13_bitCount_95d88 39 = .ok (.ladd, 1) := by decide +kernel
theorem dJ13_bitCount_95d88_40 : decode cJ13_bitCount_95d88 40 = .ok (.lstore_n 0, 1) := by decide +kernel
theorem dJ13_bitCount_95d88_41 : decode cJ13_bitCount_95d88 41 = .ok (.lload_n 0, 1) := by decide +kernel
theorem dJ13_bitCount_95d88_42 : decode cJ13_bitCount_95d88 42 = .ok (.lload_n 0, 1) := by decide +kernel
theorem dJ13_bitCount_95d88_43 : decode cJ13_bitCount_95d88 43 = .ok (.bipush 16, 2) := by decide +kernel
theorem dJ13_bitCount_95d88_45 : decode cJ13_bitCount_95d88 45 = .ok (.lushr, 1) := by decide +kernel
theorem dJ13_bitCount_95d88_46 : decode cJ13_bitCount_95d88 46 = .ok (.ladd, 1) := by decide +kernel
theorem dJ13_bitCount_95d88_47 : decode cJ13_bitCount_95d88 47 = .ok (.lstore_n 0, 1) := by decide +kernel
theorem dJ13_bitCount_95d88_48 : decode cJ13_bitCount_95d88 48 = .ok (.lload_n 0, 1) := by decide +kernel
theorem dJ13_bitCount_95d88_49 : decode cJ13_bitCount_95d88 49 = .ok (.lload_n 0, 1) := by decide +kernel
theorem dJ13_bitCount_95d88_50 : decode cJ13_bitCount_95d88 50 = .ok (.bipush 32, 2) := by decide +kernel
theorem dJ13_bitCount_95d88_52 : decode cJ13_bitCount_95d88 52 = .ok (.lushr, 1) := by decide +kernel
theorem dJ13_bitCount_95d88_53 : decode cJ13_bitCount_95d88 53 = .ok (.ladd, 1) := by decide +kernel
theorem dJ13_bitCount_95d88_54 : decode cJ13_bitCount_95d88 54 = .ok (.lstore_n 0, 1) := by decide +kernel
theorem dJ13_bitCount_95d88_55 : decode cJ13_bitCount_95d88 55 = .ok (.lload_n 0, 1) := by decide +kernel
theorem dJ13_bitCount_95d88_56 : decode cJ13_bitCount_95d88 56 = .ok (.l2i, 1) := by decide +kernel
theorem dJ13_bitCount_95d88_57 : decode cJ13_bitCount_95d88 57 = .ok (.bipush 127, 2) := by decide +kernel
theorem dJ13_bitCount_95d88_59 : decode cJ13_bitCount_95d88 59 = .ok (.iand, 1) := by decide +kernel
theorem dJ13_bitCount_95d88_60 : decode cJ13_bitCount_95d88 60 = .ok (.ireturn, 1) := by decide +kernel
theorem dJ9_abs_067f4_0 : decode cJ9_abs_067f4 0 = .ok (.lload_n 0, 1) := by decide +kernel
theorem dJ9_abs_067f4_1 : decode cJ9_abs_067f4 1 = .ok (.lconst 0, 1) := by decide +kernel
theorem dJ9_abs_067f4_2 : decode cJ9_abs_067f4 2 = .ok (.lcmp, 1) := by decide +kernel
theorem dJ9_abs_067f4_3 : decode cJ9_abs_067f4 3 = .ok (.ifCond .ge 8, 3) := by decide +kernel
theorem dJ9_abs_067f4_6 : decode cJ9_abs_067f4 6 = .ok (.lload_n 0, 1) := by decide +kernel
theorem dJ9_abs_067f4_7 : decode cJ9_abs_067f4 7 = .ok (.lneg, 1) := by decide +kernel
theorem dJ9_abs_067f4_8 : decode cJ9_abs_067f4 8 = .ok (.goto 4, 3) := by decide +kernel
theorem dJ9_abs_067f4_11 : decode cJ9_abs_067f4 11 = .ok (.lload_n 0, 1) := by decide +kernel
theorem dJ9_abs_067f4_12 : decode cJ9_abs_067f4 12 = .ok (.lreturn, 1) := by decide +kernel
theorem dJ9_max_7cf53_0 : decode cJ9_max_7cf53 0 = .ok (.iload_n 0, 1) := by decide +kernel
theorem dJ9_max_7cf53_1 : decode cJ9_max_7cf53 1 = .ok (.iload_n 1, 1) := by decide +kernel
theorem dJ9_max_7cf53_2 : decode cJ9_max_7cf53 2 = .ok (.if_icmp .lt 7, 3) := by decide +kernel
theorem dJ9_max_7cf53_5 : decode cJ9_max_7cf53 5 = .ok (.iload_n 0, 1) := by decide +kernel
theorem dJ9_max_7cf53_6 : decode cJ9_max_7cf53 6 = .ok (.goto 4, 3) := by decide +kernel
theorem dJ9_max_7cf53_9 : decode cJ9_max_7cf53 9 = .ok (.iload_n 1, 1) := by decide +kernel
theorem dJ9_max_7cf53_10 : decode cJ9_max_7cf53 10 = .ok (.ireturn, 1) := by decide +kernel
theorem dJ9_max_f86c9_0 : decode cJ9_max_f86c9 0 = .ok (.lload_n 0, 1) := by decide +kernel
theorem dJ9_max_f86c9_1 : decode cJ9_max_f86c9 1 = .ok (.lload_n 2, 1) := by decide +kernel
theorem dJ9_max_f86c9_2 : decode cJ9_max_f86c9 2 = .ok (.lcmp, 1) := by decide +kernel
theorem dJ9_max_f86c9_3 : decode cJ9_max_f86c9 3 = .ok (.ifCond .lt 7, 3) := by decide +kernel
theorem dJ9_max_f86c9_6 : decode cJ9_max_f86c9 6 = .ok (.lload_n 0, 1) := by decide +kernel
theorem dJ9_max_f86c9_7 : decode cJ9_max_f86c9 7 = .ok (.goto 4, 3) := by decide +kernel
theorem dJ9_max_f86c9_10 : decode cJ9_max_f86c9 10 = .ok (.lload_n 2, 1) := by decide +kernel
theorem dJ9_max_f86c9_11 : decode cJ9_max_f86c9 11 = .ok (.lreturn, 1) := by decide +kernel
theorem dJ9_min_7cf53_0 : decode cJ9_min_7cf53 0 = .ok (.iload_n 0, 1) := by decide +kernel
theorem dJ9_min_7cf53_1 : decode cJ9_min_7cf53 1 = .ok (.iload_n 1, 1) := by decide +kernel
theorem dJ9_min_7cf53_2 : decode cJ9_min_7cf53 2 = .ok (.if_icmp .gt 7, 3) := by decide +kernel
theorem dJ9_min_7cf53_5 : decode cJ9_min_7cf53 5 = .ok (.iload_n 0, 1) := by decide +kernel
theorem dJ9_min_7cf53_6 : decode cJ9_min_7cf53 6 = .ok (.goto 4, 3) := by decide +kernel
theorem dJ9_min_7cf53_9 : decode cJ9_min_7cf53 9 = .ok (.iload_n 1, 1) := by decide +kernel
theorem dJ9_min_7cf53_10 : decode cJ9_min_7cf53 10 = .ok (.ireturn, 1) := by decide +kernel
theorem dJ9_min_f86c9_0 : decode cJ9_min_f86c9 0 = .ok (.lload_n 0, 1) := by decide +kernel
theorem dJ9_min_f86c9_1 : decode cJ9_min_f86c9 1 = .ok (.lload_n 2, 1) := by decide +kernel
theorem dJ9_min_f86c9_2 : decode cJ9_min_f86c9 2 = .ok (.lcmp, 1) := by decide +kernel
theorem dJ9_min_f86c9_3 : decode cJ9_min_f86c9 3 = .ok (.ifCond .gt 7, 3) := by decide +kernel
theorem dJ9_min_f86c9_6 : decode cJ9_min_f86c9 6 = .ok (.lload_n 0, 1) := by decide +kernel
theorem dJ9_min_f86c9_7 : decode cJ9_min_f86c9 7 = .ok (.goto 4, 3) := by decide +kernel
theorem dJ9_min_f86c9_10 : decode cJ9_min_f86c9 10 = .ok (.lload_n 2, 1) := by decide +kernel
theorem dJ9_min_f86c9_11 : decode cJ9_min_f86c9 11 = .ok (.lreturn, 1) := by decide +kernel
theorem dJ0_charAt_5068e_0 : decode cJ0_charAt_5068e 0 = .ok (.aload_n 0, 1) := by decide +kernel
theorem dJ0_charAt_5068e_1 : decode cJ0_charAt_5068e 1 = .ok (.invokevirtual 492, 3) := by decide +kernel
theorem dJ0_charAt_5068e_4 : decode cJ0_charAt_5068e 4 = .ok (.ifCond .eq 12, 3) := by decide +kernel
theorem dJ0_charAt_5068e_7 : decode cJ0_charAt_5068e 7 = .ok (.aload_n 0, 1) := by decide +kernel
theorem dJ0_charAt_5068e_8 : decode cJ0_charAt_5068e 8 = .ok (.getfield 9, 3) := by decide +kernel
theorem dJ0_charAt_5068e_11 : decode cJ0_charAt_5068e 11 = .ok (.iload_n 1, 1) := by decide +kernel
theorem dJ0_charAt_5068e_12 : decode cJ0_charAt_5068e 12 = .ok (.invokestatic 495, 3) := by decide +kernel
theorem dJ0_charAt_5068e_15 : decode cJ0_charAt_5068e 15 = .ok (.ireturn, 1) := by decide +kernel
theorem dJ0_charAt_5068e_16 : decode cJ0_charAt_5068e 16 = .ok (.aload_n 0, 1) := by decide +kernel
theorem dJ0_charAt_5068e_17 : decode cJ0_charAt_5068e 17 = .ok (.getfield 9, 3) := by decide +kernel
theorem dJ0_charAt_5068e_20 : decode cJ0_charAt_5068e 20 = .ok (.iload_n 1, 1) := by decide +kernel
theorem dJ0_charAt_5068e_24 : decode cJ0_charAt_5068e 24 = .ok (.ireturn, 1) := by decide +kernel
theorem dJ0_checkIndex_df160_0 : decode cJ0_checkIndex_df160 0 = .ok (.iload_n 0, 1) := by decide +kernel
theorem dJ0_checkIndex_df160_1 : decode cJ0_checkIndex_df160 1 = .ok (.iload_n 1, 1) := by decide +kernel
theorem dJ0_checkIndex_df160_2 : decode cJ0_checkIndex_df160 2 = .ok (.getstatic 1053, 3) := by decide +kernel
theorem dJ0_checkIndex_df160_5 : decode cJ0_checkIndex_df160 5 = .ok (.invokestatic 1059, 3) := by decide +kernel
theorem dJ0_checkIndex_df160_8 : decode cJ0_checkIndex_df160 8 = .ok (.pop, 1) := by decide +kernel
theorem dJ0_checkIndex_df160_9 : decode cJ0_checkIndex_df160 9 = .ok (.return_, 1) := by decide +kernel
theorem dJ0_coder_7d493_0 : decode cJ0_coder_7d493 0 = .ok (.getstatic 38, 3) := by decide +kernel
theorem dJ0_coder_7d493_3 : decode cJ0_coder_7d493 3 = .ok (.ifCond .eq 10, 3) := by decide +kernel
theorem dJ0_coder_7d493_6 : decode cJ0_coder_7d493 6 = .ok (.aload_n 0, 1) := by decide +kernel
theorem dJ0_coder_7d493_7 : decode cJ0_coder_7d493 7 = .ok (.getfield 15, 3) := by decide +kernel
theorem dJ0_coder_7d493_10 : decode cJ0_coder_7d493 10 = .ok (.goto 4, 3) := by decide +kernel
theorem dJ0_coder_7d493_13 : decode cJ0_coder_7d493 13 = .ok (.iconst 1, 1) := by decide +kernel
theorem dJ0_coder_7d493_14 : decode cJ0_coder_7d493 14 = .ok (.ireturn, 1) := by decide +kernel
theorem dJ0_isLatin1_aae02_0 : decode cJ0_isLatin1_aae02 0 = .ok (.getstatic 38, 3) := by decide +kernel
theorem dJ0_isLatin1_aae02_3 : decode cJ0_isLatin1_aae02 3 = .ok (.ifCond .eq 14, 3) := by decide +kernel
theorem dJ0_isLatin1_aae02_6 : decode cJ0_isLatin1_aae02 6 = .ok (.aload_n 0, 1) := by decide +kernel
theorem dJ0_isLatin1_aae02_7 : decode cJ0_isLatin1_aae02 7 = .ok (.getfield 15, 3) := by decide +kernel
theorem dJ0_isLatin1_aae02_10 : decode cJ0_isLatin1_aae02 10 = .ok (.ifCond .ne 7, 3) := by decide +kernel
theorem dJ0_isLatin1_aae02_13 : decode cJ0_isLatin1_aae02 13 = .ok (.iconst 1, 1) := by decide +kernel
theorem dJ0_isLatin1_aae02_14 : decode cJ0_isLatin1_aae02 14 = .ok (.goto 4, 3) := by decide +kernel
theorem dJ0_isLatin1_aae02_17 : decode cJ0_isLatin1_aae02 17 = .ok (.iconst 0, 1) := by decide +kernel
theorem dJ0_isLatin1_aae02_18 : decode cJ0_isLatin1_aae02 18 = .ok (.ireturn, 1) := by decide +kernel
theorem dJ0_length_8abf5_0 : decode cJ0_length_8abf5 0 = .ok (.aload_n 0, 1) := by decide +kernel
theorem dJ0_length_8abf5_1 : decode cJ0_length_8abf5 1 = .ok (.getfield 9, 3) := by decide +kernel
theorem dJ0_length_8abf5_4 : decode cJ0_length_8abf5 4 = .ok (.arraylength, 1) := by decide +kernel
theorem dJ0_length_8abf5_5 : decode cJ0_length_8abf5 5 = .ok (.aload_n 0, 1) := by decide +kernel
theorem dJ0_length_8abf5_6 : decode cJ0_length_8abf5 6 = .ok (.invokevirtual 335, 3) := by decide +kernel
theorem dJ0_length_8abf5_9 : decode cJ0_length_8abf5 9 = .ok (.ishr, 1) := by decide +kernel
theorem dJ0_length_8abf5_10 : decode cJ0_length_8abf5 10 = .ok (.ireturn, 1) := by decide +kernel
theorem dJ1_charAt_3b067_0 : decode cJ1_charAt_3b067 0 = .ok (.iload_n 1, 1) := by decide +kernel
theorem dJ1_charAt_3b067_1 : decode cJ1_charAt_3b067 1 = .ok (.aload_n 0, 1) := by decide +kernel
theorem dJ1_charAt_3b067_2 : decode cJ1_charAt_3b067 2 = .ok (.arraylength, 1) := by decide +kernel
theorem dJ1_charAt_3b067_3 : decode cJ1_charAt_3b067 3 = .ok (.invokestatic 9, 3) := by decide +kernel
theorem dJ1_charAt_3b067_6 : decode cJ1_charAt_3b067 6 = .ok (.aload_n 0, 1) := by decide +kernel
theorem dJ1_charAt_3b067_7 : decode cJ1_charAt_3b067 7 = .ok (.iload_n 1, 1) := by decide +kernel
theorem dJ1_charAt_3b067_8 : decode cJ1_charAt_3b067 8 = .ok (.baload, 1) := by decide +kernel
theorem dJ1_charAt_3b067_9 : decode cJ1_charAt_3b067 9 = .ok (.sipush 255, 3) := by decide +kernel
theorem dJ1_charAt_3b067_12 : decode cJ1_charAt_3b067 12 = .ok (.iand, 1) := by decide +kernel
theorem dJ1_charAt_3b067_13 : decode cJ1_charAt_3b067 13 = .ok (.i2c, 1) := by decide +kernel
theorem dJ1_charAt_3b067_14 : decode cJ1_charAt_3b067 14 = .ok (.ireturn, 1) := by decide +kernel
theorem dJ7_fill_53178_0 : decode cJ7_fill_53178 0 = .ok (.iconst 0, 1) := by decide +kernel
theorem dJ7_fill_53178_1 : decode cJ7_fill_53178 1 = .ok (.istore_n 2, 1) := by decide +kernel
theorem dJ7_fill_53178_2 : decode cJ7_fill_53178 2 = .ok (.aload_n 0, 1) := by decide +kernel
theorem dJ7_fill_53178_3 : decode cJ7_fill_53178 3 = .ok (.arraylength, 1) := by decide +kernel
theorem dJ7_fill_53178_4 : decode cJ7_fill_53178 4 = .ok (.istore_n 3, 1) := by decide +kernel
theorem dJ7_fill_53178_5 : decode cJ7_fill_53178 5 = .ok (.iload_n 2, 1) := by decide +kernel
theorem dJ7_fill_53178_6 : decode cJ7_fill_53178 6 = .ok (.iload_n 3, 1) := by decide +kernel
theorem dJ7_fill_53178_7 : decode cJ7_fill_53178 7 = .ok (.if_icmp .ge 13, 3) := by decide +kernel
theorem dJ7_fill_53178_10 : decode cJ7_fill_53178 10 = .ok (.aload_n 0, 1) := by decide +kernel
theorem dJ7_fill_53178_11 : decode cJ7_fill_53178 11 = .ok (.iload_n 2, 1) := by decide +kernel
theorem dJ7_fill_53178_12 : decode cJ7_fill_53178 12 = .ok (.iload_n 1, 1) := by decide +kernel
theorem dJ7_fill_53178_13 : decode cJ7_fill_53178 13 = .ok (.iastore, 1) := by decide +kernel
theorem dJ7_fill_53178_14 : decode cJ7_fill_53178 14 = .ok (.iinc 2 1, 3) := by decide +kernel
theorem dJ7_fill_53178_17 : decode cJ7_fill_53178 17 = .ok (.goto (-12), 3) := by decide +kernel
theorem dJ7_fill_53178_20 : decode cJ7_fill_53178 20 = .ok (.return_, 1) := by decide +kernel
theorem dJ3_checkIndex_8e157_0 : decode cJ3_checkIndex_8e157 0 = .ok (.iload_n 0, 1) := by decide +kernel
theorem dJ3_checkIndex_8e157_1 : decode cJ3_checkIndex_8e157 1 = .ok (.ifCond .lt 8, 3) := by decide +kernel
theorem dJ3_checkIndex_8e157_4 : decode cJ3_checkIndex_8e157 4 = .ok (.iload_n 0, 1) := by decide +kernel
theorem dJ3_checkIndex_8e157_5 : decode cJ3_checkIndex_8e157 5 = .ok (.iload_n 1, 1) := by decide +kernel
theorem dJ3_checkIndex_8e157_6 : decode cJ3_checkIndex_8e157 6 = .ok (.if_icmp .lt 10, 3) := by decide +kernel
theorem dJ3_checkIndex_8e157_9 : decode cJ3_checkIndex_8e157 9 = .ok (.aload_n 2, 1) := by decide +kernel
theorem dJ3_checkIndex_8e157_10 : decode cJ3_checkIndex_8e157 10 = .ok (.iload_n 0, 1) := by decide +kernel
theorem dJ3_checkIndex_8e157_11 : decode cJ3_checkIndex_8e157 11 = .ok (.iload_n 1, 1) := by decide +kernel
theorem dJ3_checkIndex_8e157_16 : decode cJ3_checkIndex_8e157 16 = .ok (.iload_n 0, 1) := by decide +kernel
theorem dJ3_checkIndex_8e157_17 : decode cJ3_checkIndex_8e157 17 = .ok (.ireturn, 1) := by decide +kernel
theorem dqo {c : ByteArray} {L : List (Nat × Instr × Nat)} (h : L.all (fun q => decide (decode c q.1 = .ok (q.2.1, q.2.2))) = true) {q : Nat × Instr × Nat} (i : Nat) (hi : L[i]? = some q) : decode c q.1 = .ok (q.2.1, q.2.2) := of_decide_eq_true (List.all_eq_true.mp h q (List.mem_of_getElem? hi))
def dql_0 : List (Nat × Instr × Nat) := [(0, .new 8, 3), (3, .dup, 1), (4, .invokespecial 17, 3), (7, .astore_n 1, 1), (8, .new 18, 3), (11, .dup, 1), (12, .invokespecial 20, 3), (15, .astore_n 2, 1), (16, .iconst 1, 1), (17, .newarray .long, 2), (19, .astore_n 3, 1), (20, .iconst 0, 1), (21, .istore 4, 2), (23, .iload 4, 2), (25, .aload_n 0, 1), (26, .arraylength, 1), (27, .bipush 6, 2), (29, .isub, 1), (30, .if_icmp .gt 1398, 3), (33, .aload_n 0, 1), (34, .iload 4, 2), (36, .iaload, 1), (37, .bipush 63, 2), (39, .iand, 1), (40, .tableswitch 1382 0 34 #[156, 229, 254, 279, 316, 356, 393, 430, 479, 528, 577, 614, 639, 688, 701, 738, 775, 788, 825, 874, 923, 948, 973, 998, 1023, 1036, 1073, 1086, 1147, 1220, 1257, 1282, 1331, 1344, 1357], 156), (196, .aload_n 1, 1), (197, .aload_n 0, 1), (198, .iload 4, 2), (200, .iconst 1, 1), (201, .iadd, 1), (202, .iaload, 1), (203, .aload_n 0, 1), (204, .iload 4, 2), (206, .iconst 2, 1), (207, .iadd, 1), (208, .iaload, 1), (209, .aload_n 0, 1), (210, .iload 4, 2), (212, .iconst 3, 1), (213, .iadd, 1)]
theorem adql_0 : dql_0.all (fun q => decide (decode cL_law q.1 = .ok (q.2.1, q.2.2))) = true := by decide +kernel
theorem dL_law_0 : decode cL_law 0 = .ok (.new 8, 3) := dqo adql_0 (q := (0, .new 8, 3)) 0 rfl
theorem dL_law_3 : decode cL_law 3 = .ok (.dup, 1) := dqo adql_0 (q := (3, .dup, 1)) 1 rfl
theorem dL_law_4 : decode cL_law 4 = .ok (.invokespecial 17, 3) := dqo adql_0 (q := (4, .invokespecial 17, 3)) 2 rfl
theorem dL_law_7 : decode cL_law 7 = .ok (.astore_n 1, 1) := dqo adql_0 (q := (7, .astore_n 1, 1)) 3 rfl
theorem dL_law_8 : decode cL_law 8 = .ok (.new 18, 3) := dqo adql_0 (q := (8, .new 18, 3)) 4 rfl
theorem dL_law_11 : decode cL_law 11 = .ok (.dup, 1) := dqo adql_0 (q := (11, .dup, 1)) 5 rfl
theorem dL_law_12 : decode cL_law 12 = .ok (.invokespecial 20, 3) := dqo adql_0 (q := (12, .invokespecial 20, 3)) 6 rfl
theorem dL_law_15 : decode cL_law 15 = .ok (.astore_n 2, 1) := dqo adql_0 (q := (15, .astore_n 2, 1)) 7 rfl
theorem dL_law_16 : decode cL_law 16 = .ok (.iconst 1, 1) := dqo adql_0 (q := (16, .iconst 1, 1)) 8 rfl
theorem dL_law_17 : decode cL_law 17 = .ok (.newarray .long, 2) := dqo adql_0 (q := (17, .newarray .long, 2)) 9 rfl
theorem dL_law_19 : decode cL_law 19 = .ok (.astore_n 3, 1) := dqo adql_0 (q := (19, .astore_n 3, 1)) 10 rfl
theorem dL_law_20 : decode cL_law 20 = .ok (.iconst 0, 1) := dqo adql_0 (q := (20, .iconst 0, 1)) 11 rfl
theorem dL_law_21 : decode cL_law 21 = .ok (.istore 4, 2) := dqo adql_0 (q := (21, .istore 4, 2)) 12 rfl
theorem dL_law_23 : decode cL_law 23 = .ok (.iload 4, 2) := dqo adql_0 (q := (23, .iload 4, 2)) 13 rfl
theorem dL_law_25 : decode cL_law 25 = .ok (.aload_n 0, 1) := dqo adql_0 (q := (25, .aload_n 0, 1)) 14 rfl
theorem dL_law_26 : decode cL_law 26 = .ok (.arraylength, 1) := dqo adql_0 (q := (26, .arraylength, 1)) 15 rfl
theorem dL_law_27 : decode cL_law 27 = .ok (.bipush 6, 2) := dqo adql_0 (q := (27, .bipush 6, 2)) 16 rfl
theorem dL_law_29 : decode cL_law 29 = .ok (.isub, 1) := dqo adql_0 (q := (29, .isub, 1)) 17 rfl
theorem dL_law_30 : decode cL_law 30 = .ok (.if_icmp .gt 1398, 3) := dqo adql_0 (q := (30, .if_icmp .gt 1398, 3)) 18 rfl
theorem dL_law_33 : decode cL_law 33 = .ok (.aload_n 0, 1) := dqo adql_0 (q := (33, .aload_n 0, 1)) 19 rfl
theorem dL_law_34 : decode cL_law 34 = .ok (.iload 4, 2) := dqo adql_0 (q := (34, .iload 4, 2)) 20 rfl
theorem dL_law_36 : decode cL_law 36 = .ok (.iaload, 1) := dqo adql_0 (q := (36, .iaload, 1)) 21 rfl
theorem dL_law_37 : decode cL_law 37 = .ok (.bipush 63, 2) := dqo adql_0 (q := (37, .bipush 63, 2)) 22 rfl
theorem dL_law_39 : decode cL_law 39 = .ok (.iand, 1) := dqo adql_0 (q := (39, .iand, 1)) 23 rfl
theorem dL_law_40 : decode cL_law 40 = .ok (.tableswitch 1382 0 34 #[156, 229, 254, 279, 316, 356, 393, 430, 479, 528, 577, 614, 639, 688, 701, 738, 775, 788, 825, 874, 923, 948, 973, 998, 1023, 1036, 1073, 1086, 1147, 1220, 1257, 1282, 1331, 1344, 1357], 156) := dqo adql_0 (q := (40, .tableswitch 1382 0 34 #[156, 229, 254, 279, 316, 356, 393, 430, 479, 528, 577, 614, 639, 688, 701, 738, 775, 788, 825, 874, 923, 948, 973, 998, 1023, 1036, 1073, 1086, 1147, 1220, 1257, 1282, 1331, 1344, 1357], 156)) 24 rfl
theorem dL_law_196 : decode cL_law 196 = .ok (.aload_n 1, 1) := dqo adql_0 (q := (196, .aload_n 1, 1)) 25 rfl
theorem dL_law_197 : decode cL_law 197 = .ok (.aload_n 0, 1) := dqo adql_0 (q := (197, .aload_n 0, 1)) 26 rfl
theorem dL_law_198 : decode cL_law 198 = .ok (.iload 4, 2) := dqo adql_0 (q := (198, .iload 4, 2)) 27 rfl
theorem dL_law_200 : decode cL_law 200 = .ok (.iconst 1, 1) := dqo adql_0 (q := (200, .iconst 1, 1)) 28 rfl
theorem dL_law_201 : decode cL_law 201 = .ok (.iadd, 1) := dqo adql_0 (q := (201, .iadd, 1)) 29 rfl
theorem dL_law_202 : decode cL_law 202 = .ok (.iaload, 1) := dqo adql_0 (q := (202, .iaload, 1)) 30 rfl
theorem dL_law_203 : decode cL_law 203 = .ok (.aload_n 0, 1) := dqo adql_0 (q := (203, .aload_n 0, 1)) 31 rfl
theorem dL_law_204 : decode cL_law 204 = .ok (.iload 4, 2) := dqo adql_0 (q := (204, .iload 4, 2)) 32 rfl
theorem dL_law_206 : decode cL_law 206 = .ok (.iconst 2, 1) := dqo adql_0 (q := (206, .iconst 2, 1)) 33 rfl
theorem dL_law_207 : decode cL_law 207 = .ok (.iadd, 1) := dqo adql_0 (q := (207, .iadd, 1)) 34 rfl
theorem dL_law_208 : decode cL_law 208 = .ok (.iaload, 1) := dqo adql_0 (q := (208, .iaload, 1)) 35 rfl
theorem dL_law_209 : decode cL_law 209 = .ok (.aload_n 0, 1) := dqo adql_0 (q := (209, .aload_n 0, 1)) 36 rfl
theorem dL_law_210 : decode cL_law 210 = .ok (.iload 4, 2) := dqo adql_0 (q := (210, .iload 4, 2)) 37 rfl
theorem dL_law_212 : decode cL_law 212 = .ok (.iconst 3, 1) := dqo adql_0 (q := (212, .iconst 3, 1)) 38 rfl
theorem dL_law_213 : decode cL_law 213 = .ok (.iadd, 1) := dqo adql_0 (q := (213, .iadd, 1)) 39 rfl
def dql_1 : List (Nat × Instr × Nat) := [(214, .iaload, 1), (215, .aload_n 0, 1), (216, .iload 4, 2), (218, .iconst 4, 1), (219, .iadd, 1), (220, .iaload, 1), (221, .aload_n 0, 1), (222, .iload 4, 2), (224, .iconst 5, 1), (225, .iadd, 1), (226, .iaload, 1), (227, .invokevirtual 21, 3), (230, .pop, 1), (231, .aload_n 2, 1), (232, .aload_n 0, 1), (233, .iload 4, 2), (235, .iconst 1, 1), (236, .iadd, 1), (237, .iaload, 1), (238, .aload_n 0, 1), (239, .iload 4, 2), (241, .iconst 2, 1), (242, .iadd, 1), (243, .iaload, 1), (244, .aload_n 0, 1), (245, .iload 4, 2), (247, .iconst 3, 1), (248, .iadd, 1), (249, .iaload, 1), (250, .aload_n 0, 1), (251, .iload 4, 2), (253, .iconst 4, 1), (254, .iadd, 1), (255, .iaload, 1), (256, .aload_n 0, 1), (257, .iload 4, 2), (259, .iconst 5, 1), (260, .iadd, 1), (261, .iaload, 1), (262, .invokevirtual 25, 3)]
theorem adql_1 : dql_1.all (fun q => decide (decode cL_law q.1 = .ok (q.2.1, q.2.2))) = true := by decide +kernel
theorem dL_law_214 : decode cL_law 214 = .ok (.iaload, 1) := dqo adql_1 (q := (214, .iaload, 1)) 0 rfl
theorem dL_law_215 : decode cL_law 215 = .ok (.aload_n 0, 1) := dqo adql_1 (q := (215, .aload_n 0, 1)) 1 rfl
theorem dL_law_216 : decode cL_law 216 = .ok (.iload 4, 2) := dqo adql_1 (q := (216, .iload 4, 2)) 2 rfl
theorem dL_law_218 : decode cL_law 218 = .ok (.iconst 4, 1) := dqo adql_1 (q := (218, .iconst 4, 1)) 3 rfl
theorem dL_law_219 : decode cL_law 219 = .ok (.iadd, 1) := dqo adql_1 (q := (219, .iadd, 1)) 4 rfl
theorem dL_law_220 : decode cL_law 220 = .ok (.iaload, 1) := dqo adql_1 (q := (220, .iaload, 1)) 5 rfl
theorem dL_law_221 : decode cL_law 221 = .ok (.aload_n 0, 1) := dqo adql_1 (q := (221, .aload_n 0, 1)) 6 rfl
theorem dL_law_222 : decode cL_law 222 = .ok (.iload 4, 2) := dqo adql_1 (q := (222, .iload 4, 2)) 7 rfl
theorem dL_law_224 : decode cL_law 224 = .ok (.iconst 5, 1) := dqo adql_1 (q := (224, .iconst 5, 1)) 8 rfl
theorem dL_law_225 : decode cL_law 225 = .ok (.iadd, 1) := dqo adql_1 (q := (225, .iadd, 1)) 9 rfl
theorem dL_law_226 : decode cL_law 226 = .ok (.iaload, 1) := dqo adql_1 (q := (226, .iaload, 1)) 10 rfl
theorem dL_law_227 : decode cL_law 227 = .ok (.invokevirtual 21, 3) := dqo adql_1 (q := (227, .invokevirtual 21, 3)) 11 rfl
theorem dL_law_230 : decode cL_law 230 = .ok (.pop, 1) := dqo adql_1 (q := (230, .pop, 1)) 12 rfl
theorem dL_law_231 : decode cL_law 231 = .ok (.aload_n 2, 1) := dqo adql_1 (q := (231, .aload_n 2, 1)) 13 rfl
theorem dL_law_232 : decode cL_law 232 = .ok (.aload_n 0, 1) := dqo adql_1 (q := (232, .aload_n 0, 1)) 14 rfl
theorem dL_law_233 : decode cL_law 233 = .ok (.iload 4, 2) := dqo adql_1 (q := (233, .iload 4, 2)) 15 rfl
theorem dL_law_235 : decode cL_law 235 = .ok (.iconst 1, 1) := dqo adql_1 (q := (235, .iconst 1, 1)) 16 rfl
theorem dL_law_236 : decode cL_law 236 = .ok (.iadd, 1) := dqo adql_1 (q := (236, .iadd, 1)) 17 rfl
theorem dL_law_237 : decode cL_law 237 = .ok (.iaload, 1) := dqo adql_1 (q := (237, .iaload, 1)) 18 rfl
theorem dL_law_238 : decode cL_law 238 = .ok (.aload_n 0, 1) := dqo adql_1 (q := (238, .aload_n 0, 1)) 19 rfl
theorem dL_law_239 : decode cL_law 239 = .ok (.iload 4, 2) := dqo adql_1 (q := (239, .iload 4, 2)) 20 rfl
theorem dL_law_241 : decode cL_law 241 = .ok (.iconst 2, 1) := dqo adql_1 (q := (241, .iconst 2, 1)) 21 rfl
theorem dL_law_242 : decode cL_law 242 = .ok (.iadd, 1) := dqo adql_1 (q := (242, .iadd, 1)) 22 rfl
theorem dL_law_243 : decode cL_law 243 = .ok (.iaload, 1) := dqo adql_1 (q := (243, .iaload, 1)) 23 rfl
theorem dL_law_244 : decode cL_law 244 = .ok (.aload_n 0, 1) := dqo adql_1 (q := (244, .aload_n 0, 1)) 24 rfl
theorem dL_law_245 : decode cL_law 245 = .ok (.iload 4, 2) := dqo adql_1 (q := (245, .iload 4, 2)) 25 rfl
theorem dL_law_247 : decode cL_law 247 = .ok (.iconst 3, 1) := dqo adql_1 (q := (247, .iconst 3, 1)) 26 rfl
theorem dL_law_248 : decode cL_law 248 = .ok (.iadd, 1) := dqo adql_1 (q := (248, .iadd, 1)) 27 rfl
theorem dL_law_249 : decode cL_law 249 = .ok (.iaload, 1) := dqo adql_1 (q := (249, .iaload, 1)) 28 rfl
theorem dL_law_250 : decode cL_law 250 = .ok (.aload_n 0, 1) := dqo adql_1 (q := (250, .aload_n 0, 1)) 29 rfl
theorem dL_law_251 : decode cL_law 251 = .ok (.iload 4, 2) := dqo adql_1 (q := (251, .iload 4, 2)) 30 rfl
theorem dL_law_253 : decode cL_law 253 = .ok (.iconst 4, 1) := dqo adql_1 (q := (253, .iconst 4, 1)) 31 rfl
theorem dL_law_254 : decode cL_law 254 = .ok (.iadd, 1) := dqo adql_1 (q := (254, .iadd, 1)) 32 rfl
theorem dL_law_255 : decode cL_law 255 = .ok (.iaload, 1) := dqo adql_1 (q := (255, .iaload, 1)) 33 rfl
theorem dL_law_256 : decode cL_law 256 = .ok (.aload_n 0, 1) := dqo adql_1 (q := (256, .aload_n 0, 1)) 34 rfl
theorem dL_law_257 : decode cL_law 257 = .ok (.iload 4, 2) := dqo adql_1 (q := (257, .iload 4, 2)) 35 rfl
theorem dL_law_259 : decode cL_law 259 = .ok (.iconst 5, 1) := dqo adql_1 (q := (259, .iconst 5, 1)) 36 rfl
theorem dL_law_260 : decode cL_law 260 = .ok (.iadd, 1) := dqo adql_1 (q := (260, .iadd, 1)) 37 rfl
theorem dL_law_261 : decode cL_law 261 = .ok (.iaload, 1) := dqo adql_1 (q := (261, .iaload, 1)) 38 rfl
theorem dL_law_262 : decode cL_law 262 = .ok (.invokevirtual 25, 3) := dqo adql_1 (q := (262, .invokevirtual 25, 3)) 39 rfl
def dql_2 : List (Nat × Instr × Nat) := [(265, .pop, 1), (266, .goto 1156, 3), (269, .aload_n 1, 1), (270, .aload_n 0, 1), (271, .iload 4, 2), (273, .iconst 1, 1), (274, .iadd, 1), (275, .iaload, 1), (276, .invokevirtual 26, 3), (279, .pop, 1), (280, .aload_n 2, 1), (281, .aload_n 0, 1), (282, .iload 4, 2), (284, .iconst 1, 1), (285, .iadd, 1), (286, .iaload, 1), (287, .invokevirtual 30, 3), (290, .pop, 1), (291, .goto 1131, 3), (294, .aload_n 1, 1), (295, .aload_n 0, 1), (296, .iload 4, 2), (298, .iconst 1, 1), (299, .iadd, 1), (300, .iaload, 1), (301, .invokevirtual 31, 3), (304, .pop, 1), (305, .aload_n 2, 1), (306, .aload_n 0, 1), (307, .iload 4, 2), (309, .iconst 1, 1), (310, .iadd, 1), (311, .iaload, 1), (312, .invokevirtual 34, 3), (315, .pop, 1), (316, .goto 1106, 3), (319, .aload_n 1, 1), (320, .aload_n 0, 1), (321, .iload 4, 2), (323, .iconst 1, 1)]
theorem adql_2 : dql_2.all (fun q => decide (decode cL_law q.1 = .ok (q.2.1, q.2.2))) = true := by decide +kernel
theorem dL_law_265 : decode cL_law 265 = .ok (.pop, 1) := dqo adql_2 (q := (265, .pop, 1)) 0 rfl
theorem dL_law_266 : decode cL_law 266 = .ok (.goto 1156, 3) := dqo adql_2 (q := (266, .goto 1156, 3)) 1 rfl
theorem dL_law_269 : decode cL_law 269 = .ok (.aload_n 1, 1) := dqo adql_2 (q := (269, .aload_n 1, 1)) 2 rfl
theorem dL_law_270 : decode cL_law 270 = .ok (.aload_n 0, 1) := dqo adql_2 (q := (270, .aload_n 0, 1)) 3 rfl
theorem dL_law_271 : decode cL_law 271 = .ok (.iload 4, 2) := dqo adql_2 (q := (271, .iload 4, 2)) 4 rfl
theorem dL_law_273 : decode cL_law 273 = .ok (.iconst 1, 1) := dqo adql_2 (q := (273, .iconst 1, 1)) 5 rfl
theorem dL_law_274 : decode cL_law 274 = .ok (.iadd, 1) := dqo adql_2 (q := (274, .iadd, 1)) 6 rfl
theorem dL_law_275 : decode cL_law 275 = .ok (.iaload, 1) := dqo adql_2 (q := (275, .iaload, 1)) 7 rfl
theorem dL_law_276 : decode cL_law 276 = .ok (.invokevirtual 26, 3) := dqo adql_2 (q := (276, .invokevirtual 26, 3)) 8 rfl
theorem dL_law_279 : decode cL_law 279 = .ok (.pop, 1) := dqo adql_2 (q := (279, .pop, 1)) 9 rfl
theorem dL_law_280 : decode cL_law 280 = .ok (.aload_n 2, 1) := dqo adql_2 (q := (280, .aload_n 2, 1)) 10 rfl
theorem dL_law_281 : decode cL_law 281 = .ok (.aload_n 0, 1) := dqo adql_2 (q := (281, .aload_n 0, 1)) 11 rfl
theorem dL_law_282 : decode cL_law 282 = .ok (.iload 4, 2) := dqo adql_2 (q := (282, .iload 4, 2)) 12 rfl
theorem dL_law_284 : decode cL_law 284 = .ok (.iconst 1, 1) := dqo adql_2 (q := (284, .iconst 1, 1)) 13 rfl
theorem dL_law_285 : decode cL_law 285 = .ok (.iadd, 1) := dqo adql_2 (q := (285, .iadd, 1)) 14 rfl
theorem dL_law_286 : decode cL_law 286 = .ok (.iaload, 1) := dqo adql_2 (q := (286, .iaload, 1)) 15 rfl
theorem dL_law_287 : decode cL_law 287 = .ok (.invokevirtual 30, 3) := dqo adql_2 (q := (287, .invokevirtual 30, 3)) 16 rfl
theorem dL_law_290 : decode cL_law 290 = .ok (.pop, 1) := dqo adql_2 (q := (290, .pop, 1)) 17 rfl
theorem dL_law_291 : decode cL_law 291 = .ok (.goto 1131, 3) := dqo adql_2 (q := (291, .goto 1131, 3)) 18 rfl
theorem dL_law_294 : decode cL_law 294 = .ok (.aload_n 1, 1) := dqo adql_2 (q := (294, .aload_n 1, 1)) 19 rfl
theorem dL_law_295 : decode cL_law 295 = .ok (.aload_n 0, 1) := dqo adql_2 (q := (295, .aload_n 0, 1)) 20 rfl
theorem dL_law_296 : decode cL_law 296 = .ok (.iload 4, 2) := dqo adql_2 (q := (296, .iload 4, 2)) 21 rfl
theorem dL_law_298 : decode cL_law 298 = .ok (.iconst 1, 1) := dqo adql_2 (q := (298, .iconst 1, 1)) 22 rfl
theorem dL_law_299 : decode cL_law 299 = .ok (.iadd, 1) := dqo adql_2 (q := (299, .iadd, 1)) 23 rfl
theorem dL_law_300 : decode cL_law 300 = .ok (.iaload, 1) := dqo adql_2 (q := (300, .iaload, 1)) 24 rfl
theorem dL_law_301 : decode cL_law 301 = .ok (.invokevirtual 31, 3) := dqo adql_2 (q := (301, .invokevirtual 31, 3)) 25 rfl
theorem dL_law_304 : decode cL_law 304 = .ok (.pop, 1) := dqo adql_2 (q := (304, .pop, 1)) 26 rfl
theorem dL_law_305 : decode cL_law 305 = .ok (.aload_n 2, 1) := dqo adql_2 (q := (305, .aload_n 2, 1)) 27 rfl
theorem dL_law_306 : decode cL_law 306 = .ok (.aload_n 0, 1) := dqo adql_2 (q := (306, .aload_n 0, 1)) 28 rfl
theorem dL_law_307 : decode cL_law 307 = .ok (.iload 4, 2) := dqo adql_2 (q := (307, .iload 4, 2)) 29 rfl
theorem dL_law_309 : decode cL_law 309 = .ok (.iconst 1, 1) := dqo adql_2 (q := (309, .iconst 1, 1)) 30 rfl
theorem dL_law_310 : decode cL_law 310 = .ok (.iadd, 1) := dqo adql_2 (q := (310, .iadd, 1)) 31 rfl
theorem dL_law_311 : decode cL_law 311 = .ok (.iaload, 1) := dqo adql_2 (q := (311, .iaload, 1)) 32 rfl
theorem dL_law_312 : decode cL_law 312 = .ok (.invokevirtual 34, 3) := dqo adql_2 (q := (312, .invokevirtual 34, 3)) 33 rfl
theorem dL_law_315 : decode cL_law 315 = .ok (.pop, 1) := dqo adql_2 (q := (315, .pop, 1)) 34 rfl
theorem dL_law_316 : decode cL_law 316 = .ok (.goto 1106, 3) := dqo adql_2 (q := (316, .goto 1106, 3)) 35 rfl
theorem dL_law_319 : decode cL_law 319 = .ok (.aload_n 1, 1) := dqo adql_2 (q := (319, .aload_n 1, 1)) 36 rfl
theorem dL_law_320 : decode cL_law 320 = .ok (.aload_n 0, 1) := dqo adql_2 (q := (320, .aload_n 0, 1)) 37 rfl
theorem dL_law_321 : decode cL_law 321 = .ok (.iload 4, 2) := dqo adql_2 (q := (321, .iload 4, 2)) 38 rfl
theorem dL_law_323 : decode cL_law 323 = .ok (.iconst 1, 1) := dqo adql_2 (q := (323, .iconst 1, 1)) 39 rfl
def dql_3 : List (Nat × Instr × Nat) := [(324, .iadd, 1), (325, .iaload, 1), (326, .aload_n 0, 1), (327, .iload 4, 2), (329, .iconst 2, 1), (330, .iadd, 1), (331, .iaload, 1), (332, .invokevirtual 35, 3), (335, .pop, 1), (336, .aload_n 2, 1), (337, .aload_n 0, 1), (338, .iload 4, 2), (340, .iconst 1, 1), (341, .iadd, 1), (342, .iaload, 1), (343, .aload_n 0, 1), (344, .iload 4, 2), (346, .iconst 2, 1), (347, .iadd, 1), (348, .iaload, 1), (349, .invokevirtual 38, 3), (352, .pop, 1), (353, .goto 1069, 3), (356, .aload_n 1, 1), (357, .aload_n 0, 1), (358, .iload 4, 2), (360, .iconst 1, 1), (361, .iadd, 1), (362, .iaload, 1), (363, .aload_n 0, 1), (364, .iload 4, 2), (366, .iconst 2, 1), (367, .iadd, 1), (368, .iaload, 1), (369, .aload_n 3, 1), (370, .invokestatic 39, 3), (373, .istore 5, 2), (375, .aload_n 2, 1), (376, .aload_n 0, 1), (377, .iload 4, 2)]
theorem adql_3 : dql_3.all (fun q => decide (decode cL_law q.1 = .ok (q.2.1, q.2.2))) = true := by decide +kernel
theorem dL_law_324 : decode cL_law 324 = .ok (.iadd, 1) := dqo adql_3 (q := (324, .iadd, 1)) 0 rfl
theorem dL_law_325 : decode cL_law 325 = .ok (.iaload, 1) := dqo adql_3 (q := (325, .iaload, 1)) 1 rfl
theorem dL_law_326 : decode cL_law 326 = .ok (.aload_n 0, 1) := dqo adql_3 (q := (326, .aload_n 0, 1)) 2 rfl
theorem dL_law_327 : decode cL_law 327 = .ok (.iload 4, 2) := dqo adql_3 (q := (327, .iload 4, 2)) 3 rfl
theorem dL_law_329 : decode cL_law 329 = .ok (.iconst 2, 1) := dqo adql_3 (q := (329, .iconst 2, 1)) 4 rfl
theorem dL_law_330 : decode cL_law 330 = .ok (.iadd, 1) := dqo adql_3 (q := (330, .iadd, 1)) 5 rfl
theorem dL_law_331 : decode cL_law 331 = .ok (.iaload, 1) := dqo adql_3 (q := (331, .iaload, 1)) 6 rfl
theorem dL_law_332 : decode cL_law 332 = .ok (.invokevirtual 35, 3) := dqo adql_3 (q := (332, .invokevirtual 35, 3)) 7 rfl
theorem dL_law_335 : decode cL_law 335 = .ok (.pop, 1) := dqo adql_3 (q := (335, .pop, 1)) 8 rfl
theorem dL_law_336 : decode cL_law 336 = .ok (.aload_n 2, 1) := dqo adql_3 (q := (336, .aload_n 2, 1)) 9 rfl
theorem dL_law_337 : decode cL_law 337 = .ok (.aload_n 0, 1) := dqo adql_3 (q := (337, .aload_n 0, 1)) 10 rfl
theorem dL_law_338 : decode cL_law 338 = .ok (.iload 4, 2) := dqo adql_3 (q := (338, .iload 4, 2)) 11 rfl
theorem dL_law_340 : decode cL_law 340 = .ok (.iconst 1, 1) := dqo adql_3 (q := (340, .iconst 1, 1)) 12 rfl
theorem dL_law_341 : decode cL_law 341 = .ok (.iadd, 1) := dqo adql_3 (q := (341, .iadd, 1)) 13 rfl
theorem dL_law_342 : decode cL_law 342 = .ok (.iaload, 1) := dqo adql_3 (q := (342, .iaload, 1)) 14 rfl
theorem dL_law_343 : decode cL_law 343 = .ok (.aload_n 0, 1) := dqo adql_3 (q := (343, .aload_n 0, 1)) 15 rfl
theorem dL_law_344 : decode cL_law 344 = .ok (.iload 4, 2) := dqo adql_3 (q := (344, .iload 4, 2)) 16 rfl
theorem dL_law_346 : decode cL_law 346 = .ok (.iconst 2, 1) := dqo adql_3 (q := (346, .iconst 2, 1)) 17 rfl
theorem dL_law_347 : decode cL_law 347 = .ok (.iadd, 1) := dqo adql_3 (q := (347, .iadd, 1)) 18 rfl
theorem dL_law_348 : decode cL_law 348 = .ok (.iaload, 1) := dqo adql_3 (q := (348, .iaload, 1)) 19 rfl
theorem dL_law_349 : decode cL_law 349 = .ok (.invokevirtual 38, 3) := dqo adql_3 (q := (349, .invokevirtual 38, 3)) 20 rfl
theorem dL_law_352 : decode cL_law 352 = .ok (.pop, 1) := dqo adql_3 (q := (352, .pop, 1)) 21 rfl
theorem dL_law_353 : decode cL_law 353 = .ok (.goto 1069, 3) := dqo adql_3 (q := (353, .goto 1069, 3)) 22 rfl
theorem dL_law_356 : decode cL_law 356 = .ok (.aload_n 1, 1) := dqo adql_3 (q := (356, .aload_n 1, 1)) 23 rfl
theorem dL_law_357 : decode cL_law 357 = .ok (.aload_n 0, 1) := dqo adql_3 (q := (357, .aload_n 0, 1)) 24 rfl
theorem dL_law_358 : decode cL_law 358 = .ok (.iload 4, 2) := dqo adql_3 (q := (358, .iload 4, 2)) 25 rfl
theorem dL_law_360 : decode cL_law 360 = .ok (.iconst 1, 1) := dqo adql_3 (q := (360, .iconst 1, 1)) 26 rfl
theorem dL_law_361 : decode cL_law 361 = .ok (.iadd, 1) := dqo adql_3 (q := (361, .iadd, 1)) 27 rfl
theorem dL_law_362 : decode cL_law 362 = .ok (.iaload, 1) := dqo adql_3 (q := (362, .iaload, 1)) 28 rfl
theorem dL_law_363 : decode cL_law 363 = .ok (.aload_n 0, 1) := dqo adql_3 (q := (363, .aload_n 0, 1)) 29 rfl
theorem dL_law_364 : decode cL_law 364 = .ok (.iload 4, 2) := dqo adql_3 (q := (364, .iload 4, 2)) 30 rfl
theorem dL_law_366 : decode cL_law 366 = .ok (.iconst 2, 1) := dqo adql_3 (q := (366, .iconst 2, 1)) 31 rfl
theorem dL_law_367 : decode cL_law 367 = .ok (.iadd, 1) := dqo adql_3 (q := (367, .iadd, 1)) 32 rfl
theorem dL_law_368 : decode cL_law 368 = .ok (.iaload, 1) := dqo adql_3 (q := (368, .iaload, 1)) 33 rfl
theorem dL_law_369 : decode cL_law 369 = .ok (.aload_n 3, 1) := dqo adql_3 (q := (369, .aload_n 3, 1)) 34 rfl
theorem dL_law_370 : decode cL_law 370 = .ok (.invokestatic 39, 3) := dqo adql_3 (q := (370, .invokestatic 39, 3)) 35 rfl
theorem dL_law_373 : decode cL_law 373 = .ok (.istore 5, 2) := dqo adql_3 (q := (373, .istore 5, 2)) 36 rfl
theorem dL_law_375 : decode cL_law 375 = .ok (.aload_n 2, 1) := dqo adql_3 (q := (375, .aload_n 2, 1)) 37 rfl
theorem dL_law_376 : decode cL_law 376 = .ok (.aload_n 0, 1) := dqo adql_3 (q := (376, .aload_n 0, 1)) 38 rfl
theorem dL_law_377 : decode cL_law 377 = .ok (.iload 4, 2) := dqo adql_3 (q := (377, .iload 4, 2)) 39 rfl
def dql_4 : List (Nat × Instr × Nat) := [(379, .iconst 1, 1), (380, .iadd, 1), (381, .iaload, 1), (382, .aload_n 0, 1), (383, .iload 4, 2), (385, .iconst 2, 1), (386, .iadd, 1), (387, .iaload, 1), (388, .invokevirtual 44, 3), (391, .istore 6, 2), (393, .goto 1029, 3), (396, .aload_n 1, 1), (397, .aload_n 0, 1), (398, .iload 4, 2), (400, .iconst 1, 1), (401, .iadd, 1), (402, .iaload, 1), (403, .aload_n 0, 1), (404, .iload 4, 2), (406, .iconst 2, 1), (407, .iadd, 1), (408, .iaload, 1), (409, .invokevirtual 45, 3), (412, .pop, 1), (413, .aload_n 2, 1), (414, .aload_n 0, 1), (415, .iload 4, 2), (417, .iconst 1, 1), (418, .iadd, 1), (419, .iaload, 1), (420, .aload_n 0, 1), (421, .iload 4, 2), (423, .iconst 2, 1), (424, .iadd, 1), (425, .iaload, 1), (426, .invokevirtual 48, 3), (429, .pop, 1), (430, .goto 992, 3), (433, .aload_n 1, 1), (434, .aload_n 0, 1)]
theorem adql_4 : dql_4.all (fun q => decide (decode cL_law q.1 = .ok (q.2.1, q.2.2))) = true := by decide +kernel
theorem dL_law_379 : decode cL_law 379 = .ok (.iconst 1, 1) := dqo adql_4 (q := (379, .iconst 1, 1)) 0 rfl
theorem dL_law_380 : decode cL_law 380 = .ok (.iadd, 1) := dqo adql_4 (q := (380, .iadd, 1)) 1 rfl
theorem dL_law_381 : decode cL_law 381 = .ok (.iaload, 1) := dqo adql_4 (q := (381, .iaload, 1)) 2 rfl
theorem dL_law_382 : decode cL_law 382 = .ok (.aload_n 0, 1) := dqo adql_4 (q := (382, .aload_n 0, 1)) 3 rfl
theorem dL_law_383 : decode cL_law 383 = .ok (.iload 4, 2) := dqo adql_4 (q := (383, .iload 4, 2)) 4 rfl
theorem dL_law_385 : decode cL_law 385 = .ok (.iconst 2, 1) := dqo adql_4 (q := (385, .iconst 2, 1)) 5 rfl
theorem dL_law_386 : decode cL_law 386 = .ok (.iadd, 1) := dqo adql_4 (q := (386, .iadd, 1)) 6 rfl
theorem dL_law_387 : decode cL_law 387 = .ok (.iaload, 1) := dqo adql_4 (q := (387, .iaload, 1)) 7 rfl
theorem dL_law_388 : decode cL_law 388 = .ok (.invokevirtual 44, 3) := dqo adql_4 (q := (388, .invokevirtual 44, 3)) 8 rfl
theorem dL_law_391 : decode cL_law 391 = .ok (.istore 6, 2) := dqo adql_4 (q := (391, .istore 6, 2)) 9 rfl
theorem dL_law_393 : decode cL_law 393 = .ok (.goto 1029, 3) := dqo adql_4 (q := (393, .goto 1029, 3)) 10 rfl
theorem dL_law_396 : decode cL_law 396 = .ok (.aload_n 1, 1) := dqo adql_4 (q := (396, .aload_n 1, 1)) 11 rfl
theorem dL_law_397 : decode cL_law 397 = .ok (.aload_n 0, 1) := dqo adql_4 (q := (397, .aload_n 0, 1)) 12 rfl
theorem dL_law_398 : decode cL_law 398 = .ok (.iload 4, 2) := dqo adql_4 (q := (398, .iload 4, 2)) 13 rfl
theorem dL_law_400 : decode cL_law 400 = .ok (.iconst 1, 1) := dqo adql_4 (q := (400, .iconst 1, 1)) 14 rfl
theorem dL_law_401 : decode cL_law 401 = .ok (.iadd, 1) := dqo adql_4 (q := (401, .iadd, 1)) 15 rfl
theorem dL_law_402 : decode cL_law 402 = .ok (.iaload, 1) := dqo adql_4 (q := (402, .iaload, 1)) 16 rfl
theorem dL_law_403 : decode cL_law 403 = .ok (.aload_n 0, 1) := dqo adql_4 (q := (403, .aload_n 0, 1)) 17 rfl
theorem dL_law_404 : decode cL_law 404 = .ok (.iload 4, 2) := dqo adql_4 (q := (404, .iload 4, 2)) 18 rfl
theorem dL_law_406 : decode cL_law 406 = .ok (.iconst 2, 1) := dqo adql_4 (q := (406, .iconst 2, 1)) 19 rfl
theorem dL_law_407 : decode cL_law 407 = .ok (.iadd, 1) := dqo adql_4 (q := (407, .iadd, 1)) 20 rfl
theorem dL_law_408 : decode cL_law 408 = .ok (.iaload, 1) := dqo adql_4 (q := (408, .iaload, 1)) 21 rfl
theorem dL_law_409 : decode cL_law 409 = .ok (.invokevirtual 45, 3) := dqo adql_4 (q := (409, .invokevirtual 45, 3)) 22 rfl
theorem dL_law_412 : decode cL_law 412 = .ok (.pop, 1) := dqo adql_4 (q := (412, .pop, 1)) 23 rfl
theorem dL_law_413 : decode cL_law 413 = .ok (.aload_n 2, 1) := dqo adql_4 (q := (413, .aload_n 2, 1)) 24 rfl
theorem dL_law_414 : decode cL_law 414 = .ok (.aload_n 0, 1) := dqo adql_4 (q := (414, .aload_n 0, 1)) 25 rfl
theorem dL_law_415 : decode cL_law 415 = .ok (.iload 4, 2) := dqo adql_4 (q := (415, .iload 4, 2)) 26 rfl
theorem dL_law_417 : decode cL_law 417 = .ok (.iconst 1, 1) := dqo adql_4 (q := (417, .iconst 1, 1)) 27 rfl
theorem dL_law_418 : decode cL_law 418 = .ok (.iadd, 1) := dqo adql_4 (q := (418, .iadd, 1)) 28 rfl
theorem dL_law_419 : decode cL_law 419 = .ok (.iaload, 1) := dqo adql_4 (q := (419, .iaload, 1)) 29 rfl
theorem dL_law_420 : decode cL_law 420 = .ok (.aload_n 0, 1) := dqo adql_4 (q := (420, .aload_n 0, 1)) 30 rfl
theorem dL_law_421 : decode cL_law 421 = .ok (.iload 4, 2) := dqo adql_4 (q := (421, .iload 4, 2)) 31 rfl
theorem dL_law_423 : decode cL_law 423 = .ok (.iconst 2, 1) := dqo adql_4 (q := (423, .iconst 2, 1)) 32 rfl
theorem dL_law_424 : decode cL_law 424 = .ok (.iadd, 1) := dqo adql_4 (q := (424, .iadd, 1)) 33 rfl
theorem dL_law_425 : decode cL_law 425 = .ok (.iaload, 1) := dqo adql_4 (q := (425, .iaload, 1)) 34 rfl
theorem dL_law_426 : decode cL_law 426 = .ok (.invokevirtual 48, 3) := dqo adql_4 (q := (426, .invokevirtual 48, 3)) 35 rfl
theorem dL_law_429 : decode cL_law 429 = .ok (.pop, 1) := dqo adql_4 (q := (429, .pop, 1)) 36 rfl
theorem dL_law_430 : decode cL_law 430 = .ok (.goto 992, 3) := dqo adql_4 (q := (430, .goto 992, 3)) 37 rfl
theorem dL_law_433 : decode cL_law 433 = .ok (.aload_n 1, 1) := dqo adql_4 (q := (433, .aload_n 1, 1)) 38 rfl
theorem dL_law_434 : decode cL_law 434 = .ok (.aload_n 0, 1) := dqo adql_4 (q := (434, .aload_n 0, 1)) 39 rfl
def dql_5 : List (Nat × Instr × Nat) := [(435, .iload 4, 2), (437, .iconst 1, 1), (438, .iadd, 1), (439, .iaload, 1), (440, .aload_n 0, 1), (441, .iload 4, 2), (443, .iconst 2, 1), (444, .iadd, 1), (445, .iaload, 1), (446, .invokevirtual 49, 3), (449, .pop, 1), (450, .aload_n 2, 1), (451, .aload_n 0, 1), (452, .iload 4, 2), (454, .iconst 1, 1), (455, .iadd, 1), (456, .iaload, 1), (457, .aload_n 0, 1), (458, .iload 4, 2), (460, .iconst 2, 1), (461, .iadd, 1), (462, .iaload, 1), (463, .invokevirtual 52, 3), (466, .pop, 1), (467, .goto 955, 3), (470, .aload_n 1, 1), (471, .aload_n 0, 1), (472, .iload 4, 2), (474, .iconst 1, 1), (475, .iadd, 1), (476, .iaload, 1), (477, .aload_n 0, 1), (478, .iload 4, 2), (480, .iconst 2, 1), (481, .iadd, 1), (482, .iaload, 1), (483, .aload_n 0, 1), (484, .iload 4, 2), (486, .iconst 3, 1), (487, .iadd, 1)]
theorem adql_5 : dql_5.all (fun q => decide (decode cL_law q.1 = .ok (q.2.1, q.2.2))) = true := by decide +kernel
theorem dL_law_435 : decode cL_law 435 = .ok (.iload 4, 2) := dqo adql_5 (q := (435, .iload 4, 2)) 0 rfl
theorem dL_law_437 : decode cL_law 437 = .ok (.iconst 1, 1) := dqo adql_5 (q := (437, .iconst 1, 1)) 1 rfl
theorem dL_law_438 : decode cL_law 438 = .ok (.iadd, 1) := dqo adql_5 (q := (438, .iadd, 1)) 2 rfl
theorem dL_law_439 : decode cL_law 439 = .ok (.iaload, 1) := dqo adql_5 (q := (439, .iaload, 1)) 3 rfl
theorem dL_law_440 : decode cL_law 440 = .ok (.aload_n 0, 1) := dqo adql_5 (q := (440, .aload_n 0, 1)) 4 rfl
theorem dL_law_441 : decode cL_law 441 = .ok (.iload 4, 2) := dqo adql_5 (q := (441, .iload 4, 2)) 5 rfl
theorem dL_law_443 : decode cL_law 443 = .ok (.iconst 2, 1) := dqo adql_5 (q := (443, .iconst 2, 1)) 6 rfl
theorem dL_law_444 : decode cL_law 444 = .ok (.iadd, 1) := dqo adql_5 (q := (444, .iadd, 1)) 7 rfl
theorem dL_law_445 : decode cL_law 445 = .ok (.iaload, 1) := dqo adql_5 (q := (445, .iaload, 1)) 8 rfl
theorem dL_law_446 : decode cL_law 446 = .ok (.invokevirtual 49, 3) := dqo adql_5 (q := (446, .invokevirtual 49, 3)) 9 rfl
theorem dL_law_449 : decode cL_law 449 = .ok (.pop, 1) := dqo adql_5 (q := (449, .pop, 1)) 10 rfl
theorem dL_law_450 : decode cL_law 450 = .ok (.aload_n 2, 1) := dqo adql_5 (q := (450, .aload_n 2, 1)) 11 rfl
theorem dL_law_451 : decode cL_law 451 = .ok (.aload_n 0, 1) := dqo adql_5 (q := (451, .aload_n 0, 1)) 12 rfl
theorem dL_law_452 : decode cL_law 452 = .ok (.iload 4, 2) := dqo adql_5 (q := (452, .iload 4, 2)) 13 rfl
theorem dL_law_454 : decode cL_law 454 = .ok (.iconst 1, 1) := dqo adql_5 (q := (454, .iconst 1, 1)) 14 rfl
theorem dL_law_455 : decode cL_law 455 = .ok (.iadd, 1) := dqo adql_5 (q := (455, .iadd, 1)) 15 rfl
theorem dL_law_456 : decode cL_law 456 = .ok (.iaload, 1) := dqo adql_5 (q := (456, .iaload, 1)) 16 rfl
theorem dL_law_457 : decode cL_law 457 = .ok (.aload_n 0, 1) := dqo adql_5 (q := (457, .aload_n 0, 1)) 17 rfl
theorem dL_law_458 : decode cL_law 458 = .ok (.iload 4, 2) := dqo adql_5 (q := (458, .iload 4, 2)) 18 rfl
theorem dL_law_460 : decode cL_law 460 = .ok (.iconst 2, 1) := dqo adql_5 (q := (460, .iconst 2, 1)) 19 rfl
theorem dL_law_461 : decode cL_law 461 = .ok (.iadd, 1) := dqo adql_5 (q := (461, .iadd, 1)) 20 rfl
theorem dL_law_462 : decode cL_law 462 = .ok (.iaload, 1) := dqo adql_5 (q := (462, .iaload, 1)) 21 rfl
theorem dL_law_463 : decode cL_law 463 = .ok (.invokevirtual 52, 3) := dqo adql_5 (q := (463, .invokevirtual 52, 3)) 22 rfl
theorem dL_law_466 : decode cL_law 466 = .ok (.pop, 1) := dqo adql_5 (q := (466, .pop, 1)) 23 rfl
theorem dL_law_467 : decode cL_law 467 = .ok (.goto 955, 3) := dqo adql_5 (q := (467, .goto 955, 3)) 24 rfl
theorem dL_law_470 : decode cL_law 470 = .ok (.aload_n 1, 1) := dqo adql_5 (q := (470, .aload_n 1, 1)) 25 rfl
theorem dL_law_471 : decode cL_law 471 = .ok (.aload_n 0, 1) := dqo adql_5 (q := (471, .aload_n 0, 1)) 26 rfl
theorem dL_law_472 : decode cL_law 472 = .ok (.iload 4, 2) := dqo adql_5 (q := (472, .iload 4, 2)) 27 rfl
theorem dL_law_474 : decode cL_law 474 = .ok (.iconst 1, 1) := dqo adql_5 (q := (474, .iconst 1, 1)) 28 rfl
theorem dL_law_475 : decode cL_law 475 = .ok (.iadd, 1) := dqo adql_5 (q := (475, .iadd, 1)) 29 rfl
theorem dL_law_476 : decode cL_law 476 = .ok (.iaload, 1) := dqo adql_5 (q := (476, .iaload, 1)) 30 rfl
theorem dL_law_477 : decode cL_law 477 = .ok (.aload_n 0, 1) := dqo adql_5 (q := (477, .aload_n 0, 1)) 31 rfl
theorem dL_law_478 : decode cL_law 478 = .ok (.iload 4, 2) := dqo adql_5 (q := (478, .iload 4, 2)) 32 rfl
theorem dL_law_480 : decode cL_law 480 = .ok (.iconst 2, 1) := dqo adql_5 (q := (480, .iconst 2, 1)) 33 rfl
theorem dL_law_481 : decode cL_law 481 = .ok (.iadd, 1) := dqo adql_5 (q := (481, .iadd, 1)) 34 rfl
theorem dL_law_482 : decode cL_law 482 = .ok (.iaload, 1) := dqo adql_5 (q := (482, .iaload, 1)) 35 rfl
theorem dL_law_483 : decode cL_law 483 = .ok (.aload_n 0, 1) := dqo adql_5 (q := (483, .aload_n 0, 1)) 36 rfl
theorem dL_law_484 : decode cL_law 484 = .ok (.iload 4, 2) := dqo adql_5 (q := (484, .iload 4, 2)) 37 rfl
theorem dL_law_486 : decode cL_law 486 = .ok (.iconst 3, 1) := dqo adql_5 (q := (486, .iconst 3, 1)) 38 rfl
theorem dL_law_487 : decode cL_law 487 = .ok (.iadd, 1) := dqo adql_5 (q := (487, .iadd, 1)) 39 rfl
def dql_6 : List (Nat × Instr × Nat) := [(488, .iaload, 1), (489, .invokevirtual 53, 3), (492, .pop, 1), (493, .aload_n 2, 1), (494, .aload_n 0, 1), (495, .iload 4, 2), (497, .iconst 1, 1), (498, .iadd, 1), (499, .iaload, 1), (500, .aload_n 0, 1), (501, .iload 4, 2), (503, .iconst 2, 1), (504, .iadd, 1), (505, .iaload, 1), (506, .aload_n 0, 1), (507, .iload 4, 2), (509, .iconst 3, 1), (510, .iadd, 1), (511, .iaload, 1), (512, .invokevirtual 57, 3), (515, .pop, 1), (516, .goto 906, 3), (519, .aload_n 1, 1), (520, .aload_n 0, 1), (521, .iload 4, 2), (523, .iconst 1, 1), (524, .iadd, 1), (525, .iaload, 1), (526, .aload_n 0, 1), (527, .iload 4, 2), (529, .iconst 2, 1), (530, .iadd, 1), (531, .iaload, 1), (532, .aload_n 0, 1), (533, .iload 4, 2), (535, .iconst 3, 1), (536, .iadd, 1), (537, .iaload, 1), (538, .invokevirtual 58, 3), (541, .pop, 1)]
theorem adql_6 : dql_6.all (fun q => decide (decode cL_law q.1 = .ok (q.2.1, q.2.2))) = true := by decide +kernel
theorem dL_law_488 : decode cL_law 488 = .ok (.iaload, 1) := dqo adql_6 (q := (488, .iaload, 1)) 0 rfl
theorem dL_law_489 : decode cL_law 489 = .ok (.invokevirtual 53, 3) := dqo adql_6 (q := (489, .invokevirtual 53, 3)) 1 rfl
theorem dL_law_492 : decode cL_law 492 = .ok (.pop, 1) := dqo adql_6 (q := (492, .pop, 1)) 2 rfl
theorem dL_law_493 : decode cL_law 493 = .ok (.aload_n 2, 1) := dqo adql_6 (q := (493, .aload_n 2, 1)) 3 rfl
theorem dL_law_494 : decode cL_law 494 = .ok (.aload_n 0, 1) := dqo adql_6 (q := (494, .aload_n 0, 1)) 4 rfl
theorem dL_law_495 : decode cL_law 495 = .ok (.iload 4, 2) := dqo adql_6 (q := (495, .iload 4, 2)) 5 rfl
theorem dL_law_497 : decode cL_law 497 = .ok (.iconst 1, 1) := dqo adql_6 (q := (497, .iconst 1, 1)) 6 rfl
theorem dL_law_498 : decode cL_law 498 = .ok (.iadd, 1) := dqo adql_6 (q := (498, .iadd, 1)) 7 rfl
theorem dL_law_499 : decode cL_law 499 = .ok (.iaload, 1) := dqo adql_6 (q := (499, .iaload, 1)) 8 rfl
theorem dL_law_500 : decode cL_law 500 = .ok (.aload_n 0, 1) := dqo adql_6 (q := (500, .aload_n 0, 1)) 9 rfl
theorem dL_law_501 : decode cL_law 501 = .ok (.iload 4, 2) := dqo adql_6 (q := (501, .iload 4, 2)) 10 rfl
theorem dL_law_503 : decode cL_law 503 = .ok (.iconst 2, 1) := dqo adql_6 (q := (503, .iconst 2, 1)) 11 rfl
theorem dL_law_504 : decode cL_law 504 = .ok (.iadd, 1) := dqo adql_6 (q := (504, .iadd, 1)) 12 rfl
theorem dL_law_505 : decode cL_law 505 = .ok (.iaload, 1) := dqo adql_6 (q := (505, .iaload, 1)) 13 rfl
theorem dL_law_506 : decode cL_law 506 = .ok (.aload_n 0, 1) := dqo adql_6 (q := (506, .aload_n 0, 1)) 14 rfl
theorem dL_law_507 : decode cL_law 507 = .ok (.iload 4, 2) := dqo adql_6 (q := (507, .iload 4, 2)) 15 rfl
theorem dL_law_509 : decode cL_law 509 = .ok (.iconst 3, 1) := dqo adql_6 (q := (509, .iconst 3, 1)) 16 rfl
theorem dL_law_510 : decode cL_law 510 = .ok (.iadd, 1) := dqo adql_6 (q := (510, .iadd, 1)) 17 rfl
theorem dL_law_511 : decode cL_law 511 = .ok (.iaload, 1) := dqo adql_6 (q := (511, .iaload, 1)) 18 rfl
theorem dL_law_512 : decode cL_law 512 = .ok (.invokevirtual 57, 3) := dqo adql_6 (q := (512, .invokevirtual 57, 3)) 19 rfl
theorem dL_law_515 : decode cL_law 515 = .ok (.pop, 1) := dqo adql_6 (q := (515, .pop, 1)) 20 rfl
theorem dL_law_516 : decode cL_law 516 = .ok (.goto 906, 3) := dqo adql_6 (q := (516, .goto 906, 3)) 21 rfl
theorem dL_law_519 : decode cL_law 519 = .ok (.aload_n 1, 1) := dqo adql_6 (q := (519, .aload_n 1, 1)) 22 rfl
theorem dL_law_520 : decode cL_law 520 = .ok (.aload_n 0, 1) := dqo adql_6 (q := (520, .aload_n 0, 1)) 23 rfl
theorem dL_law_521 : decode cL_law 521 = .ok (.iload 4, 2) := dqo adql_6 (q := (521, .iload 4, 2)) 24 rfl
theorem dL_law_523 : decode cL_law 523 = .ok (.iconst 1, 1) := dqo adql_6 (q := (523, .iconst 1, 1)) 25 rfl
theorem dL_law_524 : decode cL_law 524 = .ok (.iadd, 1) := dqo adql_6 (q := (524, .iadd, 1)) 26 rfl
theorem dL_law_525 : decode cL_law 525 = .ok (.iaload, 1) := dqo adql_6 (q := (525, .iaload, 1)) 27 rfl
theorem dL_law_526 : decode cL_law 526 = .ok (.aload_n 0, 1) := dqo adql_6 (q := (526, .aload_n 0, 1)) 28 rfl
theorem dL_law_527 : decode cL_law 527 = .ok (.iload 4, 2) := dqo adql_6 (q := (527, .iload 4, 2)) 29 rfl
theorem dL_law_529 : decode cL_law 529 = .ok (.iconst 2, 1) := dqo adql_6 (q := (529, .iconst 2, 1)) 30 rfl
theorem dL_law_530 : decode cL_law 530 = .ok (.iadd, 1) := dqo adql_6 (q := (530, .iadd, 1)) 31 rfl
theorem dL_law_531 : decode cL_law 531 = .ok (.iaload, 1) := dqo adql_6 (q := (531, .iaload, 1)) 32 rfl
theorem dL_law_532 : decode cL_law 532 = .ok (.aload_n 0, 1) := dqo adql_6 (q := (532, .aload_n 0, 1)) 33 rfl
theorem dL_law_533 : decode cL_law 533 = .ok (.iload 4, 2) := dqo adql_6 (q := (533, .iload 4, 2)) 34 rfl
theorem dL_law_535 : decode cL_law 535 = .ok (.iconst 3, 1) := dqo adql_6 (q := (535, .iconst 3, 1)) 35 rfl
theorem dL_law_536 : decode cL_law 536 = .ok (.iadd, 1) := dqo adql_6 (q := (536, .iadd, 1)) 36 rfl
theorem dL_law_537 : decode cL_law 537 = .ok (.iaload, 1) := dqo adql_6 (q := (537, .iaload, 1)) 37 rfl
theorem dL_law_538 : decode cL_law 538 = .ok (.invokevirtual 58, 3) := dqo adql_6 (q := (538, .invokevirtual 58, 3)) 38 rfl
theorem dL_law_541 : decode cL_law 541 = .ok (.pop, 1) := dqo adql_6 (q := (541, .pop, 1)) 39 rfl
def dql_7 : List (Nat × Instr × Nat) := [(542, .aload_n 2, 1), (543, .aload_n 0, 1), (544, .iload 4, 2), (546, .iconst 1, 1), (547, .iadd, 1), (548, .iaload, 1), (549, .aload_n 0, 1), (550, .iload 4, 2), (552, .iconst 2, 1), (553, .iadd, 1), (554, .iaload, 1), (555, .aload_n 0, 1), (556, .iload 4, 2), (558, .iconst 3, 1), (559, .iadd, 1), (560, .iaload, 1), (561, .invokevirtual 61, 3), (564, .pop, 1), (565, .goto 857, 3), (568, .aload_n 1, 1), (569, .aload_n 0, 1), (570, .iload 4, 2), (572, .iconst 1, 1), (573, .iadd, 1), (574, .iaload, 1), (575, .aload_n 0, 1), (576, .iload 4, 2), (578, .iconst 2, 1), (579, .iadd, 1), (580, .iaload, 1), (581, .aload_n 0, 1), (582, .iload 4, 2), (584, .iconst 3, 1), (585, .iadd, 1), (586, .iaload, 1), (587, .invokevirtual 62, 3), (590, .pop, 1), (591, .aload_n 2, 1), (592, .aload_n 0, 1), (593, .iload 4, 2)]
theorem adql_7 : dql_7.all (fun q => decide (decode cL_law q.1 = .ok (q.2.1, q.2.2))) = true := by decide +kernel
theorem dL_law_542 : decode cL_law 542 = .ok (.aload_n 2, 1) := dqo adql_7 (q := (542, .aload_n 2, 1)) 0 rfl
theorem dL_law_543 : decode cL_law 543 = .ok (.aload_n 0, 1) := dqo adql_7 (q := (543, .aload_n 0, 1)) 1 rfl
theorem dL_law_544 : decode cL_law 544 = .ok (.iload 4, 2) := dqo adql_7 (q := (544, .iload 4, 2)) 2 rfl
theorem dL_law_546 : decode cL_law 546 = .ok (.iconst 1, 1) := dqo adql_7 (q := (546, .iconst 1, 1)) 3 rfl
theorem dL_law_547 : decode cL_law 547 = .ok (.iadd, 1) := dqo adql_7 (q := (547, .iadd, 1)) 4 rfl
theorem dL_law_548 : decode cL_law 548 = .ok (.iaload, 1) := dqo adql_7 (q := (548, .iaload, 1)) 5 rfl
theorem dL_law_549 : decode cL_law 549 = .ok (.aload_n 0, 1) := dqo adql_7 (q := (549, .aload_n 0, 1)) 6 rfl
theorem dL_law_550 : decode cL_law 550 = .ok (.iload 4, 2) := dqo adql_7 (q := (550, .iload 4, 2)) 7 rfl
theorem dL_law_552 : decode cL_law 552 = .ok (.iconst 2, 1) := dqo adql_7 (q := (552, .iconst 2, 1)) 8 rfl
theorem dL_law_553 : decode cL_law 553 = .ok (.iadd, 1) := dqo adql_7 (q := (553, .iadd, 1)) 9 rfl
theorem dL_law_554 : decode cL_law 554 = .ok (.iaload, 1) := dqo adql_7 (q := (554, .iaload, 1)) 10 rfl
theorem dL_law_555 : decode cL_law 555 = .ok (.aload_n 0, 1) := dqo adql_7 (q := (555, .aload_n 0, 1)) 11 rfl
theorem dL_law_556 : decode cL_law 556 = .ok (.iload 4, 2) := dqo adql_7 (q := (556, .iload 4, 2)) 12 rfl
theorem dL_law_558 : decode cL_law 558 = .ok (.iconst 3, 1) := dqo adql_7 (q := (558, .iconst 3, 1)) 13 rfl
theorem dL_law_559 : decode cL_law 559 = .ok (.iadd, 1) := dqo adql_7 (q := (559, .iadd, 1)) 14 rfl
theorem dL_law_560 : decode cL_law 560 = .ok (.iaload, 1) := dqo adql_7 (q := (560, .iaload, 1)) 15 rfl
theorem dL_law_561 : decode cL_law 561 = .ok (.invokevirtual 61, 3) := dqo adql_7 (q := (561, .invokevirtual 61, 3)) 16 rfl
theorem dL_law_564 : decode cL_law 564 = .ok (.pop, 1) := dqo adql_7 (q := (564, .pop, 1)) 17 rfl
theorem dL_law_565 : decode cL_law 565 = .ok (.goto 857, 3) := dqo adql_7 (q := (565, .goto 857, 3)) 18 rfl
theorem dL_law_568 : decode cL_law 568 = .ok (.aload_n 1, 1) := dqo adql_7 (q := (568, .aload_n 1, 1)) 19 rfl
theorem dL_law_569 : decode cL_law 569 = .ok (.aload_n 0, 1) := dqo adql_7 (q := (569, .aload_n 0, 1)) 20 rfl
theorem dL_law_570 : decode cL_law 570 = .ok (.iload 4, 2) := dqo adql_7 (q := (570, .iload 4, 2)) 21 rfl
theorem dL_law_572 : decode cL_law 572 = .ok (.iconst 1, 1) := dqo adql_7 (q := (572, .iconst 1, 1)) 22 rfl
theorem dL_law_573 : decode cL_law 573 = .ok (.iadd, 1) := dqo adql_7 (q := (573, .iadd, 1)) 23 rfl
theorem dL_law_574 : decode cL_law 574 = .ok (.iaload, 1) := dqo adql_7 (q := (574, .iaload, 1)) 24 rfl
theorem dL_law_575 : decode cL_law 575 = .ok (.aload_n 0, 1) := dqo adql_7 (q := (575, .aload_n 0, 1)) 25 rfl
theorem dL_law_576 : decode cL_law 576 = .ok (.iload 4, 2) := dqo adql_7 (q := (576, .iload 4, 2)) 26 rfl
theorem dL_law_578 : decode cL_law 578 = .ok (.iconst 2, 1) := dqo adql_7 (q := (578, .iconst 2, 1)) 27 rfl
theorem dL_law_579 : decode cL_law 579 = .ok (.iadd, 1) := dqo adql_7 (q := (579, .iadd, 1)) 28 rfl
theorem dL_law_580 : decode cL_law 580 = .ok (.iaload, 1) := dqo adql_7 (q := (580, .iaload, 1)) 29 rfl
theorem dL_law_581 : decode cL_law 581 = .ok (.aload_n 0, 1) := dqo adql_7 (q := (581, .aload_n 0, 1)) 30 rfl
theorem dL_law_582 : decode cL_law 582 = .ok (.iload 4, 2) := dqo adql_7 (q := (582, .iload 4, 2)) 31 rfl
theorem dL_law_584 : decode cL_law 584 = .ok (.iconst 3, 1) := dqo adql_7 (q := (584, .iconst 3, 1)) 32 rfl
theorem dL_law_585 : decode cL_law 585 = .ok (.iadd, 1) := dqo adql_7 (q := (585, .iadd, 1)) 33 rfl
theorem dL_law_586 : decode cL_law 586 = .ok (.iaload, 1) := dqo adql_7 (q := (586, .iaload, 1)) 34 rfl
theorem dL_law_587 : decode cL_law 587 = .ok (.invokevirtual 62, 3) := dqo adql_7 (q := (587, .invokevirtual 62, 3)) 35 rfl
theorem dL_law_590 : decode cL_law 590 = .ok (.pop, 1) := dqo adql_7 (q := (590, .pop, 1)) 36 rfl
theorem dL_law_591 : decode cL_law 591 = .ok (.aload_n 2, 1) := dqo adql_7 (q := (591, .aload_n 2, 1)) 37 rfl
theorem dL_law_592 : decode cL_law 592 = .ok (.aload_n 0, 1) := dqo adql_7 (q := (592, .aload_n 0, 1)) 38 rfl
theorem dL_law_593 : decode cL_law 593 = .ok (.iload 4, 2) := dqo adql_7 (q := (593, .iload 4, 2)) 39 rfl
def dql_8 : List (Nat × Instr × Nat) := [(595, .iconst 1, 1), (596, .iadd, 1), (597, .iaload, 1), (598, .aload_n 0, 1), (599, .iload 4, 2), (601, .iconst 2, 1), (602, .iadd, 1), (603, .iaload, 1), (604, .aload_n 0, 1), (605, .iload 4, 2), (607, .iconst 3, 1), (608, .iadd, 1), (609, .iaload, 1), (610, .invokevirtual 65, 3), (613, .pop, 1), (614, .goto 808, 3), (617, .aload_n 1, 1), (618, .aload_n 0, 1), (619, .iload 4, 2), (621, .iconst 1, 1), (622, .iadd, 1), (623, .iaload, 1), (624, .aload_n 0, 1), (625, .iload 4, 2), (627, .iconst 2, 1), (628, .iadd, 1), (629, .iaload, 1), (630, .invokevirtual 66, 3), (633, .pop, 1), (634, .aload_n 2, 1), (635, .aload_n 0, 1), (636, .iload 4, 2), (638, .iconst 1, 1), (639, .iadd, 1), (640, .iaload, 1), (641, .aload_n 0, 1), (642, .iload 4, 2), (644, .iconst 2, 1), (645, .iadd, 1), (646, .iaload, 1)]
theorem adql_8 : dql_8.all (fun q => decide (decode cL_law q.1 = .ok (q.2.1, q.2.2))) = true := by decide +kernel
theorem dL_law_595 : decode cL_law 595 = .ok (.iconst 1, 1) := dqo adql_8 (q := (595, .iconst 1, 1)) 0 rfl
theorem dL_law_596 : decode cL_law 596 = .ok (.iadd, 1) := dqo adql_8 (q := (596, .iadd, 1)) 1 rfl
theorem dL_law_597 : decode cL_law 597 = .ok (.iaload, 1) := dqo adql_8 (q := (597, .iaload, 1)) 2 rfl
theorem dL_law_598 : decode cL_law 598 = .ok (.aload_n 0, 1) := dqo adql_8 (q := (598, .aload_n 0, 1)) 3 rfl
theorem dL_law_599 : decode cL_law 599 = .ok (.iload 4, 2) := dqo adql_8 (q := (599, .iload 4, 2)) 4 rfl
theorem dL_law_601 : decode cL_law 601 = .ok (.iconst 2, 1) := dqo adql_8 (q := (601, .iconst 2, 1)) 5 rfl
theorem dL_law_602 : decode cL_law 602 = .ok (.iadd, 1) := dqo adql_8 (q := (602, .iadd, 1)) 6 rfl
theorem dL_law_603 : decode cL_law 603 = .ok (.iaload, 1) := dqo adql_8 (q := (603, .iaload, 1)) 7 rfl
theorem dL_law_604 : decode cL_law 604 = .ok (.aload_n 0, 1) := dqo adql_8 (q := (604, .aload_n 0, 1)) 8 rfl
theorem dL_law_605 : decode cL_law 605 = .ok (.iload 4, 2) := dqo adql_8 (q := (605, .iload 4, 2)) 9 rfl
theorem dL_law_607 : decode cL_law 607 = .ok (.iconst 3, 1) := dqo adql_8 (q := (607, .iconst 3, 1)) 10 rfl
theorem dL_law_608 : decode cL_law 608 = .ok (.iadd, 1) := dqo adql_8 (q := (608, .iadd, 1)) 11 rfl
theorem dL_law_609 : decode cL_law 609 = .ok (.iaload, 1) := dqo adql_8 (q := (609, .iaload, 1)) 12 rfl
theorem dL_law_610 : decode cL_law 610 = .ok (.invokevirtual 65, 3) := dqo adql_8 (q := (610, .invokevirtual 65, 3)) 13 rfl
theorem dL_law_613 : decode cL_law 613 = .ok (.pop, 1) := dqo adql_8 (q := (613, .pop, 1)) 14 rfl
theorem dL_law_614 : decode cL_law 614 = .ok (.goto 808, 3) := dqo adql_8 (q := (614, .goto 808, 3)) 15 rfl
theorem dL_law_617 : decode cL_law 617 = .ok (.aload_n 1, 1) := dqo adql_8 (q := (617, .aload_n 1, 1)) 16 rfl
theorem dL_law_618 : decode cL_law 618 = .ok (.aload_n 0, 1) := dqo adql_8 (q := (618, .aload_n 0, 1)) 17 rfl
theorem dL_law_619 : decode cL_law 619 = .ok (.iload 4, 2) := dqo adql_8 (q := (619, .iload 4, 2)) 18 rfl
theorem dL_law_621 : decode cL_law 621 = .ok (.iconst 1, 1) := dqo adql_8 (q := (621, .iconst 1, 1)) 19 rfl
theorem dL_law_622 : decode cL_law 622 = .ok (.iadd, 1) := dqo adql_8 (q := (622, .iadd, 1)) 20 rfl
theorem dL_law_623 : decode cL_law 623 = .ok (.iaload, 1) := dqo adql_8 (q := (623, .iaload, 1)) 21 rfl
theorem dL_law_624 : decode cL_law 624 = .ok (.aload_n 0, 1) := dqo adql_8 (q := (624, .aload_n 0, 1)) 22 rfl
theorem dL_law_625 : decode cL_law 625 = .ok (.iload 4, 2) := dqo adql_8 (q := (625, .iload 4, 2)) 23 rfl
theorem dL_law_627 : decode cL_law 627 = .ok (.iconst 2, 1) := dqo adql_8 (q := (627, .iconst 2, 1)) 24 rfl
theorem dL_law_628 : decode cL_law 628 = .ok (.iadd, 1) := dqo adql_8 (q := (628, .iadd, 1)) 25 rfl
theorem dL_law_629 : decode cL_law 629 = .ok (.iaload, 1) := dqo adql_8 (q := (629, .iaload, 1)) 26 rfl
theorem dL_law_630 : decode cL_law 630 = .ok (.invokevirtual 66, 3) := dqo adql_8 (q := (630, .invokevirtual 66, 3)) 27 rfl
theorem dL_law_633 : decode cL_law 633 = .ok (.pop, 1) := dqo adql_8 (q := (633, .pop, 1)) 28 rfl
theorem dL_law_634 : decode cL_law 634 = .ok (.aload_n 2, 1) := dqo adql_8 (q := (634, .aload_n 2, 1)) 29 rfl
theorem dL_law_635 : decode cL_law 635 = .ok (.aload_n 0, 1) := dqo adql_8 (q := (635, .aload_n 0, 1)) 30 rfl
theorem dL_law_636 : decode cL_law 636 = .ok (.iload 4, 2) := dqo adql_8 (q := (636, .iload 4, 2)) 31 rfl
theorem dL_law_638 : decode cL_law 638 = .ok (.iconst 1, 1) := dqo adql_8 (q := (638, .iconst 1, 1)) 32 rfl
theorem dL_law_639 : decode cL_law 639 = .ok (.iadd, 1) := dqo adql_8 (q := (639, .iadd, 1)) 33 rfl
theorem dL_law_640 : decode cL_law 640 = .ok (.iaload, 1) := dqo adql_8 (q := (640, .iaload, 1)) 34 rfl
theorem dL_law_641 : decode cL_law 641 = .ok (.aload_n 0, 1) := dqo adql_8 (q := (641, .aload_n 0, 1)) 35 rfl
theorem dL_law_642 : decode cL_law 642 = .ok (.iload 4, 2) := dqo adql_8 (q := (642, .iload 4, 2)) 36 rfl
theorem dL_law_644 : decode cL_law 644 = .ok (.iconst 2, 1) := dqo adql_8 (q := (644, .iconst 2, 1)) 37 rfl
theorem dL_law_645 : decode cL_law 645 = .ok (.iadd, 1) := dqo adql_8 (q := (645, .iadd, 1)) 38 rfl
theorem dL_law_646 : decode cL_law 646 = .ok (.iaload, 1) := dqo adql_8 (q := (646, .iaload, 1)) 39 rfl
def dql_9 : List (Nat × Instr × Nat) := [(647, .invokevirtual 69, 3), (650, .pop, 1), (651, .goto 771, 3), (654, .aload_n 1, 1), (655, .aload_n 0, 1), (656, .iload 4, 2), (658, .iconst 1, 1), (659, .iadd, 1), (660, .iaload, 1), (661, .invokevirtual 70, 3), (664, .pop, 1), (665, .aload_n 2, 1), (666, .aload_n 0, 1), (667, .iload 4, 2), (669, .iconst 1, 1), (670, .iadd, 1), (671, .iaload, 1), (672, .invokevirtual 73, 3), (675, .pop, 1), (676, .goto 746, 3), (679, .aload_n 1, 1), (680, .aload_n 0, 1), (681, .iload 4, 2), (683, .iconst 1, 1), (684, .iadd, 1), (685, .iaload, 1), (686, .aload_n 0, 1), (687, .iload 4, 2), (689, .iconst 2, 1), (690, .iadd, 1), (691, .iaload, 1), (692, .aload_n 0, 1), (693, .iload 4, 2), (695, .iconst 3, 1), (696, .iadd, 1), (697, .iaload, 1), (698, .invokevirtual 74, 3), (701, .pop, 1), (702, .aload_n 2, 1), (703, .aload_n 0, 1)]
theorem adql_9 : dql_9.all (fun q => decide (decode cL_law q.1 = .ok (q.2.1, q.2.2))) = true := by decide +kernel
theorem dL_law_647 : decode cL_law 647 = .ok (.invokevirtual 69, 3) := dqo adql_9 (q := (647, .invokevirtual 69, 3)) 0 rfl
theorem dL_law_650 : decode cL_law 650 = .ok (.pop, 1) := dqo adql_9 (q := (650, .pop, 1)) 1 rfl
theorem dL_law_651 : decode cL_law 651 = .ok (.goto 771, 3) := dqo adql_9 (q := (651, .goto 771, 3)) 2 rfl
theorem dL_law_654 : decode cL_law 654 = .ok (.aload_n 1, 1) := dqo adql_9 (q := (654, .aload_n 1, 1)) 3 rfl
theorem dL_law_655 : decode cL_law 655 = .ok (.aload_n 0, 1) := dqo adql_9 (q := (655, .aload_n 0, 1)) 4 rfl
theorem dL_law_656 : decode cL_law 656 = .ok (.iload 4, 2) := dqo adql_9 (q := (656, .iload 4, 2)) 5 rfl
theorem dL_law_658 : decode cL_law 658 = .ok (.iconst 1, 1) := dqo adql_9 (q := (658, .iconst 1, 1)) 6 rfl
theorem dL_law_659 : decode cL_law 659 = .ok (.iadd, 1) := dqo adql_9 (q := (659, .iadd, 1)) 7 rfl
theorem dL_law_660 : decode cL_law 660 = .ok (.iaload, 1) := dqo adql_9 (q := (660, .iaload, 1)) 8 rfl
theorem dL_law_661 : decode cL_law 661 = .ok (.invokevirtual 70, 3) := dqo adql_9 (q := (661, .invokevirtual 70, 3)) 9 rfl
theorem dL_law_664 : decode cL_law 664 = .ok (.pop, 1) := dqo adql_9 (q := (664, .pop, 1)) 10 rfl
theorem dL_law_665 : decode cL_law 665 = .ok (.aload_n 2, 1) := dqo adql_9 (q := (665, .aload_n 2, 1)) 11 rfl
theorem dL_law_666 : decode cL_law 666 = .ok (.aload_n 0, 1) := dqo adql_9 (q := (666, .aload_n 0, 1)) 12 rfl
theorem dL_law_667 : decode cL_law 667 = .ok (.iload 4, 2) := dqo adql_9 (q := (667, .iload 4, 2)) 13 rfl
theorem dL_law_669 : decode cL_law 669 = .ok (.iconst 1, 1) := dqo adql_9 (q := (669, .iconst 1, 1)) 14 rfl
theorem dL_law_670 : decode cL_law 670 = .ok (.iadd, 1) := dqo adql_9 (q := (670, .iadd, 1)) 15 rfl
theorem dL_law_671 : decode cL_law 671 = .ok (.iaload, 1) := dqo adql_9 (q := (671, .iaload, 1)) 16 rfl
theorem dL_law_672 : decode cL_law 672 = .ok (.invokevirtual 73, 3) := dqo adql_9 (q := (672, .invokevirtual 73, 3)) 17 rfl
theorem dL_law_675 : decode cL_law 675 = .ok (.pop, 1) := dqo adql_9 (q := (675, .pop, 1)) 18 rfl
theorem dL_law_676 : decode cL_law 676 = .ok (.goto 746, 3) := dqo adql_9 (q := (676, .goto 746, 3)) 19 rfl
theorem dL_law_679 : decode cL_law 679 = .ok (.aload_n 1, 1) := dqo adql_9 (q := (679, .aload_n 1, 1)) 20 rfl
theorem dL_law_680 : decode cL_law 680 = .ok (.aload_n 0, 1) := dqo adql_9 (q := (680, .aload_n 0, 1)) 21 rfl
theorem dL_law_681 : decode cL_law 681 = .ok (.iload 4, 2) := dqo adql_9 (q := (681, .iload 4, 2)) 22 rfl
theorem dL_law_683 : decode cL_law 683 = .ok (.iconst 1, 1) := dqo adql_9 (q := (683, .iconst 1, 1)) 23 rfl
theorem dL_law_684 : decode cL_law 684 = .ok (.iadd, 1) := dqo adql_9 (q := (684, .iadd, 1)) 24 rfl
theorem dL_law_685 : decode cL_law 685 = .ok (.iaload, 1) := dqo adql_9 (q := (685, .iaload, 1)) 25 rfl
theorem dL_law_686 : decode cL_law 686 = .ok (.aload_n 0, 1) := dqo adql_9 (q := (686, .aload_n 0, 1)) 26 rfl
theorem dL_law_687 : decode cL_law 687 = .ok (.iload 4, 2) := dqo adql_9 (q := (687, .iload 4, 2)) 27 rfl
theorem dL_law_689 : decode cL_law 689 = .ok (.iconst 2, 1) := dqo adql_9 (q := (689, .iconst 2, 1)) 28 rfl
theorem dL_law_690 : decode cL_law 690 = .ok (.iadd, 1) := dqo adql_9 (q := (690, .iadd, 1)) 29 rfl
theorem dL_law_691 : decode cL_law 691 = .ok (.iaload, 1) := dqo adql_9 (q := (691, .iaload, 1)) 30 rfl
theorem dL_law_692 : decode cL_law 692 = .ok (.aload_n 0, 1) := dqo adql_9 (q := (692, .aload_n 0, 1)) 31 rfl
theorem dL_law_693 : decode cL_law 693 = .ok (.iload 4, 2) := dqo adql_9 (q := (693, .iload 4, 2)) 32 rfl
theorem dL_law_695 : decode cL_law 695 = .ok (.iconst 3, 1) := dqo adql_9 (q := (695, .iconst 3, 1)) 33 rfl
theorem dL_law_696 : decode cL_law 696 = .ok (.iadd, 1) := dqo adql_9 (q := (696, .iadd, 1)) 34 rfl
theorem dL_law_697 : decode cL_law 697 = .ok (.iaload, 1) := dqo adql_9 (q := (697, .iaload, 1)) 35 rfl
theorem dL_law_698 : decode cL_law 698 = .ok (.invokevirtual 74, 3) := dqo adql_9 (q := (698, .invokevirtual 74, 3)) 36 rfl
theorem dL_law_701 : decode cL_law 701 = .ok (.pop, 1) := dqo adql_9 (q := (701, .pop, 1)) 37 rfl
theorem dL_law_702 : decode cL_law 702 = .ok (.aload_n 2, 1) := dqo adql_9 (q := (702, .aload_n 2, 1)) 38 rfl
theorem dL_law_703 : decode cL_law 703 = .ok (.aload_n 0, 1) := dqo adql_9 (q := (703, .aload_n 0, 1)) 39 rfl
def dql_10 : List (Nat × Instr × Nat) := [(704, .iload 4, 2), (706, .iconst 1, 1), (707, .iadd, 1), (708, .iaload, 1), (709, .aload_n 0, 1), (710, .iload 4, 2), (712, .iconst 2, 1), (713, .iadd, 1), (714, .iaload, 1), (715, .aload_n 0, 1), (716, .iload 4, 2), (718, .iconst 3, 1), (719, .iadd, 1), (720, .iaload, 1), (721, .invokevirtual 77, 3), (724, .pop, 1), (725, .goto 697, 3), (728, .aload_n 1, 1), (729, .invokevirtual 78, 3), (732, .pop, 1), (733, .aload_n 2, 1), (734, .invokevirtual 82, 3), (737, .pop, 1), (738, .goto 684, 3), (741, .aload_n 1, 1), (742, .aload_n 0, 1), (743, .iload 4, 2), (745, .iconst 1, 1), (746, .iadd, 1), (747, .iaload, 1), (748, .aload_n 0, 1), (749, .iload 4, 2), (751, .iconst 2, 1), (752, .iadd, 1), (753, .iaload, 1), (754, .invokevirtual 83, 3), (757, .pop, 1), (758, .aload_n 2, 1), (759, .aload_n 0, 1), (760, .iload 4, 2)]
theorem adql_10 : dql_10.all (fun q => decide (decode cL_law q.1 = .ok (q.2.1, q.2.2))) = true := by decide +kernel
theorem dL_law_704 : decode cL_law 704 = .ok (.iload 4, 2) := dqo adql_10 (q := (704, .iload 4, 2)) 0 rfl
theorem dL_law_706 : decode cL_law 706 = .ok (.iconst 1, 1) := dqo adql_10 (q := (706, .iconst 1, 1)) 1 rfl
theorem dL_law_707 : decode cL_law 707 = .ok (.iadd, 1) := dqo adql_10 (q := (707, .iadd, 1)) 2 rfl
theorem dL_law_708 : decode cL_law 708 = .ok (.iaload, 1) := dqo adql_10 (q := (708, .iaload, 1)) 3 rfl
theorem dL_law_709 : decode cL_law 709 = .ok (.aload_n 0, 1) := dqo adql_10 (q := (709, .aload_n 0, 1)) 4 rfl
theorem dL_law_710 : decode cL_law 710 = .ok (.iload 4, 2) := dqo adql_10 (q := (710, .iload 4, 2)) 5 rfl
theorem dL_law_712 : decode cL_law 712 = .ok (.iconst 2, 1) := dqo adql_10 (q := (712, .iconst 2, 1)) 6 rfl
theorem dL_law_713 : decode cL_law 713 = .ok (.iadd, 1) := dqo adql_10 (q := (713, .iadd, 1)) 7 rfl
theorem dL_law_714 : decode cL_law 714 = .ok (.iaload, 1) := dqo adql_10 (q := (714, .iaload, 1)) 8 rfl
theorem dL_law_715 : decode cL_law 715 = .ok (.aload_n 0, 1) := dqo adql_10 (q := (715, .aload_n 0, 1)) 9 rfl
theorem dL_law_716 : decode cL_law 716 = .ok (.iload 4, 2) := dqo adql_10 (q := (716, .iload 4, 2)) 10 rfl
theorem dL_law_718 : decode cL_law 718 = .ok (.iconst 3, 1) := dqo adql_10 (q := (718, .iconst 3, 1)) 11 rfl
theorem dL_law_719 : decode cL_law 719 = .ok (.iadd, 1) := dqo adql_10 (q := (719, .iadd, 1)) 12 rfl
theorem dL_law_720 : decode cL_law 720 = .ok (.iaload, 1) := dqo adql_10 (q := (720, .iaload, 1)) 13 rfl
theorem dL_law_721 : decode cL_law 721 = .ok (.invokevirtual 77, 3) := dqo adql_10 (q := (721, .invokevirtual 77, 3)) 14 rfl
theorem dL_law_724 : decode cL_law 724 = .ok (.pop, 1) := dqo adql_10 (q := (724, .pop, 1)) 15 rfl
theorem dL_law_725 : decode cL_law 725 = .ok (.goto 697, 3) := dqo adql_10 (q := (725, .goto 697, 3)) 16 rfl
theorem dL_law_728 : decode cL_law 728 = .ok (.aload_n 1, 1) := dqo adql_10 (q := (728, .aload_n 1, 1)) 17 rfl
theorem dL_law_729 : decode cL_law 729 = .ok (.invokevirtual 78, 3) := dqo adql_10 (q := (729, .invokevirtual 78, 3)) 18 rfl
theorem dL_law_732 : decode cL_law 732 = .ok (.pop, 1) := dqo adql_10 (q := (732, .pop, 1)) 19 rfl
theorem dL_law_733 : decode cL_law 733 = .ok (.aload_n 2, 1) := dqo adql_10 (q := (733, .aload_n 2, 1)) 20 rfl
theorem dL_law_734 : decode cL_law 734 = .ok (.invokevirtual 82, 3) := dqo adql_10 (q := (734, .invokevirtual 82, 3)) 21 rfl
theorem dL_law_737 : decode cL_law 737 = .ok (.pop, 1) := dqo adql_10 (q := (737, .pop, 1)) 22 rfl
theorem dL_law_738 : decode cL_law 738 = .ok (.goto 684, 3) := dqo adql_10 (q := (738, .goto 684, 3)) 23 rfl
theorem dL_law_741 : decode cL_law 741 = .ok (.aload_n 1, 1) := dqo adql_10 (q := (741, .aload_n 1, 1)) 24 rfl
theorem dL_law_742 : decode cL_law 742 = .ok (.aload_n 0, 1) := dqo adql_10 (q := (742, .aload_n 0, 1)) 25 rfl
theorem dL_law_743 : decode cL_law 743 = .ok (.iload 4, 2) := dqo adql_10 (q := (743, .iload 4, 2)) 26 rfl
theorem dL_law_745 : decode cL_law 745 = .ok (.iconst 1, 1) := dqo adql_10 (q := (745, .iconst 1, 1)) 27 rfl
theorem dL_law_746 : decode cL_law 746 = .ok (.iadd, 1) := dqo adql_10 (q := (746, .iadd, 1)) 28 rfl
theorem dL_law_747 : decode cL_law 747 = .ok (.iaload, 1) := dqo adql_10 (q := (747, .iaload, 1)) 29 rfl
theorem dL_law_748 : decode cL_law 748 = .ok (.aload_n 0, 1) := dqo adql_10 (q := (748, .aload_n 0, 1)) 30 rfl
theorem dL_law_749 : decode cL_law 749 = .ok (.iload 4, 2) := dqo adql_10 (q := (749, .iload 4, 2)) 31 rfl
theorem dL_law_751 : decode cL_law 751 = .ok (.iconst 2, 1) := dqo adql_10 (q := (751, .iconst 2, 1)) 32 rfl
theorem dL_law_752 : decode cL_law 752 = .ok (.iadd, 1) := dqo adql_10 (q := (752, .iadd, 1)) 33 rfl
theorem dL_law_753 : decode cL_law 753 = .ok (.iaload, 1) := dqo adql_10 (q := (753, .iaload, 1)) 34 rfl
theorem dL_law_754 : decode cL_law 754 = .ok (.invokevirtual 83, 3) := dqo adql_10 (q := (754, .invokevirtual 83, 3)) 35 rfl
theorem dL_law_757 : decode cL_law 757 = .ok (.pop, 1) := dqo adql_10 (q := (757, .pop, 1)) 36 rfl
theorem dL_law_758 : decode cL_law 758 = .ok (.aload_n 2, 1) := dqo adql_10 (q := (758, .aload_n 2, 1)) 37 rfl
theorem dL_law_759 : decode cL_law 759 = .ok (.aload_n 0, 1) := dqo adql_10 (q := (759, .aload_n 0, 1)) 38 rfl
theorem dL_law_760 : decode cL_law 760 = .ok (.iload 4, 2) := dqo adql_10 (q := (760, .iload 4, 2)) 39 rfl
def dql_11 : List (Nat × Instr × Nat) := [(762, .iconst 1, 1), (763, .iadd, 1), (764, .iaload, 1), (765, .aload_n 0, 1), (766, .iload 4, 2), (768, .iconst 2, 1), (769, .iadd, 1), (770, .iaload, 1), (771, .invokevirtual 86, 3), (774, .pop, 1), (775, .goto 647, 3), (778, .aload_n 1, 1), (779, .aload_n 0, 1), (780, .iload 4, 2), (782, .iconst 1, 1), (783, .iadd, 1), (784, .iaload, 1), (785, .aload_n 0, 1), (786, .iload 4, 2), (788, .iconst 2, 1), (789, .iadd, 1), (790, .iaload, 1), (791, .invokevirtual 87, 3), (794, .pop, 1), (795, .aload_n 2, 1), (796, .aload_n 0, 1), (797, .iload 4, 2), (799, .iconst 1, 1), (800, .iadd, 1), (801, .iaload, 1), (802, .aload_n 0, 1), (803, .iload 4, 2), (805, .iconst 2, 1), (806, .iadd, 1), (807, .iaload, 1), (808, .invokevirtual 90, 3), (811, .pop, 1), (812, .goto 610, 3), (815, .aload_n 1, 1), (816, .invokevirtual 91, 3)]
theorem adql_11 : dql_11.all (fun q => decide (decode cL_law q.1 = .ok (q.2.1, q.2.2))) = true := by decide +kernel
theorem dL_law_762 : decode cL_law 762 = .ok (.iconst 1, 1) := dqo adql_11 (q := (762, .iconst 1, 1)) 0 rfl
theorem dL_law_763 : decode cL_law 763 = .ok (.iadd, 1) := dqo adql_11 (q := (763, .iadd, 1)) 1 rfl
theorem dL_law_764 : decode cL_law 764 = .ok (.iaload, 1) := dqo adql_11 (q := (764, .iaload, 1)) 2 rfl
theorem dL_law_765 : decode cL_law 765 = .ok (.aload_n 0, 1) := dqo adql_11 (q := (765, .aload_n 0, 1)) 3 rfl
theorem dL_law_766 : decode cL_law 766 = .ok (.iload 4, 2) := dqo adql_11 (q := (766, .iload 4, 2)) 4 rfl
theorem dL_law_768 : decode cL_law 768 = .ok (.iconst 2, 1) := dqo adql_11 (q := (768, .iconst 2, 1)) 5 rfl
theorem dL_law_769 : decode cL_law 769 = .ok (.iadd, 1) := dqo adql_11 (q := (769, .iadd, 1)) 6 rfl
theorem dL_law_770 : decode cL_law 770 = .ok (.iaload, 1) := dqo adql_11 (q := (770, .iaload, 1)) 7 rfl
theorem dL_law_771 : decode cL_law 771 = .ok (.invokevirtual 86, 3) := dqo adql_11 (q := (771, .invokevirtual 86, 3)) 8 rfl
theorem dL_law_774 : decode cL_law 774 = .ok (.pop, 1) := dqo adql_11 (q := (774, .pop, 1)) 9 rfl
theorem dL_law_775 : decode cL_law 775 = .ok (.goto 647, 3) := dqo adql_11 (q := (775, .goto 647, 3)) 10 rfl
theorem dL_law_778 : decode cL_law 778 = .ok (.aload_n 1, 1) := dqo adql_11 (q := (778, .aload_n 1, 1)) 11 rfl
theorem dL_law_779 : decode cL_law 779 = .ok (.aload_n 0, 1) := dqo adql_11 (q := (779, .aload_n 0, 1)) 12 rfl
theorem dL_law_780 : decode cL_law 780 = .ok (.iload 4, 2) := dqo adql_11 (q := (780, .iload 4, 2)) 13 rfl
theorem dL_law_782 : decode cL_law 782 = .ok (.iconst 1, 1) := dqo adql_11 (q := (782, .iconst 1, 1)) 14 rfl
theorem dL_law_783 : decode cL_law 783 = .ok (.iadd, 1) := dqo adql_11 (q := (783, .iadd, 1)) 15 rfl
theorem dL_law_784 : decode cL_law 784 = .ok (.iaload, 1) := dqo adql_11 (q := (784, .iaload, 1)) 16 rfl
theorem dL_law_785 : decode cL_law 785 = .ok (.aload_n 0, 1) := dqo adql_11 (q := (785, .aload_n 0, 1)) 17 rfl
theorem dL_law_786 : decode cL_law 786 = .ok (.iload 4, 2) := dqo adql_11 (q := (786, .iload 4, 2)) 18 rfl
theorem dL_law_788 : decode cL_law 788 = .ok (.iconst 2, 1) := dqo adql_11 (q := (788, .iconst 2, 1)) 19 rfl
theorem dL_law_789 : decode cL_law 789 = .ok (.iadd, 1) := dqo adql_11 (q := (789, .iadd, 1)) 20 rfl
theorem dL_law_790 : decode cL_law 790 = .ok (.iaload, 1) := dqo adql_11 (q := (790, .iaload, 1)) 21 rfl
theorem dL_law_791 : decode cL_law 791 = .ok (.invokevirtual 87, 3) := dqo adql_11 (q := (791, .invokevirtual 87, 3)) 22 rfl
theorem dL_law_794 : decode cL_law 794 = .ok (.pop, 1) := dqo adql_11 (q := (794, .pop, 1)) 23 rfl
theorem dL_law_795 : decode cL_law 795 = .ok (.aload_n 2, 1) := dqo adql_11 (q := (795, .aload_n 2, 1)) 24 rfl
theorem dL_law_796 : decode cL_law 796 = .ok (.aload_n 0, 1) := dqo adql_11 (q := (796, .aload_n 0, 1)) 25 rfl
theorem dL_law_797 : decode cL_law 797 = .ok (.iload 4, 2) := dqo adql_11 (q := (797, .iload 4, 2)) 26 rfl
theorem dL_law_799 : decode cL_law 799 = .ok (.iconst 1, 1) := dqo adql_11 (q := (799, .iconst 1, 1)) 27 rfl
theorem dL_law_800 : decode cL_law 800 = .ok (.iadd, 1) := dqo adql_11 (q := (800, .iadd, 1)) 28 rfl
theorem dL_law_801 : decode cL_law 801 = .ok (.iaload, 1) := dqo adql_11 (q := (801, .iaload, 1)) 29 rfl
theorem dL_law_802 : decode cL_law 802 = .ok (.aload_n 0, 1) := dqo adql_11 (q := (802, .aload_n 0, 1)) 30 rfl
theorem dL_law_803 : decode cL_law 803 = .ok (.iload 4, 2) := dqo adql_11 (q := (803, .iload 4, 2)) 31 rfl
theorem dL_law_805 : decode cL_law 805 = .ok (.iconst 2, 1) := dqo adql_11 (q := (805, .iconst 2, 1)) 32 rfl
theorem dL_law_806 : decode cL_law 806 = .ok (.iadd, 1) := dqo adql_11 (q := (806, .iadd, 1)) 33 rfl
theorem dL_law_807 : decode cL_law 807 = .ok (.iaload, 1) := dqo adql_11 (q := (807, .iaload, 1)) 34 rfl
theorem dL_law_808 : decode cL_law 808 = .ok (.invokevirtual 90, 3) := dqo adql_11 (q := (808, .invokevirtual 90, 3)) 35 rfl
theorem dL_law_811 : decode cL_law 811 = .ok (.pop, 1) := dqo adql_11 (q := (811, .pop, 1)) 36 rfl
theorem dL_law_812 : decode cL_law 812 = .ok (.goto 610, 3) := dqo adql_11 (q := (812, .goto 610, 3)) 37 rfl
theorem dL_law_815 : decode cL_law 815 = .ok (.aload_n 1, 1) := dqo adql_11 (q := (815, .aload_n 1, 1)) 38 rfl
theorem dL_law_816 : decode cL_law 816 = .ok (.invokevirtual 91, 3) := dqo adql_11 (q := (816, .invokevirtual 91, 3)) 39 rfl
def dql_12 : List (Nat × Instr × Nat) := [(819, .pop, 1), (820, .aload_n 2, 1), (821, .invokevirtual 94, 3), (824, .pop, 1), (825, .goto 597, 3), (828, .aload_n 1, 1), (829, .aload_n 0, 1), (830, .iload 4, 2), (832, .iconst 1, 1), (833, .iadd, 1), (834, .iaload, 1), (835, .aload_n 0, 1), (836, .iload 4, 2), (838, .iconst 2, 1), (839, .iadd, 1), (840, .iaload, 1), (841, .invokevirtual 95, 3), (844, .pop, 1), (845, .aload_n 2, 1), (846, .aload_n 0, 1), (847, .iload 4, 2), (849, .iconst 1, 1), (850, .iadd, 1), (851, .iaload, 1), (852, .aload_n 0, 1), (853, .iload 4, 2), (855, .iconst 2, 1), (856, .iadd, 1), (857, .iaload, 1), (858, .invokevirtual 98, 3), (861, .pop, 1), (862, .goto 560, 3), (865, .aload_n 1, 1), (866, .aload_n 0, 1), (867, .iload 4, 2), (869, .iconst 1, 1), (870, .iadd, 1), (871, .iaload, 1), (872, .aload_n 0, 1), (873, .iload 4, 2)]
theorem adql_12 : dql_12.all (fun q => decide (decode cL_law q.1 = .ok (q.2.1, q.2.2))) = true := by decide +kernel
theorem dL_law_819 : decode cL_law 819 = .ok (.pop, 1) := dqo adql_12 (q := (819, .pop, 1)) 0 rfl
theorem dL_law_820 : decode cL_law 820 = .ok (.aload_n 2, 1) := dqo adql_12 (q := (820, .aload_n 2, 1)) 1 rfl
theorem dL_law_821 : decode cL_law 821 = .ok (.invokevirtual 94, 3) := dqo adql_12 (q := (821, .invokevirtual 94, 3)) 2 rfl
theorem dL_law_824 : decode cL_law 824 = .ok (.pop, 1) := dqo adql_12 (q := (824, .pop, 1)) 3 rfl
theorem dL_law_825 : decode cL_law 825 = .ok (.goto 597, 3) := dqo adql_12 (q := (825, .goto 597, 3)) 4 rfl
theorem dL_law_828 : decode cL_law 828 = .ok (.aload_n 1, 1) := dqo adql_12 (q := (828, .aload_n 1, 1)) 5 rfl
theorem dL_law_829 : decode cL_law 829 = .ok (.aload_n 0, 1) := dqo adql_12 (q := (829, .aload_n 0, 1)) 6 rfl
theorem dL_law_830 : decode cL_law 830 = .ok (.iload 4, 2) := dqo adql_12 (q := (830, .iload 4, 2)) 7 rfl
theorem dL_law_832 : decode cL_law 832 = .ok (.iconst 1, 1) := dqo adql_12 (q := (832, .iconst 1, 1)) 8 rfl
theorem dL_law_833 : decode cL_law 833 = .ok (.iadd, 1) := dqo adql_12 (q := (833, .iadd, 1)) 9 rfl
theorem dL_law_834 : decode cL_law 834 = .ok (.iaload, 1) := dqo adql_12 (q := (834, .iaload, 1)) 10 rfl
theorem dL_law_835 : decode cL_law 835 = .ok (.aload_n 0, 1) := dqo adql_12 (q := (835, .aload_n 0, 1)) 11 rfl
theorem dL_law_836 : decode cL_law 836 = .ok (.iload 4, 2) := dqo adql_12 (q := (836, .iload 4, 2)) 12 rfl
theorem dL_law_838 : decode cL_law 838 = .ok (.iconst 2, 1) := dqo adql_12 (q := (838, .iconst 2, 1)) 13 rfl
theorem dL_law_839 : decode cL_law 839 = .ok (.iadd, 1) := dqo adql_12 (q := (839, .iadd, 1)) 14 rfl
theorem dL_law_840 : decode cL_law 840 = .ok (.iaload, 1) := dqo adql_12 (q := (840, .iaload, 1)) 15 rfl
theorem dL_law_841 : decode cL_law 841 = .ok (.invokevirtual 95, 3) := dqo adql_12 (q := (841, .invokevirtual 95, 3)) 16 rfl
theorem dL_law_844 : decode cL_law 844 = .ok (.pop, 1) := dqo adql_12 (q := (844, .pop, 1)) 17 rfl
theorem dL_law_845 : decode cL_law 845 = .ok (.aload_n 2, 1) := dqo adql_12 (q := (845, .aload_n 2, 1)) 18 rfl
theorem dL_law_846 : decode cL_law 846 = .ok (.aload_n 0, 1) := dqo adql_12 (q := (846, .aload_n 0, 1)) 19 rfl
theorem dL_law_847 : decode cL_law 847 = .ok (.iload 4, 2) := dqo adql_12 (q := (847, .iload 4, 2)) 20 rfl
theorem dL_law_849 : decode cL_law 849 = .ok (.iconst 1, 1) := dqo adql_12 (q := (849, .iconst 1, 1)) 21 rfl
theorem dL_law_850 : decode cL_law 850 = .ok (.iadd, 1) := dqo adql_12 (q := (850, .iadd, 1)) 22 rfl
theorem dL_law_851 : decode cL_law 851 = .ok (.iaload, 1) := dqo adql_12 (q := (851, .iaload, 1)) 23 rfl
theorem dL_law_852 : decode cL_law 852 = .ok (.aload_n 0, 1) := dqo adql_12 (q := (852, .aload_n 0, 1)) 24 rfl
theorem dL_law_853 : decode cL_law 853 = .ok (.iload 4, 2) := dqo adql_12 (q := (853, .iload 4, 2)) 25 rfl
theorem dL_law_855 : decode cL_law 855 = .ok (.iconst 2, 1) := dqo adql_12 (q := (855, .iconst 2, 1)) 26 rfl
theorem dL_law_856 : decode cL_law 856 = .ok (.iadd, 1) := dqo adql_12 (q := (856, .iadd, 1)) 27 rfl
theorem dL_law_857 : decode cL_law 857 = .ok (.iaload, 1) := dqo adql_12 (q := (857, .iaload, 1)) 28 rfl
theorem dL_law_858 : decode cL_law 858 = .ok (.invokevirtual 98, 3) := dqo adql_12 (q := (858, .invokevirtual 98, 3)) 29 rfl
theorem dL_law_861 : decode cL_law 861 = .ok (.pop, 1) := dqo adql_12 (q := (861, .pop, 1)) 30 rfl
theorem dL_law_862 : decode cL_law 862 = .ok (.goto 560, 3) := dqo adql_12 (q := (862, .goto 560, 3)) 31 rfl
theorem dL_law_865 : decode cL_law 865 = .ok (.aload_n 1, 1) := dqo adql_12 (q := (865, .aload_n 1, 1)) 32 rfl
theorem dL_law_866 : decode cL_law 866 = .ok (.aload_n 0, 1) := dqo adql_12 (q := (866, .aload_n 0, 1)) 33 rfl
theorem dL_law_867 : decode cL_law 867 = .ok (.iload 4, 2) := dqo adql_12 (q := (867, .iload 4, 2)) 34 rfl
theorem dL_law_869 : decode cL_law 869 = .ok (.iconst 1, 1) := dqo adql_12 (q := (869, .iconst 1, 1)) 35 rfl
theorem dL_law_870 : decode cL_law 870 = .ok (.iadd, 1) := dqo adql_12 (q := (870, .iadd, 1)) 36 rfl
theorem dL_law_871 : decode cL_law 871 = .ok (.iaload, 1) := dqo adql_12 (q := (871, .iaload, 1)) 37 rfl
theorem dL_law_872 : decode cL_law 872 = .ok (.aload_n 0, 1) := dqo adql_12 (q := (872, .aload_n 0, 1)) 38 rfl
theorem dL_law_873 : decode cL_law 873 = .ok (.iload 4, 2) := dqo adql_12 (q := (873, .iload 4, 2)) 39 rfl
def dql_13 : List (Nat × Instr × Nat) := [(875, .iconst 2, 1), (876, .iadd, 1), (877, .iaload, 1), (878, .aload_n 0, 1), (879, .iload 4, 2), (881, .iconst 3, 1), (882, .iadd, 1), (883, .iaload, 1), (884, .invokevirtual 99, 3), (887, .pop, 1), (888, .aload_n 2, 1), (889, .aload_n 0, 1), (890, .iload 4, 2), (892, .iconst 1, 1), (893, .iadd, 1), (894, .iaload, 1), (895, .aload_n 0, 1), (896, .iload 4, 2), (898, .iconst 2, 1), (899, .iadd, 1), (900, .iaload, 1), (901, .aload_n 0, 1), (902, .iload 4, 2), (904, .iconst 3, 1), (905, .iadd, 1), (906, .iaload, 1), (907, .invokevirtual 102, 3), (910, .pop, 1), (911, .goto 511, 3), (914, .aload_n 1, 1), (915, .aload_n 0, 1), (916, .iload 4, 2), (918, .iconst 1, 1), (919, .iadd, 1), (920, .iaload, 1), (921, .aload_n 0, 1), (922, .iload 4, 2), (924, .iconst 2, 1), (925, .iadd, 1), (926, .iaload, 1)]
theorem adql_13 : dql_13.all (fun q => decide (decode cL_law q.1 = .ok (q.2.1, q.2.2))) = true := by decide +kernel
theorem dL_law_875 : decode cL_law 875 = .ok (.iconst 2, 1) := dqo adql_13 (q := (875, .iconst 2, 1)) 0 rfl
theorem dL_law_876 : decode cL_law 876 = .ok (.iadd, 1) := dqo adql_13 (q := (876, .iadd, 1)) 1 rfl
theorem dL_law_877 : decode cL_law 877 = .ok (.iaload, 1) := dqo adql_13 (q := (877, .iaload, 1)) 2 rfl
theorem dL_law_878 : decode cL_law 878 = .ok (.aload_n 0, 1) := dqo adql_13 (q := (878, .aload_n 0, 1)) 3 rfl
theorem dL_law_879 : decode cL_law 879 = .ok (.iload 4, 2) := dqo adql_13 (q := (879, .iload 4, 2)) 4 rfl
theorem dL_law_881 : decode cL_law 881 = .ok (.iconst 3, 1) := dqo adql_13 (q := (881, .iconst 3, 1)) 5 rfl
theorem dL_law_882 : decode cL_law 882 = .ok (.iadd, 1) := dqo adql_13 (q := (882, .iadd, 1)) 6 rfl
theorem dL_law_883 : decode cL_law 883 = .ok (.iaload, 1) := dqo adql_13 (q := (883, .iaload, 1)) 7 rfl
theorem dL_law_884 : decode cL_law 884 = .ok (.invokevirtual 99, 3) := dqo adql_13 (q := (884, .invokevirtual 99, 3)) 8 rfl
theorem dL_law_887 : decode cL_law 887 = .ok (.pop, 1) := dqo adql_13 (q := (887, .pop, 1)) 9 rfl
theorem dL_law_888 : decode cL_law 888 = .ok (.aload_n 2, 1) := dqo adql_13 (q := (888, .aload_n 2, 1)) 10 rfl
theorem dL_law_889 : decode cL_law 889 = .ok (.aload_n 0, 1) := dqo adql_13 (q := (889, .aload_n 0, 1)) 11 rfl
theorem dL_law_890 : decode cL_law 890 = .ok (.iload 4, 2) := dqo adql_13 (q := (890, .iload 4, 2)) 12 rfl
theorem dL_law_892 : decode cL_law 892 = .ok (.iconst 1, 1) := dqo adql_13 (q := (892, .iconst 1, 1)) 13 rfl
theorem dL_law_893 : decode cL_law 893 = .ok (.iadd, 1) := dqo adql_13 (q := (893, .iadd, 1)) 14 rfl
theorem dL_law_894 : decode cL_law 894 = .ok (.iaload, 1) := dqo adql_13 (q := (894, .iaload, 1)) 15 rfl
theorem dL_law_895 : decode cL_law 895 = .ok (.aload_n 0, 1) := dqo adql_13 (q := (895, .aload_n 0, 1)) 16 rfl
theorem dL_law_896 : decode cL_law 896 = .ok (.iload 4, 2) := dqo adql_13 (q := (896, .iload 4, 2)) 17 rfl
theorem dL_law_898 : decode cL_law 898 = .ok (.iconst 2, 1) := dqo adql_13 (q := (898, .iconst 2, 1)) 18 rfl
theorem dL_law_899 : decode cL_law 899 = .ok (.iadd, 1) := dqo adql_13 (q := (899, .iadd, 1)) 19 rfl
theorem dL_law_900 : decode cL_law 900 = .ok (.iaload, 1) := dqo adql_13 (q := (900, .iaload, 1)) 20 rfl
theorem dL_law_901 : decode cL_law 901 = .ok (.aload_n 0, 1) := dqo adql_13 (q := (901, .aload_n 0, 1)) 21 rfl
theorem dL_law_902 : decode cL_law 902 = .ok (.iload 4, 2) := dqo adql_13 (q := (902, .iload 4, 2)) 22 rfl
theorem dL_law_904 : decode cL_law 904 = .ok (.iconst 3, 1) := dqo adql_13 (q := (904, .iconst 3, 1)) 23 rfl
theorem dL_law_905 : decode cL_law 905 = .ok (.iadd, 1) := dqo adql_13 (q := (905, .iadd, 1)) 24 rfl
theorem dL_law_906 : decode cL_law 906 = .ok (.iaload, 1) := dqo adql_13 (q := (906, .iaload, 1)) 25 rfl
theorem dL_law_907 : decode cL_law 907 = .ok (.invokevirtual 102, 3) := dqo adql_13 (q := (907, .invokevirtual 102, 3)) 26 rfl
theorem dL_law_910 : decode cL_law 910 = .ok (.pop, 1) := dqo adql_13 (q := (910, .pop, 1)) 27 rfl
theorem dL_law_911 : decode cL_law 911 = .ok (.goto 511, 3) := dqo adql_13 (q := (911, .goto 511, 3)) 28 rfl
theorem dL_law_914 : decode cL_law 914 = .ok (.aload_n 1, 1) := dqo adql_13 (q := (914, .aload_n 1, 1)) 29 rfl
theorem dL_law_915 : decode cL_law 915 = .ok (.aload_n 0, 1) := dqo adql_13 (q := (915, .aload_n 0, 1)) 30 rfl
theorem dL_law_916 : decode cL_law 916 = .ok (.iload 4, 2) := dqo adql_13 (q := (916, .iload 4, 2)) 31 rfl
theorem dL_law_918 : decode cL_law 918 = .ok (.iconst 1, 1) := dqo adql_13 (q := (918, .iconst 1, 1)) 32 rfl
theorem dL_law_919 : decode cL_law 919 = .ok (.iadd, 1) := dqo adql_13 (q := (919, .iadd, 1)) 33 rfl
theorem dL_law_920 : decode cL_law 920 = .ok (.iaload, 1) := dqo adql_13 (q := (920, .iaload, 1)) 34 rfl
theorem dL_law_921 : decode cL_law 921 = .ok (.aload_n 0, 1) := dqo adql_13 (q := (921, .aload_n 0, 1)) 35 rfl
theorem dL_law_922 : decode cL_law 922 = .ok (.iload 4, 2) := dqo adql_13 (q := (922, .iload 4, 2)) 36 rfl
theorem dL_law_924 : decode cL_law 924 = .ok (.iconst 2, 1) := dqo adql_13 (q := (924, .iconst 2, 1)) 37 rfl
theorem dL_law_925 : decode cL_law 925 = .ok (.iadd, 1) := dqo adql_13 (q := (925, .iadd, 1)) 38 rfl
theorem dL_law_926 : decode cL_law 926 = .ok (.iaload, 1) := dqo adql_13 (q := (926, .iaload, 1)) 39 rfl
def dql_14 : List (Nat × Instr × Nat) := [(927, .aload_n 0, 1), (928, .iload 4, 2), (930, .iconst 3, 1), (931, .iadd, 1), (932, .iaload, 1), (933, .invokevirtual 103, 3), (936, .pop, 1), (937, .aload_n 2, 1), (938, .aload_n 0, 1), (939, .iload 4, 2), (941, .iconst 1, 1), (942, .iadd, 1), (943, .iaload, 1), (944, .aload_n 0, 1), (945, .iload 4, 2), (947, .iconst 2, 1), (948, .iadd, 1), (949, .iaload, 1), (950, .aload_n 0, 1), (951, .iload 4, 2), (953, .iconst 3, 1), (954, .iadd, 1), (955, .iaload, 1), (956, .invokevirtual 106, 3), (959, .pop, 1), (960, .goto 462, 3), (963, .aload_n 1, 1), (964, .aload_n 0, 1), (965, .iload 4, 2), (967, .iconst 1, 1), (968, .iadd, 1), (969, .iaload, 1), (970, .invokevirtual 107, 3), (973, .pop, 1), (974, .aload_n 2, 1), (975, .aload_n 0, 1), (976, .iload 4, 2), (978, .iconst 1, 1), (979, .iadd, 1), (980, .iaload, 1)]
theorem adql_14 : dql_14.all (fun q => decide (decode cL_law q.1 = .ok (q.2.1, q.2.2))) = true := by decide +kernel
theorem dL_law_927 : decode cL_law 927 = .ok (.aload_n 0, 1) := dqo adql_14 (q := (927, .aload_n 0, 1)) 0 rfl
theorem dL_law_928 : decode cL_law 928 = .ok (.iload 4, 2) := dqo adql_14 (q := (928, .iload 4, 2)) 1 rfl
theorem dL_law_930 : decode cL_law 930 = .ok (.iconst 3, 1) := dqo adql_14 (q := (930, .iconst 3, 1)) 2 rfl
theorem dL_law_931 : decode cL_law 931 = .ok (.iadd, 1) := dqo adql_14 (q := (931, .iadd, 1)) 3 rfl
theorem dL_law_932 : decode cL_law 932 = .ok (.iaload, 1) := dqo adql_14 (q := (932, .iaload, 1)) 4 rfl
theorem dL_law_933 : decode cL_law 933 = .ok (.invokevirtual 103, 3) := dqo adql_14 (q := (933, .invokevirtual 103, 3)) 5 rfl
theorem dL_law_936 : decode cL_law 936 = .ok (.pop, 1) := dqo adql_14 (q := (936, .pop, 1)) 6 rfl
theorem dL_law_937 : decode cL_law 937 = .ok (.aload_n 2, 1) := dqo adql_14 (q := (937, .aload_n 2, 1)) 7 rfl
theorem dL_law_938 : decode cL_law 938 = .ok (.aload_n 0, 1) := dqo adql_14 (q := (938, .aload_n 0, 1)) 8 rfl
theorem dL_law_939 : decode cL_law 939 = .ok (.iload 4, 2) := dqo adql_14 (q := (939, .iload 4, 2)) 9 rfl
theorem dL_law_941 : decode cL_law 941 = .ok (.iconst 1, 1) := dqo adql_14 (q := (941, .iconst 1, 1)) 10 rfl
theorem dL_law_942 : decode cL_law 942 = .ok (.iadd, 1) := dqo adql_14 (q := (942, .iadd, 1)) 11 rfl
theorem dL_law_943 : decode cL_law 943 = .ok (.iaload, 1) := dqo adql_14 (q := (943, .iaload, 1)) 12 rfl
theorem dL_law_944 : decode cL_law 944 = .ok (.aload_n 0, 1) := dqo adql_14 (q := (944, .aload_n 0, 1)) 13 rfl
theorem dL_law_945 : decode cL_law 945 = .ok (.iload 4, 2) := dqo adql_14 (q := (945, .iload 4, 2)) 14 rfl
theorem dL_law_947 : decode cL_law 947 = .ok (.iconst 2, 1) := dqo adql_14 (q := (947, .iconst 2, 1)) 15 rfl
theorem dL_law_948 : decode cL_law 948 = .ok (.iadd, 1) := dqo adql_14 (q := (948, .iadd, 1)) 16 rfl
theorem dL_law_949 : decode cL_law 949 = .ok (.iaload, 1) := dqo adql_14 (q := (949, .iaload, 1)) 17 rfl
theorem dL_law_950 : decode cL_law 950 = .ok (.aload_n 0, 1) := dqo adql_14 (q := (950, .aload_n 0, 1)) 18 rfl
theorem dL_law_951 : decode cL_law 951 = .ok (.iload 4, 2) := dqo adql_14 (q := (951, .iload 4, 2)) 19 rfl
theorem dL_law_953 : decode cL_law 953 = .ok (.iconst 3, 1) := dqo adql_14 (q := (953, .iconst 3, 1)) 20 rfl
theorem dL_law_954 : decode cL_law 954 = .ok (.iadd, 1) := dqo adql_14 (q := (954, .iadd, 1)) 21 rfl
theorem dL_law_955 : decode cL_law 955 = .ok (.iaload, 1) := dqo adql_14 (q := (955, .iaload, 1)) 22 rfl
theorem dL_law_956 : decode cL_law 956 = .ok (.invokevirtual 106, 3) := dqo adql_14 (q := (956, .invokevirtual 106, 3)) 23 rfl
theorem dL_law_959 : decode cL_law 959 = .ok (.pop, 1) := dqo adql_14 (q := (959, .pop, 1)) 24 rfl
theorem dL_law_960 : decode cL_law 960 = .ok (.goto 462, 3) := dqo adql_14 (q := (960, .goto 462, 3)) 25 rfl
theorem dL_law_963 : decode cL_law 963 = .ok (.aload_n 1, 1) := dqo adql_14 (q := (963, .aload_n 1, 1)) 26 rfl
theorem dL_law_964 : decode cL_law 964 = .ok (.aload_n 0, 1) := dqo adql_14 (q := (964, .aload_n 0, 1)) 27 rfl
theorem dL_law_965 : decode cL_law 965 = .ok (.iload 4, 2) := dqo adql_14 (q := (965, .iload 4, 2)) 28 rfl
theorem dL_law_967 : decode cL_law 967 = .ok (.iconst 1, 1) := dqo adql_14 (q := (967, .iconst 1, 1)) 29 rfl
theorem dL_law_968 : decode cL_law 968 = .ok (.iadd, 1) := dqo adql_14 (q := (968, .iadd, 1)) 30 rfl
theorem dL_law_969 : decode cL_law 969 = .ok (.iaload, 1) := dqo adql_14 (q := (969, .iaload, 1)) 31 rfl
theorem dL_law_970 : decode cL_law 970 = .ok (.invokevirtual 107, 3) := dqo adql_14 (q := (970, .invokevirtual 107, 3)) 32 rfl
theorem dL_law_973 : decode cL_law 973 = .ok (.pop, 1) := dqo adql_14 (q := (973, .pop, 1)) 33 rfl
theorem dL_law_974 : decode cL_law 974 = .ok (.aload_n 2, 1) := dqo adql_14 (q := (974, .aload_n 2, 1)) 34 rfl
theorem dL_law_975 : decode cL_law 975 = .ok (.aload_n 0, 1) := dqo adql_14 (q := (975, .aload_n 0, 1)) 35 rfl
theorem dL_law_976 : decode cL_law 976 = .ok (.iload 4, 2) := dqo adql_14 (q := (976, .iload 4, 2)) 36 rfl
theorem dL_law_978 : decode cL_law 978 = .ok (.iconst 1, 1) := dqo adql_14 (q := (978, .iconst 1, 1)) 37 rfl
theorem dL_law_979 : decode cL_law 979 = .ok (.iadd, 1) := dqo adql_14 (q := (979, .iadd, 1)) 38 rfl
theorem dL_law_980 : decode cL_law 980 = .ok (.iaload, 1) := dqo adql_14 (q := (980, .iaload, 1)) 39 rfl
def dql_15 : List (Nat × Instr × Nat) := [(981, .invokevirtual 110, 3), (984, .pop, 1), (985, .goto 437, 3), (988, .aload_n 1, 1), (989, .aload_n 0, 1), (990, .iload 4, 2), (992, .iconst 1, 1), (993, .iadd, 1), (994, .iaload, 1), (995, .invokevirtual 111, 3), (998, .pop, 1), (999, .aload_n 2, 1), (1000, .aload_n 0, 1), (1001, .iload 4, 2), (1003, .iconst 1, 1), (1004, .iadd, 1), (1005, .iaload, 1), (1006, .invokevirtual 114, 3), (1009, .pop, 1), (1010, .goto 412, 3), (1013, .aload_n 1, 1), (1014, .aload_n 0, 1), (1015, .iload 4, 2), (1017, .iconst 1, 1), (1018, .iadd, 1), (1019, .iaload, 1), (1020, .invokevirtual 115, 3), (1023, .pop, 1), (1024, .aload_n 2, 1), (1025, .aload_n 0, 1), (1026, .iload 4, 2), (1028, .iconst 1, 1), (1029, .iadd, 1), (1030, .iaload, 1), (1031, .invokevirtual 118, 3), (1034, .pop, 1), (1035, .goto 387, 3), (1038, .aload_n 1, 1), (1039, .aload_n 0, 1), (1040, .iload 4, 2)]
theorem adql_15 : dql_15.all (fun q => decide (decode cL_law q.1 = .ok (q.2.1, q.2.2))) = true := by decide +kernel
theorem dL_law_981 : decode cL_law 981 = .ok (.invokevirtual 110, 3) := dqo adql_15 (q := (981, .invokevirtual 110, 3)) 0 rfl
theorem dL_law_984 : decode cL_law 984 = .ok (.pop, 1) := dqo adql_15 (q := (984, .pop, 1)) 1 rfl
theorem dL_law_985 : decode cL_law 985 = .ok (.goto 437, 3) := dqo adql_15 (q := (985, .goto 437, 3)) 2 rfl
theorem dL_law_988 : decode cL_law 988 = .ok (.aload_n 1, 1) := dqo adql_15 (q := (988, .aload_n 1, 1)) 3 rfl
theorem dL_law_989 : decode cL_law 989 = .ok (.aload_n 0, 1) := dqo adql_15 (q := (989, .aload_n 0, 1)) 4 rfl
theorem dL_law_990 : decode cL_law 990 = .ok (.iload 4, 2) := dqo adql_15 (q := (990, .iload 4, 2)) 5 rfl
theorem dL_law_992 : decode cL_law 992 = .ok (.iconst 1, 1) := dqo adql_15 (q := (992, .iconst 1, 1)) 6 rfl
theorem dL_law_993 : decode cL_law 993 = .ok (.iadd, 1) := dqo adql_15 (q := (993, .iadd, 1)) 7 rfl
theorem dL_law_994 : decode cL_law 994 = .ok (.iaload, 1) := dqo adql_15 (q := (994, .iaload, 1)) 8 rfl
theorem dL_law_995 : decode cL_law 995 = .ok (.invokevirtual 111, 3) := dqo adql_15 (q := (995, .invokevirtual 111, 3)) 9 rfl
theorem dL_law_998 : decode cL_law 998 = .ok (.pop, 1) := dqo adql_15 (q := (998, .pop, 1)) 10 rfl
theorem dL_law_999 : decode cL_law 999 = .ok (.aload_n 2, 1) := dqo adql_15 (q := (999, .aload_n 2, 1)) 11 rfl
theorem dL_law_1000 : decode cL_law 1000 = .ok (.aload_n 0, 1) := dqo adql_15 (q := (1000, .aload_n 0, 1)) 12 rfl
theorem dL_law_1001 : decode cL_law 1001 = .ok (.iload 4, 2) := dqo adql_15 (q := (1001, .iload 4, 2)) 13 rfl
theorem dL_law_1003 : decode cL_law 1003 = .ok (.iconst 1, 1) := dqo adql_15 (q := (1003, .iconst 1, 1)) 14 rfl
theorem dL_law_1004 : decode cL_law 1004 = .ok (.iadd, 1) := dqo adql_15 (q := (1004, .iadd, 1)) 15 rfl
theorem dL_law_1005 : decode cL_law 1005 = .ok (.iaload, 1) := dqo adql_15 (q := (1005, .iaload, 1)) 16 rfl
theorem dL_law_1006 : decode cL_law 1006 = .ok (.invokevirtual 114, 3) := dqo adql_15 (q := (1006, .invokevirtual 114, 3)) 17 rfl
theorem dL_law_1009 : decode cL_law 1009 = .ok (.pop, 1) := dqo adql_15 (q := (1009, .pop, 1)) 18 rfl
theorem dL_law_1010 : decode cL_law 1010 = .ok (.goto 412, 3) := dqo adql_15 (q := (1010, .goto 412, 3)) 19 rfl
theorem dL_law_1013 : decode cL_law 1013 = .ok (.aload_n 1, 1) := dqo adql_15 (q := (1013, .aload_n 1, 1)) 20 rfl
theorem dL_law_1014 : decode cL_law 1014 = .ok (.aload_n 0, 1) := dqo adql_15 (q := (1014, .aload_n 0, 1)) 21 rfl
theorem dL_law_1015 : decode cL_law 1015 = .ok (.iload 4, 2) := dqo adql_15 (q := (1015, .iload 4, 2)) 22 rfl
theorem dL_law_1017 : decode cL_law 1017 = .ok (.iconst 1, 1) := dqo adql_15 (q := (1017, .iconst 1, 1)) 23 rfl
theorem dL_law_1018 : decode cL_law 1018 = .ok (.iadd, 1) := dqo adql_15 (q := (1018, .iadd, 1)) 24 rfl
theorem dL_law_1019 : decode cL_law 1019 = .ok (.iaload, 1) := dqo adql_15 (q := (1019, .iaload, 1)) 25 rfl
theorem dL_law_1020 : decode cL_law 1020 = .ok (.invokevirtual 115, 3) := dqo adql_15 (q := (1020, .invokevirtual 115, 3)) 26 rfl
theorem dL_law_1023 : decode cL_law 1023 = .ok (.pop, 1) := dqo adql_15 (q := (1023, .pop, 1)) 27 rfl
theorem dL_law_1024 : decode cL_law 1024 = .ok (.aload_n 2, 1) := dqo adql_15 (q := (1024, .aload_n 2, 1)) 28 rfl
theorem dL_law_1025 : decode cL_law 1025 = .ok (.aload_n 0, 1) := dqo adql_15 (q := (1025, .aload_n 0, 1)) 29 rfl
theorem dL_law_1026 : decode cL_law 1026 = .ok (.iload 4, 2) := dqo adql_15 (q := (1026, .iload 4, 2)) 30 rfl
theorem dL_law_1028 : decode cL_law 1028 = .ok (.iconst 1, 1) := dqo adql_15 (q := (1028, .iconst 1, 1)) 31 rfl
theorem dL_law_1029 : decode cL_law 1029 = .ok (.iadd, 1) := dqo adql_15 (q := (1029, .iadd, 1)) 32 rfl
theorem dL_law_1030 : decode cL_law 1030 = .ok (.iaload, 1) := dqo adql_15 (q := (1030, .iaload, 1)) 33 rfl
theorem dL_law_1031 : decode cL_law 1031 = .ok (.invokevirtual 118, 3) := dqo adql_15 (q := (1031, .invokevirtual 118, 3)) 34 rfl
theorem dL_law_1034 : decode cL_law 1034 = .ok (.pop, 1) := dqo adql_15 (q := (1034, .pop, 1)) 35 rfl
theorem dL_law_1035 : decode cL_law 1035 = .ok (.goto 387, 3) := dqo adql_15 (q := (1035, .goto 387, 3)) 36 rfl
theorem dL_law_1038 : decode cL_law 1038 = .ok (.aload_n 1, 1) := dqo adql_15 (q := (1038, .aload_n 1, 1)) 37 rfl
theorem dL_law_1039 : decode cL_law 1039 = .ok (.aload_n 0, 1) := dqo adql_15 (q := (1039, .aload_n 0, 1)) 38 rfl
theorem dL_law_1040 : decode cL_law 1040 = .ok (.iload 4, 2) := dqo adql_15 (q := (1040, .iload 4, 2)) 39 rfl
def dql_16 : List (Nat × Instr × Nat) := [(1042, .iconst 1, 1), (1043, .iadd, 1), (1044, .iaload, 1), (1045, .invokevirtual 119, 3), (1048, .pop, 1), (1049, .aload_n 2, 1), (1050, .aload_n 0, 1), (1051, .iload 4, 2), (1053, .iconst 1, 1), (1054, .iadd, 1), (1055, .iaload, 1), (1056, .invokevirtual 123, 3), (1059, .pop, 1), (1060, .goto 362, 3), (1063, .aload_n 1, 1), (1064, .invokevirtual 124, 3), (1067, .pop, 1), (1068, .aload_n 2, 1), (1069, .invokevirtual 127, 3), (1072, .pop, 1), (1073, .goto 349, 3), (1076, .aload_n 1, 1), (1077, .aload_n 0, 1), (1078, .iload 4, 2), (1080, .iconst 1, 1), (1081, .iadd, 1), (1082, .iaload, 1), (1083, .aload_n 0, 1), (1084, .iload 4, 2), (1086, .iconst 2, 1), (1087, .iadd, 1), (1088, .iaload, 1), (1089, .invokevirtual 128, 3), (1092, .pop, 1), (1093, .aload_n 2, 1), (1094, .aload_n 0, 1), (1095, .iload 4, 2), (1097, .iconst 1, 1), (1098, .iadd, 1), (1099, .iaload, 1)]
theorem adql_16 : dql_16.all (fun q => decide (decode cL_law q.1 = .ok (q.2.1, q.2.2))) = true := by decide +kernel
theorem dL_law_1042 : decode cL_law 1042 = .ok (.iconst 1, 1) := dqo adql_16 (q := (1042, .iconst 1, 1)) 0 rfl
theorem dL_law_1043 : decode cL_law 1043 = .ok (.iadd, 1) := dqo adql_16 (q := (1043, .iadd, 1)) 1 rfl
theorem dL_law_1044 : decode cL_law 1044 = .ok (.iaload, 1) := dqo adql_16 (q := (1044, .iaload, 1)) 2 rfl
theorem dL_law_1045 : decode cL_law 1045 = .ok (.invokevirtual 119, 3) := dqo adql_16 (q := (1045, .invokevirtual 119, 3)) 3 rfl
theorem dL_law_1048 : decode cL_law 1048 = .ok (.pop, 1) := dqo adql_16 (q := (1048, .pop, 1)) 4 rfl
theorem dL_law_1049 : decode cL_law 1049 = .ok (.aload_n 2, 1) := dqo adql_16 (q := (1049, .aload_n 2, 1)) 5 rfl
theorem dL_law_1050 : decode cL_law 1050 = .ok (.aload_n 0, 1) := dqo adql_16 (q := (1050, .aload_n 0, 1)) 6 rfl
theorem dL_law_1051 : decode cL_law 1051 = .ok (.iload 4, 2) := dqo adql_16 (q := (1051, .iload 4, 2)) 7 rfl
theorem dL_law_1053 : decode cL_law 1053 = .ok (.iconst 1, 1) := dqo adql_16 (q := (1053, .iconst 1, 1)) 8 rfl
theorem dL_law_1054 : decode cL_law 1054 = .ok (.iadd, 1) := dqo adql_16 (q := (1054, .iadd, 1)) 9 rfl
theorem dL_law_1055 : decode cL_law 1055 = .ok (.iaload, 1) := dqo adql_16 (q := (1055, .iaload, 1)) 10 rfl
theorem dL_law_1056 : decode cL_law 1056 = .ok (.invokevirtual 123, 3) := dqo adql_16 (q := (1056, .invokevirtual 123, 3)) 11 rfl
theorem dL_law_1059 : decode cL_law 1059 = .ok (.pop, 1) := dqo adql_16 (q := (1059, .pop, 1)) 12 rfl
theorem dL_law_1060 : decode cL_law 1060 = .ok (.goto 362, 3) := dqo adql_16 (q := (1060, .goto 362, 3)) 13 rfl
theorem dL_law_1063 : decode cL_law 1063 = .ok (.aload_n 1, 1) := dqo adql_16 (q := (1063, .aload_n 1, 1)) 14 rfl
theorem dL_law_1064 : decode cL_law 1064 = .ok (.invokevirtual 124, 3) := dqo adql_16 (q := (1064, .invokevirtual 124, 3)) 15 rfl
theorem dL_law_1067 : decode cL_law 1067 = .ok (.pop, 1) := dqo adql_16 (q := (1067, .pop, 1)) 16 rfl
theorem dL_law_1068 : decode cL_law 1068 = .ok (.aload_n 2, 1) := dqo adql_16 (q := (1068, .aload_n 2, 1)) 17 rfl
theorem dL_law_1069 : decode cL_law 1069 = .ok (.invokevirtual 127, 3) := dqo adql_16 (q := (1069, .invokevirtual 127, 3)) 18 rfl
theorem dL_law_1072 : decode cL_law 1072 = .ok (.pop, 1) := dqo adql_16 (q := (1072, .pop, 1)) 19 rfl
theorem dL_law_1073 : decode cL_law 1073 = .ok (.goto 349, 3) := dqo adql_16 (q := (1073, .goto 349, 3)) 20 rfl
theorem dL_law_1076 : decode cL_law 1076 = .ok (.aload_n 1, 1) := dqo adql_16 (q := (1076, .aload_n 1, 1)) 21 rfl
theorem dL_law_1077 : decode cL_law 1077 = .ok (.aload_n 0, 1) := dqo adql_16 (q := (1077, .aload_n 0, 1)) 22 rfl
theorem dL_law_1078 : decode cL_law 1078 = .ok (.iload 4, 2) := dqo adql_16 (q := (1078, .iload 4, 2)) 23 rfl
theorem dL_law_1080 : decode cL_law 1080 = .ok (.iconst 1, 1) := dqo adql_16 (q := (1080, .iconst 1, 1)) 24 rfl
theorem dL_law_1081 : decode cL_law 1081 = .ok (.iadd, 1) := dqo adql_16 (q := (1081, .iadd, 1)) 25 rfl
theorem dL_law_1082 : decode cL_law 1082 = .ok (.iaload, 1) := dqo adql_16 (q := (1082, .iaload, 1)) 26 rfl
theorem dL_law_1083 : decode cL_law 1083 = .ok (.aload_n 0, 1) := dqo adql_16 (q := (1083, .aload_n 0, 1)) 27 rfl
theorem dL_law_1084 : decode cL_law 1084 = .ok (.iload 4, 2) := dqo adql_16 (q := (1084, .iload 4, 2)) 28 rfl
theorem dL_law_1086 : decode cL_law 1086 = .ok (.iconst 2, 1) := dqo adql_16 (q := (1086, .iconst 2, 1)) 29 rfl
theorem dL_law_1087 : decode cL_law 1087 = .ok (.iadd, 1) := dqo adql_16 (q := (1087, .iadd, 1)) 30 rfl
theorem dL_law_1088 : decode cL_law 1088 = .ok (.iaload, 1) := dqo adql_16 (q := (1088, .iaload, 1)) 31 rfl
theorem dL_law_1089 : decode cL_law 1089 = .ok (.invokevirtual 128, 3) := dqo adql_16 (q := (1089, .invokevirtual 128, 3)) 32 rfl
theorem dL_law_1092 : decode cL_law 1092 = .ok (.pop, 1) := dqo adql_16 (q := (1092, .pop, 1)) 33 rfl
theorem dL_law_1093 : decode cL_law 1093 = .ok (.aload_n 2, 1) := dqo adql_16 (q := (1093, .aload_n 2, 1)) 34 rfl
theorem dL_law_1094 : decode cL_law 1094 = .ok (.aload_n 0, 1) := dqo adql_16 (q := (1094, .aload_n 0, 1)) 35 rfl
theorem dL_law_1095 : decode cL_law 1095 = .ok (.iload 4, 2) := dqo adql_16 (q := (1095, .iload 4, 2)) 36 rfl
theorem dL_law_1097 : decode cL_law 1097 = .ok (.iconst 1, 1) := dqo adql_16 (q := (1097, .iconst 1, 1)) 37 rfl
theorem dL_law_1098 : decode cL_law 1098 = .ok (.iadd, 1) := dqo adql_16 (q := (1098, .iadd, 1)) 38 rfl
theorem dL_law_1099 : decode cL_law 1099 = .ok (.iaload, 1) := dqo adql_16 (q := (1099, .iaload, 1)) 39 rfl
def dql_17 : List (Nat × Instr × Nat) := [(1100, .aload_n 0, 1), (1101, .iload 4, 2), (1103, .iconst 2, 1), (1104, .iadd, 1), (1105, .iaload, 1), (1106, .invokevirtual 131, 3), (1109, .pop, 1), (1110, .goto 312, 3), (1113, .aload_n 1, 1), (1114, .invokevirtual 132, 3), (1117, .pop, 1), (1118, .aload_n 2, 1), (1119, .invokevirtual 135, 3), (1122, .pop, 1), (1123, .goto 299, 3), (1126, .aload_n 1, 1), (1127, .aload_n 0, 1), (1128, .iload 4, 2), (1130, .iconst 1, 1), (1131, .iadd, 1), (1132, .iaload, 1), (1133, .aload_n 0, 1), (1134, .iload 4, 2), (1136, .iconst 2, 1), (1137, .iadd, 1), (1138, .iaload, 1), (1139, .aload_n 0, 1), (1140, .iload 4, 2), (1142, .iconst 3, 1), (1143, .iadd, 1), (1144, .iaload, 1), (1145, .aload_n 0, 1), (1146, .iload 4, 2), (1148, .iconst 4, 1), (1149, .iadd, 1), (1150, .iaload, 1), (1151, .invokevirtual 136, 3), (1154, .pop, 1), (1155, .aload_n 2, 1), (1156, .aload_n 0, 1)]
theorem adql_17 : dql_17.all (fun q => decide (decode cL_law q.1 = .ok (q.2.1, q.2.2))) = true := by decide +kernel
theorem dL_law_1100 : decode cL_law 1100 = .ok (.aload_n 0, 1) := dqo adql_17 (q := (1100, .aload_n 0, 1)) 0 rfl
theorem dL_law_1101 : decode cL_law 1101 = .ok (.iload 4, 2) := dqo adql_17 (q := (1101, .iload 4, 2)) 1 rfl
theorem dL_law_1103 : decode cL_law 1103 = .ok (.iconst 2, 1) := dqo adql_17 (q := (1103, .iconst 2, 1)) 2 rfl
theorem dL_law_1104 : decode cL_law 1104 = .ok (.iadd, 1) := dqo adql_17 (q := (1104, .iadd, 1)) 3 rfl
theorem dL_law_1105 : decode cL_law 1105 = .ok (.iaload, 1) := dqo adql_17 (q := (1105, .iaload, 1)) 4 rfl
theorem dL_law_1106 : decode cL_law 1106 = .ok (.invokevirtual 131, 3) := dqo adql_17 (q := (1106, .invokevirtual 131, 3)) 5 rfl
theorem dL_law_1109 : decode cL_law 1109 = .ok (.pop, 1) := dqo adql_17 (q := (1109, .pop, 1)) 6 rfl
theorem dL_law_1110 : decode cL_law 1110 = .ok (.goto 312, 3) := dqo adql_17 (q := (1110, .goto 312, 3)) 7 rfl
theorem dL_law_1113 : decode cL_law 1113 = .ok (.aload_n 1, 1) := dqo adql_17 (q := (1113, .aload_n 1, 1)) 8 rfl
theorem dL_law_1114 : decode cL_law 1114 = .ok (.invokevirtual 132, 3) := dqo adql_17 (q := (1114, .invokevirtual 132, 3)) 9 rfl
theorem dL_law_1117 : decode cL_law 1117 = .ok (.pop, 1) := dqo adql_17 (q := (1117, .pop, 1)) 10 rfl
theorem dL_law_1118 : decode cL_law 1118 = .ok (.aload_n 2, 1) := dqo adql_17 (q := (1118, .aload_n 2, 1)) 11 rfl
theorem dL_law_1119 : decode cL_law 1119 = .ok (.invokevirtual 135, 3) := dqo adql_17 (q := (1119, .invokevirtual 135, 3)) 12 rfl
theorem dL_law_1122 : decode cL_law 1122 = .ok (.pop, 1) := dqo adql_17 (q := (1122, .pop, 1)) 13 rfl
theorem dL_law_1123 : decode cL_law 1123 = .ok (.goto 299, 3) := dqo adql_17 (q := (1123, .goto 299, 3)) 14 rfl
theorem dL_law_1126 : decode cL_law 1126 = .ok (.aload_n 1, 1) := dqo adql_17 (q := (1126, .aload_n 1, 1)) 15 rfl
theorem dL_law_1127 : decode cL_law 1127 = .ok (.aload_n 0, 1) := dqo adql_17 (q := (1127, .aload_n 0, 1)) 16 rfl
theorem dL_law_1128 : decode cL_law 1128 = .ok (.iload 4, 2) := dqo adql_17 (q := (1128, .iload 4, 2)) 17 rfl
theorem dL_law_1130 : decode cL_law 1130 = .ok (.iconst 1, 1) := dqo adql_17 (q := (1130, .iconst 1, 1)) 18 rfl
theorem dL_law_1131 : decode cL_law 1131 = .ok (.iadd, 1) := dqo adql_17 (q := (1131, .iadd, 1)) 19 rfl
theorem dL_law_1132 : decode cL_law 1132 = .ok (.iaload, 1) := dqo adql_17 (q := (1132, .iaload, 1)) 20 rfl
theorem dL_law_1133 : decode cL_law 1133 = .ok (.aload_n 0, 1) := dqo adql_17 (q := (1133, .aload_n 0, 1)) 21 rfl
theorem dL_law_1134 : decode cL_law 1134 = .ok (.iload 4, 2) := dqo adql_17 (q := (1134, .iload 4, 2)) 22 rfl
theorem dL_law_1136 : decode cL_law 1136 = .ok (.iconst 2, 1) := dqo adql_17 (q := (1136, .iconst 2, 1)) 23 rfl
theorem dL_law_1137 : decode cL_law 1137 = .ok (.iadd, 1) := dqo adql_17 (q := (1137, .iadd, 1)) 24 rfl
theorem dL_law_1138 : decode cL_law 1138 = .ok (.iaload, 1) := dqo adql_17 (q := (1138, .iaload, 1)) 25 rfl
theorem dL_law_1139 : decode cL_law 1139 = .ok (.aload_n 0, 1) := dqo adql_17 (q := (1139, .aload_n 0, 1)) 26 rfl
theorem dL_law_1140 : decode cL_law 1140 = .ok (.iload 4, 2) := dqo adql_17 (q := (1140, .iload 4, 2)) 27 rfl
theorem dL_law_1142 : decode cL_law 1142 = .ok (.iconst 3, 1) := dqo adql_17 (q := (1142, .iconst 3, 1)) 28 rfl
theorem dL_law_1143 : decode cL_law 1143 = .ok (.iadd, 1) := dqo adql_17 (q := (1143, .iadd, 1)) 29 rfl
theorem dL_law_1144 : decode cL_law 1144 = .ok (.iaload, 1) := dqo adql_17 (q := (1144, .iaload, 1)) 30 rfl
theorem dL_law_1145 : decode cL_law 1145 = .ok (.aload_n 0, 1) := dqo adql_17 (q := (1145, .aload_n 0, 1)) 31 rfl
theorem dL_law_1146 : decode cL_law 1146 = .ok (.iload 4, 2) := dqo adql_17 (q := (1146, .iload 4, 2)) 32 rfl
theorem dL_law_1148 : decode cL_law 1148 = .ok (.iconst 4, 1) := dqo adql_17 (q := (1148, .iconst 4, 1)) 33 rfl
theorem dL_law_1149 : decode cL_law 1149 = .ok (.iadd, 1) := dqo adql_17 (q := (1149, .iadd, 1)) 34 rfl
theorem dL_law_1150 : decode cL_law 1150 = .ok (.iaload, 1) := dqo adql_17 (q := (1150, .iaload, 1)) 35 rfl
theorem dL_law_1151 : decode cL_law 1151 = .ok (.invokevirtual 136, 3) := dqo adql_17 (q := (1151, .invokevirtual 136, 3)) 36 rfl
theorem dL_law_1154 : decode cL_law 1154 = .ok (.pop, 1) := dqo adql_17 (q := (1154, .pop, 1)) 37 rfl
theorem dL_law_1155 : decode cL_law 1155 = .ok (.aload_n 2, 1) := dqo adql_17 (q := (1155, .aload_n 2, 1)) 38 rfl
theorem dL_law_1156 : decode cL_law 1156 = .ok (.aload_n 0, 1) := dqo adql_17 (q := (1156, .aload_n 0, 1)) 39 rfl
def dql_18 : List (Nat × Instr × Nat) := [(1157, .iload 4, 2), (1159, .iconst 1, 1), (1160, .iadd, 1), (1161, .iaload, 1), (1162, .aload_n 0, 1), (1163, .iload 4, 2), (1165, .iconst 2, 1), (1166, .iadd, 1), (1167, .iaload, 1), (1168, .aload_n 0, 1), (1169, .iload 4, 2), (1171, .iconst 3, 1), (1172, .iadd, 1), (1173, .iaload, 1), (1174, .aload_n 0, 1), (1175, .iload 4, 2), (1177, .iconst 4, 1), (1178, .iadd, 1), (1179, .iaload, 1), (1180, .invokevirtual 140, 3), (1183, .pop, 1), (1184, .goto 238, 3), (1187, .aload_n 1, 1), (1188, .aload_n 0, 1), (1189, .iload 4, 2), (1191, .iconst 1, 1), (1192, .iadd, 1), (1193, .iaload, 1), (1194, .aload_n 0, 1), (1195, .iload 4, 2), (1197, .iconst 2, 1), (1198, .iadd, 1), (1199, .iaload, 1), (1200, .aload_n 0, 1), (1201, .iload 4, 2), (1203, .iconst 3, 1), (1204, .iadd, 1), (1205, .iaload, 1), (1206, .aload_n 0, 1), (1207, .iload 4, 2)]
theorem adql_18 : dql_18.all (fun q => decide (decode cL_law q.1 = .ok (q.2.1, q.2.2))) = true := by decide +kernel
theorem dL_law_1157 : decode cL_law 1157 = .ok (.iload 4, 2) := dqo adql_18 (q := (1157, .iload 4, 2)) 0 rfl
theorem dL_law_1159 : decode cL_law 1159 = .ok (.iconst 1, 1) := dqo adql_18 (q := (1159, .iconst 1, 1)) 1 rfl
theorem dL_law_1160 : decode cL_law 1160 = .ok (.iadd, 1) := dqo adql_18 (q := (1160, .iadd, 1)) 2 rfl
theorem dL_law_1161 : decode cL_law 1161 = .ok (.iaload, 1) := dqo adql_18 (q := (1161, .iaload, 1)) 3 rfl
theorem dL_law_1162 : decode cL_law 1162 = .ok (.aload_n 0, 1) := dqo adql_18 (q := (1162, .aload_n 0, 1)) 4 rfl
theorem dL_law_1163 : decode cL_law 1163 = .ok (.iload 4, 2) := dqo adql_18 (q := (1163, .iload 4, 2)) 5 rfl
theorem dL_law_1165 : decode cL_law 1165 = .ok (.iconst 2, 1) := dqo adql_18 (q := (1165, .iconst 2, 1)) 6 rfl
theorem dL_law_1166 : decode cL_law 1166 = .ok (.iadd, 1) := dqo adql_18 (q := (1166, .iadd, 1)) 7 rfl
theorem dL_law_1167 : decode cL_law 1167 = .ok (.iaload, 1) := dqo adql_18 (q := (1167, .iaload, 1)) 8 rfl
theorem dL_law_1168 : decode cL_law 1168 = .ok (.aload_n 0, 1) := dqo adql_18 (q := (1168, .aload_n 0, 1)) 9 rfl
theorem dL_law_1169 : decode cL_law 1169 = .ok (.iload 4, 2) := dqo adql_18 (q := (1169, .iload 4, 2)) 10 rfl
theorem dL_law_1171 : decode cL_law 1171 = .ok (.iconst 3, 1) := dqo adql_18 (q := (1171, .iconst 3, 1)) 11 rfl
theorem dL_law_1172 : decode cL_law 1172 = .ok (.iadd, 1) := dqo adql_18 (q := (1172, .iadd, 1)) 12 rfl
theorem dL_law_1173 : decode cL_law 1173 = .ok (.iaload, 1) := dqo adql_18 (q := (1173, .iaload, 1)) 13 rfl
theorem dL_law_1174 : decode cL_law 1174 = .ok (.aload_n 0, 1) := dqo adql_18 (q := (1174, .aload_n 0, 1)) 14 rfl
theorem dL_law_1175 : decode cL_law 1175 = .ok (.iload 4, 2) := dqo adql_18 (q := (1175, .iload 4, 2)) 15 rfl
theorem dL_law_1177 : decode cL_law 1177 = .ok (.iconst 4, 1) := dqo adql_18 (q := (1177, .iconst 4, 1)) 16 rfl
theorem dL_law_1178 : decode cL_law 1178 = .ok (.iadd, 1) := dqo adql_18 (q := (1178, .iadd, 1)) 17 rfl
theorem dL_law_1179 : decode cL_law 1179 = .ok (.iaload, 1) := dqo adql_18 (q := (1179, .iaload, 1)) 18 rfl
theorem dL_law_1180 : decode cL_law 1180 = .ok (.invokevirtual 140, 3) := dqo adql_18 (q := (1180, .invokevirtual 140, 3)) 19 rfl
theorem dL_law_1183 : decode cL_law 1183 = .ok (.pop, 1) := dqo adql_18 (q := (1183, .pop, 1)) 20 rfl
theorem dL_law_1184 : decode cL_law 1184 = .ok (.goto 238, 3) := dqo adql_18 (q := (1184, .goto 238, 3)) 21 rfl
theorem dL_law_1187 : decode cL_law 1187 = .ok (.aload_n 1, 1) := dqo adql_18 (q := (1187, .aload_n 1, 1)) 22 rfl
theorem dL_law_1188 : decode cL_law 1188 = .ok (.aload_n 0, 1) := dqo adql_18 (q := (1188, .aload_n 0, 1)) 23 rfl
theorem dL_law_1189 : decode cL_law 1189 = .ok (.iload 4, 2) := dqo adql_18 (q := (1189, .iload 4, 2)) 24 rfl
theorem dL_law_1191 : decode cL_law 1191 = .ok (.iconst 1, 1) := dqo adql_18 (q := (1191, .iconst 1, 1)) 25 rfl
theorem dL_law_1192 : decode cL_law 1192 = .ok (.iadd, 1) := dqo adql_18 (q := (1192, .iadd, 1)) 26 rfl
theorem dL_law_1193 : decode cL_law 1193 = .ok (.iaload, 1) := dqo adql_18 (q := (1193, .iaload, 1)) 27 rfl
theorem dL_law_1194 : decode cL_law 1194 = .ok (.aload_n 0, 1) := dqo adql_18 (q := (1194, .aload_n 0, 1)) 28 rfl
theorem dL_law_1195 : decode cL_law 1195 = .ok (.iload 4, 2) := dqo adql_18 (q := (1195, .iload 4, 2)) 29 rfl
theorem dL_law_1197 : decode cL_law 1197 = .ok (.iconst 2, 1) := dqo adql_18 (q := (1197, .iconst 2, 1)) 30 rfl
theorem dL_law_1198 : decode cL_law 1198 = .ok (.iadd, 1) := dqo adql_18 (q := (1198, .iadd, 1)) 31 rfl
theorem dL_law_1199 : decode cL_law 1199 = .ok (.iaload, 1) := dqo adql_18 (q := (1199, .iaload, 1)) 32 rfl
theorem dL_law_1200 : decode cL_law 1200 = .ok (.aload_n 0, 1) := dqo adql_18 (q := (1200, .aload_n 0, 1)) 33 rfl
theorem dL_law_1201 : decode cL_law 1201 = .ok (.iload 4, 2) := dqo adql_18 (q := (1201, .iload 4, 2)) 34 rfl
theorem dL_law_1203 : decode cL_law 1203 = .ok (.iconst 3, 1) := dqo adql_18 (q := (1203, .iconst 3, 1)) 35 rfl
theorem dL_law_1204 : decode cL_law 1204 = .ok (.iadd, 1) := dqo adql_18 (q := (1204, .iadd, 1)) 36 rfl
theorem dL_law_1205 : decode cL_law 1205 = .ok (.iaload, 1) := dqo adql_18 (q := (1205, .iaload, 1)) 37 rfl
theorem dL_law_1206 : decode cL_law 1206 = .ok (.aload_n 0, 1) := dqo adql_18 (q := (1206, .aload_n 0, 1)) 38 rfl
theorem dL_law_1207 : decode cL_law 1207 = .ok (.iload 4, 2) := dqo adql_18 (q := (1207, .iload 4, 2)) 39 rfl
def dql_19 : List (Nat × Instr × Nat) := [(1209, .iconst 4, 1), (1210, .iadd, 1), (1211, .iaload, 1), (1212, .aload_n 0, 1), (1213, .iload 4, 2), (1215, .iconst 5, 1), (1216, .iadd, 1), (1217, .iaload, 1), (1218, .invokevirtual 141, 3), (1221, .aload_n 2, 1), (1222, .aload_n 0, 1), (1223, .iload 4, 2), (1225, .iconst 1, 1), (1226, .iadd, 1), (1227, .iaload, 1), (1228, .aload_n 0, 1), (1229, .iload 4, 2), (1231, .iconst 2, 1), (1232, .iadd, 1), (1233, .iaload, 1), (1234, .aload_n 0, 1), (1235, .iload 4, 2), (1237, .iconst 3, 1), (1238, .iadd, 1), (1239, .iaload, 1), (1240, .aload_n 0, 1), (1241, .iload 4, 2), (1243, .iconst 4, 1), (1244, .iadd, 1), (1245, .iaload, 1), (1246, .aload_n 0, 1), (1247, .iload 4, 2), (1249, .iconst 5, 1), (1250, .iadd, 1), (1251, .iaload, 1), (1252, .invokevirtual 144, 3), (1255, .if_icmp .eq 167, 3), (1258, .iconst 0, 1), (1259, .ireturn, 1), (1260, .aload_n 1, 1)]
theorem adql_19 : dql_19.all (fun q => decide (decode cL_law q.1 = .ok (q.2.1, q.2.2))) = true := by decide +kernel
theorem dL_law_1209 : decode cL_law 1209 = .ok (.iconst 4, 1) := dqo adql_19 (q := (1209, .iconst 4, 1)) 0 rfl
theorem dL_law_1210 : decode cL_law 1210 = .ok (.iadd, 1) := dqo adql_19 (q := (1210, .iadd, 1)) 1 rfl
theorem dL_law_1211 : decode cL_law 1211 = .ok (.iaload, 1) := dqo adql_19 (q := (1211, .iaload, 1)) 2 rfl
theorem dL_law_1212 : decode cL_law 1212 = .ok (.aload_n 0, 1) := dqo adql_19 (q := (1212, .aload_n 0, 1)) 3 rfl
theorem dL_law_1213 : decode cL_law 1213 = .ok (.iload 4, 2) := dqo adql_19 (q := (1213, .iload 4, 2)) 4 rfl
theorem dL_law_1215 : decode cL_law 1215 = .ok (.iconst 5, 1) := dqo adql_19 (q := (1215, .iconst 5, 1)) 5 rfl
theorem dL_law_1216 : decode cL_law 1216 = .ok (.iadd, 1) := dqo adql_19 (q := (1216, .iadd, 1)) 6 rfl
theorem dL_law_1217 : decode cL_law 1217 = .ok (.iaload, 1) := dqo adql_19 (q := (1217, .iaload, 1)) 7 rfl
theorem dL_law_1218 : decode cL_law 1218 = .ok (.invokevirtual 141, 3) := dqo adql_19 (q := (1218, .invokevirtual 141, 3)) 8 rfl
theorem dL_law_1221 : decode cL_law 1221 = .ok (.aload_n 2, 1) := dqo adql_19 (q := (1221, .aload_n 2, 1)) 9 rfl
theorem dL_law_1222 : decode cL_law 1222 = .ok (.aload_n 0, 1) := dqo adql_19 (q := (1222, .aload_n 0, 1)) 10 rfl
theorem dL_law_1223 : decode cL_law 1223 = .ok (.iload 4, 2) := dqo adql_19 (q := (1223, .iload 4, 2)) 11 rfl
theorem dL_law_1225 : decode cL_law 1225 = .ok (.iconst 1, 1) := dqo adql_19 (q := (1225, .iconst 1, 1)) 12 rfl
theorem dL_law_1226 : decode cL_law 1226 = .ok (.iadd, 1) := dqo adql_19 (q := (1226, .iadd, 1)) 13 rfl
theorem dL_law_1227 : decode cL_law 1227 = .ok (.iaload, 1) := dqo adql_19 (q := (1227, .iaload, 1)) 14 rfl
theorem dL_law_1228 : decode cL_law 1228 = .ok (.aload_n 0, 1) := dqo adql_19 (q := (1228, .aload_n 0, 1)) 15 rfl
theorem dL_law_1229 : decode cL_law 1229 = .ok (.iload 4, 2) := dqo adql_19 (q := (1229, .iload 4, 2)) 16 rfl
theorem dL_law_1231 : decode cL_law 1231 = .ok (.iconst 2, 1) := dqo adql_19 (q := (1231, .iconst 2, 1)) 17 rfl
theorem dL_law_1232 : decode cL_law 1232 = .ok (.iadd, 1) := dqo adql_19 (q := (1232, .iadd, 1)) 18 rfl
theorem dL_law_1233 : decode cL_law 1233 = .ok (.iaload, 1) := dqo adql_19 (q := (1233, .iaload, 1)) 19 rfl
theorem dL_law_1234 : decode cL_law 1234 = .ok (.aload_n 0, 1) := dqo adql_19 (q := (1234, .aload_n 0, 1)) 20 rfl
theorem dL_law_1235 : decode cL_law 1235 = .ok (.iload 4, 2) := dqo adql_19 (q := (1235, .iload 4, 2)) 21 rfl
theorem dL_law_1237 : decode cL_law 1237 = .ok (.iconst 3, 1) := dqo adql_19 (q := (1237, .iconst 3, 1)) 22 rfl
theorem dL_law_1238 : decode cL_law 1238 = .ok (.iadd, 1) := dqo adql_19 (q := (1238, .iadd, 1)) 23 rfl
theorem dL_law_1239 : decode cL_law 1239 = .ok (.iaload, 1) := dqo adql_19 (q := (1239, .iaload, 1)) 24 rfl
theorem dL_law_1240 : decode cL_law 1240 = .ok (.aload_n 0, 1) := dqo adql_19 (q := (1240, .aload_n 0, 1)) 25 rfl
theorem dL_law_1241 : decode cL_law 1241 = .ok (.iload 4, 2) := dqo adql_19 (q := (1241, .iload 4, 2)) 26 rfl
theorem dL_law_1243 : decode cL_law 1243 = .ok (.iconst 4, 1) := dqo adql_19 (q := (1243, .iconst 4, 1)) 27 rfl
theorem dL_law_1244 : decode cL_law 1244 = .ok (.iadd, 1) := dqo adql_19 (q := (1244, .iadd, 1)) 28 rfl
theorem dL_law_1245 : decode cL_law 1245 = .ok (.iaload, 1) := dqo adql_19 (q := (1245, .iaload, 1)) 29 rfl
theorem dL_law_1246 : decode cL_law 1246 = .ok (.aload_n 0, 1) := dqo adql_19 (q := (1246, .aload_n 0, 1)) 30 rfl
theorem dL_law_1247 : decode cL_law 1247 = .ok (.iload 4, 2) := dqo adql_19 (q := (1247, .iload 4, 2)) 31 rfl
theorem dL_law_1249 : decode cL_law 1249 = .ok (.iconst 5, 1) := dqo adql_19 (q := (1249, .iconst 5, 1)) 32 rfl
theorem dL_law_1250 : decode cL_law 1250 = .ok (.iadd, 1) := dqo adql_19 (q := (1250, .iadd, 1)) 33 rfl
theorem dL_law_1251 : decode cL_law 1251 = .ok (.iaload, 1) := dqo adql_19 (q := (1251, .iaload, 1)) 34 rfl
theorem dL_law_1252 : decode cL_law 1252 = .ok (.invokevirtual 144, 3) := dqo adql_19 (q := (1252, .invokevirtual 144, 3)) 35 rfl
theorem dL_law_1255 : decode cL_law 1255 = .ok (.if_icmp .eq 167, 3) := dqo adql_19 (q := (1255, .if_icmp .eq 167, 3)) 36 rfl
theorem dL_law_1258 : decode cL_law 1258 = .ok (.iconst 0, 1) := dqo adql_19 (q := (1258, .iconst 0, 1)) 37 rfl
theorem dL_law_1259 : decode cL_law 1259 = .ok (.ireturn, 1) := dqo adql_19 (q := (1259, .ireturn, 1)) 38 rfl
theorem dL_law_1260 : decode cL_law 1260 = .ok (.aload_n 1, 1) := dqo adql_19 (q := (1260, .aload_n 1, 1)) 39 rfl
def dql_20 : List (Nat × Instr × Nat) := [(1261, .aload_n 0, 1), (1262, .iload 4, 2), (1264, .iconst 1, 1), (1265, .iadd, 1), (1266, .iaload, 1), (1267, .aload_n 0, 1), (1268, .iload 4, 2), (1270, .iconst 2, 1), (1271, .iadd, 1), (1272, .iaload, 1), (1273, .invokevirtual 145, 3), (1276, .pop, 1), (1277, .aload_n 2, 1), (1278, .aload_n 0, 1), (1279, .iload 4, 2), (1281, .iconst 1, 1), (1282, .iadd, 1), (1283, .iaload, 1), (1284, .aload_n 0, 1), (1285, .iload 4, 2), (1287, .iconst 2, 1), (1288, .iadd, 1), (1289, .iaload, 1), (1290, .invokevirtual 148, 3), (1293, .pop, 1), (1294, .goto 128, 3), (1297, .aload_n 1, 1), (1298, .aload_n 0, 1), (1299, .iload 4, 2), (1301, .iconst 1, 1), (1302, .iadd, 1), (1303, .iaload, 1), (1304, .invokevirtual 149, 3), (1307, .pop, 1), (1308, .aload_n 2, 1), (1309, .aload_n 0, 1), (1310, .iload 4, 2), (1312, .iconst 1, 1), (1313, .iadd, 1), (1314, .iaload, 1)]
theorem adql_20 : dql_20.all (fun q => decide (decode cL_law q.1 = .ok (q.2.1, q.2.2))) = true := by decide +kernel
theorem dL_law_1261 : decode cL_law 1261 = .ok (.aload_n 0, 1) := dqo adql_20 (q := (1261, .aload_n 0, 1)) 0 rfl
theorem dL_law_1262 : decode cL_law 1262 = .ok (.iload 4, 2) := dqo adql_20 (q := (1262, .iload 4, 2)) 1 rfl
theorem dL_law_1264 : decode cL_law 1264 = .ok (.iconst 1, 1) := dqo adql_20 (q := (1264, .iconst 1, 1)) 2 rfl
theorem dL_law_1265 : decode cL_law 1265 = .ok (.iadd, 1) := dqo adql_20 (q := (1265, .iadd, 1)) 3 rfl
theorem dL_law_1266 : decode cL_law 1266 = .ok (.iaload, 1) := dqo adql_20 (q := (1266, .iaload, 1)) 4 rfl
theorem dL_law_1267 : decode cL_law 1267 = .ok (.aload_n 0, 1) := dqo adql_20 (q := (1267, .aload_n 0, 1)) 5 rfl
theorem dL_law_1268 : decode cL_law 1268 = .ok (.iload 4, 2) := dqo adql_20 (q := (1268, .iload 4, 2)) 6 rfl
theorem dL_law_1270 : decode cL_law 1270 = .ok (.iconst 2, 1) := dqo adql_20 (q := (1270, .iconst 2, 1)) 7 rfl
theorem dL_law_1271 : decode cL_law 1271 = .ok (.iadd, 1) := dqo adql_20 (q := (1271, .iadd, 1)) 8 rfl
theorem dL_law_1272 : decode cL_law 1272 = .ok (.iaload, 1) := dqo adql_20 (q := (1272, .iaload, 1)) 9 rfl
theorem dL_law_1273 : decode cL_law 1273 = .ok (.invokevirtual 145, 3) := dqo adql_20 (q := (1273, .invokevirtual 145, 3)) 10 rfl
theorem dL_law_1276 : decode cL_law 1276 = .ok (.pop, 1) := dqo adql_20 (q := (1276, .pop, 1)) 11 rfl
theorem dL_law_1277 : decode cL_law 1277 = .ok (.aload_n 2, 1) := dqo adql_20 (q := (1277, .aload_n 2, 1)) 12 rfl
theorem dL_law_1278 : decode cL_law 1278 = .ok (.aload_n 0, 1) := dqo adql_20 (q := (1278, .aload_n 0, 1)) 13 rfl
theorem dL_law_1279 : decode cL_law 1279 = .ok (.iload 4, 2) := dqo adql_20 (q := (1279, .iload 4, 2)) 14 rfl
theorem dL_law_1281 : decode cL_law 1281 = .ok (.iconst 1, 1) := dqo adql_20 (q := (1281, .iconst 1, 1)) 15 rfl
theorem dL_law_1282 : decode cL_law 1282 = .ok (.iadd, 1) := dqo adql_20 (q := (1282, .iadd, 1)) 16 rfl
theorem dL_law_1283 : decode cL_law 1283 = .ok (.iaload, 1) := dqo adql_20 (q := (1283, .iaload, 1)) 17 rfl
theorem dL_law_1284 : decode cL_law 1284 = .ok (.aload_n 0, 1) := dqo adql_20 (q := (1284, .aload_n 0, 1)) 18 rfl
theorem dL_law_1285 : decode cL_law 1285 = .ok (.iload 4, 2) := dqo adql_20 (q := (1285, .iload 4, 2)) 19 rfl
theorem dL_law_1287 : decode cL_law 1287 = .ok (.iconst 2, 1) := dqo adql_20 (q := (1287, .iconst 2, 1)) 20 rfl
theorem dL_law_1288 : decode cL_law 1288 = .ok (.iadd, 1) := dqo adql_20 (q := (1288, .iadd, 1)) 21 rfl
theorem dL_law_1289 : decode cL_law 1289 = .ok (.iaload, 1) := dqo adql_20 (q := (1289, .iaload, 1)) 22 rfl
theorem dL_law_1290 : decode cL_law 1290 = .ok (.invokevirtual 148, 3) := dqo adql_20 (q := (1290, .invokevirtual 148, 3)) 23 rfl
theorem dL_law_1293 : decode cL_law 1293 = .ok (.pop, 1) := dqo adql_20 (q := (1293, .pop, 1)) 24 rfl
theorem dL_law_1294 : decode cL_law 1294 = .ok (.goto 128, 3) := dqo adql_20 (q := (1294, .goto 128, 3)) 25 rfl
theorem dL_law_1297 : decode cL_law 1297 = .ok (.aload_n 1, 1) := dqo adql_20 (q := (1297, .aload_n 1, 1)) 26 rfl
theorem dL_law_1298 : decode cL_law 1298 = .ok (.aload_n 0, 1) := dqo adql_20 (q := (1298, .aload_n 0, 1)) 27 rfl
theorem dL_law_1299 : decode cL_law 1299 = .ok (.iload 4, 2) := dqo adql_20 (q := (1299, .iload 4, 2)) 28 rfl
theorem dL_law_1301 : decode cL_law 1301 = .ok (.iconst 1, 1) := dqo adql_20 (q := (1301, .iconst 1, 1)) 29 rfl
theorem dL_law_1302 : decode cL_law 1302 = .ok (.iadd, 1) := dqo adql_20 (q := (1302, .iadd, 1)) 30 rfl
theorem dL_law_1303 : decode cL_law 1303 = .ok (.iaload, 1) := dqo adql_20 (q := (1303, .iaload, 1)) 31 rfl
theorem dL_law_1304 : decode cL_law 1304 = .ok (.invokevirtual 149, 3) := dqo adql_20 (q := (1304, .invokevirtual 149, 3)) 32 rfl
theorem dL_law_1307 : decode cL_law 1307 = .ok (.pop, 1) := dqo adql_20 (q := (1307, .pop, 1)) 33 rfl
theorem dL_law_1308 : decode cL_law 1308 = .ok (.aload_n 2, 1) := dqo adql_20 (q := (1308, .aload_n 2, 1)) 34 rfl
theorem dL_law_1309 : decode cL_law 1309 = .ok (.aload_n 0, 1) := dqo adql_20 (q := (1309, .aload_n 0, 1)) 35 rfl
theorem dL_law_1310 : decode cL_law 1310 = .ok (.iload 4, 2) := dqo adql_20 (q := (1310, .iload 4, 2)) 36 rfl
theorem dL_law_1312 : decode cL_law 1312 = .ok (.iconst 1, 1) := dqo adql_20 (q := (1312, .iconst 1, 1)) 37 rfl
theorem dL_law_1313 : decode cL_law 1313 = .ok (.iadd, 1) := dqo adql_20 (q := (1313, .iadd, 1)) 38 rfl
theorem dL_law_1314 : decode cL_law 1314 = .ok (.iaload, 1) := dqo adql_20 (q := (1314, .iaload, 1)) 39 rfl
def dql_21 : List (Nat × Instr × Nat) := [(1315, .invokevirtual 152, 3), (1318, .pop, 1), (1319, .goto 103, 3), (1322, .aload_n 1, 1), (1323, .aload_n 0, 1), (1324, .iload 4, 2), (1326, .iconst 1, 1), (1327, .iadd, 1), (1328, .iaload, 1), (1329, .aload_n 0, 1), (1330, .iload 4, 2), (1332, .iconst 2, 1), (1333, .iadd, 1), (1334, .iaload, 1), (1335, .aload_n 0, 1), (1336, .iload 4, 2), (1338, .iconst 3, 1), (1339, .iadd, 1), (1340, .iaload, 1), (1341, .invokevirtual 153, 3), (1344, .pop2, 1), (1345, .aload_n 2, 1), (1346, .aload_n 0, 1), (1347, .iload 4, 2), (1349, .iconst 1, 1), (1350, .iadd, 1), (1351, .iaload, 1), (1352, .aload_n 0, 1), (1353, .iload 4, 2), (1355, .iconst 2, 1), (1356, .iadd, 1), (1357, .iaload, 1), (1358, .aload_n 0, 1), (1359, .iload 4, 2), (1361, .iconst 3, 1), (1362, .iadd, 1), (1363, .iaload, 1), (1364, .invokevirtual 157, 3), (1367, .pop2, 1), (1368, .goto 54, 3)]
theorem adql_21 : dql_21.all (fun q => decide (decode cL_law q.1 = .ok (q.2.1, q.2.2))) = true := by decide +kernel
theorem dL_law_1315 : decode cL_law 1315 = .ok (.invokevirtual 152, 3) := dqo adql_21 (q := (1315, .invokevirtual 152, 3)) 0 rfl
theorem dL_law_1318 : decode cL_law 1318 = .ok (.pop, 1) := dqo adql_21 (q := (1318, .pop, 1)) 1 rfl
theorem dL_law_1319 : decode cL_law 1319 = .ok (.goto 103, 3) := dqo adql_21 (q := (1319, .goto 103, 3)) 2 rfl
theorem dL_law_1322 : decode cL_law 1322 = .ok (.aload_n 1, 1) := dqo adql_21 (q := (1322, .aload_n 1, 1)) 3 rfl
theorem dL_law_1323 : decode cL_law 1323 = .ok (.aload_n 0, 1) := dqo adql_21 (q := (1323, .aload_n 0, 1)) 4 rfl
theorem dL_law_1324 : decode cL_law 1324 = .ok (.iload 4, 2) := dqo adql_21 (q := (1324, .iload 4, 2)) 5 rfl
theorem dL_law_1326 : decode cL_law 1326 = .ok (.iconst 1, 1) := dqo adql_21 (q := (1326, .iconst 1, 1)) 6 rfl
theorem dL_law_1327 : decode cL_law 1327 = .ok (.iadd, 1) := dqo adql_21 (q := (1327, .iadd, 1)) 7 rfl
theorem dL_law_1328 : decode cL_law 1328 = .ok (.iaload, 1) := dqo adql_21 (q := (1328, .iaload, 1)) 8 rfl
theorem dL_law_1329 : decode cL_law 1329 = .ok (.aload_n 0, 1) := dqo adql_21 (q := (1329, .aload_n 0, 1)) 9 rfl
theorem dL_law_1330 : decode cL_law 1330 = .ok (.iload 4, 2) := dqo adql_21 (q := (1330, .iload 4, 2)) 10 rfl
theorem dL_law_1332 : decode cL_law 1332 = .ok (.iconst 2, 1) := dqo adql_21 (q := (1332, .iconst 2, 1)) 11 rfl
theorem dL_law_1333 : decode cL_law 1333 = .ok (.iadd, 1) := dqo adql_21 (q := (1333, .iadd, 1)) 12 rfl
theorem dL_law_1334 : decode cL_law 1334 = .ok (.iaload, 1) := dqo adql_21 (q := (1334, .iaload, 1)) 13 rfl
theorem dL_law_1335 : decode cL_law 1335 = .ok (.aload_n 0, 1) := dqo adql_21 (q := (1335, .aload_n 0, 1)) 14 rfl
theorem dL_law_1336 : decode cL_law 1336 = .ok (.iload 4, 2) := dqo adql_21 (q := (1336, .iload 4, 2)) 15 rfl
theorem dL_law_1338 : decode cL_law 1338 = .ok (.iconst 3, 1) := dqo adql_21 (q := (1338, .iconst 3, 1)) 16 rfl
theorem dL_law_1339 : decode cL_law 1339 = .ok (.iadd, 1) := dqo adql_21 (q := (1339, .iadd, 1)) 17 rfl
theorem dL_law_1340 : decode cL_law 1340 = .ok (.iaload, 1) := dqo adql_21 (q := (1340, .iaload, 1)) 18 rfl
theorem dL_law_1341 : decode cL_law 1341 = .ok (.invokevirtual 153, 3) := dqo adql_21 (q := (1341, .invokevirtual 153, 3)) 19 rfl
theorem dL_law_1344 : decode cL_law 1344 = .ok (.pop2, 1) := dqo adql_21 (q := (1344, .pop2, 1)) 20 rfl
theorem dL_law_1345 : decode cL_law 1345 = .ok (.aload_n 2, 1) := dqo adql_21 (q := (1345, .aload_n 2, 1)) 21 rfl
theorem dL_law_1346 : decode cL_law 1346 = .ok (.aload_n 0, 1) := dqo adql_21 (q := (1346, .aload_n 0, 1)) 22 rfl
theorem dL_law_1347 : decode cL_law 1347 = .ok (.iload 4, 2) := dqo adql_21 (q := (1347, .iload 4, 2)) 23 rfl
theorem dL_law_1349 : decode cL_law 1349 = .ok (.iconst 1, 1) := dqo adql_21 (q := (1349, .iconst 1, 1)) 24 rfl
theorem dL_law_1350 : decode cL_law 1350 = .ok (.iadd, 1) := dqo adql_21 (q := (1350, .iadd, 1)) 25 rfl
theorem dL_law_1351 : decode cL_law 1351 = .ok (.iaload, 1) := dqo adql_21 (q := (1351, .iaload, 1)) 26 rfl
theorem dL_law_1352 : decode cL_law 1352 = .ok (.aload_n 0, 1) := dqo adql_21 (q := (1352, .aload_n 0, 1)) 27 rfl
theorem dL_law_1353 : decode cL_law 1353 = .ok (.iload 4, 2) := dqo adql_21 (q := (1353, .iload 4, 2)) 28 rfl
theorem dL_law_1355 : decode cL_law 1355 = .ok (.iconst 2, 1) := dqo adql_21 (q := (1355, .iconst 2, 1)) 29 rfl
theorem dL_law_1356 : decode cL_law 1356 = .ok (.iadd, 1) := dqo adql_21 (q := (1356, .iadd, 1)) 30 rfl
theorem dL_law_1357 : decode cL_law 1357 = .ok (.iaload, 1) := dqo adql_21 (q := (1357, .iaload, 1)) 31 rfl
theorem dL_law_1358 : decode cL_law 1358 = .ok (.aload_n 0, 1) := dqo adql_21 (q := (1358, .aload_n 0, 1)) 32 rfl
theorem dL_law_1359 : decode cL_law 1359 = .ok (.iload 4, 2) := dqo adql_21 (q := (1359, .iload 4, 2)) 33 rfl
theorem dL_law_1361 : decode cL_law 1361 = .ok (.iconst 3, 1) := dqo adql_21 (q := (1361, .iconst 3, 1)) 34 rfl
theorem dL_law_1362 : decode cL_law 1362 = .ok (.iadd, 1) := dqo adql_21 (q := (1362, .iadd, 1)) 35 rfl
theorem dL_law_1363 : decode cL_law 1363 = .ok (.iaload, 1) := dqo adql_21 (q := (1363, .iaload, 1)) 36 rfl
theorem dL_law_1364 : decode cL_law 1364 = .ok (.invokevirtual 157, 3) := dqo adql_21 (q := (1364, .invokevirtual 157, 3)) 37 rfl
theorem dL_law_1367 : decode cL_law 1367 = .ok (.pop2, 1) := dqo adql_21 (q := (1367, .pop2, 1)) 38 rfl
theorem dL_law_1368 : decode cL_law 1368 = .ok (.goto 54, 3) := dqo adql_21 (q := (1368, .goto 54, 3)) 39 rfl
def dql_22 : List (Nat × Instr × Nat) := [(1371, .aload_n 1, 1), (1372, .invokevirtual 158, 3), (1375, .pop, 1), (1376, .aload_n 2, 1), (1377, .invokevirtual 161, 3), (1380, .pop, 1), (1381, .goto 41, 3), (1384, .aload_n 1, 1), (1385, .invokevirtual 162, 3), (1388, .pop, 1), (1389, .aload_n 2, 1), (1390, .invokevirtual 165, 3), (1393, .pop, 1), (1394, .goto 28, 3), (1397, .aload_n 1, 1), (1398, .aload_n 0, 1), (1399, .iload 4, 2), (1401, .iconst 1, 1), (1402, .iadd, 1), (1403, .iaload, 1), (1404, .invokevirtual 166, 3), (1407, .pop, 1), (1408, .aload_n 2, 1), (1409, .aload_n 0, 1), (1410, .iload 4, 2), (1412, .iconst 1, 1), (1413, .iadd, 1), (1414, .iaload, 1), (1415, .invokevirtual 169, 3), (1418, .pop, 1), (1419, .goto 3, 3), (1422, .iinc 4 6, 3), (1425, .goto (-1402), 3), (1428, .iconst 1, 1), (1429, .ireturn, 1)]
theorem adql_22 : dql_22.all (fun q => decide (decode cL_law q.1 = .ok (q.2.1, q.2.2))) = true := by decide +kernel
theorem dL_law_1371 : decode cL_law 1371 = .ok (.aload_n 1, 1) := dqo adql_22 (q := (1371, .aload_n 1, 1)) 0 rfl
theorem dL_law_1372 : decode cL_law 1372 = .ok (.invokevirtual 158, 3) := dqo adql_22 (q := (1372, .invokevirtual 158, 3)) 1 rfl
theorem dL_law_1375 : decode cL_law 1375 = .ok (.pop, 1) := dqo adql_22 (q := (1375, .pop, 1)) 2 rfl
theorem dL_law_1376 : decode cL_law 1376 = .ok (.aload_n 2, 1) := dqo adql_22 (q := (1376, .aload_n 2, 1)) 3 rfl
theorem dL_law_1377 : decode cL_law 1377 = .ok (.invokevirtual 161, 3) := dqo adql_22 (q := (1377, .invokevirtual 161, 3)) 4 rfl
theorem dL_law_1380 : decode cL_law 1380 = .ok (.pop, 1) := dqo adql_22 (q := (1380, .pop, 1)) 5 rfl
theorem dL_law_1381 : decode cL_law 1381 = .ok (.goto 41, 3) := dqo adql_22 (q := (1381, .goto 41, 3)) 6 rfl
theorem dL_law_1384 : decode cL_law 1384 = .ok (.aload_n 1, 1) := dqo adql_22 (q := (1384, .aload_n 1, 1)) 7 rfl
theorem dL_law_1385 : decode cL_law 1385 = .ok (.invokevirtual 162, 3) := dqo adql_22 (q := (1385, .invokevirtual 162, 3)) 8 rfl
theorem dL_law_1388 : decode cL_law 1388 = .ok (.pop, 1) := dqo adql_22 (q := (1388, .pop, 1)) 9 rfl
theorem dL_law_1389 : decode cL_law 1389 = .ok (.aload_n 2, 1) := dqo adql_22 (q := (1389, .aload_n 2, 1)) 10 rfl
theorem dL_law_1390 : decode cL_law 1390 = .ok (.invokevirtual 165, 3) := dqo adql_22 (q := (1390, .invokevirtual 165, 3)) 11 rfl
theorem dL_law_1393 : decode cL_law 1393 = .ok (.pop, 1) := dqo adql_22 (q := (1393, .pop, 1)) 12 rfl
theorem dL_law_1394 : decode cL_law 1394 = .ok (.goto 28, 3) := dqo adql_22 (q := (1394, .goto 28, 3)) 13 rfl
theorem dL_law_1397 : decode cL_law 1397 = .ok (.aload_n 1, 1) := dqo adql_22 (q := (1397, .aload_n 1, 1)) 14 rfl
theorem dL_law_1398 : decode cL_law 1398 = .ok (.aload_n 0, 1) := dqo adql_22 (q := (1398, .aload_n 0, 1)) 15 rfl
theorem dL_law_1399 : decode cL_law 1399 = .ok (.iload 4, 2) := dqo adql_22 (q := (1399, .iload 4, 2)) 16 rfl
theorem dL_law_1401 : decode cL_law 1401 = .ok (.iconst 1, 1) := dqo adql_22 (q := (1401, .iconst 1, 1)) 17 rfl
theorem dL_law_1402 : decode cL_law 1402 = .ok (.iadd, 1) := dqo adql_22 (q := (1402, .iadd, 1)) 18 rfl
theorem dL_law_1403 : decode cL_law 1403 = .ok (.iaload, 1) := dqo adql_22 (q := (1403, .iaload, 1)) 19 rfl
theorem dL_law_1404 : decode cL_law 1404 = .ok (.invokevirtual 166, 3) := dqo adql_22 (q := (1404, .invokevirtual 166, 3)) 20 rfl
theorem dL_law_1407 : decode cL_law 1407 = .ok (.pop, 1) := dqo adql_22 (q := (1407, .pop, 1)) 21 rfl
theorem dL_law_1408 : decode cL_law 1408 = .ok (.aload_n 2, 1) := dqo adql_22 (q := (1408, .aload_n 2, 1)) 22 rfl
theorem dL_law_1409 : decode cL_law 1409 = .ok (.aload_n 0, 1) := dqo adql_22 (q := (1409, .aload_n 0, 1)) 23 rfl
theorem dL_law_1410 : decode cL_law 1410 = .ok (.iload 4, 2) := dqo adql_22 (q := (1410, .iload 4, 2)) 24 rfl
theorem dL_law_1412 : decode cL_law 1412 = .ok (.iconst 1, 1) := dqo adql_22 (q := (1412, .iconst 1, 1)) 25 rfl
theorem dL_law_1413 : decode cL_law 1413 = .ok (.iadd, 1) := dqo adql_22 (q := (1413, .iadd, 1)) 26 rfl
theorem dL_law_1414 : decode cL_law 1414 = .ok (.iaload, 1) := dqo adql_22 (q := (1414, .iaload, 1)) 27 rfl
theorem dL_law_1415 : decode cL_law 1415 = .ok (.invokevirtual 169, 3) := dqo adql_22 (q := (1415, .invokevirtual 169, 3)) 28 rfl
theorem dL_law_1418 : decode cL_law 1418 = .ok (.pop, 1) := dqo adql_22 (q := (1418, .pop, 1)) 29 rfl
theorem dL_law_1419 : decode cL_law 1419 = .ok (.goto 3, 3) := dqo adql_22 (q := (1419, .goto 3, 3)) 30 rfl
theorem dL_law_1422 : decode cL_law 1422 = .ok (.iinc 4 6, 3) := dqo adql_22 (q := (1422, .iinc 4 6, 3)) 31 rfl
theorem dL_law_1425 : decode cL_law 1425 = .ok (.goto (-1402), 3) := dqo adql_22 (q := (1425, .goto (-1402), 3)) 32 rfl
theorem dL_law_1428 : decode cL_law 1428 = .ok (.iconst 1, 1) := dqo adql_22 (q := (1428, .iconst 1, 1)) 33 rfl
theorem dL_law_1429 : decode cL_law 1429 = .ok (.ireturn, 1) := dqo adql_22 (q := (1429, .ireturn, 1)) 34 rfl
