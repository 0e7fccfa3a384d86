theorem dX12_whole_121 : decode cX12_whole 121 = .ok (.goto 8, 3) := by decide +kernel
theorem dX12_whole_124 : decode cX12_whole 124 = .ok (.lload 6, 2) := by decide +kernel
theorem dX12_whole_126 : decode cX12_whole 126 = .ok (.lload 8, 2) := by decide +kernel
theorem dX12_whole_128 : decode cX12_whole 128 = .ok (.ldiv, 1) := by decide +kernel
theorem dX12_whole_129 : decode cX12_whole 129 = .ok (.lreturn, 1) := by decide +kernel
theorem dX12_within_0 : decode cX12_within 0 = .ok (.aload_n 0, 1) := by decide +kernel
theorem dX12_within_1 : decode cX12_within 1 = .ok (.getfield 68, 3) := by decide +kernel
theorem dX12_within_4 : decode cX12_within 4 = .ok (.iload_n 1, 1) := by decide +kernel
theorem dX12_within_5 : decode cX12_within 5 = .ok (.iaload, 1) := by decide +kernel
theorem dX12_within_6 : decode cX12_within 6 = .ok (.aload_n 0, 1) := by decide +kernel
theorem dX12_within_7 : decode cX12_within 7 = .ok (.getfield 65, 3) := by decide +kernel
theorem dX12_within_10 : decode cX12_within 10 = .ok (.iload_n 1, 1) := by decide +kernel
theorem dX12_within_11 : decode cX12_within 11 = .ok (.iaload, 1) := by decide +kernel
theorem dX12_within_12 : decode cX12_within 12 = .ok (.if_icmp .eq 11, 3) := by decide +kernel
theorem dX12_within_15 : decode cX12_within 15 = .ok (.aload_n 0, 1) := by decide +kernel
theorem dX12_within_16 : decode cX12_within 16 = .ok (.iload_n 1, 1) := by decide +kernel
theorem dX12_within_17 : decode cX12_within 17 = .ok (.invokevirtual 368, 3) := by decide +kernel
theorem dX12_within_20 : decode cX12_within 20 = .ok (.ifCond .ne 5, 3) := by decide +kernel
theorem dX12_within_23 : decode cX12_within 23 = .ok (.iload_n 3, 1) := by decide +kernel
theorem dX12_within_24 : decode cX12_within 24 = .ok (.ireturn, 1) := by decide +kernel
theorem dX12_within_25 : decode cX12_within 25 = .ok (.lconst 0, 1) := by decide +kernel
theorem dX12_within_26 : decode cX12_within 26 = .ok (.iload_n 2, 1) := by decide +kernel
theorem dX12_within_27 : decode cX12_within 27 = .ok (.i2l, 1) := by decide +kernel
theorem dX12_within_28 : decode cX12_within 28 = .ok (.aload_n 0, 1) := by decide +kernel
theorem dX12_within_29 : decode cX12_within 29 = .ok (.getfield 121, 3) := by decide +kernel
theorem dX12_within_32 : decode cX12_within 32 = .ok (.iconst 0, 1) := by decide +kernel
theorem dX12_within_33 : decode cX12_within 33 = .ok (.laload, 1) := by decide +kernel
theorem dX12_within_34 : decode cX12_within 34 = .ok (.invokestatic 371, 3) := by decide +kernel
theorem dX12_within_37 : decode cX12_within 37 = .ok (.invokestatic 375, 3) := by decide +kernel
theorem dX12_within_40 : decode cX12_within 40 = .ok (.l2i, 1) := by decide +kernel
theorem dX12_within_41 : decode cX12_within 41 = .ok (.ireturn, 1) := by decide +kernel
theorem dX12_word_0 : decode cX12_word 0 = .ok (.iconst 0, 1) := by decide +kernel
theorem dX12_word_1 : decode cX12_word 1 = .ok (.istore_n 1, 1) := by decide +kernel
theorem dX12_word_2 : decode cX12_word 2 = .ok (.iconst 0, 1) := by decide +kernel
theorem dX12_word_3 : decode cX12_word 3 = .ok (.istore_n 2, 1) := by decide +kernel
theorem dX12_word_4 : decode cX12_word 4 = .ok (.iload_n 2, 1) := by decide +kernel
theorem dX12_word_5 : decode cX12_word 5 = .ok (.ldc 206, 2) := by decide +kernel
theorem dX12_word_7 : decode cX12_word 7 = .ok (.invokevirtual 208, 3) := by decide +kernel
theorem dX12_word_10 : decode cX12_word 10 = .ok (.if_icmp .ge 113, 3) := by decide +kernel
theorem dX12_word_13 : decode cX12_word 13 = .ok (.iconst 0, 1) := by decide +kernel
theorem dX12_word_14 : decode cX12_word 14 = .ok (.istore_n 3, 1) := by decide +kernel
theorem dX12_word_15 : decode cX12_word 15 = .ok (.ldc 206, 2) := by decide +kernel
theorem dX12_word_17 : decode cX12_word 17 = .ok (.iload_n 2, 1) := by decide +kernel
theorem dX12_word_18 : decode cX12_word 18 = .ok (.iload_n 3, 1) := by decide +kernel
theorem dX12_word_19 : decode cX12_word 19 = .ok (.iadd, 1) := by decide +kernel
theorem dX12_word_20 : decode cX12_word 20 = .ok (.invokevirtual 213, 3) := by decide +kernel
theorem dX12_word_23 : decode cX12_word 23 = .ok (.bipush 32, 2) := by decide +kernel
theorem dX12_word_25 : decode cX12_word 25 = .ok (.if_icmp .eq 44, 3) := by decide +kernel
theorem dX12_word_28 : decode cX12_word 28 = .ok (.aload_n 0, 1) := by decide +kernel
theorem dX12_word_29 : decode cX12_word 29 = .ok (.getfield 179, 3) := by decide +kernel
theorem dX12_word_32 : decode cX12_word 32 = .ok (.iload_n 3, 1) := by decide +kernel
theorem dX12_word_33 : decode cX12_word 33 = .ok (.iadd, 1) := by decide +kernel
theorem dX12_word_34 : decode cX12_word 34 = .ok (.aload_n 0, 1) := by decide +kernel
theorem dX12_word_35 : decode cX12_word 35 = .ok (.getfield 169, 3) := by decide +kernel
theorem dX12_word_38 : decode cX12_word 38 = .ok (.if_icmp .ge 31, 3) := by decide +kernel
theorem dX12_word_41 : decode cX12_word 41 = .ok (.aload_n 0, 1) := by decide +kernel
theorem dX12_word_42 : decode cX12_word 42 = .ok (.getfield 7, 3) := by decide +kernel
theorem dX12_word_45 : decode cX12_word 45 = .ok (.aload_n 0, 1) := by decide +kernel
theorem dX12_word_46 : decode cX12_word 46 = .ok (.getfield 179, 3) := by decide +kernel
theorem dX12_word_49 : decode cX12_word 49 = .ok (.iload_n 3, 1) := by decide +kernel
theorem dX12_word_50 : decode cX12_word 50 = .ok (.iadd, 1) := by decide +kernel
theorem dX12_word_51 : decode cX12_word 51 = .ok (.iaload, 1) := by decide +kernel
theorem dX12_word_52 : decode cX12_word 52 = .ok (.ldc 206, 2) := by decide +kernel
theorem dX12_word_54 : decode cX12_word 54 = .ok (.iload_n 2, 1) := by decide +kernel
theorem dX12_word_55 : decode cX12_word 55 = .ok (.iload_n 3, 1) := by decide +kernel
theorem dX12_word_56 : decode cX12_word 56 = .ok (.iadd, 1) := by decide +kernel
theorem dX12_word_57 : decode cX12_word 57 = .ok (.invokevirtual 213, 3) := by decide +kernel
theorem dX12_word_60 : decode cX12_word 60 = .ok (.if_icmp .ne 9, 3) := by decide +kernel
theorem dX12_word_63 : decode cX12_word 63 = .ok (.iinc 3 1, 3) := by decide +kernel
theorem dX12_word_66 : decode cX12_word 66 = .ok (.goto (-51), 3) := by decide +kernel
theorem dX12_word_69 : decode cX12_word 69 = .ok (.ldc 206, 2) := by decide +kernel
theorem dX12_word_71 : decode cX12_word 71 = .ok (.iload_n 2, 1) := by decide +kernel
theorem dX12_word_72 : decode cX12_word 72 = .ok (.iload_n 3, 1) := by decide +kernel
theorem dX12_word_73 : decode cX12_word 73 = .ok (.iadd, 1) := by decide +kernel
theorem dX12_word_74 : decode cX12_word 74 = .ok (.invokevirtual 213, 3) := by decide +kernel
theorem dX12_word_77 : decode cX12_word 77 = .ok (.bipush 32, 2) := by decide +kernel
theorem dX12_word_79 : decode cX12_word 79 = .ok (.if_icmp .ne 18, 3) := by decide +kernel
theorem dX12_word_82 : decode cX12_word 82 = .ok (.aload_n 0, 1) := by decide +kernel
theorem dX12_word_83 : decode cX12_word 83 = .ok (.getfield 179, 3) := by decide +kernel
theorem dX12_word_86 : decode cX12_word 86 = .ok (.iload_n 3, 1) := by decide +kernel
theorem dX12_word_87 : decode cX12_word 87 = .ok (.iadd, 1) := by decide +kernel
theorem dX12_word_88 : decode cX12_word 88 = .ok (.aload_n 0, 1) := by decide +kernel
theorem dX12_word_89 : decode cX12_word 89 = .ok (.getfield 169, 3) := by decide +kernel
theorem dX12_word_92 : decode cX12_word 92 = .ok (.if_icmp .ne 5, 3) := by decide +kernel
theorem dX12_word_95 : decode cX12_word 95 = .ok (.iload_n 1, 1) := by decide +kernel
theorem dX12_word_96 : decode cX12_word 96 = .ok (.ireturn, 1) := by decide +kernel
theorem dX12_word_97 : decode cX12_word 97 = .ok (.ldc 206, 2) := by decide +kernel
theorem dX12_word_99 : decode cX12_word 99 = .ok (.iload_n 2, 1) := by decide +kernel
theorem dX12_word_100 : decode cX12_word 100 = .ok (.invokevirtual 213, 3) := by decide +kernel
theorem dX12_word_103 : decode cX12_word 103 = .ok (.bipush 32, 2) := by decide +kernel
theorem dX12_word_105 : decode cX12_word 105 = .ok (.if_icmp .eq 9, 3) := by decide +kernel
theorem dX12_word_108 : decode cX12_word 108 = .ok (.iinc 2 1, 3) := by decide +kernel
theorem dX12_word_111 : decode cX12_word 111 = .ok (.goto (-14), 3) := by decide +kernel
theorem dX12_word_114 : decode cX12_word 114 = .ok (.iinc 2 1, 3) := by decide +kernel
theorem dX12_word_117 : decode cX12_word 117 = .ok (.iinc 1 1, 3) := by decide +kernel
theorem dX12_word_120 : decode cX12_word 120 = .ok (.goto (-116), 3) := by decide +kernel
theorem dX12_word_123 : decode cX12_word 123 = .ok (.iconst (-1), 1) := by decide +kernel
theorem dX12_word_124 : decode cX12_word 124 = .ok (.ireturn, 1) := by decide +kernel
theorem dX12_works_0 : decode cX12_works 0 = .ok (.aload_n 0, 1) := by decide +kernel
theorem dX12_works_1 : decode cX12_works 1 = .ok (.getfield 121, 3) := by decide +kernel
theorem dX12_works_4 : decode cX12_works 4 = .ok (.aload_n 0, 1) := by decide +kernel
theorem dX12_works_5 : decode cX12_works 5 = .ok (.getfield 348, 3) := by decide +kernel
theorem dX12_works_8 : decode cX12_works 8 = .ok (.iconst 1, 1) := by decide +kernel
theorem dX12_works_9 : decode cX12_works 9 = .ok (.isub, 1) := by decide +kernel
theorem dX12_works_10 : decode cX12_works 10 = .ok (.laload, 1) := by decide +kernel
theorem dX12_works_11 : decode cX12_works 11 = .ok (.lstore_n 2, 1) := by decide +kernel
theorem dX12_works_12 : decode cX12_works 12 = .ok (.iload_n 1, 1) := by decide +kernel
theorem dX12_works_13 : decode cX12_works 13 = .ok (.sipush 260, 3) := by decide +kernel
theorem dX12_works_16 : decode cX12_works 16 = .ok (.if_icmp .ne 30, 3) := by decide +kernel
theorem dX12_works_19 : decode cX12_works 19 = .ok (.aload_n 0, 1) := by decide +kernel
theorem dX12_works_20 : decode cX12_works 20 = .ok (.getfield 121, 3) := by decide +kernel
theorem dX12_works_23 : decode cX12_works 23 = .ok (.aload_n 0, 1) := by decide +kernel
theorem dX12_works_24 : decode cX12_works 24 = .ok (.getfield 348, 3) := by decide +kernel
theorem dX12_works_27 : decode cX12_works 27 = .ok (.iconst 1, 1) := by decide +kernel
theorem dX12_works_28 : decode cX12_works 28 = .ok (.isub, 1) := by decide +kernel
theorem dX12_works_29 : decode cX12_works 29 = .ok (.lload_n 2, 1) := by decide +kernel
theorem dX12_works_30 : decode cX12_works 30 = .ok (.lconst 0, 1) := by decide +kernel
theorem dX12_works_31 : decode cX12_works 31 = .ok (.lcmp, 1) := by decide +kernel
theorem dX12_works_32 : decode cX12_works 32 = .ok (.ifCond .ne 7, 3) := by decide +kernel
theorem dX12_works_35 : decode cX12_works 35 = .ok (.iconst 1, 1) := by decide +kernel
theorem dX12_works_36 : decode cX12_works 36 = .ok (.goto 4, 3) := by decide +kernel
theorem dX12_works_39 : decode cX12_works 39 = .ok (.iconst 0, 1) := by decide +kernel
theorem dX12_works_40 : decode cX12_works 40 = .ok (.invokestatic 351, 3) := by decide +kernel
theorem dX12_works_43 : decode cX12_works 43 = .ok (.lastore, 1) := by decide +kernel
theorem dX12_works_44 : decode cX12_works 44 = .ok (.iconst 1, 1) := by decide +kernel
theorem dX12_works_45 : decode cX12_works 45 = .ok (.ireturn, 1) := by decide +kernel
theorem dX12_works_46 : decode cX12_works 46 = .ok (.aload_n 0, 1) := by decide +kernel
theorem dX12_works_47 : decode cX12_works 47 = .ok (.getfield 121, 3) := by decide +kernel
theorem dX12_works_50 : decode cX12_works 50 = .ok (.aload_n 0, 1) := by decide +kernel
theorem dX12_works_51 : decode cX12_works 51 = .ok (.getfield 348, 3) := by decide +kernel
theorem dX12_works_54 : decode cX12_works 54 = .ok (.iconst 2, 1) := by decide +kernel
theorem dX12_works_55 : decode cX12_works 55 = .ok (.isub, 1) := by decide +kernel
theorem dX12_works_56 : decode cX12_works 56 = .ok (.laload, 1) := by decide +kernel
theorem dX12_works_57 : decode cX12_works 57 = .ok (.lstore 4, 2) := by decide +kernel
theorem dX12_works_59 : decode cX12_works 59 = .ok (.aload_n 0, 1) := by decide +kernel
theorem dX12_works_60 : decode cX12_works 60 = .ok (.dup, 1) := by decide +kernel
theorem dX12_works_61 : decode cX12_works 61 = .ok (.getfield 348, 3) := by decide +kernel
theorem dX12_works_64 : decode cX12_works 64 = .ok (.iconst 1, 1) := by decide +kernel
theorem dX12_works_65 : decode cX12_works 65 = .ok (.isub, 1) := by decide +kernel
theorem dX12_works_66 : decode cX12_works 66 = .ok (.putfield 348, 3) := by decide +kernel
theorem dX12_works_69 : decode cX12_works 69 = .ok (.iload_n 1, 1) := by decide +kernel
theorem dX12_works_70 : decode cX12_works 70 = .ok (.lookupswitch 314 #[(42, 116), (43, 98), (45, 107), (47, 151), (60, 168), (61, 208), (62, 188), (256, 228), (257, 268), (258, 248), (261, 288)], 98) := by decide +kernel
theorem dX12_works_168 : decode cX12_works 168 = .ok (.lload 4, 2) := by decide +kernel
theorem dX12_works_170 : decode cX12_works 170 = .ok (.lload_n 2, 1) := by decide +kernel
theorem dX12_works_171 : decode cX12_works 171 = .ok (.ladd, 1) := by decide +kernel
theorem dX12_works_172 : decode cX12_works 172 = .ok (.lstore 6, 2) := by decide +kernel
theorem dX12_works_174 : decode cX12_works 174 = .ok (.goto 233, 3) := by decide +kernel
theorem dX12_works_177 : decode cX12_works 177 = .ok (.lload 4, 2) := by decide +kernel
theorem dX12_works_179 : decode cX12_works 179 = .ok (.lload_n 2, 1) := by decide +kernel
theorem dX12_works_180 : decode cX12_works 180 = .ok (.lsub, 1) := by decide +kernel
theorem dX12_works_181 : decode cX12_works 181 = .ok (.lstore 6, 2) := by decide +kernel
theorem dX12_works_183 : decode cX12_works 183 = .ok (.goto 224, 3) := by decide +kernel
theorem dX12_works_186 : decode cX12_works 186 = .ok (.lload 4, 2) := by decide +kernel
theorem dX12_works_188 : decode cX12_works 188 = .ok (.lconst 0, 1) := by decide +kernel
theorem dX12_works_189 : decode cX12_works 189 = .ok (.lcmp, 1) := by decide +kernel
theorem dX12_works_190 : decode cX12_works 190 = .ok (.ifCond .eq 22, 3) := by decide +kernel
theorem dX12_works_193 : decode cX12_works 193 = .ok (.lload_n 2, 1) := by decide +kernel
theorem dX12_works_194 : decode cX12_works 194 = .ok (.invokestatic 355, 3) := by decide +kernel
theorem dX12_works_197 : decode cX12_works 197 = .ok (.ldc2_w 361, 3) := by decide +kernel
theorem dX12_works_200 : decode cX12_works 200 = .ok (.lload 4, 2) := by decide +kernel
theorem dX12_works_202 : decode cX12_works 202 = .ok (.invokestatic 355, 3) := by decide +kernel
theorem dX12_works_205 : decode cX12_works 205 = .ok (.ldiv, 1) := by decide +kernel
theorem dX12_works_206 : decode cX12_works 206 = .ok (.lcmp, 1) := by decide +kernel
theorem dX12_works_207 : decode cX12_works 207 = .ok (.ifCond .le 5, 3) := by decide +kernel
theorem dX12_works_210 : decode cX12_works 210 = .ok (.iconst 0, 1) := by decide +kernel
theorem dX12_works_211 : decode cX12_works 211 = .ok (.ireturn, 1) := by decide +kernel
theorem dX12_works_212 : decode cX12_works 212 = .ok (.lload 4, 2) := by decide +kernel
theorem dX12_works_214 : decode cX12_works 214 = .ok (.lload_n 2, 1) := by decide +kernel
theorem dX12_works_215 : decode cX12_works 215 = .ok (.lmul, 1) := by decide +kernel
theorem dX12_works_216 : decode cX12_works 216 = .ok (.lstore 6, 2) := by decide +kernel
theorem dX12_works_218 : decode cX12_works 218 = .ok (.goto 189, 3) := by decide +kernel
theorem dX12_works_221 : decode cX12_works 221 = .ok (.lload_n 2, 1) := by decide +kernel
theorem dX12_works_222 : decode cX12_works 222 = .ok (.lconst 0, 1) := by decide +kernel
theorem dX12_works_223 : decode cX12_works 223 = .ok (.lcmp, 1) := by decide +kernel
theorem dX12_works_224 : decode cX12_works 224 = .ok (.ifCond .ne 5, 3) := by decide +kernel
theorem dX12_works_227 : decode cX12_works 227 = .ok (.iconst 0, 1) := by decide +kernel
theorem dX12_works_228 : decode cX12_works 228 = .ok (.ireturn, 1) := by decide +kernel
theorem dX12_works_229 : decode cX12_works 229 = .ok (.lload 4, 2) := by decide +kernel
theorem dX12_works_231 : decode cX12_works 231 = .ok (.lload_n 2, 1) := by decide +kernel
theorem dX12_works_232 : decode cX12_works 232 = .ok (.ldiv, 1) := by decide +kernel
theorem dX12_works_233 : decode cX12_works 233 = .ok (.lstore 6, 2) := by decide +kernel
theorem dX12_works_235 : decode cX12_works 235 = .ok (.goto 172, 3) := by decide +kernel
theorem dX12_works_238 : decode cX12_works 238 = .ok (.lload 4, 2) := by decide +kernel
theorem dX12_works_240 : decode cX12_works 240 = .ok (.lload_n 2, 1) := by decide +kernel
theorem dX12_works_241 : decode cX12_works 241 = .ok (.lcmp, 1) := by decide +kernel
theorem dX12_works_242 : decode cX12_works 242 = .ok (.ifCond .ge 7, 3) := by decide +kernel
theorem dX12_works_245 : decode cX12_works 245 = .ok (.iconst 1, 1) := by decide +kernel
theorem dX12_works_246 : decode cX12_works 246 = .ok (.goto 4, 3) := by decide +kernel
theorem dX12_works_249 : decode cX12_works 249 = .ok (.iconst 0, 1) := by decide +kernel
theorem dX12_works_250 : decode cX12_works 250 = .ok (.invokestatic 351, 3) := by decide +kernel
theorem dX12_works_253 : decode cX12_works 253 = .ok (.lstore 6, 2) := by decide +kernel
theorem dX12_works_255 : decode cX12_works 255 = .ok (.goto 152, 3) := by decide +kernel
theorem dX12_works_258 : decode cX12_works 258 = .ok (.lload 4, 2) := by decide +kernel
theorem dX12_works_260 : decode cX12_works 260 = .ok (.lload_n 2, 1) := by decide +kernel
theorem dX12_works_261 : decode cX12_works 261 = .ok (.lcmp, 1) := by decide +kernel
theorem dX12_works_262 : decode cX12_works 262 = .ok (.ifCond .le 7, 3) := by decide +kernel
theorem dX12_works_265 : decode cX12_works 265 = .ok (.iconst 1, 1) := by decide +kernel
theorem dX12_works_266 : decode cX12_works 266 = .ok (.goto 4, 3) := by decide +kernel
theorem dX12_works_269 : decode cX12_works 269 = .ok (.iconst 0, 1) := by decide +kernel
theorem dX12_works_270 : decode cX12_works 270 = .ok (.invokestatic 351, 3) := by decide +kernel
theorem dX12_works_273 : decode cX12_works 273 = .ok (.lstore 6, 2) := by decide +kernel
theorem dX12_works_275 : decode cX12_works 275 = .ok (.goto 132, 3) := by decide +kernel
theorem dX12_works_278 : decode cX12_works 278 = .ok (.lload 4, 2) := by decide +kernel
theorem dX12_works_280 : decode cX12_works 280 = .ok (.lload_n 2, 1) := by decide +kernel
theorem dX12_works_281 : decode cX12_works 281 = .ok (.lcmp, 1) := by decide +kernel
theorem dX12_works_282 : decode cX12_works 282 = .ok (.ifCond .ne 7, 3) := by decide +kernel
theorem dX12_works_285 : decode cX12_works 285 = .ok (.iconst 1, 1) := by decide +kernel
theorem dX12_works_286 : decode cX12_works 286 = .ok (.goto 4, 3) := by decide +kernel
theorem dX12_works_289 : decode cX12_works 289 = .ok (.iconst 0, 1) := by decide +kernel
theorem dX12_works_290 : decode cX12_works 290 = .ok (.invokestatic 351, 3) := by decide +kernel
theorem dX12_works_293 : decode cX12_works 293 = .ok (.lstore 6, 2) := by decide +kernel
theorem dX12_works_295 : decode cX12_works 295 = .ok (.goto 112, 3) := by decide +kernel
theorem dX12_works_298 : decode cX12_works 298 = .ok (.lload 4, 2) := by decide +kernel
theorem dX12_works_300 : decode cX12_works 300 = .ok (.lload_n 2, 1) := by decide +kernel
theorem dX12_works_301 : decode cX12_works 301 = .ok (.lcmp, 1) := by decide +kernel
theorem dX12_works_302 : decode cX12_works 302 = .ok (.ifCond .gt 7, 3) := by decide +kernel
theorem dX12_works_305 : decode cX12_works 305 = .ok (.iconst 1, 1) := by decide +kernel
theorem dX12_works_306 : decode cX12_works 306 = .ok (.goto 4, 3) := by decide +kernel
theorem dX12_works_309 : decode cX12_works 309 = .ok (.iconst 0, 1) := by decide +kernel
theorem dX12_works_310 : decode cX12_works 310 = .ok (.invokestatic 351, 3) := by decide +kernel
theorem dX12_works_313 : decode cX12_works 313 = .ok (.lstore 6, 2) := by decide +kernel
theorem dX12_works_315 : decode cX12_works 315 = .ok (.goto 92, 3) := by decide +kernel
theorem dX12_works_318 : decode cX12_works 318 = .ok (.lload 4, 2) := by decide +kernel
theorem dX12_works_320 : decode cX12_works 320 = .ok (.lload_n 2, 1) := by decide +kernel
theorem dX12_works_321 : decode cX12_works 321 = .ok (.lcmp, 1) := by decide +kernel
theorem dX12_works_322 : decode cX12_works 322 = .ok (.ifCond .lt 7, 3) := by decide +kernel
theorem dX12_works_325 : decode cX12_works 325 = .ok (.iconst 1, 1) := by decide +kernel
theorem dX12_works_326 : decode cX12_works 326 = .ok (.goto 4, 3) := by decide +kernel
theorem dX12_works_329 : decode cX12_works 329 = .ok (.iconst 0, 1) := by decide +kernel
theorem dX12_works_330 : decode cX12_works 330 = .ok (.invokestatic 351, 3) := by decide +kernel
theorem dX12_works_333 : decode cX12_works 333 = .ok (.lstore 6, 2) := by decide +kernel
theorem dX12_works_335 : decode cX12_works 335 = .ok (.goto 72, 3) := by decide +kernel
theorem dX12_works_338 : decode cX12_works 338 = .ok (.lload 4, 2) := by decide +kernel
theorem dX12_works_340 : decode cX12_works 340 = .ok (.lload_n 2, 1) := by decide +kernel
theorem dX12_works_341 : decode cX12_works 341 = .ok (.lcmp, 1) := by decide +kernel
theorem dX12_works_342 : decode cX12_works 342 = .ok (.ifCond .eq 7, 3) := by decide +kernel
theorem dX12_works_345 : decode cX12_works 345 = .ok (.iconst 1, 1) := by decide +kernel
theorem dX12_works_346 : decode cX12_works 346 = .ok (.goto 4, 3) := by decide +kernel
theorem dX12_works_349 : decode cX12_works 349 = .ok (.iconst 0, 1) := by decide +kernel
theorem dX12_works_350 : decode cX12_works 350 = .ok (.invokestatic 351, 3) := by decide +kernel
theorem dX12_works_353 : decode cX12_works 353 = .ok (.lstore 6, 2) := by decide +kernel
theorem dX12_works_355 : decode cX12_works 355 = .ok (.goto 52, 3) := by decide +kernel
theorem dX12_works_358 : decode cX12_works 358 = .ok (.lload 4, 2) := by decide +kernel
theorem dX12_works_360 : decode cX12_works 360 = .ok (.lconst 0, 1) := by decide +kernel
theorem dX12_works_361 : decode cX12_works 361 = .ok (.lcmp, 1) := by decide +kernel
theorem dX12_works_362 : decode cX12_works 362 = .ok (.ifCond .eq 13, 3) := by decide +kernel
theorem dX12_works_365 : decode cX12_works 365 = .ok (.lload_n 2, 1) := by decide +kernel
theorem dX12_works_366 : decode cX12_works 366 = .ok (.lconst 0, 1) := by decide +kernel
theorem dX12_works_367 : decode cX12_works 367 = .ok (.lcmp, 1) := by decide +kernel
theorem dX12_works_368 : decode cX12_works 368 = .ok (.ifCond .eq 7, 3) := by decide +kernel
theorem dX12_works_371 : decode cX12_works 371 = .ok (.iconst 1, 1) := by decide +kernel
theorem dX12_works_372 : decode cX12_works 372 = .ok (.goto 4, 3) := by decide +kernel
theorem dX12_works_375 : decode cX12_works 375 = .ok (.iconst 0, 1) := by decide +kernel
theorem dX12_works_376 : decode cX12_works 376 = .ok (.invokestatic 351, 3) := by decide +kernel
theorem dX12_works_379 : decode cX12_works 379 = .ok (.lstore 6, 2) := by decide +kernel
theorem dX12_works_381 : decode cX12_works 381 = .ok (.goto 26, 3) := by decide +kernel
theorem dX12_works_384 : decode cX12_works 384 = .ok (.lload 4, 2) := by decide +kernel
theorem dX12_works_386 : decode cX12_works 386 = .ok (.lconst 0, 1) := by decide +kernel
theorem dX12_works_387 : decode cX12_works 387 = .ok (.lcmp, 1) := by decide +kernel
theorem dX12_works_388 : decode cX12_works 388 = .ok (.ifCond .ne 9, 3) := by decide +kernel
theorem dX12_works_391 : decode cX12_works 391 = .ok (.lload_n 2, 1) := by decide +kernel
theorem dX12_works_392 : decode cX12_works 392 = .ok (.lconst 0, 1) := by decide +kernel
theorem dX12_works_393 : decode cX12_works 393 = .ok (.lcmp, 1) := by decide +kernel
theorem dX12_works_394 : decode cX12_works 394 = .ok (.ifCond .eq 7, 3) := by decide +kernel
theorem dX12_works_397 : decode cX12_works 397 = .ok (.iconst 1, 1) := by decide +kernel
theorem dX12_works_398 : decode cX12_works 398 = .ok (.goto 4, 3) := by decide +kernel
theorem dX12_works_401 : decode cX12_works 401 = .ok (.iconst 0, 1) := by decide +kernel
theorem dX12_works_402 : decode cX12_works 402 = .ok (.invokestatic 351, 3) := by decide +kernel
theorem dX12_works_405 : decode cX12_works 405 = .ok (.lstore 6, 2) := by decide +kernel
theorem dX12_works_407 : decode cX12_works 407 = .ok (.aload_n 0, 1) := by decide +kernel
theorem dX12_works_408 : decode cX12_works 408 = .ok (.getfield 121, 3) := by decide +kernel
theorem dX12_works_411 : decode cX12_works 411 = .ok (.aload_n 0, 1) := by decide +kernel
theorem dX12_works_412 : decode cX12_works 412 = .ok (.getfield 348, 3) := by decide +kernel
theorem dX12_works_415 : decode cX12_works 415 = .ok (.iconst 1, 1) := by decide +kernel
theorem dX12_works_416 : decode cX12_works 416 = .ok (.isub, 1) := by decide +kernel
theorem dX12_works_417 : decode cX12_works 417 = .ok (.lload 6, 2) := by decide +kernel
theorem dX12_works_419 : decode cX12_works 419 = .ok (.lastore, 1) := by decide +kernel
theorem dX12_works_420 : decode cX12_works 420 = .ok (.lload 6, 2) := by decide +kernel
theorem dX12_works_422 : decode cX12_works 422 = .ok (.ldc2_w 361, 3) := by decide +kernel
theorem dX12_works_425 : decode cX12_works 425 = .ok (.lcmp, 1) := by decide +kernel
theorem dX12_works_426 : decode cX12_works 426 = .ok (.ifCond .gt 16, 3) := by decide +kernel
theorem dX12_works_429 : decode cX12_works 429 = .ok (.lload 6, 2) := by decide +kernel
theorem dX12_works_431 : decode cX12_works 431 = .ok (.ldc2_w 363, 3) := by decide +kernel
theorem dX12_works_434 : decode cX12_works 434 = .ok (.lcmp, 1) := by decide +kernel
theorem dX12_works_435 : decode cX12_works 435 = .ok (.ifCond .lt 7, 3) := by decide +kernel
theorem dX12_works_438 : decode cX12_works 438 = .ok (.iconst 1, 1) := by decide +kernel
theorem dX12_works_439 : decode cX12_works 439 = .ok (.goto 4, 3) := by decide +kernel
theorem dX12_works_442 : decode cX12_works 442 = .ok (.iconst 0, 1) := by decide +kernel
theorem dX12_works_443 : decode cX12_works 443 = .ok (.ireturn, 1) := by decide +kernel
theorem dX12_wrong_0 : decode cX12_wrong 0 = .ok (.aload_n 0, 1) := by decide +kernel
theorem dX12_wrong_1 : decode cX12_wrong 1 = .ok (.getfield 217, 3) := by decide +kernel
theorem dX12_wrong_4 : decode cX12_wrong 4 = .ok (.ifCond .eq 4, 3) := by decide +kernel
theorem dX12_wrong_7 : decode cX12_wrong 7 = .ok (.return_, 1) := by decide +kernel
theorem dX12_wrong_8 : decode cX12_wrong 8 = .ok (.aload_n 0, 1) := by decide +kernel
theorem dX12_wrong_9 : decode cX12_wrong 9 = .ok (.iload_n 1, 1) := by decide +kernel
theorem dX12_wrong_10 : decode cX12_wrong 10 = .ok (.putfield 217, 3) := by decide +kernel
theorem dX12_wrong_13 : decode cX12_wrong 13 = .ok (.aload_n 0, 1) := by decide +kernel
theorem dX12_wrong_14 : decode cX12_wrong 14 = .ok (.aload_n 0, 1) := by decide +kernel
theorem dX12_wrong_15 : decode cX12_wrong 15 = .ok (.getfield 179, 3) := by decide +kernel
theorem dX12_wrong_18 : decode cX12_wrong 18 = .ok (.putfield 220, 3) := by decide +kernel
theorem dX12_wrong_21 : decode cX12_wrong 21 = .ok (.return_, 1) := by decide +kernel
theorem dJ6_bitCount_0f7a4_0 : decode cJ6_bitCount_0f7a4 0 = .ok (.iload_n 0, 1) := by decide +kernel
theorem dJ6_bitCount_0f7a4_1 : decode cJ6_bitCount_0f7a4 1 = .ok (.iload_n 0, 1) := by decide +kernel
theorem dJ6_bitCount_0f7a4_2 : decode cJ6_bitCount_0f7a4 2 = .ok (.iconst 1, 1) := by decide +kernel
theorem dJ6_bitCount_0f7a4_3 : decode cJ6_bitCount_0f7a4 3 = .ok (.iushr, 1) := by decide +kernel
theorem dJ6_bitCount_0f7a4_4 : decode cJ6_bitCount_0f7a4 4 = .ok (.ldc_w 265, 3) := by decide +kernel
theorem dJ6_bitCount_0f7a4_7 : decode cJ6_bitCount_0f7a4 7 = .ok (.iand, 1) := by decide +kernel
theorem dJ6_bitCount_0f7a4_8 : decode cJ6_bitCount_0f7a4 8 = .ok (.isub, 1) := by decide +kernel
theorem dJ6_bitCount_0f7a4_9 : decode cJ6_bitCount_0f7a4 9 = .ok (.istore_n 0, 1) := by decide +kernel
theorem dJ6_bitCount_0f7a4_10 : decode cJ6_bitCount_0f7a4 10 = .ok (.iload_n 0, 1) := by decide +kernel
theorem dJ6_bitCount_0f7a4_11 : decode cJ6_bitCount_0f7a4 11 = .ok (.ldc_w 266, 3) := by decide +kernel
theorem dJ6_bitCount_0f7a4_14 : decode cJ6_bitCount_0f7a4 14 = .ok (.iand, 1) := by decide +kernel
theorem dJ6_bitCount_0f7a4_15 : decode cJ6_bitCount_0f7a4 15 = .ok (.iload_n 0, 1) := by decide +kernel
theorem dJ6_bitCount_0f7a4_16 : decode cJ6_bitCount_0f7a4 16 = .ok (.iconst 2, 1) := by decide +kernel
theorem dJ6_bitCount_0f7a4_17 : decode cJ6_bitCount_0f7a4 17 = .ok (.iushr, 1) := by decide +kernel
theorem dJ6_bitCount_0f7a4_18 : decode cJ6_bitCount_0f7a4 18 = .ok (.ldc_w 266, 3) := by decide +kernel
theorem dJ6_bitCount_0f7a4_21 : decode cJ6_bitCount_0f7a4 21 = .ok (.iand, 1) := by decide +kernel
theorem dJ6_bitCount_0f7a4_22 : decode cJ6_bitCount_0f7a4 22 = .ok (.iadd, 1) := by decide +kernel
theorem dJ6_bitCount_0f7a4_23 : decode cJ6_bitCount_0f7a4 23 = .ok (.istore_n 0, 1) := by decide +kernel
theorem dJ6_bitCount_0f7a4_24 : decode cJ6_bitCount_0f7a4 24 = .ok (.iload_n 0, 1) := by decide +kernel
theorem dJ6_bitCount_0f7a4_25 : decode cJ6_bitCount_0f7a4 25 = .ok (.iload_n 0, 1) := by decide +kernel
theorem dJ6_bitCount_0f7a4_26 : decode cJ6_bitCount_0f7a4 26 = .ok (.iconst 4, 1) := by decide +kernel
theorem dJ6_bitCount_0f7a4_27 : decode cJ6_bitCount_0f7a4 27 = .ok (.iushr, 1) := by decide +kernel
theorem dJ6_bitCount_0f7a4_28 : decode cJ6_bitCount_0f7a4 28 = .ok (.iadd, 1) := by decide +kernel
theorem dJ6_bitCount_0f7a4_29 : decode cJ6_bitCount_0f7a4 29 = .ok (.ldc_w 267, 3) := by decide +kernel
theorem dJ6_bitCount_0f7a4_32 : decode cJ6_bitCount_0f7a4 32 = .ok (.iand, 1) := by decide +kernel
theorem dJ6_bitCount_0f7a4_33 : decode cJ6_bitCount_0f7a4 33 = .ok (.istore_n 0, 1) := by decide +kernel
theorem dJ6_bitCount_0f7a4_34 : decode cJ6_bitCount_0f7a4 34 = .ok (.iload_n 0, 1) := by decide +kernel
theorem dJ6_bitCount_0f7a4_35 : decode cJ6_bitCount_0f7a4 35 = .ok (.iload_n 0, 1) := by decide +kernel
theorem dJ6_bitCount_0f7a4_36 : decode cJ6_bitCount_0f7a4 36 = .ok (.bipush 8, 2) := by decide +kernel
theorem dJ6_bitCount_0f7a4_38 : decode cJ6_bitCount_0f7a4 38 = .ok (.iushr, 1) := by decide +kernel
theorem dJ6_bitCount_0f7a4_39 : decode cJ6_bitCount_0f7a4 39 = .ok (.iadd, 1) := by decide +kernel
theorem dJ6_bitCount_0f7a4_40 : decode cJ6_bitCount_0f7a4 40 = .ok (.istore_n 0, 1) := by decide +kernel
theorem dJ6_bitCount_0f7a4_41 : decode cJ6_bitCount_0f7a4 41 = .ok (.iload_n 0, 1) := by decide +kernel
theorem dJ6_bitCount_0f7a4_42 : decode cJ6_bitCount_0f7a4 42 = .ok (.iload_n 0, 1) := by decide +kernel
theorem dJ6_bitCount_0f7a4_43 : decode cJ6_bitCount_0f7a4 43 = .ok (.bipush 16, 2) := by decide +kernel
theorem dJ6_bitCount_0f7a4_45 : decode cJ6_bitCount_0f7a4 45 = .ok (.iushr, 1) := by decide +kernel
theorem dJ6_bitCount_0f7a4_46 : decode cJ6_bitCount_0f7a4 46 = .ok (.iadd, 1) := by decide +kernel
theorem dJ6_bitCount_0f7a4_47 : decode cJ6_bitCount_0f7a4 47 = .ok (.istore_n 0, 1) := by decide +kernel
theorem dJ6_bitCount_0f7a4_48 : decode cJ6_bitCount_0f7a4 48 = .ok (.iload_n 0, 1) := by decide +kernel
theorem dJ6_bitCount_0f7a4_49 : decode cJ6_bitCount_0f7a4 49 = .ok (.bipush 63, 2) := by decide +kernel
theorem dJ6_bitCount_0f7a4_51 : decode cJ6_bitCount_0f7a4 51 = .ok (.iand, 1) := by decide +kernel
theorem dJ6_bitCount_0f7a4_52 : decode cJ6_bitCount_0f7a4 52 = .ok (.ireturn, 1) := by decide +kernel
theorem dJ13_bitCount_95d88_0 : decode cJ13_bitCount_95d88 0 = .ok (.lload_n 0, 1) := by decide +kernel
theorem dJ13_bitCount_95d88_1 : decode cJ13_bitCount_95d88 1 = .ok (.lload_n 0, 1) := by decide +kernel
theorem dJ13_bitCount_95d88_2 : decode cJ13_bitCount_95d88 2 = .ok (.iconst 1, 1) := by decide +kernel
theorem dJ13_bitCount_95d88_3 : decode cJ13_bitCount_95d88 3 = .ok (.lushr, 1) := by decide +kernel
theorem dJ13_bitCount_95d88_4 : decode cJ13_bitCount_95d88 4 = .ok (.ldc2_w 314, 3) := by decide +kernel
theorem dJ13_bitCount_95d88_7 : decode cJ13_bitCount_95d88 7 = .ok (.land, 1) := by decide +kernel
theorem dJ13_bitCount_95d88_8 : decode cJ13_bitCount_95d88 8 = .ok (.lsub, 1) := by decide +kernel
theorem dJ13_bitCount_95d88_9 : decode cJ13_bitCount_95d88 9 = .ok (.lstore_n 0, 1) := by decide +kernel
theorem dJ13_bitCount_95d88_10 : decode cJ13_bitCount_95d88 10 = .ok (.lload_n 0, 1) := by decide +kernel
theorem dJ13_bitCount_95d88_11 : decode cJ13_bitCount_95d88 11 = .ok (.ldc2_w 316, 3) := by decide +kernel
theorem dJ13_bitCount_95d88_14 : decode cJ13_bitCount_95d88 14 = .ok (.land, 1) := by decide +kernel
theorem dJ13_bitCount_95d88_15 : decode cJ13_bitCount_95d88 15 = .ok (.lload_n 0, 1) := by decide +kernel
theorem dJ13_bitCount_95d88_16 : decode cJ13_bitCount_95d88 16 = .ok (.iconst 2, 1) := by decide +kernel
theorem dJ13_bitCount_95d88_17 : decode cJ13_bitCount_95d88 17 = .ok (.lushr, 1) := by decide +kernel
theorem dJ13_bitCount_95d88_18 : decode cJ13_bitCount_95d88 18 = .ok (.ldc2_w 316, 3) := by decide +kernel
theorem dJ13_bitCount_95d88_21 : decode cJ13_bitCount_95d88 21 = .ok (.land, 1) := by decide +kernel
theorem dJ13_bitCount_95d88_22 : decode cJ13_bitCount_95d88 22 = .ok (.ladd, 1) := by decide +kernel
theorem dJ13_bitCount_95d88_23 : decode cJ13_bitCount_95d88 23 = .ok (.lstore_n 0, 1) := by decide +kernel
theorem dJ13_bitCount_95d88_24 : decode cJ13_bitCount_95d88 24 = .ok (.lload_n 0, 1) := by decide +kernel
theorem dJ13_bitCount_95d88_25 : decode cJ13_bitCount_95d88 25 = .ok (.lload_n 0, 1) := by decide +kernel
theorem dJ13_bitCount_95d88_26 : decode cJ13_bitCount_95d88 26 = .ok (.iconst 4, 1) := by decide +kernel
theorem dJ13_bitCount_95d88_27 : decode cJ13_bitCount_95d88 27 = .ok (.lushr, 1) := by decide +kernel
theorem dJ13_bitCount_95d88_28 : decode cJ13_bitCount_95d88 28 = .ok (.ladd, 1) := by decide +kernel
theorem dJ13_bitCount_95d88_29 : decode cJ13_bitCount_95d88 29 = .ok (.ldc2_w 318, 3) := by decide +kernel
theorem dJ13_bitCount_95d88_32 : decode cJ13_bitCount_95d88 32 = .ok (.land, 1) := by decide +kernel
theorem dJ13_bitCount_95d88_33 : decode cJ13_bitCount_95d88 33 = .ok (.lstore_n 0, 1) := by decide +kernel
theorem dJ13_bitCount_95d88_34 : decode cJ13_bitCount_95d88 34 = .ok (.lload_n 0, 1) := by decide +kernel
theorem dJ13_bitCount_95d88_35 : decode cJ13_bitCount_95d88 35 = .ok (.lload_n 0, 1) := by decide +kernel
theorem dJ13_bitCount_95d88_36 : decode cJ13_bitCount_95d88 36 = .ok (.bipush 8, 2) := by decide +kernel
theorem dJ13_bitCount_95d88_38 : decode cJ13_bitCount_95d88 38 = .ok (.lushr, 1) := by decide +kernel
theorem dJ13_bitCount_95d88_39 : decode cJ13_bitCount_95d88 39 = .ok (.ladd, 1) := by decide +kernel
theorem dJ13_bitCount_95d88_40 : decode cJ13_bitCount_95d88 40 = .ok (.lstore_n 0, 1) := by decide +kernel
theorem dJ13_bitCount_95d88_41 : decode cJ13_bitCount_95d88 41 = .ok (.lload_n 0, 1) := by decide +kernel
theorem dJ13_bitCount_95d88_42 : decode cJ13_bitCount_95d88 42 = .ok (.lload_n 0, 1) := by decide +kernel
theorem dJ13_bitCount_95d88_43 : decode cJ13_bitCount_95d88 43 = .ok (.bipush 16, 2) := by decide +kernel
theorem dJ13_bitCount_95d88_45 : decode cJ13_bitCount_95d88 45 = .ok (.lushr, 1) := by decide +kernel
theorem dJ13_bitCount_95d88_46 : decode cJ13_bitCount_95d88 46 = .ok (.ladd, 1) := by decide +kernel
theorem dJ13_bitCount_95d88_47 : decode cJ13_bitCount_95d88 47 = .ok (.lstore_n 0, 1) := by decide +kernel
theorem dJ13_bitCount_95d88_48 : decode cJ13_bitCount_95d88 48 = .ok (.lload_n 0, 1) := by decide +kernel
theorem dJ13_bitCount_95d88_49 : decode cJ13_bitCount_95d88 49 = .ok (.lload_n 0, 1) := by decide +kernel
theorem dJ13_bitCount_95d88_50 : decode cJ13_bitCount_95d88 50 = .ok (.bipush 32, 2) := by decide +kernel
theorem dJ13_bitCount_95d88_52 : decode cJ13_bitCount_95d88 52 = .ok (.lushr, 1) := by decide +kernel
theorem dJ13_bitCount_95d88_53 : decode cJ13_bitCount_95d88 53 = .ok (.ladd, 1) := by decide +kernel
theorem dJ13_bitCount_95d88_54 : decode cJ13_bitCount_95d88 54 = .ok (.lstore_n 0, 1) := by decide +kernel
theorem dJ13_bitCount_95d88_55 : decode cJ13_bitCount_95d88 55 = .ok (.lload_n 0, 1) := by decide +kernel
theorem dJ13_bitCount_95d88_56 : decode cJ13_bitCount_95d88 56 = .ok (.l2i, 1) := by decide +kernel
theorem dJ13_bitCount_95d88_57 : decode cJ13_bitCount_95d88 57 = .ok (.bipush 127, 2) := by decide +kernel
theorem dJ13_bitCount_95d88_59 : decode cJ13_bitCount_95d88 59 = .ok (.iand, 1) := by decide +kernel
theorem dJ13_bitCount_95d88_60 : decode cJ13_bitCount_95d88 60 = .ok (.ireturn, 1) := by decide +kernel
theorem dJ9_abs_067f4_0 : decode cJ9_abs_067f4 0 = .ok (.lload_n 0, 1) := by decide +kernel
theorem dJ9_abs_067f4_1 : decode cJ9_abs_067f4 1 = .ok (.lconst 0, 1) := by decide +kernel
theorem dJ9_abs_067f4_2 : decode cJ9_abs_067f4 2 = .ok (.lcmp, 1) := by decide +kernel
theorem dJ9_abs_067f4_3 : decode cJ9_abs_067f4 3 = .ok (.ifCond .ge 8, 3) := by decide +kernel
theorem dJ9_abs_067f4_6 : decode cJ9_abs_067f4 6 = .ok (.lload_n 0, 1) := by decide +kernel
theorem dJ9_abs_067f4_7 : decode cJ9_abs_067f4 7 = .ok (.lneg, 1) := by decide +kernel
theorem dJ9_abs_067f4_8 : decode cJ9_abs_067f4 8 = .ok (.goto 4, 3) := by decide +kernel
theorem dJ9_abs_067f4_11 : decode cJ9_abs_067f4 11 = .ok (.lload_n 0, 1) := by decide +kernel
theorem dJ9_abs_067f4_12 : decode cJ9_abs_067f4 12 = .ok (.lreturn, 1) := by decide +kernel
theorem dJ9_max_7cf53_0 : decode cJ9_max_7cf53 0 = .ok (.iload_n 0, 1) := by decide +kernel
theorem dJ9_max_7cf53_1 : decode cJ9_max_7cf53 1 = .ok (.iload_n 1, 1) := by decide +kernel
theorem dJ9_max_7cf53_2 : decode cJ9_max_7cf53 2 = .ok (.if_icmp .lt 7, 3) := by decide +kernel
theorem dJ9_max_7cf53_5 : decode cJ9_max_7cf53 5 = .ok (.iload_n 0, 1) := by decide +kernel
theorem dJ9_max_7cf53_6 : decode cJ9_max_7cf53 6 = .ok (.goto 4, 3) := by decide +kernel
theorem dJ9_max_7cf53_9 : decode cJ9_max_7cf53 9 = .ok (.iload_n 1, 1) := by decide +kernel
theorem dJ9_max_7cf53_10 : decode cJ9_max_7cf53 10 = .ok (.ireturn, 1) := by decide +kernel
theorem dJ9_max_f86c9_0 : decode cJ9_max_f86c9 0 = .ok (.lload_n 0, 1) := by decide +kernel
theorem dJ9_max_f86c9_1 : decode cJ9_max_f86c9 1 = .ok (.lload_n 2, 1) := by decide +kernel
theorem dJ9_max_f86c9_2 : decode cJ9_max_f86c9 2 = .ok (.lcmp, 1) := by decide +kernel
theorem dJ9_max_f86c9_3 : decode cJ9_max_f86c9 3 = .ok (.ifCond .lt 7, 3) := by decide +kernel
theorem dJ9_max_f86c9_6 : decode cJ9_max_f86c9 6 = .ok (.lload_n 0, 1) := by decide +kernel
theorem dJ9_max_f86c9_7 : decode cJ9_max_f86c9 7 = .ok (.goto 4, 3) := by decide +kernel
theorem dJ9_max_f86c9_10 : decode cJ9_max_f86c9 10 = .ok (.lload_n 2, 1) := by decide +kernel
theorem dJ9_max_f86c9_11 : decode cJ9_max_f86c9 11 = .ok (.lreturn, 1) := by decide +kernel
theorem dJ9_min_7cf53_0 : decode cJ9_min_7cf53 0 = .ok (.iload_n 0, 1) := by decide +kernel
theorem dJ9_min_7cf53_1 : decode cJ9_min_7cf53 1 = .ok (.iload_n 1, 1) := by decide +kernel
theorem dJ9_min_7cf53_2 : decode cJ9_min_7cf53 2 = .ok (.if_icmp .gt 7, 3) := by decide +kernel
theorem dJ9_min_7cf53_5 : decode cJ9_min_7cf53 5 = .ok (.iload_n 0, 1) := by decide +kernel
theorem dJ9_min_7cf53_6 : decode cJ9_min_7cf53 6 = .ok (.goto 4, 3) := by decide +kernel
theorem dJ9_min_7cf53_9 : decode cJ9_min_7cf53 9 = .ok (.iload_n 1, 1) := by decide +kernel
theorem dJ9_min_7cf53_10 : decode cJ9_min_7cf53 10 = .ok (.ireturn, 1) := by decide +kernel
theorem dJ9_min_f86c9_0 : decode cJ9_min_f86c9 0 = .ok (.lload_n 0, 1) := by decide +kernel
theorem dJ9_min_f86c9_1 : decode cJ9_min_f86c9 1 = .ok (.lload_n 2, 1) := by decide +kernel
theorem dJ9_min_f86c9_2 : decode cJ9_min_f86c9 2 = .ok (.lcmp, 1) := by decide +kernel
theorem dJ9_min_f86c9_3 : decode cJ9_min_f86c9 3 = .ok (.ifCond .gt 7, 3) := by decide +kernel
theorem dJ9_min_f86c9_6 : decode cJ9_min_f86c9 6 = .ok (.lload_n 0, 1) := by decide +kernel
theorem dJ9_min_f86c9_7 : decode cJ9_min_f86c9 7 = .ok (.goto 4, 3) := by decide +kernel
theorem dJ9_min_f86c9_10 : decode cJ9_min_f86c9 10 = .ok (.lload_n 2, 1) := by decide +kernel
theorem dJ9_min_f86c9_11 : decode cJ9_min_f86c9 11 = .ok (.lreturn, 1) := by decide +kernel
theorem dJ0_charAt_5068e_0 : decode cJ0_charAt_5068e 0 = .ok (.aload_n 0, 1) := by decide +kernel
theorem dJ0_charAt_5068e_1 : decode cJ0_charAt_5068e 1 = .ok (.invokevirtual 492, 3) := by decide +kernel
theorem dJ0_charAt_5068e_4 : decode cJ0_charAt_5068e 4 = .ok (.ifCond .eq 12, 3) := by decide +kernel
theorem dJ0_charAt_5068e_7 : decode cJ0_charAt_5068e 7 = .ok (.aload_n 0, 1) := by decide +kernel
theorem dJ0_charAt_5068e_8 : decode cJ0_charAt_5068e 8 = .ok (.getfield 9, 3) := by decide +kernel
theorem dJ0_charAt_5068e_11 : decode cJ0_charAt_5068e 11 = .ok (.iload_n 1, 1) := by decide +kernel
theorem dJ0_charAt_5068e_12 : decode cJ0_charAt_5068e 12 = .ok (.invokestatic 495, 3) := by decide +kernel
theorem dJ0_charAt_5068e_15 : decode cJ0_charAt_5068e 15 = .ok (.ireturn, 1) := by decide +kernel
theorem dJ0_charAt_5068e_16 : decode cJ0_charAt_5068e 16 = .ok (.aload_n 0, 1) := by decide +kernel
theorem dJ0_charAt_5068e_17 : decode cJ0_charAt_5068e 17 = .ok (.getfield 9, 3) := by decide +kernel
theorem dJ0_charAt_5068e_20 : decode cJ0_charAt_5068e 20 = .ok (.iload_n 1, 1) := by decide +kernel
theorem dJ0_charAt_5068e_24 : decode cJ0_charAt_5068e 24 = .ok (.ireturn, 1) := by decide +kernel
theorem dJ0_checkIndex_df160_0 : decode cJ0_checkIndex_df160 0 = .ok (.iload_n 0, 1) := by decide +kernel
theorem dJ0_checkIndex_df160_1 : decode cJ0_checkIndex_df160 1 = .ok (.iload_n 1, 1) := by decide +kernel
theorem dJ0_checkIndex_df160_2 : decode cJ0_checkIndex_df160 2 = .ok (.getstatic 1053, 3) := by decide +kernel
theorem dJ0_checkIndex_df160_5 : decode cJ0_checkIndex_df160 5 = .ok (.invokestatic 1059, 3) := by decide +kernel
theorem dJ0_checkIndex_df160_8 : decode cJ0_checkIndex_df160 8 = .ok (.pop, 1) := by decide +kernel
theorem dJ0_checkIndex_df160_9 : decode cJ0_checkIndex_df160 9 = .ok (.return_, 1) := by decide +kernel
theorem dJ0_coder_7d493_0 : decode cJ0_coder_7d493 0 = .ok (.getstatic 38, 3) := by decide +kernel
theorem dJ0_coder_7d493_3 : decode cJ0_coder_7d493 3 = .ok (.ifCond .eq 10, 3) := by decide +kernel
theorem dJ0_coder_7d493_6 : decode cJ0_coder_7d493 6 = .ok (.aload_n 0, 1) := by decide +kernel
theorem dJ0_coder_7d493_7 : decode cJ0_coder_7d493 7 = .ok (.getfield 15, 3) := by decide +kernel
theorem dJ0_coder_7d493_10 : decode cJ0_coder_7d493 10 = .ok (.goto 4, 3) := by decide +kernel
theorem dJ0_coder_7d493_13 : decode cJ0_coder_7d493 13 = .ok (.iconst 1, 1) := by decide +kernel
theorem dJ0_coder_7d493_14 : decode cJ0_coder_7d493 14 = .ok (.ireturn, 1) := by decide +kernel
theorem dJ0_isLatin1_aae02_0 : decode cJ0_isLatin1_aae02 0 = .ok (.getstatic 38, 3) := by decide +kernel
theorem dJ0_isLatin1_aae02_3 : decode cJ0_isLatin1_aae02 3 = .ok (.ifCond .eq 14, 3) := by decide +kernel
theorem dJ0_isLatin1_aae02_6 : decode cJ0_isLatin1_aae02 6 = .ok (.aload_n 0, 1) := by decide +kernel
theorem dJ0_isLatin1_aae02_7 : decode cJ0_isLatin1_aae02 7 = .ok (.getfield 15, 3) := by decide +kernel
theorem dJ0_isLatin1_aae02_10 : decode cJ0_isLatin1_aae02 10 = .ok (.ifCond .ne 7, 3) := by decide +kernel
theorem dJ0_isLatin1_aae02_13 : decode cJ0_isLatin1_aae02 13 = .ok (.iconst 1, 1) := by decide +kernel
theorem dJ0_isLatin1_aae02_14 : decode cJ0_isLatin1_aae02 14 = .ok (.goto 4, 3) := by decide +kernel
theorem dJ0_isLatin1_aae02_17 : decode cJ0_isLatin1_aae02 17 = .ok (.iconst 0, 1) := by decide +kernel
theorem dJ0_isLatin1_aae02_18 : decode cJ0_isLatin1_aae02 18 = .ok (.ireturn, 1) := by decide +kernel
theorem dJ0_length_8abf5_0 : decode cJ0_length_8abf5 0 = .ok (.aload_n 0, 1) := by decide +kernel
theorem dJ0_length_8abf5_1 : decode cJ0_length_8abf5 1 = .ok (.getfield 9, 3) := by decide +kernel
theorem dJ0_length_8abf5_4 : decode cJ0_length_8abf5 4 = .ok (.arraylength, 1) := by decide +kernel
theorem dJ0_length_8abf5_5 : decode cJ0_length_8abf5 5 = .ok (.aload_n 0, 1) := by decide +kernel
theorem dJ0_length_8abf5_6 : decode cJ0_length_8abf5 6 = .ok (.invokevirtual 335, 3) := by decide +kernel
theorem dJ0_length_8abf5_9 : decode cJ0_length_8abf5 9 = .ok (.ishr, 1) := by decide +kernel
theorem dJ0_length_8abf5_10 : decode cJ0_length_8abf5 10 = .ok (.ireturn, 1) := by decide +kernel
theorem dJ1_charAt_3b067_0 : decode cJ1_charAt_3b067 0 = .ok (.iload_n 1, 1) := by decide +kernel
theorem dJ1_charAt_3b067_1 : decode cJ1_charAt_3b067 1 = .ok (.aload_n 0, 1) := by decide +kernel
theorem dJ1_charAt_3b067_2 : decode cJ1_charAt_3b067 2 = .ok (.arraylength, 1) := by decide +kernel
theorem dJ1_charAt_3b067_3 : decode cJ1_charAt_3b067 3 = .ok (.invokestatic 9, 3) := by decide +kernel
theorem dJ1_charAt_3b067_6 : decode cJ1_charAt_3b067 6 = .ok (.aload_n 0, 1) := by decide +kernel
theorem dJ1_charAt_3b067_7 : decode cJ1_charAt_3b067 7 = .ok (.iload_n 1, 1) := by decide +kernel
theorem dJ1_charAt_3b067_8 : decode cJ1_charAt_3b067 8 = .ok (.baload, 1) := by decide +kernel
theorem dJ1_charAt_3b067_9 : decode cJ1_charAt_3b067 9 = .ok (.sipush 255, 3) := by decide +kernel
theorem dJ1_charAt_3b067_12 : decode cJ1_charAt_3b067 12 = .ok (.iand, 1) := by decide +kernel
theorem dJ1_charAt_3b067_13 : decode cJ1_charAt_3b067 13 = .ok (.i2c, 1) := by decide +kernel
theorem dJ1_charAt_3b067_14 : decode cJ1_charAt_3b067 14 = .ok (.ireturn, 1) := by decide +kernel
theorem dJ7_fill_53178_0 : decode cJ7_fill_53178 0 = .ok (.iconst 0, 1) := by decide +kernel
theorem dJ7_fill_53178_1 : decode cJ7_fill_53178 1 = .ok (.istore_n 2, 1) := by decide +kernel
theorem dJ7_fill_53178_2 : decode cJ7_fill_53178 2 = .ok (.aload_n 0, 1) := by decide +kernel
theorem dJ7_fill_53178_3 : decode cJ7_fill_53178 3 = .ok (.arraylength, 1) := by decide +kernel
theorem dJ7_fill_53178_4 : decode cJ7_fill_53178 4 = .ok (.istore_n 3, 1) := by decide +kernel
theorem dJ7_fill_53178_5 : decode cJ7_fill_53178 5 = .ok (.iload_n 2, 1) := by decide +kernel
theorem dJ7_fill_53178_6 : decode cJ7_fill_53178 6 = .ok (.iload_n 3, 1) := by decide +kernel
theorem dJ7_fill_53178_7 : decode cJ7_fill_53178 7 = .ok (.if_icmp .ge 13, 3) := by decide +kernel
theorem dJ7_fill_53178_10 : decode cJ7_fill_53178 10 = .ok (.aload_n 0, 1) := by decide +kernel
theorem dJ7_fill_53178_11 : decode cJ7_fill_53178 11 = .ok (.iload_n 2, 1) := by decide +kernel
theorem dJ7_fill_53178_12 : decode cJ7_fill_53178 12 = .ok (.iload_n 1, 1) := by decide +kernel
theorem dJ7_fill_53178_13 : decode cJ7_fill_53178 13 = .ok (.iastore, 1) := by decide +kernel
theorem dJ7_fill_53178_14 : decode cJ7_fill_53178 14 = .ok (.iinc 2 1, 3) := by decide +kernel
theorem dJ7_fill_53178_17 : decode cJ7_fill_53178 17 = .ok (.goto (-12), 3) := by decide +kernel
theorem dJ7_fill_53178_20 : decode cJ7_fill_53178 20 = .ok (.return_, 1) := by decide +kernel
theorem dJ3_checkIndex_8e157_0 : decode cJ3_checkIndex_8e157 0 = .ok (.iload_n 0, 1) := by decide +kernel
theorem dJ3_checkIndex_8e157_1 : decode cJ3_checkIndex_8e157 1 = .ok (.ifCond .lt 8, 3) := by decide +kernel
theorem dJ3_checkIndex_8e157_4 : decode cJ3_checkIndex_8e157 4 = .ok (.iload_n 0, 1) := by decide +kernel
theorem dJ3_checkIndex_8e157_5 : decode cJ3_checkIndex_8e157 5 = .ok (.iload_n 1, 1) := by decide +kernel
theorem dJ3_checkIndex_8e157_6 : decode cJ3_checkIndex_8e157 6 = .ok (.if_icmp .lt 10, 3) := by decide +kernel
theorem dJ3_checkIndex_8e157_9 : decode cJ3_checkIndex_8e157 9 = .ok (.aload_n 2, 1) := by decide +kernel
theorem dJ3_checkIndex_8e157_10 : decode cJ3_checkIndex_8e157 10 = .ok (.iload_n 0, 1) := by decide +kernel
theorem dJ3_checkIndex_8e157_11 : decode cJ3_checkIndex_8e157 11 = .ok (.iload_n 1, 1) := by decide +kernel
theorem dJ3_checkIndex_8e157_16 : decode cJ3_checkIndex_8e157 16 = .ok (.iload_n 0, 1) := by decide +kernel
theorem dJ3_checkIndex_8e157_17 : decode cJ3_checkIndex_8e157 17 = .ok (.ireturn, 1) := by decide +kernel
theorem dqo {c : ByteArray} {L : List (Nat × Instr × Nat)} (h : L.all (fun q => decide (decode c q.1 = .ok (q.2.1, q.2.2))) = true) {q : Nat × Instr × Nat} (i : Nat) (hi : L[i]? = some q) : decode c q.1 = .ok (q.2.1, q.2.2) := of_decide_eq_true (List.all_eq_true.mp h q (List.mem_of_getElem? hi))
def dql_0 : List (Nat × Instr × Nat) := [(0, .new 8, 3), (3, .dup, 1), (4, .invokespecial 17, 3), (7, .astore_n 1, 1), (8, .new 18, 3), (11, .dup, 1), (12, .invokespecial 20, 3), (15, .astore_n 2, 1), (16, .iconst 1, 1), (17, .newarray .long, 2), (19, .astore_n 3, 1), (20, .iconst 0, 1), (21, .istore 4, 2), (23, .iload 4, 2), (25, .aload_n 0, 1), (26, .arraylength, 1), (27, .bipush 6, 2), (29, .isub, 1), (30, .if_icmp .gt 1426, 3), (33, .aload_n 0, 1), (34, .iload 4, 2), (36, .iaload, 1), (37, .bipush 63, 2), (39, .iand, 1), (40, .tableswitch 1410 0 34 #[156, 229, 254, 279, 316, 384, 421, 458, 507, 556, 605, 642, 667, 716, 729, 766, 803, 816, 853, 902, 951, 976, 1001, 1026, 1051, 1064, 1101, 1114, 1175, 1248, 1285, 1310, 1359, 1372, 1385], 156), (196, .aload_n 1, 1), (197, .aload_n 0, 1), (198, .iload 4, 2), (200, .iconst 1, 1), (201, .iadd, 1), (202, .iaload, 1), (203, .aload_n 0, 1), (204, .iload 4, 2), (206, .iconst 2, 1), (207, .iadd, 1), (208, .iaload, 1), (209, .aload_n 0, 1), (210, .iload 4, 2), (212, .iconst 3, 1), (213, .iadd, 1)]
theorem adql_0 : dql_0.all (fun q => decide (decode cL_law q.1 = .ok (q.2.1, q.2.2))) = true := by decide +kernel
theorem dL_law_0 : decode cL_law 0 = .ok (.new 8, 3) := dqo adql_0 (q := (0, .new 8, 3)) 0 rfl
theorem dL_law_3 : decode cL_law 3 = .ok (.dup, 1) := dqo adql_0 (q := (3, .dup, 1)) 1 rfl
theorem dL_law_4 : decode cL_law 4 = .ok (.invokespecial 17, 3) := dqo adql_0 (q := (4, .invokespecial 17, 3)) 2 rfl
theorem dL_law_7 : decode cL_law 7 = .ok (.astore_n 1, 1) := dqo adql_0 (q := (7, .astore_n 1, 1)) 3 rfl
theorem dL_law_8 : decode cL_law 8 = .ok (.new 18, 3) := dqo adql_0 (q := (8, .new 18, 3)) 4 rfl
theorem dL_law_11 : decode cL_law 11 = .ok (.dup, 1) := dqo adql_0 (q := (11, .dup, 1)) 5 rfl
theorem dL_law_12 : decode cL_law 12 = .ok (.invokespecial 20, 3) := dqo adql_0 (q := (12, .invokespecial 20, 3)) 6 rfl
theorem dL_law_15 : decode cL_law 15 = .ok (.astore_n 2, 1) := dqo adql_0 (q := (15, .astore_n 2, 1)) 7 rfl
theorem dL_law_16 : decode cL_law 16 = .ok (.iconst 1, 1) := dqo adql_0 (q := (16, .iconst 1, 1)) 8 rfl
theorem dL_law_17 : decode cL_law 17 = .ok (.newarray .long, 2) := dqo adql_0 (q := (17, .newarray .long, 2)) 9 rfl
theorem dL_law_19 : decode cL_law 19 = .ok (.astore_n 3, 1) := dqo adql_0 (q := (19, .astore_n 3, 1)) 10 rfl
theorem dL_law_20 : decode cL_law 20 = .ok (.iconst 0, 1) := dqo adql_0 (q := (20, .iconst 0, 1)) 11 rfl
theorem dL_law_21 : decode cL_law 21 = .ok (.istore 4, 2) := dqo adql_0 (q := (21, .istore 4, 2)) 12 rfl
theorem dL_law_23 : decode cL_law 23 = .ok (.iload 4, 2) := dqo adql_0 (q := (23, .iload 4, 2)) 13 rfl
theorem dL_law_25 : decode cL_law 25 = .ok (.aload_n 0, 1) := dqo adql_0 (q := (25, .aload_n 0, 1)) 14 rfl
theorem dL_law_26 : decode cL_law 26 = .ok (.arraylength, 1) := dqo adql_0 (q := (26, .arraylength, 1)) 15 rfl
theorem dL_law_27 : decode cL_law 27 = .ok (.bipush 6, 2) := dqo adql_0 (q := (27, .bipush 6, 2)) 16 rfl
theorem dL_law_29 : decode cL_law 29 = .ok (.isub, 1) := dqo adql_0 (q := (29, .isub, 1)) 17 rfl
theorem dL_law_30 : decode cL_law 30 = .ok (.if_icmp .gt 1426, 3) := dqo adql_0 (q := (30, .if_icmp .gt 1426, 3)) 18 rfl
theorem dL_law_33 : decode cL_law 33 = .ok (.aload_n 0, 1) := dqo adql_0 (q := (33, .aload_n 0, 1)) 19 rfl
theorem dL_law_34 : decode cL_law 34 = .ok (.iload 4, 2) := dqo adql_0 (q := (34, .iload 4, 2)) 20 rfl
theorem dL_law_36 : decode cL_law 36 = .ok (.iaload, 1) := dqo adql_0 (q := (36, .iaload, 1)) 21 rfl
theorem dL_law_37 : decode cL_law 37 = .ok (.bipush 63, 2) := dqo adql_0 (q := (37, .bipush 63, 2)) 22 rfl
theorem dL_law_39 : decode cL_law 39 = .ok (.iand, 1) := dqo adql_0 (q := (39, .iand, 1)) 23 rfl
theorem dL_law_40 : decode cL_law 40 = .ok (.tableswitch 1410 0 34 #[156, 229, 254, 279, 316, 384, 421, 458, 507, 556, 605, 642, 667, 716, 729, 766, 803, 816, 853, 902, 951, 976, 1001, 1026, 1051, 1064, 1101, 1114, 1175, 1248, 1285, 1310, 1359, 1372, 1385], 156) := dqo adql_0 (q := (40, .tableswitch 1410 0 34 #[156, 229, 254, 279, 316, 384, 421, 458, 507, 556, 605, 642, 667, 716, 729, 766, 803, 816, 853, 902, 951, 976, 1001, 1026, 1051, 1064, 1101, 1114, 1175, 1248, 1285, 1310, 1359, 1372, 1385], 156)) 24 rfl
theorem dL_law_196 : decode cL_law 196 = .ok (.aload_n 1, 1) := dqo adql_0 (q := (196, .aload_n 1, 1)) 25 rfl
theorem dL_law_197 : decode cL_law 197 = .ok (.aload_n 0, 1) := dqo adql_0 (q := (197, .aload_n 0, 1)) 26 rfl
theorem dL_law_198 : decode cL_law 198 = .ok (.iload 4, 2) := dqo adql_0 (q := (198, .iload 4, 2)) 27 rfl
theorem dL_law_200 : decode cL_law 200 = .ok (.iconst 1, 1) := dqo adql_0 (q := (200, .iconst 1, 1)) 28 rfl
theorem dL_law_201 : decode cL_law 201 = .ok (.iadd, 1) := dqo adql_0 (q := (201, .iadd, 1)) 29 rfl
theorem dL_law_202 : decode cL_law 202 = .ok (.iaload, 1) := dqo adql_0 (q := (202, .iaload, 1)) 30 rfl
theorem dL_law_203 : decode cL_law 203 = .ok (.aload_n 0, 1) := dqo adql_0 (q := (203, .aload_n 0, 1)) 31 rfl
theorem dL_law_204 : decode cL_law 204 = .ok (.iload 4, 2) := dqo adql_0 (q := (204, .iload 4, 2)) 32 rfl
theorem dL_law_206 : decode cL_law 206 = .ok (.iconst 2, 1) := dqo adql_0 (q := (206, .iconst 2, 1)) 33 rfl
theorem dL_law_207 : decode cL_law 207 = .ok (.iadd, 1) := dqo adql_0 (q := (207, .iadd, 1)) 34 rfl
theorem dL_law_208 : decode cL_law 208 = .ok (.iaload, 1) := dqo adql_0 (q := (208, .iaload, 1)) 35 rfl
theorem dL_law_209 : decode cL_law 209 = .ok (.aload_n 0, 1) := dqo adql_0 (q := (209, .aload_n 0, 1)) 36 rfl
theorem dL_law_210 : decode cL_law 210 = .ok (.iload 4, 2) := dqo adql_0 (q := (210, .iload 4, 2)) 37 rfl
theorem dL_law_212 : decode cL_law 212 = .ok (.iconst 3, 1) := dqo adql_0 (q := (212, .iconst 3, 1)) 38 rfl
theorem dL_law_213 : decode cL_law 213 = .ok (.iadd, 1) := dqo adql_0 (q := (213, .iadd, 1)) 39 rfl
def dql_1 : List (Nat × Instr × Nat) := [(214, .iaload, 1), (215, .aload_n 0, 1), (216, .iload 4, 2), (218, .iconst 4, 1), (219, .iadd, 1), (220, .iaload, 1), (221, .aload_n 0, 1), (222, .iload 4, 2), (224, .iconst 5, 1), (225, .iadd, 1), (226, .iaload, 1), (227, .invokevirtual 21, 3), (230, .pop, 1), (231, .aload_n 2, 1), (232, .aload_n 0, 1), (233, .iload 4, 2), (235, .iconst 1, 1), (236, .iadd, 1), (237, .iaload, 1), (238, .aload_n 0, 1), (239, .iload 4, 2), (241, .iconst 2, 1), (242, .iadd, 1), (243, .iaload, 1), (244, .aload_n 0, 1), (245, .iload 4, 2), (247, .iconst 3, 1), (248, .iadd, 1), (249, .iaload, 1), (250, .aload_n 0, 1), (251, .iload 4, 2), (253, .iconst 4, 1), (254, .iadd, 1), (255, .iaload, 1), (256, .aload_n 0, 1), (257, .iload 4, 2), (259, .iconst 5, 1), (260, .iadd, 1), (261, .iaload, 1), (262, .invokevirtual 25, 3)]
theorem adql_1 : dql_1.all (fun q => decide (decode cL_law q.1 = .ok (q.2.1, q.2.2))) = true := by decide +kernel
theorem dL_law_214 : decode cL_law 214 = .ok (.iaload, 1) := dqo adql_1 (q := (214, .iaload, 1)) 0 rfl
theorem dL_law_215 : decode cL_law 215 = .ok (.aload_n 0, 1) := dqo adql_1 (q := (215, .aload_n 0, 1)) 1 rfl
theorem dL_law_216 : decode cL_law 216 = .ok (.iload 4, 2) := dqo adql_1 (q := (216, .iload 4, 2)) 2 rfl
theorem dL_law_218 : decode cL_law 218 = .ok (.iconst 4, 1) := dqo adql_1 (q := (218, .iconst 4, 1)) 3 rfl
theorem dL_law_219 : decode cL_law 219 = .ok (.iadd, 1) := dqo adql_1 (q := (219, .iadd, 1)) 4 rfl
theorem dL_law_220 : decode cL_law 220 = .ok (.iaload, 1) := dqo adql_1 (q := (220, .iaload, 1)) 5 rfl
theorem dL_law_221 : decode cL_law 221 = .ok (.aload_n 0, 1) := dqo adql_1 (q := (221, .aload_n 0, 1)) 6 rfl
theorem dL_law_222 : decode cL_law 222 = .ok (.iload 4, 2) := dqo adql_1 (q := (222, .iload 4, 2)) 7 rfl
theorem dL_law_224 : decode cL_law 224 = .ok (.iconst 5, 1) := dqo adql_1 (q := (224, .iconst 5, 1)) 8 rfl
theorem dL_law_225 : decode cL_law 225 = .ok (.iadd, 1) := dqo adql_1 (q := (225, .iadd, 1)) 9 rfl
theorem dL_law_226 : decode cL_law 226 = .ok (.iaload, 1) := dqo adql_1 (q := (226, .iaload, 1)) 10 rfl
theorem dL_law_227 : decode cL_law 227 = .ok (.invokevirtual 21, 3) := dqo adql_1 (q := (227, .invokevirtual 21, 3)) 11 rfl
theorem dL_law_230 : decode cL_law 230 = .ok (.pop, 1) := dqo adql_1 (q := (230, .pop, 1)) 12 rfl
theorem dL_law_231 : decode cL_law 231 = .ok (.aload_n 2, 1) := dqo adql_1 (q := (231, .aload_n 2, 1)) 13 rfl
theorem dL_law_232 : decode cL_law 232 = .ok (.aload_n 0, 1) := dqo adql_1 (q := (232, .aload_n 0, 1)) 14 rfl
theorem dL_law_233 : decode cL_law 233 = .ok (.iload 4, 2) := dqo adql_1 (q := (233, .iload 4, 2)) 15 rfl
theorem dL_law_235 : decode cL_law 235 = .ok (.iconst 1, 1) := dqo adql_1 (q := (235, .iconst 1, 1)) 16 rfl
theorem dL_law_236 : decode cL_law 236 = .ok (.iadd, 1) := dqo adql_1 (q := (236, .iadd, 1)) 17 rfl
theorem dL_law_237 : decode cL_law 237 = .ok (.iaload, 1) := dqo adql_1 (q := (237, .iaload, 1)) 18 rfl
theorem dL_law_238 : decode cL_law 238 = .ok (.aload_n 0, 1) := dqo adql_1 (q := (238, .aload_n 0, 1)) 19 rfl
theorem dL_law_239 : decode cL_law 239 = .ok (.iload 4, 2) := dqo adql_1 (q := (239, .iload 4, 2)) 20 rfl
theorem dL_law_241 : decode cL_law 241 = .ok (.iconst 2, 1) := dqo adql_1 (q := (241, .iconst 2, 1)) 21 rfl
theorem dL_law_242 : decode cL_law 242 = .ok (.iadd, 1) := dqo adql_1 (q := (242, .iadd, 1)) 22 rfl
theorem dL_law_243 : decode cL_law 243 = .ok (.iaload, 1) := dqo adql_1 (q := (243, .iaload, 1)) 23 rfl
theorem dL_law_244 : decode cL_law 244 = .ok (.aload_n 0, 1) := dqo adql_1 (q := (244, .aload_n 0, 1)) 24 rfl
theorem dL_law_245 : decode cL_law 245 = .ok (.iload 4, 2) := dqo adql_1 (q := (245, .iload 4, 2)) 25 rfl
theorem dL_law_247 : decode cL_law 247 = .ok (.iconst 3, 1) := dqo adql_1 (q := (247, .iconst 3, 1)) 26 rfl
theorem dL_law_248 : decode cL_law 248 = .ok (.iadd, 1) := dqo adql_1 (q := (248, .iadd, 1)) 27 rfl
theorem dL_law_249 : decode cL_law 249 = .ok (.iaload, 1) := dqo adql_1 (q := (249, .iaload, 1)) 28 rfl
theorem dL_law_250 : decode cL_law 250 = .ok (.aload_n 0, 1) := dqo adql_1 (q := (250, .aload_n 0, 1)) 29 rfl
theorem dL_law_251 : decode cL_law 251 = .ok (.iload 4, 2) := dqo adql_1 (q := (251, .iload 4, 2)) 30 rfl
theorem dL_law_253 : decode cL_law 253 = .ok (.iconst 4, 1) := dqo adql_1 (q := (253, .iconst 4, 1)) 31 rfl
theorem dL_law_254 : decode cL_law 254 = .ok (.iadd, 1) := dqo adql_1 (q := (254, .iadd, 1)) 32 rfl
theorem dL_law_255 : decode cL_law 255 = .ok (.iaload, 1) := dqo adql_1 (q := (255, .iaload, 1)) 33 rfl
theorem dL_law_256 : decode cL_law 256 = .ok (.aload_n 0, 1) := dqo adql_1 (q := (256, .aload_n 0, 1)) 34 rfl
theorem dL_law_257 : decode cL_law 257 = .ok (.iload 4, 2) := dqo adql_1 (q := (257, .iload 4, 2)) 35 rfl
theorem dL_law_259 : decode cL_law 259 = .ok (.iconst 5, 1) := dqo adql_1 (q := (259, .iconst 5, 1)) 36 rfl
theorem dL_law_260 : decode cL_law 260 = .ok (.iadd, 1) := dqo adql_1 (q := (260, .iadd, 1)) 37 rfl
theorem dL_law_261 : decode cL_law 261 = .ok (.iaload, 1) := dqo adql_1 (q := (261, .iaload, 1)) 38 rfl
theorem dL_law_262 : decode cL_law 262 = .ok (.invokevirtual 25, 3) := dqo adql_1 (q := (262, .invokevirtual 25, 3)) 39 rfl
def dql_2 : List (Nat × Instr × Nat) := [(265, .pop, 1), (266, .goto 1184, 3), (269, .aload_n 1, 1), (270, .aload_n 0, 1), (271, .iload 4, 2), (273, .iconst 1, 1), (274, .iadd, 1), (275, .iaload, 1), (276, .invokevirtual 26, 3), (279, .pop, 1), (280, .aload_n 2, 1), (281, .aload_n 0, 1), (282, .iload 4, 2), (284, .iconst 1, 1), (285, .iadd, 1), (286, .iaload, 1), (287, .invokevirtual 30, 3), (290, .pop, 1), (291, .goto 1159, 3), (294, .aload_n 1, 1), (295, .aload_n 0, 1), (296, .iload 4, 2), (298, .iconst 1, 1), (299, .iadd, 1), (300, .iaload, 1), (301, .invokevirtual 31, 3), (304, .pop, 1), (305, .aload_n 2, 1), (306, .aload_n 0, 1), (307, .iload 4, 2), (309, .iconst 1, 1), (310, .iadd, 1), (311, .iaload, 1), (312, .invokevirtual 34, 3), (315, .pop, 1), (316, .goto 1134, 3), (319, .aload_n 1, 1), (320, .aload_n 0, 1), (321, .iload 4, 2), (323, .iconst 1, 1)]
theorem adql_2 : dql_2.all (fun q => decide (decode cL_law q.1 = .ok (q.2.1, q.2.2))) = true := by decide +kernel
theorem dL_law_265 : decode cL_law 265 = .ok (.pop, 1) := dqo adql_2 (q := (265, .pop, 1)) 0 rfl
theorem dL_law_266 : decode cL_law 266 = .ok (.goto 1184, 3) := dqo adql_2 (q := (266, .goto 1184, 3)) 1 rfl
theorem dL_law_269 : decode cL_law 269 = .ok (.aload_n 1, 1) := dqo adql_2 (q := (269, .aload_n 1, 1)) 2 rfl
theorem dL_law_270 : decode cL_law 270 = .ok (.aload_n 0, 1) := dqo adql_2 (q := (270, .aload_n 0, 1)) 3 rfl
theorem dL_law_271 : decode cL_law 271 = .ok (.iload 4, 2) := dqo adql_2 (q := (271, .iload 4, 2)) 4 rfl
theorem dL_law_273 : decode cL_law 273 = .ok (.iconst 1, 1) := dqo adql_2 (q := (273, .iconst 1, 1)) 5 rfl
theorem dL_law_274 : decode cL_law 274 = .ok (.iadd, 1) := dqo adql_2 (q := (274, .iadd, 1)) 6 rfl
theorem dL_law_275 : decode cL_law 275 = .ok (.iaload, 1) := dqo adql_2 (q := (275, .iaload, 1)) 7 rfl
theorem dL_law_276 : decode cL_law 276 = .ok (.invokevirtual 26, 3) := dqo adql_2 (q := (276, .invokevirtual 26, 3)) 8 rfl
theorem dL_law_279 : decode cL_law 279 = .ok (.pop, 1) := dqo adql_2 (q := (279, .pop, 1)) 9 rfl
theorem dL_law_280 : decode cL_law 280 = .ok (.aload_n 2, 1) := dqo adql_2 (q := (280, .aload_n 2, 1)) 10 rfl
theorem dL_law_281 : decode cL_law 281 = .ok (.aload_n 0, 1) := dqo adql_2 (q := (281, .aload_n 0, 1)) 11 rfl
theorem dL_law_282 : decode cL_law 282 = .ok (.iload 4, 2) := dqo adql_2 (q := (282, .iload 4, 2)) 12 rfl
theorem dL_law_284 : decode cL_law 284 = .ok (.iconst 1, 1) := dqo adql_2 (q := (284, .iconst 1, 1)) 13 rfl
theorem dL_law_285 : decode cL_law 285 = .ok (.iadd, 1) := dqo adql_2 (q := (285, .iadd, 1)) 14 rfl
theorem dL_law_286 : decode cL_law 286 = .ok (.iaload, 1) := dqo adql_2 (q := (286, .iaload, 1)) 15 rfl
theorem dL_law_287 : decode cL_law 287 = .ok (.invokevirtual 30, 3) := dqo adql_2 (q := (287, .invokevirtual 30, 3)) 16 rfl
theorem dL_law_290 : decode cL_law 290 = .ok (.pop, 1) := dqo adql_2 (q := (290, .pop, 1)) 17 rfl
theorem dL_law_291 : decode cL_law 291 = .ok (.goto 1159, 3) := dqo adql_2 (q := (291, .goto 1159, 3)) 18 rfl
theorem dL_law_294 : decode cL_law 294 = .ok (.aload_n 1, 1) := dqo adql_2 (q := (294, .aload_n 1, 1)) 19 rfl
theorem dL_law_295 : decode cL_law 295 = .ok (.aload_n 0, 1) := dqo adql_2 (q := (295, .aload_n 0, 1)) 20 rfl
theorem dL_law_296 : decode cL_law 296 = .ok (.iload 4, 2) := dqo adql_2 (q := (296, .iload 4, 2)) 21 rfl
theorem dL_law_298 : decode cL_law 298 = .ok (.iconst 1, 1) := dqo adql_2 (q := (298, .iconst 1, 1)) 22 rfl
theorem dL_law_299 : decode cL_law 299 = .ok (.iadd, 1) := dqo adql_2 (q := (299, .iadd, 1)) 23 rfl
theorem dL_law_300 : decode cL_law 300 = .ok (.iaload, 1) := dqo adql_2 (q := (300, .iaload, 1)) 24 rfl
theorem dL_law_301 : decode cL_law 301 = .ok (.invokevirtual 31, 3) := dqo adql_2 (q := (301, .invokevirtual 31, 3)) 25 rfl
theorem dL_law_304 : decode cL_law 304 = .ok (.pop, 1) := dqo adql_2 (q := (304, .pop, 1)) 26 rfl
theorem dL_law_305 : decode cL_law 305 = .ok (.aload_n 2, 1) := dqo adql_2 (q := (305, .aload_n 2, 1)) 27 rfl
theorem dL_law_306 : decode cL_law 306 = .ok (.aload_n 0, 1) := dqo adql_2 (q := (306, .aload_n 0, 1)) 28 rfl
theorem dL_law_307 : decode cL_law 307 = .ok (.iload 4, 2) := dqo adql_2 (q := (307, .iload 4, 2)) 29 rfl
theorem dL_law_309 : decode cL_law 309 = .ok (.iconst 1, 1) := dqo adql_2 (q := (309, .iconst 1, 1)) 30 rfl
theorem dL_law_310 : decode cL_law 310 = .ok (.iadd, 1) := dqo adql_2 (q := (310, .iadd, 1)) 31 rfl
theorem dL_law_311 : decode cL_law 311 = .ok (.iaload, 1) := dqo adql_2 (q := (311, .iaload, 1)) 32 rfl
theorem dL_law_312 : decode cL_law 312 = .ok (.invokevirtual 34, 3) := dqo adql_2 (q := (312, .invokevirtual 34, 3)) 33 rfl
theorem dL_law_315 : decode cL_law 315 = .ok (.pop, 1) := dqo adql_2 (q := (315, .pop, 1)) 34 rfl
theorem dL_law_316 : decode cL_law 316 = .ok (.goto 1134, 3) := dqo adql_2 (q := (316, .goto 1134, 3)) 35 rfl
theorem dL_law_319 : decode cL_law 319 = .ok (.aload_n 1, 1) := dqo adql_2 (q := (319, .aload_n 1, 1)) 36 rfl
theorem dL_law_320 : decode cL_law 320 = .ok (.aload_n 0, 1) := dqo adql_2 (q := (320, .aload_n 0, 1)) 37 rfl
theorem dL_law_321 : decode cL_law 321 = .ok (.iload 4, 2) := dqo adql_2 (q := (321, .iload 4, 2)) 38 rfl
theorem dL_law_323 : decode cL_law 323 = .ok (.iconst 1, 1) := dqo adql_2 (q := (323, .iconst 1, 1)) 39 rfl
def dql_3 : List (Nat × Instr × Nat) := [(324, .iadd, 1), (325, .iaload, 1), (326, .aload_n 0, 1), (327, .iload 4, 2), (329, .iconst 2, 1), (330, .iadd, 1), (331, .iaload, 1), (332, .invokevirtual 35, 3), (335, .pop, 1), (336, .aload_n 2, 1), (337, .aload_n 0, 1), (338, .iload 4, 2), (340, .iconst 1, 1), (341, .iadd, 1), (342, .iaload, 1), (343, .aload_n 0, 1), (344, .iload 4, 2), (346, .iconst 2, 1), (347, .iadd, 1), (348, .iaload, 1), (349, .invokevirtual 38, 3), (352, .pop, 1), (353, .goto 1097, 3), (356, .aload_n 1, 1), (357, .aload_n 0, 1), (358, .iload 4, 2), (360, .iconst 1, 1), (361, .iadd, 1), (362, .iaload, 1), (363, .aload_n 0, 1), (364, .iload 4, 2), (366, .iconst 2, 1), (367, .iadd, 1), (368, .iaload, 1), (369, .aload_n 3, 1), (370, .invokestatic 39, 3), (373, .istore 5, 2), (375, .aload_n 2, 1), (376, .aload_n 0, 1), (377, .iload 4, 2)]
theorem adql_3 : dql_3.all (fun q => decide (decode cL_law q.1 = .ok (q.2.1, q.2.2))) = true := by decide +kernel
theorem dL_law_324 : decode cL_law 324 = .ok (.iadd, 1) := dqo adql_3 (q := (324, .iadd, 1)) 0 rfl
theorem dL_law_325 : decode cL_law 325 = .ok (.iaload, 1) := dqo adql_3 (q := (325, .iaload, 1)) 1 rfl
theorem dL_law_326 : decode cL_law 326 = .ok (.aload_n 0, 1) := dqo adql_3 (q := (326, .aload_n 0, 1)) 2 rfl
theorem dL_law_327 : decode cL_law 327 = .ok (.iload 4, 2) := dqo adql_3 (q := (327, .iload 4, 2)) 3 rfl
theorem dL_law_329 : decode cL_law 329 = .ok (.iconst 2, 1) := dqo adql_3 (q := (329, .iconst 2, 1)) 4 rfl
theorem dL_law_330 : decode cL_law 330 = .ok (.iadd, 1) := dqo adql_3 (q := (330, .iadd, 1)) 5 rfl
theorem dL_law_331 : decode cL_law 331 = .ok (.iaload, 1) := dqo adql_3 (q := (331, .iaload, 1)) 6 rfl
theorem dL_law_332 : decode cL_law 332 = .ok (.invokevirtual 35, 3) := dqo adql_3 (q := (332, .invokevirtual 35, 3)) 7 rfl
theorem dL_law_335 : decode cL_law 335 = .ok (.pop, 1) := dqo adql_3 (q := (335, .pop, 1)) 8 rfl
theorem dL_law_336 : decode cL_law 336 = .ok (.aload_n 2, 1) := dqo adql_3 (q := (336, .aload_n 2, 1)) 9 rfl
theorem dL_law_337 : decode cL_law 337 = .ok (.aload_n 0, 1) := dqo adql_3 (q := (337, .aload_n 0, 1)) 10 rfl
theorem dL_law_338 : decode cL_law 338 = .ok (.iload 4, 2) := dqo adql_3 (q := (338, .iload 4, 2)) 11 rfl
theorem dL_law_340 : decode cL_law 340 = .ok (.iconst 1, 1) := dqo adql_3 (q := (340, .iconst 1, 1)) 12 rfl
theorem dL_law_341 : decode cL_law 341 = .ok (.iadd, 1) := dqo adql_3 (q := (341, .iadd, 1)) 13 rfl
theorem dL_law_342 : decode cL_law 342 = .ok (.iaload, 1) := dqo adql_3 (q := (342, .iaload, 1)) 14 rfl
theorem dL_law_343 : decode cL_law 343 = .ok (.aload_n 0, 1) := dqo adql_3 (q := (343, .aload_n 0, 1)) 15 rfl
theorem dL_law_344 : decode cL_law 344 = .ok (.iload 4, 2) := dqo adql_3 (q := (344, .iload 4, 2)) 16 rfl
theorem dL_law_346 : decode cL_law 346 = .ok (.iconst 2, 1) := dqo adql_3 (q := (346, .iconst 2, 1)) 17 rfl
theorem dL_law_347 : decode cL_law 347 = .ok (.iadd, 1) := dqo adql_3 (q := (347, .iadd, 1)) 18 rfl
theorem dL_law_348 : decode cL_law 348 = .ok (.iaload, 1) := dqo adql_3 (q := (348, .iaload, 1)) 19 rfl
theorem dL_law_349 : decode cL_law 349 = .ok (.invokevirtual 38, 3) := dqo adql_3 (q := (349, .invokevirtual 38, 3)) 20 rfl
theorem dL_law_352 : decode cL_law 352 = .ok (.pop, 1) := dqo adql_3 (q := (352, .pop, 1)) 21 rfl
theorem dL_law_353 : decode cL_law 353 = .ok (.goto 1097, 3) := dqo adql_3 (q := (353, .goto 1097, 3)) 22 rfl
theorem dL_law_356 : decode cL_law 356 = .ok (.aload_n 1, 1) := dqo adql_3 (q := (356, .aload_n 1, 1)) 23 rfl
theorem dL_law_357 : decode cL_law 357 = .ok (.aload_n 0, 1) := dqo adql_3 (q := (357, .aload_n 0, 1)) 24 rfl
theorem dL_law_358 : decode cL_law 358 = .ok (.iload 4, 2) := dqo adql_3 (q := (358, .iload 4, 2)) 25 rfl
theorem dL_law_360 : decode cL_law 360 = .ok (.iconst 1, 1) := dqo adql_3 (q := (360, .iconst 1, 1)) 26 rfl
theorem dL_law_361 : decode cL_law 361 = .ok (.iadd, 1) := dqo adql_3 (q := (361, .iadd, 1)) 27 rfl
theorem dL_law_362 : decode cL_law 362 = .ok (.iaload, 1) := dqo adql_3 (q := (362, .iaload, 1)) 28 rfl
theorem dL_law_363 : decode cL_law 363 = .ok (.aload_n 0, 1) := dqo adql_3 (q := (363, .aload_n 0, 1)) 29 rfl
theorem dL_law_364 : decode cL_law 364 = .ok (.iload 4, 2) := dqo adql_3 (q := (364, .iload 4, 2)) 30 rfl
theorem dL_law_366 : decode cL_law 366 = .ok (.iconst 2, 1) := dqo adql_3 (q := (366, .iconst 2, 1)) 31 rfl
theorem dL_law_367 : decode cL_law 367 = .ok (.iadd, 1) := dqo adql_3 (q := (367, .iadd, 1)) 32 rfl
theorem dL_law_368 : decode cL_law 368 = .ok (.iaload, 1) := dqo adql_3 (q := (368, .iaload, 1)) 33 rfl
theorem dL_law_369 : decode cL_law 369 = .ok (.aload_n 3, 1) := dqo adql_3 (q := (369, .aload_n 3, 1)) 34 rfl
theorem dL_law_370 : decode cL_law 370 = .ok (.invokestatic 39, 3) := dqo adql_3 (q := (370, .invokestatic 39, 3)) 35 rfl
theorem dL_law_373 : decode cL_law 373 = .ok (.istore 5, 2) := dqo adql_3 (q := (373, .istore 5, 2)) 36 rfl
theorem dL_law_375 : decode cL_law 375 = .ok (.aload_n 2, 1) := dqo adql_3 (q := (375, .aload_n 2, 1)) 37 rfl
theorem dL_law_376 : decode cL_law 376 = .ok (.aload_n 0, 1) := dqo adql_3 (q := (376, .aload_n 0, 1)) 38 rfl
theorem dL_law_377 : decode cL_law 377 = .ok (.iload 4, 2) := dqo adql_3 (q := (377, .iload 4, 2)) 39 rfl
def dql_4 : List (Nat × Instr × Nat) := [(379, .iconst 1, 1), (380, .iadd, 1), (381, .iaload, 1), (382, .aload_n 0, 1), (383, .iload 4, 2), (385, .iconst 2, 1), (386, .iadd, 1), (387, .iaload, 1), (388, .invokevirtual 44, 3), (391, .istore 6, 2), (393, .aload_n 2, 1), (394, .invokevirtual 45, 3), (397, .iload 5, 2), (399, .if_icmp .eq 5, 3), (402, .iconst 0, 1), (403, .ireturn, 1), (404, .iload 5, 2), (406, .ifCond .ne 15, 3), (409, .aload_n 3, 1), (410, .iconst 0, 1), (411, .laload, 1), (412, .iload 6, 2), (414, .i2l, 1), (415, .lcmp, 1), (416, .ifCond .eq 5, 3), (419, .iconst 0, 1), (420, .ireturn, 1), (421, .goto 1029, 3), (424, .aload_n 1, 1), (425, .aload_n 0, 1), (426, .iload 4, 2), (428, .iconst 1, 1), (429, .iadd, 1), (430, .iaload, 1), (431, .aload_n 0, 1), (432, .iload 4, 2), (434, .iconst 2, 1), (435, .iadd, 1), (436, .iaload, 1), (437, .invokevirtual 49, 3)]
theorem adql_4 : dql_4.all (fun q => decide (decode cL_law q.1 = .ok (q.2.1, q.2.2))) = true := by decide +kernel
theorem dL_law_379 : decode cL_law 379 = .ok (.iconst 1, 1) := dqo adql_4 (q := (379, .iconst 1, 1)) 0 rfl
theorem dL_law_380 : decode cL_law 380 = .ok (.iadd, 1) := dqo adql_4 (q := (380, .iadd, 1)) 1 rfl
theorem dL_law_381 : decode cL_law 381 = .ok (.iaload, 1) := dqo adql_4 (q := (381, .iaload, 1)) 2 rfl
theorem dL_law_382 : decode cL_law 382 = .ok (.aload_n 0, 1) := dqo adql_4 (q := (382, .aload_n 0, 1)) 3 rfl
theorem dL_law_383 : decode cL_law 383 = .ok (.iload 4, 2) := dqo adql_4 (q := (383, .iload 4, 2)) 4 rfl
theorem dL_law_385 : decode cL_law 385 = .ok (.iconst 2, 1) := dqo adql_4 (q := (385, .iconst 2, 1)) 5 rfl
theorem dL_law_386 : decode cL_law 386 = .ok (.iadd, 1) := dqo adql_4 (q := (386, .iadd, 1)) 6 rfl
theorem dL_law_387 : decode cL_law 387 = .ok (.iaload, 1) := dqo adql_4 (q := (387, .iaload, 1)) 7 rfl
theorem dL_law_388 : decode cL_law 388 = .ok (.invokevirtual 44, 3) := dqo adql_4 (q := (388, .invokevirtual 44, 3)) 8 rfl
theorem dL_law_391 : decode cL_law 391 = .ok (.istore 6, 2) := dqo adql_4 (q := (391, .istore 6, 2)) 9 rfl
theorem dL_law_393 : decode cL_law 393 = .ok (.aload_n 2, 1) := dqo adql_4 (q := (393, .aload_n 2, 1)) 10 rfl
theorem dL_law_394 : decode cL_law 394 = .ok (.invokevirtual 45, 3) := dqo adql_4 (q := (394, .invokevirtual 45, 3)) 11 rfl
theorem dL_law_397 : decode cL_law 397 = .ok (.iload 5, 2) := dqo adql_4 (q := (397, .iload 5, 2)) 12 rfl
theorem dL_law_399 : decode cL_law 399 = .ok (.if_icmp .eq 5, 3) := dqo adql_4 (q := (399, .if_icmp .eq 5, 3)) 13 rfl
theorem dL_law_402 : decode cL_law 402 = .ok (.iconst 0, 1) := dqo adql_4 (q := (402, .iconst 0, 1)) 14 rfl
theorem dL_law_403 : decode cL_law 403 = .ok (.ireturn, 1) := dqo adql_4 (q := (403, .ireturn, 1)) 15 rfl
theorem dL_law_404 : decode cL_law 404 = .ok (.iload 5, 2) := dqo adql_4 (q := (404, .iload 5, 2)) 16 rfl
theorem dL_law_406 : decode cL_law 406 = .ok (.ifCond .ne 15, 3) := dqo adql_4 (q := (406, .ifCond .ne 15, 3)) 17 rfl
theorem dL_law_409 : decode cL_law 409 = .ok (.aload_n 3, 1) := dqo adql_4 (q := (409, .aload_n 3, 1)) 18 rfl
theorem dL_law_410 : decode cL_law 410 = .ok (.iconst 0, 1) := dqo adql_4 (q := (410, .iconst 0, 1)) 19 rfl
theorem dL_law_411 : decode cL_law 411 = .ok (.laload, 1) := dqo adql_4 (q := (411, .laload, 1)) 20 rfl
theorem dL_law_412 : decode cL_law 412 = .ok (.iload 6, 2) := dqo adql_4 (q := (412, .iload 6, 2)) 21 rfl
theorem dL_law_414 : decode cL_law 414 = .ok (.i2l, 1) := dqo adql_4 (q := (414, .i2l, 1)) 22 rfl
theorem dL_law_415 : decode cL_law 415 = .ok (.lcmp, 1) := dqo adql_4 (q := (415, .lcmp, 1)) 23 rfl
theorem dL_law_416 : decode cL_law 416 = .ok (.ifCond .eq 5, 3) := dqo adql_4 (q := (416, .ifCond .eq 5, 3)) 24 rfl
theorem dL_law_419 : decode cL_law 419 = .ok (.iconst 0, 1) := dqo adql_4 (q := (419, .iconst 0, 1)) 25 rfl
theorem dL_law_420 : decode cL_law 420 = .ok (.ireturn, 1) := dqo adql_4 (q := (420, .ireturn, 1)) 26 rfl
theorem dL_law_421 : decode cL_law 421 = .ok (.goto 1029, 3) := dqo adql_4 (q := (421, .goto 1029, 3)) 27 rfl
theorem dL_law_424 : decode cL_law 424 = .ok (.aload_n 1, 1) := dqo adql_4 (q := (424, .aload_n 1, 1)) 28 rfl
theorem dL_law_425 : decode cL_law 425 = .ok (.aload_n 0, 1) := dqo adql_4 (q := (425, .aload_n 0, 1)) 29 rfl
theorem dL_law_426 : decode cL_law 426 = .ok (.iload 4, 2) := dqo adql_4 (q := (426, .iload 4, 2)) 30 rfl
theorem dL_law_428 : decode cL_law 428 = .ok (.iconst 1, 1) := dqo adql_4 (q := (428, .iconst 1, 1)) 31 rfl
theorem dL_law_429 : decode cL_law 429 = .ok (.iadd, 1) := dqo adql_4 (q := (429, .iadd, 1)) 32 rfl
theorem dL_law_430 : decode cL_law 430 = .ok (.iaload, 1) := dqo adql_4 (q := (430, .iaload, 1)) 33 rfl
theorem dL_law_431 : decode cL_law 431 = .ok (.aload_n 0, 1) := dqo adql_4 (q := (431, .aload_n 0, 1)) 34 rfl
theorem dL_law_432 : decode cL_law 432 = .ok (.iload 4, 2) := dqo adql_4 (q := (432, .iload 4, 2)) 35 rfl
theorem dL_law_434 : decode cL_law 434 = .ok (.iconst 2, 1) := dqo adql_4 (q := (434, .iconst 2, 1)) 36 rfl
theorem dL_law_435 : decode cL_law 435 = .ok (.iadd, 1) := dqo adql_4 (q := (435, .iadd, 1)) 37 rfl
theorem dL_law_436 : decode cL_law 436 = .ok (.iaload, 1) := dqo adql_4 (q := (436, .iaload, 1)) 38 rfl
theorem dL_law_437 : decode cL_law 437 = .ok (.invokevirtual 49, 3) := dqo adql_4 (q := (437, .invokevirtual 49, 3)) 39 rfl
def dql_5 : List (Nat × Instr × Nat) := [(440, .pop, 1), (441, .aload_n 2, 1), (442, .aload_n 0, 1), (443, .iload 4, 2), (445, .iconst 1, 1), (446, .iadd, 1), (447, .iaload, 1), (448, .aload_n 0, 1), (449, .iload 4, 2), (451, .iconst 2, 1), (452, .iadd, 1), (453, .iaload, 1), (454, .invokevirtual 52, 3), (457, .pop, 1), (458, .goto 992, 3), (461, .aload_n 1, 1), (462, .aload_n 0, 1), (463, .iload 4, 2), (465, .iconst 1, 1), (466, .iadd, 1), (467, .iaload, 1), (468, .aload_n 0, 1), (469, .iload 4, 2), (471, .iconst 2, 1), (472, .iadd, 1), (473, .iaload, 1), (474, .invokevirtual 53, 3), (477, .pop, 1), (478, .aload_n 2, 1), (479, .aload_n 0, 1), (480, .iload 4, 2), (482, .iconst 1, 1), (483, .iadd, 1), (484, .iaload, 1), (485, .aload_n 0, 1), (486, .iload 4, 2), (488, .iconst 2, 1), (489, .iadd, 1), (490, .iaload, 1), (491, .invokevirtual 56, 3)]
theorem adql_5 : dql_5.all (fun q => decide (decode cL_law q.1 = .ok (q.2.1, q.2.2))) = true := by decide +kernel
theorem dL_law_440 : decode cL_law 440 = .ok (.pop, 1) := dqo adql_5 (q := (440, .pop, 1)) 0 rfl
theorem dL_law_441 : decode cL_law 441 = .ok (.aload_n 2, 1) := dqo adql_5 (q := (441, .aload_n 2, 1)) 1 rfl
theorem dL_law_442 : decode cL_law 442 = .ok (.aload_n 0, 1) := dqo adql_5 (q := (442, .aload_n 0, 1)) 2 rfl
theorem dL_law_443 : decode cL_law 443 = .ok (.iload 4, 2) := dqo adql_5 (q := (443, .iload 4, 2)) 3 rfl
theorem dL_law_445 : decode cL_law 445 = .ok (.iconst 1, 1) := dqo adql_5 (q := (445, .iconst 1, 1)) 4 rfl
theorem dL_law_446 : decode cL_law 446 = .ok (.iadd, 1) := dqo adql_5 (q := (446, .iadd, 1)) 5 rfl
theorem dL_law_447 : decode cL_law 447 = .ok (.iaload, 1) := dqo adql_5 (q := (447, .iaload, 1)) 6 rfl
theorem dL_law_448 : decode cL_law 448 = .ok (.aload_n 0, 1) := dqo adql_5 (q := (448, .aload_n 0, 1)) 7 rfl
theorem dL_law_449 : decode cL_law 449 = .ok (.iload 4, 2) := dqo adql_5 (q := (449, .iload 4, 2)) 8 rfl
theorem dL_law_451 : decode cL_law 451 = .ok (.iconst 2, 1) := dqo adql_5 (q := (451, .iconst 2, 1)) 9 rfl
theorem dL_law_452 : decode cL_law 452 = .ok (.iadd, 1) := dqo adql_5 (q := (452, .iadd, 1)) 10 rfl
theorem dL_law_453 : decode cL_law 453 = .ok (.iaload, 1) := dqo adql_5 (q := (453, .iaload, 1)) 11 rfl
theorem dL_law_454 : decode cL_law 454 = .ok (.invokevirtual 52, 3) := dqo adql_5 (q := (454, .invokevirtual 52, 3)) 12 rfl
theorem dL_law_457 : decode cL_law 457 = .ok (.pop, 1) := dqo adql_5 (q := (457, .pop, 1)) 13 rfl
theorem dL_law_458 : decode cL_law 458 = .ok (.goto 992, 3) := dqo adql_5 (q := (458, .goto 992, 3)) 14 rfl
theorem dL_law_461 : decode cL_law 461 = .ok (.aload_n 1, 1) := dqo adql_5 (q := (461, .aload_n 1, 1)) 15 rfl
theorem dL_law_462 : decode cL_law 462 = .ok (.aload_n 0, 1) := dqo adql_5 (q := (462, .aload_n 0, 1)) 16 rfl
theorem dL_law_463 : decode cL_law 463 = .ok (.iload 4, 2) := dqo adql_5 (q := (463, .iload 4, 2)) 17 rfl
theorem dL_law_465 : decode cL_law 465 = .ok (.iconst 1, 1) := dqo adql_5 (q := (465, .iconst 1, 1)) 18 rfl
theorem dL_law_466 : decode cL_law 466 = .ok (.iadd, 1) := dqo adql_5 (q := (466, .iadd, 1)) 19 rfl
theorem dL_law_467 : decode cL_law 467 = .ok (.iaload, 1) := dqo adql_5 (q := (467, .iaload, 1)) 20 rfl
theorem dL_law_468 : decode cL_law 468 = .ok (.aload_n 0, 1) := dqo adql_5 (q := (468, .aload_n 0, 1)) 21 rfl
theorem dL_law_469 : decode cL_law 469 = .ok (.iload 4, 2) := dqo adql_5 (q := (469, .iload 4, 2)) 22 rfl
theorem dL_law_471 : decode cL_law 471 = .ok (.iconst 2, 1) := dqo adql_5 (q := (471, .iconst 2, 1)) 23 rfl
theorem dL_law_472 : decode cL_law 472 = .ok (.iadd, 1) := dqo adql_5 (q := (472, .iadd, 1)) 24 rfl
theorem dL_law_473 : decode cL_law 473 = .ok (.iaload, 1) := dqo adql_5 (q := (473, .iaload, 1)) 25 rfl
theorem dL_law_474 : decode cL_law 474 = .ok (.invokevirtual 53, 3) := dqo adql_5 (q := (474, .invokevirtual 53, 3)) 26 rfl
theorem dL_law_477 : decode cL_law 477 = .ok (.pop, 1) := dqo adql_5 (q := (477, .pop, 1)) 27 rfl
theorem dL_law_478 : decode cL_law 478 = .ok (.aload_n 2, 1) := dqo adql_5 (q := (478, .aload_n 2, 1)) 28 rfl
theorem dL_law_479 : decode cL_law 479 = .ok (.aload_n 0, 1) := dqo adql_5 (q := (479, .aload_n 0, 1)) 29 rfl
theorem dL_law_480 : decode cL_law 480 = .ok (.iload 4, 2) := dqo adql_5 (q := (480, .iload 4, 2)) 30 rfl
theorem dL_law_482 : decode cL_law 482 = .ok (.iconst 1, 1) := dqo adql_5 (q := (482, .iconst 1, 1)) 31 rfl
theorem dL_law_483 : decode cL_law 483 = .ok (.iadd, 1) := dqo adql_5 (q := (483, .iadd, 1)) 32 rfl
theorem dL_law_484 : decode cL_law 484 = .ok (.iaload, 1) := dqo adql_5 (q := (484, .iaload, 1)) 33 rfl
theorem dL_law_485 : decode cL_law 485 = .ok (.aload_n 0, 1) := dqo adql_5 (q := (485, .aload_n 0, 1)) 34 rfl
theorem dL_law_486 : decode cL_law 486 = .ok (.iload 4, 2) := dqo adql_5 (q := (486, .iload 4, 2)) 35 rfl
theorem dL_law_488 : decode cL_law 488 = .ok (.iconst 2, 1) := dqo adql_5 (q := (488, .iconst 2, 1)) 36 rfl
theorem dL_law_489 : decode cL_law 489 = .ok (.iadd, 1) := dqo adql_5 (q := (489, .iadd, 1)) 37 rfl
theorem dL_law_490 : decode cL_law 490 = .ok (.iaload, 1) := dqo adql_5 (q := (490, .iaload, 1)) 38 rfl
theorem dL_law_491 : decode cL_law 491 = .ok (.invokevirtual 56, 3) := dqo adql_5 (q := (491, .invokevirtual 56, 3)) 39 rfl
def dql_6 : List (Nat × Instr × Nat) := [(494, .pop, 1), (495, .goto 955, 3), (498, .aload_n 1, 1), (499, .aload_n 0, 1), (500, .iload 4, 2), (502, .iconst 1, 1), (503, .iadd, 1), (504, .iaload, 1), (505, .aload_n 0, 1), (506, .iload 4, 2), (508, .iconst 2, 1), (509, .iadd, 1), (510, .iaload, 1), (511, .aload_n 0, 1), (512, .iload 4, 2), (514, .iconst 3, 1), (515, .iadd, 1), (516, .iaload, 1), (517, .invokevirtual 57, 3), (520, .pop, 1), (521, .aload_n 2, 1), (522, .aload_n 0, 1), (523, .iload 4, 2), (525, .iconst 1, 1), (526, .iadd, 1), (527, .iaload, 1), (528, .aload_n 0, 1), (529, .iload 4, 2), (531, .iconst 2, 1), (532, .iadd, 1), (533, .iaload, 1), (534, .aload_n 0, 1), (535, .iload 4, 2), (537, .iconst 3, 1), (538, .iadd, 1), (539, .iaload, 1), (540, .invokevirtual 61, 3), (543, .pop, 1), (544, .goto 906, 3), (547, .aload_n 1, 1)]
theorem adql_6 : dql_6.all (fun q => decide (decode cL_law q.1 = .ok (q.2.1, q.2.2))) = true := by decide +kernel
theorem dL_law_494 : decode cL_law 494 = .ok (.pop, 1) := dqo adql_6 (q := (494, .pop, 1)) 0 rfl
theorem dL_law_495 : decode cL_law 495 = .ok (.goto 955, 3) := dqo adql_6 (q := (495, .goto 955, 3)) 1 rfl
theorem dL_law_498 : decode cL_law 498 = .ok (.aload_n 1, 1) := dqo adql_6 (q := (498, .aload_n 1, 1)) 2 rfl
theorem dL_law_499 : decode cL_law 499 = .ok (.aload_n 0, 1) := dqo adql_6 (q := (499, .aload_n 0, 1)) 3 rfl
theorem dL_law_500 : decode cL_law 500 = .ok (.iload 4, 2) := dqo adql_6 (q := (500, .iload 4, 2)) 4 rfl
theorem dL_law_502 : decode cL_law 502 = .ok (.iconst 1, 1) := dqo adql_6 (q := (502, .iconst 1, 1)) 5 rfl
theorem dL_law_503 : decode cL_law 503 = .ok (.iadd, 1) := dqo adql_6 (q := (503, .iadd, 1)) 6 rfl
theorem dL_law_504 : decode cL_law 504 = .ok (.iaload, 1) := dqo adql_6 (q := (504, .iaload, 1)) 7 rfl
theorem dL_law_505 : decode cL_law 505 = .ok (.aload_n 0, 1) := dqo adql_6 (q := (505, .aload_n 0, 1)) 8 rfl
theorem dL_law_506 : decode cL_law 506 = .ok (.iload 4, 2) := dqo adql_6 (q := (506, .iload 4, 2)) 9 rfl
theorem dL_law_508 : decode cL_law 508 = .ok (.iconst 2, 1) := dqo adql_6 (q := (508, .iconst 2, 1)) 10 rfl
theorem dL_law_509 : decode cL_law 509 = .ok (.iadd, 1) := dqo adql_6 (q := (509, .iadd, 1)) 11 rfl
theorem dL_law_510 : decode cL_law 510 = .ok (.iaload, 1) := dqo adql_6 (q := (510, .iaload, 1)) 12 rfl
theorem dL_law_511 : decode cL_law 511 = .ok (.aload_n 0, 1) := dqo adql_6 (q := (511, .aload_n 0, 1)) 13 rfl
theorem dL_law_512 : decode cL_law 512 = .ok (.iload 4, 2) := dqo adql_6 (q := (512, .iload 4, 2)) 14 rfl
theorem dL_law_514 : decode cL_law 514 = .ok (.iconst 3, 1) := dqo adql_6 (q := (514, .iconst 3, 1)) 15 rfl
theorem dL_law_515 : decode cL_law 515 = .ok (.iadd, 1) := dqo adql_6 (q := (515, .iadd, 1)) 16 rfl
theorem dL_law_516 : decode cL_law 516 = .ok (.iaload, 1) := dqo adql_6 (q := (516, .iaload, 1)) 17 rfl
theorem dL_law_517 : decode cL_law 517 = .ok (.invokevirtual 57, 3) := dqo adql_6 (q := (517, .invokevirtual 57, 3)) 18 rfl
theorem dL_law_520 : decode cL_law 520 = .ok (.pop, 1) := dqo adql_6 (q := (520, .pop, 1)) 19 rfl
theorem dL_law_521 : decode cL_law 521 = .ok (.aload_n 2, 1) := dqo adql_6 (q := (521, .aload_n 2, 1)) 20 rfl
theorem dL_law_522 : decode cL_law 522 = .ok (.aload_n 0, 1) := dqo adql_6 (q := (522, .aload_n 0, 1)) 21 rfl
theorem dL_law_523 : decode cL_law 523 = .ok (.iload 4, 2) := dqo adql_6 (q := (523, .iload 4, 2)) 22 rfl
theorem dL_law_525 : decode cL_law 525 = .ok (.iconst 1, 1) := dqo adql_6 (q := (525, .iconst 1, 1)) 23 rfl
theorem dL_law_526 : decode cL_law 526 = .ok (.iadd, 1) := dqo adql_6 (q := (526, .iadd, 1)) 24 rfl
theorem dL_law_527 : decode cL_law 527 = .ok (.iaload, 1) := dqo adql_6 (q := (527, .iaload, 1)) 25 rfl
theorem dL_law_528 : decode cL_law 528 = .ok (.aload_n 0, 1) := dqo adql_6 (q := (528, .aload_n 0, 1)) 26 rfl
theorem dL_law_529 : decode cL_law 529 = .ok (.iload 4, 2) := dqo adql_6 (q := (529, .iload 4, 2)) 27 rfl
theorem dL_law_531 : decode cL_law 531 = .ok (.iconst 2, 1) := dqo adql_6 (q := (531, .iconst 2, 1)) 28 rfl
theorem dL_law_532 : decode cL_law 532 = .ok (.iadd, 1) := dqo adql_6 (q := (532, .iadd, 1)) 29 rfl
theorem dL_law_533 : decode cL_law 533 = .ok (.iaload, 1) := dqo adql_6 (q := (533, .iaload, 1)) 30 rfl
theorem dL_law_534 : decode cL_law 534 = .ok (.aload_n 0, 1) := dqo adql_6 (q := (534, .aload_n 0, 1)) 31 rfl
theorem dL_law_535 : decode cL_law 535 = .ok (.iload 4, 2) := dqo adql_6 (q := (535, .iload 4, 2)) 32 rfl
theorem dL_law_537 : decode cL_law 537 = .ok (.iconst 3, 1) := dqo adql_6 (q := (537, .iconst 3, 1)) 33 rfl
theorem dL_law_538 : decode cL_law 538 = .ok (.iadd, 1) := dqo adql_6 (q := (538, .iadd, 1)) 34 rfl
theorem dL_law_539 : decode cL_law 539 = .ok (.iaload, 1) := dqo adql_6 (q := (539, .iaload, 1)) 35 rfl
theorem dL_law_540 : decode cL_law 540 = .ok (.invokevirtual 61, 3) := dqo adql_6 (q := (540, .invokevirtual 61, 3)) 36 rfl
theorem dL_law_543 : decode cL_law 543 = .ok (.pop, 1) := dqo adql_6 (q := (543, .pop, 1)) 37 rfl
theorem dL_law_544 : decode cL_law 544 = .ok (.goto 906, 3) := dqo adql_6 (q := (544, .goto 906, 3)) 38 rfl
theorem dL_law_547 : decode cL_law 547 = .ok (.aload_n 1, 1) := dqo adql_6 (q := (547, .aload_n 1, 1)) 39 rfl
def dql_7 : List (Nat × Instr × Nat) := [(548, .aload_n 0, 1), (549, .iload 4, 2), (551, .iconst 1, 1), (552, .iadd, 1), (553, .iaload, 1), (554, .aload_n 0, 1), (555, .iload 4, 2), (557, .iconst 2, 1), (558, .iadd, 1), (559, .iaload, 1), (560, .aload_n 0, 1), (561, .iload 4, 2), (563, .iconst 3, 1), (564, .iadd, 1), (565, .iaload, 1), (566, .invokevirtual 62, 3), (569, .pop, 1), (570, .aload_n 2, 1), (571, .aload_n 0, 1), (572, .iload 4, 2), (574, .iconst 1, 1), (575, .iadd, 1), (576, .iaload, 1), (577, .aload_n 0, 1), (578, .iload 4, 2), (580, .iconst 2, 1), (581, .iadd, 1), (582, .iaload, 1), (583, .aload_n 0, 1), (584, .iload 4, 2), (586, .iconst 3, 1), (587, .iadd, 1), (588, .iaload, 1), (589, .invokevirtual 65, 3), (592, .pop, 1), (593, .goto 857, 3), (596, .aload_n 1, 1), (597, .aload_n 0, 1), (598, .iload 4, 2), (600, .iconst 1, 1)]
theorem adql_7 : dql_7.all (fun q => decide (decode cL_law q.1 = .ok (q.2.1, q.2.2))) = true := by decide +kernel
theorem dL_law_548 : decode cL_law 548 = .ok (.aload_n 0, 1) := dqo adql_7 (q := (548, .aload_n 0, 1)) 0 rfl
theorem dL_law_549 : decode cL_law 549 = .ok (.iload 4, 2) := dqo adql_7 (q := (549, .iload 4, 2)) 1 rfl
theorem dL_law_551 : decode cL_law 551 = .ok (.iconst 1, 1) := dqo adql_7 (q := (551, .iconst 1, 1)) 2 rfl
theorem dL_law_552 : decode cL_law 552 = .ok (.iadd, 1) := dqo adql_7 (q := (552, .iadd, 1)) 3 rfl
theorem dL_law_553 : decode cL_law 553 = .ok (.iaload, 1) := dqo adql_7 (q := (553, .iaload, 1)) 4 rfl
theorem dL_law_554 : decode cL_law 554 = .ok (.aload_n 0, 1) := dqo adql_7 (q := (554, .aload_n 0, 1)) 5 rfl
theorem dL_law_555 : decode cL_law 555 = .ok (.iload 4, 2) := dqo adql_7 (q := (555, .iload 4, 2)) 6 rfl
theorem dL_law_557 : decode cL_law 557 = .ok (.iconst 2, 1) := dqo adql_7 (q := (557, .iconst 2, 1)) 7 rfl
theorem dL_law_558 : decode cL_law 558 = .ok (.iadd, 1) := dqo adql_7 (q := (558, .iadd, 1)) 8 rfl
theorem dL_law_559 : decode cL_law 559 = .ok (.iaload, 1) := dqo adql_7 (q := (559, .iaload, 1)) 9 rfl
theorem dL_law_560 : decode cL_law 560 = .ok (.aload_n 0, 1) := dqo adql_7 (q := (560, .aload_n 0, 1)) 10 rfl
theorem dL_law_561 : decode cL_law 561 = .ok (.iload 4, 2) := dqo adql_7 (q := (561, .iload 4, 2)) 11 rfl
theorem dL_law_563 : decode cL_law 563 = .ok (.iconst 3, 1) := dqo adql_7 (q := (563, .iconst 3, 1)) 12 rfl
theorem dL_law_564 : decode cL_law 564 = .ok (.iadd, 1) := dqo adql_7 (q := (564, .iadd, 1)) 13 rfl
theorem dL_law_565 : decode cL_law 565 = .ok (.iaload, 1) := dqo adql_7 (q := (565, .iaload, 1)) 14 rfl
theorem dL_law_566 : decode cL_law 566 = .ok (.invokevirtual 62, 3) := dqo adql_7 (q := (566, .invokevirtual 62, 3)) 15 rfl
theorem dL_law_569 : decode cL_law 569 = .ok (.pop, 1) := dqo adql_7 (q := (569, .pop, 1)) 16 rfl
theorem dL_law_570 : decode cL_law 570 = .ok (.aload_n 2, 1) := dqo adql_7 (q := (570, .aload_n 2, 1)) 17 rfl
theorem dL_law_571 : decode cL_law 571 = .ok (.aload_n 0, 1) := dqo adql_7 (q := (571, .aload_n 0, 1)) 18 rfl
theorem dL_law_572 : decode cL_law 572 = .ok (.iload 4, 2) := dqo adql_7 (q := (572, .iload 4, 2)) 19 rfl
theorem dL_law_574 : decode cL_law 574 = .ok (.iconst 1, 1) := dqo adql_7 (q := (574, .iconst 1, 1)) 20 rfl
theorem dL_law_575 : decode cL_law 575 = .ok (.iadd, 1) := dqo adql_7 (q := (575, .iadd, 1)) 21 rfl
theorem dL_law_576 : decode cL_law 576 = .ok (.iaload, 1) := dqo adql_7 (q := (576, .iaload, 1)) 22 rfl
theorem dL_law_577 : decode cL_law 577 = .ok (.aload_n 0, 1) := dqo adql_7 (q := (577, .aload_n 0, 1)) 23 rfl
theorem dL_law_578 : decode cL_law 578 = .ok (.iload 4, 2) := dqo adql_7 (q := (578, .iload 4, 2)) 24 rfl
theorem dL_law_580 : decode cL_law 580 = .ok (.iconst 2, 1) := dqo adql_7 (q := (580, .iconst 2, 1)) 25 rfl
theorem dL_law_581 : decode cL_law 581 = .ok (.iadd, 1) := dqo adql_7 (q := (581, .iadd, 1)) 26 rfl
theorem dL_law_582 : decode cL_law 582 = .ok (.iaload, 1) := dqo adql_7 (q := (582, .iaload, 1)) 27 rfl
theorem dL_law_583 : decode cL_law 583 = .ok (.aload_n 0, 1) := dqo adql_7 (q := (583, .aload_n 0, 1)) 28 rfl
theorem dL_law_584 : decode cL_law 584 = .ok (.iload 4, 2) := dqo adql_7 (q := (584, .iload 4, 2)) 29 rfl
theorem dL_law_586 : decode cL_law 586 = .ok (.iconst 3, 1) := dqo adql_7 (q := (586, .iconst 3, 1)) 30 rfl
theorem dL_law_587 : decode cL_law 587 = .ok (.iadd, 1) := dqo adql_7 (q := (587, .iadd, 1)) 31 rfl
theorem dL_law_588 : decode cL_law 588 = .ok (.iaload, 1) := dqo adql_7 (q := (588, .iaload, 1)) 32 rfl
theorem dL_law_589 : decode cL_law 589 = .ok (.invokevirtual 65, 3) := dqo adql_7 (q := (589, .invokevirtual 65, 3)) 33 rfl
theorem dL_law_592 : decode cL_law 592 = .ok (.pop, 1) := dqo adql_7 (q := (592, .pop, 1)) 34 rfl
theorem dL_law_593 : decode cL_law 593 = .ok (.goto 857, 3) := dqo adql_7 (q := (593, .goto 857, 3)) 35 rfl
theorem dL_law_596 : decode cL_law 596 = .ok (.aload_n 1, 1) := dqo adql_7 (q := (596, .aload_n 1, 1)) 36 rfl
theorem dL_law_597 : decode cL_law 597 = .ok (.aload_n 0, 1) := dqo adql_7 (q := (597, .aload_n 0, 1)) 37 rfl
theorem dL_law_598 : decode cL_law 598 = .ok (.iload 4, 2) := dqo adql_7 (q := (598, .iload 4, 2)) 38 rfl
theorem dL_law_600 : decode cL_law 600 = .ok (.iconst 1, 1) := dqo adql_7 (q := (600, .iconst 1, 1)) 39 rfl
def dql_8 : List (Nat × Instr × Nat) := [(601, .iadd, 1), (602, .iaload, 1), (603, .aload_n 0, 1), (604, .iload 4, 2), (606, .iconst 2, 1), (607, .iadd, 1), (608, .iaload, 1), (609, .aload_n 0, 1), (610, .iload 4, 2), (612, .iconst 3, 1), (613, .iadd, 1), (614, .iaload, 1), (615, .invokevirtual 66, 3), (618, .pop, 1), (619, .aload_n 2, 1), (620, .aload_n 0, 1), (621, .iload 4, 2), (623, .iconst 1, 1), (624, .iadd, 1), (625, .iaload, 1), (626, .aload_n 0, 1), (627, .iload 4, 2), (629, .iconst 2, 1), (630, .iadd, 1), (631, .iaload, 1), (632, .aload_n 0, 1), (633, .iload 4, 2), (635, .iconst 3, 1), (636, .iadd, 1), (637, .iaload, 1), (638, .invokevirtual 69, 3), (641, .pop, 1), (642, .goto 808, 3), (645, .aload_n 1, 1), (646, .aload_n 0, 1), (647, .iload 4, 2), (649, .iconst 1, 1), (650, .iadd, 1), (651, .iaload, 1), (652, .aload_n 0, 1)]
theorem adql_8 : dql_8.all (fun q => decide (decode cL_law q.1 = .ok (q.2.1, q.2.2))) = true := by decide +kernel
theorem dL_law_601 : decode cL_law 601 = .ok (.iadd, 1) := dqo adql_8 (q := (601, .iadd, 1)) 0 rfl
theorem dL_law_602 : decode cL_law 602 = .ok (.iaload, 1) := dqo adql_8 (q := (602, .iaload, 1)) 1 rfl
theorem dL_law_603 : decode cL_law 603 = .ok (.aload_n 0, 1) := dqo adql_8 (q := (603, .aload_n 0, 1)) 2 rfl
theorem dL_law_604 : decode cL_law 604 = .ok (.iload 4, 2) := dqo adql_8 (q := (604, .iload 4, 2)) 3 rfl
theorem dL_law_606 : decode cL_law 606 = .ok (.iconst 2, 1) := dqo adql_8 (q := (606, .iconst 2, 1)) 4 rfl
theorem dL_law_607 : decode cL_law 607 = .ok (.iadd, 1) := dqo adql_8 (q := (607, .iadd, 1)) 5 rfl
theorem dL_law_608 : decode cL_law 608 = .ok (.iaload, 1) := dqo adql_8 (q := (608, .iaload, 1)) 6 rfl
theorem dL_law_609 : decode cL_law 609 = .ok (.aload_n 0, 1) := dqo adql_8 (q := (609, .aload_n 0, 1)) 7 rfl
theorem dL_law_610 : decode cL_law 610 = .ok (.iload 4, 2) := dqo adql_8 (q := (610, .iload 4, 2)) 8 rfl
theorem dL_law_612 : decode cL_law 612 = .ok (.iconst 3, 1) := dqo adql_8 (q := (612, .iconst 3, 1)) 9 rfl
theorem dL_law_613 : decode cL_law 613 = .ok (.iadd, 1) := dqo adql_8 (q := (613, .iadd, 1)) 10 rfl
theorem dL_law_614 : decode cL_law 614 = .ok (.iaload, 1) := dqo adql_8 (q := (614, .iaload, 1)) 11 rfl
theorem dL_law_615 : decode cL_law 615 = .ok (.invokevirtual 66, 3) := dqo adql_8 (q := (615, .invokevirtual 66, 3)) 12 rfl
theorem dL_law_618 : decode cL_law 618 = .ok (.pop, 1) := dqo adql_8 (q := (618, .pop, 1)) 13 rfl
theorem dL_law_619 : decode cL_law 619 = .ok (.aload_n 2, 1) := dqo adql_8 (q := (619, .aload_n 2, 1)) 14 rfl
theorem dL_law_620 : decode cL_law 620 = .ok (.aload_n 0, 1) := dqo adql_8 (q := (620, .aload_n 0, 1)) 15 rfl
theorem dL_law_621 : decode cL_law 621 = .ok (.iload 4, 2) := dqo adql_8 (q := (621, .iload 4, 2)) 16 rfl
theorem dL_law_623 : decode cL_law 623 = .ok (.iconst 1, 1) := dqo adql_8 (q := (623, .iconst 1, 1)) 17 rfl
theorem dL_law_624 : decode cL_law 624 = .ok (.iadd, 1) := dqo adql_8 (q := (624, .iadd, 1)) 18 rfl
theorem dL_law_625 : decode cL_law 625 = .ok (.iaload, 1) := dqo adql_8 (q := (625, .iaload, 1)) 19 rfl
theorem dL_law_626 : decode cL_law 626 = .ok (.aload_n 0, 1) := dqo adql_8 (q := (626, .aload_n 0, 1)) 20 rfl
theorem dL_law_627 : decode cL_law 627 = .ok (.iload 4, 2) := dqo adql_8 (q := (627, .iload 4, 2)) 21 rfl
theorem dL_law_629 : decode cL_law 629 = .ok (.iconst 2, 1) := dqo adql_8 (q := (629, .iconst 2, 1)) 22 rfl
theorem dL_law_630 : decode cL_law 630 = .ok (.iadd, 1) := dqo adql_8 (q := (630, .iadd, 1)) 23 rfl
theorem dL_law_631 : decode cL_law 631 = .ok (.iaload, 1) := dqo adql_8 (q := (631, .iaload, 1)) 24 rfl
theorem dL_law_632 : decode cL_law 632 = .ok (.aload_n 0, 1) := dqo adql_8 (q := (632, .aload_n 0, 1)) 25 rfl
theorem dL_law_633 : decode cL_law 633 = .ok (.iload 4, 2) := dqo adql_8 (q := (633, .iload 4, 2)) 26 rfl
theorem dL_law_635 : decode cL_law 635 = .ok (.iconst 3, 1) := dqo adql_8 (q := (635, .iconst 3, 1)) 27 rfl
theorem dL_law_636 : decode cL_law 636 = .ok (.iadd, 1) := dqo adql_8 (q := (636, .iadd, 1)) 28 rfl
theorem dL_law_637 : decode cL_law 637 = .ok (.iaload, 1) := dqo adql_8 (q := (637, .iaload, 1)) 29 rfl
theorem dL_law_638 : decode cL_law 638 = .ok (.invokevirtual 69, 3) := dqo adql_8 (q := (638, .invokevirtual 69, 3)) 30 rfl
theorem dL_law_641 : decode cL_law 641 = .ok (.pop, 1) := dqo adql_8 (q := (641, .pop, 1)) 31 rfl
theorem dL_law_642 : decode cL_law 642 = .ok (.goto 808, 3) := dqo adql_8 (q := (642, .goto 808, 3)) 32 rfl
theorem dL_law_645 : decode cL_law 645 = .ok (.aload_n 1, 1) := dqo adql_8 (q := (645, .aload_n 1, 1)) 33 rfl
theorem dL_law_646 : decode cL_law 646 = .ok (.aload_n 0, 1) := dqo adql_8 (q := (646, .aload_n 0, 1)) 34 rfl
theorem dL_law_647 : decode cL_law 647 = .ok (.iload 4, 2) := dqo adql_8 (q := (647, .iload 4, 2)) 35 rfl
theorem dL_law_649 : decode cL_law 649 = .ok (.iconst 1, 1) := dqo adql_8 (q := (649, .iconst 1, 1)) 36 rfl
theorem dL_law_650 : decode cL_law 650 = .ok (.iadd, 1) := dqo adql_8 (q := (650, .iadd, 1)) 37 rfl
theorem dL_law_651 : decode cL_law 651 = .ok (.iaload, 1) := dqo adql_8 (q := (651, .iaload, 1)) 38 rfl
theorem dL_law_652 : decode cL_law 652 = .ok (.aload_n 0, 1) := dqo adql_8 (q := (652, .aload_n 0, 1)) 39 rfl
def dql_9 : List (Nat × Instr × Nat) := [(653, .iload 4, 2), (655, .iconst 2, 1), (656, .iadd, 1), (657, .iaload, 1), (658, .invokevirtual 70, 3), (661, .pop, 1), (662, .aload_n 2, 1), (663, .aload_n 0, 1), (664, .iload 4, 2), (666, .iconst 1, 1), (667, .iadd, 1), (668, .iaload, 1), (669, .aload_n 0, 1), (670, .iload 4, 2), (672, .iconst 2, 1), (673, .iadd, 1), (674, .iaload, 1), (675, .invokevirtual 73, 3), (678, .pop, 1), (679, .goto 771, 3), (682, .aload_n 1, 1), (683, .aload_n 0, 1), (684, .iload 4, 2), (686, .iconst 1, 1), (687, .iadd, 1), (688, .iaload, 1), (689, .invokevirtual 74, 3), (692, .pop, 1), (693, .aload_n 2, 1), (694, .aload_n 0, 1), (695, .iload 4, 2), (697, .iconst 1, 1), (698, .iadd, 1), (699, .iaload, 1), (700, .invokevirtual 77, 3), (703, .pop, 1), (704, .goto 746, 3), (707, .aload_n 1, 1), (708, .aload_n 0, 1), (709, .iload 4, 2)]
theorem adql_9 : dql_9.all (fun q => decide (decode cL_law q.1 = .ok (q.2.1, q.2.2))) = true := by decide +kernel
theorem dL_law_653 : decode cL_law 653 = .ok (.iload 4, 2) := dqo adql_9 (q := (653, .iload 4, 2)) 0 rfl
theorem dL_law_655 : decode cL_law 655 = .ok (.iconst 2, 1) := dqo adql_9 (q := (655, .iconst 2, 1)) 1 rfl
theorem dL_law_656 : decode cL_law 656 = .ok (.iadd, 1) := dqo adql_9 (q := (656, .iadd, 1)) 2 rfl
theorem dL_law_657 : decode cL_law 657 = .ok (.iaload, 1) := dqo adql_9 (q := (657, .iaload, 1)) 3 rfl
theorem dL_law_658 : decode cL_law 658 = .ok (.invokevirtual 70, 3) := dqo adql_9 (q := (658, .invokevirtual 70, 3)) 4 rfl
theorem dL_law_661 : decode cL_law 661 = .ok (.pop, 1) := dqo adql_9 (q := (661, .pop, 1)) 5 rfl
theorem dL_law_662 : decode cL_law 662 = .ok (.aload_n 2, 1) := dqo adql_9 (q := (662, .aload_n 2, 1)) 6 rfl
theorem dL_law_663 : decode cL_law 663 = .ok (.aload_n 0, 1) := dqo adql_9 (q := (663, .aload_n 0, 1)) 7 rfl
theorem dL_law_664 : decode cL_law 664 = .ok (.iload 4, 2) := dqo adql_9 (q := (664, .iload 4, 2)) 8 rfl
theorem dL_law_666 : decode cL_law 666 = .ok (.iconst 1, 1) := dqo adql_9 (q := (666, .iconst 1, 1)) 9 rfl
theorem dL_law_667 : decode cL_law 667 = .ok (.iadd, 1) := dqo adql_9 (q := (667, .iadd, 1)) 10 rfl
theorem dL_law_668 : decode cL_law 668 = .ok (.iaload, 1) := dqo adql_9 (q := (668, .iaload, 1)) 11 rfl
theorem dL_law_669 : decode cL_law 669 = .ok (.aload_n 0, 1) := dqo adql_9 (q := (669, .aload_n 0, 1)) 12 rfl
theorem dL_law_670 : decode cL_law 670 = .ok (.iload 4, 2) := dqo adql_9 (q := (670, .iload 4, 2)) 13 rfl
theorem dL_law_672 : decode cL_law 672 = .ok (.iconst 2, 1) := dqo adql_9 (q := (672, .iconst 2, 1)) 14 rfl
theorem dL_law_673 : decode cL_law 673 = .ok (.iadd, 1) := dqo adql_9 (q := (673, .iadd, 1)) 15 rfl
theorem dL_law_674 : decode cL_law 674 = .ok (.iaload, 1) := dqo adql_9 (q := (674, .iaload, 1)) 16 rfl
theorem dL_law_675 : decode cL_law 675 = .ok (.invokevirtual 73, 3) := dqo adql_9 (q := (675, .invokevirtual 73, 3)) 17 rfl
theorem dL_law_678 : decode cL_law 678 = .ok (.pop, 1) := dqo adql_9 (q := (678, .pop, 1)) 18 rfl
theorem dL_law_679 : decode cL_law 679 = .ok (.goto 771, 3) := dqo adql_9 (q := (679, .goto 771, 3)) 19 rfl
theorem dL_law_682 : decode cL_law 682 = .ok (.aload_n 1, 1) := dqo adql_9 (q := (682, .aload_n 1, 1)) 20 rfl
theorem dL_law_683 : decode cL_law 683 = .ok (.aload_n 0, 1) := dqo adql_9 (q := (683, .aload_n 0, 1)) 21 rfl
theorem dL_law_684 : decode cL_law 684 = .ok (.iload 4, 2) := dqo adql_9 (q := (684, .iload 4, 2)) 22 rfl
theorem dL_law_686 : decode cL_law 686 = .ok (.iconst 1, 1) := dqo adql_9 (q := (686, .iconst 1, 1)) 23 rfl
theorem dL_law_687 : decode cL_law 687 = .ok (.iadd, 1) := dqo adql_9 (q := (687, .iadd, 1)) 24 rfl
theorem dL_law_688 : decode cL_law 688 = .ok (.iaload, 1) := dqo adql_9 (q := (688, .iaload, 1)) 25 rfl
theorem dL_law_689 : decode cL_law 689 = .ok (.invokevirtual 74, 3) := dqo adql_9 (q := (689, .invokevirtual 74, 3)) 26 rfl
theorem dL_law_692 : decode cL_law 692 = .ok (.pop, 1) := dqo adql_9 (q := (692, .pop, 1)) 27 rfl
theorem dL_law_693 : decode cL_law 693 = .ok (.aload_n 2, 1) := dqo adql_9 (q := (693, .aload_n 2, 1)) 28 rfl
theorem dL_law_694 : decode cL_law 694 = .ok (.aload_n 0, 1) := dqo adql_9 (q := (694, .aload_n 0, 1)) 29 rfl
theorem dL_law_695 : decode cL_law 695 = .ok (.iload 4, 2) := dqo adql_9 (q := (695, .iload 4, 2)) 30 rfl
theorem dL_law_697 : decode cL_law 697 = .ok (.iconst 1, 1) := dqo adql_9 (q := (697, .iconst 1, 1)) 31 rfl
theorem dL_law_698 : decode cL_law 698 = .ok (.iadd, 1) := dqo adql_9 (q := (698, .iadd, 1)) 32 rfl
theorem dL_law_699 : decode cL_law 699 = .ok (.iaload, 1) := dqo adql_9 (q := (699, .iaload, 1)) 33 rfl
theorem dL_law_700 : decode cL_law 700 = .ok (.invokevirtual 77, 3) := dqo adql_9 (q := (700, .invokevirtual 77, 3)) 34 rfl
theorem dL_law_703 : decode cL_law 703 = .ok (.pop, 1) := dqo adql_9 (q := (703, .pop, 1)) 35 rfl
theorem dL_law_704 : decode cL_law 704 = .ok (.goto 746, 3) := dqo adql_9 (q := (704, .goto 746, 3)) 36 rfl
theorem dL_law_707 : decode cL_law 707 = .ok (.aload_n 1, 1) := dqo adql_9 (q := (707, .aload_n 1, 1)) 37 rfl
theorem dL_law_708 : decode cL_law 708 = .ok (.aload_n 0, 1) := dqo adql_9 (q := (708, .aload_n 0, 1)) 38 rfl
theorem dL_law_709 : decode cL_law 709 = .ok (.iload 4, 2) := dqo adql_9 (q := (709, .iload 4, 2)) 39 rfl
def dql_10 : List (Nat × Instr × Nat) := [(711, .iconst 1, 1), (712, .iadd, 1), (713, .iaload, 1), (714, .aload_n 0, 1), (715, .iload 4, 2), (717, .iconst 2, 1), (718, .iadd, 1), (719, .iaload, 1), (720, .aload_n 0, 1), (721, .iload 4, 2), (723, .iconst 3, 1), (724, .iadd, 1), (725, .iaload, 1), (726, .invokevirtual 78, 3), (729, .pop, 1), (730, .aload_n 2, 1), (731, .aload_n 0, 1), (732, .iload 4, 2), (734, .iconst 1, 1), (735, .iadd, 1), (736, .iaload, 1), (737, .aload_n 0, 1), (738, .iload 4, 2), (740, .iconst 2, 1), (741, .iadd, 1), (742, .iaload, 1), (743, .aload_n 0, 1), (744, .iload 4, 2), (746, .iconst 3, 1), (747, .iadd, 1), (748, .iaload, 1), (749, .invokevirtual 81, 3), (752, .pop, 1), (753, .goto 697, 3), (756, .aload_n 1, 1), (757, .invokevirtual 82, 3), (760, .pop, 1), (761, .aload_n 2, 1), (762, .invokevirtual 85, 3), (765, .pop, 1)]
theorem adql_10 : dql_10.all (fun q => decide (decode cL_law q.1 = .ok (q.2.1, q.2.2))) = true := by decide +kernel
theorem dL_law_711 : decode cL_law 711 = .ok (.iconst 1, 1) := dqo adql_10 (q := (711, .iconst 1, 1)) 0 rfl
theorem dL_law_712 : decode cL_law 712 = .ok (.iadd, 1) := dqo adql_10 (q := (712, .iadd, 1)) 1 rfl
theorem dL_law_713 : decode cL_law 713 = .ok (.iaload, 1) := dqo adql_10 (q := (713, .iaload, 1)) 2 rfl
theorem dL_law_714 : decode cL_law 714 = .ok (.aload_n 0, 1) := dqo adql_10 (q := (714, .aload_n 0, 1)) 3 rfl
theorem dL_law_715 : decode cL_law 715 = .ok (.iload 4, 2) := dqo adql_10 (q := (715, .iload 4, 2)) 4 rfl
theorem dL_law_717 : decode cL_law 717 = .ok (.iconst 2, 1) := dqo adql_10 (q := (717, .iconst 2, 1)) 5 rfl
theorem dL_law_718 : decode cL_law 718 = .ok (.iadd, 1) := dqo adql_10 (q := (718, .iadd, 1)) 6 rfl
theorem dL_law_719 : decode cL_law 719 = .ok (.iaload, 1) := dqo adql_10 (q := (719, .iaload, 1)) 7 rfl
theorem dL_law_720 : decode cL_law 720 = .ok (.aload_n 0, 1) := dqo adql_10 (q := (720, .aload_n 0, 1)) 8 rfl
theorem dL_law_721 : decode cL_law 721 = .ok (.iload 4, 2) := dqo adql_10 (q := (721, .iload 4, 2)) 9 rfl
theorem dL_law_723 : decode cL_law 723 = .ok (.iconst 3, 1) := dqo adql_10 (q := (723, .iconst 3, 1)) 10 rfl
theorem dL_law_724 : decode cL_law 724 = .ok (.iadd, 1) := dqo adql_10 (q := (724, .iadd, 1)) 11 rfl
theorem dL_law_725 : decode cL_law 725 = .ok (.iaload, 1) := dqo adql_10 (q := (725, .iaload, 1)) 12 rfl
theorem dL_law_726 : decode cL_law 726 = .ok (.invokevirtual 78, 3) := dqo adql_10 (q := (726, .invokevirtual 78, 3)) 13 rfl
theorem dL_law_729 : decode cL_law 729 = .ok (.pop, 1) := dqo adql_10 (q := (729, .pop, 1)) 14 rfl
theorem dL_law_730 : decode cL_law 730 = .ok (.aload_n 2, 1) := dqo adql_10 (q := (730, .aload_n 2, 1)) 15 rfl
theorem dL_law_731 : decode cL_law 731 = .ok (.aload_n 0, 1) := dqo adql_10 (q := (731, .aload_n 0, 1)) 16 rfl
theorem dL_law_732 : decode cL_law 732 = .ok (.iload 4, 2) := dqo adql_10 (q := (732, .iload 4, 2)) 17 rfl
theorem dL_law_734 : decode cL_law 734 = .ok (.iconst 1, 1) := dqo adql_10 (q := (734, .iconst 1, 1)) 18 rfl
theorem dL_law_735 : decode cL_law 735 = .ok (.iadd, 1) := dqo adql_10 (q := (735, .iadd, 1)) 19 rfl
theorem dL_law_736 : decode cL_law 736 = .ok (.iaload, 1) := dqo adql_10 (q := (736, .iaload, 1)) 20 rfl
theorem dL_law_737 : decode cL_law 737 = .ok (.aload_n 0, 1) := dqo adql_10 (q := (737, .aload_n 0, 1)) 21 rfl
theorem dL_law_738 : decode cL_law 738 = .ok (.iload 4, 2) := dqo adql_10 (q := (738, .iload 4, 2)) 22 rfl
theorem dL_law_740 : decode cL_law 740 = .ok (.iconst 2, 1) := dqo adql_10 (q := (740, .iconst 2, 1)) 23 rfl
theorem dL_law_741 : decode cL_law 741 = .ok (.iadd, 1) := dqo adql_10 (q := (741, .iadd, 1)) 24 rfl
theorem dL_law_742 : decode cL_law 742 = .ok (.iaload, 1) := dqo adql_10 (q := (742, .iaload, 1)) 25 rfl
theorem dL_law_743 : decode cL_law 743 = .ok (.aload_n 0, 1) := dqo adql_10 (q := (743, .aload_n 0, 1)) 26 rfl
theorem dL_law_744 : decode cL_law 744 = .ok (.iload 4, 2) := dqo adql_10 (q := (744, .iload 4, 2)) 27 rfl
theorem dL_law_746 : decode cL_law 746 = .ok (.iconst 3, 1) := dqo adql_10 (q := (746, .iconst 3, 1)) 28 rfl
theorem dL_law_747 : decode cL_law 747 = .ok (.iadd, 1) := dqo adql_10 (q := (747, .iadd, 1)) 29 rfl
theorem dL_law_748 : decode cL_law 748 = .ok (.iaload, 1) := dqo adql_10 (q := (748, .iaload, 1)) 30 rfl
theorem dL_law_749 : decode cL_law 749 = .ok (.invokevirtual 81, 3) := dqo adql_10 (q := (749, .invokevirtual 81, 3)) 31 rfl
theorem dL_law_752 : decode cL_law 752 = .ok (.pop, 1) := dqo adql_10 (q := (752, .pop, 1)) 32 rfl
theorem dL_law_753 : decode cL_law 753 = .ok (.goto 697, 3) := dqo adql_10 (q := (753, .goto 697, 3)) 33 rfl
theorem dL_law_756 : decode cL_law 756 = .ok (.aload_n 1, 1) := dqo adql_10 (q := (756, .aload_n 1, 1)) 34 rfl
theorem dL_law_757 : decode cL_law 757 = .ok (.invokevirtual 82, 3) := dqo adql_10 (q := (757, .invokevirtual 82, 3)) 35 rfl
theorem dL_law_760 : decode cL_law 760 = .ok (.pop, 1) := dqo adql_10 (q := (760, .pop, 1)) 36 rfl
theorem dL_law_761 : decode cL_law 761 = .ok (.aload_n 2, 1) := dqo adql_10 (q := (761, .aload_n 2, 1)) 37 rfl
theorem dL_law_762 : decode cL_law 762 = .ok (.invokevirtual 85, 3) := dqo adql_10 (q := (762, .invokevirtual 85, 3)) 38 rfl
theorem dL_law_765 : decode cL_law 765 = .ok (.pop, 1) := dqo adql_10 (q := (765, .pop, 1)) 39 rfl
def dql_11 : List (Nat × Instr × Nat) := [(766, .goto 684, 3), (769, .aload_n 1, 1), (770, .aload_n 0, 1), (771, .iload 4, 2), (773, .iconst 1, 1), (774, .iadd, 1), (775, .iaload, 1), (776, .aload_n 0, 1), (777, .iload 4, 2), (779, .iconst 2, 1), (780, .iadd, 1), (781, .iaload, 1), (782, .invokevirtual 86, 3), (785, .pop, 1), (786, .aload_n 2, 1), (787, .aload_n 0, 1), (788, .iload 4, 2), (790, .iconst 1, 1), (791, .iadd, 1), (792, .iaload, 1), (793, .aload_n 0, 1), (794, .iload 4, 2), (796, .iconst 2, 1), (797, .iadd, 1), (798, .iaload, 1), (799, .invokevirtual 89, 3), (802, .pop, 1), (803, .goto 647, 3), (806, .aload_n 1, 1), (807, .aload_n 0, 1), (808, .iload 4, 2), (810, .iconst 1, 1), (811, .iadd, 1), (812, .iaload, 1), (813, .aload_n 0, 1), (814, .iload 4, 2), (816, .iconst 2, 1), (817, .iadd, 1), (818, .iaload, 1), (819, .invokevirtual 90, 3)]
theorem adql_11 : dql_11.all (fun q => decide (decode cL_law q.1 = .ok (q.2.1, q.2.2))) = true := by decide +kernel
theorem dL_law_766 : decode cL_law 766 = .ok (.goto 684, 3) := dqo adql_11 (q := (766, .goto 684, 3)) 0 rfl
theorem dL_law_769 : decode cL_law 769 = .ok (.aload_n 1, 1) := dqo adql_11 (q := (769, .aload_n 1, 1)) 1 rfl
theorem dL_law_770 : decode cL_law 770 = .ok (.aload_n 0, 1) := dqo adql_11 (q := (770, .aload_n 0, 1)) 2 rfl
theorem dL_law_771 : decode cL_law 771 = .ok (.iload 4, 2) := dqo adql_11 (q := (771, .iload 4, 2)) 3 rfl
theorem dL_law_773 : decode cL_law 773 = .ok (.iconst 1, 1) := dqo adql_11 (q := (773, .iconst 1, 1)) 4 rfl
theorem dL_law_774 : decode cL_law 774 = .ok (.iadd, 1) := dqo adql_11 (q := (774, .iadd, 1)) 5 rfl
theorem dL_law_775 : decode cL_law 775 = .ok (.iaload, 1) := dqo adql_11 (q := (775, .iaload, 1)) 6 rfl
theorem dL_law_776 : decode cL_law 776 = .ok (.aload_n 0, 1) := dqo adql_11 (q := (776, .aload_n 0, 1)) 7 rfl
theorem dL_law_777 : decode cL_law 777 = .ok (.iload 4, 2) := dqo adql_11 (q := (777, .iload 4, 2)) 8 rfl
theorem dL_law_779 : decode cL_law 779 = .ok (.iconst 2, 1) := dqo adql_11 (q := (779, .iconst 2, 1)) 9 rfl
theorem dL_law_780 : decode cL_law 780 = .ok (.iadd, 1) := dqo adql_11 (q := (780, .iadd, 1)) 10 rfl
theorem dL_law_781 : decode cL_law 781 = .ok (.iaload, 1) := dqo adql_11 (q := (781, .iaload, 1)) 11 rfl
theorem dL_law_782 : decode cL_law 782 = .ok (.invokevirtual 86, 3) := dqo adql_11 (q := (782, .invokevirtual 86, 3)) 12 rfl
theorem dL_law_785 : decode cL_law 785 = .ok (.pop, 1) := dqo adql_11 (q := (785, .pop, 1)) 13 rfl
theorem dL_law_786 : decode cL_law 786 = .ok (.aload_n 2, 1) := dqo adql_11 (q := (786, .aload_n 2, 1)) 14 rfl
theorem dL_law_787 : decode cL_law 787 = .ok (.aload_n 0, 1) := dqo adql_11 (q := (787, .aload_n 0, 1)) 15 rfl
theorem dL_law_788 : decode cL_law 788 = .ok (.iload 4, 2) := dqo adql_11 (q := (788, .iload 4, 2)) 16 rfl
theorem dL_law_790 : decode cL_law 790 = .ok (.iconst 1, 1) := dqo adql_11 (q := (790, .iconst 1, 1)) 17 rfl
theorem dL_law_791 : decode cL_law 791 = .ok (.iadd, 1) := dqo adql_11 (q := (791, .iadd, 1)) 18 rfl
theorem dL_law_792 : decode cL_law 792 = .ok (.iaload, 1) := dqo adql_11 (q := (792, .iaload, 1)) 19 rfl
theorem dL_law_793 : decode cL_law 793 = .ok (.aload_n 0, 1) := dqo adql_11 (q := (793, .aload_n 0, 1)) 20 rfl
theorem dL_law_794 : decode cL_law 794 = .ok (.iload 4, 2) := dqo adql_11 (q := (794, .iload 4, 2)) 21 rfl
theorem dL_law_796 : decode cL_law 796 = .ok (.iconst 2, 1) := dqo adql_11 (q := (796, .iconst 2, 1)) 22 rfl
theorem dL_law_797 : decode cL_law 797 = .ok (.iadd, 1) := dqo adql_11 (q := (797, .iadd, 1)) 23 rfl
theorem dL_law_798 : decode cL_law 798 = .ok (.iaload, 1) := dqo adql_11 (q := (798, .iaload, 1)) 24 rfl
theorem dL_law_799 : decode cL_law 799 = .ok (.invokevirtual 89, 3) := dqo adql_11 (q := (799, .invokevirtual 89, 3)) 25 rfl
theorem dL_law_802 : decode cL_law 802 = .ok (.pop, 1) := dqo adql_11 (q := (802, .pop, 1)) 26 rfl
theorem dL_law_803 : decode cL_law 803 = .ok (.goto 647, 3) := dqo adql_11 (q := (803, .goto 647, 3)) 27 rfl
theorem dL_law_806 : decode cL_law 806 = .ok (.aload_n 1, 1) := dqo adql_11 (q := (806, .aload_n 1, 1)) 28 rfl
theorem dL_law_807 : decode cL_law 807 = .ok (.aload_n 0, 1) := dqo adql_11 (q := (807, .aload_n 0, 1)) 29 rfl
theorem dL_law_808 : decode cL_law 808 = .ok (.iload 4, 2) := dqo adql_11 (q := (808, .iload 4, 2)) 30 rfl
theorem dL_law_810 : decode cL_law 810 = .ok (.iconst 1, 1) := dqo adql_11 (q := (810, .iconst 1, 1)) 31 rfl
theorem dL_law_811 : decode cL_law 811 = .ok (.iadd, 1) := dqo adql_11 (q := (811, .iadd, 1)) 32 rfl
theorem dL_law_812 : decode cL_law 812 = .ok (.iaload, 1) := dqo adql_11 (q := (812, .iaload, 1)) 33 rfl
theorem dL_law_813 : decode cL_law 813 = .ok (.aload_n 0, 1) := dqo adql_11 (q := (813, .aload_n 0, 1)) 34 rfl
theorem dL_law_814 : decode cL_law 814 = .ok (.iload 4, 2) := dqo adql_11 (q := (814, .iload 4, 2)) 35 rfl
theorem dL_law_816 : decode cL_law 816 = .ok (.iconst 2, 1) := dqo adql_11 (q := (816, .iconst 2, 1)) 36 rfl
theorem dL_law_817 : decode cL_law 817 = .ok (.iadd, 1) := dqo adql_11 (q := (817, .iadd, 1)) 37 rfl
theorem dL_law_818 : decode cL_law 818 = .ok (.iaload, 1) := dqo adql_11 (q := (818, .iaload, 1)) 38 rfl
theorem dL_law_819 : decode cL_law 819 = .ok (.invokevirtual 90, 3) := dqo adql_11 (q := (819, .invokevirtual 90, 3)) 39 rfl
def dql_12 : List (Nat × Instr × Nat) := [(822, .pop, 1), (823, .aload_n 2, 1), (824, .aload_n 0, 1), (825, .iload 4, 2), (827, .iconst 1, 1), (828, .iadd, 1), (829, .iaload, 1), (830, .aload_n 0, 1), (831, .iload 4, 2), (833, .iconst 2, 1), (834, .iadd, 1), (835, .iaload, 1), (836, .invokevirtual 93, 3), (839, .pop, 1), (840, .goto 610, 3), (843, .aload_n 1, 1), (844, .invokevirtual 94, 3), (847, .pop, 1), (848, .aload_n 2, 1), (849, .invokevirtual 97, 3), (852, .pop, 1), (853, .goto 597, 3), (856, .aload_n 1, 1), (857, .aload_n 0, 1), (858, .iload 4, 2), (860, .iconst 1, 1), (861, .iadd, 1), (862, .iaload, 1), (863, .aload_n 0, 1), (864, .iload 4, 2), (866, .iconst 2, 1), (867, .iadd, 1), (868, .iaload, 1), (869, .invokevirtual 98, 3), (872, .pop, 1), (873, .aload_n 2, 1), (874, .aload_n 0, 1), (875, .iload 4, 2), (877, .iconst 1, 1), (878, .iadd, 1)]
theorem adql_12 : dql_12.all (fun q => decide (decode cL_law q.1 = .ok (q.2.1, q.2.2))) = true := by decide +kernel
theorem dL_law_822 : decode cL_law 822 = .ok (.pop, 1) := dqo adql_12 (q := (822, .pop, 1)) 0 rfl
theorem dL_law_823 : decode cL_law 823 = .ok (.aload_n 2, 1) := dqo adql_12 (q := (823, .aload_n 2, 1)) 1 rfl
theorem dL_law_824 : decode cL_law 824 = .ok (.aload_n 0, 1) := dqo adql_12 (q := (824, .aload_n 0, 1)) 2 rfl
theorem dL_law_825 : decode cL_law 825 = .ok (.iload 4, 2) := dqo adql_12 (q := (825, .iload 4, 2)) 3 rfl
theorem dL_law_827 : decode cL_law 827 = .ok (.iconst 1, 1) := dqo adql_12 (q := (827, .iconst 1, 1)) 4 rfl
theorem dL_law_828 : decode cL_law 828 = .ok (.iadd, 1) := dqo adql_12 (q := (828, .iadd, 1)) 5 rfl
theorem dL_law_829 : decode cL_law 829 = .ok (.iaload, 1) := dqo adql_12 (q := (829, .iaload, 1)) 6 rfl
theorem dL_law_830 : decode cL_law 830 = .ok (.aload_n 0, 1) := dqo adql_12 (q := (830, .aload_n 0, 1)) 7 rfl
theorem dL_law_831 : decode cL_law 831 = .ok (.iload 4, 2) := dqo adql_12 (q := (831, .iload 4, 2)) 8 rfl
theorem dL_law_833 : decode cL_law 833 = .ok (.iconst 2, 1) := dqo adql_12 (q := (833, .iconst 2, 1)) 9 rfl
theorem dL_law_834 : decode cL_law 834 = .ok (.iadd, 1) := dqo adql_12 (q := (834, .iadd, 1)) 10 rfl
theorem dL_law_835 : decode cL_law 835 = .ok (.iaload, 1) := dqo adql_12 (q := (835, .iaload, 1)) 11 rfl
theorem dL_law_836 : decode cL_law 836 = .ok (.invokevirtual 93, 3) := dqo adql_12 (q := (836, .invokevirtual 93, 3)) 12 rfl
theorem dL_law_839 : decode cL_law 839 = .ok (.pop, 1) := dqo adql_12 (q := (839, .pop, 1)) 13 rfl
theorem dL_law_840 : decode cL_law 840 = .ok (.goto 610, 3) := dqo adql_12 (q := (840, .goto 610, 3)) 14 rfl
theorem dL_law_843 : decode cL_law 843 = .ok (.aload_n 1, 1) := dqo adql_12 (q := (843, .aload_n 1, 1)) 15 rfl
theorem dL_law_844 : decode cL_law 844 = .ok (.invokevirtual 94, 3) := dqo adql_12 (q := (844, .invokevirtual 94, 3)) 16 rfl
theorem dL_law_847 : decode cL_law 847 = .ok (.pop, 1) := dqo adql_12 (q := (847, .pop, 1)) 17 rfl
theorem dL_law_848 : decode cL_law 848 = .ok (.aload_n 2, 1) := dqo adql_12 (q := (848, .aload_n 2, 1)) 18 rfl
theorem dL_law_849 : decode cL_law 849 = .ok (.invokevirtual 97, 3) := dqo adql_12 (q := (849, .invokevirtual 97, 3)) 19 rfl
theorem dL_law_852 : decode cL_law 852 = .ok (.pop, 1) := dqo adql_12 (q := (852, .pop, 1)) 20 rfl
theorem dL_law_853 : decode cL_law 853 = .ok (.goto 597, 3) := dqo adql_12 (q := (853, .goto 597, 3)) 21 rfl
theorem dL_law_856 : decode cL_law 856 = .ok (.aload_n 1, 1) := dqo adql_12 (q := (856, .aload_n 1, 1)) 22 rfl
theorem dL_law_857 : decode cL_law 857 = .ok (.aload_n 0, 1) := dqo adql_12 (q := (857, .aload_n 0, 1)) 23 rfl
theorem dL_law_858 : decode cL_law 858 = .ok (.iload 4, 2) := dqo adql_12 (q := (858, .iload 4, 2)) 24 rfl
theorem dL_law_860 : decode cL_law 860 = .ok (.iconst 1, 1) := dqo adql_12 (q := (860, .iconst 1, 1)) 25 rfl
theorem dL_law_861 : decode cL_law 861 = .ok (.iadd, 1) := dqo adql_12 (q := (861, .iadd, 1)) 26 rfl
theorem dL_law_862 : decode cL_law 862 = .ok (.iaload, 1) := dqo adql_12 (q := (862, .iaload, 1)) 27 rfl
theorem dL_law_863 : decode cL_law 863 = .ok (.aload_n 0, 1) := dqo adql_12 (q := (863, .aload_n 0, 1)) 28 rfl
theorem dL_law_864 : decode cL_law 864 = .ok (.iload 4, 2) := dqo adql_12 (q := (864, .iload 4, 2)) 29 rfl
theorem dL_law_866 : decode cL_law 866 = .ok (.iconst 2, 1) := dqo adql_12 (q := (866, .iconst 2, 1)) 30 rfl
theorem dL_law_867 : decode cL_law 867 = .ok (.iadd, 1) := dqo adql_12 (q := (867, .iadd, 1)) 31 rfl
theorem dL_law_868 : decode cL_law 868 = .ok (.iaload, 1) := dqo adql_12 (q := (868, .iaload, 1)) 32 rfl
theorem dL_law_869 : decode cL_law 869 = .ok (.invokevirtual 98, 3) := dqo adql_12 (q := (869, .invokevirtual 98, 3)) 33 rfl
theorem dL_law_872 : decode cL_law 872 = .ok (.pop, 1) := dqo adql_12 (q := (872, .pop, 1)) 34 rfl
theorem dL_law_873 : decode cL_law 873 = .ok (.aload_n 2, 1) := dqo adql_12 (q := (873, .aload_n 2, 1)) 35 rfl
theorem dL_law_874 : decode cL_law 874 = .ok (.aload_n 0, 1) := dqo adql_12 (q := (874, .aload_n 0, 1)) 36 rfl
theorem dL_law_875 : decode cL_law 875 = .ok (.iload 4, 2) := dqo adql_12 (q := (875, .iload 4, 2)) 37 rfl
theorem dL_law_877 : decode cL_law 877 = .ok (.iconst 1, 1) := dqo adql_12 (q := (877, .iconst 1, 1)) 38 rfl
theorem dL_law_878 : decode cL_law 878 = .ok (.iadd, 1) := dqo adql_12 (q := (878, .iadd, 1)) 39 rfl
def dql_13 : List (Nat × Instr × Nat) := [(879, .iaload, 1), (880, .aload_n 0, 1), (881, .iload 4, 2), (883, .iconst 2, 1), (884, .iadd, 1), (885, .iaload, 1), (886, .invokevirtual 101, 3), (889, .pop, 1), (890, .goto 560, 3), (893, .aload_n 1, 1), (894, .aload_n 0, 1), (895, .iload 4, 2), (897, .iconst 1, 1), (898, .iadd, 1), (899, .iaload, 1), (900, .aload_n 0, 1), (901, .iload 4, 2), (903, .iconst 2, 1), (904, .iadd, 1), (905, .iaload, 1), (906, .aload_n 0, 1), (907, .iload 4, 2), (909, .iconst 3, 1), (910, .iadd, 1), (911, .iaload, 1), (912, .invokevirtual 102, 3), (915, .pop, 1), (916, .aload_n 2, 1), (917, .aload_n 0, 1), (918, .iload 4, 2), (920, .iconst 1, 1), (921, .iadd, 1), (922, .iaload, 1), (923, .aload_n 0, 1), (924, .iload 4, 2), (926, .iconst 2, 1), (927, .iadd, 1), (928, .iaload, 1), (929, .aload_n 0, 1), (930, .iload 4, 2)]
theorem adql_13 : dql_13.all (fun q => decide (decode cL_law q.1 = .ok (q.2.1, q.2.2))) = true := by decide +kernel
theorem dL_law_879 : decode cL_law 879 = .ok (.iaload, 1) := dqo adql_13 (q := (879, .iaload, 1)) 0 rfl
theorem dL_law_880 : decode cL_law 880 = .ok (.aload_n 0, 1) := dqo adql_13 (q := (880, .aload_n 0, 1)) 1 rfl
theorem dL_law_881 : decode cL_law 881 = .ok (.iload 4, 2) := dqo adql_13 (q := (881, .iload 4, 2)) 2 rfl
theorem dL_law_883 : decode cL_law 883 = .ok (.iconst 2, 1) := dqo adql_13 (q := (883, .iconst 2, 1)) 3 rfl
theorem dL_law_884 : decode cL_law 884 = .ok (.iadd, 1) := dqo adql_13 (q := (884, .iadd, 1)) 4 rfl
theorem dL_law_885 : decode cL_law 885 = .ok (.iaload, 1) := dqo adql_13 (q := (885, .iaload, 1)) 5 rfl
theorem dL_law_886 : decode cL_law 886 = .ok (.invokevirtual 101, 3) := dqo adql_13 (q := (886, .invokevirtual 101, 3)) 6 rfl
theorem dL_law_889 : decode cL_law 889 = .ok (.pop, 1) := dqo adql_13 (q := (889, .pop, 1)) 7 rfl
theorem dL_law_890 : decode cL_law 890 = .ok (.goto 560, 3) := dqo adql_13 (q := (890, .goto 560, 3)) 8 rfl
theorem dL_law_893 : decode cL_law 893 = .ok (.aload_n 1, 1) := dqo adql_13 (q := (893, .aload_n 1, 1)) 9 rfl
theorem dL_law_894 : decode cL_law 894 = .ok (.aload_n 0, 1) := dqo adql_13 (q := (894, .aload_n 0, 1)) 10 rfl
theorem dL_law_895 : decode cL_law 895 = .ok (.iload 4, 2) := dqo adql_13 (q := (895, .iload 4, 2)) 11 rfl
theorem dL_law_897 : decode cL_law 897 = .ok (.iconst 1, 1) := dqo adql_13 (q := (897, .iconst 1, 1)) 12 rfl
theorem dL_law_898 : decode cL_law 898 = .ok (.iadd, 1) := dqo adql_13 (q := (898, .iadd, 1)) 13 rfl
theorem dL_law_899 : decode cL_law 899 = .ok (.iaload, 1) := dqo adql_13 (q := (899, .iaload, 1)) 14 rfl
theorem dL_law_900 : decode cL_law 900 = .ok (.aload_n 0, 1) := dqo adql_13 (q := (900, .aload_n 0, 1)) 15 rfl
theorem dL_law_901 : decode cL_law 901 = .ok (.iload 4, 2) := dqo adql_13 (q := (901, .iload 4, 2)) 16 rfl
theorem dL_law_903 : decode cL_law 903 = .ok (.iconst 2, 1) := dqo adql_13 (q := (903, .iconst 2, 1)) 17 rfl
theorem dL_law_904 : decode cL_law 904 = .ok (.iadd, 1) := dqo adql_13 (q := (904, .iadd, 1)) 18 rfl
theorem dL_law_905 : decode cL_law 905 = .ok (.iaload, 1) := dqo adql_13 (q := (905, .iaload, 1)) 19 rfl
theorem dL_law_906 : decode cL_law 906 = .ok (.aload_n 0, 1) := dqo adql_13 (q := (906, .aload_n 0, 1)) 20 rfl
theorem dL_law_907 : decode cL_law 907 = .ok (.iload 4, 2) := dqo adql_13 (q := (907, .iload 4, 2)) 21 rfl
theorem dL_law_909 : decode cL_law 909 = .ok (.iconst 3, 1) := dqo adql_13 (q := (909, .iconst 3, 1)) 22 rfl
theorem dL_law_910 : decode cL_law 910 = .ok (.iadd, 1) := dqo adql_13 (q := (910, .iadd, 1)) 23 rfl
theorem dL_law_911 : decode cL_law 911 = .ok (.iaload, 1) := dqo adql_13 (q := (911, .iaload, 1)) 24 rfl
theorem dL_law_912 : decode cL_law 912 = .ok (.invokevirtual 102, 3) := dqo adql_13 (q := (912, .invokevirtual 102, 3)) 25 rfl
theorem dL_law_915 : decode cL_law 915 = .ok (.pop, 1) := dqo adql_13 (q := (915, .pop, 1)) 26 rfl
theorem dL_law_916 : decode cL_law 916 = .ok (.aload_n 2, 1) := dqo adql_13 (q := (916, .aload_n 2, 1)) 27 rfl
theorem dL_law_917 : decode cL_law 917 = .ok (.aload_n 0, 1) := dqo adql_13 (q := (917, .aload_n 0, 1)) 28 rfl
theorem dL_law_918 : decode cL_law 918 = .ok (.iload 4, 2) := dqo adql_13 (q := (918, .iload 4, 2)) 29 rfl
theorem dL_law_920 : decode cL_law 920 = .ok (.iconst 1, 1) := dqo adql_13 (q := (920, .iconst 1, 1)) 30 rfl
theorem dL_law_921 : decode cL_law 921 = .ok (.iadd, 1) := dqo adql_13 (q := (921, .iadd, 1)) 31 rfl
theorem dL_law_922 : decode cL_law 922 = .ok (.iaload, 1) := dqo adql_13 (q := (922, .iaload, 1)) 32 rfl
theorem dL_law_923 : decode cL_law 923 = .ok (.aload_n 0, 1) := dqo adql_13 (q := (923, .aload_n 0, 1)) 33 rfl
theorem dL_law_924 : decode cL_law 924 = .ok (.iload 4, 2) := dqo adql_13 (q := (924, .iload 4, 2)) 34 rfl
theorem dL_law_926 : decode cL_law 926 = .ok (.iconst 2, 1) := dqo adql_13 (q := (926, .iconst 2, 1)) 35 rfl
theorem dL_law_927 : decode cL_law 927 = .ok (.iadd, 1) := dqo adql_13 (q := (927, .iadd, 1)) 36 rfl
theorem dL_law_928 : decode cL_law 928 = .ok (.iaload, 1) := dqo adql_13 (q := (928, .iaload, 1)) 37 rfl
theorem dL_law_929 : decode cL_law 929 = .ok (.aload_n 0, 1) := dqo adql_13 (q := (929, .aload_n 0, 1)) 38 rfl
theorem dL_law_930 : decode cL_law 930 = .ok (.iload 4, 2) := dqo adql_13 (q := (930, .iload 4, 2)) 39 rfl
def dql_14 : List (Nat × Instr × Nat) := [(932, .iconst 3, 1), (933, .iadd, 1), (934, .iaload, 1), (935, .invokevirtual 105, 3), (938, .pop, 1), (939, .goto 511, 3), (942, .aload_n 1, 1), (943, .aload_n 0, 1), (944, .iload 4, 2), (946, .iconst 1, 1), (947, .iadd, 1), (948, .iaload, 1), (949, .aload_n 0, 1), (950, .iload 4, 2), (952, .iconst 2, 1), (953, .iadd, 1), (954, .iaload, 1), (955, .aload_n 0, 1), (956, .iload 4, 2), (958, .iconst 3, 1), (959, .iadd, 1), (960, .iaload, 1), (961, .invokevirtual 106, 3), (964, .pop, 1), (965, .aload_n 2, 1), (966, .aload_n 0, 1), (967, .iload 4, 2), (969, .iconst 1, 1), (970, .iadd, 1), (971, .iaload, 1), (972, .aload_n 0, 1), (973, .iload 4, 2), (975, .iconst 2, 1), (976, .iadd, 1), (977, .iaload, 1), (978, .aload_n 0, 1), (979, .iload 4, 2), (981, .iconst 3, 1), (982, .iadd, 1), (983, .iaload, 1)]
theorem adql_14 : dql_14.all (fun q => decide (decode cL_law q.1 = .ok (q.2.1, q.2.2))) = true := by decide +kernel
theorem dL_law_932 : decode cL_law 932 = .ok (.iconst 3, 1) := dqo adql_14 (q := (932, .iconst 3, 1)) 0 rfl
theorem dL_law_933 : decode cL_law 933 = .ok (.iadd, 1) := dqo adql_14 (q := (933, .iadd, 1)) 1 rfl
theorem dL_law_934 : decode cL_law 934 = .ok (.iaload, 1) := dqo adql_14 (q := (934, .iaload, 1)) 2 rfl
theorem dL_law_935 : decode cL_law 935 = .ok (.invokevirtual 105, 3) := dqo adql_14 (q := (935, .invokevirtual 105, 3)) 3 rfl
theorem dL_law_938 : decode cL_law 938 = .ok (.pop, 1) := dqo adql_14 (q := (938, .pop, 1)) 4 rfl
theorem dL_law_939 : decode cL_law 939 = .ok (.goto 511, 3) := dqo adql_14 (q := (939, .goto 511, 3)) 5 rfl
theorem dL_law_942 : decode cL_law 942 = .ok (.aload_n 1, 1) := dqo adql_14 (q := (942, .aload_n 1, 1)) 6 rfl
theorem dL_law_943 : decode cL_law 943 = .ok (.aload_n 0, 1) := dqo adql_14 (q := (943, .aload_n 0, 1)) 7 rfl
theorem dL_law_944 : decode cL_law 944 = .ok (.iload 4, 2) := dqo adql_14 (q := (944, .iload 4, 2)) 8 rfl
theorem dL_law_946 : decode cL_law 946 = .ok (.iconst 1, 1) := dqo adql_14 (q := (946, .iconst 1, 1)) 9 rfl
theorem dL_law_947 : decode cL_law 947 = .ok (.iadd, 1) := dqo adql_14 (q := (947, .iadd, 1)) 10 rfl
theorem dL_law_948 : decode cL_law 948 = .ok (.iaload, 1) := dqo adql_14 (q := (948, .iaload, 1)) 11 rfl
theorem dL_law_949 : decode cL_law 949 = .ok (.aload_n 0, 1) := dqo adql_14 (q := (949, .aload_n 0, 1)) 12 rfl
theorem dL_law_950 : decode cL_law 950 = .ok (.iload 4, 2) := dqo adql_14 (q := (950, .iload 4, 2)) 13 rfl
theorem dL_law_952 : decode cL_law 952 = .ok (.iconst 2, 1) := dqo adql_14 (q := (952, .iconst 2, 1)) 14 rfl
theorem dL_law_953 : decode cL_law 953 = .ok (.iadd, 1) := dqo adql_14 (q := (953, .iadd, 1)) 15 rfl
theorem dL_law_954 : decode cL_law 954 = .ok (.iaload, 1) := dqo adql_14 (q := (954, .iaload, 1)) 16 rfl
theorem dL_law_955 : decode cL_law 955 = .ok (.aload_n 0, 1) := dqo adql_14 (q := (955, .aload_n 0, 1)) 17 rfl
theorem dL_law_956 : decode cL_law 956 = .ok (.iload 4, 2) := dqo adql_14 (q := (956, .iload 4, 2)) 18 rfl
theorem dL_law_958 : decode cL_law 958 = .ok (.iconst 3, 1) := dqo adql_14 (q := (958, .iconst 3, 1)) 19 rfl
theorem dL_law_959 : decode cL_law 959 = .ok (.iadd, 1) := dqo adql_14 (q := (959, .iadd, 1)) 20 rfl
theorem dL_law_960 : decode cL_law 960 = .ok (.iaload, 1) := dqo adql_14 (q := (960, .iaload, 1)) 21 rfl
theorem dL_law_961 : decode cL_law 961 = .ok (.invokevirtual 106, 3) := dqo adql_14 (q := (961, .invokevirtual 106, 3)) 22 rfl
theorem dL_law_964 : decode cL_law 964 = .ok (.pop, 1) := dqo adql_14 (q := (964, .pop, 1)) 23 rfl
theorem dL_law_965 : decode cL_law 965 = .ok (.aload_n 2, 1) := dqo adql_14 (q := (965, .aload_n 2, 1)) 24 rfl
theorem dL_law_966 : decode cL_law 966 = .ok (.aload_n 0, 1) := dqo adql_14 (q := (966, .aload_n 0, 1)) 25 rfl
theorem dL_law_967 : decode cL_law 967 = .ok (.iload 4, 2) := dqo adql_14 (q := (967, .iload 4, 2)) 26 rfl
theorem dL_law_969 : decode cL_law 969 = .ok (.iconst 1, 1) := dqo adql_14 (q := (969, .iconst 1, 1)) 27 rfl
theorem dL_law_970 : decode cL_law 970 = .ok (.iadd, 1) := dqo adql_14 (q := (970, .iadd, 1)) 28 rfl
theorem dL_law_971 : decode cL_law 971 = .ok (.iaload, 1) := dqo adql_14 (q := (971, .iaload, 1)) 29 rfl
theorem dL_law_972 : decode cL_law 972 = .ok (.aload_n 0, 1) := dqo adql_14 (q := (972, .aload_n 0, 1)) 30 rfl
theorem dL_law_973 : decode cL_law 973 = .ok (.iload 4, 2) := dqo adql_14 (q := (973, .iload 4, 2)) 31 rfl
theorem dL_law_975 : decode cL_law 975 = .ok (.iconst 2, 1) := dqo adql_14 (q := (975, .iconst 2, 1)) 32 rfl
theorem dL_law_976 : decode cL_law 976 = .ok (.iadd, 1) := dqo adql_14 (q := (976, .iadd, 1)) 33 rfl
theorem dL_law_977 : decode cL_law 977 = .ok (.iaload, 1) := dqo adql_14 (q := (977, .iaload, 1)) 34 rfl
theorem dL_law_978 : decode cL_law 978 = .ok (.aload_n 0, 1) := dqo adql_14 (q := (978, .aload_n 0, 1)) 35 rfl
theorem dL_law_979 : decode cL_law 979 = .ok (.iload 4, 2) := dqo adql_14 (q := (979, .iload 4, 2)) 36 rfl
theorem dL_law_981 : decode cL_law 981 = .ok (.iconst 3, 1) := dqo adql_14 (q := (981, .iconst 3, 1)) 37 rfl
theorem dL_law_982 : decode cL_law 982 = .ok (.iadd, 1) := dqo adql_14 (q := (982, .iadd, 1)) 38 rfl
theorem dL_law_983 : decode cL_law 983 = .ok (.iaload, 1) := dqo adql_14 (q := (983, .iaload, 1)) 39 rfl
def dql_15 : List (Nat × Instr × Nat) := [(984, .invokevirtual 109, 3), (987, .pop, 1), (988, .goto 462, 3), (991, .aload_n 1, 1), (992, .aload_n 0, 1), (993, .iload 4, 2), (995, .iconst 1, 1), (996, .iadd, 1), (997, .iaload, 1), (998, .invokevirtual 110, 3), (1001, .pop, 1), (1002, .aload_n 2, 1), (1003, .aload_n 0, 1), (1004, .iload 4, 2), (1006, .iconst 1, 1), (1007, .iadd, 1), (1008, .iaload, 1), (1009, .invokevirtual 113, 3), (1012, .pop, 1), (1013, .goto 437, 3), (1016, .aload_n 1, 1), (1017, .aload_n 0, 1), (1018, .iload 4, 2), (1020, .iconst 1, 1), (1021, .iadd, 1), (1022, .iaload, 1), (1023, .invokevirtual 114, 3), (1026, .pop, 1), (1027, .aload_n 2, 1), (1028, .aload_n 0, 1), (1029, .iload 4, 2), (1031, .iconst 1, 1), (1032, .iadd, 1), (1033, .iaload, 1), (1034, .invokevirtual 117, 3), (1037, .pop, 1), (1038, .goto 412, 3), (1041, .aload_n 1, 1), (1042, .aload_n 0, 1), (1043, .iload 4, 2)]
theorem adql_15 : dql_15.all (fun q => decide (decode cL_law q.1 = .ok (q.2.1, q.2.2))) = true := by decide +kernel
theorem dL_law_984 : decode cL_law 984 = .ok (.invokevirtual 109, 3) := dqo adql_15 (q := (984, .invokevirtual 109, 3)) 0 rfl
theorem dL_law_987 : decode cL_law 987 = .ok (.pop, 1) := dqo adql_15 (q := (987, .pop, 1)) 1 rfl
theorem dL_law_988 : decode cL_law 988 = .ok (.goto 462, 3) := dqo adql_15 (q := (988, .goto 462, 3)) 2 rfl
theorem dL_law_991 : decode cL_law 991 = .ok (.aload_n 1, 1) := dqo adql_15 (q := (991, .aload_n 1, 1)) 3 rfl
theorem dL_law_992 : decode cL_law 992 = .ok (.aload_n 0, 1) := dqo adql_15 (q := (992, .aload_n 0, 1)) 4 rfl
theorem dL_law_993 : decode cL_law 993 = .ok (.iload 4, 2) := dqo adql_15 (q := (993, .iload 4, 2)) 5 rfl
theorem dL_law_995 : decode cL_law 995 = .ok (.iconst 1, 1) := dqo adql_15 (q := (995, .iconst 1, 1)) 6 rfl
theorem dL_law_996 : decode cL_law 996 = .ok (.iadd, 1) := dqo adql_15 (q := (996, .iadd, 1)) 7 rfl
theorem dL_law_997 : decode cL_law 997 = .ok (.iaload, 1) := dqo adql_15 (q := (997, .iaload, 1)) 8 rfl
theorem dL_law_998 : decode cL_law 998 = .ok (.invokevirtual 110, 3) := dqo adql_15 (q := (998, .invokevirtual 110, 3)) 9 rfl
theorem dL_law_1001 : decode cL_law 1001 = .ok (.pop, 1) := dqo adql_15 (q := (1001, .pop, 1)) 10 rfl
theorem dL_law_1002 : decode cL_law 1002 = .ok (.aload_n 2, 1) := dqo adql_15 (q := (1002, .aload_n 2, 1)) 11 rfl
theorem dL_law_1003 : decode cL_law 1003 = .ok (.aload_n 0, 1) := dqo adql_15 (q := (1003, .aload_n 0, 1)) 12 rfl
theorem dL_law_1004 : decode cL_law 1004 = .ok (.iload 4, 2) := dqo adql_15 (q := (1004, .iload 4, 2)) 13 rfl
theorem dL_law_1006 : decode cL_law 1006 = .ok (.iconst 1, 1) := dqo adql_15 (q := (1006, .iconst 1, 1)) 14 rfl
theorem dL_law_1007 : decode cL_law 1007 = .ok (.iadd, 1) := dqo adql_15 (q := (1007, .iadd, 1)) 15 rfl
theorem dL_law_1008 : decode cL_law 1008 = .ok (.iaload, 1) := dqo adql_15 (q := (1008, .iaload, 1)) 16 rfl
theorem dL_law_1009 : decode cL_law 1009 = .ok (.invokevirtual 113, 3) := dqo adql_15 (q := (1009, .invokevirtual 113, 3)) 17 rfl
theorem dL_law_1012 : decode cL_law 1012 = .ok (.pop, 1) := dqo adql_15 (q := (1012, .pop, 1)) 18 rfl
theorem dL_law_1013 : decode cL_law 1013 = .ok (.goto 437, 3) := dqo adql_15 (q := (1013, .goto 437, 3)) 19 rfl
theorem dL_law_1016 : decode cL_law 1016 = .ok (.aload_n 1, 1) := dqo adql_15 (q := (1016, .aload_n 1, 1)) 20 rfl
theorem dL_law_1017 : decode cL_law 1017 = .ok (.aload_n 0, 1) := dqo adql_15 (q := (1017, .aload_n 0, 1)) 21 rfl
theorem dL_law_1018 : decode cL_law 1018 = .ok (.iload 4, 2) := dqo adql_15 (q := (1018, .iload 4, 2)) 22 rfl
theorem dL_law_1020 : decode cL_law 1020 = .ok (.iconst 1, 1) := dqo adql_15 (q := (1020, .iconst 1, 1)) 23 rfl
theorem dL_law_1021 : decode cL_law 1021 = .ok (.iadd, 1) := dqo adql_15 (q := (1021, .iadd, 1)) 24 rfl
theorem dL_law_1022 : decode cL_law 1022 = .ok (.iaload, 1) := dqo adql_15 (q := (1022, .iaload, 1)) 25 rfl
theorem dL_law_1023 : decode cL_law 1023 = .ok (.invokevirtual 114, 3) := dqo adql_15 (q := (1023, .invokevirtual 114, 3)) 26 rfl
theorem dL_law_1026 : decode cL_law 1026 = .ok (.pop, 1) := dqo adql_15 (q := (1026, .pop, 1)) 27 rfl
theorem dL_law_1027 : decode cL_law 1027 = .ok (.aload_n 2, 1) := dqo adql_15 (q := (1027, .aload_n 2, 1)) 28 rfl
theorem dL_law_1028 : decode cL_law 1028 = .ok (.aload_n 0, 1) := dqo adql_15 (q := (1028, .aload_n 0, 1)) 29 rfl
theorem dL_law_1029 : decode cL_law 1029 = .ok (.iload 4, 2) := dqo adql_15 (q := (1029, .iload 4, 2)) 30 rfl
theorem dL_law_1031 : decode cL_law 1031 = .ok (.iconst 1, 1) := dqo adql_15 (q := (1031, .iconst 1, 1)) 31 rfl
theorem dL_law_1032 : decode cL_law 1032 = .ok (.iadd, 1) := dqo adql_15 (q := (1032, .iadd, 1)) 32 rfl
theorem dL_law_1033 : decode cL_law 1033 = .ok (.iaload, 1) := dqo adql_15 (q := (1033, .iaload, 1)) 33 rfl
theorem dL_law_1034 : decode cL_law 1034 = .ok (.invokevirtual 117, 3) := dqo adql_15 (q := (1034, .invokevirtual 117, 3)) 34 rfl
theorem dL_law_1037 : decode cL_law 1037 = .ok (.pop, 1) := dqo adql_15 (q := (1037, .pop, 1)) 35 rfl
theorem dL_law_1038 : decode cL_law 1038 = .ok (.goto 412, 3) := dqo adql_15 (q := (1038, .goto 412, 3)) 36 rfl
theorem dL_law_1041 : decode cL_law 1041 = .ok (.aload_n 1, 1) := dqo adql_15 (q := (1041, .aload_n 1, 1)) 37 rfl
theorem dL_law_1042 : decode cL_law 1042 = .ok (.aload_n 0, 1) := dqo adql_15 (q := (1042, .aload_n 0, 1)) 38 rfl
theorem dL_law_1043 : decode cL_law 1043 = .ok (.iload 4, 2) := dqo adql_15 (q := (1043, .iload 4, 2)) 39 rfl
def dql_16 : List (Nat × Instr × Nat) := [(1045, .iconst 1, 1), (1046, .iadd, 1), (1047, .iaload, 1), (1048, .invokevirtual 118, 3), (1051, .pop, 1), (1052, .aload_n 2, 1), (1053, .aload_n 0, 1), (1054, .iload 4, 2), (1056, .iconst 1, 1), (1057, .iadd, 1), (1058, .iaload, 1), (1059, .invokevirtual 121, 3), (1062, .pop, 1), (1063, .goto 387, 3), (1066, .aload_n 1, 1), (1067, .aload_n 0, 1), (1068, .iload 4, 2), (1070, .iconst 1, 1), (1071, .iadd, 1), (1072, .iaload, 1), (1073, .invokevirtual 122, 3), (1076, .pop, 1), (1077, .aload_n 2, 1), (1078, .aload_n 0, 1), (1079, .iload 4, 2), (1081, .iconst 1, 1), (1082, .iadd, 1), (1083, .iaload, 1), (1084, .invokevirtual 126, 3), (1087, .pop, 1), (1088, .goto 362, 3), (1091, .aload_n 1, 1), (1092, .invokevirtual 127, 3), (1095, .pop, 1), (1096, .aload_n 2, 1), (1097, .invokevirtual 130, 3), (1100, .pop, 1), (1101, .goto 349, 3), (1104, .aload_n 1, 1), (1105, .aload_n 0, 1)]
theorem adql_16 : dql_16.all (fun q => decide (decode cL_law q.1 = .ok (q.2.1, q.2.2))) = true := by decide +kernel
theorem dL_law_1045 : decode cL_law 1045 = .ok (.iconst 1, 1) := dqo adql_16 (q := (1045, .iconst 1, 1)) 0 rfl
theorem dL_law_1046 : decode cL_law 1046 = .ok (.iadd, 1) := dqo adql_16 (q := (1046, .iadd, 1)) 1 rfl
theorem dL_law_1047 : decode cL_law 1047 = .ok (.iaload, 1) := dqo adql_16 (q := (1047, .iaload, 1)) 2 rfl
theorem dL_law_1048 : decode cL_law 1048 = .ok (.invokevirtual 118, 3) := dqo adql_16 (q := (1048, .invokevirtual 118, 3)) 3 rfl
theorem dL_law_1051 : decode cL_law 1051 = .ok (.pop, 1) := dqo adql_16 (q := (1051, .pop, 1)) 4 rfl
theorem dL_law_1052 : decode cL_law 1052 = .ok (.aload_n 2, 1) := dqo adql_16 (q := (1052, .aload_n 2, 1)) 5 rfl
theorem dL_law_1053 : decode cL_law 1053 = .ok (.aload_n 0, 1) := dqo adql_16 (q := (1053, .aload_n 0, 1)) 6 rfl
theorem dL_law_1054 : decode cL_law 1054 = .ok (.iload 4, 2) := dqo adql_16 (q := (1054, .iload 4, 2)) 7 rfl
theorem dL_law_1056 : decode cL_law 1056 = .ok (.iconst 1, 1) := dqo adql_16 (q := (1056, .iconst 1, 1)) 8 rfl
theorem dL_law_1057 : decode cL_law 1057 = .ok (.iadd, 1) := dqo adql_16 (q := (1057, .iadd, 1)) 9 rfl
theorem dL_law_1058 : decode cL_law 1058 = .ok (.iaload, 1) := dqo adql_16 (q := (1058, .iaload, 1)) 10 rfl
theorem dL_law_1059 : decode cL_law 1059 = .ok (.invokevirtual 121, 3) := dqo adql_16 (q := (1059, .invokevirtual 121, 3)) 11 rfl
theorem dL_law_1062 : decode cL_law 1062 = .ok (.pop, 1) := dqo adql_16 (q := (1062, .pop, 1)) 12 rfl
theorem dL_law_1063 : decode cL_law 1063 = .ok (.goto 387, 3) := dqo adql_16 (q := (1063, .goto 387, 3)) 13 rfl
theorem dL_law_1066 : decode cL_law 1066 = .ok (.aload_n 1, 1) := dqo adql_16 (q := (1066, .aload_n 1, 1)) 14 rfl
theorem dL_law_1067 : decode cL_law 1067 = .ok (.aload_n 0, 1) := dqo adql_16 (q := (1067, .aload_n 0, 1)) 15 rfl
theorem dL_law_1068 : decode cL_law 1068 = .ok (.iload 4, 2) := dqo adql_16 (q := (1068, .iload 4, 2)) 16 rfl
theorem dL_law_1070 : decode cL_law 1070 = .ok (.iconst 1, 1) := dqo adql_16 (q := (1070, .iconst 1, 1)) 17 rfl
theorem dL_law_1071 : decode cL_law 1071 = .ok (.iadd, 1) := dqo adql_16 (q := (1071, .iadd, 1)) 18 rfl
theorem dL_law_1072 : decode cL_law 1072 = .ok (.iaload, 1) := dqo adql_16 (q := (1072, .iaload, 1)) 19 rfl
theorem dL_law_1073 : decode cL_law 1073 = .ok (.invokevirtual 122, 3) := dqo adql_16 (q := (1073, .invokevirtual 122, 3)) 20 rfl
theorem dL_law_1076 : decode cL_law 1076 = .ok (.pop, 1) := dqo adql_16 (q := (1076, .pop, 1)) 21 rfl
theorem dL_law_1077 : decode cL_law 1077 = .ok (.aload_n 2, 1) := dqo adql_16 (q := (1077, .aload_n 2, 1)) 22 rfl
theorem dL_law_1078 : decode cL_law 1078 = .ok (.aload_n 0, 1) := dqo adql_16 (q := (1078, .aload_n 0, 1)) 23 rfl
theorem dL_law_1079 : decode cL_law 1079 = .ok (.iload 4, 2) := dqo adql_16 (q := (1079, .iload 4, 2)) 24 rfl
theorem dL_law_1081 : decode cL_law 1081 = .ok (.iconst 1, 1) := dqo adql_16 (q := (1081, .iconst 1, 1)) 25 rfl
theorem dL_law_1082 : decode cL_law 1082 = .ok (.iadd, 1) := dqo adql_16 (q := (1082, .iadd, 1)) 26 rfl
theorem dL_law_1083 : decode cL_law 1083 = .ok (.iaload, 1) := dqo adql_16 (q := (1083, .iaload, 1)) 27 rfl
theorem dL_law_1084 : decode cL_law 1084 = .ok (.invokevirtual 126, 3) := dqo adql_16 (q := (1084, .invokevirtual 126, 3)) 28 rfl
theorem dL_law_1087 : decode cL_law 1087 = .ok (.pop, 1) := dqo adql_16 (q := (1087, .pop, 1)) 29 rfl
theorem dL_law_1088 : decode cL_law 1088 = .ok (.goto 362, 3) := dqo adql_16 (q := (1088, .goto 362, 3)) 30 rfl
theorem dL_law_1091 : decode cL_law 1091 = .ok (.aload_n 1, 1) := dqo adql_16 (q := (1091, .aload_n 1, 1)) 31 rfl
theorem dL_law_1092 : decode cL_law 1092 = .ok (.invokevirtual 127, 3) := dqo adql_16 (q := (1092, .invokevirtual 127, 3)) 32 rfl
theorem dL_law_1095 : decode cL_law 1095 = .ok (.pop, 1) := dqo adql_16 (q := (1095, .pop, 1)) 33 rfl
theorem dL_law_1096 : decode cL_law 1096 = .ok (.aload_n 2, 1) := dqo adql_16 (q := (1096, .aload_n 2, 1)) 34 rfl
theorem dL_law_1097 : decode cL_law 1097 = .ok (.invokevirtual 130, 3) := dqo adql_16 (q := (1097, .invokevirtual 130, 3)) 35 rfl
theorem dL_law_1100 : decode cL_law 1100 = .ok (.pop, 1) := dqo adql_16 (q := (1100, .pop, 1)) 36 rfl
theorem dL_law_1101 : decode cL_law 1101 = .ok (.goto 349, 3) := dqo adql_16 (q := (1101, .goto 349, 3)) 37 rfl
theorem dL_law_1104 : decode cL_law 1104 = .ok (.aload_n 1, 1) := dqo adql_16 (q := (1104, .aload_n 1, 1)) 38 rfl
theorem dL_law_1105 : decode cL_law 1105 = .ok (.aload_n 0, 1) := dqo adql_16 (q := (1105, .aload_n 0, 1)) 39 rfl
def dql_17 : List (Nat × Instr × Nat) := [(1106, .iload 4, 2), (1108, .iconst 1, 1), (1109, .iadd, 1), (1110, .iaload, 1), (1111, .aload_n 0, 1), (1112, .iload 4, 2), (1114, .iconst 2, 1), (1115, .iadd, 1), (1116, .iaload, 1), (1117, .invokevirtual 131, 3), (1120, .pop, 1), (1121, .aload_n 2, 1), (1122, .aload_n 0, 1), (1123, .iload 4, 2), (1125, .iconst 1, 1), (1126, .iadd, 1), (1127, .iaload, 1), (1128, .aload_n 0, 1), (1129, .iload 4, 2), (1131, .iconst 2, 1), (1132, .iadd, 1), (1133, .iaload, 1), (1134, .invokevirtual 134, 3), (1137, .pop, 1), (1138, .goto 312, 3), (1141, .aload_n 1, 1), (1142, .invokevirtual 135, 3), (1145, .pop, 1), (1146, .aload_n 2, 1), (1147, .invokevirtual 138, 3), (1150, .pop, 1), (1151, .goto 299, 3), (1154, .aload_n 1, 1), (1155, .aload_n 0, 1), (1156, .iload 4, 2), (1158, .iconst 1, 1), (1159, .iadd, 1), (1160, .iaload, 1), (1161, .aload_n 0, 1), (1162, .iload 4, 2)]
theorem adql_17 : dql_17.all (fun q => decide (decode cL_law q.1 = .ok (q.2.1, q.2.2))) = true := by decide +kernel
theorem dL_law_1106 : decode cL_law 1106 = .ok (.iload 4, 2) := dqo adql_17 (q := (1106, .iload 4, 2)) 0 rfl
theorem dL_law_1108 : decode cL_law 1108 = .ok (.iconst 1, 1) := dqo adql_17 (q := (1108, .iconst 1, 1)) 1 rfl
theorem dL_law_1109 : decode cL_law 1109 = .ok (.iadd, 1) := dqo adql_17 (q := (1109, .iadd, 1)) 2 rfl
theorem dL_law_1110 : decode cL_law 1110 = .ok (.iaload, 1) := dqo adql_17 (q := (1110, .iaload, 1)) 3 rfl
theorem dL_law_1111 : decode cL_law 1111 = .ok (.aload_n 0, 1) := dqo adql_17 (q := (1111, .aload_n 0, 1)) 4 rfl
theorem dL_law_1112 : decode cL_law 1112 = .ok (.iload 4, 2) := dqo adql_17 (q := (1112, .iload 4, 2)) 5 rfl
theorem dL_law_1114 : decode cL_law 1114 = .ok (.iconst 2, 1) := dqo adql_17 (q := (1114, .iconst 2, 1)) 6 rfl
theorem dL_law_1115 : decode cL_law 1115 = .ok (.iadd, 1) := dqo adql_17 (q := (1115, .iadd, 1)) 7 rfl
theorem dL_law_1116 : decode cL_law 1116 = .ok (.iaload, 1) := dqo adql_17 (q := (1116, .iaload, 1)) 8 rfl
theorem dL_law_1117 : decode cL_law 1117 = .ok (.invokevirtual 131, 3) := dqo adql_17 (q := (1117, .invokevirtual 131, 3)) 9 rfl
theorem dL_law_1120 : decode cL_law 1120 = .ok (.pop, 1) := dqo adql_17 (q := (1120, .pop, 1)) 10 rfl
theorem dL_law_1121 : decode cL_law 1121 = .ok (.aload_n 2, 1) := dqo adql_17 (q := (1121, .aload_n 2, 1)) 11 rfl
theorem dL_law_1122 : decode cL_law 1122 = .ok (.aload_n 0, 1) := dqo adql_17 (q := (1122, .aload_n 0, 1)) 12 rfl
theorem dL_law_1123 : decode cL_law 1123 = .ok (.iload 4, 2) := dqo adql_17 (q := (1123, .iload 4, 2)) 13 rfl
theorem dL_law_1125 : decode cL_law 1125 = .ok (.iconst 1, 1) := dqo adql_17 (q := (1125, .iconst 1, 1)) 14 rfl
theorem dL_law_1126 : decode cL_law 1126 = .ok (.iadd, 1) := dqo adql_17 (q := (1126, .iadd, 1)) 15 rfl
theorem dL_law_1127 : decode cL_law 1127 = .ok (.iaload, 1) := dqo adql_17 (q := (1127, .iaload, 1)) 16 rfl
theorem dL_law_1128 : decode cL_law 1128 = .ok (.aload_n 0, 1) := dqo adql_17 (q := (1128, .aload_n 0, 1)) 17 rfl
theorem dL_law_1129 : decode cL_law 1129 = .ok (.iload 4, 2) := dqo adql_17 (q := (1129, .iload 4, 2)) 18 rfl
theorem dL_law_1131 : decode cL_law 1131 = .ok (.iconst 2, 1) := dqo adql_17 (q := (1131, .iconst 2, 1)) 19 rfl
theorem dL_law_1132 : decode cL_law 1132 = .ok (.iadd, 1) := dqo adql_17 (q := (1132, .iadd, 1)) 20 rfl
theorem dL_law_1133 : decode cL_law 1133 = .ok (.iaload, 1) := dqo adql_17 (q := (1133, .iaload, 1)) 21 rfl
theorem dL_law_1134 : decode cL_law 1134 = .ok (.invokevirtual 134, 3) := dqo adql_17 (q := (1134, .invokevirtual 134, 3)) 22 rfl
theorem dL_law_1137 : decode cL_law 1137 = .ok (.pop, 1) := dqo adql_17 (q := (1137, .pop, 1)) 23 rfl
theorem dL_law_1138 : decode cL_law 1138 = .ok (.goto 312, 3) := dqo adql_17 (q := (1138, .goto 312, 3)) 24 rfl
theorem dL_law_1141 : decode cL_law 1141 = .ok (.aload_n 1, 1) := dqo adql_17 (q := (1141, .aload_n 1, 1)) 25 rfl
theorem dL_law_1142 : decode cL_law 1142 = .ok (.invokevirtual 135, 3) := dqo adql_17 (q := (1142, .invokevirtual 135, 3)) 26 rfl
theorem dL_law_1145 : decode cL_law 1145 = .ok (.pop, 1) := dqo adql_17 (q := (1145, .pop, 1)) 27 rfl
theorem dL_law_1146 : decode cL_law 1146 = .ok (.aload_n 2, 1) := dqo adql_17 (q := (1146, .aload_n 2, 1)) 28 rfl
theorem dL_law_1147 : decode cL_law 1147 = .ok (.invokevirtual 138, 3) := dqo adql_17 (q := (1147, .invokevirtual 138, 3)) 29 rfl
theorem dL_law_1150 : decode cL_law 1150 = .ok (.pop, 1) := dqo adql_17 (q := (1150, .pop, 1)) 30 rfl
theorem dL_law_1151 : decode cL_law 1151 = .ok (.goto 299, 3) := dqo adql_17 (q := (1151, .goto 299, 3)) 31 rfl
theorem dL_law_1154 : decode cL_law 1154 = .ok (.aload_n 1, 1) := dqo adql_17 (q := (1154, .aload_n 1, 1)) 32 rfl
theorem dL_law_1155 : decode cL_law 1155 = .ok (.aload_n 0, 1) := dqo adql_17 (q := (1155, .aload_n 0, 1)) 33 rfl
theorem dL_law_1156 : decode cL_law 1156 = .ok (.iload 4, 2) := dqo adql_17 (q := (1156, .iload 4, 2)) 34 rfl
theorem dL_law_1158 : decode cL_law 1158 = .ok (.iconst 1, 1) := dqo adql_17 (q := (1158, .iconst 1, 1)) 35 rfl
theorem dL_law_1159 : decode cL_law 1159 = .ok (.iadd, 1) := dqo adql_17 (q := (1159, .iadd, 1)) 36 rfl
theorem dL_law_1160 : decode cL_law 1160 = .ok (.iaload, 1) := dqo adql_17 (q := (1160, .iaload, 1)) 37 rfl
theorem dL_law_1161 : decode cL_law 1161 = .ok (.aload_n 0, 1) := dqo adql_17 (q := (1161, .aload_n 0, 1)) 38 rfl
theorem dL_law_1162 : decode cL_law 1162 = .ok (.iload 4, 2) := dqo adql_17 (q := (1162, .iload 4, 2)) 39 rfl
def dql_18 : List (Nat × Instr × Nat) := [(1164, .iconst 2, 1), (1165, .iadd, 1), (1166, .iaload, 1), (1167, .aload_n 0, 1), (1168, .iload 4, 2), (1170, .iconst 3, 1), (1171, .iadd, 1), (1172, .iaload, 1), (1173, .aload_n 0, 1), (1174, .iload 4, 2), (1176, .iconst 4, 1), (1177, .iadd, 1), (1178, .iaload, 1), (1179, .invokevirtual 139, 3), (1182, .pop, 1), (1183, .aload_n 2, 1), (1184, .aload_n 0, 1), (1185, .iload 4, 2), (1187, .iconst 1, 1), (1188, .iadd, 1), (1189, .iaload, 1), (1190, .aload_n 0, 1), (1191, .iload 4, 2), (1193, .iconst 2, 1), (1194, .iadd, 1), (1195, .iaload, 1), (1196, .aload_n 0, 1), (1197, .iload 4, 2), (1199, .iconst 3, 1), (1200, .iadd, 1), (1201, .iaload, 1), (1202, .aload_n 0, 1), (1203, .iload 4, 2), (1205, .iconst 4, 1), (1206, .iadd, 1), (1207, .iaload, 1), (1208, .invokevirtual 143, 3), (1211, .pop, 1), (1212, .goto 238, 3), (1215, .aload_n 1, 1)]
theorem adql_18 : dql_18.all (fun q => decide (decode cL_law q.1 = .ok (q.2.1, q.2.2))) = true := by decide +kernel
theorem dL_law_1164 : decode cL_law 1164 = .ok (.iconst 2, 1) := dqo adql_18 (q := (1164, .iconst 2, 1)) 0 rfl
theorem dL_law_1165 : decode cL_law 1165 = .ok (.iadd, 1) := dqo adql_18 (q := (1165, .iadd, 1)) 1 rfl
theorem dL_law_1166 : decode cL_law 1166 = .ok (.iaload, 1) := dqo adql_18 (q := (1166, .iaload, 1)) 2 rfl
theorem dL_law_1167 : decode cL_law 1167 = .ok (.aload_n 0, 1) := dqo adql_18 (q := (1167, .aload_n 0, 1)) 3 rfl
theorem dL_law_1168 : decode cL_law 1168 = .ok (.iload 4, 2) := dqo adql_18 (q := (1168, .iload 4, 2)) 4 rfl
theorem dL_law_1170 : decode cL_law 1170 = .ok (.iconst 3, 1) := dqo adql_18 (q := (1170, .iconst 3, 1)) 5 rfl
theorem dL_law_1171 : decode cL_law 1171 = .ok (.iadd, 1) := dqo adql_18 (q := (1171, .iadd, 1)) 6 rfl
theorem dL_law_1172 : decode cL_law 1172 = .ok (.iaload, 1) := dqo adql_18 (q := (1172, .iaload, 1)) 7 rfl
theorem dL_law_1173 : decode cL_law 1173 = .ok (.aload_n 0, 1) := dqo adql_18 (q := (1173, .aload_n 0, 1)) 8 rfl
theorem dL_law_1174 : decode cL_law 1174 = .ok (.iload 4, 2) := dqo adql_18 (q := (1174, .iload 4, 2)) 9 rfl
theorem dL_law_1176 : decode cL_law 1176 = .ok (.iconst 4, 1) := dqo adql_18 (q := (1176, .iconst 4, 1)) 10 rfl
theorem dL_law_1177 : decode cL_law 1177 = .ok (.iadd, 1) := dqo adql_18 (q := (1177, .iadd, 1)) 11 rfl
theorem dL_law_1178 : decode cL_law 1178 = .ok (.iaload, 1) := dqo adql_18 (q := (1178, .iaload, 1)) 12 rfl
theorem dL_law_1179 : decode cL_law 1179 = .ok (.invokevirtual 139, 3) := dqo adql_18 (q := (1179, .invokevirtual 139, 3)) 13 rfl
theorem dL_law_1182 : decode cL_law 1182 = .ok (.pop, 1) := dqo adql_18 (q := (1182, .pop, 1)) 14 rfl
theorem dL_law_1183 : decode cL_law 1183 = .ok (.aload_n 2, 1) := dqo adql_18 (q := (1183, .aload_n 2, 1)) 15 rfl
theorem dL_law_1184 : decode cL_law 1184 = .ok (.aload_n 0, 1) := dqo adql_18 (q := (1184, .aload_n 0, 1)) 16 rfl
theorem dL_law_1185 : decode cL_law 1185 = .ok (.iload 4, 2) := dqo adql_18 (q := (1185, .iload 4, 2)) 17 rfl
theorem dL_law_1187 : decode cL_law 1187 = .ok (.iconst 1, 1) := dqo adql_18 (q := (1187, .iconst 1, 1)) 18 rfl
theorem dL_law_1188 : decode cL_law 1188 = .ok (.iadd, 1) := dqo adql_18 (q := (1188, .iadd, 1)) 19 rfl
theorem dL_law_1189 : decode cL_law 1189 = .ok (.iaload, 1) := dqo adql_18 (q := (1189, .iaload, 1)) 20 rfl
theorem dL_law_1190 : decode cL_law 1190 = .ok (.aload_n 0, 1) := dqo adql_18 (q := (1190, .aload_n 0, 1)) 21 rfl
theorem dL_law_1191 : decode cL_law 1191 = .ok (.iload 4, 2) := dqo adql_18 (q := (1191, .iload 4, 2)) 22 rfl
theorem dL_law_1193 : decode cL_law 1193 = .ok (.iconst 2, 1) := dqo adql_18 (q := (1193, .iconst 2, 1)) 23 rfl
theorem dL_law_1194 : decode cL_law 1194 = .ok (.iadd, 1) := dqo adql_18 (q := (1194, .iadd, 1)) 24 rfl
theorem dL_law_1195 : decode cL_law 1195 = .ok (.iaload, 1) := dqo adql_18 (q := (1195, .iaload, 1)) 25 rfl
theorem dL_law_1196 : decode cL_law 1196 = .ok (.aload_n 0, 1) := dqo adql_18 (q := (1196, .aload_n 0, 1)) 26 rfl
theorem dL_law_1197 : decode cL_law 1197 = .ok (.iload 4, 2) := dqo adql_18 (q := (1197, .iload 4, 2)) 27 rfl
theorem dL_law_1199 : decode cL_law 1199 = .ok (.iconst 3, 1) := dqo adql_18 (q := (1199, .iconst 3, 1)) 28 rfl
theorem dL_law_1200 : decode cL_law 1200 = .ok (.iadd, 1) := dqo adql_18 (q := (1200, .iadd, 1)) 29 rfl
theorem dL_law_1201 : decode cL_law 1201 = .ok (.iaload, 1) := dqo adql_18 (q := (1201, .iaload, 1)) 30 rfl
theorem dL_law_1202 : decode cL_law 1202 = .ok (.aload_n 0, 1) := dqo adql_18 (q := (1202, .aload_n 0, 1)) 31 rfl
theorem dL_law_1203 : decode cL_law 1203 = .ok (.iload 4, 2) := dqo adql_18 (q := (1203, .iload 4, 2)) 32 rfl
theorem dL_law_1205 : decode cL_law 1205 = .ok (.iconst 4, 1) := dqo adql_18 (q := (1205, .iconst 4, 1)) 33 rfl
theorem dL_law_1206 : decode cL_law 1206 = .ok (.iadd, 1) := dqo adql_18 (q := (1206, .iadd, 1)) 34 rfl
theorem dL_law_1207 : decode cL_law 1207 = .ok (.iaload, 1) := dqo adql_18 (q := (1207, .iaload, 1)) 35 rfl
theorem dL_law_1208 : decode cL_law 1208 = .ok (.invokevirtual 143, 3) := dqo adql_18 (q := (1208, .invokevirtual 143, 3)) 36 rfl
theorem dL_law_1211 : decode cL_law 1211 = .ok (.pop, 1) := dqo adql_18 (q := (1211, .pop, 1)) 37 rfl
theorem dL_law_1212 : decode cL_law 1212 = .ok (.goto 238, 3) := dqo adql_18 (q := (1212, .goto 238, 3)) 38 rfl
theorem dL_law_1215 : decode cL_law 1215 = .ok (.aload_n 1, 1) := dqo adql_18 (q := (1215, .aload_n 1, 1)) 39 rfl
def dql_19 : List (Nat × Instr × Nat) := [(1216, .aload_n 0, 1), (1217, .iload 4, 2), (1219, .iconst 1, 1), (1220, .iadd, 1), (1221, .iaload, 1), (1222, .aload_n 0, 1), (1223, .iload 4, 2), (1225, .iconst 2, 1), (1226, .iadd, 1), (1227, .iaload, 1), (1228, .aload_n 0, 1), (1229, .iload 4, 2), (1231, .iconst 3, 1), (1232, .iadd, 1), (1233, .iaload, 1), (1234, .aload_n 0, 1), (1235, .iload 4, 2), (1237, .iconst 4, 1), (1238, .iadd, 1), (1239, .iaload, 1), (1240, .aload_n 0, 1), (1241, .iload 4, 2), (1243, .iconst 5, 1), (1244, .iadd, 1), (1245, .iaload, 1), (1246, .invokevirtual 144, 3), (1249, .pop, 1), (1250, .aload_n 2, 1), (1251, .aload_n 0, 1), (1252, .iload 4, 2), (1254, .iconst 1, 1), (1255, .iadd, 1), (1256, .iaload, 1), (1257, .aload_n 0, 1), (1258, .iload 4, 2), (1260, .iconst 2, 1), (1261, .iadd, 1), (1262, .iaload, 1), (1263, .aload_n 0, 1), (1264, .iload 4, 2)]
theorem adql_19 : dql_19.all (fun q => decide (decode cL_law q.1 = .ok (q.2.1, q.2.2))) = true := by decide +kernel
theorem dL_law_1216 : decode cL_law 1216 = .ok (.aload_n 0, 1) := dqo adql_19 (q := (1216, .aload_n 0, 1)) 0 rfl
theorem dL_law_1217 : decode cL_law 1217 = .ok (.iload 4, 2) := dqo adql_19 (q := (1217, .iload 4, 2)) 1 rfl
theorem dL_law_1219 : decode cL_law 1219 = .ok (.iconst 1, 1) := dqo adql_19 (q := (1219, .iconst 1, 1)) 2 rfl
theorem dL_law_1220 : decode cL_law 1220 = .ok (.iadd, 1) := dqo adql_19 (q := (1220, .iadd, 1)) 3 rfl
theorem dL_law_1221 : decode cL_law 1221 = .ok (.iaload, 1) := dqo adql_19 (q := (1221, .iaload, 1)) 4 rfl
theorem dL_law_1222 : decode cL_law 1222 = .ok (.aload_n 0, 1) := dqo adql_19 (q := (1222, .aload_n 0, 1)) 5 rfl
theorem dL_law_1223 : decode cL_law 1223 = .ok (.iload 4, 2) := dqo adql_19 (q := (1223, .iload 4, 2)) 6 rfl
theorem dL_law_1225 : decode cL_law 1225 = .ok (.iconst 2, 1) := dqo adql_19 (q := (1225, .iconst 2, 1)) 7 rfl
theorem dL_law_1226 : decode cL_law 1226 = .ok (.iadd, 1) := dqo adql_19 (q := (1226, .iadd, 1)) 8 rfl
theorem dL_law_1227 : decode cL_law 1227 = .ok (.iaload, 1) := dqo adql_19 (q := (1227, .iaload, 1)) 9 rfl
theorem dL_law_1228 : decode cL_law 1228 = .ok (.aload_n 0, 1) := dqo adql_19 (q := (1228, .aload_n 0, 1)) 10 rfl
theorem dL_law_1229 : decode cL_law 1229 = .ok (.iload 4, 2) := dqo adql_19 (q := (1229, .iload 4, 2)) 11 rfl
theorem dL_law_1231 : decode cL_law 1231 = .ok (.iconst 3, 1) := dqo adql_19 (q := (1231, .iconst 3, 1)) 12 rfl
theorem dL_law_1232 : decode cL_law 1232 = .ok (.iadd, 1) := dqo adql_19 (q := (1232, .iadd, 1)) 13 rfl
theorem dL_law_1233 : decode cL_law 1233 = .ok (.iaload, 1) := dqo adql_19 (q := (1233, .iaload, 1)) 14 rfl
theorem dL_law_1234 : decode cL_law 1234 = .ok (.aload_n 0, 1) := dqo adql_19 (q := (1234, .aload_n 0, 1)) 15 rfl
theorem dL_law_1235 : decode cL_law 1235 = .ok (.iload 4, 2) := dqo adql_19 (q := (1235, .iload 4, 2)) 16 rfl
theorem dL_law_1237 : decode cL_law 1237 = .ok (.iconst 4, 1) := dqo adql_19 (q := (1237, .iconst 4, 1)) 17 rfl
theorem dL_law_1238 : decode cL_law 1238 = .ok (.iadd, 1) := dqo adql_19 (q := (1238, .iadd, 1)) 18 rfl
theorem dL_law_1239 : decode cL_law 1239 = .ok (.iaload, 1) := dqo adql_19 (q := (1239, .iaload, 1)) 19 rfl
theorem dL_law_1240 : decode cL_law 1240 = .ok (.aload_n 0, 1) := dqo adql_19 (q := (1240, .aload_n 0, 1)) 20 rfl
theorem dL_law_1241 : decode cL_law 1241 = .ok (.iload 4, 2) := dqo adql_19 (q := (1241, .iload 4, 2)) 21 rfl
theorem dL_law_1243 : decode cL_law 1243 = .ok (.iconst 5, 1) := dqo adql_19 (q := (1243, .iconst 5, 1)) 22 rfl
theorem dL_law_1244 : decode cL_law 1244 = .ok (.iadd, 1) := dqo adql_19 (q := (1244, .iadd, 1)) 23 rfl
theorem dL_law_1245 : decode cL_law 1245 = .ok (.iaload, 1) := dqo adql_19 (q := (1245, .iaload, 1)) 24 rfl
theorem dL_law_1246 : decode cL_law 1246 = .ok (.invokevirtual 144, 3) := dqo adql_19 (q := (1246, .invokevirtual 144, 3)) 25 rfl
theorem dL_law_1249 : decode cL_law 1249 = .ok (.pop, 1) := dqo adql_19 (q := (1249, .pop, 1)) 26 rfl
theorem dL_law_1250 : decode cL_law 1250 = .ok (.aload_n 2, 1) := dqo adql_19 (q := (1250, .aload_n 2, 1)) 27 rfl
theorem dL_law_1251 : decode cL_law 1251 = .ok (.aload_n 0, 1) := dqo adql_19 (q := (1251, .aload_n 0, 1)) 28 rfl
theorem dL_law_1252 : decode cL_law 1252 = .ok (.iload 4, 2) := dqo adql_19 (q := (1252, .iload 4, 2)) 29 rfl
theorem dL_law_1254 : decode cL_law 1254 = .ok (.iconst 1, 1) := dqo adql_19 (q := (1254, .iconst 1, 1)) 30 rfl
theorem dL_law_1255 : decode cL_law 1255 = .ok (.iadd, 1) := dqo adql_19 (q := (1255, .iadd, 1)) 31 rfl
theorem dL_law_1256 : decode cL_law 1256 = .ok (.iaload, 1) := dqo adql_19 (q := (1256, .iaload, 1)) 32 rfl
theorem dL_law_1257 : decode cL_law 1257 = .ok (.aload_n 0, 1) := dqo adql_19 (q := (1257, .aload_n 0, 1)) 33 rfl
theorem dL_law_1258 : decode cL_law 1258 = .ok (.iload 4, 2) := dqo adql_19 (q := (1258, .iload 4, 2)) 34 rfl
theorem dL_law_1260 : decode cL_law 1260 = .ok (.iconst 2, 1) := dqo adql_19 (q := (1260, .iconst 2, 1)) 35 rfl
theorem dL_law_1261 : decode cL_law 1261 = .ok (.iadd, 1) := dqo adql_19 (q := (1261, .iadd, 1)) 36 rfl
theorem dL_law_1262 : decode cL_law 1262 = .ok (.iaload, 1) := dqo adql_19 (q := (1262, .iaload, 1)) 37 rfl
theorem dL_law_1263 : decode cL_law 1263 = .ok (.aload_n 0, 1) := dqo adql_19 (q := (1263, .aload_n 0, 1)) 38 rfl
theorem dL_law_1264 : decode cL_law 1264 = .ok (.iload 4, 2) := dqo adql_19 (q := (1264, .iload 4, 2)) 39 rfl
def dql_20 : List (Nat × Instr × Nat) := [(1266, .iconst 3, 1), (1267, .iadd, 1), (1268, .iaload, 1), (1269, .aload_n 0, 1), (1270, .iload 4, 2), (1272, .iconst 4, 1), (1273, .iadd, 1), (1274, .iaload, 1), (1275, .aload_n 0, 1), (1276, .iload 4, 2), (1278, .iconst 5, 1), (1279, .iadd, 1), (1280, .iaload, 1), (1281, .invokevirtual 147, 3), (1284, .pop, 1), (1285, .goto 165, 3), (1288, .aload_n 1, 1), (1289, .aload_n 0, 1), (1290, .iload 4, 2), (1292, .iconst 1, 1), (1293, .iadd, 1), (1294, .iaload, 1), (1295, .aload_n 0, 1), (1296, .iload 4, 2), (1298, .iconst 2, 1), (1299, .iadd, 1), (1300, .iaload, 1), (1301, .invokevirtual 148, 3), (1304, .pop, 1), (1305, .aload_n 2, 1), (1306, .aload_n 0, 1), (1307, .iload 4, 2), (1309, .iconst 1, 1), (1310, .iadd, 1), (1311, .iaload, 1), (1312, .aload_n 0, 1), (1313, .iload 4, 2), (1315, .iconst 2, 1), (1316, .iadd, 1), (1317, .iaload, 1)]
theorem adql_20 : dql_20.all (fun q => decide (decode cL_law q.1 = .ok (q.2.1, q.2.2))) = true := by decide +kernel
theorem dL_law_1266 : decode cL_law 1266 = .ok (.iconst 3, 1) := dqo adql_20 (q := (1266, .iconst 3, 1)) 0 rfl
theorem dL_law_1267 : decode cL_law 1267 = .ok (.iadd, 1) := dqo adql_20 (q := (1267, .iadd, 1)) 1 rfl
theorem dL_law_1268 : decode cL_law 1268 = .ok (.iaload, 1) := dqo adql_20 (q := (1268, .iaload, 1)) 2 rfl
theorem dL_law_1269 : decode cL_law 1269 = .ok (.aload_n 0, 1) := dqo adql_20 (q := (1269, .aload_n 0, 1)) 3 rfl
theorem dL_law_1270 : decode cL_law 1270 = .ok (.iload 4, 2) := dqo adql_20 (q := (1270, .iload 4, 2)) 4 rfl
theorem dL_law_1272 : decode cL_law 1272 = .ok (.iconst 4, 1) := dqo adql_20 (q := (1272, .iconst 4, 1)) 5 rfl
theorem dL_law_1273 : decode cL_law 1273 = .ok (.iadd, 1) := dqo adql_20 (q := (1273, .iadd, 1)) 6 rfl
theorem dL_law_1274 : decode cL_law 1274 = .ok (.iaload, 1) := dqo adql_20 (q := (1274, .iaload, 1)) 7 rfl
theorem dL_law_1275 : decode cL_law 1275 = .ok (.aload_n 0, 1) := dqo adql_20 (q := (1275, .aload_n 0, 1)) 8 rfl
theorem dL_law_1276 : decode cL_law 1276 = .ok (.iload 4, 2) := dqo adql_20 (q := (1276, .iload 4, 2)) 9 rfl
theorem dL_law_1278 : decode cL_law 1278 = .ok (.iconst 5, 1) := dqo adql_20 (q := (1278, .iconst 5, 1)) 10 rfl
theorem dL_law_1279 : decode cL_law 1279 = .ok (.iadd, 1) := dqo adql_20 (q := (1279, .iadd, 1)) 11 rfl
theorem dL_law_1280 : decode cL_law 1280 = .ok (.iaload, 1) := dqo adql_20 (q := (1280, .iaload, 1)) 12 rfl
theorem dL_law_1281 : decode cL_law 1281 = .ok (.invokevirtual 147, 3) := dqo adql_20 (q := (1281, .invokevirtual 147, 3)) 13 rfl
theorem dL_law_1284 : decode cL_law 1284 = .ok (.pop, 1) := dqo adql_20 (q := (1284, .pop, 1)) 14 rfl
theorem dL_law_1285 : decode cL_law 1285 = .ok (.goto 165, 3) := dqo adql_20 (q := (1285, .goto 165, 3)) 15 rfl
theorem dL_law_1288 : decode cL_law 1288 = .ok (.aload_n 1, 1) := dqo adql_20 (q := (1288, .aload_n 1, 1)) 16 rfl
theorem dL_law_1289 : decode cL_law 1289 = .ok (.aload_n 0, 1) := dqo adql_20 (q := (1289, .aload_n 0, 1)) 17 rfl
theorem dL_law_1290 : decode cL_law 1290 = .ok (.iload 4, 2) := dqo adql_20 (q := (1290, .iload 4, 2)) 18 rfl
theorem dL_law_1292 : decode cL_law 1292 = .ok (.iconst 1, 1) := dqo adql_20 (q := (1292, .iconst 1, 1)) 19 rfl
theorem dL_law_1293 : decode cL_law 1293 = .ok (.iadd, 1) := dqo adql_20 (q := (1293, .iadd, 1)) 20 rfl
theorem dL_law_1294 : decode cL_law 1294 = .ok (.iaload, 1) := dqo adql_20 (q := (1294, .iaload, 1)) 21 rfl
theorem dL_law_1295 : decode cL_law 1295 = .ok (.aload_n 0, 1) := dqo adql_20 (q := (1295, .aload_n 0, 1)) 22 rfl
theorem dL_law_1296 : decode cL_law 1296 = .ok (.iload 4, 2) := dqo adql_20 (q := (1296, .iload 4, 2)) 23 rfl
theorem dL_law_1298 : decode cL_law 1298 = .ok (.iconst 2, 1) := dqo adql_20 (q := (1298, .iconst 2, 1)) 24 rfl
theorem dL_law_1299 : decode cL_law 1299 = .ok (.iadd, 1) := dqo adql_20 (q := (1299, .iadd, 1)) 25 rfl
theorem dL_law_1300 : decode cL_law 1300 = .ok (.iaload, 1) := dqo adql_20 (q := (1300, .iaload, 1)) 26 rfl
theorem dL_law_1301 : decode cL_law 1301 = .ok (.invokevirtual 148, 3) := dqo adql_20 (q := (1301, .invokevirtual 148, 3)) 27 rfl
theorem dL_law_1304 : decode cL_law 1304 = .ok (.pop, 1) := dqo adql_20 (q := (1304, .pop, 1)) 28 rfl
theorem dL_law_1305 : decode cL_law 1305 = .ok (.aload_n 2, 1) := dqo adql_20 (q := (1305, .aload_n 2, 1)) 29 rfl
theorem dL_law_1306 : decode cL_law 1306 = .ok (.aload_n 0, 1) := dqo adql_20 (q := (1306, .aload_n 0, 1)) 30 rfl
theorem dL_law_1307 : decode cL_law 1307 = .ok (.iload 4, 2) := dqo adql_20 (q := (1307, .iload 4, 2)) 31 rfl
theorem dL_law_1309 : decode cL_law 1309 = .ok (.iconst 1, 1) := dqo adql_20 (q := (1309, .iconst 1, 1)) 32 rfl
theorem dL_law_1310 : decode cL_law 1310 = .ok (.iadd, 1) := dqo adql_20 (q := (1310, .iadd, 1)) 33 rfl
theorem dL_law_1311 : decode cL_law 1311 = .ok (.iaload, 1) := dqo adql_20 (q := (1311, .iaload, 1)) 34 rfl
theorem dL_law_1312 : decode cL_law 1312 = .ok (.aload_n 0, 1) := dqo adql_20 (q := (1312, .aload_n 0, 1)) 35 rfl
theorem dL_law_1313 : decode cL_law 1313 = .ok (.iload 4, 2) := dqo adql_20 (q := (1313, .iload 4, 2)) 36 rfl
theorem dL_law_1315 : decode cL_law 1315 = .ok (.iconst 2, 1) := dqo adql_20 (q := (1315, .iconst 2, 1)) 37 rfl
theorem dL_law_1316 : decode cL_law 1316 = .ok (.iadd, 1) := dqo adql_20 (q := (1316, .iadd, 1)) 38 rfl
theorem dL_law_1317 : decode cL_law 1317 = .ok (.iaload, 1) := dqo adql_20 (q := (1317, .iaload, 1)) 39 rfl
def dql_21 : List (Nat × Instr × Nat) := [(1318, .invokevirtual 151, 3), (1321, .pop, 1), (1322, .goto 128, 3), (1325, .aload_n 1, 1), (1326, .aload_n 0, 1), (1327, .iload 4, 2), (1329, .iconst 1, 1), (1330, .iadd, 1), (1331, .iaload, 1), (1332, .invokevirtual 152, 3), (1335, .pop, 1), (1336, .aload_n 2, 1), (1337, .aload_n 0, 1), (1338, .iload 4, 2), (1340, .iconst 1, 1), (1341, .iadd, 1), (1342, .iaload, 1), (1343, .invokevirtual 155, 3), (1346, .pop, 1), (1347, .goto 103, 3), (1350, .aload_n 1, 1), (1351, .aload_n 0, 1), (1352, .iload 4, 2), (1354, .iconst 1, 1), (1355, .iadd, 1), (1356, .iaload, 1), (1357, .aload_n 0, 1), (1358, .iload 4, 2), (1360, .iconst 2, 1), (1361, .iadd, 1), (1362, .iaload, 1), (1363, .aload_n 0, 1), (1364, .iload 4, 2), (1366, .iconst 3, 1), (1367, .iadd, 1), (1368, .iaload, 1), (1369, .invokevirtual 156, 3), (1372, .pop2, 1), (1373, .aload_n 2, 1), (1374, .aload_n 0, 1)]
theorem adql_21 : dql_21.all (fun q => decide (decode cL_law q.1 = .ok (q.2.1, q.2.2))) = true := by decide +kernel
theorem dL_law_1318 : decode cL_law 1318 = .ok (.invokevirtual 151, 3) := dqo adql_21 (q := (1318, .invokevirtual 151, 3)) 0 rfl
theorem dL_law_1321 : decode cL_law 1321 = .ok (.pop, 1) := dqo adql_21 (q := (1321, .pop, 1)) 1 rfl
theorem dL_law_1322 : decode cL_law 1322 = .ok (.goto 128, 3) := dqo adql_21 (q := (1322, .goto 128, 3)) 2 rfl
theorem dL_law_1325 : decode cL_law 1325 = .ok (.aload_n 1, 1) := dqo adql_21 (q := (1325, .aload_n 1, 1)) 3 rfl
theorem dL_law_1326 : decode cL_law 1326 = .ok (.aload_n 0, 1) := dqo adql_21 (q := (1326, .aload_n 0, 1)) 4 rfl
theorem dL_law_1327 : decode cL_law 1327 = .ok (.iload 4, 2) := dqo adql_21 (q := (1327, .iload 4, 2)) 5 rfl
theorem dL_law_1329 : decode cL_law 1329 = .ok (.iconst 1, 1) := dqo adql_21 (q := (1329, .iconst 1, 1)) 6 rfl
theorem dL_law_1330 : decode cL_law 1330 = .ok (.iadd, 1) := dqo adql_21 (q := (1330, .iadd, 1)) 7 rfl
theorem dL_law_1331 : decode cL_law 1331 = .ok (.iaload, 1) := dqo adql_21 (q := (1331, .iaload, 1)) 8 rfl
theorem dL_law_1332 : decode cL_law 1332 = .ok (.invokevirtual 152, 3) := dqo adql_21 (q := (1332, .invokevirtual 152, 3)) 9 rfl
theorem dL_law_1335 : decode cL_law 1335 = .ok (.pop, 1) := dqo adql_21 (q := (1335, .pop, 1)) 10 rfl
theorem dL_law_1336 : decode cL_law 1336 = .ok (.aload_n 2, 1) := dqo adql_21 (q := (1336, .aload_n 2, 1)) 11 rfl
theorem dL_law_1337 : decode cL_law 1337 = .ok (.aload_n 0, 1) := dqo adql_21 (q := (1337, .aload_n 0, 1)) 12 rfl
theorem dL_law_1338 : decode cL_law 1338 = .ok (.iload 4, 2) := dqo adql_21 (q := (1338, .iload 4, 2)) 13 rfl
theorem dL_law_1340 : decode cL_law 1340 = .ok (.iconst 1, 1) := dqo adql_21 (q := (1340, .iconst 1, 1)) 14 rfl
theorem dL_law_1341 : decode cL_law 1341 = .ok (.iadd, 1) := dqo adql_21 (q := (1341, .iadd, 1)) 15 rfl
theorem dL_law_1342 : decode cL_law 1342 = .ok (.iaload, 1) := dqo adql_21 (q := (1342, .iaload, 1)) 16 rfl
theorem dL_law_1343 : decode cL_law 1343 = .ok (.invokevirtual 155, 3) := dqo adql_21 (q := (1343, .invokevirtual 155, 3)) 17 rfl
theorem dL_law_1346 : decode cL_law 1346 = .ok (.pop, 1) := dqo adql_21 (q := (1346, .pop, 1)) 18 rfl
theorem dL_law_1347 : decode cL_law 1347 = .ok (.goto 103, 3) := dqo adql_21 (q := (1347, .goto 103, 3)) 19 rfl
theorem dL_law_1350 : decode cL_law 1350 = .ok (.aload_n 1, 1) := dqo adql_21 (q := (1350, .aload_n 1, 1)) 20 rfl
theorem dL_law_1351 : decode cL_law 1351 = .ok (.aload_n 0, 1) := dqo adql_21 (q := (1351, .aload_n 0, 1)) 21 rfl
theorem dL_law_1352 : decode cL_law 1352 = .ok (.iload 4, 2) := dqo adql_21 (q := (1352, .iload 4, 2)) 22 rfl
theorem dL_law_1354 : decode cL_law 1354 = .ok (.iconst 1, 1) := dqo adql_21 (q := (1354, .iconst 1, 1)) 23 rfl
theorem dL_law_1355 : decode cL_law 1355 = .ok (.iadd, 1) := dqo adql_21 (q := (1355, .iadd, 1)) 24 rfl
theorem dL_law_1356 : decode cL_law 1356 = .ok (.iaload, 1) := dqo adql_21 (q := (1356, .iaload, 1)) 25 rfl
theorem dL_law_1357 : decode cL_law 1357 = .ok (.aload_n 0, 1) := dqo adql_21 (q := (1357, .aload_n 0, 1)) 26 rfl
theorem dL_law_1358 : decode cL_law 1358 = .ok (.iload 4, 2) := dqo adql_21 (q := (1358, .iload 4, 2)) 27 rfl
theorem dL_law_1360 : decode cL_law 1360 = .ok (.iconst 2, 1) := dqo adql_21 (q := (1360, .iconst 2, 1)) 28 rfl
theorem dL_law_1361 : decode cL_law 1361 = .ok (.iadd, 1) := dqo adql_21 (q := (1361, .iadd, 1)) 29 rfl
theorem dL_law_1362 : decode cL_law 1362 = .ok (.iaload, 1) := dqo adql_21 (q := (1362, .iaload, 1)) 30 rfl
theorem dL_law_1363 : decode cL_law 1363 = .ok (.aload_n 0, 1) := dqo adql_21 (q := (1363, .aload_n 0, 1)) 31 rfl
theorem dL_law_1364 : decode cL_law 1364 = .ok (.iload 4, 2) := dqo adql_21 (q := (1364, .iload 4, 2)) 32 rfl
theorem dL_law_1366 : decode cL_law 1366 = .ok (.iconst 3, 1) := dqo adql_21 (q := (1366, .iconst 3, 1)) 33 rfl
theorem dL_law_1367 : decode cL_law 1367 = .ok (.iadd, 1) := dqo adql_21 (q := (1367, .iadd, 1)) 34 rfl
theorem dL_law_1368 : decode cL_law 1368 = .ok (.iaload, 1) := dqo adql_21 (q := (1368, .iaload, 1)) 35 rfl
theorem dL_law_1369 : decode cL_law 1369 = .ok (.invokevirtual 156, 3) := dqo adql_21 (q := (1369, .invokevirtual 156, 3)) 36 rfl
theorem dL_law_1372 : decode cL_law 1372 = .ok (.pop2, 1) := dqo adql_21 (q := (1372, .pop2, 1)) 37 rfl
theorem dL_law_1373 : decode cL_law 1373 = .ok (.aload_n 2, 1) := dqo adql_21 (q := (1373, .aload_n 2, 1)) 38 rfl
theorem dL_law_1374 : decode cL_law 1374 = .ok (.aload_n 0, 1) := dqo adql_21 (q := (1374, .aload_n 0, 1)) 39 rfl
def dql_22 : List (Nat × Instr × Nat) := [(1375, .iload 4, 2), (1377, .iconst 1, 1), (1378, .iadd, 1), (1379, .iaload, 1), (1380, .aload_n 0, 1), (1381, .iload 4, 2), (1383, .iconst 2, 1), (1384, .iadd, 1), (1385, .iaload, 1), (1386, .aload_n 0, 1), (1387, .iload 4, 2), (1389, .iconst 3, 1), (1390, .iadd, 1), (1391, .iaload, 1), (1392, .invokevirtual 160, 3), (1395, .pop2, 1), (1396, .goto 54, 3), (1399, .aload_n 1, 1), (1400, .invokevirtual 161, 3), (1403, .pop, 1), (1404, .aload_n 2, 1), (1405, .invokevirtual 164, 3), (1408, .pop, 1), (1409, .goto 41, 3), (1412, .aload_n 1, 1), (1413, .invokevirtual 165, 3), (1416, .pop, 1), (1417, .aload_n 2, 1), (1418, .invokevirtual 168, 3), (1421, .pop, 1), (1422, .goto 28, 3), (1425, .aload_n 1, 1), (1426, .aload_n 0, 1), (1427, .iload 4, 2), (1429, .iconst 1, 1), (1430, .iadd, 1), (1431, .iaload, 1), (1432, .invokevirtual 169, 3), (1435, .pop, 1), (1436, .aload_n 2, 1)]
theorem adql_22 : dql_22.all (fun q => decide (decode cL_law q.1 = .ok (q.2.1, q.2.2))) = true := by decide +kernel
theorem dL_law_1375 : decode cL_law 1375 = .ok (.iload 4, 2) := dqo adql_22 (q := (1375, .iload 4, 2)) 0 rfl
theorem dL_law_1377 : decode cL_law 1377 = .ok (.iconst 1, 1) := dqo adql_22 (q := (1377, .iconst 1, 1)) 1 rfl
theorem dL_law_1378 : decode cL_law 1378 = .ok (.iadd, 1) := dqo adql_22 (q := (1378, .iadd, 1)) 2 rfl
theorem dL_law_1379 : decode cL_law 1379 = .ok (.iaload, 1) := dqo adql_22 (q := (1379, .iaload, 1)) 3 rfl
theorem dL_law_1380 : decode cL_law 1380 = .ok (.aload_n 0, 1) := dqo adql_22 (q := (1380, .aload_n 0, 1)) 4 rfl
theorem dL_law_1381 : decode cL_law 1381 = .ok (.iload 4, 2) := dqo adql_22 (q := (1381, .iload 4, 2)) 5 rfl
theorem dL_law_1383 : decode cL_law 1383 = .ok (.iconst 2, 1) := dqo adql_22 (q := (1383, .iconst 2, 1)) 6 rfl
theorem dL_law_1384 : decode cL_law 1384 = .ok (.iadd, 1) := dqo adql_22 (q := (1384, .iadd, 1)) 7 rfl
theorem dL_law_1385 : decode cL_law 1385 = .ok (.iaload, 1) := dqo adql_22 (q := (1385, .iaload, 1)) 8 rfl
theorem dL_law_1386 : decode cL_law 1386 = .ok (.aload_n 0, 1) := dqo adql_22 (q := (1386, .aload_n 0, 1)) 9 rfl
theorem dL_law_1387 : decode cL_law 1387 = .ok (.iload 4, 2) := dqo adql_22 (q := (1387, .iload 4, 2)) 10 rfl
theorem dL_law_1389 : decode cL_law 1389 = .ok (.iconst 3, 1) := dqo adql_22 (q := (1389, .iconst 3, 1)) 11 rfl
theorem dL_law_1390 : decode cL_law 1390 = .ok (.iadd, 1) := dqo adql_22 (q := (1390, .iadd, 1)) 12 rfl
theorem dL_law_1391 : decode cL_law 1391 = .ok (.iaload, 1) := dqo adql_22 (q := (1391, .iaload, 1)) 13 rfl
theorem dL_law_1392 : decode cL_law 1392 = .ok (.invokevirtual 160, 3) := dqo adql_22 (q := (1392, .invokevirtual 160, 3)) 14 rfl
theorem dL_law_1395 : decode cL_law 1395 = .ok (.pop2, 1) := dqo adql_22 (q := (1395, .pop2, 1)) 15 rfl
theorem dL_law_1396 : decode cL_law 1396 = .ok (.goto 54, 3) := dqo adql_22 (q := (1396, .goto 54, 3)) 16 rfl
theorem dL_law_1399 : decode cL_law 1399 = .ok (.aload_n 1, 1) := dqo adql_22 (q := (1399, .aload_n 1, 1)) 17 rfl
theorem dL_law_1400 : decode cL_law 1400 = .ok (.invokevirtual 161, 3) := dqo adql_22 (q := (1400, .invokevirtual 161, 3)) 18 rfl
theorem dL_law_1403 : decode cL_law 1403 = .ok (.pop, 1) := dqo adql_22 (q := (1403, .pop, 1)) 19 rfl
theorem dL_law_1404 : decode cL_law 1404 = .ok (.aload_n 2, 1) := dqo adql_22 (q := (1404, .aload_n 2, 1)) 20 rfl
theorem dL_law_1405 : decode cL_law 1405 = .ok (.invokevirtual 164, 3) := dqo adql_22 (q := (1405, .invokevirtual 164, 3)) 21 rfl
theorem dL_law_1408 : decode cL_law 1408 = .ok (.pop, 1) := dqo adql_22 (q := (1408, .pop, 1)) 22 rfl
theorem dL_law_1409 : decode cL_law 1409 = .ok (.goto 41, 3) := dqo adql_22 (q := (1409, .goto 41, 3)) 23 rfl
theorem dL_law_1412 : decode cL_law 1412 = .ok (.aload_n 1, 1) := dqo adql_22 (q := (1412, .aload_n 1, 1)) 24 rfl
theorem dL_law_1413 : decode cL_law 1413 = .ok (.invokevirtual 165, 3) := dqo adql_22 (q := (1413, .invokevirtual 165, 3)) 25 rfl
theorem dL_law_1416 : decode cL_law 1416 = .ok (.pop, 1) := dqo adql_22 (q := (1416, .pop, 1)) 26 rfl
theorem dL_law_1417 : decode cL_law 1417 = .ok (.aload_n 2, 1) := dqo adql_22 (q := (1417, .aload_n 2, 1)) 27 rfl
theorem dL_law_1418 : decode cL_law 1418 = .ok (.invokevirtual 168, 3) := dqo adql_22 (q := (1418, .invokevirtual 168, 3)) 28 rfl
theorem dL_law_1421 : decode cL_law 1421 = .ok (.pop, 1) := dqo adql_22 (q := (1421, .pop, 1)) 29 rfl
theorem dL_law_1422 : decode cL_law 1422 = .ok (.goto 28, 3) := dqo adql_22 (q := (1422, .goto 28, 3)) 30 rfl
theorem dL_law_1425 : decode cL_law 1425 = .ok (.aload_n 1, 1) := dqo adql_22 (q := (1425, .aload_n 1, 1)) 31 rfl
theorem dL_law_1426 : decode cL_law 1426 = .ok (.aload_n 0, 1) := dqo adql_22 (q := (1426, .aload_n 0, 1)) 32 rfl
theorem dL_law_1427 : decode cL_law 1427 = .ok (.iload 4, 2) := dqo adql_22 (q := (1427, .iload 4, 2)) 33 rfl
theorem dL_law_1429 : decode cL_law 1429 = .ok (.iconst 1, 1) := dqo adql_22 (q := (1429, .iconst 1, 1)) 34 rfl
theorem dL_law_1430 : decode cL_law 1430 = .ok (.iadd, 1) := dqo adql_22 (q := (1430, .iadd, 1)) 35 rfl
theorem dL_law_1431 : decode cL_law 1431 = .ok (.iaload, 1) := dqo adql_22 (q := (1431, .iaload, 1)) 36 rfl
theorem dL_law_1432 : decode cL_law 1432 = .ok (.invokevirtual 169, 3) := dqo adql_22 (q := (1432, .invokevirtual 169, 3)) 37 rfl
theorem dL_law_1435 : decode cL_law 1435 = .ok (.pop, 1) := dqo adql_22 (q := (1435, .pop, 1)) 38 rfl
theorem dL_law_1436 : decode cL_law 1436 = .ok (.aload_n 2, 1) := dqo adql_22 (q := (1436, .aload_n 2, 1)) 39 rfl
def dql_23 : List (Nat × Instr × Nat) := [(1437, .aload_n 0, 1), (1438, .iload 4, 2), (1440, .iconst 1, 1), (1441, .iadd, 1), (1442, .iaload, 1), (1443, .invokevirtual 172, 3), (1446, .pop, 1), (1447, .goto 3, 3), (1450, .iinc 4 6, 3), (1453, .goto (-1430), 3), (1456, .iconst 1, 1), (1457, .ireturn, 1)]
theorem adql_23 : dql_23.all (fun q => decide (decode cL_law q.1 = .ok (q.2.1, q.2.2))) = true := by decide +kernel
theorem dL_law_1437 : decode cL_law 1437 = .ok (.aload_n 0, 1) := dqo adql_23 (q := (1437, .aload_n 0, 1)) 0 rfl
theorem dL_law_1438 : decode cL_law 1438 = .ok (.iload 4, 2) := dqo adql_23 (q := (1438, .iload 4, 2)) 1 rfl
theorem dL_law_1440 : decode cL_law 1440 = .ok (.iconst 1, 1) := dqo adql_23 (q := (1440, .iconst 1, 1)) 2 rfl
theorem dL_law_1441 : decode cL_law 1441 = .ok (.iadd, 1) := dqo adql_23 (q := (1441, .iadd, 1)) 3 rfl
theorem dL_law_1442 : decode cL_law 1442 = .ok (.iaload, 1) := dqo adql_23 (q := (1442, .iaload, 1)) 4 rfl
theorem dL_law_1443 : decode cL_law 1443 = .ok (.invokevirtual 172, 3) := dqo adql_23 (q := (1443, .invokevirtual 172, 3)) 5 rfl
theorem dL_law_1446 : decode cL_law 1446 = .ok (.pop, 1) := dqo adql_23 (q := (1446, .pop, 1)) 6 rfl
theorem dL_law_1447 : decode cL_law 1447 = .ok (.goto 3, 3) := dqo adql_23 (q := (1447, .goto 3, 3)) 7 rfl
theorem dL_law_1450 : decode cL_law 1450 = .ok (.iinc 4 6, 3) := dqo adql_23 (q := (1450, .iinc 4 6, 3)) 8 rfl
theorem dL_law_1453 : decode cL_law 1453 = .ok (.goto (-1430), 3) := dqo adql_23 (q := (1453, .goto (-1430), 3)) 9 rfl
theorem dL_law_1456 : decode cL_law 1456 = .ok (.iconst 1, 1) := dqo adql_23 (q := (1456, .iconst 1, 1)) 10 rfl
theorem dL_law_1457 : decode cL_law 1457 = .ok (.ireturn, 1) := dqo adql_23 (q := (1457, .ireturn, 1)) 11 rfl
