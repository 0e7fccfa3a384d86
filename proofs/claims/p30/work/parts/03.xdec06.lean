theorem dX12_line_144 : decode cX12_line 144 = .ok (.iload_n 2, 1) := by decide +kernel
theorem dX12_line_145 : decode cX12_line 145 = .ok (.aload_n 0, 1) := by decide +kernel
theorem dX12_line_146 : decode cX12_line 146 = .ok (.aload_n 0, 1) := by decide +kernel
theorem dX12_line_147 : decode cX12_line 147 = .ok (.getfield 16, 3) := by decide +kernel
theorem dX12_line_150 : decode cX12_line 150 = .ok (.iconst 3, 1) := by decide +kernel
theorem dX12_line_151 : decode cX12_line 151 = .ok (.aload_n 0, 1) := by decide +kernel
theorem dX12_line_152 : decode cX12_line 152 = .ok (.iconst 0, 1) := by decide +kernel
theorem dX12_line_153 : decode cX12_line 153 = .ok (.invokevirtual 233, 3) := by decide +kernel
theorem dX12_line_156 : decode cX12_line 156 = .ok (.invokevirtual 246, 3) := by decide +kernel
theorem dX12_line_159 : decode cX12_line 159 = .ok (.iastore, 1) := by decide +kernel
theorem dX12_line_160 : decode cX12_line 160 = .ok (.aload_n 0, 1) := by decide +kernel
theorem dX12_line_161 : decode cX12_line 161 = .ok (.getfield 19, 3) := by decide +kernel
theorem dX12_line_164 : decode cX12_line 164 = .ok (.iload_n 2, 1) := by decide +kernel
theorem dX12_line_165 : decode cX12_line 165 = .ok (.aload_n 0, 1) := by decide +kernel
theorem dX12_line_166 : decode cX12_line 166 = .ok (.iconst 0, 1) := by decide +kernel
theorem dX12_line_167 : decode cX12_line 167 = .ok (.bipush 99, 2) := by decide +kernel
theorem dX12_line_169 : decode cX12_line 169 = .ok (.invokevirtual 250, 3) := by decide +kernel
theorem dX12_line_172 : decode cX12_line 172 = .ok (.iastore, 1) := by decide +kernel
theorem dX12_line_173 : decode cX12_line 173 = .ok (.aload_n 0, 1) := by decide +kernel
theorem dX12_line_174 : decode cX12_line 174 = .ok (.getfield 22, 3) := by decide +kernel
theorem dX12_line_177 : decode cX12_line 177 = .ok (.iload_n 2, 1) := by decide +kernel
theorem dX12_line_178 : decode cX12_line 178 = .ok (.aload_n 0, 1) := by decide +kernel
theorem dX12_line_179 : decode cX12_line 179 = .ok (.iconst 0, 1) := by decide +kernel
theorem dX12_line_180 : decode cX12_line 180 = .ok (.sipush 9999, 3) := by decide +kernel
theorem dX12_line_183 : decode cX12_line 183 = .ok (.invokevirtual 250, 3) := by decide +kernel
theorem dX12_line_186 : decode cX12_line 186 = .ok (.iastore, 1) := by decide +kernel
theorem dX12_line_187 : decode cX12_line 187 = .ok (.aload_n 0, 1) := by decide +kernel
theorem dX12_line_188 : decode cX12_line 188 = .ok (.iconst 0, 1) := by decide +kernel
theorem dX12_line_189 : decode cX12_line 189 = .ok (.aload_n 0, 1) := by decide +kernel
theorem dX12_line_190 : decode cX12_line 190 = .ok (.iconst 0, 1) := by decide +kernel
theorem dX12_line_191 : decode cX12_line 191 = .ok (.invokevirtual 233, 3) := by decide +kernel
theorem dX12_line_194 : decode cX12_line 194 = .ok (.iconst 1, 1) := by decide +kernel
theorem dX12_line_195 : decode cX12_line 195 = .ok (.iadd, 1) := by decide +kernel
theorem dX12_line_196 : decode cX12_line 196 = .ok (.invokevirtual 254, 3) := by decide +kernel
theorem dX12_line_199 : decode cX12_line 199 = .ok (.goto 126, 3) := by decide +kernel
theorem dX12_line_202 : decode cX12_line 202 = .ok (.aload_n 0, 1) := by decide +kernel
theorem dX12_line_203 : decode cX12_line 203 = .ok (.bipush 6, 2) := by decide +kernel
theorem dX12_line_205 : decode cX12_line 205 = .ok (.aload_n 0, 1) := by decide +kernel
theorem dX12_line_206 : decode cX12_line 206 = .ok (.iconst 1, 1) := by decide +kernel
theorem dX12_line_207 : decode cX12_line 207 = .ok (.invokevirtual 233, 3) := by decide +kernel
theorem dX12_line_210 : decode cX12_line 210 = .ok (.iadd, 1) := by decide +kernel
theorem dX12_line_211 : decode cX12_line 211 = .ok (.invokevirtual 258, 3) := by decide +kernel
theorem dX12_line_214 : decode cX12_line 214 = .ok (.goto 111, 3) := by decide +kernel
theorem dX12_line_217 : decode cX12_line 217 = .ok (.aload_n 0, 1) := by decide +kernel
theorem dX12_line_218 : decode cX12_line 218 = .ok (.iconst 4, 1) := by decide +kernel
theorem dX12_line_219 : decode cX12_line 219 = .ok (.aload_n 0, 1) := by decide +kernel
theorem dX12_line_220 : decode cX12_line 220 = .ok (.iconst 2, 1) := by decide +kernel
theorem dX12_line_221 : decode cX12_line 221 = .ok (.invokevirtual 233, 3) := by decide +kernel
theorem dX12_line_224 : decode cX12_line 224 = .ok (.iadd, 1) := by decide +kernel
theorem dX12_line_225 : decode cX12_line 225 = .ok (.invokevirtual 261, 3) := by decide +kernel
theorem dX12_line_228 : decode cX12_line 228 = .ok (.goto 97, 3) := by decide +kernel
theorem dX12_line_231 : decode cX12_line 231 = .ok (.aload_n 0, 1) := by decide +kernel
theorem dX12_line_232 : decode cX12_line 232 = .ok (.iconst 3, 1) := by decide +kernel
theorem dX12_line_233 : decode cX12_line 233 = .ok (.invokevirtual 233, 3) := by decide +kernel
theorem dX12_line_236 : decode cX12_line 236 = .ok (.istore_n 3, 1) := by decide +kernel
theorem dX12_line_237 : decode cX12_line 237 = .ok (.aload_n 0, 1) := by decide +kernel
theorem dX12_line_238 : decode cX12_line 238 = .ok (.getfield 59, 3) := by decide +kernel
theorem dX12_line_241 : decode cX12_line 241 = .ok (.iconst 3, 1) := by decide +kernel
theorem dX12_line_242 : decode cX12_line 242 = .ok (.iload_n 3, 1) := by decide +kernel
theorem dX12_line_243 : decode cX12_line 243 = .ok (.iadd, 1) := by decide +kernel
theorem dX12_line_244 : decode cX12_line 244 = .ok (.aload_n 0, 1) := by decide +kernel
theorem dX12_line_245 : decode cX12_line 245 = .ok (.aload_n 0, 1) := by decide +kernel
theorem dX12_line_246 : decode cX12_line 246 = .ok (.getfield 59, 3) := by decide +kernel
theorem dX12_line_249 : decode cX12_line 249 = .ok (.iconst 3, 1) := by decide +kernel
theorem dX12_line_250 : decode cX12_line 250 = .ok (.iload_n 3, 1) := by decide +kernel
theorem dX12_line_251 : decode cX12_line 251 = .ok (.invokevirtual 246, 3) := by decide +kernel
theorem dX12_line_254 : decode cX12_line 254 = .ok (.iastore, 1) := by decide +kernel
theorem dX12_line_255 : decode cX12_line 255 = .ok (.aload_n 0, 1) := by decide +kernel
theorem dX12_line_256 : decode cX12_line 256 = .ok (.getfield 62, 3) := by decide +kernel
theorem dX12_line_259 : decode cX12_line 259 = .ok (.iconst 3, 1) := by decide +kernel
theorem dX12_line_260 : decode cX12_line 260 = .ok (.iload_n 3, 1) := by decide +kernel
theorem dX12_line_261 : decode cX12_line 261 = .ok (.iadd, 1) := by decide +kernel
theorem dX12_line_262 : decode cX12_line 262 = .ok (.aload_n 0, 1) := by decide +kernel
theorem dX12_line_263 : decode cX12_line 263 = .ok (.iconst 0, 1) := by decide +kernel
theorem dX12_line_264 : decode cX12_line 264 = .ok (.sipush 999, 3) := by decide +kernel
theorem dX12_line_267 : decode cX12_line 267 = .ok (.invokevirtual 250, 3) := by decide +kernel
theorem dX12_line_270 : decode cX12_line 270 = .ok (.iastore, 1) := by decide +kernel
theorem dX12_line_271 : decode cX12_line 271 = .ok (.aload_n 0, 1) := by decide +kernel
theorem dX12_line_272 : decode cX12_line 272 = .ok (.bipush 7, 2) := by decide +kernel
theorem dX12_line_274 : decode cX12_line 274 = .ok (.iload_n 3, 1) := by decide +kernel
theorem dX12_line_275 : decode cX12_line 275 = .ok (.iadd, 1) := by decide +kernel
theorem dX12_line_276 : decode cX12_line 276 = .ok (.invokevirtual 264, 3) := by decide +kernel
theorem dX12_line_279 : decode cX12_line 279 = .ok (.aload_n 0, 1) := by decide +kernel
theorem dX12_line_280 : decode cX12_line 280 = .ok (.iconst 3, 1) := by decide +kernel
theorem dX12_line_281 : decode cX12_line 281 = .ok (.iload_n 3, 1) := by decide +kernel
theorem dX12_line_282 : decode cX12_line 282 = .ok (.iconst 1, 1) := by decide +kernel
theorem dX12_line_283 : decode cX12_line 283 = .ok (.iadd, 1) := by decide +kernel
theorem dX12_line_284 : decode cX12_line 284 = .ok (.invokevirtual 254, 3) := by decide +kernel
theorem dX12_line_287 : decode cX12_line 287 = .ok (.goto 38, 3) := by decide +kernel
theorem dX12_line_290 : decode cX12_line 290 = .ok (.aload_n 0, 1) := by decide +kernel
theorem dX12_line_291 : decode cX12_line 291 = .ok (.iconst 4, 1) := by decide +kernel
theorem dX12_line_292 : decode cX12_line 292 = .ok (.aload_n 0, 1) := by decide +kernel
theorem dX12_line_293 : decode cX12_line 293 = .ok (.iconst 0, 1) := by decide +kernel
theorem dX12_line_294 : decode cX12_line 294 = .ok (.sipush 999, 3) := by decide +kernel
theorem dX12_line_297 : decode cX12_line 297 = .ok (.invokevirtual 250, 3) := by decide +kernel
theorem dX12_line_300 : decode cX12_line 300 = .ok (.invokevirtual 254, 3) := by decide +kernel
theorem dX12_line_303 : decode cX12_line 303 = .ok (.goto 22, 3) := by decide +kernel
theorem dX12_line_306 : decode cX12_line 306 = .ok (.aload_n 0, 1) := by decide +kernel
theorem dX12_line_307 : decode cX12_line 307 = .ok (.iconst 5, 1) := by decide +kernel
theorem dX12_line_308 : decode cX12_line 308 = .ok (.aload_n 0, 1) := by decide +kernel
theorem dX12_line_309 : decode cX12_line 309 = .ok (.iconst 0, 1) := by decide +kernel
theorem dX12_line_310 : decode cX12_line 310 = .ok (.ldc 201, 2) := by decide +kernel
theorem dX12_line_312 : decode cX12_line 312 = .ok (.invokevirtual 250, 3) := by decide +kernel
theorem dX12_line_315 : decode cX12_line 315 = .ok (.invokevirtual 254, 3) := by decide +kernel
theorem dX12_line_318 : decode cX12_line 318 = .ok (.goto 7, 3) := by decide +kernel
theorem dX12_line_321 : decode cX12_line 321 = .ok (.aload_n 0, 1) := by decide +kernel
theorem dX12_line_322 : decode cX12_line 322 = .ok (.invokevirtual 267, 3) := by decide +kernel
theorem dX12_line_325 : decode cX12_line 325 = .ok (.aload_n 0, 1) := by decide +kernel
theorem dX12_line_326 : decode cX12_line 326 = .ok (.getfield 217, 3) := by decide +kernel
theorem dX12_line_329 : decode cX12_line 329 = .ok (.ifCond .eq 4, 3) := by decide +kernel
theorem dX12_line_332 : decode cX12_line 332 = .ok (.return_, 1) := by decide +kernel
theorem dX12_line_333 : decode cX12_line 333 = .ok (.aload_n 0, 1) := by decide +kernel
theorem dX12_line_334 : decode cX12_line 334 = .ok (.bipush 59, 2) := by decide +kernel
theorem dX12_line_336 : decode cX12_line 336 = .ok (.invokevirtual 270, 3) := by decide +kernel
theorem dX12_line_339 : decode cX12_line 339 = .ok (.ifCond .ne 11, 3) := by decide +kernel
theorem dX12_line_342 : decode cX12_line 342 = .ok (.aload_n 0, 1) := by decide +kernel
theorem dX12_line_343 : decode cX12_line 343 = .ok (.iconst 1, 1) := by decide +kernel
theorem dX12_line_344 : decode cX12_line 344 = .ok (.invokevirtual 226, 3) := by decide +kernel
theorem dX12_line_347 : decode cX12_line 347 = .ok (.goto 7, 3) := by decide +kernel
theorem dX12_line_350 : decode cX12_line 350 = .ok (.aload_n 0, 1) := by decide +kernel
theorem dX12_line_351 : decode cX12_line 351 = .ok (.invokevirtual 223, 3) := by decide +kernel
theorem dX12_line_354 : decode cX12_line 354 = .ok (.aload_n 0, 1) := by decide +kernel
theorem dX12_line_355 : decode cX12_line 355 = .ok (.dup, 1) := by decide +kernel
theorem dX12_line_356 : decode cX12_line 356 = .ok (.getfield 273, 3) := by decide +kernel
theorem dX12_line_359 : decode cX12_line 359 = .ok (.iconst 1, 1) := by decide +kernel
theorem dX12_line_360 : decode cX12_line 360 = .ok (.iadd, 1) := by decide +kernel
theorem dX12_line_361 : decode cX12_line 361 = .ok (.putfield 273, 3) := by decide +kernel
theorem dX12_line_364 : decode cX12_line 364 = .ok (.return_, 1) := by decide +kernel
theorem dX12_look_0 : decode cX12_look 0 = .ok (.aload_n 0, 1) := by decide +kernel
theorem dX12_look_1 : decode cX12_look 1 = .ok (.aload_n 0, 1) := by decide +kernel
theorem dX12_look_2 : decode cX12_look 2 = .ok (.iload_n 1, 1) := by decide +kernel
theorem dX12_look_3 : decode cX12_look 3 = .ok (.invokevirtual 335, 3) := by decide +kernel
theorem dX12_look_6 : decode cX12_look 6 = .ok (.ifCond .ne 7, 3) := by decide +kernel
theorem dX12_look_9 : decode cX12_look 9 = .ok (.iconst 1, 1) := by decide +kernel
theorem dX12_look_10 : decode cX12_look 10 = .ok (.goto 17, 3) := by decide +kernel
theorem dX12_look_13 : decode cX12_look 13 = .ok (.iload_n 2, 1) := by decide +kernel
theorem dX12_look_14 : decode cX12_look 14 = .ok (.ifCond .lt 8, 3) := by decide +kernel
theorem dX12_look_17 : decode cX12_look 17 = .ok (.iload_n 2, 1) := by decide +kernel
theorem dX12_look_18 : decode cX12_look 18 = .ok (.iconst 5, 1) := by decide +kernel
theorem dX12_look_19 : decode cX12_look 19 = .ok (.if_icmp .le 7, 3) := by decide +kernel
theorem dX12_look_22 : decode cX12_look 22 = .ok (.iconst 2, 1) := by decide +kernel
theorem dX12_look_23 : decode cX12_look 23 = .ok (.goto 4, 3) := by decide +kernel
theorem dX12_look_26 : decode cX12_look 26 = .ok (.iconst 0, 1) := by decide +kernel
theorem dX12_look_27 : decode cX12_look 27 = .ok (.putfield 163, 3) := by decide +kernel
theorem dX12_look_30 : decode cX12_look 30 = .ok (.aload_n 0, 1) := by decide +kernel
theorem dX12_look_31 : decode cX12_look 31 = .ok (.getfield 163, 3) := by decide +kernel
theorem dX12_look_34 : decode cX12_look 34 = .ok (.ifCond .eq 5, 3) := by decide +kernel
theorem dX12_look_37 : decode cX12_look 37 = .ok (.iconst 0, 1) := by decide +kernel
theorem dX12_look_38 : decode cX12_look 38 = .ok (.ireturn, 1) := by decide +kernel
theorem dX12_look_39 : decode cX12_look 39 = .ok (.iload_n 2, 1) := by decide +kernel
theorem dX12_look_40 : decode cX12_look 40 = .ok (.tableswitch 71 0 4 #[36, 43, 50, 57, 64], 36) := by decide +kernel
theorem dX12_look_76 : decode cX12_look 76 = .ok (.aload_n 0, 1) := by decide +kernel
theorem dX12_look_77 : decode cX12_look 77 = .ok (.getfield 28, 3) := by decide +kernel
theorem dX12_look_80 : decode cX12_look 80 = .ok (.iload_n 1, 1) := by decide +kernel
theorem dX12_look_81 : decode cX12_look 81 = .ok (.iaload, 1) := by decide +kernel
theorem dX12_look_82 : decode cX12_look 82 = .ok (.ireturn, 1) := by decide +kernel
theorem dX12_look_83 : decode cX12_look 83 = .ok (.aload_n 0, 1) := by decide +kernel
theorem dX12_look_84 : decode cX12_look 84 = .ok (.getfield 31, 3) := by decide +kernel
theorem dX12_look_87 : decode cX12_look 87 = .ok (.iload_n 1, 1) := by decide +kernel
theorem dX12_look_88 : decode cX12_look 88 = .ok (.iaload, 1) := by decide +kernel
theorem dX12_look_89 : decode cX12_look 89 = .ok (.ireturn, 1) := by decide +kernel
theorem dX12_look_90 : decode cX12_look 90 = .ok (.aload_n 0, 1) := by decide +kernel
theorem dX12_look_91 : decode cX12_look 91 = .ok (.getfield 38, 3) := by decide +kernel
theorem dX12_look_94 : decode cX12_look 94 = .ok (.iload_n 1, 1) := by decide +kernel
theorem dX12_look_95 : decode cX12_look 95 = .ok (.iaload, 1) := by decide +kernel
theorem dX12_look_96 : decode cX12_look 96 = .ok (.ireturn, 1) := by decide +kernel
theorem dX12_look_97 : decode cX12_look 97 = .ok (.aload_n 0, 1) := by decide +kernel
theorem dX12_look_98 : decode cX12_look 98 = .ok (.getfield 41, 3) := by decide +kernel
theorem dX12_look_101 : decode cX12_look 101 = .ok (.iload_n 1, 1) := by decide +kernel
theorem dX12_look_102 : decode cX12_look 102 = .ok (.iaload, 1) := by decide +kernel
theorem dX12_look_103 : decode cX12_look 103 = .ok (.ireturn, 1) := by decide +kernel
theorem dX12_look_104 : decode cX12_look 104 = .ok (.aload_n 0, 1) := by decide +kernel
theorem dX12_look_105 : decode cX12_look 105 = .ok (.getfield 102, 3) := by decide +kernel
theorem dX12_look_108 : decode cX12_look 108 = .ok (.iload_n 1, 1) := by decide +kernel
theorem dX12_look_109 : decode cX12_look 109 = .ok (.iaload, 1) := by decide +kernel
theorem dX12_look_110 : decode cX12_look 110 = .ok (.ireturn, 1) := by decide +kernel
theorem dX12_look_111 : decode cX12_look 111 = .ok (.aload_n 0, 1) := by decide +kernel
theorem dX12_look_112 : decode cX12_look 112 = .ok (.iload_n 1, 1) := by decide +kernel
theorem dX12_look_113 : decode cX12_look 113 = .ok (.invokevirtual 338, 3) := by decide +kernel
theorem dX12_look_116 : decode cX12_look 116 = .ok (.ifCond .eq 7, 3) := by decide +kernel
theorem dX12_look_119 : decode cX12_look 119 = .ok (.iconst 2, 1) := by decide +kernel
theorem dX12_look_120 : decode cX12_look 120 = .ok (.goto 17, 3) := by decide +kernel
theorem dX12_look_123 : decode cX12_look 123 = .ok (.aload_n 0, 1) := by decide +kernel
theorem dX12_look_124 : decode cX12_look 124 = .ok (.getfield 34, 3) := by decide +kernel
theorem dX12_look_127 : decode cX12_look 127 = .ok (.iload_n 1, 1) := by decide +kernel
theorem dX12_look_128 : decode cX12_look 128 = .ok (.baload, 1) := by decide +kernel
theorem dX12_look_129 : decode cX12_look 129 = .ok (.ifCond .eq 7, 3) := by decide +kernel
theorem dX12_look_132 : decode cX12_look 132 = .ok (.iconst 1, 1) := by decide +kernel
theorem dX12_look_133 : decode cX12_look 133 = .ok (.goto 4, 3) := by decide +kernel
theorem dX12_look_136 : decode cX12_look 136 = .ok (.iconst 0, 1) := by decide +kernel
theorem dX12_look_137 : decode cX12_look 137 = .ok (.ireturn, 1) := by decide +kernel
theorem dX12_mayBe_0 : decode cX12_mayBe 0 = .ok (.iconst 0, 1) := by decide +kernel
theorem dX12_mayBe_1 : decode cX12_mayBe 1 = .ok (.istore_n 2, 1) := by decide +kernel
theorem dX12_mayBe_2 : decode cX12_mayBe 2 = .ok (.iload_n 2, 1) := by decide +kernel
theorem dX12_mayBe_3 : decode cX12_mayBe 3 = .ok (.aload_n 0, 1) := by decide +kernel
theorem dX12_mayBe_4 : decode cX12_mayBe 4 = .ok (.getfield 50, 3) := by decide +kernel
theorem dX12_mayBe_7 : decode cX12_mayBe 7 = .ok (.iload_n 1, 1) := by decide +kernel
theorem dX12_mayBe_8 : decode cX12_mayBe 8 = .ok (.iaload, 1) := by decide +kernel
theorem dX12_mayBe_9 : decode cX12_mayBe 9 = .ok (.if_icmp .ge 72, 3) := by decide +kernel
theorem dX12_mayBe_12 : decode cX12_mayBe 12 = .ok (.aload_n 0, 1) := by decide +kernel
theorem dX12_mayBe_13 : decode cX12_mayBe 13 = .ok (.getfield 136, 3) := by decide +kernel
theorem dX12_mayBe_16 : decode cX12_mayBe 16 = .ok (.iload_n 2, 1) := by decide +kernel
theorem dX12_mayBe_17 : decode cX12_mayBe 17 = .ok (.iaload, 1) := by decide +kernel
theorem dX12_mayBe_18 : decode cX12_mayBe 18 = .ok (.aload_n 0, 1) := by decide +kernel
theorem dX12_mayBe_19 : decode cX12_mayBe 19 = .ok (.getfield 13, 3) := by decide +kernel
theorem dX12_mayBe_22 : decode cX12_mayBe 22 = .ok (.iconst 1, 1) := by decide +kernel
theorem dX12_mayBe_23 : decode cX12_mayBe 23 = .ok (.iaload, 1) := by decide +kernel
theorem dX12_mayBe_24 : decode cX12_mayBe 24 = .ok (.if_icmp .ne 6, 3) := by decide +kernel
theorem dX12_mayBe_27 : decode cX12_mayBe 27 = .ok (.goto 48, 3) := by decide +kernel
theorem dX12_mayBe_30 : decode cX12_mayBe 30 = .ok (.aload_n 0, 1) := by decide +kernel
theorem dX12_mayBe_31 : decode cX12_mayBe 31 = .ok (.aload_n 0, 1) := by decide +kernel
theorem dX12_mayBe_32 : decode cX12_mayBe 32 = .ok (.getfield 136, 3) := by decide +kernel
theorem dX12_mayBe_35 : decode cX12_mayBe 35 = .ok (.iload_n 2, 1) := by decide +kernel
theorem dX12_mayBe_36 : decode cX12_mayBe 36 = .ok (.iaload, 1) := by decide +kernel
theorem dX12_mayBe_37 : decode cX12_mayBe 37 = .ok (.invokevirtual 338, 3) := by decide +kernel
theorem dX12_mayBe_40 : decode cX12_mayBe 40 = .ok (.ifCond .eq 5, 3) := by decide +kernel
theorem dX12_mayBe_43 : decode cX12_mayBe 43 = .ok (.iconst 0, 1) := by decide +kernel
theorem dX12_mayBe_44 : decode cX12_mayBe 44 = .ok (.ireturn, 1) := by decide +kernel
theorem dX12_mayBe_45 : decode cX12_mayBe 45 = .ok (.iconst 0, 1) := by decide +kernel
theorem dX12_mayBe_46 : decode cX12_mayBe 46 = .ok (.istore_n 3, 1) := by decide +kernel
theorem dX12_mayBe_47 : decode cX12_mayBe 47 = .ok (.iload_n 3, 1) := by decide +kernel
theorem dX12_mayBe_48 : decode cX12_mayBe 48 = .ok (.iload_n 2, 1) := by decide +kernel
theorem dX12_mayBe_49 : decode cX12_mayBe 49 = .ok (.if_icmp .ge 26, 3) := by decide +kernel
theorem dX12_mayBe_52 : decode cX12_mayBe 52 = .ok (.aload_n 0, 1) := by decide +kernel
theorem dX12_mayBe_53 : decode cX12_mayBe 53 = .ok (.getfield 136, 3) := by decide +kernel
theorem dX12_mayBe_56 : decode cX12_mayBe 56 = .ok (.iload_n 3, 1) := by decide +kernel
theorem dX12_mayBe_57 : decode cX12_mayBe 57 = .ok (.iaload, 1) := by decide +kernel
theorem dX12_mayBe_58 : decode cX12_mayBe 58 = .ok (.aload_n 0, 1) := by decide +kernel
theorem dX12_mayBe_59 : decode cX12_mayBe 59 = .ok (.getfield 136, 3) := by decide +kernel
theorem dX12_mayBe_62 : decode cX12_mayBe 62 = .ok (.iload_n 2, 1) := by decide +kernel
theorem dX12_mayBe_63 : decode cX12_mayBe 63 = .ok (.iaload, 1) := by decide +kernel
theorem dX12_mayBe_64 : decode cX12_mayBe 64 = .ok (.if_icmp .ne 5, 3) := by decide +kernel
theorem dX12_mayBe_67 : decode cX12_mayBe 67 = .ok (.iconst 0, 1) := by decide +kernel
theorem dX12_mayBe_68 : decode cX12_mayBe 68 = .ok (.ireturn, 1) := by decide +kernel
theorem dX12_mayBe_69 : decode cX12_mayBe 69 = .ok (.iinc 3 1, 3) := by decide +kernel
theorem dX12_mayBe_72 : decode cX12_mayBe 72 = .ok (.goto (-25), 3) := by decide +kernel
theorem dX12_mayBe_75 : decode cX12_mayBe 75 = .ok (.iinc 2 1, 3) := by decide +kernel
theorem dX12_mayBe_78 : decode cX12_mayBe 78 = .ok (.goto (-76), 3) := by decide +kernel
theorem dX12_mayBe_81 : decode cX12_mayBe 81 = .ok (.iconst 1, 1) := by decide +kernel
theorem dX12_mayBe_82 : decode cX12_mayBe 82 = .ok (.ireturn, 1) := by decide +kernel
theorem dX12_name_0 : decode cX12_name 0 = .ok (.aload_n 0, 1) := by decide +kernel
theorem dX12_name_1 : decode cX12_name 1 = .ok (.iconst 0, 1) := by decide +kernel
theorem dX12_name_2 : decode cX12_name 2 = .ok (.putfield 192, 3) := by decide +kernel
theorem dX12_name_5 : decode cX12_name 5 = .ok (.iconst 0, 1) := by decide +kernel
theorem dX12_name_6 : decode cX12_name 6 = .ok (.istore_n 1, 1) := by decide +kernel
theorem dX12_name_7 : decode cX12_name 7 = .ok (.iload_n 1, 1) := by decide +kernel
theorem dX12_name_8 : decode cX12_name 8 = .ok (.bipush 6, 2) := by decide +kernel
theorem dX12_name_10 : decode cX12_name 10 = .ok (.if_icmp .ge 53, 3) := by decide +kernel
theorem dX12_name_13 : decode cX12_name 13 = .ok (.aload_n 0, 1) := by decide +kernel
theorem dX12_name_14 : decode cX12_name 14 = .ok (.aload_n 0, 1) := by decide +kernel
theorem dX12_name_15 : decode cX12_name 15 = .ok (.getfield 192, 3) := by decide +kernel
theorem dX12_name_18 : decode cX12_name 18 = .ok (.iconst 5, 1) := by decide +kernel
theorem dX12_name_19 : decode cX12_name 19 = .ok (.ishl, 1) := by decide +kernel
theorem dX12_name_20 : decode cX12_name 20 = .ok (.aload_n 0, 1) := by decide +kernel
theorem dX12_name_21 : decode cX12_name 21 = .ok (.getfield 179, 3) := by decide +kernel
theorem dX12_name_24 : decode cX12_name 24 = .ok (.iload_n 1, 1) := by decide +kernel
theorem dX12_name_25 : decode cX12_name 25 = .ok (.iadd, 1) := by decide +kernel
theorem dX12_name_26 : decode cX12_name 26 = .ok (.aload_n 0, 1) := by decide +kernel
theorem dX12_name_27 : decode cX12_name 27 = .ok (.getfield 169, 3) := by decide +kernel
theorem dX12_name_30 : decode cX12_name 30 = .ok (.if_icmp .ge 22, 3) := by decide +kernel
theorem dX12_name_33 : decode cX12_name 33 = .ok (.aload_n 0, 1) := by decide +kernel
theorem dX12_name_34 : decode cX12_name 34 = .ok (.getfield 7, 3) := by decide +kernel
theorem dX12_name_37 : decode cX12_name 37 = .ok (.aload_n 0, 1) := by decide +kernel
theorem dX12_name_38 : decode cX12_name 38 = .ok (.getfield 179, 3) := by decide +kernel
theorem dX12_name_41 : decode cX12_name 41 = .ok (.iload_n 1, 1) := by decide +kernel
theorem dX12_name_42 : decode cX12_name 42 = .ok (.iadd, 1) := by decide +kernel
theorem dX12_name_43 : decode cX12_name 43 = .ok (.iaload, 1) := by decide +kernel
theorem dX12_name_44 : decode cX12_name 44 = .ok (.bipush 97, 2) := by decide +kernel
theorem dX12_name_46 : decode cX12_name 46 = .ok (.isub, 1) := by decide +kernel
theorem dX12_name_47 : decode cX12_name 47 = .ok (.iconst 1, 1) := by decide +kernel
theorem dX12_name_48 : decode cX12_name 48 = .ok (.iadd, 1) := by decide +kernel
theorem dX12_name_49 : decode cX12_name 49 = .ok (.goto 4, 3) := by decide +kernel
theorem dX12_name_52 : decode cX12_name 52 = .ok (.iconst 0, 1) := by decide +kernel
theorem dX12_name_53 : decode cX12_name 53 = .ok (.ior, 1) := by decide +kernel
theorem dX12_name_54 : decode cX12_name 54 = .ok (.putfield 192, 3) := by decide +kernel
theorem dX12_name_57 : decode cX12_name 57 = .ok (.iinc 1 1, 3) := by decide +kernel
theorem dX12_name_60 : decode cX12_name 60 = .ok (.goto (-53), 3) := by decide +kernel
theorem dX12_name_63 : decode cX12_name 63 = .ok (.return_, 1) := by decide +kernel
theorem dX12_named_0 : decode cX12_named 0 = .ok (.aload_n 0, 1) := by decide +kernel
theorem dX12_named_1 : decode cX12_named 1 = .ok (.iconst 0, 1) := by decide +kernel
theorem dX12_named_2 : decode cX12_named 2 = .ok (.putfield 163, 3) := by decide +kernel
theorem dX12_named_5 : decode cX12_named 5 = .ok (.iload_n 1, 1) := by decide +kernel
theorem dX12_named_6 : decode cX12_named 6 = .ok (.tableswitch 94 0 3 #[30, 46, 62, 78], 30) := by decide +kernel
theorem dX12_named_36 : decode cX12_named 36 = .ok (.aload_n 0, 1) := by decide +kernel
theorem dX12_named_37 : decode cX12_named 37 = .ok (.getfield 16, 3) := by decide +kernel
theorem dX12_named_40 : decode cX12_named 40 = .ok (.iconst 0, 1) := by decide +kernel
theorem dX12_named_41 : decode cX12_named 41 = .ok (.aload_n 0, 1) := by decide +kernel
theorem dX12_named_42 : decode cX12_named 42 = .ok (.getfield 13, 3) := by decide +kernel
theorem dX12_named_45 : decode cX12_named 45 = .ok (.iconst 0, 1) := by decide +kernel
theorem dX12_named_46 : decode cX12_named 46 = .ok (.iaload, 1) := by decide +kernel
theorem dX12_named_47 : decode cX12_named 47 = .ok (.iload_n 2, 1) := by decide +kernel
theorem dX12_named_48 : decode cX12_named 48 = .ok (.invokestatic 229, 3) := by decide +kernel
theorem dX12_named_51 : decode cX12_named 51 = .ok (.ireturn, 1) := by decide +kernel
theorem dX12_named_52 : decode cX12_named 52 = .ok (.aload_n 0, 1) := by decide +kernel
theorem dX12_named_53 : decode cX12_named 53 = .ok (.getfield 25, 3) := by decide +kernel
theorem dX12_named_56 : decode cX12_named 56 = .ok (.iconst 0, 1) := by decide +kernel
theorem dX12_named_57 : decode cX12_named 57 = .ok (.aload_n 0, 1) := by decide +kernel
theorem dX12_named_58 : decode cX12_named 58 = .ok (.getfield 13, 3) := by decide +kernel
theorem dX12_named_61 : decode cX12_named 61 = .ok (.iconst 1, 1) := by decide +kernel
theorem dX12_named_62 : decode cX12_named 62 = .ok (.iaload, 1) := by decide +kernel
theorem dX12_named_63 : decode cX12_named 63 = .ok (.iload_n 2, 1) := by decide +kernel
theorem dX12_named_64 : decode cX12_named 64 = .ok (.invokestatic 229, 3) := by decide +kernel
theorem dX12_named_67 : decode cX12_named 67 = .ok (.ireturn, 1) := by decide +kernel
theorem dX12_named_68 : decode cX12_named 68 = .ok (.aload_n 0, 1) := by decide +kernel
theorem dX12_named_69 : decode cX12_named 69 = .ok (.getfield 47, 3) := by decide +kernel
theorem dX12_named_72 : decode cX12_named 72 = .ok (.iconst 0, 1) := by decide +kernel
theorem dX12_named_73 : decode cX12_named 73 = .ok (.aload_n 0, 1) := by decide +kernel
theorem dX12_named_74 : decode cX12_named 74 = .ok (.getfield 13, 3) := by decide +kernel
theorem dX12_named_77 : decode cX12_named 77 = .ok (.iconst 2, 1) := by decide +kernel
theorem dX12_named_78 : decode cX12_named 78 = .ok (.iaload, 1) := by decide +kernel
theorem dX12_named_79 : decode cX12_named 79 = .ok (.iload_n 2, 1) := by decide +kernel
theorem dX12_named_80 : decode cX12_named 80 = .ok (.invokestatic 229, 3) := by decide +kernel
theorem dX12_named_83 : decode cX12_named 83 = .ok (.ireturn, 1) := by decide +kernel
theorem dX12_named_84 : decode cX12_named 84 = .ok (.aload_n 0, 1) := by decide +kernel
theorem dX12_named_85 : decode cX12_named 85 = .ok (.getfield 59, 3) := by decide +kernel
theorem dX12_named_88 : decode cX12_named 88 = .ok (.iconst 0, 1) := by decide +kernel
theorem dX12_named_89 : decode cX12_named 89 = .ok (.aload_n 0, 1) := by decide +kernel
theorem dX12_named_90 : decode cX12_named 90 = .ok (.getfield 13, 3) := by decide +kernel
theorem dX12_named_93 : decode cX12_named 93 = .ok (.iconst 3, 1) := by decide +kernel
theorem dX12_named_94 : decode cX12_named 94 = .ok (.iaload, 1) := by decide +kernel
theorem dX12_named_95 : decode cX12_named 95 = .ok (.iload_n 2, 1) := by decide +kernel
theorem dX12_named_96 : decode cX12_named 96 = .ok (.invokestatic 229, 3) := by decide +kernel
theorem dX12_named_99 : decode cX12_named 99 = .ok (.ireturn, 1) := by decide +kernel
theorem dX12_named_100 : decode cX12_named 100 = .ok (.iconst (-1), 1) := by decide +kernel
theorem dX12_named_101 : decode cX12_named 101 = .ok (.ireturn, 1) := by decide +kernel
theorem dX12_negation_0 : decode cX12_negation 0 = .ok (.aload_n 0, 1) := by decide +kernel
theorem dX12_negation_1 : decode cX12_negation 1 = .ok (.bipush 15, 2) := by decide +kernel
theorem dX12_negation_3 : decode cX12_negation 3 = .ok (.invokevirtual 279, 3) := by decide +kernel
theorem dX12_negation_6 : decode cX12_negation 6 = .ok (.ifCond .eq 24, 3) := by decide +kernel
theorem dX12_negation_9 : decode cX12_negation 9 = .ok (.aload_n 0, 1) := by decide +kernel
theorem dX12_negation_10 : decode cX12_negation 10 = .ok (.invokevirtual 294, 3) := by decide +kernel
theorem dX12_negation_13 : decode cX12_negation 13 = .ok (.aload_n 0, 1) := by decide +kernel
theorem dX12_negation_14 : decode cX12_negation 14 = .ok (.invokevirtual 237, 3) := by decide +kernel
theorem dX12_negation_17 : decode cX12_negation 17 = .ok (.aload_n 0, 1) := by decide +kernel
theorem dX12_negation_18 : decode cX12_negation 18 = .ok (.invokevirtual 300, 3) := by decide +kernel
theorem dX12_negation_21 : decode cX12_negation 21 = .ok (.aload_n 0, 1) := by decide +kernel
theorem dX12_negation_22 : decode cX12_negation 22 = .ok (.iconst 2, 1) := by decide +kernel
theorem dX12_negation_23 : decode cX12_negation 23 = .ok (.sipush 260, 3) := by decide +kernel
theorem dX12_negation_26 : decode cX12_negation 26 = .ok (.invokevirtual 297, 3) := by decide +kernel
theorem dX12_negation_29 : decode cX12_negation 29 = .ok (.return_, 1) := by decide +kernel
theorem dX12_negation_30 : decode cX12_negation 30 = .ok (.aload_n 0, 1) := by decide +kernel
theorem dX12_negation_31 : decode cX12_negation 31 = .ok (.invokevirtual 303, 3) := by decide +kernel
theorem dX12_negation_34 : decode cX12_negation 34 = .ok (.aload_n 0, 1) := by decide +kernel
theorem dX12_negation_35 : decode cX12_negation 35 = .ok (.getfield 217, 3) := by decide +kernel
theorem dX12_negation_38 : decode cX12_negation 38 = .ok (.ifCond .ne 48, 3) := by decide +kernel
theorem dX12_negation_41 : decode cX12_negation 41 = .ok (.aload_n 0, 1) := by decide +kernel
theorem dX12_negation_42 : decode cX12_negation 42 = .ok (.getfield 182, 3) := by decide +kernel
theorem dX12_negation_45 : decode cX12_negation 45 = .ok (.iconst 3, 1) := by decide +kernel
theorem dX12_negation_46 : decode cX12_negation 46 = .ok (.if_icmp .ne 40, 3) := by decide +kernel
theorem dX12_negation_49 : decode cX12_negation 49 = .ok (.aload_n 0, 1) := by decide +kernel
theorem dX12_negation_50 : decode cX12_negation 50 = .ok (.getfield 192, 3) := by decide +kernel
theorem dX12_negation_53 : decode cX12_negation 53 = .ok (.bipush 60, 2) := by decide +kernel
theorem dX12_negation_55 : decode cX12_negation 55 = .ok (.if_icmp .eq 32, 3) := by decide +kernel
theorem dX12_negation_58 : decode cX12_negation 58 = .ok (.aload_n 0, 1) := by decide +kernel
theorem dX12_negation_59 : decode cX12_negation 59 = .ok (.getfield 192, 3) := by decide +kernel
theorem dX12_negation_62 : decode cX12_negation 62 = .ok (.bipush 62, 2) := by decide +kernel
theorem dX12_negation_64 : decode cX12_negation 64 = .ok (.if_icmp .eq 23, 3) := by decide +kernel
theorem dX12_negation_67 : decode cX12_negation 67 = .ok (.aload_n 0, 1) := by decide +kernel
theorem dX12_negation_68 : decode cX12_negation 68 = .ok (.getfield 192, 3) := by decide +kernel
theorem dX12_negation_71 : decode cX12_negation 71 = .ok (.bipush 61, 2) := by decide +kernel
theorem dX12_negation_73 : decode cX12_negation 73 = .ok (.if_icmp .eq 14, 3) := by decide +kernel
theorem dX12_negation_76 : decode cX12_negation 76 = .ok (.aload_n 0, 1) := by decide +kernel
theorem dX12_negation_77 : decode cX12_negation 77 = .ok (.getfield 192, 3) := by decide +kernel
theorem dX12_negation_80 : decode cX12_negation 80 = .ok (.sipush 256, 3) := by decide +kernel
theorem dX12_negation_83 : decode cX12_negation 83 = .ok (.if_icmp .ge 4, 3) := by decide +kernel
theorem dX12_negation_86 : decode cX12_negation 86 = .ok (.return_, 1) := by decide +kernel
theorem dX12_negation_87 : decode cX12_negation 87 = .ok (.aload_n 0, 1) := by decide +kernel
theorem dX12_negation_88 : decode cX12_negation 88 = .ok (.getfield 192, 3) := by decide +kernel
theorem dX12_negation_91 : decode cX12_negation 91 = .ok (.istore_n 1, 1) := by decide +kernel
theorem dX12_negation_92 : decode cX12_negation 92 = .ok (.aload_n 0, 1) := by decide +kernel
theorem dX12_negation_93 : decode cX12_negation 93 = .ok (.invokevirtual 294, 3) := by decide +kernel
theorem dX12_negation_96 : decode cX12_negation 96 = .ok (.aload_n 0, 1) := by decide +kernel
theorem dX12_negation_97 : decode cX12_negation 97 = .ok (.invokevirtual 237, 3) := by decide +kernel
theorem dX12_negation_100 : decode cX12_negation 100 = .ok (.aload_n 0, 1) := by decide +kernel
theorem dX12_negation_101 : decode cX12_negation 101 = .ok (.invokevirtual 303, 3) := by decide +kernel
theorem dX12_negation_104 : decode cX12_negation 104 = .ok (.aload_n 0, 1) := by decide +kernel
theorem dX12_negation_105 : decode cX12_negation 105 = .ok (.iconst 2, 1) := by decide +kernel
theorem dX12_negation_106 : decode cX12_negation 106 = .ok (.iload_n 1, 1) := by decide +kernel
theorem dX12_negation_107 : decode cX12_negation 107 = .ok (.invokevirtual 297, 3) := by decide +kernel
theorem dX12_negation_110 : decode cX12_negation 110 = .ok (.return_, 1) := by decide +kernel
theorem dX12_numeral_0 : decode cX12_numeral 0 = .ok (.aload_n 0, 1) := by decide +kernel
theorem dX12_numeral_1 : decode cX12_numeral 1 = .ok (.getfield 217, 3) := by decide +kernel
theorem dX12_numeral_4 : decode cX12_numeral 4 = .ok (.ifCond .eq 5, 3) := by decide +kernel
theorem dX12_numeral_7 : decode cX12_numeral 7 = .ok (.iload_n 1, 1) := by decide +kernel
theorem dX12_numeral_8 : decode cX12_numeral 8 = .ok (.ireturn, 1) := by decide +kernel
theorem dX12_numeral_9 : decode cX12_numeral 9 = .ok (.aload_n 0, 1) := by decide +kernel
theorem dX12_numeral_10 : decode cX12_numeral 10 = .ok (.getfield 182, 3) := by decide +kernel
theorem dX12_numeral_13 : decode cX12_numeral 13 = .ok (.iconst 2, 1) := by decide +kernel
theorem dX12_numeral_14 : decode cX12_numeral 14 = .ok (.if_icmp .eq 11, 3) := by decide +kernel
theorem dX12_numeral_17 : decode cX12_numeral 17 = .ok (.aload_n 0, 1) := by decide +kernel
theorem dX12_numeral_18 : decode cX12_numeral 18 = .ok (.iconst 1, 1) := by decide +kernel
theorem dX12_numeral_19 : decode cX12_numeral 19 = .ok (.invokevirtual 226, 3) := by decide +kernel
theorem dX12_numeral_22 : decode cX12_numeral 22 = .ok (.goto 24, 3) := by decide +kernel
theorem dX12_numeral_25 : decode cX12_numeral 25 = .ok (.aload_n 0, 1) := by decide +kernel
theorem dX12_numeral_26 : decode cX12_numeral 26 = .ok (.getfield 192, 3) := by decide +kernel
theorem dX12_numeral_29 : decode cX12_numeral 29 = .ok (.iload_n 1, 1) := by decide +kernel
theorem dX12_numeral_30 : decode cX12_numeral 30 = .ok (.if_icmp .lt 11, 3) := by decide +kernel
theorem dX12_numeral_33 : decode cX12_numeral 33 = .ok (.aload_n 0, 1) := by decide +kernel
theorem dX12_numeral_34 : decode cX12_numeral 34 = .ok (.getfield 192, 3) := by decide +kernel
theorem dX12_numeral_37 : decode cX12_numeral 37 = .ok (.iload_n 2, 1) := by decide +kernel
theorem dX12_numeral_38 : decode cX12_numeral 38 = .ok (.if_icmp .le 8, 3) := by decide +kernel
theorem dX12_numeral_41 : decode cX12_numeral 41 = .ok (.aload_n 0, 1) := by decide +kernel
theorem dX12_numeral_42 : decode cX12_numeral 42 = .ok (.iconst 2, 1) := by decide +kernel
theorem dX12_numeral_43 : decode cX12_numeral 43 = .ok (.invokevirtual 226, 3) := by decide +kernel
theorem dX12_numeral_46 : decode cX12_numeral 46 = .ok (.aload_n 0, 1) := by decide +kernel
theorem dX12_numeral_47 : decode cX12_numeral 47 = .ok (.getfield 217, 3) := by decide +kernel
theorem dX12_numeral_50 : decode cX12_numeral 50 = .ok (.ifCond .eq 5, 3) := by decide +kernel
theorem dX12_numeral_53 : decode cX12_numeral 53 = .ok (.iload_n 1, 1) := by decide +kernel
theorem dX12_numeral_54 : decode cX12_numeral 54 = .ok (.ireturn, 1) := by decide +kernel
theorem dX12_numeral_55 : decode cX12_numeral 55 = .ok (.aload_n 0, 1) := by decide +kernel
theorem dX12_numeral_56 : decode cX12_numeral 56 = .ok (.getfield 192, 3) := by decide +kernel
theorem dX12_numeral_59 : decode cX12_numeral 59 = .ok (.istore_n 3, 1) := by decide +kernel
theorem dX12_numeral_60 : decode cX12_numeral 60 = .ok (.aload_n 0, 1) := by decide +kernel
theorem dX12_numeral_61 : decode cX12_numeral 61 = .ok (.invokevirtual 223, 3) := by decide +kernel
theorem dX12_numeral_64 : decode cX12_numeral 64 = .ok (.iload_n 3, 1) := by decide +kernel
theorem dX12_numeral_65 : decode cX12_numeral 65 = .ok (.ireturn, 1) := by decide +kernel
theorem dX12_odds_0 : decode cX12_odds 0 = .ok (.aload_n 0, 1) := by decide +kernel
theorem dX12_odds_1 : decode cX12_odds 1 = .ok (.iconst 0, 1) := by decide +kernel
theorem dX12_odds_2 : decode cX12_odds 2 = .ok (.putfield 163, 3) := by decide +kernel
theorem dX12_odds_5 : decode cX12_odds 5 = .ok (.aload_n 0, 1) := by decide +kernel
theorem dX12_odds_6 : decode cX12_odds 6 = .ok (.iload_n 1, 1) := by decide +kernel
theorem dX12_odds_7 : decode cX12_odds 7 = .ok (.invokevirtual 335, 3) := by decide +kernel
theorem dX12_odds_10 : decode cX12_odds 10 = .ok (.ifCond .eq 12, 3) := by decide +kernel
theorem dX12_odds_13 : decode cX12_odds 13 = .ok (.iload_n 2, 1) := by decide +kernel
theorem dX12_odds_14 : decode cX12_odds 14 = .ok (.ifCond .lt 8, 3) := by decide +kernel
theorem dX12_odds_17 : decode cX12_odds 17 = .ok (.iload_n 2, 1) := by decide +kernel
theorem dX12_odds_18 : decode cX12_odds 18 = .ok (.iconst 1, 1) := by decide +kernel
theorem dX12_odds_19 : decode cX12_odds 19 = .ok (.if_icmp .le 5, 3) := by decide +kernel
theorem dX12_odds_22 : decode cX12_odds 22 = .ok (.iconst (-1), 1) := by decide +kernel
theorem dX12_odds_23 : decode cX12_odds 23 = .ok (.ireturn, 1) := by decide +kernel
theorem dX12_odds_24 : decode cX12_odds 24 = .ok (.aload_n 0, 1) := by decide +kernel
theorem dX12_odds_25 : decode cX12_odds 25 = .ok (.invokevirtual 479, 3) := by decide +kernel
theorem dX12_odds_28 : decode cX12_odds 28 = .ok (.istore_n 3, 1) := by decide +kernel
theorem dX12_odds_29 : decode cX12_odds 29 = .ok (.iload_n 3, 1) := by decide +kernel
theorem dX12_odds_30 : decode cX12_odds 30 = .ok (.iload_n 1, 1) := by decide +kernel
theorem dX12_odds_31 : decode cX12_odds 31 = .ok (.ishr, 1) := by decide +kernel
theorem dX12_odds_32 : decode cX12_odds 32 = .ok (.iconst 1, 1) := by decide +kernel
theorem dX12_odds_33 : decode cX12_odds 33 = .ok (.iand, 1) := by decide +kernel
theorem dX12_odds_34 : decode cX12_odds 34 = .ok (.ifCond .ne 5, 3) := by decide +kernel
theorem dX12_odds_37 : decode cX12_odds 37 = .ok (.iload_n 2, 1) := by decide +kernel
theorem dX12_odds_38 : decode cX12_odds 38 = .ok (.ireturn, 1) := by decide +kernel
theorem dX12_odds_39 : decode cX12_odds 39 = .ok (.iconst 0, 1) := by decide +kernel
theorem dX12_odds_40 : decode cX12_odds 40 = .ok (.istore 4, 2) := by decide +kernel
theorem dX12_odds_42 : decode cX12_odds 42 = .ok (.iconst 0, 1) := by decide +kernel
theorem dX12_odds_43 : decode cX12_odds 43 = .ok (.istore 5, 2) := by decide +kernel
theorem dX12_odds_45 : decode cX12_odds 45 = .ok (.iload 5, 2) := by decide +kernel
theorem dX12_odds_47 : decode cX12_odds 47 = .ok (.aload_n 0, 1) := by decide +kernel
theorem dX12_odds_48 : decode cX12_odds 48 = .ok (.getfield 13, 3) := by decide +kernel
theorem dX12_odds_51 : decode cX12_odds 51 = .ok (.iconst 1, 1) := by decide +kernel
theorem dX12_odds_52 : decode cX12_odds 52 = .ok (.iaload, 1) := by decide +kernel
theorem dX12_odds_53 : decode cX12_odds 53 = .ok (.if_icmp .ge 35, 3) := by decide +kernel
theorem dX12_odds_56 : decode cX12_odds 56 = .ok (.iload 4, 2) := by decide +kernel
theorem dX12_odds_58 : decode cX12_odds 58 = .ok (.iload_n 3, 1) := by decide +kernel
theorem dX12_odds_59 : decode cX12_odds 59 = .ok (.iload 5, 2) := by decide +kernel
theorem dX12_odds_61 : decode cX12_odds 61 = .ok (.ishr, 1) := by decide +kernel
theorem dX12_odds_62 : decode cX12_odds 62 = .ok (.iconst 1, 1) := by decide +kernel
theorem dX12_odds_63 : decode cX12_odds 63 = .ok (.iand, 1) := by decide +kernel
theorem dX12_odds_64 : decode cX12_odds 64 = .ok (.iconst 1, 1) := by decide +kernel
theorem dX12_odds_65 : decode cX12_odds 65 = .ok (.if_icmp .ne 13, 3) := by decide +kernel
theorem dX12_odds_68 : decode cX12_odds 68 = .ok (.aload_n 0, 1) := by decide +kernel
theorem dX12_odds_69 : decode cX12_odds 69 = .ok (.getfield 44, 3) := by decide +kernel
theorem dX12_odds_72 : decode cX12_odds 72 = .ok (.iload 5, 2) := by decide +kernel
theorem dX12_odds_74 : decode cX12_odds 74 = .ok (.iaload, 1) := by decide +kernel
theorem dX12_odds_75 : decode cX12_odds 75 = .ok (.goto 4, 3) := by decide +kernel
theorem dX12_odds_78 : decode cX12_odds 78 = .ok (.iconst 0, 1) := by decide +kernel
theorem dX12_odds_79 : decode cX12_odds 79 = .ok (.iadd, 1) := by decide +kernel
theorem dX12_odds_80 : decode cX12_odds 80 = .ok (.istore 4, 2) := by decide +kernel
theorem dX12_odds_82 : decode cX12_odds 82 = .ok (.iinc 5 1, 3) := by decide +kernel
theorem dX12_odds_85 : decode cX12_odds 85 = .ok (.goto (-40), 3) := by decide +kernel
theorem dX12_odds_88 : decode cX12_odds 88 = .ok (.aload_n 0, 1) := by decide +kernel
theorem dX12_odds_89 : decode cX12_odds 89 = .ok (.getfield 44, 3) := by decide +kernel
theorem dX12_odds_92 : decode cX12_odds 92 = .ok (.iload_n 1, 1) := by decide +kernel
theorem dX12_odds_93 : decode cX12_odds 93 = .ok (.iaload, 1) := by decide +kernel
theorem dX12_odds_94 : decode cX12_odds 94 = .ok (.i2l, 1) := by decide +kernel
theorem dX12_odds_95 : decode cX12_odds 95 = .ok (.iload 4, 2) := by decide +kernel
theorem dX12_odds_97 : decode cX12_odds 97 = .ok (.i2l, 1) := by decide +kernel
theorem dX12_odds_98 : decode cX12_odds 98 = .ok (.invokestatic 482, 3) := by decide +kernel
theorem dX12_odds_101 : decode cX12_odds 101 = .ok (.l2i, 1) := by decide +kernel
theorem dX12_odds_102 : decode cX12_odds 102 = .ok (.istore 5, 2) := by decide +kernel
theorem dX12_odds_104 : decode cX12_odds 104 = .ok (.iload_n 2, 1) := by decide +kernel
theorem dX12_odds_105 : decode cX12_odds 105 = .ok (.ifCond .ne 15, 3) := by decide +kernel
theorem dX12_odds_108 : decode cX12_odds 108 = .ok (.aload_n 0, 1) := by decide +kernel
theorem dX12_odds_109 : decode cX12_odds 109 = .ok (.getfield 44, 3) := by decide +kernel
theorem dX12_odds_112 : decode cX12_odds 112 = .ok (.iload_n 1, 1) := by decide +kernel
theorem dX12_odds_113 : decode cX12_odds 113 = .ok (.iaload, 1) := by decide +kernel
theorem dX12_odds_114 : decode cX12_odds 114 = .ok (.iload 5, 2) := by decide +kernel
theorem dX12_odds_116 : decode cX12_odds 116 = .ok (.idiv, 1) := by decide +kernel
theorem dX12_odds_117 : decode cX12_odds 117 = .ok (.goto 8, 3) := by decide +kernel
theorem dX12_odds_120 : decode cX12_odds 120 = .ok (.iload 4, 2) := by decide +kernel
theorem dX12_odds_122 : decode cX12_odds 122 = .ok (.iload 5, 2) := by decide +kernel
theorem dX12_odds_124 : decode cX12_odds 124 = .ok (.idiv, 1) := by decide +kernel
theorem dX12_odds_125 : decode cX12_odds 125 = .ok (.ireturn, 1) := by decide +kernel
theorem dX12_partLine_0 : decode cX12_partLine 0 = .ok (.aload_n 0, 1) := by decide +kernel
theorem dX12_partLine_1 : decode cX12_partLine 1 = .ok (.getfield 53, 3) := by decide +kernel
theorem dX12_partLine_4 : decode cX12_partLine 4 = .ok (.iload_n 1, 1) := by decide +kernel
theorem dX12_partLine_5 : decode cX12_partLine 5 = .ok (.iconst 0, 1) := by decide +kernel
theorem dX12_partLine_6 : decode cX12_partLine 6 = .ok (.iastore, 1) := by decide +kernel
theorem dX12_partLine_7 : decode cX12_partLine 7 = .ok (.aload_n 0, 1) := by decide +kernel
theorem dX12_partLine_8 : decode cX12_partLine 8 = .ok (.getfield 217, 3) := by decide +kernel
theorem dX12_partLine_11 : decode cX12_partLine 11 = .ok (.ifCond .ne 27, 3) := by decide +kernel
theorem dX12_partLine_14 : decode cX12_partLine 14 = .ok (.aload_n 0, 1) := by decide +kernel
theorem dX12_partLine_15 : decode cX12_partLine 15 = .ok (.getfield 182, 3) := by decide +kernel
theorem dX12_partLine_18 : decode cX12_partLine 18 = .ok (.iconst 2, 1) := by decide +kernel
theorem dX12_partLine_19 : decode cX12_partLine 19 = .ok (.if_icmp .ne 19, 3) := by decide +kernel
theorem dX12_partLine_22 : decode cX12_partLine 22 = .ok (.aload_n 0, 1) := by decide +kernel
theorem dX12_partLine_23 : decode cX12_partLine 23 = .ok (.getfield 53, 3) := by decide +kernel
theorem dX12_partLine_26 : decode cX12_partLine 26 = .ok (.iload_n 1, 1) := by decide +kernel
theorem dX12_partLine_27 : decode cX12_partLine 27 = .ok (.iaload, 1) := by decide +kernel
theorem dX12_partLine_28 : decode cX12_partLine 28 = .ok (.bipush 8, 2) := by decide +kernel
theorem dX12_partLine_30 : decode cX12_partLine 30 = .ok (.if_icmp .ne 8, 3) := by decide +kernel
theorem dX12_partLine_33 : decode cX12_partLine 33 = .ok (.aload_n 0, 1) := by decide +kernel
theorem dX12_partLine_34 : decode cX12_partLine 34 = .ok (.iconst 2, 1) := by decide +kernel
theorem dX12_partLine_35 : decode cX12_partLine 35 = .ok (.invokevirtual 226, 3) := by decide +kernel
theorem dX12_partLine_38 : decode cX12_partLine 38 = .ok (.aload_n 0, 1) := by decide +kernel
theorem dX12_partLine_39 : decode cX12_partLine 39 = .ok (.iconst 0, 1) := by decide +kernel
theorem dX12_partLine_40 : decode cX12_partLine 40 = .ok (.bipush 40, 2) := by decide +kernel
theorem dX12_partLine_42 : decode cX12_partLine 42 = .ok (.invokevirtual 250, 3) := by decide +kernel
theorem dX12_partLine_45 : decode cX12_partLine 45 = .ok (.istore_n 2, 1) := by decide +kernel
theorem dX12_partLine_46 : decode cX12_partLine 46 = .ok (.aload_n 0, 1) := by decide +kernel
theorem dX12_partLine_47 : decode cX12_partLine 47 = .ok (.getfield 217, 3) := by decide +kernel
theorem dX12_partLine_50 : decode cX12_partLine 50 = .ok (.ifCond .eq 4, 3) := by decide +kernel
theorem dX12_partLine_53 : decode cX12_partLine 53 = .ok (.return_, 1) := by decide +kernel
theorem dX12_partLine_54 : decode cX12_partLine 54 = .ok (.aload_n 0, 1) := by decide +kernel
theorem dX12_partLine_55 : decode cX12_partLine 55 = .ok (.getfield 56, 3) := by decide +kernel
theorem dX12_partLine_58 : decode cX12_partLine 58 = .ok (.bipush 8, 2) := by decide +kernel
theorem dX12_partLine_60 : decode cX12_partLine 60 = .ok (.iload_n 1, 1) := by decide +kernel
theorem dX12_partLine_61 : decode cX12_partLine 61 = .ok (.imul, 1) := by decide +kernel
theorem dX12_partLine_62 : decode cX12_partLine 62 = .ok (.aload_n 0, 1) := by decide +kernel
theorem dX12_partLine_63 : decode cX12_partLine 63 = .ok (.getfield 53, 3) := by decide +kernel
theorem dX12_partLine_66 : decode cX12_partLine 66 = .ok (.iload_n 1, 1) := by decide +kernel
theorem dX12_partLine_67 : decode cX12_partLine 67 = .ok (.iaload, 1) := by decide +kernel
theorem dX12_partLine_68 : decode cX12_partLine 68 = .ok (.iadd, 1) := by decide +kernel
theorem dX12_partLine_69 : decode cX12_partLine 69 = .ok (.iload_n 2, 1) := by decide +kernel
theorem dX12_partLine_70 : decode cX12_partLine 70 = .ok (.iastore, 1) := by decide +kernel
theorem dX12_partLine_71 : decode cX12_partLine 71 = .ok (.aload_n 0, 1) := by decide +kernel
theorem dX12_partLine_72 : decode cX12_partLine 72 = .ok (.getfield 53, 3) := by decide +kernel
theorem dX12_partLine_75 : decode cX12_partLine 75 = .ok (.iload_n 1, 1) := by decide +kernel
theorem dX12_partLine_76 : decode cX12_partLine 76 = .ok (.dup2, 1) := by decide +kernel
theorem dX12_partLine_77 : decode cX12_partLine 77 = .ok (.iaload, 1) := by decide +kernel
theorem dX12_partLine_78 : decode cX12_partLine 78 = .ok (.iconst 1, 1) := by decide +kernel
theorem dX12_partLine_79 : decode cX12_partLine 79 = .ok (.iadd, 1) := by decide +kernel
theorem dX12_partLine_80 : decode cX12_partLine 80 = .ok (.iastore, 1) := by decide +kernel
theorem dX12_partLine_81 : decode cX12_partLine 81 = .ok (.aload_n 0, 1) := by decide +kernel
theorem dX12_partLine_82 : decode cX12_partLine 82 = .ok (.getfield 182, 3) := by decide +kernel
theorem dX12_partLine_85 : decode cX12_partLine 85 = .ok (.iconst 2, 1) := by decide +kernel
theorem dX12_partLine_86 : decode cX12_partLine 86 = .ok (.if_icmp .eq (-79), 3) := by decide +kernel
theorem dX12_partLine_89 : decode cX12_partLine 89 = .ok (.return_, 1) := by decide +kernel
theorem dX12_pay_0 : decode cX12_pay 0 = .ok (.aload_n 0, 1) := by decide +kernel
theorem dX12_pay_1 : decode cX12_pay 1 = .ok (.iconst 0, 1) := by decide +kernel
theorem dX12_pay_2 : decode cX12_pay 2 = .ok (.putfield 163, 3) := by decide +kernel
theorem dX12_pay_5 : decode cX12_pay 5 = .ok (.aload_n 0, 1) := by decide +kernel
theorem dX12_pay_6 : decode cX12_pay 6 = .ok (.iload_n 1, 1) := by decide +kernel
theorem dX12_pay_7 : decode cX12_pay 7 = .ok (.invokevirtual 341, 3) := by decide +kernel
theorem dX12_pay_10 : decode cX12_pay 10 = .ok (.ifCond .ne 5, 3) := by decide +kernel
theorem dX12_pay_13 : decode cX12_pay 13 = .ok (.iconst (-1), 1) := by decide +kernel
theorem dX12_pay_14 : decode cX12_pay 14 = .ok (.ireturn, 1) := by decide +kernel
theorem dX12_pay_15 : decode cX12_pay 15 = .ok (.iconst 0, 1) := by decide +kernel
theorem dX12_pay_16 : decode cX12_pay 16 = .ok (.istore_n 2, 1) := by decide +kernel
theorem dX12_pay_17 : decode cX12_pay 17 = .ok (.iconst 0, 1) := by decide +kernel
theorem dX12_pay_18 : decode cX12_pay 18 = .ok (.istore_n 3, 1) := by decide +kernel
theorem dX12_pay_19 : decode cX12_pay 19 = .ok (.iload_n 3, 1) := by decide +kernel
theorem dX12_pay_20 : decode cX12_pay 20 = .ok (.aload_n 0, 1) := by decide +kernel
theorem dX12_pay_21 : decode cX12_pay 21 = .ok (.getfield 13, 3) := by decide +kernel
theorem dX12_pay_24 : decode cX12_pay 24 = .ok (.iconst 1, 1) := by decide +kernel
theorem dX12_pay_25 : decode cX12_pay 25 = .ok (.iaload, 1) := by decide +kernel
theorem dX12_pay_26 : decode cX12_pay 26 = .ok (.if_icmp .ge 70, 3) := by decide +kernel
theorem dX12_pay_29 : decode cX12_pay 29 = .ok (.aload_n 0, 1) := by decide +kernel
theorem dX12_pay_30 : decode cX12_pay 30 = .ok (.getfield 38, 3) := by decide +kernel
theorem dX12_pay_33 : decode cX12_pay 33 = .ok (.iload_n 3, 1) := by decide +kernel
theorem dX12_pay_34 : decode cX12_pay 34 = .ok (.iaload, 1) := by decide +kernel
theorem dX12_pay_35 : decode cX12_pay 35 = .ok (.iload_n 1, 1) := by decide +kernel
theorem dX12_pay_36 : decode cX12_pay 36 = .ok (.if_icmp .eq 6, 3) := by decide +kernel
theorem dX12_pay_39 : decode cX12_pay 39 = .ok (.goto 51, 3) := by decide +kernel
theorem dX12_pay_42 : decode cX12_pay 42 = .ok (.iconst 0, 1) := by decide +kernel
theorem dX12_pay_43 : decode cX12_pay 43 = .ok (.aload_n 0, 1) := by decide +kernel
theorem dX12_pay_44 : decode cX12_pay 44 = .ok (.getfield 96, 3) := by decide +kernel
theorem dX12_pay_47 : decode cX12_pay 47 = .ok (.iload_n 1, 1) := by decide +kernel
theorem dX12_pay_48 : decode cX12_pay 48 = .ok (.iaload, 1) := by decide +kernel
theorem dX12_pay_49 : decode cX12_pay 49 = .ok (.aload_n 0, 1) := by decide +kernel
theorem dX12_pay_50 : decode cX12_pay 50 = .ok (.getfield 102, 3) := by decide +kernel
theorem dX12_pay_53 : decode cX12_pay 53 = .ok (.iload_n 3, 1) := by decide +kernel
theorem dX12_pay_54 : decode cX12_pay 54 = .ok (.iaload, 1) := by decide +kernel
theorem dX12_pay_55 : decode cX12_pay 55 = .ok (.invokestatic 403, 3) := by decide +kernel
theorem dX12_pay_58 : decode cX12_pay 58 = .ok (.invokestatic 385, 3) := by decide +kernel
theorem dX12_pay_61 : decode cX12_pay 61 = .ok (.istore 4, 2) := by decide +kernel
theorem dX12_pay_63 : decode cX12_pay 63 = .ok (.aload_n 0, 1) := by decide +kernel
theorem dX12_pay_64 : decode cX12_pay 64 = .ok (.getfield 96, 3) := by decide +kernel
theorem dX12_pay_67 : decode cX12_pay 67 = .ok (.iload_n 1, 1) := by decide +kernel
theorem dX12_pay_68 : decode cX12_pay 68 = .ok (.dup2, 1) := by decide +kernel
theorem dX12_pay_69 : decode cX12_pay 69 = .ok (.iaload, 1) := by decide +kernel
theorem dX12_pay_70 : decode cX12_pay 70 = .ok (.iload 4, 2) := by decide +kernel
theorem dX12_pay_72 : decode cX12_pay 72 = .ok (.isub, 1) := by decide +kernel
theorem dX12_pay_73 : decode cX12_pay 73 = .ok (.iastore, 1) := by decide +kernel
theorem dX12_pay_74 : decode cX12_pay 74 = .ok (.aload_n 0, 1) := by decide +kernel
theorem dX12_pay_75 : decode cX12_pay 75 = .ok (.getfield 102, 3) := by decide +kernel
theorem dX12_pay_78 : decode cX12_pay 78 = .ok (.iload_n 3, 1) := by decide +kernel
theorem dX12_pay_79 : decode cX12_pay 79 = .ok (.dup2, 1) := by decide +kernel
theorem dX12_pay_80 : decode cX12_pay 80 = .ok (.iaload, 1) := by decide +kernel
theorem dX12_pay_81 : decode cX12_pay 81 = .ok (.iload 4, 2) := by decide +kernel
theorem dX12_pay_83 : decode cX12_pay 83 = .ok (.isub, 1) := by decide +kernel
theorem dX12_pay_84 : decode cX12_pay 84 = .ok (.iastore, 1) := by decide +kernel
theorem dX12_pay_85 : decode cX12_pay 85 = .ok (.iload_n 2, 1) := by decide +kernel
theorem dX12_pay_86 : decode cX12_pay 86 = .ok (.iload 4, 2) := by decide +kernel
theorem dX12_pay_88 : decode cX12_pay 88 = .ok (.iadd, 1) := by decide +kernel
theorem dX12_pay_89 : decode cX12_pay 89 = .ok (.istore_n 2, 1) := by decide +kernel
theorem dX12_pay_90 : decode cX12_pay 90 = .ok (.iinc 3 1, 3) := by decide +kernel
theorem dX12_pay_93 : decode cX12_pay 93 = .ok (.goto (-74), 3) := by decide +kernel
theorem dX12_pay_96 : decode cX12_pay 96 = .ok (.aload_n 0, 1) := by decide +kernel
theorem dX12_pay_97 : decode cX12_pay 97 = .ok (.getfield 90, 3) := by decide +kernel
theorem dX12_pay_100 : decode cX12_pay 100 = .ok (.iconst 0, 1) := by decide +kernel
theorem dX12_pay_101 : decode cX12_pay 101 = .ok (.dup2, 1) := by decide +kernel
theorem dX12_pay_102 : decode cX12_pay 102 = .ok (.iaload, 1) := by decide +kernel
theorem dX12_pay_103 : decode cX12_pay 103 = .ok (.iload_n 2, 1) := by decide +kernel
theorem dX12_pay_104 : decode cX12_pay 104 = .ok (.iadd, 1) := by decide +kernel
theorem dX12_pay_105 : decode cX12_pay 105 = .ok (.iastore, 1) := by decide +kernel
theorem dX12_pay_106 : decode cX12_pay 106 = .ok (.iload_n 2, 1) := by decide +kernel
theorem dX12_pay_107 : decode cX12_pay 107 = .ok (.ireturn, 1) := by decide +kernel
theorem dX12_pitch_0 : decode cX12_pitch 0 = .ok (.aload_n 0, 1) := by decide +kernel
theorem dX12_pitch_1 : decode cX12_pitch 1 = .ok (.iconst 0, 1) := by decide +kernel
theorem dX12_pitch_2 : decode cX12_pitch 2 = .ok (.putfield 163, 3) := by decide +kernel
theorem dX12_pitch_5 : decode cX12_pitch 5 = .ok (.aload_n 0, 1) := by decide +kernel
theorem dX12_pitch_6 : decode cX12_pitch 6 = .ok (.iload_n 1, 1) := by decide +kernel
theorem dX12_pitch_7 : decode cX12_pitch 7 = .ok (.iload_n 2, 1) := by decide +kernel
theorem dX12_pitch_8 : decode cX12_pitch 8 = .ok (.invokevirtual 344, 3) := by decide +kernel
theorem dX12_pitch_11 : decode cX12_pitch 11 = .ok (.ifCond .eq 39, 3) := by decide +kernel
theorem dX12_pitch_14 : decode cX12_pitch 14 = .ok (.iload_n 3, 1) := by decide +kernel
theorem dX12_pitch_15 : decode cX12_pitch 15 = .ok (.ifCond .lt 35, 3) := by decide +kernel
theorem dX12_pitch_18 : decode cX12_pitch 18 = .ok (.iload_n 3, 1) := by decide +kernel
theorem dX12_pitch_19 : decode cX12_pitch 19 = .ok (.aload_n 0, 1) := by decide +kernel
theorem dX12_pitch_20 : decode cX12_pitch 20 = .ok (.getfield 53, 3) := by decide +kernel
theorem dX12_pitch_23 : decode cX12_pitch 23 = .ok (.iconst 3, 1) := by decide +kernel
theorem dX12_pitch_24 : decode cX12_pitch 24 = .ok (.iload_n 1, 1) := by decide +kernel
theorem dX12_pitch_25 : decode cX12_pitch 25 = .ok (.imul, 1) := by decide +kernel
theorem dX12_pitch_26 : decode cX12_pitch 26 = .ok (.iload_n 2, 1) := by decide +kernel
theorem dX12_pitch_27 : decode cX12_pitch 27 = .ok (.iadd, 1) := by decide +kernel
theorem dX12_pitch_28 : decode cX12_pitch 28 = .ok (.iaload, 1) := by decide +kernel
theorem dX12_pitch_29 : decode cX12_pitch 29 = .ok (.if_icmp .ge 21, 3) := by decide +kernel
theorem dX12_pitch_32 : decode cX12_pitch 32 = .ok (.aload_n 0, 1) := by decide +kernel
theorem dX12_pitch_33 : decode cX12_pitch 33 = .ok (.getfield 56, 3) := by decide +kernel
theorem dX12_pitch_36 : decode cX12_pitch 36 = .ok (.bipush 8, 2) := by decide +kernel
theorem dX12_pitch_38 : decode cX12_pitch 38 = .ok (.iconst 3, 1) := by decide +kernel
theorem dX12_pitch_39 : decode cX12_pitch 39 = .ok (.iload_n 1, 1) := by decide +kernel
theorem dX12_pitch_40 : decode cX12_pitch 40 = .ok (.imul, 1) := by decide +kernel
theorem dX12_pitch_41 : decode cX12_pitch 41 = .ok (.iload_n 2, 1) := by decide +kernel
theorem dX12_pitch_42 : decode cX12_pitch 42 = .ok (.iadd, 1) := by decide +kernel
theorem dX12_pitch_43 : decode cX12_pitch 43 = .ok (.imul, 1) := by decide +kernel
theorem dX12_pitch_44 : decode cX12_pitch 44 = .ok (.iload_n 3, 1) := by decide +kernel
theorem dX12_pitch_45 : decode cX12_pitch 45 = .ok (.iadd, 1) := by decide +kernel
theorem dX12_pitch_46 : decode cX12_pitch 46 = .ok (.iaload, 1) := by decide +kernel
theorem dX12_pitch_47 : decode cX12_pitch 47 = .ok (.goto 4, 3) := by decide +kernel
theorem dX12_pitch_50 : decode cX12_pitch 50 = .ok (.iconst (-1), 1) := by decide +kernel
theorem dX12_pitch_51 : decode cX12_pitch 51 = .ok (.ireturn, 1) := by decide +kernel
theorem dX12_primary_0 : decode cX12_primary 0 = .ok (.aload_n 0, 1) := by decide +kernel
theorem dX12_primary_1 : decode cX12_primary 1 = .ok (.getfield 217, 3) := by decide +kernel
theorem dX12_primary_4 : decode cX12_primary 4 = .ok (.ifCond .eq 4, 3) := by decide +kernel
theorem dX12_primary_7 : decode cX12_primary 7 = .ok (.return_, 1) := by decide +kernel
theorem dX12_primary_8 : decode cX12_primary 8 = .ok (.aload_n 0, 1) := by decide +kernel
theorem dX12_primary_9 : decode cX12_primary 9 = .ok (.bipush 40, 2) := by decide +kernel
theorem dX12_primary_11 : decode cX12_primary 11 = .ok (.invokevirtual 270, 3) := by decide +kernel
theorem dX12_primary_14 : decode cX12_primary 14 = .ok (.ifCond .eq 87, 3) := by decide +kernel
theorem dX12_primary_17 : decode cX12_primary 17 = .ok (.aload_n 0, 1) := by decide +kernel
theorem dX12_primary_18 : decode cX12_primary 18 = .ok (.getfield 312, 3) := by decide +kernel
theorem dX12_primary_21 : decode cX12_primary 21 = .ok (.bipush 8, 2) := by decide +kernel
theorem dX12_primary_23 : decode cX12_primary 23 = .ok (.if_icmp .ne 8, 3) := by decide +kernel
theorem dX12_primary_26 : decode cX12_primary 26 = .ok (.aload_n 0, 1) := by decide +kernel
theorem dX12_primary_27 : decode cX12_primary 27 = .ok (.iconst 2, 1) := by decide +kernel
theorem dX12_primary_28 : decode cX12_primary 28 = .ok (.invokevirtual 226, 3) := by decide +kernel
theorem dX12_primary_31 : decode cX12_primary 31 = .ok (.aload_n 0, 1) := by decide +kernel
theorem dX12_primary_32 : decode cX12_primary 32 = .ok (.getfield 217, 3) := by decide +kernel
theorem dX12_primary_35 : decode cX12_primary 35 = .ok (.ifCond .eq 4, 3) := by decide +kernel
theorem dX12_primary_38 : decode cX12_primary 38 = .ok (.return_, 1) := by decide +kernel
theorem dX12_primary_39 : decode cX12_primary 39 = .ok (.aload_n 0, 1) := by decide +kernel
theorem dX12_primary_40 : decode cX12_primary 40 = .ok (.dup, 1) := by decide +kernel
theorem dX12_primary_41 : decode cX12_primary 41 = .ok (.getfield 312, 3) := by decide +kernel
theorem dX12_primary_44 : decode cX12_primary 44 = .ok (.iconst 1, 1) := by decide +kernel
theorem dX12_primary_45 : decode cX12_primary 45 = .ok (.iadd, 1) := by decide +kernel
theorem dX12_primary_46 : decode cX12_primary 46 = .ok (.putfield 312, 3) := by decide +kernel
theorem dX12_primary_49 : decode cX12_primary 49 = .ok (.aload_n 0, 1) := by decide +kernel
theorem dX12_primary_50 : decode cX12_primary 50 = .ok (.invokevirtual 223, 3) := by decide +kernel
theorem dX12_primary_53 : decode cX12_primary 53 = .ok (.aload_n 0, 1) := by decide +kernel
theorem dX12_primary_54 : decode cX12_primary 54 = .ok (.invokevirtual 276, 3) := by decide +kernel
theorem dX12_primary_57 : decode cX12_primary 57 = .ok (.aload_n 0, 1) := by decide +kernel
theorem dX12_primary_58 : decode cX12_primary 58 = .ok (.getfield 217, 3) := by decide +kernel
theorem dX12_primary_61 : decode cX12_primary 61 = .ok (.ifCond .ne 17, 3) := by decide +kernel
theorem dX12_primary_64 : decode cX12_primary 64 = .ok (.aload_n 0, 1) := by decide +kernel
theorem dX12_primary_65 : decode cX12_primary 65 = .ok (.bipush 41, 2) := by decide +kernel
theorem dX12_primary_67 : decode cX12_primary 67 = .ok (.invokevirtual 270, 3) := by decide +kernel
theorem dX12_primary_70 : decode cX12_primary 70 = .ok (.ifCond .ne 8, 3) := by decide +kernel
theorem dX12_primary_73 : decode cX12_primary 73 = .ok (.aload_n 0, 1) := by decide +kernel
theorem dX12_primary_74 : decode cX12_primary 74 = .ok (.iconst 1, 1) := by decide +kernel
theorem dX12_primary_75 : decode cX12_primary 75 = .ok (.invokevirtual 226, 3) := by decide +kernel
theorem dX12_primary_78 : decode cX12_primary 78 = .ok (.aload_n 0, 1) := by decide +kernel
theorem dX12_primary_79 : decode cX12_primary 79 = .ok (.getfield 217, 3) := by decide +kernel
theorem dX12_primary_82 : decode cX12_primary 82 = .ok (.ifCond .eq 4, 3) := by decide +kernel
theorem dX12_primary_85 : decode cX12_primary 85 = .ok (.return_, 1) := by decide +kernel
theorem dX12_primary_86 : decode cX12_primary 86 = .ok (.aload_n 0, 1) := by decide +kernel
theorem dX12_primary_87 : decode cX12_primary 87 = .ok (.dup, 1) := by decide +kernel
theorem dX12_primary_88 : decode cX12_primary 88 = .ok (.getfield 312, 3) := by decide +kernel
theorem dX12_primary_91 : decode cX12_primary 91 = .ok (.iconst 1, 1) := by decide +kernel
theorem dX12_primary_92 : decode cX12_primary 92 = .ok (.isub, 1) := by decide +kernel
theorem dX12_primary_93 : decode cX12_primary 93 = .ok (.putfield 312, 3) := by decide +kernel
theorem dX12_primary_96 : decode cX12_primary 96 = .ok (.aload_n 0, 1) := by decide +kernel
theorem dX12_primary_97 : decode cX12_primary 97 = .ok (.invokevirtual 223, 3) := by decide +kernel
theorem dX12_primary_100 : decode cX12_primary 100 = .ok (.return_, 1) := by decide +kernel
theorem dX12_primary_101 : decode cX12_primary 101 = .ok (.aload_n 0, 1) := by decide +kernel
theorem dX12_primary_102 : decode cX12_primary 102 = .ok (.getfield 182, 3) := by decide +kernel
theorem dX12_primary_105 : decode cX12_primary 105 = .ok (.iconst 2, 1) := by decide +kernel
theorem dX12_primary_106 : decode cX12_primary 106 = .ok (.if_icmp .ne 7, 3) := by decide +kernel
theorem dX12_primary_109 : decode cX12_primary 109 = .ok (.iconst 1, 1) := by decide +kernel
theorem dX12_primary_110 : decode cX12_primary 110 = .ok (.goto 4, 3) := by decide +kernel
theorem dX12_primary_113 : decode cX12_primary 113 = .ok (.iconst 0, 1) := by decide +kernel
theorem dX12_primary_114 : decode cX12_primary 114 = .ok (.istore_n 1, 1) := by decide +kernel
theorem dX12_primary_115 : decode cX12_primary 115 = .ok (.iload_n 1, 1) := by decide +kernel
theorem dX12_primary_116 : decode cX12_primary 116 = .ok (.ifCond .eq 21, 3) := by decide +kernel
theorem dX12_primary_119 : decode cX12_primary 119 = .ok (.aload_n 0, 1) := by decide +kernel
theorem dX12_primary_120 : decode cX12_primary 120 = .ok (.getfield 192, 3) := by decide +kernel
theorem dX12_primary_123 : decode cX12_primary 123 = .ok (.sipush 9999, 3) := by decide +kernel
theorem dX12_primary_126 : decode cX12_primary 126 = .ok (.if_icmp .le 11, 3) := by decide +kernel
theorem dX12_primary_129 : decode cX12_primary 129 = .ok (.aload_n 0, 1) := by decide +kernel
theorem dX12_primary_130 : decode cX12_primary 130 = .ok (.iconst 2, 1) := by decide +kernel
theorem dX12_primary_131 : decode cX12_primary 131 = .ok (.invokevirtual 226, 3) := by decide +kernel
theorem dX12_primary_134 : decode cX12_primary 134 = .ok (.goto 28, 3) := by decide +kernel
theorem dX12_primary_137 : decode cX12_primary 137 = .ok (.iload_n 1, 1) := by decide +kernel
theorem dX12_primary_138 : decode cX12_primary 138 = .ok (.ifCond .ne 24, 3) := by decide +kernel
theorem dX12_primary_141 : decode cX12_primary 141 = .ok (.aload_n 0, 1) := by decide +kernel
theorem dX12_primary_142 : decode cX12_primary 142 = .ok (.getfield 182, 3) := by decide +kernel
theorem dX12_primary_145 : decode cX12_primary 145 = .ok (.ifCond .ne 12, 3) := by decide +kernel
theorem dX12_primary_148 : decode cX12_primary 148 = .ok (.aload_n 0, 1) := by decide +kernel
theorem dX12_primary_149 : decode cX12_primary 149 = .ok (.getfield 192, 3) := by decide +kernel
theorem dX12_primary_152 : decode cX12_primary 152 = .ok (.bipush 16, 2) := by decide +kernel
theorem dX12_primary_154 : decode cX12_primary 154 = .ok (.if_icmp .ge 8, 3) := by decide +kernel
theorem dX12_primary_157 : decode cX12_primary 157 = .ok (.aload_n 0, 1) := by decide +kernel
theorem dX12_primary_158 : decode cX12_primary 158 = .ok (.iconst 1, 1) := by decide +kernel
theorem dX12_primary_159 : decode cX12_primary 159 = .ok (.invokevirtual 226, 3) := by decide +kernel
theorem dX12_primary_162 : decode cX12_primary 162 = .ok (.aload_n 0, 1) := by decide +kernel
theorem dX12_primary_163 : decode cX12_primary 163 = .ok (.invokevirtual 294, 3) := by decide +kernel
theorem dX12_primary_166 : decode cX12_primary 166 = .ok (.aload_n 0, 1) := by decide +kernel
theorem dX12_primary_167 : decode cX12_primary 167 = .ok (.iload_n 1, 1) := by decide +kernel
theorem dX12_primary_168 : decode cX12_primary 168 = .ok (.ifCond .eq 7, 3) := by decide +kernel
theorem dX12_primary_171 : decode cX12_primary 171 = .ok (.iconst 0, 1) := by decide +kernel
theorem dX12_primary_172 : decode cX12_primary 172 = .ok (.goto 4, 3) := by decide +kernel
theorem dX12_primary_175 : decode cX12_primary 175 = .ok (.iconst 1, 1) := by decide +kernel
theorem dX12_primary_176 : decode cX12_primary 176 = .ok (.iload_n 1, 1) := by decide +kernel
theorem dX12_primary_177 : decode cX12_primary 177 = .ok (.ifCond .eq 10, 3) := by decide +kernel
theorem dX12_primary_180 : decode cX12_primary 180 = .ok (.aload_n 0, 1) := by decide +kernel
theorem dX12_primary_181 : decode cX12_primary 181 = .ok (.getfield 192, 3) := by decide +kernel
theorem dX12_primary_184 : decode cX12_primary 184 = .ok (.goto 10, 3) := by decide +kernel
theorem dX12_primary_187 : decode cX12_primary 187 = .ok (.aload_n 0, 1) := by decide +kernel
theorem dX12_primary_188 : decode cX12_primary 188 = .ok (.getfield 192, 3) := by decide +kernel
theorem dX12_primary_191 : decode cX12_primary 191 = .ok (.bipush 16, 2) := by decide +kernel
theorem dX12_primary_193 : decode cX12_primary 193 = .ok (.isub, 1) := by decide +kernel
theorem dX12_primary_194 : decode cX12_primary 194 = .ok (.invokevirtual 297, 3) := by decide +kernel
theorem dX12_primary_197 : decode cX12_primary 197 = .ok (.aload_n 0, 1) := by decide +kernel
theorem dX12_primary_198 : decode cX12_primary 198 = .ok (.invokevirtual 237, 3) := by decide +kernel
theorem dX12_primary_201 : decode cX12_primary 201 = .ok (.return_, 1) := by decide +kernel
theorem dX12_product_0 : decode cX12_product 0 = .ok (.aload_n 0, 1) := by decide +kernel
theorem dX12_product_1 : decode cX12_product 1 = .ok (.invokevirtual 309, 3) := by decide +kernel
theorem dX12_product_4 : decode cX12_product 4 = .ok (.aload_n 0, 1) := by decide +kernel
theorem dX12_product_5 : decode cX12_product 5 = .ok (.bipush 42, 2) := by decide +kernel
theorem dX12_product_7 : decode cX12_product 7 = .ok (.invokevirtual 270, 3) := by decide +kernel
theorem dX12_product_10 : decode cX12_product 10 = .ok (.ifCond .ne 12, 3) := by decide +kernel
theorem dX12_product_13 : decode cX12_product 13 = .ok (.aload_n 0, 1) := by decide +kernel
theorem dX12_product_14 : decode cX12_product 14 = .ok (.bipush 47, 2) := by decide +kernel
theorem dX12_product_16 : decode cX12_product 16 = .ok (.invokevirtual 270, 3) := by decide +kernel
theorem dX12_product_19 : decode cX12_product 19 = .ok (.ifCond .eq 29, 3) := by decide +kernel
theorem dX12_product_22 : decode cX12_product 22 = .ok (.aload_n 0, 1) := by decide +kernel
theorem dX12_product_23 : decode cX12_product 23 = .ok (.getfield 192, 3) := by decide +kernel
theorem dX12_product_26 : decode cX12_product 26 = .ok (.istore_n 1, 1) := by decide +kernel
theorem dX12_product_27 : decode cX12_product 27 = .ok (.aload_n 0, 1) := by decide +kernel
theorem dX12_product_28 : decode cX12_product 28 = .ok (.invokevirtual 294, 3) := by decide +kernel
theorem dX12_product_31 : decode cX12_product 31 = .ok (.aload_n 0, 1) := by decide +kernel
theorem dX12_product_32 : decode cX12_product 32 = .ok (.invokevirtual 237, 3) := by decide +kernel
theorem dX12_product_35 : decode cX12_product 35 = .ok (.aload_n 0, 1) := by decide +kernel
theorem dX12_product_36 : decode cX12_product 36 = .ok (.invokevirtual 309, 3) := by decide +kernel
theorem dX12_product_39 : decode cX12_product 39 = .ok (.aload_n 0, 1) := by decide +kernel
theorem dX12_product_40 : decode cX12_product 40 = .ok (.iconst 2, 1) := by decide +kernel
theorem dX12_product_41 : decode cX12_product 41 = .ok (.iload_n 1, 1) := by decide +kernel
theorem dX12_product_42 : decode cX12_product 42 = .ok (.invokevirtual 297, 3) := by decide +kernel
theorem dX12_product_45 : decode cX12_product 45 = .ok (.goto (-41), 3) := by decide +kernel
theorem dX12_product_48 : decode cX12_product 48 = .ok (.return_, 1) := by decide +kernel
theorem dX12_puts_0 : decode cX12_puts 0 = .ok (.aload_n 0, 1) := by decide +kernel
theorem dX12_puts_1 : decode cX12_puts 1 = .ok (.getfield 217, 3) := by decide +kernel
theorem dX12_puts_4 : decode cX12_puts 4 = .ok (.ifCond .eq 4, 3) := by decide +kernel
theorem dX12_puts_7 : decode cX12_puts 7 = .ok (.return_, 1) := by decide +kernel
theorem dX12_puts_8 : decode cX12_puts 8 = .ok (.aload_n 0, 1) := by decide +kernel
theorem dX12_puts_9 : decode cX12_puts 9 = .ok (.getfield 71, 3) := by decide +kernel
theorem dX12_puts_12 : decode cX12_puts 12 = .ok (.bipush 64, 2) := by decide +kernel
theorem dX12_puts_14 : decode cX12_puts 14 = .ok (.aload_n 0, 1) := by decide +kernel
theorem dX12_puts_15 : decode cX12_puts 15 = .ok (.bipush 6, 2) := by decide +kernel
theorem dX12_puts_17 : decode cX12_puts 17 = .ok (.invokevirtual 233, 3) := by decide +kernel
theorem dX12_puts_20 : decode cX12_puts 20 = .ok (.iadd, 1) := by decide +kernel
theorem dX12_puts_21 : decode cX12_puts 21 = .ok (.iload_n 1, 1) := by decide +kernel
theorem dX12_puts_22 : decode cX12_puts 22 = .ok (.iastore, 1) := by decide +kernel
theorem dX12_puts_23 : decode cX12_puts 23 = .ok (.aload_n 0, 1) := by decide +kernel
theorem dX12_puts_24 : decode cX12_puts 24 = .ok (.getfield 74, 3) := by decide +kernel
theorem dX12_puts_27 : decode cX12_puts 27 = .ok (.bipush 64, 2) := by decide +kernel
theorem dX12_puts_29 : decode cX12_puts 29 = .ok (.aload_n 0, 1) := by decide +kernel
theorem dX12_puts_30 : decode cX12_puts 30 = .ok (.bipush 6, 2) := by decide +kernel
theorem dX12_puts_32 : decode cX12_puts 32 = .ok (.invokevirtual 233, 3) := by decide +kernel
theorem dX12_puts_35 : decode cX12_puts 35 = .ok (.iadd, 1) := by decide +kernel
theorem dX12_puts_36 : decode cX12_puts 36 = .ok (.iload_n 2, 1) := by decide +kernel
theorem dX12_puts_37 : decode cX12_puts 37 = .ok (.iastore, 1) := by decide +kernel
theorem dX12_puts_38 : decode cX12_puts 38 = .ok (.aload_n 0, 1) := by decide +kernel
theorem dX12_puts_39 : decode cX12_puts 39 = .ok (.bipush 6, 2) := by decide +kernel
theorem dX12_puts_41 : decode cX12_puts 41 = .ok (.aload_n 0, 1) := by decide +kernel
theorem dX12_puts_42 : decode cX12_puts 42 = .ok (.bipush 6, 2) := by decide +kernel
theorem dX12_puts_44 : decode cX12_puts 44 = .ok (.invokevirtual 233, 3) := by decide +kernel
theorem dX12_puts_47 : decode cX12_puts 47 = .ok (.iconst 1, 1) := by decide +kernel
theorem dX12_puts_48 : decode cX12_puts 48 = .ok (.iadd, 1) := by decide +kernel
theorem dX12_puts_49 : decode cX12_puts 49 = .ok (.invokevirtual 254, 3) := by decide +kernel
theorem dX12_puts_52 : decode cX12_puts 52 = .ok (.return_, 1) := by decide +kernel
theorem dX12_reaches_0 : decode cX12_reaches 0 = .ok (.iload_n 2, 1) := by decide +kernel
theorem dX12_reaches_1 : decode cX12_reaches 1 = .ok (.ifCond .le 27, 3) := by decide +kernel
theorem dX12_reaches_4 : decode cX12_reaches 4 = .ok (.iload_n 2, 1) := by decide +kernel
theorem dX12_reaches_5 : decode cX12_reaches 5 = .ok (.aload_n 0, 1) := by decide +kernel
theorem dX12_reaches_6 : decode cX12_reaches 6 = .ok (.getfield 28, 3) := by decide +kernel
theorem dX12_reaches_9 : decode cX12_reaches 9 = .ok (.iload_n 1, 1) := by decide +kernel
theorem dX12_reaches_10 : decode cX12_reaches 10 = .ok (.iaload, 1) := by decide +kernel
theorem dX12_reaches_11 : decode cX12_reaches 11 = .ok (.if_icmp .lt 17, 3) := by decide +kernel
theorem dX12_reaches_14 : decode cX12_reaches 14 = .ok (.iload_n 2, 1) := by decide +kernel
theorem dX12_reaches_15 : decode cX12_reaches 15 = .ok (.aload_n 0, 1) := by decide +kernel
theorem dX12_reaches_16 : decode cX12_reaches 16 = .ok (.getfield 31, 3) := by decide +kernel
theorem dX12_reaches_19 : decode cX12_reaches 19 = .ok (.iload_n 1, 1) := by decide +kernel
theorem dX12_reaches_20 : decode cX12_reaches 20 = .ok (.iaload, 1) := by decide +kernel
theorem dX12_reaches_21 : decode cX12_reaches 21 = .ok (.if_icmp .gt 7, 3) := by decide +kernel
theorem dX12_reaches_24 : decode cX12_reaches 24 = .ok (.iconst 1, 1) := by decide +kernel
theorem dX12_reaches_25 : decode cX12_reaches 25 = .ok (.goto 4, 3) := by decide +kernel
theorem dX12_reaches_28 : decode cX12_reaches 28 = .ok (.iconst 0, 1) := by decide +kernel
theorem dX12_reaches_29 : decode cX12_reaches 29 = .ok (.ireturn, 1) := by decide +kernel
theorem dX12_reads_0 : decode cX12_reads 0 = .ok (.aload_n 0, 1) := by decide +kernel
theorem dX12_reads_1 : decode cX12_reads 1 = .ok (.getfield 13, 3) := by decide +kernel
theorem dX12_reads_4 : decode cX12_reads 4 = .ok (.bipush 7, 2) := by decide +kernel
theorem dX12_reads_6 : decode cX12_reads 6 = .ok (.iload_n 1, 1) := by decide +kernel
theorem dX12_reads_7 : decode cX12_reads 7 = .ok (.iadd, 1) := by decide +kernel
theorem dX12_reads_8 : decode cX12_reads 8 = .ok (.iload_n 2, 1) := by decide +kernel
theorem dX12_reads_9 : decode cX12_reads 9 = .ok (.iastore, 1) := by decide +kernel
theorem dX12_reads_10 : decode cX12_reads 10 = .ok (.return_, 1) := by decide +kernel
theorem dX12_redeem_0 : decode cX12_redeem 0 = .ok (.aload_n 0, 1) := by decide +kernel
theorem dX12_redeem_1 : decode cX12_redeem 1 = .ok (.iconst 0, 1) := by decide +kernel
theorem dX12_redeem_2 : decode cX12_redeem 2 = .ok (.putfield 163, 3) := by decide +kernel
theorem dX12_redeem_5 : decode cX12_redeem 5 = .ok (.aload_n 0, 1) := by decide +kernel
theorem dX12_redeem_6 : decode cX12_redeem 6 = .ok (.iload_n 1, 1) := by decide +kernel
theorem dX12_redeem_7 : decode cX12_redeem 7 = .ok (.iload_n 2, 1) := by decide +kernel
theorem dX12_redeem_8 : decode cX12_redeem 8 = .ok (.invokevirtual 344, 3) := by decide +kernel
theorem dX12_redeem_11 : decode cX12_redeem 11 = .ok (.ifCond .eq 42, 3) := by decide +kernel
theorem dX12_redeem_14 : decode cX12_redeem 14 = .ok (.aload_n 0, 1) := by decide +kernel
theorem dX12_redeem_15 : decode cX12_redeem 15 = .ok (.iload_n 3, 1) := by decide +kernel
theorem dX12_redeem_16 : decode cX12_redeem 16 = .ok (.invokevirtual 335, 3) := by decide +kernel
theorem dX12_redeem_19 : decode cX12_redeem 19 = .ok (.ifCond .eq 34, 3) := by decide +kernel
theorem dX12_redeem_22 : decode cX12_redeem 22 = .ok (.aload_n 0, 1) := by decide +kernel
theorem dX12_redeem_23 : decode cX12_redeem 23 = .ok (.iload_n 3, 1) := by decide +kernel
theorem dX12_redeem_24 : decode cX12_redeem 24 = .ok (.invokevirtual 338, 3) := by decide +kernel
theorem dX12_redeem_27 : decode cX12_redeem 27 = .ok (.ifCond .ne 26, 3) := by decide +kernel
theorem dX12_redeem_30 : decode cX12_redeem 30 = .ok (.aload_n 0, 1) := by decide +kernel
theorem dX12_redeem_31 : decode cX12_redeem 31 = .ok (.getfield 105, 3) := by decide +kernel
theorem dX12_redeem_34 : decode cX12_redeem 34 = .ok (.iconst 3, 1) := by decide +kernel
theorem dX12_redeem_35 : decode cX12_redeem 35 = .ok (.iload_n 1, 1) := by decide +kernel
theorem dX12_redeem_36 : decode cX12_redeem 36 = .ok (.imul, 1) := by decide +kernel
theorem dX12_redeem_37 : decode cX12_redeem 37 = .ok (.iload_n 2, 1) := by decide +kernel
theorem dX12_redeem_38 : decode cX12_redeem 38 = .ok (.iadd, 1) := by decide +kernel
theorem dX12_redeem_39 : decode cX12_redeem 39 = .ok (.iaload, 1) := by decide +kernel
theorem dX12_redeem_40 : decode cX12_redeem 40 = .ok (.iconst (-1), 1) := by decide +kernel
theorem dX12_redeem_41 : decode cX12_redeem 41 = .ok (.if_icmp .ne 12, 3) := by decide +kernel
theorem dX12_redeem_44 : decode cX12_redeem 44 = .ok (.aload_n 0, 1) := by decide +kernel
theorem dX12_redeem_45 : decode cX12_redeem 45 = .ok (.iload_n 1, 1) := by decide +kernel
theorem dX12_redeem_46 : decode cX12_redeem 46 = .ok (.iload_n 3, 1) := by decide +kernel
theorem dX12_redeem_47 : decode cX12_redeem 47 = .ok (.invokevirtual 414, 3) := by decide +kernel
theorem dX12_redeem_50 : decode cX12_redeem 50 = .ok (.ifCond .eq 5, 3) := by decide +kernel
theorem dX12_redeem_53 : decode cX12_redeem 53 = .ok (.iconst (-1), 1) := by decide +kernel
theorem dX12_redeem_54 : decode cX12_redeem 54 = .ok (.ireturn, 1) := by decide +kernel
theorem dX12_redeem_55 : decode cX12_redeem 55 = .ok (.iconst 3, 1) := by decide +kernel
theorem dX12_redeem_56 : decode cX12_redeem 56 = .ok (.iload_n 1, 1) := by decide +kernel
theorem dX12_redeem_57 : decode cX12_redeem 57 = .ok (.imul, 1) := by decide +kernel
theorem dX12_redeem_58 : decode cX12_redeem 58 = .ok (.iload_n 2, 1) := by decide +kernel
theorem dX12_redeem_59 : decode cX12_redeem 59 = .ok (.iadd, 1) := by decide +kernel
theorem dX12_redeem_60 : decode cX12_redeem 60 = .ok (.istore 4, 2) := by decide +kernel
theorem dX12_redeem_62 : decode cX12_redeem 62 = .ok (.aload_n 0, 1) := by decide +kernel
theorem dX12_redeem_63 : decode cX12_redeem 63 = .ok (.iload 4, 2) := by decide +kernel
theorem dX12_redeem_65 : decode cX12_redeem 65 = .ok (.iload_n 3, 1) := by decide +kernel
theorem dX12_redeem_66 : decode cX12_redeem 66 = .ok (.invokevirtual 405, 3) := by decide +kernel
theorem dX12_redeem_69 : decode cX12_redeem 69 = .ok (.istore 5, 2) := by decide +kernel
theorem dX12_redeem_71 : decode cX12_redeem 71 = .ok (.iload 5, 2) := by decide +kernel
theorem dX12_redeem_73 : decode cX12_redeem 73 = .ok (.aload_n 0, 1) := by decide +kernel
theorem dX12_redeem_74 : decode cX12_redeem 74 = .ok (.getfield 84, 3) := by decide +kernel
theorem dX12_redeem_77 : decode cX12_redeem 77 = .ok (.iconst 0, 1) := by decide +kernel
theorem dX12_redeem_78 : decode cX12_redeem 78 = .ok (.iaload, 1) := by decide +kernel
theorem dX12_redeem_79 : decode cX12_redeem 79 = .ok (.if_icmp .le 6, 3) := by decide +kernel
theorem dX12_redeem_82 : decode cX12_redeem 82 = .ok (.bipush (-2), 2) := by decide +kernel
theorem dX12_redeem_84 : decode cX12_redeem 84 = .ok (.ireturn, 1) := by decide +kernel
theorem dX12_redeem_85 : decode cX12_redeem 85 = .ok (.aload_n 0, 1) := by decide +kernel
theorem dX12_redeem_86 : decode cX12_redeem 86 = .ok (.getfield 84, 3) := by decide +kernel
theorem dX12_redeem_89 : decode cX12_redeem 89 = .ok (.iconst 0, 1) := by decide +kernel
theorem dX12_redeem_90 : decode cX12_redeem 90 = .ok (.dup2, 1) := by decide +kernel
theorem dX12_redeem_91 : decode cX12_redeem 91 = .ok (.iaload, 1) := by decide +kernel
theorem dX12_redeem_92 : decode cX12_redeem 92 = .ok (.iload 5, 2) := by decide +kernel
theorem dX12_redeem_94 : decode cX12_redeem 94 = .ok (.isub, 1) := by decide +kernel
theorem dX12_redeem_95 : decode cX12_redeem 95 = .ok (.iastore, 1) := by decide +kernel
theorem dX12_redeem_96 : decode cX12_redeem 96 = .ok (.aload_n 0, 1) := by decide +kernel
theorem dX12_redeem_97 : decode cX12_redeem 97 = .ok (.getfield 38, 3) := by decide +kernel
theorem dX12_redeem_100 : decode cX12_redeem 100 = .ok (.iload_n 3, 1) := by decide +kernel
theorem dX12_redeem_101 : decode cX12_redeem 101 = .ok (.iaload, 1) := by decide +kernel
theorem dX12_redeem_102 : decode cX12_redeem 102 = .ok (.iconst (-1), 1) := by decide +kernel
theorem dX12_redeem_103 : decode cX12_redeem 103 = .ok (.if_icmp .eq 19, 3) := by decide +kernel
theorem dX12_redeem_106 : decode cX12_redeem 106 = .ok (.aload_n 0, 1) := by decide +kernel
theorem dX12_redeem_107 : decode cX12_redeem 107 = .ok (.getfield 96, 3) := by decide +kernel
theorem dX12_redeem_110 : decode cX12_redeem 110 = .ok (.aload_n 0, 1) := by decide +kernel
theorem dX12_redeem_111 : decode cX12_redeem 111 = .ok (.getfield 38, 3) := by decide +kernel
theorem dX12_redeem_114 : decode cX12_redeem 114 = .ok (.iload_n 3, 1) := by decide +kernel
theorem dX12_redeem_115 : decode cX12_redeem 115 = .ok (.iaload, 1) := by decide +kernel
theorem dX12_redeem_116 : decode cX12_redeem 116 = .ok (.dup2, 1) := by decide +kernel
theorem dX12_redeem_117 : decode cX12_redeem 117 = .ok (.iaload, 1) := by decide +kernel
theorem dX12_redeem_118 : decode cX12_redeem 118 = .ok (.iload 5, 2) := by decide +kernel
theorem dX12_redeem_120 : decode cX12_redeem 120 = .ok (.iadd, 1) := by decide +kernel
theorem dX12_redeem_121 : decode cX12_redeem 121 = .ok (.iastore, 1) := by decide +kernel
theorem dX12_redeem_122 : decode cX12_redeem 122 = .ok (.aload_n 0, 1) := by decide +kernel
theorem dX12_redeem_123 : decode cX12_redeem 123 = .ok (.getfield 105, 3) := by decide +kernel
theorem dX12_redeem_126 : decode cX12_redeem 126 = .ok (.iload 4, 2) := by decide +kernel
theorem dX12_redeem_128 : decode cX12_redeem 128 = .ok (.iload_n 3, 1) := by decide +kernel
theorem dX12_redeem_129 : decode cX12_redeem 129 = .ok (.iastore, 1) := by decide +kernel
theorem dX12_redeem_130 : decode cX12_redeem 130 = .ok (.aload_n 0, 1) := by decide +kernel
theorem dX12_redeem_131 : decode cX12_redeem 131 = .ok (.getfield 111, 3) := by decide +kernel
theorem dX12_redeem_134 : decode cX12_redeem 134 = .ok (.aload_n 0, 1) := by decide +kernel
theorem dX12_redeem_135 : decode cX12_redeem 135 = .ok (.getfield 108, 3) := by decide +kernel
theorem dX12_redeem_138 : decode cX12_redeem 138 = .ok (.iconst 0, 1) := by decide +kernel
theorem dX12_redeem_139 : decode cX12_redeem 139 = .ok (.iaload, 1) := by decide +kernel
theorem dX12_redeem_140 : decode cX12_redeem 140 = .ok (.iload 4, 2) := by decide +kernel
theorem dX12_redeem_142 : decode cX12_redeem 142 = .ok (.iastore, 1) := by decide +kernel
theorem dX12_redeem_143 : decode cX12_redeem 143 = .ok (.aload_n 0, 1) := by decide +kernel
theorem dX12_redeem_144 : decode cX12_redeem 144 = .ok (.getfield 114, 3) := by decide +kernel
theorem dX12_redeem_147 : decode cX12_redeem 147 = .ok (.aload_n 0, 1) := by decide +kernel
theorem dX12_redeem_148 : decode cX12_redeem 148 = .ok (.getfield 108, 3) := by decide +kernel
theorem dX12_redeem_151 : decode cX12_redeem 151 = .ok (.iconst 0, 1) := by decide +kernel
theorem dX12_redeem_152 : decode cX12_redeem 152 = .ok (.iaload, 1) := by decide +kernel
theorem dX12_redeem_153 : decode cX12_redeem 153 = .ok (.iload 5, 2) := by decide +kernel
theorem dX12_redeem_155 : decode cX12_redeem 155 = .ok (.iastore, 1) := by decide +kernel
theorem dX12_redeem_156 : decode cX12_redeem 156 = .ok (.aload_n 0, 1) := by decide +kernel
theorem dX12_redeem_157 : decode cX12_redeem 157 = .ok (.getfield 108, 3) := by decide +kernel
theorem dX12_redeem_160 : decode cX12_redeem 160 = .ok (.iconst 0, 1) := by decide +kernel
theorem dX12_redeem_161 : decode cX12_redeem 161 = .ok (.dup2, 1) := by decide +kernel
theorem dX12_redeem_162 : decode cX12_redeem 162 = .ok (.iaload, 1) := by decide +kernel
theorem dX12_redeem_163 : decode cX12_redeem 163 = .ok (.iconst 1, 1) := by decide +kernel
theorem dX12_redeem_164 : decode cX12_redeem 164 = .ok (.iadd, 1) := by decide +kernel
theorem dX12_redeem_165 : decode cX12_redeem 165 = .ok (.iastore, 1) := by decide +kernel
theorem dX12_redeem_166 : decode cX12_redeem 166 = .ok (.iload 5, 2) := by decide +kernel
theorem dX12_redeem_168 : decode cX12_redeem 168 = .ok (.ireturn, 1) := by decide +kernel
theorem dX12_restsOf_0 : decode cX12_restsOf 0 = .ok (.iconst 0, 1) := by decide +kernel
theorem dX12_restsOf_1 : decode cX12_restsOf 1 = .ok (.istore_n 2, 1) := by decide +kernel
theorem dX12_restsOf_2 : decode cX12_restsOf 2 = .ok (.iconst 0, 1) := by decide +kernel
theorem dX12_restsOf_3 : decode cX12_restsOf 3 = .ok (.istore_n 3, 1) := by decide +kernel
theorem dX12_restsOf_4 : decode cX12_restsOf 4 = .ok (.iload_n 3, 1) := by decide +kernel
theorem dX12_restsOf_5 : decode cX12_restsOf 5 = .ok (.aload_n 0, 1) := by decide +kernel
theorem dX12_restsOf_6 : decode cX12_restsOf 6 = .ok (.getfield 53, 3) := by decide +kernel
theorem dX12_restsOf_9 : decode cX12_restsOf 9 = .ok (.iload_n 1, 1) := by decide +kernel
theorem dX12_restsOf_10 : decode cX12_restsOf 10 = .ok (.iaload, 1) := by decide +kernel
theorem dX12_restsOf_11 : decode cX12_restsOf 11 = .ok (.if_icmp .ge 31, 3) := by decide +kernel
theorem dX12_restsOf_14 : decode cX12_restsOf 14 = .ok (.iload_n 2, 1) := by decide +kernel
theorem dX12_restsOf_15 : decode cX12_restsOf 15 = .ok (.aload_n 0, 1) := by decide +kernel
theorem dX12_restsOf_16 : decode cX12_restsOf 16 = .ok (.getfield 56, 3) := by decide +kernel
theorem dX12_restsOf_19 : decode cX12_restsOf 19 = .ok (.bipush 8, 2) := by decide +kernel
theorem dX12_restsOf_21 : decode cX12_restsOf 21 = .ok (.iload_n 1, 1) := by decide +kernel
theorem dX12_restsOf_22 : decode cX12_restsOf 22 = .ok (.imul, 1) := by decide +kernel
theorem dX12_restsOf_23 : decode cX12_restsOf 23 = .ok (.iload_n 3, 1) := by decide +kernel
theorem dX12_restsOf_24 : decode cX12_restsOf 24 = .ok (.iadd, 1) := by decide +kernel
theorem dX12_restsOf_25 : decode cX12_restsOf 25 = .ok (.iaload, 1) := by decide +kernel
theorem dX12_restsOf_26 : decode cX12_restsOf 26 = .ok (.ifCond .ne 7, 3) := by decide +kernel
theorem dX12_restsOf_29 : decode cX12_restsOf 29 = .ok (.iconst 1, 1) := by decide +kernel
theorem dX12_restsOf_30 : decode cX12_restsOf 30 = .ok (.goto 4, 3) := by decide +kernel
theorem dX12_restsOf_33 : decode cX12_restsOf 33 = .ok (.iconst 0, 1) := by decide +kernel
theorem dX12_restsOf_34 : decode cX12_restsOf 34 = .ok (.iadd, 1) := by decide +kernel
theorem dX12_restsOf_35 : decode cX12_restsOf 35 = .ok (.istore_n 2, 1) := by decide +kernel
theorem dX12_restsOf_36 : decode cX12_restsOf 36 = .ok (.iinc 3 1, 3) := by decide +kernel
theorem dX12_restsOf_39 : decode cX12_restsOf 39 = .ok (.goto (-35), 3) := by decide +kernel
theorem dX12_restsOf_42 : decode cX12_restsOf 42 = .ok (.iload_n 2, 1) := by decide +kernel
theorem dX12_restsOf_43 : decode cX12_restsOf 43 = .ok (.ireturn, 1) := by decide +kernel
theorem dX12_round_0 : decode cX12_round 0 = .ok (.aload_n 0, 1) := by decide +kernel
theorem dX12_round_1 : decode cX12_round 1 = .ok (.iconst 0, 1) := by decide +kernel
theorem dX12_round_2 : decode cX12_round 2 = .ok (.putfield 163, 3) := by decide +kernel
theorem dX12_round_5 : decode cX12_round 5 = .ok (.aload_n 0, 1) := by decide +kernel
theorem dX12_round_6 : decode cX12_round 6 = .ok (.iload_n 1, 1) := by decide +kernel
theorem dX12_round_7 : decode cX12_round 7 = .ok (.iload_n 2, 1) := by decide +kernel
theorem dX12_round_8 : decode cX12_round 8 = .ok (.invokevirtual 344, 3) := by decide +kernel
theorem dX12_round_11 : decode cX12_round 11 = .ok (.ifCond .eq 12, 3) := by decide +kernel
theorem dX12_round_14 : decode cX12_round 14 = .ok (.iload_n 3, 1) := by decide +kernel
theorem dX12_round_15 : decode cX12_round 15 = .ok (.iload 4, 2) := by decide +kernel
theorem dX12_round_17 : decode cX12_round 17 = .ok (.invokestatic 498, 3) := by decide +kernel
theorem dX12_round_20 : decode cX12_round 20 = .ok (.ifCond .ne 5, 3) := by decide +kernel
theorem dX12_round_23 : decode cX12_round 23 = .ok (.iconst (-1), 1) := by decide +kernel
theorem dX12_round_24 : decode cX12_round 24 = .ok (.ireturn, 1) := by decide +kernel
theorem dX12_round_25 : decode cX12_round 25 = .ok (.aload_n 0, 1) := by decide +kernel
theorem dX12_round_26 : decode cX12_round 26 = .ok (.iconst (-1), 1) := by decide +kernel
theorem dX12_round_27 : decode cX12_round 27 = .ok (.putfield 491, 3) := by decide +kernel
theorem dX12_round_30 : decode cX12_round 30 = .ok (.aload_n 0, 1) := by decide +kernel
theorem dX12_round_31 : decode cX12_round 31 = .ok (.iconst 3, 1) := by decide +kernel
theorem dX12_round_32 : decode cX12_round 32 = .ok (.iload_n 1, 1) := by decide +kernel
theorem dX12_round_33 : decode cX12_round 33 = .ok (.imul, 1) := by decide +kernel
theorem dX12_round_34 : decode cX12_round 34 = .ok (.iload_n 2, 1) := by decide +kernel
theorem dX12_round_35 : decode cX12_round 35 = .ok (.iadd, 1) := by decide +kernel
theorem dX12_round_36 : decode cX12_round 36 = .ok (.iload_n 3, 1) := by decide +kernel
theorem dX12_round_37 : decode cX12_round 37 = .ok (.iload 4, 2) := by decide +kernel
theorem dX12_round_39 : decode cX12_round 39 = .ok (.iconst 0, 1) := by decide +kernel
theorem dX12_round_40 : decode cX12_round 40 = .ok (.iconst 0, 1) := by decide +kernel
theorem dX12_round_41 : decode cX12_round 41 = .ok (.invokevirtual 494, 3) := by decide +kernel
theorem dX12_round_44 : decode cX12_round 44 = .ok (.aload_n 0, 1) := by decide +kernel
theorem dX12_round_45 : decode cX12_round 45 = .ok (.getfield 491, 3) := by decide +kernel
theorem dX12_round_48 : decode cX12_round 48 = .ok (.iconst (-1), 1) := by decide +kernel
theorem dX12_round_49 : decode cX12_round 49 = .ok (.if_icmp .ne 8, 3) := by decide +kernel
theorem dX12_round_52 : decode cX12_round 52 = .ok (.bipush (-2), 2) := by decide +kernel
theorem dX12_round_54 : decode cX12_round 54 = .ok (.goto 7, 3) := by decide +kernel
theorem dX12_round_57 : decode cX12_round 57 = .ok (.aload_n 0, 1) := by decide +kernel
theorem dX12_round_58 : decode cX12_round 58 = .ok (.getfield 491, 3) := by decide +kernel
theorem dX12_round_61 : decode cX12_round 61 = .ok (.ireturn, 1) := by decide +kernel
theorem dX12_rows_0 : decode cX12_rows 0 = .ok (.iload 4, 2) := by decide +kernel
theorem dX12_rows_2 : decode cX12_rows 2 = .ok (.iload_n 2, 1) := by decide +kernel
theorem dX12_rows_3 : decode cX12_rows 3 = .ok (.if_icmp .ne 143, 3) := by decide +kernel
theorem dX12_rows_6 : decode cX12_rows 6 = .ok (.iconst 0, 1) := by decide +kernel
theorem dX12_rows_7 : decode cX12_rows 7 = .ok (.istore 6, 2) := by decide +kernel
theorem dX12_rows_9 : decode cX12_rows 9 = .ok (.iconst 0, 1) := by decide +kernel
theorem dX12_rows_10 : decode cX12_rows 10 = .ok (.istore 7, 2) := by decide +kernel
theorem dX12_rows_12 : decode cX12_rows 12 = .ok (.iload 7, 2) := by decide +kernel
theorem dX12_rows_14 : decode cX12_rows 14 = .ok (.aload_n 0, 1) := by decide +kernel
theorem dX12_rows_15 : decode cX12_rows 15 = .ok (.getfield 53, 3) := by decide +kernel
theorem dX12_rows_18 : decode cX12_rows 18 = .ok (.iload_n 1, 1) := by decide +kernel
theorem dX12_rows_19 : decode cX12_rows 19 = .ok (.iaload, 1) := by decide +kernel
theorem dX12_rows_20 : decode cX12_rows 20 = .ok (.iload_n 2, 1) := by decide +kernel
theorem dX12_rows_21 : decode cX12_rows 21 = .ok (.iconst 1, 1) := by decide +kernel
theorem dX12_rows_22 : decode cX12_rows 22 = .ok (.isub, 1) := by decide +kernel
theorem dX12_rows_23 : decode cX12_rows 23 = .ok (.iload_n 3, 1) := by decide +kernel
theorem dX12_rows_24 : decode cX12_rows 24 = .ok (.imul, 1) := by decide +kernel
theorem dX12_rows_25 : decode cX12_rows 25 = .ok (.iadd, 1) := by decide +kernel
theorem dX12_rows_26 : decode cX12_rows 26 = .ok (.if_icmp .ge 66, 3) := by decide +kernel
theorem dX12_rows_29 : decode cX12_rows 29 = .ok (.iconst 0, 1) := by decide +kernel
theorem dX12_rows_30 : decode cX12_rows 30 = .ok (.istore 8, 2) := by decide +kernel
theorem dX12_rows_32 : decode cX12_rows 32 = .ok (.iconst 0, 1) := by decide +kernel
theorem dX12_rows_33 : decode cX12_rows 33 = .ok (.istore 9, 2) := by decide +kernel
theorem dX12_rows_35 : decode cX12_rows 35 = .ok (.iload 9, 2) := by decide +kernel
theorem dX12_rows_37 : decode cX12_rows 37 = .ok (.iload_n 2, 1) := by decide +kernel
theorem dX12_rows_38 : decode cX12_rows 38 = .ok (.if_icmp .ge 33, 3) := by decide +kernel
theorem dX12_rows_41 : decode cX12_rows 41 = .ok (.iload 8, 2) := by decide +kernel
theorem dX12_rows_43 : decode cX12_rows 43 = .ok (.aload_n 0, 1) := by decide +kernel
theorem dX12_rows_44 : decode cX12_rows 44 = .ok (.iload_n 1, 1) := by decide +kernel
theorem dX12_rows_45 : decode cX12_rows 45 = .ok (.aload_n 0, 1) := by decide +kernel
theorem dX12_rows_46 : decode cX12_rows 46 = .ok (.getfield 154, 3) := by decide +kernel
theorem dX12_rows_49 : decode cX12_rows 49 = .ok (.iload 9, 2) := by decide +kernel
theorem dX12_rows_51 : decode cX12_rows 51 = .ok (.iaload, 1) := by decide +kernel
theorem dX12_rows_52 : decode cX12_rows 52 = .ok (.iload 7, 2) := by decide +kernel
theorem dX12_rows_54 : decode cX12_rows 54 = .ok (.iload 9, 2) := by decide +kernel
theorem dX12_rows_56 : decode cX12_rows 56 = .ok (.iload_n 3, 1) := by decide +kernel
theorem dX12_rows_57 : decode cX12_rows 57 = .ok (.imul, 1) := by decide +kernel
theorem dX12_rows_58 : decode cX12_rows 58 = .ok (.isub, 1) := by decide +kernel
theorem dX12_rows_59 : decode cX12_rows 59 = .ok (.invokevirtual 381, 3) := by decide +kernel
theorem dX12_rows_62 : decode cX12_rows 62 = .ok (.ior, 1) := by decide +kernel
theorem dX12_rows_63 : decode cX12_rows 63 = .ok (.istore 8, 2) := by decide +kernel
theorem dX12_rows_65 : decode cX12_rows 65 = .ok (.iinc 9 1, 3) := by decide +kernel
theorem dX12_rows_68 : decode cX12_rows 68 = .ok (.goto (-33), 3) := by decide +kernel
theorem dX12_rows_71 : decode cX12_rows 71 = .ok (.iload 6, 2) := by decide +kernel
theorem dX12_rows_73 : decode cX12_rows 73 = .ok (.iload 8, 2) := by decide +kernel
theorem dX12_rows_75 : decode cX12_rows 75 = .ok (.ifCond .eq 7, 3) := by decide +kernel
theorem dX12_rows_78 : decode cX12_rows 78 = .ok (.iconst 0, 1) := by decide +kernel
theorem dX12_rows_79 : decode cX12_rows 79 = .ok (.goto 4, 3) := by decide +kernel
theorem dX12_rows_82 : decode cX12_rows 82 = .ok (.iconst 1, 1) := by decide +kernel
theorem dX12_rows_83 : decode cX12_rows 83 = .ok (.iadd, 1) := by decide +kernel
theorem dX12_rows_84 : decode cX12_rows 84 = .ok (.istore 6, 2) := by decide +kernel
theorem dX12_rows_86 : decode cX12_rows 86 = .ok (.iinc 7 1, 3) := by decide +kernel
theorem dX12_rows_89 : decode cX12_rows 89 = .ok (.goto (-77), 3) := by decide +kernel
theorem dX12_rows_92 : decode cX12_rows 92 = .ok (.aload_n 0, 1) := by decide +kernel
theorem dX12_rows_93 : decode cX12_rows 93 = .ok (.getfield 491, 3) := by decide +kernel
theorem dX12_rows_96 : decode cX12_rows 96 = .ok (.iconst (-1), 1) := by decide +kernel
theorem dX12_rows_97 : decode cX12_rows 97 = .ok (.if_icmp .eq 13, 3) := by decide +kernel
theorem dX12_rows_100 : decode cX12_rows 100 = .ok (.iload 6, 2) := by decide +kernel
theorem dX12_rows_102 : decode cX12_rows 102 = .ok (.aload_n 0, 1) := by decide +kernel
theorem dX12_rows_103 : decode cX12_rows 103 = .ok (.getfield 491, 3) := by decide +kernel
theorem dX12_rows_106 : decode cX12_rows 106 = .ok (.if_icmp .lt 4, 3) := by decide +kernel
theorem dX12_rows_109 : decode cX12_rows 109 = .ok (.return_, 1) := by decide +kernel
theorem dX12_rows_110 : decode cX12_rows 110 = .ok (.aload_n 0, 1) := by decide +kernel
theorem dX12_rows_111 : decode cX12_rows 111 = .ok (.iload 6, 2) := by decide +kernel
theorem dX12_rows_113 : decode cX12_rows 113 = .ok (.putfield 491, 3) := by decide +kernel
theorem dX12_rows_116 : decode cX12_rows 116 = .ok (.iconst 0, 1) := by decide +kernel
theorem dX12_rows_117 : decode cX12_rows 117 = .ok (.istore 7, 2) := by decide +kernel
theorem dX12_rows_119 : decode cX12_rows 119 = .ok (.iload 7, 2) := by decide +kernel
theorem dX12_rows_121 : decode cX12_rows 121 = .ok (.iload_n 2, 1) := by decide +kernel
theorem dX12_rows_122 : decode cX12_rows 122 = .ok (.if_icmp .ge 23, 3) := by decide +kernel
theorem dX12_rows_125 : decode cX12_rows 125 = .ok (.aload_n 0, 1) := by decide +kernel
theorem dX12_rows_126 : decode cX12_rows 126 = .ok (.getfield 157, 3) := by decide +kernel
theorem dX12_rows_129 : decode cX12_rows 129 = .ok (.iload 7, 2) := by decide +kernel
theorem dX12_rows_131 : decode cX12_rows 131 = .ok (.aload_n 0, 1) := by decide +kernel
theorem dX12_rows_132 : decode cX12_rows 132 = .ok (.getfield 154, 3) := by decide +kernel
theorem dX12_rows_135 : decode cX12_rows 135 = .ok (.iload 7, 2) := by decide +kernel
theorem dX12_rows_137 : decode cX12_rows 137 = .ok (.iaload, 1) := by decide +kernel
theorem dX12_rows_138 : decode cX12_rows 138 = .ok (.iastore, 1) := by decide +kernel
theorem dX12_rows_139 : decode cX12_rows 139 = .ok (.iinc 7 1, 3) := by decide +kernel
theorem dX12_rows_142 : decode cX12_rows 142 = .ok (.goto (-23), 3) := by decide +kernel
theorem dX12_rows_145 : decode cX12_rows 145 = .ok (.return_, 1) := by decide +kernel
theorem dX12_rows_146 : decode cX12_rows 146 = .ok (.iconst 0, 1) := by decide +kernel
theorem dX12_rows_147 : decode cX12_rows 147 = .ok (.istore 6, 2) := by decide +kernel
theorem dX12_rows_149 : decode cX12_rows 149 = .ok (.iload 6, 2) := by decide +kernel
theorem dX12_rows_151 : decode cX12_rows 151 = .ok (.aload_n 0, 1) := by decide +kernel
theorem dX12_rows_152 : decode cX12_rows 152 = .ok (.getfield 13, 3) := by decide +kernel
theorem dX12_rows_155 : decode cX12_rows 155 = .ok (.iconst 1, 1) := by decide +kernel
theorem dX12_rows_156 : decode cX12_rows 156 = .ok (.iaload, 1) := by decide +kernel
theorem dX12_rows_157 : decode cX12_rows 157 = .ok (.if_icmp .ge 59, 3) := by decide +kernel
theorem dX12_rows_160 : decode cX12_rows 160 = .ok (.iload 5, 2) := by decide +kernel
theorem dX12_rows_162 : decode cX12_rows 162 = .ok (.iload 6, 2) := by decide +kernel
theorem dX12_rows_164 : decode cX12_rows 164 = .ok (.ishr, 1) := by decide +kernel
theorem dX12_rows_165 : decode cX12_rows 165 = .ok (.iconst 1, 1) := by decide +kernel
theorem dX12_rows_166 : decode cX12_rows 166 = .ok (.iand, 1) := by decide +kernel
theorem dX12_rows_167 : decode cX12_rows 167 = .ok (.iconst 1, 1) := by decide +kernel
theorem dX12_rows_168 : decode cX12_rows 168 = .ok (.if_icmp .eq 42, 3) := by decide +kernel
theorem dX12_rows_171 : decode cX12_rows 171 = .ok (.aload_n 0, 1) := by decide +kernel
theorem dX12_rows_172 : decode cX12_rows 172 = .ok (.iload 6, 2) := by decide +kernel
theorem dX12_rows_174 : decode cX12_rows 174 = .ok (.invokevirtual 338, 3) := by decide +kernel
theorem dX12_rows_177 : decode cX12_rows 177 = .ok (.ifCond .eq 6, 3) := by decide +kernel
theorem dX12_rows_180 : decode cX12_rows 180 = .ok (.goto 30, 3) := by decide +kernel
theorem dX12_rows_183 : decode cX12_rows 183 = .ok (.aload_n 0, 1) := by decide +kernel
theorem dX12_rows_184 : decode cX12_rows 184 = .ok (.getfield 154, 3) := by decide +kernel
theorem dX12_rows_187 : decode cX12_rows 187 = .ok (.iload 4, 2) := by decide +kernel
theorem dX12_rows_189 : decode cX12_rows 189 = .ok (.iload 6, 2) := by decide +kernel
theorem dX12_rows_191 : decode cX12_rows 191 = .ok (.iastore, 1) := by decide +kernel
theorem dX12_rows_192 : decode cX12_rows 192 = .ok (.aload_n 0, 1) := by decide +kernel
theorem dX12_rows_193 : decode cX12_rows 193 = .ok (.iload_n 1, 1) := by decide +kernel
theorem dX12_rows_194 : decode cX12_rows 194 = .ok (.iload_n 2, 1) := by decide +kernel
theorem dX12_rows_195 : decode cX12_rows 195 = .ok (.iload_n 3, 1) := by decide +kernel
theorem dX12_rows_196 : decode cX12_rows 196 = .ok (.iload 4, 2) := by decide +kernel
theorem dX12_rows_198 : decode cX12_rows 198 = .ok (.iconst 1, 1) := by decide +kernel
theorem dX12_rows_199 : decode cX12_rows 199 = .ok (.iadd, 1) := by decide +kernel
theorem dX12_rows_200 : decode cX12_rows 200 = .ok (.iload 5, 2) := by decide +kernel
theorem dX12_rows_202 : decode cX12_rows 202 = .ok (.iconst 1, 1) := by decide +kernel
theorem dX12_rows_203 : decode cX12_rows 203 = .ok (.iload 6, 2) := by decide +kernel
theorem dX12_rows_205 : decode cX12_rows 205 = .ok (.ishl, 1) := by decide +kernel
theorem dX12_rows_206 : decode cX12_rows 206 = .ok (.ior, 1) := by decide +kernel
theorem dX12_rows_207 : decode cX12_rows 207 = .ok (.invokevirtual 494, 3) := by decide +kernel
theorem dX12_rows_210 : decode cX12_rows 210 = .ok (.iinc 6 1, 3) := by decide +kernel
theorem dX12_rows_213 : decode cX12_rows 213 = .ok (.goto (-64), 3) := by decide +kernel
theorem dX12_rows_216 : decode cX12_rows 216 = .ok (.return_, 1) := by decide +kernel
theorem dX12_run_0 : decode cX12_run 0 = .ok (.aload_n 0, 1) := by decide +kernel
theorem dX12_run_1 : decode cX12_run 1 = .ok (.iconst 0, 1) := by decide +kernel
theorem dX12_run_2 : decode cX12_run 2 = .ok (.putfield 163, 3) := by decide +kernel
theorem dX12_run_5 : decode cX12_run 5 = .ok (.aload_n 0, 1) := by decide +kernel
theorem dX12_run_6 : decode cX12_run 6 = .ok (.iload_n 1, 1) := by decide +kernel
theorem dX12_run_7 : decode cX12_run 7 = .ok (.invokevirtual 341, 3) := by decide +kernel
theorem dX12_run_10 : decode cX12_run 10 = .ok (.ifCond .eq 26, 3) := by decide +kernel
theorem dX12_run_13 : decode cX12_run 13 = .ok (.iload_n 2, 1) := by decide +kernel
theorem dX12_run_14 : decode cX12_run 14 = .ok (.iconst (-1), 1) := by decide +kernel
theorem dX12_run_15 : decode cX12_run 15 = .ok (.if_icmp .eq 23, 3) := by decide +kernel
theorem dX12_run_18 : decode cX12_run 18 = .ok (.aload_n 0, 1) := by decide +kernel
theorem dX12_run_19 : decode cX12_run 19 = .ok (.iload_n 2, 1) := by decide +kernel
theorem dX12_run_20 : decode cX12_run 20 = .ok (.invokevirtual 335, 3) := by decide +kernel
theorem dX12_run_23 : decode cX12_run 23 = .ok (.ifCond .eq 13, 3) := by decide +kernel
theorem dX12_run_26 : decode cX12_run 26 = .ok (.aload_n 0, 1) := by decide +kernel
theorem dX12_run_27 : decode cX12_run 27 = .ok (.getfield 38, 3) := by decide +kernel
theorem dX12_run_30 : decode cX12_run 30 = .ok (.iload_n 2, 1) := by decide +kernel
theorem dX12_run_31 : decode cX12_run 31 = .ok (.iaload, 1) := by decide +kernel
theorem dX12_run_32 : decode cX12_run 32 = .ok (.iload_n 1, 1) := by decide +kernel
theorem dX12_run_33 : decode cX12_run 33 = .ok (.if_icmp .eq 5, 3) := by decide +kernel
theorem dX12_run_36 : decode cX12_run 36 = .ok (.iconst (-1), 1) := by decide +kernel
theorem dX12_run_37 : decode cX12_run 37 = .ok (.ireturn, 1) := by decide +kernel
theorem dX12_run_38 : decode cX12_run 38 = .ok (.aload_n 0, 1) := by decide +kernel
theorem dX12_run_39 : decode cX12_run 39 = .ok (.iload_n 1, 1) := by decide +kernel
theorem dX12_run_40 : decode cX12_run 40 = .ok (.iload_n 2, 1) := by decide +kernel
theorem dX12_run_41 : decode cX12_run 41 = .ok (.invokevirtual 501, 3) := by decide +kernel
theorem dX12_run_44 : decode cX12_run 44 = .ok (.ireturn, 1) := by decide +kernel
theorem dX12_sells_0 : decode cX12_sells 0 = .ok (.iconst 0, 1) := by decide +kernel
theorem dX12_sells_1 : decode cX12_sells 1 = .ok (.istore_n 3, 1) := by decide +kernel
theorem dX12_sells_2 : decode cX12_sells 2 = .ok (.iconst 0, 1) := by decide +kernel
theorem dX12_sells_3 : decode cX12_sells 3 = .ok (.istore 4, 2) := by decide +kernel
theorem dX12_sells_5 : decode cX12_sells 5 = .ok (.iload 4, 2) := by decide +kernel
theorem dX12_sells_7 : decode cX12_sells 7 = .ok (.aload_n 0, 1) := by decide +kernel
theorem dX12_sells_8 : decode cX12_sells 8 = .ok (.getfield 13, 3) := by decide +kernel
theorem dX12_sells_11 : decode cX12_sells 11 = .ok (.iconst 3, 1) := by decide +kernel
theorem dX12_sells_12 : decode cX12_sells 12 = .ok (.iaload, 1) := by decide +kernel
theorem dX12_sells_13 : decode cX12_sells 13 = .ok (.if_icmp .ge 23, 3) := by decide +kernel
theorem dX12_sells_16 : decode cX12_sells 16 = .ok (.aload_n 0, 1) := by decide +kernel
theorem dX12_sells_17 : decode cX12_sells 17 = .ok (.getfield 139, 3) := by decide +kernel
theorem dX12_sells_20 : decode cX12_sells 20 = .ok (.iload 4, 2) := by decide +kernel
theorem dX12_sells_22 : decode cX12_sells 22 = .ok (.aload_n 0, 1) := by decide +kernel
theorem dX12_sells_23 : decode cX12_sells 23 = .ok (.getfield 99, 3) := by decide +kernel
theorem dX12_sells_26 : decode cX12_sells 26 = .ok (.iload 4, 2) := by decide +kernel
theorem dX12_sells_28 : decode cX12_sells 28 = .ok (.iaload, 1) := by decide +kernel
theorem dX12_sells_29 : decode cX12_sells 29 = .ok (.iastore, 1) := by decide +kernel
theorem dX12_sells_30 : decode cX12_sells 30 = .ok (.iinc 4 1, 3) := by decide +kernel
theorem dX12_sells_33 : decode cX12_sells 33 = .ok (.goto (-28), 3) := by decide +kernel
theorem dX12_sells_36 : decode cX12_sells 36 = .ok (.iconst 0, 1) := by decide +kernel
theorem dX12_sells_37 : decode cX12_sells 37 = .ok (.istore 4, 2) := by decide +kernel
theorem dX12_sells_39 : decode cX12_sells 39 = .ok (.iload 4, 2) := by decide +kernel
theorem dX12_sells_41 : decode cX12_sells 41 = .ok (.iload_n 2, 1) := by decide +kernel
theorem dX12_sells_42 : decode cX12_sells 42 = .ok (.if_icmp .gt 146, 3) := by decide +kernel
theorem dX12_sells_45 : decode cX12_sells 45 = .ok (.iload_n 1, 1) := by decide +kernel
theorem dX12_sells_46 : decode cX12_sells 46 = .ok (.iload 4, 2) := by decide +kernel
theorem dX12_sells_48 : decode cX12_sells 48 = .ok (.ishr, 1) := by decide +kernel
theorem dX12_sells_49 : decode cX12_sells 49 = .ok (.iconst 1, 1) := by decide +kernel
theorem dX12_sells_50 : decode cX12_sells 50 = .ok (.iand, 1) := by decide +kernel
theorem dX12_sells_51 : decode cX12_sells 51 = .ok (.ifCond .ne 6, 3) := by decide +kernel
theorem dX12_sells_54 : decode cX12_sells 54 = .ok (.goto 128, 3) := by decide +kernel
theorem dX12_sells_57 : decode cX12_sells 57 = .ok (.aload_n 0, 1) := by decide +kernel
theorem dX12_sells_58 : decode cX12_sells 58 = .ok (.iconst (-1), 1) := by decide +kernel
theorem dX12_sells_59 : decode cX12_sells 59 = .ok (.putfield 455, 3) := by decide +kernel
theorem dX12_sells_62 : decode cX12_sells 62 = .ok (.aload_n 0, 1) := by decide +kernel
theorem dX12_sells_63 : decode cX12_sells 63 = .ok (.iconst 0, 1) := by decide +kernel
theorem dX12_sells_64 : decode cX12_sells 64 = .ok (.putfield 458, 3) := by decide +kernel
theorem dX12_sells_67 : decode cX12_sells 67 = .ok (.iconst 0, 1) := by decide +kernel
theorem dX12_sells_68 : decode cX12_sells 68 = .ok (.istore 5, 2) := by decide +kernel
theorem dX12_sells_70 : decode cX12_sells 70 = .ok (.iconst 0, 1) := by decide +kernel
theorem dX12_sells_71 : decode cX12_sells 71 = .ok (.istore 6, 2) := by decide +kernel
theorem dX12_sells_73 : decode cX12_sells 73 = .ok (.iload 6, 2) := by decide +kernel
theorem dX12_sells_75 : decode cX12_sells 75 = .ok (.aload_n 0, 1) := by decide +kernel
theorem dX12_sells_76 : decode cX12_sells 76 = .ok (.getfield 13, 3) := by decide +kernel
theorem dX12_sells_79 : decode cX12_sells 79 = .ok (.iconst 3, 1) := by decide +kernel
theorem dX12_sells_80 : decode cX12_sells 80 = .ok (.iaload, 1) := by decide +kernel
theorem dX12_sells_81 : decode cX12_sells 81 = .ok (.if_icmp .ge 67, 3) := by decide +kernel
theorem dX12_sells_84 : decode cX12_sells 84 = .ok (.aload_n 0, 1) := by decide +kernel
theorem dX12_sells_85 : decode cX12_sells 85 = .ok (.iload 6, 2) := by decide +kernel
theorem dX12_sells_87 : decode cX12_sells 87 = .ok (.iload 4, 2) := by decide +kernel
theorem dX12_sells_89 : decode cX12_sells 89 = .ok (.aload_n 0, 1) := by decide +kernel
theorem dX12_sells_90 : decode cX12_sells 90 = .ok (.getfield 139, 3) := by decide +kernel
theorem dX12_sells_93 : decode cX12_sells 93 = .ok (.iload 6, 2) := by decide +kernel
theorem dX12_sells_95 : decode cX12_sells 95 = .ok (.iaload, 1) := by decide +kernel
theorem dX12_sells_96 : decode cX12_sells 96 = .ok (.invokevirtual 408, 3) := by decide +kernel
theorem dX12_sells_99 : decode cX12_sells 99 = .ok (.istore 7, 2) := by decide +kernel
theorem dX12_sells_101 : decode cX12_sells 101 = .ok (.iload 7, 2) := by decide +kernel
theorem dX12_sells_103 : decode cX12_sells 103 = .ok (.iload 5, 2) := by decide +kernel
theorem dX12_sells_105 : decode cX12_sells 105 = .ok (.if_icmp .le 22, 3) := by decide +kernel
theorem dX12_sells_108 : decode cX12_sells 108 = .ok (.aload_n 0, 1) := by decide +kernel
theorem dX12_sells_109 : decode cX12_sells 109 = .ok (.iload 5, 2) := by decide +kernel
theorem dX12_sells_111 : decode cX12_sells 111 = .ok (.putfield 458, 3) := by decide +kernel
theorem dX12_sells_114 : decode cX12_sells 114 = .ok (.iload 7, 2) := by decide +kernel
theorem dX12_sells_116 : decode cX12_sells 116 = .ok (.istore 5, 2) := by decide +kernel
theorem dX12_sells_118 : decode cX12_sells 118 = .ok (.aload_n 0, 1) := by decide +kernel
theorem dX12_sells_119 : decode cX12_sells 119 = .ok (.iload 6, 2) := by decide +kernel
theorem dX12_sells_121 : decode cX12_sells 121 = .ok (.putfield 455, 3) := by decide +kernel
theorem dX12_sells_124 : decode cX12_sells 124 = .ok (.goto 18, 3) := by decide +kernel
theorem dX12_sells_127 : decode cX12_sells 127 = .ok (.iload 7, 2) := by decide +kernel
theorem dX12_sells_129 : decode cX12_sells 129 = .ok (.aload_n 0, 1) := by decide +kernel
theorem dX12_sells_130 : decode cX12_sells 130 = .ok (.getfield 458, 3) := by decide +kernel
theorem dX12_sells_133 : decode cX12_sells 133 = .ok (.if_icmp .le 9, 3) := by decide +kernel
theorem dX12_sells_136 : decode cX12_sells 136 = .ok (.aload_n 0, 1) := by decide +kernel
theorem dX12_sells_137 : decode cX12_sells 137 = .ok (.iload 7, 2) := by decide +kernel
theorem dX12_sells_139 : decode cX12_sells 139 = .ok (.putfield 458, 3) := by decide +kernel
theorem dX12_sells_142 : decode cX12_sells 142 = .ok (.iinc 6 1, 3) := by decide +kernel
theorem dX12_sells_145 : decode cX12_sells 145 = .ok (.goto (-72), 3) := by decide +kernel
theorem dX12_sells_148 : decode cX12_sells 148 = .ok (.aload_n 0, 1) := by decide +kernel
theorem dX12_sells_149 : decode cX12_sells 149 = .ok (.getfield 455, 3) := by decide +kernel
theorem dX12_sells_152 : decode cX12_sells 152 = .ok (.iconst (-1), 1) := by decide +kernel
theorem dX12_sells_153 : decode cX12_sells 153 = .ok (.if_icmp .ne 6, 3) := by decide +kernel
theorem dX12_sells_156 : decode cX12_sells 156 = .ok (.goto 26, 3) := by decide +kernel
theorem dX12_sells_159 : decode cX12_sells 159 = .ok (.aload_n 0, 1) := by decide +kernel
theorem dX12_sells_160 : decode cX12_sells 160 = .ok (.getfield 139, 3) := by decide +kernel
theorem dX12_sells_163 : decode cX12_sells 163 = .ok (.aload_n 0, 1) := by decide +kernel
theorem dX12_sells_164 : decode cX12_sells 164 = .ok (.getfield 455, 3) := by decide +kernel
theorem dX12_sells_167 : decode cX12_sells 167 = .ok (.dup2, 1) := by decide +kernel
theorem dX12_sells_168 : decode cX12_sells 168 = .ok (.iaload, 1) := by decide +kernel
theorem dX12_sells_169 : decode cX12_sells 169 = .ok (.aload_n 0, 1) := by decide +kernel
theorem dX12_sells_170 : decode cX12_sells 170 = .ok (.getfield 458, 3) := by decide +kernel
theorem dX12_sells_173 : decode cX12_sells 173 = .ok (.isub, 1) := by decide +kernel
theorem dX12_sells_174 : decode cX12_sells 174 = .ok (.iastore, 1) := by decide +kernel
theorem dX12_sells_175 : decode cX12_sells 175 = .ok (.iload_n 3, 1) := by decide +kernel
theorem dX12_sells_176 : decode cX12_sells 176 = .ok (.aload_n 0, 1) := by decide +kernel
theorem dX12_sells_177 : decode cX12_sells 177 = .ok (.getfield 458, 3) := by decide +kernel
theorem dX12_sells_180 : decode cX12_sells 180 = .ok (.iadd, 1) := by decide +kernel
theorem dX12_sells_181 : decode cX12_sells 181 = .ok (.istore_n 3, 1) := by decide +kernel
theorem dX12_sells_182 : decode cX12_sells 182 = .ok (.iinc 4 1, 3) := by decide +kernel
theorem dX12_sells_185 : decode cX12_sells 185 = .ok (.goto (-146), 3) := by decide +kernel
theorem dX12_sells_188 : decode cX12_sells 188 = .ok (.iload_n 3, 1) := by decide +kernel
theorem dX12_sells_189 : decode cX12_sells 189 = .ok (.ireturn, 1) := by decide +kernel
theorem dX12_sign_0 : decode cX12_sign 0 = .ok (.aload_n 0, 1) := by decide +kernel
theorem dX12_sign_1 : decode cX12_sign 1 = .ok (.dup, 1) := by decide +kernel
theorem dX12_sign_2 : decode cX12_sign 2 = .ok (.getfield 169, 3) := by decide +kernel
theorem dX12_sign_5 : decode cX12_sign 5 = .ok (.iconst 1, 1) := by decide +kernel
theorem dX12_sign_6 : decode cX12_sign 6 = .ok (.iadd, 1) := by decide +kernel
theorem dX12_sign_7 : decode cX12_sign 7 = .ok (.putfield 169, 3) := by decide +kernel
theorem dX12_sign_10 : decode cX12_sign 10 = .ok (.aload_n 0, 1) := by decide +kernel
theorem dX12_sign_11 : decode cX12_sign 11 = .ok (.iload_n 1, 1) := by decide +kernel
theorem dX12_sign_12 : decode cX12_sign 12 = .ok (.bipush 59, 2) := by decide +kernel
theorem dX12_sign_14 : decode cX12_sign 14 = .ok (.if_icmp .eq 57, 3) := by decide +kernel
theorem dX12_sign_17 : decode cX12_sign 17 = .ok (.iload_n 1, 1) := by decide +kernel
theorem dX12_sign_18 : decode cX12_sign 18 = .ok (.bipush 40, 2) := by decide +kernel
theorem dX12_sign_20 : decode cX12_sign 20 = .ok (.if_icmp .eq 51, 3) := by decide +kernel
theorem dX12_sign_23 : decode cX12_sign 23 = .ok (.iload_n 1, 1) := by decide +kernel
theorem dX12_sign_24 : decode cX12_sign 24 = .ok (.bipush 41, 2) := by decide +kernel
theorem dX12_sign_26 : decode cX12_sign 26 = .ok (.if_icmp .eq 45, 3) := by decide +kernel
theorem dX12_sign_29 : decode cX12_sign 29 = .ok (.iload_n 1, 1) := by decide +kernel
theorem dX12_sign_30 : decode cX12_sign 30 = .ok (.bipush 43, 2) := by decide +kernel
theorem dX12_sign_32 : decode cX12_sign 32 = .ok (.if_icmp .eq 39, 3) := by decide +kernel
theorem dX12_sign_35 : decode cX12_sign 35 = .ok (.iload_n 1, 1) := by decide +kernel
theorem dX12_sign_36 : decode cX12_sign 36 = .ok (.bipush 45, 2) := by decide +kernel
theorem dX12_sign_38 : decode cX12_sign 38 = .ok (.if_icmp .eq 33, 3) := by decide +kernel
theorem dX12_sign_41 : decode cX12_sign 41 = .ok (.iload_n 1, 1) := by decide +kernel
theorem dX12_sign_42 : decode cX12_sign 42 = .ok (.bipush 42, 2) := by decide +kernel
theorem dX12_sign_44 : decode cX12_sign 44 = .ok (.if_icmp .eq 27, 3) := by decide +kernel
theorem dX12_sign_47 : decode cX12_sign 47 = .ok (.iload_n 1, 1) := by decide +kernel
theorem dX12_sign_48 : decode cX12_sign 48 = .ok (.bipush 47, 2) := by decide +kernel
theorem dX12_sign_50 : decode cX12_sign 50 = .ok (.if_icmp .eq 21, 3) := by decide +kernel
theorem dX12_sign_53 : decode cX12_sign 53 = .ok (.iload_n 1, 1) := by decide +kernel
theorem dX12_sign_54 : decode cX12_sign 54 = .ok (.bipush 60, 2) := by decide +kernel
theorem dX12_sign_56 : decode cX12_sign 56 = .ok (.if_icmp .eq 15, 3) := by decide +kernel
theorem dX12_sign_59 : decode cX12_sign 59 = .ok (.iload_n 1, 1) := by decide +kernel
theorem dX12_sign_60 : decode cX12_sign 60 = .ok (.bipush 61, 2) := by decide +kernel
theorem dX12_sign_62 : decode cX12_sign 62 = .ok (.if_icmp .eq 9, 3) := by decide +kernel
theorem dX12_sign_65 : decode cX12_sign 65 = .ok (.iload_n 1, 1) := by decide +kernel
theorem dX12_sign_66 : decode cX12_sign 66 = .ok (.bipush 62, 2) := by decide +kernel
theorem dX12_sign_68 : decode cX12_sign 68 = .ok (.if_icmp .ne 7, 3) := by decide +kernel
theorem dX12_sign_71 : decode cX12_sign 71 = .ok (.iconst 3, 1) := by decide +kernel
