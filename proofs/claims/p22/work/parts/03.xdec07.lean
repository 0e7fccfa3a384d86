section
theorem dX12_sign_76 : decode cX12_sign 76 = .ok (.putfield 182, 3) := xh_putfield (by decide +kernel)
theorem dX12_sign_81 : decode cX12_sign 81 = .ok (.putfield 192, 3) := xh_putfield (by decide +kernel)
theorem dX12_sign_91 : decode cX12_sign 91 = .ok (.invokevirtual 175, 3) := xh_invokevirtual (by decide +kernel)
theorem dX12_sign_100 : decode cX12_sign 100 = .ok (.sipush 256, 3) := by decide +kernel
theorem dX12_sign_103 : decode cX12_sign 103 = .ok (.putfield 192, 3) := xh_putfield (by decide +kernel)
theorem dX12_sign_113 : decode cX12_sign 113 = .ok (.invokevirtual 175, 3) := xh_invokevirtual (by decide +kernel)
theorem dX12_sign_122 : decode cX12_sign 122 = .ok (.sipush 257, 3) := by decide +kernel
theorem dX12_sign_125 : decode cX12_sign 125 = .ok (.putfield 192, 3) := xh_putfield (by decide +kernel)
theorem dX12_sign_135 : decode cX12_sign 135 = .ok (.invokevirtual 175, 3) := xh_invokevirtual (by decide +kernel)
theorem dX12_sign_144 : decode cX12_sign 144 = .ok (.sipush 258, 3) := by decide +kernel
theorem dX12_sign_147 : decode cX12_sign 147 = .ok (.putfield 192, 3) := xh_putfield (by decide +kernel)
theorem dX12_sign_154 : decode cX12_sign 154 = .ok (.sipush 256, 3) := by decide +kernel
theorem dX12_sign_167 : decode cX12_sign 167 = .ok (.putfield 169, 3) := xh_putfield (by decide +kernel)
theorem dX12_sings_2 : decode cX12_sings 2 = .ok (.putfield 163, 3) := xh_putfield (by decide +kernel)
theorem dX12_sings_8 : decode cX12_sings 8 = .ok (.invokevirtual 344, 3) := xh_invokevirtual (by decide +kernel)
theorem dX12_sold_2 : decode cX12_sold 2 = .ok (.putfield 163, 3) := xh_putfield (by decide +kernel)
theorem dX12_sold_7 : decode cX12_sold 7 = .ok (.invokevirtual 461, 3) := xh_invokevirtual (by decide +kernel)
theorem dX12_sold_15 : decode cX12_sold 15 = .ok (.invokevirtual 332, 3) := xh_invokevirtual (by decide +kernel)
theorem dX12_sold_43 : decode cX12_sold 43 = .ok (.invokevirtual 464, 3) := xh_invokevirtual (by decide +kernel)
theorem dX12_sounds_2 : decode cX12_sounds 2 = .ok (.putfield 163, 3) := xh_putfield (by decide +kernel)
theorem dX12_sounds_8 : decode cX12_sounds 8 = .ok (.invokevirtual 344, 3) := xh_invokevirtual (by decide +kernel)
theorem dX12_sounds_16 : decode cX12_sounds 16 = .ok (.invokevirtual 335, 3) := xh_invokevirtual (by decide +kernel)
theorem dX12_sounds_29 : decode cX12_sounds 29 = .ok (.invokevirtual 390, 3) := xh_invokevirtual (by decide +kernel)
theorem dX12_soundsOf_22 : decode cX12_soundsOf 22 = .ok (.invokevirtual 381, 3) := xh_invokevirtual (by decide +kernel)
theorem dX12_strike_2 : decode cX12_strike 2 = .ok (.putfield 163, 3) := xh_putfield (by decide +kernel)
theorem dX12_strike_45 : decode cX12_strike 45 = .ok (.putfield 325, 3) := xh_putfield (by decide +kernel)
theorem dX12_strikes_4 : decode cX12_strikes 4 = .ok (.invokevirtual 467, 3) := xh_invokevirtual (by decide +kernel)
theorem dX12_strikes_24 : decode cX12_strikes 24 = .ok (.invokevirtual 467, 3) := xh_invokevirtual (by decide +kernel)
theorem dX12_sum_1 : decode cX12_sum 1 = .ok (.invokevirtual 306, 3) := xh_invokevirtual (by decide +kernel)
theorem dX12_sum_7 : decode cX12_sum 7 = .ok (.invokevirtual 270, 3) := xh_invokevirtual (by decide +kernel)
theorem dX12_sum_16 : decode cX12_sum 16 = .ok (.invokevirtual 270, 3) := xh_invokevirtual (by decide +kernel)
theorem dX12_sum_28 : decode cX12_sum 28 = .ok (.invokevirtual 294, 3) := xh_invokevirtual (by decide +kernel)
theorem dX12_sum_32 : decode cX12_sum 32 = .ok (.invokevirtual 237, 3) := xh_invokevirtual (by decide +kernel)
theorem dX12_sum_36 : decode cX12_sum 36 = .ok (.invokevirtual 306, 3) := xh_invokevirtual (by decide +kernel)
theorem dX12_sum_42 : decode cX12_sum 42 = .ok (.invokevirtual 297, 3) := xh_invokevirtual (by decide +kernel)
theorem dX12_sumOf_8 : decode cX12_sumOf 8 = .ok (.invokevirtual 233, 3) := xh_invokevirtual (by decide +kernel)
theorem dX12_sumOf_13 : decode cX12_sumOf 13 = .ok (.invokevirtual 276, 3) := xh_invokevirtual (by decide +kernel)
theorem dX12_sumOf_24 : decode cX12_sumOf 24 = .ok (.invokevirtual 233, 3) := xh_invokevirtual (by decide +kernel)
theorem dX12_sunday_2 : decode cX12_sunday 2 = .ok (.putfield 163, 3) := xh_putfield (by decide +kernel)
theorem dX12_sunday_41 : decode cX12_sunday 41 = .ok (.invokevirtual 390, 3) := xh_invokevirtual (by decide +kernel)
theorem dX12_sunday_65 : decode cX12_sunday 65 = .ok (.invokevirtual 393, 3) := xh_invokevirtual (by decide +kernel)
theorem dX12_sunday_113 : decode cX12_sunday 113 = .ok (.invokevirtual 338, 3) := xh_invokevirtual (by decide +kernel)
theorem dX12_sunday_120 : decode cX12_sunday 120 = .ok (.invokevirtual 421, 3) := xh_invokevirtual (by decide +kernel)
theorem dX12_sunday_126 : decode cX12_sunday 126 = .ok (.invokevirtual 411, 3) := xh_invokevirtual (by decide +kernel)
theorem dX12_tavern_2 : decode cX12_tavern 2 = .ok (.putfield 163, 3) := xh_putfield (by decide +kernel)
theorem dX12_tavern_7 : decode cX12_tavern 7 = .ok (.invokevirtual 341, 3) := xh_invokevirtual (by decide +kernel)
theorem dX12_tavernAhead_16 : decode cX12_tavernAhead 16 = .ok (.invokevirtual 233, 3) := xh_invokevirtual (by decide +kernel)
theorem dX12_tavernAhead_23 : decode cX12_tavernAhead 23 = .ok (.invokestatic 229, 3) := xh_invokestatic (by decide +kernel)
theorem dX12_tavernAhead_37 : decode cX12_tavernAhead 37 = .ok (.invokevirtual 226, 3) := xh_invokevirtual (by decide +kernel)
theorem dX12_tavernAhead_50 : decode cX12_tavernAhead 50 = .ok (.invokevirtual 226, 3) := xh_invokevirtual (by decide +kernel)
theorem dX12_tavernAhead_54 : decode cX12_tavernAhead 54 = .ok (.invokevirtual 237, 3) := xh_invokevirtual (by decide +kernel)
theorem dX12_text_2 : decode cX12_text 2 = .ok (.putfield 163, 3) := xh_putfield (by decide +kernel)
theorem dX12_text_22 : decode cX12_text 22 = .ok (.putfield 172, 3) := xh_putfield (by decide +kernel)
theorem dX12_text_27 : decode cX12_text 27 = .ok (.putfield 166, 3) := xh_putfield (by decide +kernel)
theorem dX12_text_32 : decode cX12_text 32 = .ok (.putfield 169, 3) := xh_putfield (by decide +kernel)
theorem dX12_text_37 : decode cX12_text 37 = .ok (.putfield 217, 3) := xh_putfield (by decide +kernel)
theorem dX12_text_42 : decode cX12_text 42 = .ok (.putfield 220, 3) := xh_putfield (by decide +kernel)
theorem dX12_text_56 : decode cX12_text 56 = .ok (.invokevirtual 254, 3) := xh_invokevirtual (by decide +kernel)
theorem dX12_text_95 : decode cX12_text 95 = .ok (.putfield 243, 3) := xh_putfield (by decide +kernel)
theorem dX12_text_100 : decode cX12_text 100 = .ok (.putfield 273, 3) := xh_putfield (by decide +kernel)
theorem dX12_text_105 : decode cX12_text 105 = .ok (.putfield 312, 3) := xh_putfield (by decide +kernel)
theorem dX12_text_110 : decode cX12_text 110 = .ok (.putfield 288, 3) := xh_putfield (by decide +kernel)
theorem dX12_text_114 : decode cX12_text 114 = .ok (.invokevirtual 223, 3) := xh_invokevirtual (by decide +kernel)
theorem dX12_text_133 : decode cX12_text 133 = .ok (.invokevirtual 315, 3) := xh_invokevirtual (by decide +kernel)
theorem dX12_text_144 : decode cX12_text 144 = .ok (.putfield 318, 3) := xh_putfield (by decide +kernel)
theorem dX12_text_152 : decode cX12_text 152 = .ok (.putfield 77, 3) := xh_putfield (by decide +kernel)
theorem dX12_text_168 : decode cX12_text 168 = .ok (.invokestatic 321, 3) := xh_invokestatic (by decide +kernel)
theorem dX12_text_175 : decode cX12_text 175 = .ok (.invokestatic 321, 3) := xh_invokestatic (by decide +kernel)
theorem dX12_text_182 : decode cX12_text 182 = .ok (.invokestatic 321, 3) := xh_invokestatic (by decide +kernel)
theorem dX12_text_189 : decode cX12_text 189 = .ok (.invokestatic 321, 3) := xh_invokestatic (by decide +kernel)
theorem dX12_text_196 : decode cX12_text 196 = .ok (.invokestatic 321, 3) := xh_invokestatic (by decide +kernel)
theorem dX12_text_203 : decode cX12_text 203 = .ok (.invokestatic 321, 3) := xh_invokestatic (by decide +kernel)
theorem dX12_text_210 : decode cX12_text 210 = .ok (.invokestatic 321, 3) := xh_invokestatic (by decide +kernel)
theorem dX12_text_246 : decode cX12_text 246 = .ok (.invokestatic 321, 3) := xh_invokestatic (by decide +kernel)
theorem dX12_text_253 : decode cX12_text 253 = .ok (.invokestatic 321, 3) := xh_invokestatic (by decide +kernel)
theorem dX12_text_260 : decode cX12_text 260 = .ok (.invokestatic 321, 3) := xh_invokestatic (by decide +kernel)
theorem dX12_text_267 : decode cX12_text 267 = .ok (.invokestatic 321, 3) := xh_invokestatic (by decide +kernel)
theorem dX12_text_274 : decode cX12_text 274 = .ok (.invokestatic 321, 3) := xh_invokestatic (by decide +kernel)
theorem dX12_text_281 : decode cX12_text 281 = .ok (.invokestatic 321, 3) := xh_invokestatic (by decide +kernel)
theorem dX12_text_288 : decode cX12_text 288 = .ok (.invokestatic 321, 3) := xh_invokestatic (by decide +kernel)
theorem dX12_text_295 : decode cX12_text 295 = .ok (.invokestatic 321, 3) := xh_invokestatic (by decide +kernel)
theorem dX12_text_302 : decode cX12_text 302 = .ok (.invokestatic 321, 3) := xh_invokestatic (by decide +kernel)
theorem dX12_text_309 : decode cX12_text 309 = .ok (.invokestatic 321, 3) := xh_invokestatic (by decide +kernel)
theorem dX12_text_316 : decode cX12_text 316 = .ok (.invokestatic 321, 3) := xh_invokestatic (by decide +kernel)
theorem dX12_text_323 : decode cX12_text 323 = .ok (.invokestatic 321, 3) := xh_invokestatic (by decide +kernel)
theorem dX12_text_330 : decode cX12_text 330 = .ok (.invokestatic 321, 3) := xh_invokestatic (by decide +kernel)
theorem dX12_text_335 : decode cX12_text 335 = .ok (.putfield 325, 3) := xh_putfield (by decide +kernel)
theorem dX12_text_340 : decode cX12_text 340 = .ok (.putfield 142, 3) := xh_putfield (by decide +kernel)
theorem dX12_text_345 : decode cX12_text 345 = .ok (.putfield 328, 3) := xh_putfield (by decide +kernel)
theorem dX12_text_349 : decode cX12_text 349 = .ok (.invokevirtual 160, 3) := xh_invokevirtual (by decide +kernel)
theorem dX12_thieves_2 : decode cX12_thieves 2 = .ok (.putfield 163, 3) := xh_putfield (by decide +kernel)
theorem dX12_thieves_6 : decode cX12_thieves 6 = .ok (.invokevirtual 473, 3) := xh_invokevirtual (by decide +kernel)
theorem dX12_thieves_26 : decode cX12_thieves 26 = .ok (.invokevirtual 476, 3) := xh_invokevirtual (by decide +kernel)
theorem dX12_token_1 : decode cX12_token 1 = .ok (.invokevirtual 175, 3) := xh_invokevirtual (by decide +kernel)
theorem dX12_token_10 : decode cX12_token 10 = .ok (.invokevirtual 175, 3) := xh_invokevirtual (by decide +kernel)
theorem dX12_token_25 : decode cX12_token 25 = .ok (.putfield 169, 3) := xh_putfield (by decide +kernel)
theorem dX12_token_36 : decode cX12_token 36 = .ok (.putfield 179, 3) := xh_putfield (by decide +kernel)
theorem dX12_token_40 : decode cX12_token 40 = .ok (.invokevirtual 175, 3) := xh_invokevirtual (by decide +kernel)
theorem dX12_token_51 : decode cX12_token 51 = .ok (.putfield 182, 3) := xh_putfield (by decide +kernel)
theorem dX12_token_58 : decode cX12_token 58 = .ok (.invokestatic 185, 3) := xh_invokestatic (by decide +kernel)
theorem dX12_token_65 : decode cX12_token 65 = .ok (.invokevirtual 175, 3) := xh_invokevirtual (by decide +kernel)
theorem dX12_token_68 : decode cX12_token 68 = .ok (.invokestatic 185, 3) := xh_invokestatic (by decide +kernel)
theorem dX12_token_81 : decode cX12_token 81 = .ok (.putfield 169, 3) := xh_putfield (by decide +kernel)
theorem dX12_token_89 : decode cX12_token 89 = .ok (.invokevirtual 189, 3) := xh_invokevirtual (by decide +kernel)
theorem dX12_token_92 : decode cX12_token 92 = .ok (.putfield 192, 3) := xh_putfield (by decide +kernel)
theorem dX12_token_127 : decode cX12_token 127 = .ok (.putfield 182, 3) := xh_putfield (by decide +kernel)
theorem dX12_token_139 : decode cX12_token 139 = .ok (.invokevirtual 195, 3) := xh_invokevirtual (by decide +kernel)
theorem dX12_token_146 : decode cX12_token 146 = .ok (.invokestatic 198, 3) := xh_invokestatic (by decide +kernel)
theorem dX12_token_154 : decode cX12_token 154 = .ok (.putfield 182, 3) := xh_putfield (by decide +kernel)
theorem dX12_token_159 : decode cX12_token 159 = .ok (.putfield 192, 3) := xh_putfield (by decide +kernel)
theorem dX12_token_163 : decode cX12_token 163 = .ok (.invokevirtual 175, 3) := xh_invokevirtual (by decide +kernel)
theorem dX12_token_166 : decode cX12_token 166 = .ok (.invokestatic 198, 3) := xh_invokestatic (by decide +kernel)
theorem dX12_token_177 : decode cX12_token 177 = .ok (.ldc 201, 2) := by decide +kernel
theorem dX12_token_197 : decode cX12_token 197 = .ok (.invokevirtual 175, 3) := xh_invokevirtual (by decide +kernel)
theorem dX12_token_204 : decode cX12_token 204 = .ok (.putfield 192, 3) := xh_putfield (by decide +kernel)
theorem dX12_token_214 : decode cX12_token 214 = .ok (.putfield 169, 3) := xh_putfield (by decide +kernel)
theorem dX12_token_222 : decode cX12_token 222 = .ok (.invokevirtual 202, 3) := xh_invokevirtual (by decide +kernel)
theorem dX12_tries_15 : decode cX12_tries 15 = .ok (.sipush 1000, 3) := by decide +kernel
theorem dX12_tries_36 : decode cX12_tries 36 = .ok (.sipush 1000, 3) := by decide +kernel
theorem dX12_tries_52 : decode cX12_tries 52 = .ok (.sipush 1000, 3) := by decide +kernel
theorem dX12_undo_2 : decode cX12_undo 2 = .ok (.putfield 163, 3) := xh_putfield (by decide +kernel)
theorem dX12_verse_2 : decode cX12_verse 2 = .ok (.putfield 163, 3) := xh_putfield (by decide +kernel)
theorem dX12_verse_7 : decode cX12_verse 7 = .ok (.invokevirtual 332, 3) := xh_invokevirtual (by decide +kernel)
theorem dX12_verse_33 : decode cX12_verse 33 = .ok (.invokevirtual 344, 3) := xh_invokevirtual (by decide +kernel)
theorem dX12_verseLine_13 : decode cX12_verseLine 13 = .ok (.invokevirtual 233, 3) := xh_invokevirtual (by decide +kernel)
theorem dX12_verseLine_16 : decode cX12_verseLine 16 = .ok (.invokevirtual 246, 3) := xh_invokevirtual (by decide +kernel)
theorem dX12_verseLine_37 : decode cX12_verseLine 37 = .ok (.invokevirtual 279, 3) := xh_invokevirtual (by decide +kernel)
theorem dX12_verseLine_45 : decode cX12_verseLine 45 = .ok (.invokevirtual 226, 3) := xh_invokevirtual (by decide +kernel)
theorem dX12_verseLine_51 : decode cX12_verseLine 51 = .ok (.invokevirtual 279, 3) := xh_invokevirtual (by decide +kernel)
theorem dX12_verseLine_69 : decode cX12_verseLine 69 = .ok (.invokevirtual 226, 3) := xh_invokevirtual (by decide +kernel)
theorem dX12_verseLine_81 : decode cX12_verseLine 81 = .ok (.invokevirtual 237, 3) := xh_invokevirtual (by decide +kernel)
theorem dX12_verseLine_95 : decode cX12_verseLine 95 = .ok (.invokevirtual 285, 3) := xh_invokevirtual (by decide +kernel)
theorem dX12_verseLine_115 : decode cX12_verseLine 115 = .ok (.invokevirtual 233, 3) := xh_invokevirtual (by decide +kernel)
theorem dX12_verseLine_120 : decode cX12_verseLine 120 = .ok (.invokevirtual 254, 3) := xh_invokevirtual (by decide +kernel)
theorem dX12_voiceLine_14 : decode cX12_voiceLine 14 = .ok (.invokevirtual 233, 3) := xh_invokevirtual (by decide +kernel)
theorem dX12_voiceLine_17 : decode cX12_voiceLine 17 = .ok (.invokevirtual 246, 3) := xh_invokevirtual (by decide +kernel)
theorem dX12_voiceLine_30 : decode cX12_voiceLine 30 = .ok (.invokevirtual 250, 3) := xh_invokevirtual (by decide +kernel)
theorem dX12_voiceLine_48 : decode cX12_voiceLine 48 = .ok (.invokevirtual 250, 3) := xh_invokevirtual (by decide +kernel)
theorem dX12_voiceLine_60 : decode cX12_voiceLine 60 = .ok (.invokevirtual 279, 3) := xh_invokevirtual (by decide +kernel)
theorem dX12_voiceLine_74 : decode cX12_voiceLine 74 = .ok (.invokevirtual 223, 3) := xh_invokevirtual (by decide +kernel)
theorem dX12_voiceLine_101 : decode cX12_voiceLine 101 = .ok (.invokevirtual 279, 3) := xh_invokevirtual (by decide +kernel)
theorem dX12_voiceLine_108 : decode cX12_voiceLine 108 = .ok (.invokevirtual 223, 3) := xh_invokevirtual (by decide +kernel)
theorem dX12_voiceLine_117 : decode cX12_voiceLine 117 = .ok (.invokevirtual 282, 3) := xh_invokevirtual (by decide +kernel)
theorem dX12_voiceLine_130 : decode cX12_voiceLine 130 = .ok (.invokevirtual 250, 3) := xh_invokevirtual (by decide +kernel)
theorem dX12_voiceLine_137 : decode cX12_voiceLine 137 = .ok (.invokevirtual 279, 3) := xh_invokevirtual (by decide +kernel)
theorem dX12_voiceLine_144 : decode cX12_voiceLine 144 = .ok (.invokevirtual 223, 3) := xh_invokevirtual (by decide +kernel)
theorem dX12_voiceLine_156 : decode cX12_voiceLine 156 = .ok (.invokevirtual 250, 3) := xh_invokevirtual (by decide +kernel)
theorem dX12_voiceLine_164 : decode cX12_voiceLine 164 = .ok (.invokevirtual 233, 3) := xh_invokevirtual (by decide +kernel)
theorem dX12_voiceLine_169 : decode cX12_voiceLine 169 = .ok (.invokevirtual 254, 3) := xh_invokevirtual (by decide +kernel)
theorem dX12_whole_2 : decode cX12_whole 2 = .ok (.putfield 163, 3) := xh_putfield (by decide +kernel)
theorem dX12_whole_7 : decode cX12_whole 7 = .ok (.invokevirtual 335, 3) := xh_invokevirtual (by decide +kernel)
theorem dX12_whole_32 : decode cX12_whole 32 = .ok (.ldc2_w 504, 3) := xh_ldc2_w (by decide +kernel)
theorem dX12_whole_38 : decode cX12_whole 38 = .ok (.invokevirtual 338, 3) := xh_invokevirtual (by decide +kernel)
theorem dX12_whole_81 : decode cX12_whole 81 = .ok (.invokevirtual 411, 3) := xh_invokevirtual (by decide +kernel)
theorem dX12_whole_91 : decode cX12_whole 91 = .ok (.ldc2_w 506, 3) := xh_ldc2_w (by decide +kernel)
theorem dX12_whole_107 : decode cX12_whole 107 = .ok (.invokestatic 482, 3) := xh_invokestatic (by decide +kernel)
end
section
theorem dX12_within_17 : decode cX12_within 17 = .ok (.invokevirtual 368, 3) := xh_invokevirtual (by decide +kernel)
theorem dX12_within_34 : decode cX12_within 34 = .ok (.invokestatic 371, 3) := xh_invokestatic (by decide +kernel)
theorem dX12_within_37 : decode cX12_within 37 = .ok (.invokestatic 375, 3) := xh_invokestatic (by decide +kernel)
theorem dX12_word_5 : decode cX12_word 5 = .ok (.ldc 206, 2) := by decide +kernel
theorem dX12_word_7 : decode cX12_word 7 = .ok (.invokevirtual 208, 3) := xh_invokevirtual (by decide +kernel)
theorem dX12_word_15 : decode cX12_word 15 = .ok (.ldc 206, 2) := by decide +kernel
theorem dX12_word_20 : decode cX12_word 20 = .ok (.invokevirtual 213, 3) := xh_invokevirtual (by decide +kernel)
theorem dX12_word_52 : decode cX12_word 52 = .ok (.ldc 206, 2) := by decide +kernel
theorem dX12_word_57 : decode cX12_word 57 = .ok (.invokevirtual 213, 3) := xh_invokevirtual (by decide +kernel)
theorem dX12_word_69 : decode cX12_word 69 = .ok (.ldc 206, 2) := by decide +kernel
theorem dX12_word_74 : decode cX12_word 74 = .ok (.invokevirtual 213, 3) := xh_invokevirtual (by decide +kernel)
theorem dX12_word_97 : decode cX12_word 97 = .ok (.ldc 206, 2) := by decide +kernel
theorem dX12_word_100 : decode cX12_word 100 = .ok (.invokevirtual 213, 3) := xh_invokevirtual (by decide +kernel)
theorem dX12_works_13 : decode cX12_works 13 = .ok (.sipush 260, 3) := by decide +kernel
theorem dX12_works_40 : decode cX12_works 40 = .ok (.invokestatic 351, 3) := xh_invokestatic (by decide +kernel)
theorem dX12_works_66 : decode cX12_works 66 = .ok (.putfield 348, 3) := xh_putfield (by decide +kernel)
theorem dX12_works_70 : decode cX12_works 70 = .ok (.lookupswitch 314 #[(42, 116), (43, 98), (45, 107), (47, 151), (60, 168), (61, 208), (62, 188), (256, 228), (257, 268), (258, 248), (261, 288)], 98) := by decide +kernel
theorem dX12_works_194 : decode cX12_works 194 = .ok (.invokestatic 355, 3) := xh_invokestatic (by decide +kernel)
theorem dX12_works_197 : decode cX12_works 197 = .ok (.ldc2_w 361, 3) := xh_ldc2_w (by decide +kernel)
theorem dX12_works_202 : decode cX12_works 202 = .ok (.invokestatic 355, 3) := xh_invokestatic (by decide +kernel)
theorem dX12_works_250 : decode cX12_works 250 = .ok (.invokestatic 351, 3) := xh_invokestatic (by decide +kernel)
theorem dX12_works_270 : decode cX12_works 270 = .ok (.invokestatic 351, 3) := xh_invokestatic (by decide +kernel)
theorem dX12_works_290 : decode cX12_works 290 = .ok (.invokestatic 351, 3) := xh_invokestatic (by decide +kernel)
theorem dX12_works_310 : decode cX12_works 310 = .ok (.invokestatic 351, 3) := xh_invokestatic (by decide +kernel)
theorem dX12_works_330 : decode cX12_works 330 = .ok (.invokestatic 351, 3) := xh_invokestatic (by decide +kernel)
theorem dX12_works_350 : decode cX12_works 350 = .ok (.invokestatic 351, 3) := xh_invokestatic (by decide +kernel)
theorem dX12_works_376 : decode cX12_works 376 = .ok (.invokestatic 351, 3) := xh_invokestatic (by decide +kernel)
theorem dX12_works_402 : decode cX12_works 402 = .ok (.invokestatic 351, 3) := xh_invokestatic (by decide +kernel)
theorem dX12_works_422 : decode cX12_works 422 = .ok (.ldc2_w 361, 3) := xh_ldc2_w (by decide +kernel)
theorem dX12_works_431 : decode cX12_works 431 = .ok (.ldc2_w 363, 3) := xh_ldc2_w (by decide +kernel)
theorem dX12_wrong_10 : decode cX12_wrong 10 = .ok (.putfield 217, 3) := xh_putfield (by decide +kernel)
theorem dX12_wrong_18 : decode cX12_wrong 18 = .ok (.putfield 220, 3) := xh_putfield (by decide +kernel)
theorem dJ6_bitCount_0f7a4_4 : decode cJ6_bitCount_0f7a4 4 = .ok (.ldc_w 265, 3) := by decide +kernel
theorem dJ6_bitCount_0f7a4_11 : decode cJ6_bitCount_0f7a4 11 = .ok (.ldc_w 266, 3) := by decide +kernel
theorem dJ6_bitCount_0f7a4_18 : decode cJ6_bitCount_0f7a4 18 = .ok (.ldc_w 266, 3) := by decide +kernel
theorem dJ6_bitCount_0f7a4_29 : decode cJ6_bitCount_0f7a4 29 = .ok (.ldc_w 267, 3) := by decide +kernel
theorem dJ13_bitCount_95d88_4 : decode cJ13_bitCount_95d88 4 = .ok (.ldc2_w 314, 3) := xh_ldc2_w (by decide +kernel)
theorem dJ13_bitCount_95d88_11 : decode cJ13_bitCount_95d88 11 = .ok (.ldc2_w 316, 3) := xh_ldc2_w (by decide +kernel)
theorem dJ13_bitCount_95d88_18 : decode cJ13_bitCount_95d88 18 = .ok (.ldc2_w 316, 3) := xh_ldc2_w (by decide +kernel)
theorem dJ13_bitCount_95d88_29 : decode cJ13_bitCount_95d88 29 = .ok (.ldc2_w 318, 3) := xh_ldc2_w (by decide +kernel)
theorem dJ0_charAt_5068e_1 : decode cJ0_charAt_5068e 1 = .ok (.invokevirtual 492, 3) := xh_invokevirtual (by decide +kernel)
theorem dJ0_charAt_5068e_8 : decode cJ0_charAt_5068e 8 = .ok (.getfield 9, 3) := xh_getfield (by decide +kernel)
theorem dJ0_charAt_5068e_12 : decode cJ0_charAt_5068e 12 = .ok (.invokestatic 495, 3) := xh_invokestatic (by decide +kernel)
theorem dJ0_charAt_5068e_15 : decode cJ0_charAt_5068e 15 = .ok (.ireturn, 1) := by decide +kernel
theorem dJ0_charAt_5068e_17 : decode cJ0_charAt_5068e 17 = .ok (.getfield 9, 3) := xh_getfield (by decide +kernel)
theorem dJ0_charAt_5068e_24 : decode cJ0_charAt_5068e 24 = .ok (.ireturn, 1) := by decide +kernel
theorem dJ0_checkIndex_df160_2 : decode cJ0_checkIndex_df160 2 = .ok (.getstatic 1053, 3) := xh_getstatic (by decide +kernel)
theorem dJ0_checkIndex_df160_5 : decode cJ0_checkIndex_df160 5 = .ok (.invokestatic 1059, 3) := xh_invokestatic (by decide +kernel)
theorem dJ0_coder_7d493_0 : decode cJ0_coder_7d493 0 = .ok (.getstatic 38, 3) := xh_getstatic (by decide +kernel)
theorem dJ0_coder_7d493_7 : decode cJ0_coder_7d493 7 = .ok (.getfield 15, 3) := xh_getfield (by decide +kernel)
theorem dJ0_coder_7d493_14 : decode cJ0_coder_7d493 14 = .ok (.ireturn, 1) := by decide +kernel
theorem dJ0_isLatin1_aae02_0 : decode cJ0_isLatin1_aae02 0 = .ok (.getstatic 38, 3) := xh_getstatic (by decide +kernel)
theorem dJ0_isLatin1_aae02_7 : decode cJ0_isLatin1_aae02 7 = .ok (.getfield 15, 3) := xh_getfield (by decide +kernel)
theorem dJ0_length_8abf5_1 : decode cJ0_length_8abf5 1 = .ok (.getfield 9, 3) := xh_getfield (by decide +kernel)
theorem dJ0_length_8abf5_6 : decode cJ0_length_8abf5 6 = .ok (.invokevirtual 335, 3) := xh_invokevirtual (by decide +kernel)
theorem dJ1_charAt_3b067_3 : decode cJ1_charAt_3b067 3 = .ok (.invokestatic 9, 3) := xh_invokestatic (by decide +kernel)
theorem dJ1_charAt_3b067_8 : decode cJ1_charAt_3b067 8 = .ok (.baload, 1) := by decide +kernel
theorem dJ1_charAt_3b067_9 : decode cJ1_charAt_3b067 9 = .ok (.sipush 255, 3) := by decide +kernel
theorem dJ1_charAt_3b067_14 : decode cJ1_charAt_3b067 14 = .ok (.ireturn, 1) := by decide +kernel
theorem dL_law_0 : decode cL_law 0 = .ok (.new 8, 3) := xh_new (by decide +kernel)
theorem dL_law_4 : decode cL_law 4 = .ok (.invokespecial 17, 3) := xh_invokespecial (by decide +kernel)
theorem dL_law_8 : decode cL_law 8 = .ok (.new 18, 3) := xh_new (by decide +kernel)
theorem dL_law_12 : decode cL_law 12 = .ok (.invokespecial 20, 3) := xh_invokespecial (by decide +kernel)
theorem dL_law_227 : decode cL_law 227 = .ok (.invokevirtual 21, 3) := xh_invokevirtual (by decide +kernel)
theorem dL_law_262 : decode cL_law 262 = .ok (.invokevirtual 25, 3) := xh_invokevirtual (by decide +kernel)
theorem dL_law_276 : decode cL_law 276 = .ok (.invokevirtual 26, 3) := xh_invokevirtual (by decide +kernel)
theorem dL_law_287 : decode cL_law 287 = .ok (.invokevirtual 30, 3) := xh_invokevirtual (by decide +kernel)
theorem dL_law_301 : decode cL_law 301 = .ok (.invokevirtual 31, 3) := xh_invokevirtual (by decide +kernel)
theorem dL_law_312 : decode cL_law 312 = .ok (.invokevirtual 34, 3) := xh_invokevirtual (by decide +kernel)
theorem dL_law_332 : decode cL_law 332 = .ok (.invokevirtual 35, 3) := xh_invokevirtual (by decide +kernel)
theorem dL_law_349 : decode cL_law 349 = .ok (.invokevirtual 38, 3) := xh_invokevirtual (by decide +kernel)
theorem dL_law_388 : decode cL_law 388 = .ok (.invokevirtual 44, 3) := xh_invokevirtual (by decide +kernel)
theorem dL_law_409 : decode cL_law 409 = .ok (.invokevirtual 45, 3) := xh_invokevirtual (by decide +kernel)
theorem dL_law_426 : decode cL_law 426 = .ok (.invokevirtual 48, 3) := xh_invokevirtual (by decide +kernel)
theorem dL_law_446 : decode cL_law 446 = .ok (.invokevirtual 49, 3) := xh_invokevirtual (by decide +kernel)
theorem dL_law_463 : decode cL_law 463 = .ok (.invokevirtual 52, 3) := xh_invokevirtual (by decide +kernel)
theorem dL_law_489 : decode cL_law 489 = .ok (.invokevirtual 53, 3) := xh_invokevirtual (by decide +kernel)
theorem dL_law_512 : decode cL_law 512 = .ok (.invokevirtual 57, 3) := xh_invokevirtual (by decide +kernel)
theorem dL_law_538 : decode cL_law 538 = .ok (.invokevirtual 58, 3) := xh_invokevirtual (by decide +kernel)
theorem dL_law_561 : decode cL_law 561 = .ok (.invokevirtual 61, 3) := xh_invokevirtual (by decide +kernel)
theorem dL_law_587 : decode cL_law 587 = .ok (.invokevirtual 62, 3) := xh_invokevirtual (by decide +kernel)
theorem dL_law_610 : decode cL_law 610 = .ok (.invokevirtual 65, 3) := xh_invokevirtual (by decide +kernel)
theorem dL_law_630 : decode cL_law 630 = .ok (.invokevirtual 66, 3) := xh_invokevirtual (by decide +kernel)
theorem dL_law_647 : decode cL_law 647 = .ok (.invokevirtual 69, 3) := xh_invokevirtual (by decide +kernel)
theorem dL_law_661 : decode cL_law 661 = .ok (.invokevirtual 70, 3) := xh_invokevirtual (by decide +kernel)
theorem dL_law_672 : decode cL_law 672 = .ok (.invokevirtual 73, 3) := xh_invokevirtual (by decide +kernel)
theorem dL_law_698 : decode cL_law 698 = .ok (.invokevirtual 74, 3) := xh_invokevirtual (by decide +kernel)
theorem dL_law_721 : decode cL_law 721 = .ok (.invokevirtual 77, 3) := xh_invokevirtual (by decide +kernel)
theorem dL_law_729 : decode cL_law 729 = .ok (.invokevirtual 78, 3) := xh_invokevirtual (by decide +kernel)
theorem dL_law_734 : decode cL_law 734 = .ok (.invokevirtual 82, 3) := xh_invokevirtual (by decide +kernel)
theorem dL_law_754 : decode cL_law 754 = .ok (.invokevirtual 83, 3) := xh_invokevirtual (by decide +kernel)
theorem dL_law_771 : decode cL_law 771 = .ok (.invokevirtual 86, 3) := xh_invokevirtual (by decide +kernel)
theorem dL_law_791 : decode cL_law 791 = .ok (.invokevirtual 87, 3) := xh_invokevirtual (by decide +kernel)
theorem dL_law_808 : decode cL_law 808 = .ok (.invokevirtual 90, 3) := xh_invokevirtual (by decide +kernel)
theorem dL_law_816 : decode cL_law 816 = .ok (.invokevirtual 91, 3) := xh_invokevirtual (by decide +kernel)
theorem dL_law_821 : decode cL_law 821 = .ok (.invokevirtual 94, 3) := xh_invokevirtual (by decide +kernel)
theorem dL_law_841 : decode cL_law 841 = .ok (.invokevirtual 95, 3) := xh_invokevirtual (by decide +kernel)
theorem dL_law_858 : decode cL_law 858 = .ok (.invokevirtual 98, 3) := xh_invokevirtual (by decide +kernel)
theorem dL_law_884 : decode cL_law 884 = .ok (.invokevirtual 99, 3) := xh_invokevirtual (by decide +kernel)
theorem dL_law_907 : decode cL_law 907 = .ok (.invokevirtual 102, 3) := xh_invokevirtual (by decide +kernel)
theorem dL_law_933 : decode cL_law 933 = .ok (.invokevirtual 103, 3) := xh_invokevirtual (by decide +kernel)
theorem dL_law_956 : decode cL_law 956 = .ok (.invokevirtual 106, 3) := xh_invokevirtual (by decide +kernel)
theorem dL_law_970 : decode cL_law 970 = .ok (.invokevirtual 107, 3) := xh_invokevirtual (by decide +kernel)
theorem dL_law_980 : decode cL_law 980 = .ok (.invokevirtual 110, 3) := xh_invokevirtual (by decide +kernel)
theorem dL_law_995 : decode cL_law 995 = .ok (.invokevirtual 111, 3) := xh_invokevirtual (by decide +kernel)
theorem dL_law_1006 : decode cL_law 1006 = .ok (.invokevirtual 114, 3) := xh_invokevirtual (by decide +kernel)
theorem dL_law_1020 : decode cL_law 1020 = .ok (.invokevirtual 115, 3) := xh_invokevirtual (by decide +kernel)
theorem dL_law_1031 : decode cL_law 1031 = .ok (.invokevirtual 118, 3) := xh_invokevirtual (by decide +kernel)
theorem dL_law_1045 : decode cL_law 1045 = .ok (.invokevirtual 119, 3) := xh_invokevirtual (by decide +kernel)
theorem dL_law_1056 : decode cL_law 1056 = .ok (.invokevirtual 123, 3) := xh_invokevirtual (by decide +kernel)
theorem dL_law_1064 : decode cL_law 1064 = .ok (.invokevirtual 124, 3) := xh_invokevirtual (by decide +kernel)
theorem dL_law_1069 : decode cL_law 1069 = .ok (.invokevirtual 127, 3) := xh_invokevirtual (by decide +kernel)
theorem dL_law_1089 : decode cL_law 1089 = .ok (.invokevirtual 128, 3) := xh_invokevirtual (by decide +kernel)
theorem dL_law_1106 : decode cL_law 1106 = .ok (.invokevirtual 131, 3) := xh_invokevirtual (by decide +kernel)
theorem dL_law_1114 : decode cL_law 1114 = .ok (.invokevirtual 132, 3) := xh_invokevirtual (by decide +kernel)
theorem dL_law_1119 : decode cL_law 1119 = .ok (.invokevirtual 135, 3) := xh_invokevirtual (by decide +kernel)
theorem dL_law_1151 : decode cL_law 1151 = .ok (.invokevirtual 136, 3) := xh_invokevirtual (by decide +kernel)
theorem dL_law_1180 : decode cL_law 1180 = .ok (.invokevirtual 140, 3) := xh_invokevirtual (by decide +kernel)
theorem dL_law_1218 : decode cL_law 1218 = .ok (.invokevirtual 141, 3) := xh_invokevirtual (by decide +kernel)
theorem dL_law_1253 : decode cL_law 1253 = .ok (.invokevirtual 144, 3) := xh_invokevirtual (by decide +kernel)
theorem dL_law_1273 : decode cL_law 1273 = .ok (.invokevirtual 145, 3) := xh_invokevirtual (by decide +kernel)
theorem dL_law_1290 : decode cL_law 1290 = .ok (.invokevirtual 148, 3) := xh_invokevirtual (by decide +kernel)
theorem dL_law_1304 : decode cL_law 1304 = .ok (.invokevirtual 149, 3) := xh_invokevirtual (by decide +kernel)
theorem dL_law_1315 : decode cL_law 1315 = .ok (.invokevirtual 152, 3) := xh_invokevirtual (by decide +kernel)
theorem dL_law_1341 : decode cL_law 1341 = .ok (.invokevirtual 153, 3) := xh_invokevirtual (by decide +kernel)
theorem dL_law_1364 : decode cL_law 1364 = .ok (.invokevirtual 157, 3) := xh_invokevirtual (by decide +kernel)
theorem dL_law_1372 : decode cL_law 1372 = .ok (.invokevirtual 158, 3) := xh_invokevirtual (by decide +kernel)
theorem dL_law_1377 : decode cL_law 1377 = .ok (.invokevirtual 161, 3) := xh_invokevirtual (by decide +kernel)
theorem dL_law_1385 : decode cL_law 1385 = .ok (.invokevirtual 162, 3) := xh_invokevirtual (by decide +kernel)
theorem dL_law_1390 : decode cL_law 1390 = .ok (.invokevirtual 165, 3) := xh_invokevirtual (by decide +kernel)
theorem dL_law_1404 : decode cL_law 1404 = .ok (.invokevirtual 166, 3) := xh_invokevirtual (by decide +kernel)
theorem dL_law_1415 : decode cL_law 1415 = .ok (.invokevirtual 169, 3) := xh_invokevirtual (by decide +kernel)
theorem dqo {c : ByteArray} {L : List (Nat × Instr × Nat)} (h : L.all (fun q => decide (decode c q.1 = .ok (q.2.1, q.2.2))) = true) {q : Nat × Instr × Nat} (i : Nat) (hi : L[i]? = some q) : decode c q.1 = .ok (q.2.1, q.2.2) := of_decide_eq_true (List.all_eq_true.mp h q (List.mem_of_getElem? hi))
def dql_0 : List (Nat × Instr × Nat) := [(17, .newarray .long, 2), (40, .tableswitch 1382 0 34 #[156, 229, 254, 279, 316, 356, 393, 430, 479, 528, 577, 614, 639, 688, 701, 738, 775, 788, 825, 874, 923, 948, 973, 998, 1023, 1036, 1073, 1086, 1147, 1220, 1257, 1282, 1331, 1344, 1357], 156)]
theorem adql_0 : dql_0.all (fun q => decide (decode cL_law q.1 = .ok (q.2.1, q.2.2))) = true := by decide +kernel
theorem dL_law_17 : decode cL_law 17 = .ok (.newarray .long, 2) := dqo adql_0 (q := (17, .newarray .long, 2)) 0 rfl
theorem dL_law_40 : decode cL_law 40 = .ok (.tableswitch 1382 0 34 #[156, 229, 254, 279, 316, 356, 393, 430, 479, 528, 577, 614, 639, 688, 701, 738, 775, 788, 825, 874, 923, 948, 973, 998, 1023, 1036, 1073, 1086, 1147, 1220, 1257, 1282, 1331, 1344, 1357], 156) := dqo adql_0 (q := (40, .tableswitch 1382 0 34 #[156, 229, 254, 279, 316, 356, 393, 430, 479, 528, 577, 614, 639, 688, 701, 738, 775, 788, 825, 874, 923, 948, 973, 998, 1023, 1036, 1073, 1086, 1147, 1220, 1257, 1282, 1331, 1344, 1357], 156)) 1 rfl
end
section
set_option maxRecDepth 20000 in
theorem xw_oc : Cond.code Lib.objectInit ⟨#[0xb1]⟩ 1 none ∈ xgt := wm_1 35 rfl rfl
set_option maxRecDepth 20000 in
theorem xw_0 : Cond.methodLink RX11 3 Lib.objectInit ∈ xgt := wm_1 33 rfl rfl
set_option maxRecDepth 20000 in
theorem xw_1 : Cond.instanceMethod Lib.objectInit ∈ xgt := wm_1 34 rfl rfl
set_option maxRecDepth 20000 in
theorem xw_2 : Cond.arrayClass .byte ∈ xgt := wm_1 61 rfl rfl
set_option maxRecDepth 20000 in
theorem xw_3 : Cond.fieldLink RX11 9 (TX11 0).1 (TX11 0).2.1 (TX11 0).2.2.1 ∈ xgt := wm_3 76 rfl rfl
set_option maxRecDepth 20000 in
theorem xw_4 : Cond.classLink RX11 13 RX4 ∈ xgt := wm_1 36 rfl rfl
set_option maxRecDepth 20000 in
theorem xw_5 : Cond.instantiable RX4 19 ∈ xgt := wm_1 37 rfl rfl
set_option maxRecDepth 20000 in
theorem xw_6 : Cond.initialized RX4 ∈ xgt := wm_1 2 rfl rfl
set_option maxRecDepth 20000 in
theorem xw_7 : Cond.instanceMethod yX4_init ∈ xgt := wm_1 39 rfl rfl
set_option maxRecDepth 20000 in
theorem xw_8 : Cond.fieldLink RX11 16 (TX11 1).1 (TX11 1).2.1 (TX11 1).2.2.1 ∈ xgt := wm_3 77 rfl rfl
set_option maxRecDepth 20000 in
theorem xw_9 : Cond.fieldLink RX11 20 (TX11 2).1 (TX11 2).2.1 (TX11 2).2.2.1 ∈ xgt := wm_3 78 rfl rfl
set_option maxRecDepth 20000 in
theorem xw_10 : Cond.classLink RX11 23 RX8 ∈ xgt := wm_1 215 rfl rfl
set_option maxRecDepth 20000 in
theorem xw_11 : Cond.instantiable RX8 4 ∈ xgt := wm_1 216 rfl rfl
set_option maxRecDepth 20000 in
theorem xw_12 : Cond.initialized RX8 ∈ xgt := wm_1 5 rfl rfl
set_option maxRecDepth 20000 in
theorem xw_13 : Cond.classLink RX11 25 RX9 ∈ xgt := wm_1 217 rfl rfl
set_option maxRecDepth 20000 in
theorem xw_14 : Cond.instantiable RX9 9 ∈ xgt := wm_1 218 rfl rfl
set_option maxRecDepth 20000 in
theorem xw_15 : Cond.initialized RX9 ∈ xgt := wm_1 6 rfl rfl
set_option maxRecDepth 20000 in
theorem xw_16 : Cond.instanceMethod yX9_init ∈ xgt := wm_1 220 rfl rfl
set_option maxRecDepth 20000 in
theorem xw_17 : Cond.methodLink RX11 27 yX9_init ∈ xgt := wm_1 219 rfl rfl
set_option maxRecDepth 20000 in
theorem xw_18 : Cond.instanceMethod yX8_init ∈ xgt := wm_2 72 rfl rfl
set_option maxRecDepth 20000 in
theorem xw_19 : Cond.methodLink RX11 30 yX8_init ∈ xgt := wm_2 71 rfl rfl
set_option maxRecDepth 20000 in
theorem xw_20 : Cond.fieldLink RX11 33 (TX11 3).1 (TX11 3).2.1 (TX11 3).2.2.1 ∈ xgt := wm_3 79 rfl rfl
set_option maxRecDepth 20000 in
theorem xw_21 : Cond.classLink RX11 37 RX10 ∈ xgt := wm_2 89 rfl rfl
set_option maxRecDepth 20000 in
theorem xw_22 : Cond.instantiable RX10 13 ∈ xgt := wm_2 90 rfl rfl
set_option maxRecDepth 20000 in
theorem xw_23 : Cond.initialized RX10 ∈ xgt := wm_1 11 rfl rfl
set_option maxRecDepth 20000 in
theorem xw_24 : Cond.instanceMethod yX10_init ∈ xgt := wm_2 92 rfl rfl
set_option maxRecDepth 20000 in
theorem xw_25 : Cond.fieldLink RX11 40 (TX11 4).1 (TX11 4).2.1 (TX11 4).2.2.1 ∈ xgt := wm_3 80 rfl rfl
set_option maxRecDepth 20000 in
theorem xw_26 : Cond.fieldLink RX11 44 (TX11 5).1 (TX11 5).2.1 (TX11 5).2.2.1 ∈ xgt := wm_3 81 rfl rfl
set_option maxRecDepth 20000 in
theorem xw_27 : Cond.classLink RX11 47 RX3 ∈ xgt := wm_2 151 rfl rfl
set_option maxRecDepth 20000 in
theorem xw_28 : Cond.instantiable RX3 2 ∈ xgt := wm_2 152 rfl rfl
set_option maxRecDepth 20000 in
theorem xw_29 : Cond.initialized RX3 ∈ xgt := wm_1 12 rfl rfl
set_option maxRecDepth 20000 in
theorem xw_30 : Cond.instanceMethod yX3_init ∈ xgt := wm_2 154 rfl rfl
set_option maxRecDepth 20000 in
theorem xw_31 : Cond.fieldLink RX11 50 (TX11 6).1 (TX11 6).2.1 (TX11 6).2.2.1 ∈ xgt := wm_3 82 rfl rfl
set_option maxRecDepth 20000 in
theorem xw_32 : Cond.classLink RX11 54 RX5 ∈ xgt := wm_2 165 rfl rfl
set_option maxRecDepth 20000 in
theorem xw_33 : Cond.instantiable RX5 6 ∈ xgt := wm_2 166 rfl rfl
set_option maxRecDepth 20000 in
theorem xw_34 : Cond.initialized RX5 ∈ xgt := wm_1 13 rfl rfl
set_option maxRecDepth 20000 in
theorem xw_35 : Cond.instanceMethod yX5_init ∈ xgt := wm_2 168 rfl rfl
set_option maxRecDepth 20000 in
theorem xw_36 : Cond.methodLink RX11 56 yX5_init ∈ xgt := wm_2 167 rfl rfl
set_option maxRecDepth 20000 in
theorem xw_37 : Cond.fieldLink RX11 59 (TX11 7).1 (TX11 7).2.1 (TX11 7).2.2.1 ∈ xgt := wm_3 83 rfl rfl
set_option maxRecDepth 20000 in
theorem xw_38 : Cond.classLink RX11 63 RX1 ∈ xgt := wm_2 191 rfl rfl
set_option maxRecDepth 20000 in
theorem xw_39 : Cond.instantiable RX1 11 ∈ xgt := wm_2 192 rfl rfl
set_option maxRecDepth 20000 in
theorem xw_40 : Cond.initialized RX1 ∈ xgt := wm_1 14 rfl rfl
set_option maxRecDepth 20000 in
theorem xw_41 : Cond.instanceMethod yX1_init ∈ xgt := wm_2 194 rfl rfl
set_option maxRecDepth 20000 in
theorem xw_42 : Cond.methodLink RX11 65 yX1_init ∈ xgt := wm_2 193 rfl rfl
set_option maxRecDepth 20000 in
theorem xw_43 : Cond.fieldLink RX11 68 (TX11 8).1 (TX11 8).2.1 (TX11 8).2.2.1 ∈ xgt := wm_3 84 rfl rfl
set_option maxRecDepth 20000 in
theorem xw_44 : Cond.classLink RX11 72 RX7 ∈ xgt := wm_2 235 rfl rfl
set_option maxRecDepth 20000 in
theorem xw_45 : Cond.instantiable RX7 6 ∈ xgt := wm_2 236 rfl rfl
set_option maxRecDepth 20000 in
theorem xw_46 : Cond.initialized RX7 ∈ xgt := wm_1 15 rfl rfl
set_option maxRecDepth 20000 in
theorem xw_47 : Cond.instanceMethod yX7_init ∈ xgt := wm_2 238 rfl rfl
set_option maxRecDepth 20000 in
theorem xw_48 : Cond.methodLink RX11 74 yX7_init ∈ xgt := wm_2 237 rfl rfl
set_option maxRecDepth 20000 in
theorem xw_49 : Cond.fieldLink RX11 75 (TX11 9).1 (TX11 9).2.1 (TX11 9).2.2.1 ∈ xgt := wm_3 85 rfl rfl
set_option maxRecDepth 20000 in
theorem xw_50 : Cond.classLink RX11 79 RX0 ∈ xgt := wm_3 23 rfl rfl
set_option maxRecDepth 20000 in
theorem xw_51 : Cond.instantiable RX0 10 ∈ xgt := wm_3 24 rfl rfl
set_option maxRecDepth 20000 in
theorem xw_52 : Cond.initialized RX0 ∈ xgt := wm_1 16 rfl rfl
set_option maxRecDepth 20000 in
theorem xw_53 : Cond.instanceMethod yX0_init ∈ xgt := wm_3 26 rfl rfl
set_option maxRecDepth 20000 in
theorem xw_54 : Cond.methodLink RX11 81 yX0_init ∈ xgt := wm_3 25 rfl rfl
set_option maxRecDepth 20000 in
theorem xw_55 : Cond.fieldLink RX11 82 (TX11 10).1 (TX11 10).2.1 (TX11 10).2.2.1 ∈ xgt := wm_3 86 rfl rfl
set_option maxRecDepth 20000 in
theorem xw_56 : Cond.fieldLink RX11 86 (TX11 11).1 (TX11 11).2.1 (TX11 11).2.2.1 ∈ xgt := wm_3 87 rfl rfl
set_option maxRecDepth 20000 in
theorem xw_57 : Cond.fieldLink RX11 90 (TX11 12).1 (TX11 12).2.1 (TX11 12).2.2.1 ∈ xgt := wm_3 88 rfl rfl
set_option maxRecDepth 20000 in
theorem xw_58 : Cond.fieldLink RX11 93 (TX11 13).1 (TX11 13).2.1 (TX11 13).2.2.1 ∈ xgt := wm_3 89 rfl rfl
set_option maxRecDepth 20000 in
theorem xw_59 : Cond.fieldLink RX11 96 (TX11 14).1 (TX11 14).2.1 (TX11 14).2.2.1 ∈ xgt := wm_3 90 rfl rfl
set_option maxRecDepth 20000 in
theorem xw_60 : Cond.instanceMethod yX10_begin ∈ xgt := wm_3 63 rfl rfl
set_option maxRecDepth 20000 in
theorem xw_61 : Cond.selects yX10_begin.cls yX10_begin yX10_begin ∈ xgt := wm_3 64 rfl rfl
set_option maxRecDepth 20000 in
theorem xw_62 : Cond.methodLink RX11 100 yX10_begin ∈ xgt := wm_3 62 rfl rfl
set_option maxRecDepth 20000 in
theorem xw_63 : Cond.code yX11_init cX11_init 1 none ∈ xgt := wm_1 32 rfl rfl
set_option maxRecDepth 20000 in
theorem xw_64 : Cond.initialized RX11 ∈ xgt := wm_1 1 rfl rfl
set_option maxRecDepth 20000 in
theorem xw_65 : Cond.instanceMethod yX10_take ∈ xgt := wm_5 204 rfl rfl
set_option maxRecDepth 20000 in
theorem xw_66 : Cond.selects yX10_take.cls yX10_take yX10_take ∈ xgt := wm_5 205 rfl rfl
set_option maxRecDepth 20000 in
theorem xw_67 : Cond.methodLink RX11 354 yX10_take ∈ xgt := wm_5 203 rfl rfl
set_option maxRecDepth 20000 in
theorem xw_68 : Cond.fieldLink RX11 124 (TX1 10).1 (TX1 10).2.1 (TX1 10).2.2.1 ∈ xgt := wm_2 211 rfl rfl
set_option maxRecDepth 20000 in
theorem xw_69 : Cond.fieldLink RX11 227 (TX10 7).1 (TX10 7).2.1 (TX10 7).2.2.1 ∈ xgt := wm_2 112 rfl rfl
set_option maxRecDepth 20000 in
theorem xw_70 : Cond.code yX11_back cX11_back 1 (some .int) ∈ xgt := wm_5 210 rfl rfl
set_option maxRecDepth 20000 in
theorem xw_71 : Cond.fieldLink RX11 139 (TX4 2).1 (TX4 2).2.1 (TX4 2).2.2.1 ∈ xgt := wm_1 118 rfl rfl
set_option maxRecDepth 20000 in
theorem xw_72 : Cond.instanceMethod yX6_holds ∈ xgt := wm_4 76 rfl rfl
set_option maxRecDepth 20000 in
theorem xw_73 : Cond.selects yX6_holds.cls yX6_holds yX6_holds ∈ xgt := wm_4 77 rfl rfl
set_option maxRecDepth 20000 in
theorem xw_74 : Cond.methodLink RX11 145 yX6_holds ∈ xgt := wm_4 75 rfl rfl
set_option maxRecDepth 20000 in
theorem xw_75 : Cond.fieldLink RX11 192 (TX4 11).1 (TX4 11).2.1 (TX4 11).2.2.1 ∈ xgt := wm_1 153 rfl rfl
set_option maxRecDepth 20000 in
theorem xw_76 : Cond.methodLink RX11 202 yX11_slotOf ∈ xgt := wm_4 92 rfl rfl
set_option maxRecDepth 20000 in
theorem xw_77 : Cond.static yX11_slotOf ∈ xgt := wm_3 227 rfl rfl
set_option maxRecDepth 20000 in
theorem xw_78 : Cond.fieldLink RX11 233 (TX10 3).1 (TX10 3).2.1 (TX10 3).2.2.1 ∈ xgt := wm_2 103 rfl rfl
set_option maxRecDepth 20000 in
theorem xw_79 : Cond.instanceMethod yX5_soundBits ∈ xgt := wm_4 111 rfl rfl
set_option maxRecDepth 20000 in
theorem xw_80 : Cond.selects yX5_soundBits.cls yX5_soundBits yX5_soundBits ∈ xgt := wm_4 112 rfl rfl
set_option maxRecDepth 20000 in
theorem xw_81 : Cond.methodLink RX11 213 yX5_soundBits ∈ xgt := wm_4 187 rfl rfl
set_option maxRecDepth 20000 in
theorem xw_82 : Cond.code yX11_bar cX11_bar 7 (some .int) ∈ xgt := wm_4 235 rfl rfl
set_option maxRecDepth 20000 in
theorem xw_83 : Cond.instanceMethod yX1_weigh ∈ xgt := wm_5 27 rfl rfl
set_option maxRecDepth 20000 in
theorem xw_84 : Cond.selects yX1_weigh.cls yX1_weigh yX1_weigh ∈ xgt := wm_5 28 rfl rfl
set_option maxRecDepth 20000 in
theorem xw_85 : Cond.methodLink RX11 267 yX1_weigh ∈ xgt := wm_5 26 rfl rfl
set_option maxRecDepth 20000 in
theorem xw_86 : Cond.instanceMethod yX1_mostNotes ∈ xgt := wm_5 58 rfl rfl
set_option maxRecDepth 20000 in
theorem xw_87 : Cond.selects yX1_mostNotes.cls yX1_mostNotes yX1_mostNotes ∈ xgt := wm_5 59 rfl rfl
set_option maxRecDepth 20000 in
theorem xw_88 : Cond.methodLink RX11 270 yX1_mostNotes ∈ xgt := wm_5 57 rfl rfl
set_option maxRecDepth 20000 in
theorem xw_89 : Cond.instanceMethod yX1_crownsFor ∈ xgt := wm_5 62 rfl rfl
set_option maxRecDepth 20000 in
theorem xw_90 : Cond.selects yX1_crownsFor.cls yX1_crownsFor yX1_crownsFor ∈ xgt := wm_5 63 rfl rfl
set_option maxRecDepth 20000 in
theorem xw_91 : Cond.methodLink RX11 273 yX1_crownsFor ∈ xgt := wm_5 61 rfl rfl
set_option maxRecDepth 20000 in
theorem xw_92 : Cond.code yX11_best cX11_best 4 (some .int) ∈ xgt := wm_5 25 rfl rfl
set_option maxRecDepth 20000 in
theorem xw_93 : Cond.fieldLink RX11 142 (TX4 3).1 (TX4 3).2.1 (TX4 3).2.2.1 ∈ xgt := wm_1 122 rfl rfl
set_option maxRecDepth 20000 in
theorem xw_94 : Cond.fieldLink RX11 221 (TX10 2).1 (TX10 2).2.1 (TX10 2).2.2.1 ∈ xgt := wm_2 101 rfl rfl
set_option maxRecDepth 20000 in
theorem xw_95 : Cond.instanceMethod yX5_bidFor ∈ xgt := wm_4 194 rfl rfl
set_option maxRecDepth 20000 in
theorem xw_96 : Cond.selects yX5_bidFor.cls yX5_bidFor yX5_bidFor ∈ xgt := wm_4 195 rfl rfl
set_option maxRecDepth 20000 in
theorem xw_97 : Cond.methodLink RX11 224 yX5_bidFor ∈ xgt := wm_4 193 rfl rfl
set_option maxRecDepth 20000 in
theorem xw_98 : Cond.code yX11_bids cX11_bids 3 (some .int) ∈ xgt := wm_4 192 rfl rfl
set_option maxRecDepth 20000 in
theorem xw_99 : Cond.instanceMethod yX4_hasPart ∈ xgt := wm_4 88 rfl rfl
set_option maxRecDepth 20000 in
theorem xw_100 : Cond.selects yX4_hasPart.cls yX4_hasPart yX4_hasPart ∈ xgt := wm_4 89 rfl rfl
set_option maxRecDepth 20000 in
theorem xw_101 : Cond.methodLink RX11 195 yX4_hasPart ∈ xgt := wm_4 87 rfl rfl
set_option maxRecDepth 20000 in
theorem xw_102 : Cond.instanceMethod yX1_choose ∈ xgt := wm_5 70 rfl rfl
set_option maxRecDepth 20000 in
theorem xw_103 : Cond.selects yX1_choose.cls yX1_choose yX1_choose ∈ xgt := wm_5 71 rfl rfl
set_option maxRecDepth 20000 in
theorem xw_104 : Cond.methodLink RX11 276 yX1_choose ∈ xgt := wm_5 69 rfl rfl
set_option maxRecDepth 20000 in
theorem xw_105 : Cond.fieldLink RX11 279 (TX1 7).1 (TX1 7).2.1 (TX1 7).2.2.1 ∈ xgt := wm_2 207 rfl rfl
set_option maxRecDepth 20000 in
theorem xw_106 : Cond.code yX11_chosen cX11_chosen 5 (some .int) ∈ xgt := wm_5 68 rfl rfl
set_option maxRecDepth 20000 in
theorem xw_107 : Cond.fieldLink RX11 136 (TX4 1).1 (TX4 1).2.1 (TX4 1).2.2.1 ∈ xgt := wm_1 112 rfl rfl
set_option maxRecDepth 20000 in
theorem xw_108 : Cond.fieldLink RX11 292 (TX6 1).1 (TX6 1).2.1 (TX6 1).2.2.1 ∈ xgt := wm_1 55 rfl rfl
set_option maxRecDepth 20000 in
theorem xw_109 : Cond.fieldLink RX11 163 (TX4 8).1 (TX4 8).2.1 (TX4 8).2.2.1 ∈ xgt := wm_1 141 rfl rfl
set_option maxRecDepth 20000 in
theorem xw_110 : Cond.fieldLink RX11 169 (TX10 1).1 (TX10 1).2.1 (TX10 1).2.2.1 ∈ xgt := wm_2 98 rfl rfl
set_option maxRecDepth 20000 in
theorem xw_111 : Cond.code yX11_claimsOn cX11_claimsOn 4 (some .int) ∈ xgt := wm_4 82 rfl rfl
set_option maxRecDepth 20000 in
theorem xw_112 : Cond.fieldLink RX11 127 (TX4 0).1 (TX4 0).2.1 (TX4 0).2.2.1 ∈ xgt := wm_1 108 rfl rfl
set_option maxRecDepth 20000 in
theorem xw_113 : Cond.fieldLink RX11 357 (TX4 15).1 (TX4 15).2.1 (TX4 15).2.2.1 ∈ xgt := wm_1 167 rfl rfl
set_option maxRecDepth 20000 in
theorem xw_114 : Cond.fieldLink RX11 361 (TX2 4).1 (TX2 4).2.1 (TX2 4).2.2.1 ∈ xgt := wm_1 78 rfl rfl
set_option maxRecDepth 20000 in
theorem xw_115 : Cond.fieldLink RX11 239 (TX10 8).1 (TX10 8).2.1 (TX10 8).2.2.1 ∈ xgt := wm_2 114 rfl rfl
set_option maxRecDepth 20000 in
theorem xw_116 : Cond.fieldLink RX11 246 (TX10 6).1 (TX10 6).2.1 (TX10 6).2.2.1 ∈ xgt := wm_2 109 rfl rfl
set_option maxRecDepth 20000 in
theorem xw_117 : Cond.fieldLink RX11 121 (TX3 1).1 (TX3 1).2.1 (TX3 1).2.2.1 ∈ xgt := wm_2 159 rfl rfl
set_option maxRecDepth 20000 in
theorem xw_118 : Cond.instanceMethod yX11_knownCount ∈ xgt := wm_5 123 rfl rfl
set_option maxRecDepth 20000 in
theorem xw_119 : Cond.selects yX11_knownCount.cls yX11_knownCount yX11_knownCount ∈ xgt := ws_3 (q := (yX11_knownCount, 15)) 9 rfl rfl
set_option maxRecDepth 20000 in
theorem xw_120 : Cond.methodLink RX11 302 yX11_knownCount ∈ xgt := wm_5 121 rfl rfl
set_option maxRecDepth 20000 in
theorem xw_121 : Cond.fieldLink RX11 325 (TX10 10).1 (TX10 10).2.1 (TX10 10).2.2.1 ∈ xgt := wm_2 120 rfl rfl
set_option maxRecDepth 20000 in
theorem xw_122 : Cond.methodLink RX11 216 yJ6_bitCount_0f7a4 ∈ xgt := wm_4 188 rfl rfl
set_option maxRecDepth 20000 in
theorem xw_123 : Cond.static yJ6_bitCount_0f7a4 ∈ xgt := wm_4 124 rfl rfl
set_option maxRecDepth 20000 in
theorem xw_124 : Cond.instanceMethod yX10_allCoin ∈ xgt := wm_5 216 rfl rfl
set_option maxRecDepth 20000 in
theorem xw_125 : Cond.selects yX10_allCoin.cls yX10_allCoin yX10_allCoin ∈ xgt := wm_5 217 rfl rfl
set_option maxRecDepth 20000 in
theorem xw_126 : Cond.methodLink RX11 364 yX10_allCoin ∈ xgt := wm_5 215 rfl rfl
set_option maxRecDepth 20000 in
theorem xw_127 : Cond.code yX11_count cX11_count 2 (some .int) ∈ xgt := wm_5 214 rfl rfl
set_option maxRecDepth 20000 in
theorem xw_128 : Cond.instanceMethod yX4_isBoy ∈ xgt := wm_5 11 rfl rfl
set_option maxRecDepth 20000 in
theorem xw_129 : Cond.selects yX4_isBoy.cls yX4_isBoy yX4_isBoy ∈ xgt := wm_5 12 rfl rfl
set_option maxRecDepth 20000 in
theorem xw_130 : Cond.methodLink RX11 175 yX4_isBoy ∈ xgt := wm_5 10 rfl rfl
set_option maxRecDepth 20000 in
theorem xw_131 : Cond.instanceMethod yX10_isCracked ∈ xgt := wm_4 115 rfl rfl
set_option maxRecDepth 20000 in
theorem xw_132 : Cond.selects yX10_isCracked.cls yX10_isCracked yX10_isCracked ∈ xgt := wm_4 116 rfl rfl
set_option maxRecDepth 20000 in
theorem xw_133 : Cond.methodLink RX11 172 yX10_isCracked ∈ xgt := wm_4 211 rfl rfl
set_option maxRecDepth 20000 in
theorem xw_134 : Cond.instanceMethod yX10_nextNumber ∈ xgt := wm_5 15 rfl rfl
set_option maxRecDepth 20000 in
theorem xw_135 : Cond.selects yX10_nextNumber.cls yX10_nextNumber yX10_nextNumber ∈ xgt := wm_5 16 rfl rfl
set_option maxRecDepth 20000 in
theorem xw_136 : Cond.methodLink RX11 370 yX10_nextNumber ∈ xgt := wm_5 14 rfl rfl
set_option maxRecDepth 20000 in
theorem xw_137 : Cond.instanceMethod yX5_crackFor ∈ xgt := wm_4 204 rfl rfl
set_option maxRecDepth 20000 in
theorem xw_138 : Cond.selects yX5_crackFor.cls yX5_crackFor yX5_crackFor ∈ xgt := wm_4 205 rfl rfl
set_option maxRecDepth 20000 in
theorem xw_139 : Cond.methodLink RX11 230 yX5_crackFor ∈ xgt := wm_4 203 rfl rfl
set_option maxRecDepth 20000 in
theorem xw_140 : Cond.code yX11_crackBoys cX11_crackBoys 3 none ∈ xgt := wm_5 9 rfl rfl
set_option maxRecDepth 20000 in
theorem xw_141 : Cond.code yX11_cracks cX11_cracks 2 (some .int) ∈ xgt := wm_4 202 rfl rfl
set_option maxRecDepth 20000 in
theorem xw_142 : Cond.instanceMethod yX5_dueFor ∈ xgt := wm_4 106 rfl rfl
set_option maxRecDepth 20000 in
theorem xw_143 : Cond.selects yX5_dueFor.cls yX5_dueFor yX5_dueFor ∈ xgt := wm_4 107 rfl rfl
set_option maxRecDepth 20000 in
theorem xw_144 : Cond.methodLink RX11 209 yX5_dueFor ∈ xgt := wm_4 105 rfl rfl
set_option maxRecDepth 20000 in
theorem xw_145 : Cond.code yX11_due cX11_due 4 (some .int) ∈ xgt := wm_4 104 rfl rfl
set_option maxRecDepth 20000 in
theorem xw_146 : Cond.instanceMethod yX4_hasVerses ∈ xgt := wm_5 83 rfl rfl
set_option maxRecDepth 20000 in
theorem xw_147 : Cond.selects yX4_hasVerses.cls yX4_hasVerses yX4_hasVerses ∈ xgt := wm_5 84 rfl rfl
set_option maxRecDepth 20000 in
theorem xw_148 : Cond.methodLink RX11 280 yX4_hasVerses ∈ xgt := wm_5 82 rfl rfl
set_option maxRecDepth 20000 in
theorem xw_149 : Cond.instanceMethod yX7_hold ∈ xgt := wm_5 87 rfl rfl
set_option maxRecDepth 20000 in
theorem xw_150 : Cond.selects yX7_hold.cls yX7_hold yX7_hold ∈ xgt := wm_5 88 rfl rfl
set_option maxRecDepth 20000 in
theorem xw_151 : Cond.methodLink RX11 283 yX7_hold ∈ xgt := wm_5 86 rfl rfl
set_option maxRecDepth 20000 in
theorem xw_152 : Cond.fieldLink RX11 293 (TX7 5).1 (TX7 5).2.1 (TX7 5).2.2.1 ∈ xgt := wm_3 9 rfl rfl
set_option maxRecDepth 20000 in
theorem xw_153 : Cond.code yX11_easter cX11_easter 4 (some .int) ∈ xgt := wm_5 100 rfl rfl
set_option maxRecDepth 20000 in
theorem xw_154 : Cond.instanceMethod yX11_isRound ∈ xgt := wm_5 158 rfl rfl
set_option maxRecDepth 20000 in
theorem xw_155 : Cond.selects yX11_isRound.cls yX11_isRound yX11_isRound ∈ xgt := ws_3 (q := (yX11_isRound, 15)) 11 rfl rfl
set_option maxRecDepth 20000 in
theorem xw_156 : Cond.methodLink RX11 331 yX11_isRound ∈ xgt := wm_5 156 rfl rfl
set_option maxRecDepth 20000 in
theorem xw_157 : Cond.instanceMethod yX0_fewestGaps ∈ xgt := wm_5 161 rfl rfl
set_option maxRecDepth 20000 in
theorem xw_158 : Cond.selects yX0_fewestGaps.cls yX0_fewestGaps yX0_fewestGaps ∈ xgt := wm_5 162 rfl rfl
set_option maxRecDepth 20000 in
theorem xw_159 : Cond.methodLink RX11 335 yX0_fewestGaps ∈ xgt := wm_5 160 rfl rfl
set_option maxRecDepth 20000 in
theorem xw_160 : Cond.fieldLink RX11 338 (TX0 5).1 (TX0 5).2.1 (TX0 5).2.2.1 ∈ xgt := wm_3 36 rfl rfl
set_option maxRecDepth 20000 in
theorem xw_161 : Cond.code yX11_entry cX11_entry 7 (some .int) ∈ xgt := wm_5 180 rfl rfl
set_option maxRecDepth 20000 in
theorem xw_162 : Cond.code yX11_fault cX11_fault 2 (some .int) ∈ xgt := wm_4 65 rfl rfl
set_option maxRecDepth 20000 in
theorem xw_163 : Cond.instanceMethod yX11_tapeNumber ∈ xgt := wm_3 128 rfl rfl
set_option maxRecDepth 20000 in
theorem xw_164 : Cond.selects yX11_tapeNumber.cls yX11_tapeNumber yX11_tapeNumber ∈ xgt := ws_1 (q := (yX11_tapeNumber, 15)) 1 rfl rfl
set_option maxRecDepth 20000 in
theorem xw_165 : Cond.methodLink RX11 104 yX11_tapeNumber ∈ xgt := wm_3 126 rfl rfl
set_option maxRecDepth 20000 in
theorem xw_166 : Cond.code yX11_feed cX11_feed 6 (some .int) ∈ xgt := wm_3 125 rfl rfl
set_option maxRecDepth 20000 in
theorem xw_167 : Cond.instanceMethod yX3_pitches ∈ xgt := wm_5 126 rfl rfl
set_option maxRecDepth 20000 in
theorem xw_168 : Cond.selects yX3_pitches.cls yX3_pitches yX3_pitches ∈ xgt := wm_5 127 rfl rfl
set_option maxRecDepth 20000 in
theorem xw_169 : Cond.methodLink RX11 306 yX3_pitches ∈ xgt := wm_5 125 rfl rfl
set_option maxRecDepth 20000 in
theorem xw_170 : Cond.instanceMethod yX11_reachOf ∈ xgt := wm_5 150 rfl rfl
set_option maxRecDepth 20000 in
theorem xw_171 : Cond.selects yX11_reachOf.cls yX11_reachOf yX11_reachOf ∈ xgt := ws_3 (q := (yX11_reachOf, 15)) 10 rfl rfl
set_option maxRecDepth 20000 in
theorem xw_172 : Cond.methodLink RX11 328 yX11_reachOf ∈ xgt := wm_5 148 rfl rfl
set_option maxRecDepth 20000 in
theorem xw_173 : Cond.constantLong RX11 313 (lN 18446744073709551615) ∈ xgt := wm_5 135 rfl rfl
set_option maxRecDepth 20000 in
theorem xw_174 : Cond.code yX11_gang cX11_gang 7 (some .int) ∈ xgt := wm_5 147 rfl rfl
set_option maxRecDepth 20000 in
theorem xw_175 : Cond.instanceMethod yX3_add ∈ xgt := wm_5 106 rfl rfl
set_option maxRecDepth 20000 in
theorem xw_176 : Cond.selects yX3_add.cls yX3_add yX3_add ∈ xgt := wm_5 107 rfl rfl
set_option maxRecDepth 20000 in
theorem xw_177 : Cond.methodLink RX11 296 yX3_add ∈ xgt := wm_5 105 rfl rfl
set_option maxRecDepth 20000 in
theorem xw_178 : Cond.code yX11_hum cX11_hum 2 (some .int) ∈ xgt := wm_5 104 rfl rfl
set_option maxRecDepth 20000 in
theorem xw_179 : Cond.code yX11_isRound cX11_isRound 5 (some .boolean) ∈ xgt := wm_5 159 rfl rfl
set_option maxRecDepth 20000 in
theorem xw_180 : Cond.code yX11_keep cX11_keep 1 (some .int) ∈ xgt := wm_5 202 rfl rfl
set_option maxRecDepth 20000 in
theorem xw_181 : Cond.fieldLink RX11 299 (TX10 11).1 (TX10 11).2.1 (TX10 11).2.2.1 ∈ xgt := wm_2 122 rfl rfl
set_option maxRecDepth 20000 in
theorem xw_182 : Cond.code yX11_known cX11_known 2 (some .boolean) ∈ xgt := wm_5 116 rfl rfl
set_option maxRecDepth 20000 in
theorem xw_183 : Cond.code yX11_knownCount cX11_knownCount 1 (some .int) ∈ xgt := wm_5 124 rfl rfl
set_option maxRecDepth 20000 in
theorem xw_184 : Cond.code yX11_leastTerm cX11_leastTerm 12 (some .long) ∈ xgt := wm_5 143 rfl rfl
set_option maxRecDepth 20000 in
theorem xw_185 : Cond.instanceMethod yX6_find ∈ xgt := wm_3 198 rfl rfl
set_option maxRecDepth 20000 in
theorem xw_186 : Cond.selects yX6_find.cls yX6_find yX6_find ∈ xgt := wm_3 199 rfl rfl
set_option maxRecDepth 20000 in
theorem xw_187 : Cond.methodLink RX11 131 yX6_find ∈ xgt := wm_4 70 rfl rfl
set_option maxRecDepth 20000 in
theorem xw_188 : Cond.code yX11_named cX11_named 3 (some .int) ∈ xgt := wm_4 69 rfl rfl
set_option maxRecDepth 20000 in
theorem xw_189 : Cond.instanceMethod yX11_thieves ∈ xgt := wm_5 118 rfl rfl
set_option maxRecDepth 20000 in
theorem xw_190 : Cond.selects yX11_thieves.cls yX11_thieves yX11_thieves ∈ xgt := wm_5 119 rfl rfl
set_option maxRecDepth 20000 in
theorem xw_191 : Cond.methodLink RX11 315 yX11_thieves ∈ xgt := wm_5 140 rfl rfl
set_option maxRecDepth 20000 in
theorem xw_192 : Cond.fieldLink RX11 318 (TX4 10).1 (TX4 10).2.1 (TX4 10).2.2.1 ∈ xgt := wm_1 148 rfl rfl
set_option maxRecDepth 20000 in
theorem xw_193 : Cond.methodLink RX11 321 yX11_leastTerm ∈ xgt := wm_5 141 rfl rfl
set_option maxRecDepth 20000 in
theorem xw_194 : Cond.static yX11_leastTerm ∈ xgt := wm_5 142 rfl rfl
set_option maxRecDepth 20000 in
theorem xw_195 : Cond.code yX11_odds cX11_odds 6 (some .int) ∈ xgt := wm_5 139 rfl rfl
set_option maxRecDepth 20000 in
theorem xw_196 : Cond.fieldLink RX11 186 (TX10 0).1 (TX10 0).2.1 (TX10 0).2.2.1 ∈ xgt := wm_2 96 rfl rfl
set_option maxRecDepth 20000 in
theorem xw_199 : Cond.fieldLink RX11 349 (TX10 9).1 (TX10 9).2.1 (TX10 9).2.2.1 ∈ xgt := wm_2 116 rfl rfl
set_option maxRecDepth 20000 in
theorem xw_200 : Cond.code yX11_pay cX11_pay 5 (some .int) ∈ xgt := wm_5 193 rfl rfl
set_option maxRecDepth 20000 in
theorem xw_201 : Cond.fieldLink RX11 199 (TX4 12).1 (TX4 12).2.1 (TX4 12).2.2.1 ∈ xgt := wm_1 158 rfl rfl
set_option maxRecDepth 20000 in
theorem xw_202 : Cond.instanceMethod yX4_pitchAt ∈ xgt := wm_4 98 rfl rfl
set_option maxRecDepth 20000 in
theorem xw_203 : Cond.selects yX4_pitchAt.cls yX4_pitchAt yX4_pitchAt ∈ xgt := wm_4 99 rfl rfl
set_option maxRecDepth 20000 in
theorem xw_204 : Cond.methodLink RX11 206 yX4_pitchAt ∈ xgt := wm_4 97 rfl rfl
set_option maxRecDepth 20000 in
theorem xw_205 : Cond.code yX11_pitch cX11_pitch 5 (some .int) ∈ xgt := wm_4 96 rfl rfl
set_option maxRecDepth 20000 in
theorem xw_206 : Cond.instanceMethod yX4_reach ∈ xgt := wm_5 131 rfl rfl
set_option maxRecDepth 20000 in
theorem xw_207 : Cond.selects yX4_reach.cls yX4_reach yX4_reach ∈ xgt := wm_5 132 rfl rfl
set_option maxRecDepth 20000 in
theorem xw_208 : Cond.methodLink RX11 310 yX4_reach ∈ xgt := wm_5 130 rfl rfl
set_option maxRecDepth 20000 in
theorem xw_209 : Cond.code yX11_reachOf cX11_reachOf 5 (some .long) ∈ xgt := wm_5 151 rfl rfl
set_option maxRecDepth 20000 in
theorem xw_210 : Cond.instanceMethod yX11_singsIn ∈ xgt := wm_4 214 rfl rfl
set_option maxRecDepth 20000 in
theorem xw_211 : Cond.selects yX11_singsIn.cls yX11_singsIn yX11_singsIn ∈ xgt := ws_2 (q := (yX11_singsIn, 15)) 15 rfl rfl
set_option maxRecDepth 20000 in
theorem xw_212 : Cond.methodLink RX11 236 yX11_singsIn ∈ xgt := wm_4 212 rfl rfl
set_option maxRecDepth 20000 in
theorem xw_213 : Cond.instanceMethod yX10_enlist ∈ xgt := wm_4 217 rfl rfl
set_option maxRecDepth 20000 in
theorem xw_214 : Cond.selects yX10_enlist.cls yX10_enlist yX10_enlist ∈ xgt := wm_4 218 rfl rfl
set_option maxRecDepth 20000 in
theorem xw_215 : Cond.methodLink RX11 242 yX10_enlist ∈ xgt := wm_4 216 rfl rfl
set_option maxRecDepth 20000 in
theorem xw_216 : Cond.code yX11_redeem cX11_redeem 6 (some .int) ∈ xgt := wm_4 210 rfl rfl
set_option maxRecDepth 20000 in
theorem xw_217 : Cond.code yX11_round cX11_round 5 (some .int) ∈ xgt := wm_5 155 rfl rfl
set_option maxRecDepth 20000 in
theorem xw_218 : Cond.instanceMethod yX11_shareOf ∈ xgt := wm_5 187 rfl rfl
set_option maxRecDepth 20000 in
theorem xw_219 : Cond.selects yX11_shareOf.cls yX11_shareOf yX11_shareOf ∈ xgt := ws_3 (q := (yX11_shareOf, 15)) 13 rfl rfl
set_option maxRecDepth 20000 in
theorem xw_220 : Cond.methodLink RX11 341 yX11_shareOf ∈ xgt := wm_5 185 rfl rfl
set_option maxRecDepth 20000 in
theorem xw_221 : Cond.code yX11_run cX11_run 3 (some .int) ∈ xgt := wm_5 184 rfl rfl
set_option maxRecDepth 20000 in
theorem xw_222 : Cond.code yX11_shareOf cX11_shareOf 7 (some .int) ∈ xgt := wm_5 188 rfl rfl
set_option maxRecDepth 20000 in
theorem xw_223 : Cond.instanceMethod yX4_restsIn ∈ xgt := wm_4 134 rfl rfl
set_option maxRecDepth 20000 in
theorem xw_224 : Cond.selects yX4_restsIn.cls yX4_restsIn yX4_restsIn ∈ xgt := wm_4 135 rfl rfl
set_option maxRecDepth 20000 in
theorem xw_225 : Cond.methodLink RX11 367 yX4_restsIn ∈ xgt := wm_5 4 rfl rfl
set_option maxRecDepth 20000 in
theorem xw_226 : Cond.code yX11_singPart cX11_singPart 3 (some .int) ∈ xgt := wm_5 3 rfl rfl
set_option maxRecDepth 20000 in
theorem xw_227 : Cond.code yX11_sings cX11_sings 4 (some .int) ∈ xgt := wm_4 231 rfl rfl
set_option maxRecDepth 20000 in
theorem xw_228 : Cond.code yX11_singsIn cX11_singsIn 4 (some .boolean) ∈ xgt := wm_4 215 rfl rfl
set_option maxRecDepth 20000 in
theorem xw_229 : Cond.code yX11_slotOf cX11_slotOf 2 (some .int) ∈ xgt := wm_3 228 rfl rfl
set_option maxRecDepth 20000 in
theorem xw_230 : Cond.fieldLink RX11 286 (TX7 4).1 (TX7 4).2.1 (TX7 4).2.2.1 ∈ xgt := wm_3 7 rfl rfl
set_option maxRecDepth 20000 in
theorem xw_231 : Cond.fieldLink RX11 289 (TX7 3).1 (TX7 3).2.1 (TX7 3).2.2.1 ∈ xgt := wm_3 5 rfl rfl
set_option maxRecDepth 20000 in
theorem xw_232 : Cond.code yX11_sold cX11_sold 4 (some .int) ∈ xgt := wm_5 81 rfl rfl
set_option maxRecDepth 20000 in
theorem xw_233 : Cond.code yX11_sounds cX11_sounds 4 (some .int) ∈ xgt := wm_4 186 rfl rfl
set_option maxRecDepth 20000 in
theorem xw_234 : Cond.code yX11_strike cX11_strike 2 (some .int) ∈ xgt := wm_5 112 rfl rfl
set_option maxRecDepth 20000 in
theorem xw_235 : Cond.fieldLink RX11 249 (TX10 4).1 (TX10 4).2.1 (TX10 4).2.2.1 ∈ xgt := wm_2 105 rfl rfl
set_option maxRecDepth 20000 in
theorem xw_236 : Cond.instanceMethod yX11_singPart ∈ xgt := wm_5 2 rfl rfl
set_option maxRecDepth 20000 in
theorem xw_237 : Cond.selects yX11_singPart.cls yX11_singPart yX11_singPart ∈ xgt := ws_3 (q := (yX11_singPart, 15)) 0 rfl rfl
set_option maxRecDepth 20000 in
theorem xw_238 : Cond.methodLink RX11 258 yX11_singPart ∈ xgt := wm_5 0 rfl rfl
set_option maxRecDepth 20000 in
theorem xw_239 : Cond.instanceMethod yX10_dismissAll ∈ xgt := wm_3 73 rfl rfl
set_option maxRecDepth 20000 in
theorem xw_240 : Cond.selects yX10_dismissAll.cls yX10_dismissAll yX10_dismissAll ∈ xgt := wm_3 74 rfl rfl
set_option maxRecDepth 20000 in
theorem xw_241 : Cond.methodLink RX11 261 yX10_dismissAll ∈ xgt := wm_5 5 rfl rfl
set_option maxRecDepth 20000 in
theorem xw_242 : Cond.instanceMethod yX11_crackBoys ∈ xgt := wm_5 8 rfl rfl
set_option maxRecDepth 20000 in
theorem xw_243 : Cond.selects yX11_crackBoys.cls yX11_crackBoys yX11_crackBoys ∈ xgt := ws_3 (q := (yX11_crackBoys, 15)) 1 rfl rfl
set_option maxRecDepth 20000 in
theorem xw_244 : Cond.methodLink RX11 264 yX11_crackBoys ∈ xgt := wm_5 6 rfl rfl
set_option maxRecDepth 20000 in
theorem xw_245 : Cond.code yX11_sunday cX11_sunday 3 (some .int) ∈ xgt := wm_4 239 rfl rfl
set_option maxRecDepth 20000 in
theorem xw_246 : Cond.code yX11_tapeNumber cX11_tapeNumber 3 none ∈ xgt := wm_3 129 rfl rfl
set_option maxRecDepth 20000 in
theorem xw_247 : Cond.fieldLink RX11 183 (TX4 4).1 (TX4 4).2.1 (TX4 4).2.2.1 ∈ xgt := wm_1 127 rfl rfl
set_option maxRecDepth 20000 in
theorem xw_248 : Cond.instanceMethod yX11_claimsOn ∈ xgt := wm_4 81 rfl rfl
set_option maxRecDepth 20000 in
theorem xw_249 : Cond.selects yX11_claimsOn.cls yX11_claimsOn yX11_claimsOn ∈ xgt := ws_2 (q := (yX11_claimsOn, 15)) 7 rfl rfl
set_option maxRecDepth 20000 in
theorem xw_250 : Cond.methodLink RX11 189 yX11_claimsOn ∈ xgt := wm_4 79 rfl rfl
set_option maxRecDepth 20000 in
theorem xw_251 : Cond.code yX11_tavern cX11_tavern 3 (some .int) ∈ xgt := wm_4 74 rfl rfl
set_option maxRecDepth 20000 in
theorem xw_252 : Cond.instanceMethod yX8_tell ∈ xgt := wm_3 135 rfl rfl
set_option maxRecDepth 20000 in
theorem xw_253 : Cond.selects yX8_tell.cls yX8_tell yX8_tell ∈ xgt := wm_3 136 rfl rfl
set_option maxRecDepth 20000 in
theorem xw_254 : Cond.methodLink RX11 108 yX8_tell ∈ xgt := wm_3 134 rfl rfl
set_option maxRecDepth 20000 in
theorem xw_255 : Cond.fieldLink RX11 112 (TX8 0).1 (TX8 0).2.1 (TX8 0).2.2.1 ∈ xgt := wm_2 76 rfl rfl
set_option maxRecDepth 20000 in
theorem xw_256 : Cond.fieldLink RX11 116 (TX9 7).1 (TX9 7).2.1 (TX9 7).2.2.1 ∈ xgt := wm_2 49 rfl rfl
set_option maxRecDepth 20000 in
theorem xw_257 : Cond.fieldLink RX11 117 (TX9 8).1 (TX9 8).2.1 (TX9 8).2.2.1 ∈ xgt := wm_2 51 rfl rfl
set_option maxRecDepth 20000 in
theorem xw_258 : Cond.instanceMethod yX4_take ∈ xgt := wm_4 48 rfl rfl
set_option maxRecDepth 20000 in
theorem xw_259 : Cond.selects yX4_take.cls yX4_take yX4_take ∈ xgt := wm_4 49 rfl rfl
set_option maxRecDepth 20000 in
theorem xw_260 : Cond.methodLink RX11 118 yX4_take ∈ xgt := wm_4 47 rfl rfl
set_option maxRecDepth 20000 in
theorem xw_261 : Cond.code yX11_text cX11_text 3 (some .int) ∈ xgt := wm_3 133 rfl rfl
set_option maxRecDepth 20000 in
theorem xw_262 : Cond.code yX11_thieves cX11_thieves 5 (some .int) ∈ xgt := wm_5 120 rfl rfl
set_option maxRecDepth 20000 in
theorem xw_263 : Cond.fieldLink RX11 252 (TX10 5).1 (TX10 5).2.1 (TX10 5).2.2.1 ∈ xgt := wm_2 107 rfl rfl
set_option maxRecDepth 20000 in
theorem xw_264 : Cond.instanceMethod yX10_dismiss ∈ xgt := wm_4 225 rfl rfl
set_option maxRecDepth 20000 in
theorem xw_265 : Cond.selects yX10_dismiss.cls yX10_dismiss yX10_dismiss ∈ xgt := wm_4 226 rfl rfl
set_option maxRecDepth 20000 in
theorem xw_266 : Cond.methodLink RX11 255 yX10_dismiss ∈ xgt := wm_4 224 rfl rfl
set_option maxRecDepth 20000 in
theorem xw_267 : Cond.code yX11_undo cX11_undo 3 (some .int) ∈ xgt := wm_4 223 rfl rfl
set_option maxRecDepth 20000 in
theorem xw_268 : Cond.code yX11_verse cX11_verse 3 (some .int) ∈ xgt := wm_4 86 rfl rfl
set_option maxRecDepth 20000 in
theorem xw_269 : Cond.constantLong RX11 352 (lN 100) ∈ xgt := wm_5 198 rfl rfl
set_option maxRecDepth 20000 in
theorem xw_270 : Cond.code yX11_whole cX11_whole 9 (some .long) ∈ xgt := wm_5 197 rfl rfl
set_option maxRecDepth 20000 in
theorem xw_271 : Cond.methodLink RX0 3 Lib.objectInit ∈ xgt := wm_3 28 rfl rfl
set_option maxRecDepth 20000 in
theorem xw_272 : Cond.arrayClass .int ∈ xgt := wm_1 62 rfl rfl
set_option maxRecDepth 20000 in
theorem xw_273 : Cond.fieldLink RX0 9 (TX0 3).1 (TX0 3).2.1 (TX0 3).2.2.1 ∈ xgt := wm_3 33 rfl rfl
set_option maxRecDepth 20000 in
theorem xw_274 : Cond.fieldLink RX0 15 (TX0 4).1 (TX0 4).2.1 (TX0 4).2.2.1 ∈ xgt := wm_3 34 rfl rfl
set_option maxRecDepth 20000 in
theorem xw_275 : Cond.fieldLink RX0 18 (TX0 5).1 (TX0 5).2.1 (TX0 5).2.2.1 ∈ xgt := wm_3 35 rfl rfl
set_option maxRecDepth 20000 in
theorem xw_276 : Cond.fieldLink RX0 21 (TX0 6).1 (TX0 6).2.1 (TX0 6).2.2.1 ∈ xgt := wm_3 37 rfl rfl
set_option maxRecDepth 20000 in
theorem xw_277 : Cond.fieldLink RX0 25 (TX0 7).1 (TX0 7).2.1 (TX0 7).2.2.1 ∈ xgt := wm_3 38 rfl rfl
set_option maxRecDepth 20000 in
theorem xw_278 : Cond.fieldLink RX0 28 (TX0 8).1 (TX0 8).2.1 (TX0 8).2.2.1 ∈ xgt := wm_3 39 rfl rfl
set_option maxRecDepth 20000 in
theorem xw_279 : Cond.constant RX0 31 (nI 1000000) ∈ xgt := wm_3 29 rfl rfl
set_option maxRecDepth 20000 in
theorem xw_280 : Cond.fieldLink RX0 32 (TX0 9).1 (TX0 9).2.1 (TX0 9).2.2.1 ∈ xgt := wm_3 40 rfl rfl
set_option maxRecDepth 20000 in
theorem xw_281 : Cond.fieldLink RX0 35 (TX0 0).1 (TX0 0).2.1 (TX0 0).2.2.1 ∈ xgt := wm_3 30 rfl rfl
set_option maxRecDepth 20000 in
theorem xw_282 : Cond.fieldLink RX0 39 (TX0 1).1 (TX0 1).2.1 (TX0 1).2.2.1 ∈ xgt := wm_3 31 rfl rfl
set_option maxRecDepth 20000 in
theorem xw_283 : Cond.fieldLink RX0 43 (TX0 2).1 (TX0 2).2.1 (TX0 2).2.2.1 ∈ xgt := wm_3 32 rfl rfl
set_option maxRecDepth 20000 in
theorem xw_284 : Cond.code yX0_init cX0_init 4 none ∈ xgt := wm_3 27 rfl rfl
set_option maxRecDepth 20000 in
theorem xw_285 : Cond.fieldLink RX0 47 (TX4 1).1 (TX4 1).2.1 (TX4 1).2.2.1 ∈ xgt := wm_1 110 rfl rfl
set_option maxRecDepth 20000 in
theorem xw_286 : Cond.fieldLink RX0 53 (TX6 1).1 (TX6 1).2.1 (TX6 1).2.2.1 ∈ xgt := wm_1 51 rfl rfl
set_option maxRecDepth 20000 in
theorem xw_287 : Cond.fieldLink RX0 58 (TX10 10).1 (TX10 10).2.1 (TX10 10).2.2.1 ∈ xgt := wm_2 118 rfl rfl
set_option maxRecDepth 20000 in
theorem xw_288 : Cond.methodLink RX0 63 yJ6_bitCount_0f7a4 ∈ xgt := wm_5 164 rfl rfl
set_option maxRecDepth 20000 in
theorem xw_289 : Cond.fieldLink RX0 69 (TX4 12).1 (TX4 12).2.1 (TX4 12).2.2.1 ∈ xgt := wm_1 155 rfl rfl
set_option maxRecDepth 20000 in
theorem xw_290 : Cond.methodLink RX0 72 yX5_soundBits ∈ xgt := wm_5 165 rfl rfl
set_option maxRecDepth 20000 in
theorem xw_291 : Cond.instanceMethod yX0_fill ∈ xgt := wm_5 168 rfl rfl
set_option maxRecDepth 20000 in
theorem xw_292 : Cond.selects yX0_fill.cls yX0_fill yX0_fill ∈ xgt := ws_3 (q := (yX0_fill, 10)) 12 rfl rfl
set_option maxRecDepth 20000 in
theorem xw_293 : Cond.methodLink RX0 78 yX0_fill ∈ xgt := wm_5 166 rfl rfl
set_option maxRecDepth 20000 in
theorem xw_294 : Cond.code yX0_fewestGaps cX0_fewestGaps 5 (some .int) ∈ xgt := wm_5 163 rfl rfl
set_option maxRecDepth 20000 in
theorem xw_295 : Cond.methodLink RX0 82 yJ13_bitCount_95d88 ∈ xgt := wm_5 170 rfl rfl
set_option maxRecDepth 20000 in
theorem xw_296 : Cond.static yJ13_bitCount_95d88 ∈ xgt := wm_5 171 rfl rfl
set_option maxRecDepth 20000 in
theorem xw_297 : Cond.methodLink RX0 87 arraycopyName ∈ xgt := wm_5 176 rfl rfl
set_option maxRecDepth 20000 in
theorem xw_298 : Cond.native arraycopyName ∈ xgt := wm_3 71 rfl rfl
set_option maxRecDepth 20000 in
theorem xw_299 : Cond.static arraycopyName ∈ xgt := wm_3 70 rfl rfl
set_option maxRecDepth 20000 in
theorem xw_300 : Cond.initialized "java/lang/System" ∈ xgt := wm_1 18 rfl rfl
set_option maxRecDepth 20000 in
theorem xw_301 : Cond.code yX0_fill cX0_fill 6 none ∈ xgt := wm_5 169 rfl rfl
set_option maxRecDepth 20000 in
theorem xw_302 : Cond.methodLink RX1 5 Lib.objectInit ∈ xgt := wm_2 196 rfl rfl
set_option maxRecDepth 20000 in
theorem xw_303 : Cond.fieldLink RX1 11 (TX1 3).1 (TX1 3).2.1 (TX1 3).2.2.1 ∈ xgt := wm_2 202 rfl rfl
set_option maxRecDepth 20000 in
theorem xw_304 : Cond.fieldLink RX1 15 (TX1 4).1 (TX1 4).2.1 (TX1 4).2.2.1 ∈ xgt := wm_2 203 rfl rfl
set_option maxRecDepth 20000 in
theorem xw_305 : Cond.fieldLink RX1 18 (TX1 5).1 (TX1 5).2.1 (TX1 5).2.2.1 ∈ xgt := wm_2 204 rfl rfl
set_option maxRecDepth 20000 in
theorem xw_306 : Cond.classLink RX1 21 "[[I" ∈ xgt := wm_2 197 rfl rfl
set_option maxRecDepth 20000 in
theorem xw_307 : Cond.fieldLink RX1 23 (TX1 6).1 (TX1 6).2.1 (TX1 6).2.2.1 ∈ xgt := wm_2 205 rfl rfl
set_option maxRecDepth 20000 in
theorem xw_308 : Cond.fieldLink RX1 26 (TX1 7).1 (TX1 7).2.1 (TX1 7).2.2.1 ∈ xgt := wm_2 206 rfl rfl
set_option maxRecDepth 20000 in
theorem xw_309 : Cond.fieldLink RX1 29 (TX1 8).1 (TX1 8).2.1 (TX1 8).2.2.1 ∈ xgt := wm_2 208 rfl rfl
set_option maxRecDepth 20000 in
theorem xw_310 : Cond.fieldLink RX1 33 (TX1 9).1 (TX1 9).2.1 (TX1 9).2.2.1 ∈ xgt := wm_2 209 rfl rfl
set_option maxRecDepth 20000 in
theorem xw_311 : Cond.fieldLink RX1 36 (TX1 10).1 (TX1 10).2.1 (TX1 10).2.2.1 ∈ xgt := wm_2 210 rfl rfl
set_option maxRecDepth 20000 in
theorem xw_312 : Cond.fieldLink RX1 40 (TX1 0).1 (TX1 0).2.1 (TX1 0).2.2.1 ∈ xgt := wm_2 199 rfl rfl
set_option maxRecDepth 20000 in
theorem xw_313 : Cond.fieldLink RX1 44 (TX1 1).1 (TX1 1).2.1 (TX1 1).2.2.1 ∈ xgt := wm_2 200 rfl rfl
set_option maxRecDepth 20000 in
theorem xw_314 : Cond.fieldLink RX1 48 (TX1 2).1 (TX1 2).2.1 (TX1 2).2.2.1 ∈ xgt := wm_2 201 rfl rfl
set_option maxRecDepth 20000 in
theorem xw_315 : Cond.code yX1_init cX1_init 4 none ∈ xgt := wm_2 195 rfl rfl
set_option maxRecDepth 20000 in
theorem xw_316 : Cond.methodLink RX1 84 yX1_mostNotes ∈ xgt := wm_5 73 rfl rfl
set_option maxRecDepth 20000 in
theorem xw_317 : Cond.fieldLink RX1 52 (TX4 2).1 (TX4 2).2.1 (TX4 2).2.2.1 ∈ xgt := wm_1 116 rfl rfl
set_option maxRecDepth 20000 in
theorem xw_318 : Cond.fieldLink RX1 58 (TX6 1).1 (TX6 1).2.1 (TX6 1).2.2.1 ∈ xgt := wm_1 54 rfl rfl
set_option maxRecDepth 20000 in
theorem xw_319 : Cond.instanceMethod yX1_rowsOf ∈ xgt := wm_5 46 rfl rfl
set_option maxRecDepth 20000 in
theorem xw_320 : Cond.selects yX1_rowsOf.cls yX1_rowsOf yX1_rowsOf ∈ xgt := ws_3 (q := (yX1_rowsOf, 11)) 4 rfl rfl
set_option maxRecDepth 20000 in
theorem xw_321 : Cond.methodLink RX1 88 yX1_rowsOf ∈ xgt := wm_5 44 rfl rfl
set_option maxRecDepth 20000 in
theorem xw_322 : Cond.instanceMethod yX1_fits ∈ xgt := wm_5 50 rfl rfl
set_option maxRecDepth 20000 in
theorem xw_323 : Cond.selects yX1_fits.cls yX1_fits yX1_fits ∈ xgt := ws_3 (q := (yX1_fits, 11)) 5 rfl rfl
set_option maxRecDepth 20000 in
theorem xw_324 : Cond.methodLink RX1 91 yX1_fits ∈ xgt := wm_5 48 rfl rfl
set_option maxRecDepth 20000 in
theorem xw_325 : Cond.instanceMethod yX1_isBest ∈ xgt := wm_5 76 rfl rfl
set_option maxRecDepth 20000 in
theorem xw_326 : Cond.selects yX1_isBest.cls yX1_isBest yX1_isBest ∈ xgt := ws_3 (q := (yX1_isBest, 11)) 7 rfl rfl
set_option maxRecDepth 20000 in
theorem xw_327 : Cond.methodLink RX1 95 yX1_isBest ∈ xgt := wm_5 74 rfl rfl
set_option maxRecDepth 20000 in
theorem xw_328 : Cond.code yX1_choose cX1_choose 7 none ∈ xgt := wm_5 72 rfl rfl
set_option maxRecDepth 20000 in
theorem xw_329 : Cond.code yX1_crownsFor cX1_crownsFor 2 (some .int) ∈ xgt := wm_5 64 rfl rfl
set_option maxRecDepth 20000 in
theorem xw_330 : Cond.fieldLink RX1 102 (TX4 1).1 (TX4 1).2.1 (TX4 1).2.2.1 ∈ xgt := wm_1 113 rfl rfl
set_option maxRecDepth 20000 in
theorem xw_331 : Cond.fieldLink RX1 124 (TX10 10).1 (TX10 10).2.1 (TX10 10).2.2.1 ∈ xgt := wm_2 119 rfl rfl
set_option maxRecDepth 20000 in
theorem xw_332 : Cond.fieldLink RX1 70 (TX4 11).1 (TX4 11).2.1 (TX4 11).2.2.1 ∈ xgt := wm_1 151 rfl rfl
set_option maxRecDepth 20000 in
theorem xw_333 : Cond.code yX1_fits cX1_fits 9 (some .boolean) ∈ xgt := wm_5 51 rfl rfl
set_option maxRecDepth 20000 in
theorem xw_334 : Cond.code yX1_isBest cX1_isBest 3 (some .boolean) ∈ xgt := wm_5 77 rfl rfl
set_option maxRecDepth 20000 in
theorem xw_335 : Cond.constant RX1 63 (nI 1000000) ∈ xgt := wm_5 30 rfl rfl
set_option maxRecDepth 20000 in
theorem xw_336 : Cond.methodLink RX1 64 yJ7_fill_53178 ∈ xgt := wm_5 31 rfl rfl
set_option maxRecDepth 20000 in
theorem xw_337 : Cond.static yJ7_fill_53178 ∈ xgt := wm_3 67 rfl rfl
set_option maxRecDepth 20000 in
theorem xw_339 : Cond.code yX1_joinRest cX1_joinRest 6 none ∈ xgt := wm_5 55 rfl rfl
set_option maxRecDepth 20000 in
theorem xw_340 : Cond.code yX1_mostNotes cX1_mostNotes 3 (some .int) ∈ xgt := wm_5 60 rfl rfl
set_option maxRecDepth 20000 in
theorem xw_341 : Cond.code yX1_rowsOf cX1_rowsOf 4 (some .int) ∈ xgt := wm_5 47 rfl rfl
set_option maxRecDepth 20000 in
theorem xw_342 : Cond.instanceMethod yX1_weighPart ∈ xgt := wm_5 34 rfl rfl
set_option maxRecDepth 20000 in
theorem xw_343 : Cond.selects yX1_weighPart.cls yX1_weighPart yX1_weighPart ∈ xgt := ws_3 (q := (yX1_weighPart, 11)) 2 rfl rfl
set_option maxRecDepth 20000 in
theorem xw_344 : Cond.methodLink RX1 73 yX1_weighPart ∈ xgt := wm_5 32 rfl rfl
set_option maxRecDepth 20000 in
theorem xw_345 : Cond.instanceMethod yX1_weighRows ∈ xgt := wm_5 42 rfl rfl
set_option maxRecDepth 20000 in
theorem xw_346 : Cond.selects yX1_weighRows.cls yX1_weighRows yX1_weighRows ∈ xgt := ws_3 (q := (yX1_weighRows, 11)) 3 rfl rfl
set_option maxRecDepth 20000 in
theorem xw_347 : Cond.methodLink RX1 77 yX1_weighRows ∈ xgt := wm_5 40 rfl rfl
set_option maxRecDepth 20000 in
theorem xw_348 : Cond.instanceMethod yX1_joinRest ∈ xgt := wm_5 54 rfl rfl
set_option maxRecDepth 20000 in
theorem xw_349 : Cond.selects yX1_joinRest.cls yX1_joinRest yX1_joinRest ∈ xgt := ws_3 (q := (yX1_joinRest, 11)) 6 rfl rfl
set_option maxRecDepth 20000 in
theorem xw_350 : Cond.methodLink RX1 81 yX1_joinRest ∈ xgt := wm_5 52 rfl rfl
set_option maxRecDepth 20000 in
theorem xw_351 : Cond.code yX1_weigh cX1_weigh 4 none ∈ xgt := wm_5 29 rfl rfl
set_option maxRecDepth 20000 in
theorem xw_352 : Cond.methodLink RX1 105 yX5_soundBits ∈ xgt := wm_5 37 rfl rfl
set_option maxRecDepth 20000 in
theorem xw_353 : Cond.methodLink RX1 110 yJ6_bitCount_0f7a4 ∈ xgt := wm_5 38 rfl rfl
set_option maxRecDepth 20000 in
theorem xw_354 : Cond.methodLink RX1 115 yX5_dueFor ∈ xgt := wm_5 39 rfl rfl
set_option maxRecDepth 20000 in
theorem xw_355 : Cond.code yX1_weighPart cX1_weighPart 5 none ∈ xgt := wm_5 35 rfl rfl
set_option maxRecDepth 20000 in
theorem xw_356 : Cond.code yX1_weighRows cX1_weighRows 4 none ∈ xgt := wm_5 43 rfl rfl
set_option maxRecDepth 20000 in
theorem xw_357 : Cond.methodLink RX2 3 Lib.objectInit ∈ xgt := wm_1 68 rfl rfl
set_option maxRecDepth 20000 in
theorem xw_358 : Cond.fieldLink RX2 9 (TX2 0).1 (TX2 0).2.1 (TX2 0).2.2.1 ∈ xgt := wm_1 69 rfl rfl
set_option maxRecDepth 20000 in
theorem xw_359 : Cond.fieldLink RX2 15 (TX2 1).1 (TX2 1).2.1 (TX2 1).2.2.1 ∈ xgt := wm_1 71 rfl rfl
set_option maxRecDepth 20000 in
theorem xw_360 : Cond.fieldLink RX2 18 (TX2 2).1 (TX2 2).2.1 (TX2 2).2.2.1 ∈ xgt := wm_1 73 rfl rfl
set_option maxRecDepth 20000 in
theorem xw_361 : Cond.fieldLink RX2 21 (TX2 3).1 (TX2 3).2.1 (TX2 3).2.2.1 ∈ xgt := wm_1 75 rfl rfl
set_option maxRecDepth 20000 in
theorem xw_362 : Cond.fieldLink RX2 24 (TX2 4).1 (TX2 4).2.1 (TX2 4).2.2.1 ∈ xgt := wm_1 77 rfl rfl
set_option maxRecDepth 20000 in
theorem xw_363 : Cond.fieldLink RX2 28 (TX2 5).1 (TX2 5).2.1 (TX2 5).2.2.1 ∈ xgt := wm_1 79 rfl rfl
set_option maxRecDepth 20000 in
theorem xw_364 : Cond.fieldLink RX2 31 (TX2 6).1 (TX2 6).2.1 (TX2 6).2.2.1 ∈ xgt := wm_1 80 rfl rfl
set_option maxRecDepth 20000 in
theorem xw_365 : Cond.fieldLink RX2 34 (TX2 7).1 (TX2 7).2.1 (TX2 7).2.2.1 ∈ xgt := wm_1 81 rfl rfl
set_option maxRecDepth 20000 in
theorem xw_366 : Cond.fieldLink RX2 37 (TX2 8).1 (TX2 8).2.1 (TX2 8).2.2.1 ∈ xgt := wm_1 82 rfl rfl
set_option maxRecDepth 20000 in
theorem xw_367 : Cond.fieldLink RX2 40 (TX2 9).1 (TX2 9).2.1 (TX2 9).2.2.1 ∈ xgt := wm_1 83 rfl rfl
set_option maxRecDepth 20000 in
theorem xw_368 : Cond.code yX2_init cX2_init 1 none ∈ xgt := wm_1 67 rfl rfl
set_option maxRecDepth 20000 in
theorem xw_369 : Cond.initialized RX2 ∈ xgt := wm_1 4 rfl rfl
set_option maxRecDepth 20000 in
theorem xw_370 : Cond.methodLink RX2 44 yJ7_fill_53178 ∈ xgt := wm_3 146 rfl rfl
set_option maxRecDepth 20000 in
theorem xw_371 : Cond.code yX2_clear cX2_clear 1 none ∈ xgt := wm_3 145 rfl rfl
set_option maxRecDepth 20000 in
theorem xw_372 : Cond.code yX2_hold cX2_hold 2 (some .boolean) ∈ xgt := wm_4 8 rfl rfl
set_option maxRecDepth 20000 in
theorem xw_373 : Cond.instanceMethod yX9_fail ∈ xgt := wm_3 193 rfl rfl
set_option maxRecDepth 20000 in
theorem xw_374 : Cond.selects yX9_fail.cls yX9_fail yX9_fail ∈ xgt := wm_3 194 rfl rfl
set_option maxRecDepth 20000 in
theorem xw_375 : Cond.methodLink RX2 79 yX9_fail ∈ xgt := wm_4 9 rfl rfl
set_option maxRecDepth 20000 in
theorem xw_376 : Cond.code yX2_isRoom cX2_isRoom 2 (some .boolean) ∈ xgt := wm_4 20 rfl rfl
set_option maxRecDepth 20000 in
theorem xw_377 : Cond.code yX2_isTold cX2_isTold 2 (some .boolean) ∈ xgt := wm_4 46 rfl rfl
set_option maxRecDepth 20000 in
theorem xw_378 : Cond.code yX2_levelOf cX2_levelOf 1 (some .int) ∈ xgt := wm_4 16 rfl rfl
set_option maxRecDepth 20000 in
theorem xw_379 : Cond.code yX2_put cX2_put 3 (some .boolean) ∈ xgt := wm_4 24 rfl rfl
set_option maxRecDepth 20000 in
theorem xw_380 : Cond.fieldLink RX2 72 (TX9 4).1 (TX9 4).2.1 (TX9 4).2.2.1 ∈ xgt := wm_2 43 rfl rfl
set_option maxRecDepth 20000 in
theorem xw_381 : Cond.instanceMethod yX2_settle ∈ xgt := wm_4 31 rfl rfl
set_option maxRecDepth 20000 in
theorem xw_382 : Cond.selects yX2_settle.cls yX2_settle yX2_settle ∈ xgt := ws_2 (q := (yX2_settle, 10)) 4 rfl rfl
set_option maxRecDepth 20000 in
theorem xw_383 : Cond.methodLink RX2 68 yX2_settle ∈ xgt := wm_4 29 rfl rfl
set_option maxRecDepth 20000 in
theorem xw_384 : Cond.methodLink RX2 96 yX2_levelOf ∈ xgt := wm_4 14 rfl rfl
set_option maxRecDepth 20000 in
theorem xw_385 : Cond.static yX2_levelOf ∈ xgt := wm_4 15 rfl rfl
set_option maxRecDepth 20000 in
theorem xw_386 : Cond.instanceMethod yX2_topLevel ∈ xgt := wm_4 12 rfl rfl
set_option maxRecDepth 20000 in
theorem xw_387 : Cond.selects yX2_topLevel.cls yX2_topLevel yX2_topLevel ∈ xgt := ws_2 (q := (yX2_topLevel, 10)) 0 rfl rfl
set_option maxRecDepth 20000 in
theorem xw_388 : Cond.methodLink RX2 82 yX2_topLevel ∈ xgt := wm_4 10 rfl rfl
set_option maxRecDepth 20000 in
theorem xw_389 : Cond.instanceMethod yX2_isRoom ∈ xgt := wm_4 19 rfl rfl
set_option maxRecDepth 20000 in
theorem xw_390 : Cond.selects yX2_isRoom.cls yX2_isRoom yX2_isRoom ∈ xgt := ws_2 (q := (yX2_isRoom, 10)) 1 rfl rfl
set_option maxRecDepth 20000 in
theorem xw_391 : Cond.methodLink RX2 86 yX2_isRoom ∈ xgt := wm_4 17 rfl rfl
set_option maxRecDepth 20000 in
theorem xw_392 : Cond.instanceMethod yX2_hold ∈ xgt := wm_4 7 rfl rfl
set_option maxRecDepth 20000 in
theorem xw_393 : Cond.selects yX2_hold.cls yX2_hold yX2_hold ∈ xgt := ws_1 (q := (yX2_hold, 10)) 15 rfl rfl
set_option maxRecDepth 20000 in
theorem xw_394 : Cond.methodLink RX2 75 yX2_hold ∈ xgt := wm_4 5 rfl rfl
set_option maxRecDepth 20000 in
theorem xw_395 : Cond.code yX2_readSign cX2_readSign 4 (some .boolean) ∈ xgt := wm_4 28 rfl rfl
set_option maxRecDepth 20000 in
theorem xw_396 : Cond.fieldLink RX2 89 (TX9 6).1 (TX9 6).2.1 (TX9 6).2.2.1 ∈ xgt := wm_2 46 rfl rfl
set_option maxRecDepth 20000 in
theorem xw_397 : Cond.instanceMethod yX2_put ∈ xgt := wm_4 23 rfl rfl
set_option maxRecDepth 20000 in
theorem xw_398 : Cond.selects yX2_put.cls yX2_put yX2_put ∈ xgt := ws_2 (q := (yX2_put, 10)) 2 rfl rfl
set_option maxRecDepth 20000 in
theorem xw_399 : Cond.methodLink RX2 92 yX2_put ∈ xgt := wm_4 21 rfl rfl
set_option maxRecDepth 20000 in
theorem xw_400 : Cond.code yX2_readValue cX2_readValue 3 (some .boolean) ∈ xgt := wm_4 4 rfl rfl
set_option maxRecDepth 20000 in
theorem xw_401 : Cond.code yX2_settle cX2_settle 3 none ∈ xgt := wm_4 32 rfl rfl
set_option maxRecDepth 20000 in
theorem xw_402 : Cond.methodLink RX2 50 arraycopyName ∈ xgt := wm_4 61 rfl rfl
set_option maxRecDepth 20000 in
theorem xw_403 : Cond.code yX2_take cX2_take 2 none ∈ xgt := wm_4 60 rfl rfl
set_option maxRecDepth 20000 in
theorem xw_404 : Cond.instanceMethod yX2_readValue ∈ xgt := wm_4 3 rfl rfl
set_option maxRecDepth 20000 in
theorem xw_405 : Cond.selects yX2_readValue.cls yX2_readValue yX2_readValue ∈ xgt := ws_1 (q := (yX2_readValue, 10)) 14 rfl rfl
set_option maxRecDepth 20000 in
theorem xw_406 : Cond.methodLink RX2 56 yX2_readValue ∈ xgt := wm_4 1 rfl rfl
set_option maxRecDepth 20000 in
theorem xw_407 : Cond.instanceMethod yX2_readSign ∈ xgt := wm_4 27 rfl rfl
set_option maxRecDepth 20000 in
theorem xw_408 : Cond.selects yX2_readSign.cls yX2_readSign yX2_readSign ∈ xgt := ws_2 (q := (yX2_readSign, 10)) 3 rfl rfl
set_option maxRecDepth 20000 in
theorem xw_409 : Cond.methodLink RX2 60 yX2_readSign ∈ xgt := wm_4 25 rfl rfl
set_option maxRecDepth 20000 in
theorem xw_410 : Cond.instanceMethod yX9_next ∈ xgt := wm_3 155 rfl rfl
set_option maxRecDepth 20000 in
theorem xw_411 : Cond.selects yX9_next.cls yX9_next yX9_next ∈ xgt := wm_3 156 rfl rfl
set_option maxRecDepth 20000 in
theorem xw_412 : Cond.methodLink RX2 63 yX9_next ∈ xgt := wm_4 33 rfl rfl
set_option maxRecDepth 20000 in
theorem xw_413 : Cond.code yX2_tell cX2_tell 5 none ∈ xgt := wm_4 0 rfl rfl
set_option maxRecDepth 20000 in
theorem xw_414 : Cond.code yX2_topLevel cX2_topLevel 1 (some .int) ∈ xgt := wm_4 13 rfl rfl
set_option maxRecDepth 20000 in
theorem xw_415 : Cond.methodLink RX3 3 Lib.objectInit ∈ xgt := wm_2 156 rfl rfl
set_option maxRecDepth 20000 in
theorem xw_416 : Cond.fieldLink RX3 9 (TX3 0).1 (TX3 0).2.1 (TX3 0).2.2.1 ∈ xgt := wm_2 157 rfl rfl
set_option maxRecDepth 20000 in
theorem xw_417 : Cond.fieldLink RX3 15 (TX3 1).1 (TX3 1).2.1 (TX3 1).2.2.1 ∈ xgt := wm_2 158 rfl rfl
set_option maxRecDepth 20000 in
theorem xw_418 : Cond.code yX3_init cX3_init 1 none ∈ xgt := wm_2 155 rfl rfl
set_option maxRecDepth 20000 in
theorem xw_419 : Cond.code yX3_add cX3_add 2 (some .int) ∈ xgt := wm_5 108 rfl rfl
set_option maxRecDepth 20000 in
theorem xw_421 : Cond.code yX3_pitches cX3_pitches 6 (some .long) ∈ xgt := wm_5 128 rfl rfl
set_option maxRecDepth 20000 in
theorem xw_422 : Cond.methodLink RX4 3 Lib.objectInit ∈ xgt := wm_1 41 rfl rfl
set_option maxRecDepth 20000 in
theorem xw_423 : Cond.classLink RX4 9 RX6 ∈ xgt := wm_1 42 rfl rfl
set_option maxRecDepth 20000 in
theorem xw_424 : Cond.instantiable RX6 2 ∈ xgt := wm_1 43 rfl rfl
set_option maxRecDepth 20000 in
theorem xw_425 : Cond.initialized RX6 ∈ xgt := wm_1 3 rfl rfl
set_option maxRecDepth 20000 in
theorem xw_426 : Cond.instanceMethod yX6_init ∈ xgt := wm_1 45 rfl rfl
set_option maxRecDepth 20000 in
theorem xw_427 : Cond.methodLink RX4 11 yX6_init ∈ xgt := wm_1 44 rfl rfl
set_option maxRecDepth 20000 in
theorem xw_428 : Cond.fieldLink RX4 14 (TX4 0).1 (TX4 0).2.1 (TX4 0).2.2.1 ∈ xgt := wm_1 105 rfl rfl
set_option maxRecDepth 20000 in
theorem xw_429 : Cond.fieldLink RX4 20 (TX4 1).1 (TX4 1).2.1 (TX4 1).2.2.1 ∈ xgt := wm_1 109 rfl rfl
set_option maxRecDepth 20000 in
theorem xw_430 : Cond.fieldLink RX4 23 (TX4 2).1 (TX4 2).2.1 (TX4 2).2.2.1 ∈ xgt := wm_1 114 rfl rfl
set_option maxRecDepth 20000 in
theorem xw_431 : Cond.fieldLink RX4 26 (TX4 3).1 (TX4 3).2.1 (TX4 3).2.2.1 ∈ xgt := wm_1 119 rfl rfl
set_option maxRecDepth 20000 in
theorem xw_432 : Cond.fieldLink RX4 29 (TX4 4).1 (TX4 4).2.1 (TX4 4).2.2.1 ∈ xgt := wm_1 124 rfl rfl
set_option maxRecDepth 20000 in
theorem xw_433 : Cond.fieldLink RX4 33 (TX4 5).1 (TX4 5).2.1 (TX4 5).2.2.1 ∈ xgt := wm_1 128 rfl rfl
set_option maxRecDepth 20000 in
theorem xw_434 : Cond.fieldLink RX4 36 (TX4 6).1 (TX4 6).2.1 (TX4 6).2.2.1 ∈ xgt := wm_1 131 rfl rfl
set_option maxRecDepth 20000 in
theorem xw_435 : Cond.fieldLink RX4 39 (TX4 7).1 (TX4 7).2.1 (TX4 7).2.2.1 ∈ xgt := wm_1 134 rfl rfl
set_option maxRecDepth 20000 in
theorem xw_436 : Cond.fieldLink RX4 42 (TX4 8).1 (TX4 8).2.1 (TX4 8).2.2.1 ∈ xgt := wm_1 138 rfl rfl
set_option maxRecDepth 20000 in
theorem xw_437 : Cond.fieldLink RX4 45 (TX4 9).1 (TX4 9).2.1 (TX4 9).2.2.1 ∈ xgt := wm_1 142 rfl rfl
set_option maxRecDepth 20000 in
theorem xw_438 : Cond.fieldLink RX4 48 (TX4 10).1 (TX4 10).2.1 (TX4 10).2.2.1 ∈ xgt := wm_1 146 rfl rfl
set_option maxRecDepth 20000 in
theorem xw_439 : Cond.fieldLink RX4 51 (TX4 11).1 (TX4 11).2.1 (TX4 11).2.2.1 ∈ xgt := wm_1 149 rfl rfl
set_option maxRecDepth 20000 in
theorem xw_440 : Cond.fieldLink RX4 54 (TX4 12).1 (TX4 12).2.1 (TX4 12).2.2.1 ∈ xgt := wm_1 154 rfl rfl
set_option maxRecDepth 20000 in
theorem xw_441 : Cond.fieldLink RX4 57 (TX4 13).1 (TX4 13).2.1 (TX4 13).2.2.1 ∈ xgt := wm_1 159 rfl rfl
set_option maxRecDepth 20000 in
theorem xw_442 : Cond.fieldLink RX4 60 (TX4 14).1 (TX4 14).2.1 (TX4 14).2.2.1 ∈ xgt := wm_1 161 rfl rfl
set_option maxRecDepth 20000 in
theorem xw_443 : Cond.classLink RX4 63 RX2 ∈ xgt := wm_1 63 rfl rfl
set_option maxRecDepth 20000 in
theorem xw_444 : Cond.instantiable RX2 10 ∈ xgt := wm_1 64 rfl rfl
set_option maxRecDepth 20000 in
theorem xw_445 : Cond.instanceMethod yX2_init ∈ xgt := wm_1 66 rfl rfl
set_option maxRecDepth 20000 in
theorem xw_446 : Cond.fieldLink RX4 66 (TX4 15).1 (TX4 15).2.1 (TX4 15).2.2.1 ∈ xgt := wm_1 164 rfl rfl
set_option maxRecDepth 20000 in
theorem xw_447 : Cond.fieldLink RX4 70 (TX4 16).1 (TX4 16).2.1 (TX4 16).2.2.1 ∈ xgt := wm_1 168 rfl rfl
set_option maxRecDepth 20000 in
theorem xw_448 : Cond.fieldLink RX4 74 (TX4 17).1 (TX4 17).2.1 (TX4 17).2.2.1 ∈ xgt := wm_1 170 rfl rfl
set_option maxRecDepth 20000 in
theorem xw_449 : Cond.fieldLink RX4 77 (TX4 18).1 (TX4 18).2.1 (TX4 18).2.2.1 ∈ xgt := wm_1 173 rfl rfl
set_option maxRecDepth 20000 in
theorem xw_450 : Cond.code yX4_init cX4_init 1 none ∈ xgt := wm_1 40 rfl rfl
set_option maxRecDepth 20000 in
theorem xw_451 : Cond.fieldLink RX4 80 (TX6 1).1 (TX6 1).2.1 (TX6 1).2.2.1 ∈ xgt := wm_1 50 rfl rfl
set_option maxRecDepth 20000 in
theorem xw_452 : Cond.instanceMethod yX2_clear ∈ xgt := wm_3 143 rfl rfl
set_option maxRecDepth 20000 in
theorem xw_453 : Cond.selects yX2_clear.cls yX2_clear yX2_clear ∈ xgt := wm_3 144 rfl rfl
set_option maxRecDepth 20000 in
theorem xw_454 : Cond.methodLink RX4 83 yX2_clear ∈ xgt := wm_3 142 rfl rfl
set_option maxRecDepth 20000 in
theorem xw_455 : Cond.code yX4_clear cX4_clear 1 none ∈ xgt := wm_3 141 rfl rfl
set_option maxRecDepth 20000 in
theorem xw_456 : Cond.methodLink RX4 99 yX6_holds ∈ xgt := wm_4 91 rfl rfl
set_option maxRecDepth 20000 in
theorem xw_457 : Cond.code yX4_hasPart cX4_hasPart 3 (some .boolean) ∈ xgt := wm_4 90 rfl rfl
set_option maxRecDepth 20000 in
theorem xw_458 : Cond.code yX4_hasVerses cX4_hasVerses 2 (some .boolean) ∈ xgt := wm_5 85 rfl rfl
set_option maxRecDepth 20000 in
theorem xw_459 : Cond.methodLink RX4 103 yX4_pitchAt ∈ xgt := wm_4 122 rfl rfl
set_option maxRecDepth 20000 in
theorem xw_462 : Cond.code yX4_highestIn cX4_highestIn 4 (some .int) ∈ xgt := wm_4 140 rfl rfl
set_option maxRecDepth 20000 in
theorem xw_463 : Cond.code yX4_isBoy cX4_isBoy 2 (some .boolean) ∈ xgt := wm_5 13 rfl rfl
set_option maxRecDepth 20000 in
theorem xw_464 : Cond.code yX4_pitchAt cX4_pitchAt 3 (some .int) ∈ xgt := wm_4 100 rfl rfl
set_option maxRecDepth 20000 in
theorem xw_465 : Cond.constantLong RX4 112 (lN 2) ∈ xgt := wm_5 134 rfl rfl
set_option maxRecDepth 20000 in
theorem xw_466 : Cond.code yX4_reach cX4_reach 2 (some .long) ∈ xgt := wm_5 133 rfl rfl
set_option maxRecDepth 20000 in
theorem xw_467 : Cond.code yX4_reachedBars cX4_reachedBars 6 (some .int) ∈ xgt := wm_4 121 rfl rfl
set_option maxRecDepth 20000 in
theorem xw_468 : Cond.code yX4_restsIn cX4_restsIn 4 (some .int) ∈ xgt := wm_4 136 rfl rfl
set_option maxRecDepth 20000 in
theorem xw_469 : Cond.instanceMethod yX6_take ∈ xgt := wm_4 52 rfl rfl
set_option maxRecDepth 20000 in
theorem xw_470 : Cond.selects yX6_take.cls yX6_take yX6_take ∈ xgt := wm_4 53 rfl rfl
set_option maxRecDepth 20000 in
theorem xw_471 : Cond.methodLink RX4 86 yX6_take ∈ xgt := wm_4 51 rfl rfl
set_option maxRecDepth 20000 in
theorem xw_472 : Cond.methodLink RX4 90 arraycopyName ∈ xgt := wm_4 56 rfl rfl
set_option maxRecDepth 20000 in
theorem xw_473 : Cond.instanceMethod yX2_take ∈ xgt := wm_4 58 rfl rfl
set_option maxRecDepth 20000 in
theorem xw_474 : Cond.selects yX2_take.cls yX2_take yX2_take ∈ xgt := wm_4 59 rfl rfl
set_option maxRecDepth 20000 in
theorem xw_475 : Cond.methodLink RX4 96 yX2_take ∈ xgt := wm_4 57 rfl rfl
set_option maxRecDepth 20000 in
theorem xw_476 : Cond.code yX4_take cX4_take 2 none ∈ xgt := wm_4 50 rfl rfl
set_option maxRecDepth 20000 in
theorem xw_477 : Cond.methodLink RX5 3 Lib.objectInit ∈ xgt := wm_2 170 rfl rfl
set_option maxRecDepth 20000 in
theorem xw_478 : Cond.arrayClass .long ∈ xgt := wm_2 190 rfl rfl
set_option maxRecDepth 20000 in
theorem xw_479 : Cond.fieldLink RX5 9 (TX5 2).1 (TX5 2).2.1 (TX5 2).2.2.1 ∈ xgt := wm_2 173 rfl rfl
set_option maxRecDepth 20000 in
theorem xw_480 : Cond.fieldLink RX5 15 (TX5 3).1 (TX5 3).2.1 (TX5 3).2.2.1 ∈ xgt := wm_2 174 rfl rfl
set_option maxRecDepth 20000 in
theorem xw_481 : Cond.fieldLink RX5 18 (TX5 4).1 (TX5 4).2.1 (TX5 4).2.2.1 ∈ xgt := wm_2 175 rfl rfl
set_option maxRecDepth 20000 in
theorem xw_482 : Cond.fieldLink RX5 22 (TX5 5).1 (TX5 5).2.1 (TX5 5).2.2.1 ∈ xgt := wm_2 176 rfl rfl
set_option maxRecDepth 20000 in
theorem xw_483 : Cond.fieldLink RX5 26 (TX5 0).1 (TX5 0).2.1 (TX5 0).2.2.1 ∈ xgt := wm_2 171 rfl rfl
set_option maxRecDepth 20000 in
theorem xw_484 : Cond.fieldLink RX5 30 (TX5 1).1 (TX5 1).2.1 (TX5 1).2.2.1 ∈ xgt := wm_2 172 rfl rfl
set_option maxRecDepth 20000 in
theorem xw_485 : Cond.code yX5_init cX5_init 3 none ∈ xgt := wm_2 169 rfl rfl
set_option maxRecDepth 20000 in
theorem xw_486 : Cond.instanceMethod yX5_push ∈ xgt := wm_4 159 rfl rfl
set_option maxRecDepth 20000 in
theorem xw_487 : Cond.selects yX5_push.cls yX5_push yX5_push ∈ xgt := ws_2 (q := (yX5_push, 6)) 12 rfl rfl
set_option maxRecDepth 20000 in
theorem xw_488 : Cond.methodLink RX5 140 yX5_push ∈ xgt := wm_4 157 rfl rfl
set_option maxRecDepth 20000 in
theorem xw_489 : Cond.instanceMethod yX5_pop ∈ xgt := wm_4 165 rfl rfl
set_option maxRecDepth 20000 in
theorem xw_490 : Cond.selects yX5_pop.cls yX5_pop yX5_pop ∈ xgt := ws_2 (q := (yX5_pop, 6)) 13 rfl rfl
set_option maxRecDepth 20000 in
theorem xw_491 : Cond.methodLink RX5 131 yX5_pop ∈ xgt := wm_4 163 rfl rfl
set_option maxRecDepth 20000 in
theorem xw_492 : Cond.instanceMethod yX5_scale ∈ xgt := wm_4 169 rfl rfl
set_option maxRecDepth 20000 in
theorem xw_493 : Cond.selects yX5_scale.cls yX5_scale yX5_scale ∈ xgt := ws_2 (q := (yX5_scale, 6)) 14 rfl rfl
set_option maxRecDepth 20000 in
theorem xw_494 : Cond.methodLink RX5 144 yX5_scale ∈ xgt := wm_4 167 rfl rfl
set_option maxRecDepth 20000 in
theorem xw_495 : Cond.methodLink RX5 148 yX5_join ∈ xgt := wm_4 174 rfl rfl
set_option maxRecDepth 20000 in
theorem xw_496 : Cond.static yX5_join ∈ xgt := wm_4 175 rfl rfl
set_option maxRecDepth 20000 in
theorem xw_497 : Cond.code yX5_apply cX5_apply 7 none ∈ xgt := wm_4 156 rfl rfl
set_option maxRecDepth 20000 in
theorem xw_498 : Cond.fieldLink RX5 81 (TX4 11).1 (TX4 11).2.1 (TX4 11).2.2.1 ∈ xgt := wm_1 150 rfl rfl
set_option maxRecDepth 20000 in
theorem xw_499 : Cond.fieldLink RX5 95 (TX4 12).1 (TX4 12).2.1 (TX4 12).2.2.1 ∈ xgt := wm_1 156 rfl rfl
end
section
set_option maxRecDepth 20000 in
theorem xw_500 : Cond.methodLink RX5 75 yX4_restsIn ∈ xgt := wm_4 133 rfl rfl
set_option maxRecDepth 20000 in
theorem xw_501 : Cond.instanceMethod yX4_highestIn ∈ xgt := wm_4 138 rfl rfl
set_option maxRecDepth 20000 in
theorem xw_502 : Cond.selects yX4_highestIn.cls yX4_highestIn yX4_highestIn ∈ xgt := wm_4 139 rfl rfl
set_option maxRecDepth 20000 in
theorem xw_503 : Cond.methodLink RX5 78 yX4_highestIn ∈ xgt := wm_4 137 rfl rfl
set_option maxRecDepth 20000 in
theorem xw_505 : Cond.fieldLink RX5 68 (TX10 7).1 (TX10 7).2.1 (TX10 7).2.2.1 ∈ xgt := wm_2 111 rfl rfl
set_option maxRecDepth 20000 in
theorem xw_506 : Cond.instanceMethod yX5_setOwner ∈ xgt := wm_4 131 rfl rfl
set_option maxRecDepth 20000 in
theorem xw_507 : Cond.selects yX5_setOwner.cls yX5_setOwner yX5_setOwner ∈ xgt := ws_2 (q := (yX5_setOwner, 6)) 8 rfl rfl
set_option maxRecDepth 20000 in
theorem xw_508 : Cond.methodLink RX5 71 yX5_setOwner ∈ xgt := wm_4 129 rfl rfl
set_option maxRecDepth 20000 in
theorem xw_509 : Cond.instanceMethod yX5_setMusic ∈ xgt := wm_4 146 rfl rfl
set_option maxRecDepth 20000 in
theorem xw_510 : Cond.selects yX5_setMusic.cls yX5_setMusic yX5_setMusic ∈ xgt := ws_2 (q := (yX5_setMusic, 6)) 9 rfl rfl
set_option maxRecDepth 20000 in
theorem xw_511 : Cond.methodLink RX5 84 yX5_setMusic ∈ xgt := wm_4 144 rfl rfl
set_option maxRecDepth 20000 in
theorem xw_512 : Cond.instanceMethod yX5_reckon ∈ xgt := wm_4 150 rfl rfl
set_option maxRecDepth 20000 in
theorem xw_513 : Cond.selects yX5_reckon.cls yX5_reckon yX5_reckon ∈ xgt := ws_2 (q := (yX5_reckon, 6)) 10 rfl rfl
set_option maxRecDepth 20000 in
theorem xw_514 : Cond.methodLink RX5 88 yX5_reckon ∈ xgt := wm_4 148 rfl rfl
set_option maxRecDepth 20000 in
theorem xw_516 : Cond.code yX5_bidFor cX5_bidFor 9 (some .int) ∈ xgt := wm_4 196 rfl rfl
set_option maxRecDepth 20000 in
theorem xw_517 : Cond.fieldLink RX5 46 (TX4 8).1 (TX4 8).2.1 (TX4 8).2.2.1 ∈ xgt := wm_1 139 rfl rfl
set_option maxRecDepth 20000 in
theorem xw_518 : Cond.fieldLink RX5 53 (TX4 9).1 (TX4 9).2.1 (TX4 9).2.2.1 ∈ xgt := wm_1 143 rfl rfl
set_option maxRecDepth 20000 in
theorem xw_519 : Cond.fieldLink RX5 65 (TX4 4).1 (TX4 4).2.1 (TX4 4).2.2.1 ∈ xgt := wm_1 126 rfl rfl
set_option maxRecDepth 20000 in
theorem xw_520 : Cond.fieldLink RX5 92 (TX4 7).1 (TX4 7).2.1 (TX4 7).2.2.1 ∈ xgt := wm_1 136 rfl rfl
set_option maxRecDepth 20000 in
theorem xw_521 : Cond.code yX5_crackFor cX5_crackFor 4 (some .int) ∈ xgt := wm_4 206 rfl rfl
set_option maxRecDepth 20000 in
theorem xw_522 : Cond.methodLink RX5 56 yX5_soundBits ∈ xgt := wm_4 110 rfl rfl
set_option maxRecDepth 20000 in
theorem xw_523 : Cond.methodLink RX5 59 yJ6_bitCount_0f7a4 ∈ xgt := wm_4 123 rfl rfl
set_option maxRecDepth 20000 in
theorem xw_524 : Cond.code yX5_dueFor cX5_dueFor 8 (some .int) ∈ xgt := wm_4 108 rfl rfl
set_option maxRecDepth 20000 in
theorem xw_525 : Cond.code yX5_join cX5_join 5 (some .long) ∈ xgt := wm_4 176 rfl rfl
set_option maxRecDepth 20000 in
theorem xw_526 : Cond.code yX5_pop cX5_pop 1 (some .long) ∈ xgt := wm_4 166 rfl rfl
set_option maxRecDepth 20000 in
theorem xw_527 : Cond.constantLong RX5 155 (lN 1000000000000) ∈ xgt := wm_4 161 rfl rfl
set_option maxRecDepth 20000 in
theorem xw_528 : Cond.constantLong RX5 157 (lN 18446743073709551616) ∈ xgt := wm_4 162 rfl rfl
set_option maxRecDepth 20000 in
theorem xw_529 : Cond.code yX5_push cX5_push 3 none ∈ xgt := wm_4 160 rfl rfl
set_option maxRecDepth 20000 in
theorem xw_530 : Cond.fieldLink RX5 106 (TX4 15).1 (TX4 15).2.1 (TX4 15).2.2.1 ∈ xgt := wm_1 166 rfl rfl
set_option maxRecDepth 20000 in
theorem xw_531 : Cond.instanceMethod yX2_isTold ∈ xgt := wm_4 44 rfl rfl
set_option maxRecDepth 20000 in
theorem xw_532 : Cond.selects yX2_isTold.cls yX2_isTold yX2_isTold ∈ xgt := wm_4 45 rfl rfl
set_option maxRecDepth 20000 in
theorem xw_533 : Cond.methodLink RX5 110 yX2_isTold ∈ xgt := wm_4 152 rfl rfl
set_option maxRecDepth 20000 in
theorem xw_534 : Cond.fieldLink RX5 115 (TX2 2).1 (TX2 2).2.1 (TX2 2).2.2.1 ∈ xgt := wm_1 74 rfl rfl
set_option maxRecDepth 20000 in
theorem xw_535 : Cond.fieldLink RX5 118 (TX2 3).1 (TX2 3).2.1 (TX2 3).2.2.1 ∈ xgt := wm_1 76 rfl rfl
set_option maxRecDepth 20000 in
theorem xw_536 : Cond.fieldLink RX5 121 (TX2 0).1 (TX2 0).2.1 (TX2 0).2.2.1 ∈ xgt := wm_1 70 rfl rfl
set_option maxRecDepth 20000 in
theorem xw_537 : Cond.fieldLink RX5 124 (TX2 1).1 (TX2 1).2.1 (TX2 1).2.2.1 ∈ xgt := wm_1 72 rfl rfl
set_option maxRecDepth 20000 in
theorem xw_538 : Cond.instanceMethod yX5_apply ∈ xgt := wm_4 155 rfl rfl
set_option maxRecDepth 20000 in
theorem xw_539 : Cond.selects yX5_apply.cls yX5_apply yX5_apply ∈ xgt := ws_2 (q := (yX5_apply, 6)) 11 rfl rfl
set_option maxRecDepth 20000 in
theorem xw_540 : Cond.methodLink RX5 127 yX5_apply ∈ xgt := wm_4 153 rfl rfl
set_option maxRecDepth 20000 in
theorem xw_545 : Cond.code yX5_reckon cX5_reckon 6 (some .int) ∈ xgt := wm_4 151 rfl rfl
set_option maxRecDepth 20000 in
theorem xw_548 : Cond.code yX5_scale cX5_scale 6 (some .long) ∈ xgt := wm_4 170 rfl rfl
set_option maxRecDepth 20000 in
theorem xw_549 : Cond.code yX5_setMusic cX5_setMusic 5 none ∈ xgt := wm_4 147 rfl rfl
set_option maxRecDepth 20000 in
theorem xw_550 : Cond.code yX5_setOwner cX5_setOwner 4 none ∈ xgt := wm_4 132 rfl rfl
set_option maxRecDepth 20000 in
theorem xw_551 : Cond.methodLink RX5 34 yX10_isCracked ∈ xgt := wm_4 114 rfl rfl
set_option maxRecDepth 20000 in
theorem xw_552 : Cond.instanceMethod yX4_reachedBars ∈ xgt := wm_4 119 rfl rfl
set_option maxRecDepth 20000 in
theorem xw_553 : Cond.selects yX4_reachedBars.cls yX4_reachedBars yX4_reachedBars ∈ xgt := wm_4 120 rfl rfl
set_option maxRecDepth 20000 in
theorem xw_554 : Cond.methodLink RX5 40 yX4_reachedBars ∈ xgt := wm_4 118 rfl rfl
set_option maxRecDepth 20000 in
theorem xw_555 : Cond.code yX5_soundBits cX5_soundBits 3 (some .int) ∈ xgt := wm_4 113 rfl rfl
set_option maxRecDepth 20000 in
theorem xw_556 : Cond.methodLink RX6 3 Lib.objectInit ∈ xgt := wm_1 47 rfl rfl
set_option maxRecDepth 20000 in
theorem xw_557 : Cond.fieldLink RX6 9 (TX6 1).1 (TX6 1).2.1 (TX6 1).2.2.1 ∈ xgt := wm_1 49 rfl rfl
set_option maxRecDepth 20000 in
theorem xw_558 : Cond.fieldLink RX6 15 (TX6 0).1 (TX6 0).2.1 (TX6 0).2.2.1 ∈ xgt := wm_1 48 rfl rfl
set_option maxRecDepth 20000 in
theorem xw_559 : Cond.code yX6_init cX6_init 2 none ∈ xgt := wm_1 46 rfl rfl
set_option maxRecDepth 20000 in
theorem xw_560 : Cond.instanceMethod yX6_isFull ∈ xgt := wm_3 189 rfl rfl
set_option maxRecDepth 20000 in
theorem xw_561 : Cond.selects yX6_isFull.cls yX6_isFull yX6_isFull ∈ xgt := wm_3 190 rfl rfl
set_option maxRecDepth 20000 in
theorem xw_562 : Cond.methodLink RX6 19 yX6_isFull ∈ xgt := wm_3 205 rfl rfl
set_option maxRecDepth 20000 in
theorem xw_563 : Cond.code yX6_add cX6_add 2 (some .int) ∈ xgt := wm_3 204 rfl rfl
set_option maxRecDepth 20000 in
theorem xw_564 : Cond.code yX6_find cX6_find 3 (some .int) ∈ xgt := wm_3 200 rfl rfl
set_option maxRecDepth 20000 in
theorem xw_565 : Cond.code yX6_holds cX6_holds 2 (some .boolean) ∈ xgt := wm_4 78 rfl rfl
set_option maxRecDepth 20000 in
theorem xw_566 : Cond.code yX6_isFull cX6_isFull 1 (some .boolean) ∈ xgt := wm_3 191 rfl rfl
set_option maxRecDepth 20000 in
theorem xw_567 : Cond.methodLink RX6 23 arraycopyName ∈ xgt := wm_4 55 rfl rfl
set_option maxRecDepth 20000 in
theorem xw_568 : Cond.code yX6_take cX6_take 2 none ∈ xgt := wm_4 54 rfl rfl
set_option maxRecDepth 20000 in
theorem xw_569 : Cond.methodLink RX7 3 Lib.objectInit ∈ xgt := wm_3 0 rfl rfl
set_option maxRecDepth 20000 in
theorem xw_570 : Cond.fieldLink RX7 9 (TX7 3).1 (TX7 3).2.1 (TX7 3).2.2.1 ∈ xgt := wm_3 4 rfl rfl
set_option maxRecDepth 20000 in
theorem xw_571 : Cond.fieldLink RX7 15 (TX7 4).1 (TX7 4).2.1 (TX7 4).2.2.1 ∈ xgt := wm_3 6 rfl rfl
set_option maxRecDepth 20000 in
theorem xw_572 : Cond.fieldLink RX7 18 (TX7 5).1 (TX7 5).2.1 (TX7 5).2.2.1 ∈ xgt := wm_3 8 rfl rfl
set_option maxRecDepth 20000 in
theorem xw_573 : Cond.fieldLink RX7 21 (TX7 0).1 (TX7 0).2.1 (TX7 0).2.2.1 ∈ xgt := wm_3 1 rfl rfl
set_option maxRecDepth 20000 in
theorem xw_574 : Cond.fieldLink RX7 25 (TX7 1).1 (TX7 1).2.1 (TX7 1).2.2.1 ∈ xgt := wm_3 2 rfl rfl
set_option maxRecDepth 20000 in
theorem xw_575 : Cond.fieldLink RX7 29 (TX7 2).1 (TX7 2).2.1 (TX7 2).2.2.1 ∈ xgt := wm_3 3 rfl rfl
set_option maxRecDepth 20000 in
theorem xw_576 : Cond.code yX7_init cX7_init 4 none ∈ xgt := wm_2 239 rfl rfl
set_option maxRecDepth 20000 in
theorem xw_577 : Cond.fieldLink RX7 33 (TX10 2).1 (TX10 2).2.1 (TX10 2).2.2.1 ∈ xgt := wm_2 100 rfl rfl
set_option maxRecDepth 20000 in
theorem xw_578 : Cond.methodLink RX7 38 arraycopyName ∈ xgt := wm_5 90 rfl rfl
set_option maxRecDepth 20000 in
theorem xw_579 : Cond.fieldLink RX7 44 (TX4 2).1 (TX4 2).2.1 (TX4 2).2.2.1 ∈ xgt := wm_1 115 rfl rfl
set_option maxRecDepth 20000 in
theorem xw_580 : Cond.fieldLink RX7 50 (TX6 1).1 (TX6 1).2.1 (TX6 1).2.2.1 ∈ xgt := wm_1 52 rfl rfl
set_option maxRecDepth 20000 in
theorem xw_581 : Cond.instanceMethod yX7_sellVerse ∈ xgt := wm_5 93 rfl rfl
set_option maxRecDepth 20000 in
theorem xw_582 : Cond.selects yX7_sellVerse.cls yX7_sellVerse yX7_sellVerse ∈ xgt := ws_3 (q := (yX7_sellVerse, 6)) 8 rfl rfl
set_option maxRecDepth 20000 in
theorem xw_583 : Cond.methodLink RX7 56 yX7_sellVerse ∈ xgt := wm_5 91 rfl rfl
set_option maxRecDepth 20000 in
theorem xw_584 : Cond.code yX7_hold cX7_hold 4 (some .int) ∈ xgt := wm_5 89 rfl rfl
set_option maxRecDepth 20000 in
theorem xw_585 : Cond.fieldLink RX7 60 (TX4 3).1 (TX4 3).2.1 (TX4 3).2.2.1 ∈ xgt := wm_1 121 rfl rfl
set_option maxRecDepth 20000 in
theorem xw_586 : Cond.methodLink RX7 63 yX5_bidFor ∈ xgt := wm_5 95 rfl rfl
set_option maxRecDepth 20000 in
theorem xw_588 : Cond.code yX7_sellVerse cX7_sellVerse 7 none ∈ xgt := wm_5 94 rfl rfl
set_option maxRecDepth 20000 in
theorem xw_589 : Cond.methodLink RX8 3 Lib.objectInit ∈ xgt := wm_2 74 rfl rfl
set_option maxRecDepth 20000 in
theorem xw_590 : Cond.fieldLink RX8 9 (TX8 2).1 (TX8 2).2.1 (TX8 2).2.2.1 ∈ xgt := wm_2 78 rfl rfl
set_option maxRecDepth 20000 in
theorem xw_591 : Cond.fieldLink RX8 15 (TX8 3).1 (TX8 3).2.1 (TX8 3).2.2.1 ∈ xgt := wm_2 79 rfl rfl
set_option maxRecDepth 20000 in
theorem xw_592 : Cond.fieldLink RX8 18 (TX8 0).1 (TX8 0).2.1 (TX8 0).2.2.1 ∈ xgt := wm_2 75 rfl rfl
set_option maxRecDepth 20000 in
theorem xw_593 : Cond.fieldLink RX8 22 (TX8 1).1 (TX8 1).2.1 (TX8 1).2.2.1 ∈ xgt := wm_2 77 rfl rfl
set_option maxRecDepth 20000 in
theorem xw_594 : Cond.code yX8_init cX8_init 3 none ∈ xgt := wm_2 73 rfl rfl
set_option maxRecDepth 20000 in
theorem xw_595 : Cond.methodLink RX8 158 yX6_isFull ∈ xgt := wm_3 188 rfl rfl
set_option maxRecDepth 20000 in
theorem xw_596 : Cond.methodLink RX8 67 yX9_fail ∈ xgt := wm_3 192 rfl rfl
set_option maxRecDepth 20000 in
theorem xw_597 : Cond.methodLink RX8 152 yX9_next ∈ xgt := wm_3 196 rfl rfl
set_option maxRecDepth 20000 in
theorem xw_598 : Cond.fieldLink RX8 37 (TX9 4).1 (TX9 4).2.1 (TX9 4).2.2.1 ∈ xgt := wm_2 42 rfl rfl
set_option maxRecDepth 20000 in
theorem xw_599 : Cond.fieldLink RX8 164 (TX9 6).1 (TX9 6).2.1 (TX9 6).2.2.1 ∈ xgt := wm_2 47 rfl rfl
set_option maxRecDepth 20000 in
theorem xw_600 : Cond.methodLink RX8 167 yX6_find ∈ xgt := wm_3 197 rfl rfl
set_option maxRecDepth 20000 in
theorem xw_601 : Cond.instanceMethod yX6_add ∈ xgt := wm_3 202 rfl rfl
set_option maxRecDepth 20000 in
theorem xw_602 : Cond.selects yX6_add.cls yX6_add yX6_add ∈ xgt := wm_3 203 rfl rfl
set_option maxRecDepth 20000 in
theorem xw_603 : Cond.methodLink RX8 171 yX6_add ∈ xgt := wm_3 201 rfl rfl
set_option maxRecDepth 20000 in
theorem xw_604 : Cond.code yX8_begin cX8_begin 3 (some .int) ∈ xgt := wm_3 187 rfl rfl
set_option maxRecDepth 20000 in
theorem xw_605 : Cond.instanceMethod yX8_number ∈ xgt := wm_3 208 rfl rfl
set_option maxRecDepth 20000 in
theorem xw_606 : Cond.selects yX8_number.cls yX8_number yX8_number ∈ xgt := ws_1 (q := (yX8_number, 4)) 7 rfl rfl
set_option maxRecDepth 20000 in
theorem xw_607 : Cond.methodLink RX8 86 yX8_number ∈ xgt := wm_3 206 rfl rfl
set_option maxRecDepth 20000 in
theorem xw_608 : Cond.code yX8_loneNumber cX8_loneNumber 3 (some .int) ∈ xgt := wm_4 37 rfl rfl
set_option maxRecDepth 20000 in
theorem xw_609 : Cond.code yX8_number cX8_number 4 (some .int) ∈ xgt := wm_3 209 rfl rfl
set_option maxRecDepth 20000 in
theorem xw_610 : Cond.fieldLink RX8 136 (TX4 3).1 (TX4 3).2.1 (TX4 3).2.2.1 ∈ xgt := wm_1 123 rfl rfl
set_option maxRecDepth 20000 in
theorem xw_611 : Cond.instanceMethod yX8_begin ∈ xgt := wm_3 186 rfl rfl
set_option maxRecDepth 20000 in
theorem xw_612 : Cond.selects yX8_begin.cls yX8_begin yX8_begin ∈ xgt := ws_1 (q := (yX8_begin, 4)) 6 rfl rfl
set_option maxRecDepth 20000 in
theorem xw_613 : Cond.methodLink RX8 78 yX8_begin ∈ xgt := wm_3 184 rfl rfl
set_option maxRecDepth 20000 in
theorem xw_614 : Cond.fieldLink RX8 139 (TX4 14).1 (TX4 14).2.1 (TX4 14).2.2.1 ∈ xgt := wm_1 163 rfl rfl
set_option maxRecDepth 20000 in
theorem xw_615 : Cond.fieldLink RX8 142 (TX4 15).1 (TX4 15).2.1 (TX4 15).2.2.1 ∈ xgt := wm_1 165 rfl rfl
set_option maxRecDepth 20000 in
theorem xw_616 : Cond.instanceMethod yX2_tell ∈ xgt := wm_3 238 rfl rfl
set_option maxRecDepth 20000 in
theorem xw_617 : Cond.selects yX2_tell.cls yX2_tell yX2_tell ∈ xgt := wm_3 239 rfl rfl
set_option maxRecDepth 20000 in
theorem xw_618 : Cond.methodLink RX8 146 yX2_tell ∈ xgt := wm_3 237 rfl rfl
set_option maxRecDepth 20000 in
theorem xw_619 : Cond.code yX8_readBaker cX8_readBaker 2 none ∈ xgt := wm_3 236 rfl rfl
set_option maxRecDepth 20000 in
theorem xw_620 : Cond.methodLink RX8 155 yX2_isTold ∈ xgt := wm_4 43 rfl rfl
set_option maxRecDepth 20000 in
theorem xw_621 : Cond.code yX8_readLaw cX8_readLaw 2 none ∈ xgt := wm_4 42 rfl rfl
set_option maxRecDepth 20000 in
theorem xw_622 : Cond.instanceMethod yX8_skips ∈ xgt := wm_3 216 rfl rfl
set_option maxRecDepth 20000 in
theorem xw_623 : Cond.selects yX8_skips.cls yX8_skips yX8_skips ∈ xgt := ws_1 (q := (yX8_skips, 4)) 9 rfl rfl
set_option maxRecDepth 20000 in
theorem xw_624 : Cond.methodLink RX8 71 yX8_skips ∈ xgt := wm_3 214 rfl rfl
set_option maxRecDepth 20000 in
theorem xw_625 : Cond.fieldLink RX8 130 (TX4 13).1 (TX4 13).2.1 (TX4 13).2.2.1 ∈ xgt := wm_1 160 rfl rfl
set_option maxRecDepth 20000 in
theorem xw_626 : Cond.fieldLink RX8 133 (TX4 12).1 (TX4 12).2.1 (TX4 12).2.2.1 ∈ xgt := wm_1 157 rfl rfl
set_option maxRecDepth 20000 in
theorem xw_627 : Cond.code yX8_readPart cX8_readPart 3 none ∈ xgt := wm_3 232 rfl rfl
set_option maxRecDepth 20000 in
theorem xw_628 : Cond.fieldLink RX8 74 (TX4 0).1 (TX4 0).2.1 (TX4 0).2.2.1 ∈ xgt := wm_1 107 rfl rfl
set_option maxRecDepth 20000 in
theorem xw_629 : Cond.fieldLink RX8 82 (TX4 4).1 (TX4 4).2.1 (TX4 4).2.2.1 ∈ xgt := wm_1 125 rfl rfl
set_option maxRecDepth 20000 in
theorem xw_630 : Cond.fieldLink RX8 90 (TX4 5).1 (TX4 5).2.1 (TX4 5).2.2.1 ∈ xgt := wm_1 130 rfl rfl
set_option maxRecDepth 20000 in
theorem xw_631 : Cond.code yX8_readTavern cX8_readTavern 2 none ∈ xgt := wm_3 183 rfl rfl
set_option maxRecDepth 20000 in
theorem xw_632 : Cond.fieldLink RX8 118 (TX4 2).1 (TX4 2).2.1 (TX4 2).2.2.1 ∈ xgt := wm_1 117 rfl rfl
set_option maxRecDepth 20000 in
theorem xw_633 : Cond.instanceMethod yX8_readPart ∈ xgt := wm_3 231 rfl rfl
set_option maxRecDepth 20000 in
theorem xw_634 : Cond.selects yX8_readPart.cls yX8_readPart yX8_readPart ∈ xgt := ws_1 (q := (yX8_readPart, 4)) 12 rfl rfl
set_option maxRecDepth 20000 in
theorem xw_635 : Cond.methodLink RX8 124 yX8_readPart ∈ xgt := wm_3 229 rfl rfl
set_option maxRecDepth 20000 in
theorem xw_636 : Cond.fieldLink RX8 127 (TX4 11).1 (TX4 11).2.1 (TX4 11).2.2.1 ∈ xgt := wm_1 152 rfl rfl
set_option maxRecDepth 20000 in
theorem xw_637 : Cond.code yX8_readVerse cX8_readVerse 3 none ∈ xgt := wm_3 225 rfl rfl
set_option maxRecDepth 20000 in
theorem xw_638 : Cond.fieldLink RX8 93 (TX4 1).1 (TX4 1).2.1 (TX4 1).2.2.1 ∈ xgt := wm_1 111 rfl rfl
set_option maxRecDepth 20000 in
theorem xw_639 : Cond.fieldLink RX8 96 (TX4 6).1 (TX4 6).2.1 (TX4 6).2.2.1 ∈ xgt := wm_1 132 rfl rfl
set_option maxRecDepth 20000 in
theorem xw_640 : Cond.fieldLink RX8 99 (TX4 7).1 (TX4 7).2.1 (TX4 7).2.2.1 ∈ xgt := wm_1 135 rfl rfl
set_option maxRecDepth 20000 in
theorem xw_641 : Cond.fieldLink RX8 102 (TX4 8).1 (TX4 8).2.1 (TX4 8).2.2.1 ∈ xgt := wm_1 140 rfl rfl
set_option maxRecDepth 20000 in
theorem xw_642 : Cond.fieldLink RX8 105 (TX4 9).1 (TX4 9).2.1 (TX4 9).2.2.1 ∈ xgt := wm_1 144 rfl rfl
set_option maxRecDepth 20000 in
theorem xw_643 : Cond.fieldLink RX8 108 (TX4 10).1 (TX4 10).2.1 (TX4 10).2.2.1 ∈ xgt := wm_1 147 rfl rfl
set_option maxRecDepth 20000 in
theorem xw_644 : Cond.fieldLink RX8 111 (TX4 16).1 (TX4 16).2.1 (TX4 16).2.2.1 ∈ xgt := wm_1 169 rfl rfl
set_option maxRecDepth 20000 in
theorem xw_645 : Cond.instanceMethod yX8_toldTavern ∈ xgt := wm_3 220 rfl rfl
set_option maxRecDepth 20000 in
theorem xw_646 : Cond.selects yX8_toldTavern.cls yX8_toldTavern yX8_toldTavern ∈ xgt := ws_1 (q := (yX8_toldTavern, 4)) 10 rfl rfl
set_option maxRecDepth 20000 in
theorem xw_647 : Cond.methodLink RX8 114 yX8_toldTavern ∈ xgt := wm_3 218 rfl rfl
set_option maxRecDepth 20000 in
theorem xw_648 : Cond.code yX8_readVoice cX8_readVoice 2 none ∈ xgt := wm_3 213 rfl rfl
set_option maxRecDepth 20000 in
theorem xw_649 : Cond.code yX8_skips cX8_skips 2 (some .boolean) ∈ xgt := wm_3 217 rfl rfl
set_option maxRecDepth 20000 in
theorem xw_650 : Cond.instanceMethod yX4_clear ∈ xgt := wm_3 139 rfl rfl
set_option maxRecDepth 20000 in
theorem xw_651 : Cond.selects yX4_clear.cls yX4_clear yX4_clear ∈ xgt := wm_3 140 rfl rfl
set_option maxRecDepth 20000 in
theorem xw_652 : Cond.methodLink RX8 26 yX4_clear ∈ xgt := wm_3 138 rfl rfl
set_option maxRecDepth 20000 in
theorem xw_653 : Cond.instanceMethod yX9_start ∈ xgt := wm_3 148 rfl rfl
set_option maxRecDepth 20000 in
theorem xw_654 : Cond.selects yX9_start.cls yX9_start yX9_start ∈ xgt := wm_3 149 rfl rfl
set_option maxRecDepth 20000 in
theorem xw_655 : Cond.methodLink RX8 31 yX9_start ∈ xgt := wm_3 147 rfl rfl
set_option maxRecDepth 20000 in
theorem xw_656 : Cond.instanceMethod yX8_readTavern ∈ xgt := wm_3 182 rfl rfl
set_option maxRecDepth 20000 in
theorem xw_657 : Cond.selects yX8_readTavern.cls yX8_readTavern yX8_readTavern ∈ xgt := ws_1 (q := (yX8_readTavern, 4)) 5 rfl rfl
set_option maxRecDepth 20000 in
theorem xw_658 : Cond.methodLink RX8 41 yX8_readTavern ∈ xgt := wm_3 180 rfl rfl
set_option maxRecDepth 20000 in
theorem xw_659 : Cond.instanceMethod yX8_readVoice ∈ xgt := wm_3 212 rfl rfl
set_option maxRecDepth 20000 in
theorem xw_660 : Cond.selects yX8_readVoice.cls yX8_readVoice yX8_readVoice ∈ xgt := ws_1 (q := (yX8_readVoice, 4)) 8 rfl rfl
set_option maxRecDepth 20000 in
theorem xw_661 : Cond.methodLink RX8 44 yX8_readVoice ∈ xgt := wm_3 210 rfl rfl
set_option maxRecDepth 20000 in
theorem xw_662 : Cond.instanceMethod yX8_readVerse ∈ xgt := wm_3 224 rfl rfl
set_option maxRecDepth 20000 in
theorem xw_663 : Cond.selects yX8_readVerse.cls yX8_readVerse yX8_readVerse ∈ xgt := ws_1 (q := (yX8_readVerse, 4)) 11 rfl rfl
set_option maxRecDepth 20000 in
theorem xw_664 : Cond.methodLink RX8 47 yX8_readVerse ∈ xgt := wm_3 222 rfl rfl
set_option maxRecDepth 20000 in
theorem xw_665 : Cond.instanceMethod yX8_readBaker ∈ xgt := wm_3 235 rfl rfl
set_option maxRecDepth 20000 in
theorem xw_666 : Cond.selects yX8_readBaker.cls yX8_readBaker yX8_readBaker ∈ xgt := ws_1 (q := (yX8_readBaker, 4)) 13 rfl rfl
set_option maxRecDepth 20000 in
theorem xw_667 : Cond.methodLink RX8 50 yX8_readBaker ∈ xgt := wm_3 233 rfl rfl
set_option maxRecDepth 20000 in
theorem xw_668 : Cond.instanceMethod yX8_loneNumber ∈ xgt := wm_4 36 rfl rfl
set_option maxRecDepth 20000 in
theorem xw_669 : Cond.selects yX8_loneNumber.cls yX8_loneNumber yX8_loneNumber ∈ xgt := ws_2 (q := (yX8_loneNumber, 4)) 5 rfl rfl
set_option maxRecDepth 20000 in
theorem xw_670 : Cond.methodLink RX8 53 yX8_loneNumber ∈ xgt := wm_4 34 rfl rfl
set_option maxRecDepth 20000 in
theorem xw_671 : Cond.fieldLink RX8 57 (TX4 17).1 (TX4 17).2.1 (TX4 17).2.2.1 ∈ xgt := wm_1 172 rfl rfl
set_option maxRecDepth 20000 in
theorem xw_672 : Cond.constant RX8 60 (nI 99999) ∈ xgt := wm_4 38 rfl rfl
set_option maxRecDepth 20000 in
theorem xw_673 : Cond.fieldLink RX8 61 (TX4 18).1 (TX4 18).2.1 (TX4 18).2.2.1 ∈ xgt := wm_1 175 rfl rfl
set_option maxRecDepth 20000 in
theorem xw_674 : Cond.instanceMethod yX8_readLaw ∈ xgt := wm_4 41 rfl rfl
set_option maxRecDepth 20000 in
theorem xw_675 : Cond.selects yX8_readLaw.cls yX8_readLaw yX8_readLaw ∈ xgt := ws_2 (q := (yX8_readLaw, 4)) 6 rfl rfl
set_option maxRecDepth 20000 in
theorem xw_676 : Cond.methodLink RX8 64 yX8_readLaw ∈ xgt := wm_4 39 rfl rfl
set_option maxRecDepth 20000 in
theorem xw_677 : Cond.code yX8_tell cX8_tell 4 (some .int) ∈ xgt := wm_3 137 rfl rfl
set_option maxRecDepth 20000 in
theorem xw_678 : Cond.code yX8_toldTavern cX8_toldTavern 2 (some .int) ∈ xgt := wm_3 221 rfl rfl
set_option maxRecDepth 20000 in
theorem xw_679 : Cond.methodLink RX9 3 Lib.objectInit ∈ xgt := wm_1 222 rfl rfl
set_option maxRecDepth 20000 in
theorem xw_680 : Cond.fieldLink RX9 9 (TX9 1).1 (TX9 1).2.1 (TX9 1).2.2.1 ∈ xgt := wm_2 38 rfl rfl
set_option maxRecDepth 20000 in
theorem xw_681 : Cond.fieldLink RX9 15 (TX9 2).1 (TX9 2).2.1 (TX9 2).2.2.1 ∈ xgt := wm_2 39 rfl rfl
set_option maxRecDepth 20000 in
theorem xw_682 : Cond.fieldLink RX9 19 (TX9 3).1 (TX9 3).2.1 (TX9 3).2.2.1 ∈ xgt := wm_2 40 rfl rfl
set_option maxRecDepth 20000 in
theorem xw_683 : Cond.fieldLink RX9 22 (TX9 4).1 (TX9 4).2.1 (TX9 4).2.2.1 ∈ xgt := wm_2 41 rfl rfl
set_option maxRecDepth 20000 in
theorem xw_684 : Cond.fieldLink RX9 25 (TX9 5).1 (TX9 5).2.1 (TX9 5).2.2.1 ∈ xgt := wm_2 44 rfl rfl
set_option maxRecDepth 20000 in
theorem xw_685 : Cond.fieldLink RX9 28 (TX9 6).1 (TX9 6).2.1 (TX9 6).2.2.1 ∈ xgt := wm_2 45 rfl rfl
set_option maxRecDepth 20000 in
theorem xw_686 : Cond.fieldLink RX9 31 (TX9 7).1 (TX9 7).2.1 (TX9 7).2.2.1 ∈ xgt := wm_2 48 rfl rfl
set_option maxRecDepth 20000 in
theorem xw_687 : Cond.fieldLink RX9 34 (TX9 8).1 (TX9 8).2.1 (TX9 8).2.2.1 ∈ xgt := wm_2 50 rfl rfl
set_option maxRecDepth 20000 in
theorem xw_688 : Cond.fieldLink RX9 37 (TX9 0).1 (TX9 0).2.1 (TX9 0).2.2.1 ∈ xgt := wm_2 37 rfl rfl
set_option maxRecDepth 20000 in
theorem xw_689 : Cond.instanceMethod yX9_packWords ∈ xgt := wm_1 226 rfl rfl
set_option maxRecDepth 20000 in
theorem xw_690 : Cond.selects yX9_packWords.cls yX9_packWords yX9_packWords ∈ xgt := ws_1 (q := (yX9_packWords, 9)) 0 rfl rfl
set_option maxRecDepth 20000 in
theorem xw_691 : Cond.methodLink RX9 43 yX9_packWords ∈ xgt := wm_1 224 rfl rfl
set_option maxRecDepth 20000 in
theorem xw_692 : Cond.code yX9_init cX9_init 2 none ∈ xgt := wm_1 221 rfl rfl
set_option maxRecDepth 20000 in
theorem xw_693 : Cond.code yX9_fail cX9_fail 2 (some .boolean) ∈ xgt := wm_3 195 rfl rfl
set_option maxRecDepth 20000 in
theorem xw_694 : Cond.code yX9_isDigit cX9_isDigit 1 (some .boolean) ∈ xgt := wm_3 167 rfl rfl
set_option maxRecDepth 20000 in
theorem xw_695 : Cond.code yX9_isLetter cX9_isLetter 1 (some .boolean) ∈ xgt := wm_3 160 rfl rfl
set_option maxRecDepth 20000 in
theorem xw_696 : Cond.methodLink RX9 68 yX9_isLetter ∈ xgt := wm_3 158 rfl rfl
set_option maxRecDepth 20000 in
theorem xw_697 : Cond.static yX9_isLetter ∈ xgt := wm_3 159 rfl rfl
set_option maxRecDepth 20000 in
theorem xw_698 : Cond.instanceMethod yX9_readWord ∈ xgt := wm_3 163 rfl rfl
set_option maxRecDepth 20000 in
theorem xw_699 : Cond.selects yX9_readWord.cls yX9_readWord yX9_readWord ∈ xgt := ws_1 (q := (yX9_readWord, 9)) 2 rfl rfl
set_option maxRecDepth 20000 in
theorem xw_700 : Cond.methodLink RX9 72 yX9_readWord ∈ xgt := wm_3 161 rfl rfl
set_option maxRecDepth 20000 in
theorem xw_701 : Cond.methodLink RX9 75 yX9_isDigit ∈ xgt := wm_3 165 rfl rfl
set_option maxRecDepth 20000 in
theorem xw_702 : Cond.static yX9_isDigit ∈ xgt := wm_3 166 rfl rfl
set_option maxRecDepth 20000 in
theorem xw_703 : Cond.instanceMethod yX9_readNumber ∈ xgt := wm_3 170 rfl rfl
set_option maxRecDepth 20000 in
theorem xw_704 : Cond.selects yX9_readNumber.cls yX9_readNumber yX9_readNumber ∈ xgt := ws_1 (q := (yX9_readNumber, 9)) 3 rfl rfl
set_option maxRecDepth 20000 in
theorem xw_705 : Cond.methodLink RX9 78 yX9_readNumber ∈ xgt := wm_3 168 rfl rfl
set_option maxRecDepth 20000 in
theorem xw_706 : Cond.instanceMethod yX9_readSign ∈ xgt := wm_3 175 rfl rfl
set_option maxRecDepth 20000 in
theorem xw_707 : Cond.selects yX9_readSign.cls yX9_readSign yX9_readSign ∈ xgt := ws_1 (q := (yX9_readSign, 9)) 4 rfl rfl
set_option maxRecDepth 20000 in
theorem xw_708 : Cond.methodLink RX9 81 yX9_readSign ∈ xgt := wm_3 173 rfl rfl
set_option maxRecDepth 20000 in
theorem xw_709 : Cond.code yX9_next cX9_next 1 none ∈ xgt := wm_3 157 rfl rfl
set_option maxRecDepth 20000 in
theorem xw_710 : Cond.instanceMethod yJ0_length_8abf5 ∈ xgt := wm_1 229 rfl rfl
set_option maxRecDepth 20000 in
theorem xw_711 : Cond.selects yJ0_length_8abf5.cls yJ0_length_8abf5 yJ0_length_8abf5 ∈ xgt := wm_1 230 rfl rfl
set_option maxRecDepth 20000 in
theorem xw_712 : Cond.methodLink RX9 49 yJ0_length_8abf5 ∈ xgt := wm_1 228 rfl rfl
set_option maxRecDepth 20000 in
theorem xw_713 : Cond.instanceMethod yJ0_charAt_5068e ∈ xgt := wm_1 239 rfl rfl
set_option maxRecDepth 20000 in
theorem xw_714 : Cond.selects yJ0_charAt_5068e.cls yJ0_charAt_5068e yJ0_charAt_5068e ∈ xgt := wm_2 0 rfl rfl
set_option maxRecDepth 20000 in
theorem xw_715 : Cond.methodLink RX9 55 yJ0_charAt_5068e ∈ xgt := wm_1 238 rfl rfl
set_option maxRecDepth 20000 in
theorem xw_716 : Cond.code yX9_packWords cX9_packWords 7 none ∈ xgt := wm_1 227 rfl rfl
set_option maxRecDepth 20000 in
theorem xw_717 : Cond.constant RX9 84 (nI 1000000) ∈ xgt := wm_3 172 rfl rfl
set_option maxRecDepth 20000 in
theorem xw_719 : Cond.code yX9_readNumber cX9_readNumber 1 none ∈ xgt := wm_3 171 rfl rfl
set_option maxRecDepth 20000 in
theorem xw_720 : Cond.methodLink RX9 85 yX9_signKind ∈ xgt := wm_3 177 rfl rfl
set_option maxRecDepth 20000 in
theorem xw_721 : Cond.static yX9_signKind ∈ xgt := wm_3 178 rfl rfl
set_option maxRecDepth 20000 in
theorem xw_722 : Cond.code yX9_readSign cX9_readSign 3 none ∈ xgt := wm_3 176 rfl rfl
set_option maxRecDepth 20000 in
theorem xw_723 : Cond.code yX9_readWord cX9_readWord 3 none ∈ xgt := wm_3 164 rfl rfl
set_option maxRecDepth 20000 in
theorem xw_724 : Cond.code yX9_signKind cX9_signKind 2 (some .int) ∈ xgt := wm_3 179 rfl rfl
set_option maxRecDepth 20000 in
theorem xw_725 : Cond.methodLink RX9 65 yX9_next ∈ xgt := wm_3 154 rfl rfl
set_option maxRecDepth 20000 in
theorem xw_726 : Cond.code yX9_start cX9_start 2 none ∈ xgt := wm_3 150 rfl rfl
set_option maxRecDepth 20000 in
theorem xw_727 : Cond.methodLink RX10 3 Lib.objectInit ∈ xgt := wm_2 94 rfl rfl
set_option maxRecDepth 20000 in
theorem xw_728 : Cond.fieldLink RX10 9 (TX10 0).1 (TX10 0).2.1 (TX10 0).2.2.1 ∈ xgt := wm_2 95 rfl rfl
set_option maxRecDepth 20000 in
theorem xw_729 : Cond.fieldLink RX10 15 (TX10 1).1 (TX10 1).2.1 (TX10 1).2.2.1 ∈ xgt := wm_2 97 rfl rfl
set_option maxRecDepth 20000 in
theorem xw_730 : Cond.fieldLink RX10 18 (TX10 2).1 (TX10 2).2.1 (TX10 2).2.2.1 ∈ xgt := wm_2 99 rfl rfl
set_option maxRecDepth 20000 in
theorem xw_731 : Cond.fieldLink RX10 21 (TX10 3).1 (TX10 3).2.1 (TX10 3).2.2.1 ∈ xgt := wm_2 102 rfl rfl
set_option maxRecDepth 20000 in
theorem xw_732 : Cond.fieldLink RX10 24 (TX10 4).1 (TX10 4).2.1 (TX10 4).2.2.1 ∈ xgt := wm_2 104 rfl rfl
set_option maxRecDepth 20000 in
theorem xw_733 : Cond.fieldLink RX10 27 (TX10 5).1 (TX10 5).2.1 (TX10 5).2.2.1 ∈ xgt := wm_2 106 rfl rfl
set_option maxRecDepth 20000 in
theorem xw_734 : Cond.fieldLink RX10 30 (TX10 6).1 (TX10 6).2.1 (TX10 6).2.2.1 ∈ xgt := wm_2 108 rfl rfl
set_option maxRecDepth 20000 in
theorem xw_735 : Cond.fieldLink RX10 34 (TX10 7).1 (TX10 7).2.1 (TX10 7).2.2.1 ∈ xgt := wm_2 110 rfl rfl
set_option maxRecDepth 20000 in
theorem xw_736 : Cond.fieldLink RX10 37 (TX10 8).1 (TX10 8).2.1 (TX10 8).2.2.1 ∈ xgt := wm_2 113 rfl rfl
set_option maxRecDepth 20000 in
theorem xw_737 : Cond.fieldLink RX10 40 (TX10 9).1 (TX10 9).2.1 (TX10 9).2.2.1 ∈ xgt := wm_2 115 rfl rfl
set_option maxRecDepth 20000 in
theorem xw_738 : Cond.fieldLink RX10 43 (TX10 10).1 (TX10 10).2.1 (TX10 10).2.2.1 ∈ xgt := wm_2 117 rfl rfl
set_option maxRecDepth 20000 in
theorem xw_739 : Cond.fieldLink RX10 46 (TX10 11).1 (TX10 11).2.1 (TX10 11).2.2.1 ∈ xgt := wm_2 121 rfl rfl
set_option maxRecDepth 20000 in
theorem xw_740 : Cond.fieldLink RX10 49 (TX10 12).1 (TX10 12).2.1 (TX10 12).2.2.1 ∈ xgt := wm_2 123 rfl rfl
set_option maxRecDepth 20000 in
theorem xw_741 : Cond.code yX10_init cX10_init 1 none ∈ xgt := wm_2 93 rfl rfl
set_option maxRecDepth 20000 in
theorem xw_742 : Cond.code yX10_allCoin cX10_allCoin 6 (some .int) ∈ xgt := wm_5 218 rfl rfl
set_option maxRecDepth 20000 in
theorem xw_743 : Cond.methodLink RX10 52 yJ7_fill_53178 ∈ xgt := wm_3 66 rfl rfl
set_option maxRecDepth 20000 in
theorem xw_744 : Cond.fieldLink RX10 58 (TX4 5).1 (TX4 5).2.1 (TX4 5).2.2.1 ∈ xgt := wm_1 129 rfl rfl
set_option maxRecDepth 20000 in
theorem xw_745 : Cond.fieldLink RX10 61 (TX4 0).1 (TX4 0).2.1 (TX4 0).2.2.1 ∈ xgt := wm_1 106 rfl rfl
set_option maxRecDepth 20000 in
theorem xw_746 : Cond.fieldLink RX10 65 (TX6 1).1 (TX6 1).2.1 (TX6 1).2.2.1 ∈ xgt := wm_1 53 rfl rfl
set_option maxRecDepth 20000 in
theorem xw_747 : Cond.methodLink RX10 70 arraycopyName ∈ xgt := wm_3 69 rfl rfl
set_option maxRecDepth 20000 in
theorem xw_748 : Cond.fieldLink RX10 76 (TX4 14).1 (TX4 14).2.1 (TX4 14).2.2.1 ∈ xgt := wm_1 162 rfl rfl
set_option maxRecDepth 20000 in
theorem xw_749 : Cond.fieldLink RX10 77 (TX4 3).1 (TX4 3).2.1 (TX4 3).2.2.1 ∈ xgt := wm_1 120 rfl rfl
set_option maxRecDepth 20000 in
theorem xw_750 : Cond.methodLink RX10 80 yX10_dismissAll ∈ xgt := wm_3 72 rfl rfl
set_option maxRecDepth 20000 in
theorem xw_751 : Cond.fieldLink RX10 83 (TX4 17).1 (TX4 17).2.1 (TX4 17).2.2.1 ∈ xgt := wm_1 171 rfl rfl
set_option maxRecDepth 20000 in
theorem xw_752 : Cond.fieldLink RX10 84 (TX4 18).1 (TX4 18).2.1 (TX4 18).2.2.1 ∈ xgt := wm_1 174 rfl rfl
set_option maxRecDepth 20000 in
theorem xw_753 : Cond.code yX10_begin cX10_begin 2 none ∈ xgt := wm_3 65 rfl rfl
set_option maxRecDepth 20000 in
theorem xw_754 : Cond.code yX10_dismiss cX10_dismiss 2 none ∈ xgt := wm_4 227 rfl rfl
set_option maxRecDepth 20000 in
theorem xw_755 : Cond.code yX10_dismissAll cX10_dismissAll 1 none ∈ xgt := wm_3 75 rfl rfl
set_option maxRecDepth 20000 in
theorem xw_756 : Cond.code yX10_enlist cX10_enlist 5 none ∈ xgt := wm_4 219 rfl rfl
set_option maxRecDepth 20000 in
theorem xw_757 : Cond.code yX10_isCracked cX10_isCracked 2 (some .boolean) ∈ xgt := wm_4 117 rfl rfl
set_option maxRecDepth 20000 in
theorem xw_758 : Cond.constantLong RX10 87 (lN 1103515245) ∈ xgt := wm_5 18 rfl rfl
set_option maxRecDepth 20000 in
theorem xw_759 : Cond.constantLong RX10 89 (lN 12345) ∈ xgt := wm_5 19 rfl rfl
set_option maxRecDepth 20000 in
theorem xw_760 : Cond.constantLong RX10 91 (lN 2147483647) ∈ xgt := wm_5 20 rfl rfl
set_option maxRecDepth 20000 in
theorem xw_761 : Cond.constant RX10 93 (nI 65536) ∈ xgt := wm_5 21 rfl rfl
set_option maxRecDepth 20000 in
theorem xw_762 : Cond.code yX10_nextNumber cX10_nextNumber 1 (some .int) ∈ xgt := wm_5 17 rfl rfl
set_option maxRecDepth 20000 in
theorem xw_763 : Cond.code yX10_take cX10_take 2 none ∈ xgt := wm_5 206 rfl rfl
set_option maxRecDepth 20000 in
theorem xw_764 : Cond.methodLink RX12 1 Lib.objectInit ∈ xgt := wm_6 75 rfl rfl
set_option maxRecDepth 20000 in
theorem xw_765 : Cond.fieldLink RX12 7 (TX12 1).1 (TX12 1).2.1 (TX12 1).2.2.1 ∈ xgt := wm_6 81 rfl rfl
set_option maxRecDepth 20000 in
theorem xw_766 : Cond.fieldLink RX12 13 (TX12 3).1 (TX12 3).2.1 (TX12 3).2.2.1 ∈ xgt := wm_6 83 rfl rfl
set_option maxRecDepth 20000 in
theorem xw_767 : Cond.fieldLink RX12 16 (TX12 4).1 (TX12 4).2.1 (TX12 4).2.2.1 ∈ xgt := wm_6 84 rfl rfl
set_option maxRecDepth 20000 in
theorem xw_768 : Cond.fieldLink RX12 19 (TX12 5).1 (TX12 5).2.1 (TX12 5).2.2.1 ∈ xgt := wm_6 85 rfl rfl
set_option maxRecDepth 20000 in
theorem xw_769 : Cond.fieldLink RX12 22 (TX12 6).1 (TX12 6).2.1 (TX12 6).2.2.1 ∈ xgt := wm_6 86 rfl rfl
set_option maxRecDepth 20000 in
theorem xw_770 : Cond.fieldLink RX12 25 (TX12 7).1 (TX12 7).2.1 (TX12 7).2.2.1 ∈ xgt := wm_6 87 rfl rfl
set_option maxRecDepth 20000 in
theorem xw_771 : Cond.fieldLink RX12 28 (TX12 8).1 (TX12 8).2.1 (TX12 8).2.2.1 ∈ xgt := wm_6 88 rfl rfl
set_option maxRecDepth 20000 in
theorem xw_772 : Cond.fieldLink RX12 31 (TX12 9).1 (TX12 9).2.1 (TX12 9).2.2.1 ∈ xgt := wm_6 89 rfl rfl
set_option maxRecDepth 20000 in
theorem xw_773 : Cond.arrayClass .boolean ∈ xgt := wm_7 48 rfl rfl
set_option maxRecDepth 20000 in
theorem xw_774 : Cond.fieldLink RX12 34 (TX12 10).1 (TX12 10).2.1 (TX12 10).2.2.1 ∈ xgt := wm_6 90 rfl rfl
set_option maxRecDepth 20000 in
theorem xw_775 : Cond.fieldLink RX12 38 (TX12 11).1 (TX12 11).2.1 (TX12 11).2.2.1 ∈ xgt := wm_6 91 rfl rfl
set_option maxRecDepth 20000 in
theorem xw_776 : Cond.fieldLink RX12 41 (TX12 12).1 (TX12 12).2.1 (TX12 12).2.2.1 ∈ xgt := wm_6 92 rfl rfl
set_option maxRecDepth 20000 in
theorem xw_777 : Cond.fieldLink RX12 44 (TX12 13).1 (TX12 13).2.1 (TX12 13).2.2.1 ∈ xgt := wm_6 93 rfl rfl
set_option maxRecDepth 20000 in
theorem xw_778 : Cond.fieldLink RX12 47 (TX12 14).1 (TX12 14).2.1 (TX12 14).2.2.1 ∈ xgt := wm_6 94 rfl rfl
set_option maxRecDepth 20000 in
theorem xw_779 : Cond.fieldLink RX12 50 (TX12 15).1 (TX12 15).2.1 (TX12 15).2.2.1 ∈ xgt := wm_6 95 rfl rfl
set_option maxRecDepth 20000 in
theorem xw_780 : Cond.fieldLink RX12 53 (TX12 16).1 (TX12 16).2.1 (TX12 16).2.2.1 ∈ xgt := wm_6 96 rfl rfl
set_option maxRecDepth 20000 in
theorem xw_781 : Cond.fieldLink RX12 56 (TX12 17).1 (TX12 17).2.1 (TX12 17).2.2.1 ∈ xgt := wm_6 97 rfl rfl
set_option maxRecDepth 20000 in
theorem xw_782 : Cond.fieldLink RX12 59 (TX12 18).1 (TX12 18).2.1 (TX12 18).2.2.1 ∈ xgt := wm_6 98 rfl rfl
set_option maxRecDepth 20000 in
theorem xw_783 : Cond.fieldLink RX12 62 (TX12 19).1 (TX12 19).2.1 (TX12 19).2.2.1 ∈ xgt := wm_6 99 rfl rfl
set_option maxRecDepth 20000 in
theorem xw_784 : Cond.fieldLink RX12 65 (TX12 20).1 (TX12 20).2.1 (TX12 20).2.2.1 ∈ xgt := wm_6 100 rfl rfl
set_option maxRecDepth 20000 in
theorem xw_785 : Cond.fieldLink RX12 68 (TX12 21).1 (TX12 21).2.1 (TX12 21).2.2.1 ∈ xgt := wm_6 101 rfl rfl
set_option maxRecDepth 20000 in
theorem xw_786 : Cond.fieldLink RX12 71 (TX12 22).1 (TX12 22).2.1 (TX12 22).2.2.1 ∈ xgt := wm_6 102 rfl rfl
set_option maxRecDepth 20000 in
theorem xw_787 : Cond.fieldLink RX12 74 (TX12 23).1 (TX12 23).2.1 (TX12 23).2.2.1 ∈ xgt := wm_6 103 rfl rfl
set_option maxRecDepth 20000 in
theorem xw_788 : Cond.fieldLink RX12 77 (TX12 34).1 (TX12 34).2.1 (TX12 34).2.2.1 ∈ xgt := wm_6 114 rfl rfl
set_option maxRecDepth 20000 in
theorem xw_789 : Cond.fieldLink RX12 81 (TX12 37).1 (TX12 37).2.1 (TX12 37).2.2.1 ∈ xgt := wm_6 117 rfl rfl
set_option maxRecDepth 20000 in
theorem xw_790 : Cond.fieldLink RX12 84 (TX12 38).1 (TX12 38).2.1 (TX12 38).2.2.1 ∈ xgt := wm_6 118 rfl rfl
set_option maxRecDepth 20000 in
theorem xw_791 : Cond.fieldLink RX12 87 (TX12 39).1 (TX12 39).2.1 (TX12 39).2.2.1 ∈ xgt := wm_6 119 rfl rfl
set_option maxRecDepth 20000 in
theorem xw_792 : Cond.fieldLink RX12 90 (TX12 40).1 (TX12 40).2.1 (TX12 40).2.2.1 ∈ xgt := wm_6 120 rfl rfl
set_option maxRecDepth 20000 in
theorem xw_793 : Cond.fieldLink RX12 93 (TX12 41).1 (TX12 41).2.1 (TX12 41).2.2.1 ∈ xgt := wm_6 121 rfl rfl
set_option maxRecDepth 20000 in
theorem xw_794 : Cond.fieldLink RX12 96 (TX12 42).1 (TX12 42).2.1 (TX12 42).2.2.1 ∈ xgt := wm_6 122 rfl rfl
set_option maxRecDepth 20000 in
theorem xw_795 : Cond.fieldLink RX12 99 (TX12 43).1 (TX12 43).2.1 (TX12 43).2.2.1 ∈ xgt := wm_6 123 rfl rfl
set_option maxRecDepth 20000 in
theorem xw_796 : Cond.fieldLink RX12 102 (TX12 44).1 (TX12 44).2.1 (TX12 44).2.2.1 ∈ xgt := wm_6 124 rfl rfl
set_option maxRecDepth 20000 in
theorem xw_797 : Cond.fieldLink RX12 105 (TX12 45).1 (TX12 45).2.1 (TX12 45).2.2.1 ∈ xgt := wm_6 125 rfl rfl
set_option maxRecDepth 20000 in
theorem xw_798 : Cond.fieldLink RX12 108 (TX12 46).1 (TX12 46).2.1 (TX12 46).2.2.1 ∈ xgt := wm_6 126 rfl rfl
set_option maxRecDepth 20000 in
theorem xw_799 : Cond.fieldLink RX12 111 (TX12 47).1 (TX12 47).2.1 (TX12 47).2.2.1 ∈ xgt := wm_6 127 rfl rfl
set_option maxRecDepth 20000 in
theorem xw_800 : Cond.fieldLink RX12 114 (TX12 48).1 (TX12 48).2.1 (TX12 48).2.2.1 ∈ xgt := wm_6 128 rfl rfl
set_option maxRecDepth 20000 in
theorem xw_801 : Cond.fieldLink RX12 117 (TX12 50).1 (TX12 50).2.1 (TX12 50).2.2.1 ∈ xgt := wm_6 130 rfl rfl
set_option maxRecDepth 20000 in
theorem xw_802 : Cond.fieldLink RX12 121 (TX12 51).1 (TX12 51).2.1 (TX12 51).2.2.1 ∈ xgt := wm_6 131 rfl rfl
set_option maxRecDepth 20000 in
theorem xw_803 : Cond.fieldLink RX12 124 (TX12 53).1 (TX12 53).2.1 (TX12 53).2.2.1 ∈ xgt := wm_6 133 rfl rfl
set_option maxRecDepth 20000 in
theorem xw_804 : Cond.fieldLink RX12 127 (TX12 54).1 (TX12 54).2.1 (TX12 54).2.2.1 ∈ xgt := wm_6 134 rfl rfl
set_option maxRecDepth 20000 in
theorem xw_805 : Cond.fieldLink RX12 130 (TX12 55).1 (TX12 55).2.1 (TX12 55).2.2.1 ∈ xgt := wm_6 135 rfl rfl
set_option maxRecDepth 20000 in
theorem xw_806 : Cond.fieldLink RX12 133 (TX12 56).1 (TX12 56).2.1 (TX12 56).2.2.1 ∈ xgt := wm_6 136 rfl rfl
set_option maxRecDepth 20000 in
theorem xw_807 : Cond.fieldLink RX12 136 (TX12 57).1 (TX12 57).2.1 (TX12 57).2.2.1 ∈ xgt := wm_6 137 rfl rfl
set_option maxRecDepth 20000 in
theorem xw_808 : Cond.fieldLink RX12 139 (TX12 58).1 (TX12 58).2.1 (TX12 58).2.2.1 ∈ xgt := wm_6 138 rfl rfl
set_option maxRecDepth 20000 in
theorem xw_809 : Cond.fieldLink RX12 142 (TX12 62).1 (TX12 62).2.1 (TX12 62).2.2.1 ∈ xgt := wm_6 142 rfl rfl
set_option maxRecDepth 20000 in
theorem xw_810 : Cond.fieldLink RX12 145 (TX12 63).1 (TX12 63).2.1 (TX12 63).2.2.1 ∈ xgt := wm_6 143 rfl rfl
set_option maxRecDepth 20000 in
theorem xw_811 : Cond.fieldLink RX12 148 (TX12 64).1 (TX12 64).2.1 (TX12 64).2.2.1 ∈ xgt := wm_6 144 rfl rfl
set_option maxRecDepth 20000 in
theorem xw_812 : Cond.fieldLink RX12 151 (TX12 65).1 (TX12 65).2.1 (TX12 65).2.2.1 ∈ xgt := wm_6 145 rfl rfl
set_option maxRecDepth 20000 in
theorem xw_813 : Cond.fieldLink RX12 154 (TX12 66).1 (TX12 66).2.1 (TX12 66).2.2.1 ∈ xgt := wm_6 146 rfl rfl
set_option maxRecDepth 20000 in
theorem xw_814 : Cond.fieldLink RX12 157 (TX12 67).1 (TX12 67).2.1 (TX12 67).2.2.1 ∈ xgt := wm_6 147 rfl rfl
set_option maxRecDepth 20000 in
theorem xw_815 : Cond.instanceMethod yX12_begins ∈ xgt := wm_6 78 rfl rfl
set_option maxRecDepth 20000 in
theorem xw_816 : Cond.selects yX12_begins.cls yX12_begins yX12_begins ∈ xgt := ws_3 (q := (yX12_begins, 69)) 15 rfl rfl
set_option maxRecDepth 20000 in
theorem xw_817 : Cond.methodLink RX12 160 yX12_begins ∈ xgt := wm_6 76 rfl rfl
set_option maxRecDepth 20000 in
theorem xw_818 : Cond.code yX12_init cX12_init 1 none ∈ xgt := wm_6 74 rfl rfl
set_option maxRecDepth 20000 in
theorem xw_819 : Cond.initialized RX12 ∈ xgt := wm_1 19 rfl rfl
set_option maxRecDepth 20000 in
theorem xw_820 : Cond.code yX12_areVerses cX12_areVerses 2 (some .boolean) ∈ xgt := wm_8 151 rfl rfl
set_option maxRecDepth 20000 in
theorem xw_821 : Cond.fieldLink RX12 163 (TX12 0).1 (TX12 0).2.1 (TX12 0).2.2.1 ∈ xgt := wm_6 80 rfl rfl
set_option maxRecDepth 20000 in
theorem xw_822 : Cond.fieldLink RX12 328 (TX12 49).1 (TX12 49).2.1 (TX12 49).2.2.1 ∈ xgt := wm_6 129 rfl rfl
set_option maxRecDepth 20000 in
theorem xw_823 : Cond.instanceMethod yX12_copies ∈ xgt := wm_9 10 rfl rfl
set_option maxRecDepth 20000 in
theorem xw_824 : Cond.selects yX12_copies.cls yX12_copies yX12_copies ∈ xgt := ws_8 (q := (yX12_copies, 69)) 2 rfl rfl
set_option maxRecDepth 20000 in
theorem xw_825 : Cond.methodLink RX12 508 yX12_copies ∈ xgt := wm_9 8 rfl rfl
set_option maxRecDepth 20000 in
theorem xw_826 : Cond.code yX12_back cX12_back 1 (some .int) ∈ xgt := wm_9 15 rfl rfl
set_option maxRecDepth 20000 in
theorem xw_827 : Cond.instanceMethod yX12_isVerse ∈ xgt := wm_7 223 rfl rfl
set_option maxRecDepth 20000 in
theorem xw_828 : Cond.selects yX12_isVerse.cls yX12_isVerse yX12_isVerse ∈ xgt := ws_6 (q := (yX12_isVerse, 69)) 0 rfl rfl
set_option maxRecDepth 20000 in
theorem xw_829 : Cond.methodLink RX12 332 yX12_isVerse ∈ xgt := wm_7 221 rfl rfl
set_option maxRecDepth 20000 in
theorem xw_830 : Cond.instanceMethod yX12_isSounded ∈ xgt := wm_8 11 rfl rfl
set_option maxRecDepth 20000 in
theorem xw_831 : Cond.selects yX12_isSounded.cls yX12_isSounded yX12_isSounded ∈ xgt := ws_6 (q := (yX12_isSounded, 69)) 5 rfl rfl
set_option maxRecDepth 20000 in
theorem xw_832 : Cond.methodLink RX12 381 yX12_isSounded ∈ xgt := wm_8 9 rfl rfl
set_option maxRecDepth 20000 in
theorem xw_833 : Cond.code yX12_bar cX12_bar 6 (some .int) ∈ xgt := wm_8 86 rfl rfl
set_option maxRecDepth 20000 in
theorem xw_834 : Cond.code yX12_begins cX12_begins 2 none ∈ xgt := wm_6 79 rfl rfl
set_option maxRecDepth 20000 in
theorem xw_835 : Cond.methodLink RX12 446 yX12_isCrowns ∈ xgt := wm_8 101 rfl rfl
set_option maxRecDepth 20000 in
theorem xw_836 : Cond.static yX12_isCrowns ∈ xgt := wm_8 102 rfl rfl
set_option maxRecDepth 20000 in
theorem xw_837 : Cond.instanceMethod yX12_layBest ∈ xgt := wm_8 106 rfl rfl
set_option maxRecDepth 20000 in
theorem xw_838 : Cond.selects yX12_layBest.cls yX12_layBest yX12_layBest ∈ xgt := ws_7 (q := (yX12_layBest, 69)) 0 rfl rfl
set_option maxRecDepth 20000 in
theorem xw_839 : Cond.methodLink RX12 449 yX12_layBest ∈ xgt := wm_8 104 rfl rfl
set_option maxRecDepth 20000 in
theorem xw_840 : Cond.code yX12_best cX12_best 3 (some .int) ∈ xgt := wm_8 100 rfl rfl
set_option maxRecDepth 20000 in
theorem xw_841 : Cond.instanceMethod yX12_restsOf ∈ xgt := wm_8 19 rfl rfl
set_option maxRecDepth 20000 in
theorem xw_842 : Cond.selects yX12_restsOf.cls yX12_restsOf yX12_restsOf ∈ xgt := ws_6 (q := (yX12_restsOf, 69)) 7 rfl rfl
set_option maxRecDepth 20000 in
theorem xw_843 : Cond.methodLink RX12 393 yX12_restsOf ∈ xgt := wm_8 17 rfl rfl
set_option maxRecDepth 20000 in
theorem xw_844 : Cond.instanceMethod yX12_highOf ∈ xgt := wm_8 23 rfl rfl
set_option maxRecDepth 20000 in
theorem xw_845 : Cond.selects yX12_highOf.cls yX12_highOf yX12_highOf ∈ xgt := ws_6 (q := (yX12_highOf, 69)) 8 rfl rfl
set_option maxRecDepth 20000 in
theorem xw_846 : Cond.methodLink RX12 396 yX12_highOf ∈ xgt := wm_8 21 rfl rfl
set_option maxRecDepth 20000 in
theorem xw_848 : Cond.instanceMethod yX12_within ∈ xgt := wm_8 28 rfl rfl
set_option maxRecDepth 20000 in
theorem xw_849 : Cond.selects yX12_within.cls yX12_within yX12_within ∈ xgt := ws_6 (q := (yX12_within, 69)) 9 rfl rfl
set_option maxRecDepth 20000 in
theorem xw_850 : Cond.methodLink RX12 399 yX12_within ∈ xgt := wm_8 26 rfl rfl
set_option maxRecDepth 20000 in
theorem xw_852 : Cond.code yX12_bidOf cX12_bidOf 5 (some .int) ∈ xgt := wm_8 57 rfl rfl
set_option maxRecDepth 20000 in
theorem xw_853 : Cond.instanceMethod yX12_bidOf ∈ xgt := wm_8 56 rfl rfl
set_option maxRecDepth 20000 in
theorem xw_854 : Cond.selects yX12_bidOf.cls yX12_bidOf yX12_bidOf ∈ xgt := ws_6 (q := (yX12_bidOf, 69)) 12 rfl rfl
set_option maxRecDepth 20000 in
theorem xw_855 : Cond.methodLink RX12 408 yX12_bidOf ∈ xgt := wm_8 54 rfl rfl
set_option maxRecDepth 20000 in
theorem xw_856 : Cond.code yX12_bids cX12_bids 3 (some .int) ∈ xgt := wm_8 53 rfl rfl
set_option maxRecDepth 20000 in
theorem xw_857 : Cond.code yX12_bitsOf cX12_bitsOf 3 (some .int) ∈ xgt := wm_8 206 rfl rfl
set_option maxRecDepth 20000 in
theorem xw_858 : Cond.code yX12_calls cX12_calls 2 none ∈ xgt := wm_8 4 rfl rfl
set_option maxRecDepth 20000 in
theorem xw_859 : Cond.instanceMethod yX12_isPart ∈ xgt := wm_7 227 rfl rfl
set_option maxRecDepth 20000 in
theorem xw_860 : Cond.selects yX12_isPart.cls yX12_isPart yX12_isPart ∈ xgt := ws_6 (q := (yX12_isPart, 69)) 1 rfl rfl
set_option maxRecDepth 20000 in
theorem xw_861 : Cond.methodLink RX12 344 yX12_isPart ∈ xgt := wm_7 225 rfl rfl
set_option maxRecDepth 20000 in
theorem xw_862 : Cond.instanceMethod yX12_starts ∈ xgt := wm_8 114 rfl rfl
set_option maxRecDepth 20000 in
theorem xw_863 : Cond.selects yX12_starts.cls yX12_starts yX12_starts ∈ xgt := ws_7 (q := (yX12_starts, 69)) 2 rfl rfl
set_option maxRecDepth 20000 in
theorem xw_864 : Cond.methodLink RX12 427 yX12_starts ∈ xgt := wm_8 112 rfl rfl
set_option maxRecDepth 20000 in
theorem xw_865 : Cond.instanceMethod yX12_mayBe ∈ xgt := wm_8 118 rfl rfl
set_option maxRecDepth 20000 in
theorem xw_866 : Cond.selects yX12_mayBe.cls yX12_mayBe yX12_mayBe ∈ xgt := ws_7 (q := (yX12_mayBe, 69)) 3 rfl rfl
set_option maxRecDepth 20000 in
theorem xw_867 : Cond.methodLink RX12 430 yX12_mayBe ∈ xgt := wm_8 116 rfl rfl
set_option maxRecDepth 20000 in
theorem xw_868 : Cond.instanceMethod yX12_isBest ∈ xgt := wm_8 142 rfl rfl
set_option maxRecDepth 20000 in
theorem xw_869 : Cond.selects yX12_isBest.cls yX12_isBest yX12_isBest ∈ xgt := ws_7 (q := (yX12_isBest, 69)) 8 rfl rfl
set_option maxRecDepth 20000 in
theorem xw_870 : Cond.methodLink RX12 452 yX12_isBest ∈ xgt := wm_8 140 rfl rfl
set_option maxRecDepth 20000 in
theorem xw_871 : Cond.instanceMethod yX12_goesNext ∈ xgt := wm_8 134 rfl rfl
set_option maxRecDepth 20000 in
theorem xw_872 : Cond.selects yX12_goesNext.cls yX12_goesNext yX12_goesNext ∈ xgt := ws_7 (q := (yX12_goesNext, 69)) 7 rfl rfl
set_option maxRecDepth 20000 in
theorem xw_873 : Cond.methodLink RX12 443 yX12_goesNext ∈ xgt := wm_8 132 rfl rfl
set_option maxRecDepth 20000 in
theorem xw_874 : Cond.instanceMethod yX12_costOf ∈ xgt := wm_8 122 rfl rfl
set_option maxRecDepth 20000 in
theorem xw_875 : Cond.selects yX12_costOf.cls yX12_costOf yX12_costOf ∈ xgt := ws_7 (q := (yX12_costOf, 69)) 4 rfl rfl
set_option maxRecDepth 20000 in
theorem xw_876 : Cond.methodLink RX12 433 yX12_costOf ∈ xgt := wm_8 120 rfl rfl
set_option maxRecDepth 20000 in
theorem xw_877 : Cond.code yX12_chosen cX12_chosen 6 (some .int) ∈ xgt := wm_8 139 rfl rfl
set_option maxRecDepth 20000 in
theorem xw_878 : Cond.code yX12_common cX12_common 10 (some .long) ∈ xgt := wm_8 199 rfl rfl
set_option maxRecDepth 20000 in
theorem xw_879 : Cond.instanceMethod yX12_negation ∈ xgt := wm_7 156 rfl rfl
set_option maxRecDepth 20000 in
theorem xw_880 : Cond.selects yX12_negation.cls yX12_negation yX12_negation ∈ xgt := ws_5 (q := (yX12_negation, 69)) 5 rfl rfl
set_option maxRecDepth 20000 in
theorem xw_881 : Cond.methodLink RX12 300 yX12_negation ∈ xgt := wm_7 154 rfl rfl
set_option maxRecDepth 20000 in
theorem xw_882 : Cond.instanceMethod yX12_isWord ∈ xgt := wm_7 124 rfl rfl
set_option maxRecDepth 20000 in
theorem xw_883 : Cond.selects yX12_isWord.cls yX12_isWord yX12_isWord ∈ xgt := ws_4 (q := (yX12_isWord, 69)) 13 rfl rfl
set_option maxRecDepth 20000 in
theorem xw_884 : Cond.methodLink RX12 279 yX12_isWord ∈ xgt := wm_7 122 rfl rfl
set_option maxRecDepth 20000 in
theorem xw_885 : Cond.instanceMethod yX12_knot ∈ xgt := wm_7 160 rfl rfl
set_option maxRecDepth 20000 in
theorem xw_886 : Cond.selects yX12_knot.cls yX12_knot yX12_knot ∈ xgt := ws_5 (q := (yX12_knot, 69)) 6 rfl rfl
set_option maxRecDepth 20000 in
theorem xw_887 : Cond.methodLink RX12 294 yX12_knot ∈ xgt := wm_7 158 rfl rfl
set_option maxRecDepth 20000 in
theorem xw_888 : Cond.instanceMethod yX12_goOn ∈ xgt := wm_7 132 rfl rfl
set_option maxRecDepth 20000 in
theorem xw_889 : Cond.selects yX12_goOn.cls yX12_goOn yX12_goOn ∈ xgt := ws_4 (q := (yX12_goOn, 69)) 15 rfl rfl
set_option maxRecDepth 20000 in
theorem xw_890 : Cond.methodLink RX12 237 yX12_goOn ∈ xgt := wm_7 130 rfl rfl
set_option maxRecDepth 20000 in
theorem xw_891 : Cond.instanceMethod yX12_puts ∈ xgt := wm_7 164 rfl rfl
set_option maxRecDepth 20000 in
theorem xw_892 : Cond.selects yX12_puts.cls yX12_puts yX12_puts ∈ xgt := ws_5 (q := (yX12_puts, 69)) 7 rfl rfl
set_option maxRecDepth 20000 in
theorem xw_893 : Cond.methodLink RX12 297 yX12_puts ∈ xgt := wm_7 162 rfl rfl
set_option maxRecDepth 20000 in
theorem xw_894 : Cond.code yX12_conjunction cX12_conjunction 1 none ∈ xgt := wm_7 153 rfl rfl
set_option maxRecDepth 20000 in
theorem xw_895 : Cond.code yX12_copies cX12_copies 4 none ∈ xgt := wm_9 11 rfl rfl
set_option maxRecDepth 20000 in
theorem xw_896 : Cond.code yX12_costOf cX12_costOf 4 (some .int) ∈ xgt := wm_8 123 rfl rfl
set_option maxRecDepth 20000 in
theorem xw_897 : Cond.fieldLink RX12 325 (TX12 61).1 (TX12 61).2.1 (TX12 61).2.2.1 ∈ xgt := wm_6 141 rfl rfl
set_option maxRecDepth 20000 in
theorem xw_898 : Cond.instanceMethod yX12_knownMany ∈ xgt := wm_8 182 rfl rfl
set_option maxRecDepth 20000 in
theorem xw_899 : Cond.selects yX12_knownMany.cls yX12_knownMany yX12_knownMany ∈ xgt := ws_7 (q := (yX12_knownMany, 69)) 12 rfl rfl
set_option maxRecDepth 20000 in
theorem xw_900 : Cond.methodLink RX12 467 yX12_knownMany ∈ xgt := wm_8 180 rfl rfl
set_option maxRecDepth 20000 in
theorem xw_901 : Cond.methodLink RX12 485 yX12_bitsOf ∈ xgt := wm_8 204 rfl rfl
set_option maxRecDepth 20000 in
theorem xw_902 : Cond.static yX12_bitsOf ∈ xgt := wm_8 205 rfl rfl
set_option maxRecDepth 20000 in
theorem xw_903 : Cond.code yX12_count cX12_count 4 (some .int) ∈ xgt := wm_9 19 rfl rfl
set_option maxRecDepth 20000 in
theorem xw_904 : Cond.instanceMethod yX12_calls ∈ xgt := wm_8 3 rfl rfl
set_option maxRecDepth 20000 in
theorem xw_905 : Cond.selects yX12_calls.cls yX12_calls yX12_calls ∈ xgt := ws_6 (q := (yX12_calls, 69)) 3 rfl rfl
set_option maxRecDepth 20000 in
theorem xw_906 : Cond.methodLink RX12 387 yX12_calls ∈ xgt := wm_8 1 rfl rfl
set_option maxRecDepth 20000 in
theorem xw_907 : Cond.code yX12_crackOf cX12_crackOf 3 (some .int) ∈ xgt := wm_8 66 rfl rfl
set_option maxRecDepth 20000 in
theorem xw_908 : Cond.instanceMethod yX12_isVoice ∈ xgt := wm_7 203 rfl rfl
set_option maxRecDepth 20000 in
theorem xw_909 : Cond.selects yX12_isVoice.cls yX12_isVoice yX12_isVoice ∈ xgt := ws_5 (q := (yX12_isVoice, 69)) 13 rfl rfl
set_option maxRecDepth 20000 in
theorem xw_910 : Cond.methodLink RX12 335 yX12_isVoice ∈ xgt := wm_7 201 rfl rfl
set_option maxRecDepth 20000 in
theorem xw_911 : Cond.instanceMethod yX12_crackOf ∈ xgt := wm_8 65 rfl rfl
set_option maxRecDepth 20000 in
theorem xw_912 : Cond.selects yX12_crackOf.cls yX12_crackOf yX12_crackOf ∈ xgt := ws_6 (q := (yX12_crackOf, 69)) 13 rfl rfl
set_option maxRecDepth 20000 in
theorem xw_913 : Cond.methodLink RX12 411 yX12_crackOf ∈ xgt := wm_8 63 rfl rfl
set_option maxRecDepth 20000 in
theorem xw_914 : Cond.code yX12_cracks cX12_cracks 2 (some .int) ∈ xgt := wm_8 62 rfl rfl
set_option maxRecDepth 20000 in
theorem xw_915 : Cond.constant RX12 417 (nI 1103515245) ∈ xgt := wm_8 95 rfl rfl
set_option maxRecDepth 20000 in
theorem xw_916 : Cond.constant RX12 420 (nI 2147483647) ∈ xgt := wm_8 96 rfl rfl
set_option maxRecDepth 20000 in
theorem xw_917 : Cond.code yX12_draw cX12_draw 1 (some .int) ∈ xgt := wm_8 94 rfl rfl
set_option maxRecDepth 20000 in
theorem xw_918 : Cond.instanceMethod yX12_dueOf ∈ xgt := wm_7 239 rfl rfl
set_option maxRecDepth 20000 in
theorem xw_919 : Cond.selects yX12_dueOf.cls yX12_dueOf yX12_dueOf ∈ xgt := ws_6 (q := (yX12_dueOf, 69)) 2 rfl rfl
set_option maxRecDepth 20000 in
theorem xw_920 : Cond.methodLink RX12 405 yX12_dueOf ∈ xgt := wm_7 237 rfl rfl
set_option maxRecDepth 20000 in
theorem xw_921 : Cond.code yX12_due cX12_due 4 (some .int) ∈ xgt := wm_7 236 rfl rfl
set_option maxRecDepth 20000 in
theorem xw_922 : Cond.instanceMethod yX12_soundsOf ∈ xgt := wm_8 7 rfl rfl
set_option maxRecDepth 20000 in
theorem xw_923 : Cond.selects yX12_soundsOf.cls yX12_soundsOf yX12_soundsOf ∈ xgt := ws_6 (q := (yX12_soundsOf, 69)) 4 rfl rfl
set_option maxRecDepth 20000 in
theorem xw_924 : Cond.methodLink RX12 390 yX12_soundsOf ∈ xgt := wm_8 5 rfl rfl
set_option maxRecDepth 20000 in
theorem xw_925 : Cond.code yX12_dueOf cX12_dueOf 3 (some .int) ∈ xgt := wm_8 0 rfl rfl
set_option maxRecDepth 20000 in
theorem xw_926 : Cond.instanceMethod yX12_areVerses ∈ xgt := wm_8 150 rfl rfl
set_option maxRecDepth 20000 in
theorem xw_927 : Cond.selects yX12_areVerses.cls yX12_areVerses yX12_areVerses ∈ xgt := ws_7 (q := (yX12_areVerses, 69)) 9 rfl rfl
set_option maxRecDepth 20000 in
theorem xw_928 : Cond.methodLink RX12 461 yX12_areVerses ∈ xgt := wm_8 148 rfl rfl
set_option maxRecDepth 20000 in
theorem xw_929 : Cond.instanceMethod yX12_sells ∈ xgt := wm_8 154 rfl rfl
set_option maxRecDepth 20000 in
theorem xw_930 : Cond.selects yX12_sells.cls yX12_sells yX12_sells ∈ xgt := ws_7 (q := (yX12_sells, 69)) 10 rfl rfl
set_option maxRecDepth 20000 in
theorem xw_931 : Cond.methodLink RX12 464 yX12_sells ∈ xgt := wm_8 152 rfl rfl
set_option maxRecDepth 20000 in
theorem xw_932 : Cond.code yX12_easter cX12_easter 4 (some .int) ∈ xgt := wm_8 159 rfl rfl
set_option maxRecDepth 20000 in
theorem xw_933 : Cond.methodLink RX12 498 yX12_isRound ∈ xgt := wm_8 215 rfl rfl
set_option maxRecDepth 20000 in
theorem xw_934 : Cond.static yX12_isRound ∈ xgt := wm_8 216 rfl rfl
set_option maxRecDepth 20000 in
theorem xw_935 : Cond.fieldLink RX12 491 (TX12 68).1 (TX12 68).2.1 (TX12 68).2.2.1 ∈ xgt := wm_6 148 rfl rfl
set_option maxRecDepth 20000 in
theorem xw_936 : Cond.instanceMethod yX12_rows ∈ xgt := wm_8 220 rfl rfl
set_option maxRecDepth 20000 in
theorem xw_937 : Cond.selects yX12_rows.cls yX12_rows yX12_rows ∈ xgt := ws_8 (q := (yX12_rows, 69)) 0 rfl rfl
set_option maxRecDepth 20000 in
theorem xw_938 : Cond.methodLink RX12 494 yX12_rows ∈ xgt := wm_8 218 rfl rfl
set_option maxRecDepth 20000 in
theorem xw_939 : Cond.code yX12_entry cX12_entry 6 (some .int) ∈ xgt := wm_8 225 rfl rfl
set_option maxRecDepth 20000 in
theorem xw_940 : Cond.instanceMethod yX12_conjunction ∈ xgt := wm_7 152 rfl rfl
set_option maxRecDepth 20000 in
theorem xw_941 : Cond.selects yX12_conjunction.cls yX12_conjunction yX12_conjunction ∈ xgt := ws_5 (q := (yX12_conjunction, 69)) 4 rfl rfl
set_option maxRecDepth 20000 in
theorem xw_942 : Cond.methodLink RX12 291 yX12_conjunction ∈ xgt := wm_7 150 rfl rfl
set_option maxRecDepth 20000 in
theorem xw_943 : Cond.code yX12_expression cX12_expression 1 none ∈ xgt := wm_7 149 rfl rfl
set_option maxRecDepth 20000 in
theorem xw_944 : Cond.fieldLink RX12 318 (TX12 33).1 (TX12 33).2.1 (TX12 33).2.2.1 ∈ xgt := wm_6 113 rfl rfl
set_option maxRecDepth 20000 in
theorem xw_945 : Cond.code yX12_fault cX12_fault 2 (some .int) ∈ xgt := wm_7 192 rfl rfl
set_option maxRecDepth 20000 in
theorem xw_946 : Cond.fieldLink RX12 166 (TX12 2).1 (TX12 2).2.1 (TX12 2).2.2.1 ∈ xgt := wm_6 82 rfl rfl
set_option maxRecDepth 20000 in
theorem xw_947 : Cond.code yX12_feed cX12_feed 8 (some .int) ∈ xgt := wm_7 52 rfl rfl
set_option maxRecDepth 20000 in
theorem xw_948 : Cond.code yX12_found cX12_found 5 (some .int) ∈ xgt := wm_7 113 rfl rfl
set_option maxRecDepth 20000 in
theorem xw_949 : Cond.fieldLink RX12 217 (TX12 31).1 (TX12 31).2.1 (TX12 31).2.2.1 ∈ xgt := wm_6 111 rfl rfl
set_option maxRecDepth 20000 in
theorem xw_950 : Cond.fieldLink RX12 182 (TX12 29).1 (TX12 29).2.1 (TX12 29).2.2.1 ∈ xgt := wm_6 109 rfl rfl
set_option maxRecDepth 20000 in
theorem xw_951 : Cond.instanceMethod yX12_wrong ∈ xgt := wm_7 97 rfl rfl
set_option maxRecDepth 20000 in
theorem xw_952 : Cond.selects yX12_wrong.cls yX12_wrong yX12_wrong ∈ xgt := ws_4 (q := (yX12_wrong, 69)) 7 rfl rfl
set_option maxRecDepth 20000 in
theorem xw_953 : Cond.methodLink RX12 226 yX12_wrong ∈ xgt := wm_7 95 rfl rfl
set_option maxRecDepth 20000 in
theorem xw_954 : Cond.fieldLink RX12 192 (TX12 30).1 (TX12 30).2.1 (TX12 30).2.2.1 ∈ xgt := wm_6 110 rfl rfl
set_option maxRecDepth 20000 in
theorem xw_955 : Cond.methodLink RX12 229 yX12_found ∈ xgt := wm_7 111 rfl rfl
set_option maxRecDepth 20000 in
theorem xw_956 : Cond.static yX12_found ∈ xgt := wm_7 112 rfl rfl
set_option maxRecDepth 20000 in
theorem xw_957 : Cond.instanceMethod yX12_token ∈ xgt := wm_7 63 rfl rfl
set_option maxRecDepth 20000 in
theorem xw_958 : Cond.selects yX12_token.cls yX12_token yX12_token ∈ xgt := ws_4 (q := (yX12_token, 69)) 1 rfl rfl
set_option maxRecDepth 20000 in
theorem xw_959 : Cond.methodLink RX12 223 yX12_token ∈ xgt := wm_7 61 rfl rfl
set_option maxRecDepth 20000 in
theorem xw_960 : Cond.code yX12_fresh cX12_fresh 5 (some .int) ∈ xgt := wm_7 110 rfl rfl
set_option maxRecDepth 20000 in
theorem xw_961 : Cond.code yX12_fresher cX12_fresher 2 (some .int) ∈ xgt := wm_7 106 rfl rfl
set_option maxRecDepth 20000 in
theorem xw_962 : Cond.code yX12_gainOf cX12_gainOf 4 (some .int) ∈ xgt := wm_8 127 rfl rfl
set_option maxRecDepth 20000 in
theorem xw_963 : Cond.instanceMethod yX12_strikes ∈ xgt := wm_8 178 rfl rfl
set_option maxRecDepth 20000 in
theorem xw_964 : Cond.selects yX12_strikes.cls yX12_strikes yX12_strikes ∈ xgt := ws_7 (q := (yX12_strikes, 69)) 11 rfl rfl
set_option maxRecDepth 20000 in
theorem xw_965 : Cond.methodLink RX12 473 yX12_strikes ∈ xgt := wm_8 176 rfl rfl
set_option maxRecDepth 20000 in
theorem xw_966 : Cond.instanceMethod yX12_isGang ∈ xgt := wm_8 209 rfl rfl
set_option maxRecDepth 20000 in
theorem xw_967 : Cond.selects yX12_isGang.cls yX12_isGang yX12_isGang ∈ xgt := ws_7 (q := (yX12_isGang, 69)) 15 rfl rfl
set_option maxRecDepth 20000 in
theorem xw_968 : Cond.methodLink RX12 488 yX12_isGang ∈ xgt := wm_8 207 rfl rfl
set_option maxRecDepth 20000 in
theorem xw_969 : Cond.code yX12_gang cX12_gang 3 (some .int) ∈ xgt := wm_8 203 rfl rfl
set_option maxRecDepth 20000 in
theorem xw_970 : Cond.code yX12_goOn cX12_goOn 1 none ∈ xgt := wm_7 133 rfl rfl
set_option maxRecDepth 20000 in
theorem xw_971 : Cond.fieldLink RX12 348 (TX12 52).1 (TX12 52).2.1 (TX12 52).2.2.1 ∈ xgt := wm_6 132 rfl rfl
set_option maxRecDepth 20000 in
theorem xw_972 : Cond.instanceMethod yX12_works ∈ xgt := wm_8 36 rfl rfl
set_option maxRecDepth 20000 in
theorem xw_973 : Cond.selects yX12_works.cls yX12_works yX12_works ∈ xgt := ws_6 (q := (yX12_works, 69)) 11 rfl rfl
set_option maxRecDepth 20000 in
theorem xw_974 : Cond.methodLink RX12 365 yX12_works ∈ xgt := wm_8 34 rfl rfl
set_option maxRecDepth 20000 in
theorem xw_975 : Cond.code yX12_goes cX12_goes 3 (some .boolean) ∈ xgt := wm_8 33 rfl rfl
set_option maxRecDepth 20000 in
theorem xw_976 : Cond.code yX12_goesNext cX12_goesNext 3 (some .boolean) ∈ xgt := wm_8 135 rfl rfl
set_option maxRecDepth 20000 in
theorem xw_977 : Cond.code yX12_half cX12_half 3 none ∈ xgt := wm_7 188 rfl rfl
set_option maxRecDepth 20000 in
theorem xw_979 : Cond.code yX12_hasOf cX12_hasOf 7 (some .int) ∈ xgt := wm_8 233 rfl rfl
set_option maxRecDepth 20000 in
theorem xw_980 : Cond.fieldLink RX12 169 (TX12 27).1 (TX12 27).2.1 (TX12 27).2.2.1 ∈ xgt := wm_6 107 rfl rfl
set_option maxRecDepth 20000 in
theorem xw_981 : Cond.fieldLink RX12 172 (TX12 26).1 (TX12 26).2.1 (TX12 26).2.2.1 ∈ xgt := wm_6 106 rfl rfl
set_option maxRecDepth 20000 in
theorem xw_982 : Cond.code yX12_here cX12_here 1 (some .int) ∈ xgt := wm_7 68 rfl rfl
set_option maxRecDepth 20000 in
theorem xw_983 : Cond.code yX12_highOf cX12_highOf 4 (some .int) ∈ xgt := wm_8 24 rfl rfl
set_option maxRecDepth 20000 in
theorem xw_984 : Cond.code yX12_hum cX12_hum 2 (some .int) ∈ xgt := wm_8 163 rfl rfl
set_option maxRecDepth 20000 in
theorem xw_985 : Cond.code yX12_is cX12_is 1 (some .long) ∈ xgt := wm_8 40 rfl rfl
set_option maxRecDepth 20000 in
theorem xw_986 : Cond.instanceMethod yX12_gainOf ∈ xgt := wm_8 126 rfl rfl
set_option maxRecDepth 20000 in
theorem xw_987 : Cond.selects yX12_gainOf.cls yX12_gainOf yX12_gainOf ∈ xgt := ws_7 (q := (yX12_gainOf, 69)) 5 rfl rfl
set_option maxRecDepth 20000 in
theorem xw_988 : Cond.methodLink RX12 436 yX12_gainOf ∈ xgt := wm_8 124 rfl rfl
set_option maxRecDepth 20000 in
theorem xw_989 : Cond.code yX12_isBest cX12_isBest 6 (some .boolean) ∈ xgt := wm_8 143 rfl rfl
set_option maxRecDepth 20000 in
theorem xw_990 : Cond.code yX12_isCracked cX12_isCracked 2 (some .boolean) ∈ xgt := wm_7 208 rfl rfl
set_option maxRecDepth 20000 in
theorem xw_991 : Cond.code yX12_isCrowns cX12_isCrowns 1 (some .boolean) ∈ xgt := wm_8 103 rfl rfl
set_option maxRecDepth 20000 in
theorem xw_992 : Cond.code yX12_isDigit cX12_isDigit 1 (some .boolean) ∈ xgt := wm_7 85 rfl rfl
set_option maxRecDepth 20000 in
theorem xw_993 : Cond.instanceMethod yX12_fresher ∈ xgt := wm_7 105 rfl rfl
set_option maxRecDepth 20000 in
theorem xw_994 : Cond.selects yX12_fresher.cls yX12_fresher yX12_fresher ∈ xgt := ws_4 (q := (yX12_fresher, 69)) 9 rfl rfl
set_option maxRecDepth 20000 in
theorem xw_995 : Cond.methodLink RX12 233 yX12_fresher ∈ xgt := wm_7 103 rfl rfl
set_option maxRecDepth 20000 in
theorem xw_996 : Cond.code yX12_isFull cX12_isFull 2 (some .boolean) ∈ xgt := wm_7 102 rfl rfl
set_option maxRecDepth 20000 in
theorem xw_997 : Cond.instanceMethod yX12_isHummed ∈ xgt := wm_8 190 rfl rfl
set_option maxRecDepth 20000 in
theorem xw_998 : Cond.selects yX12_isHummed.cls yX12_isHummed yX12_isHummed ∈ xgt := ws_7 (q := (yX12_isHummed, 69)) 14 rfl rfl
set_option maxRecDepth 20000 in
theorem xw_999 : Cond.methodLink RX12 470 yX12_isHummed ∈ xgt := wm_8 188 rfl rfl
end
section
set_option maxRecDepth 20000 in
theorem xw_1000 : Cond.instanceMethod yX12_isCracked ∈ xgt := wm_7 207 rfl rfl
set_option maxRecDepth 20000 in
theorem xw_1001 : Cond.selects yX12_isCracked.cls yX12_isCracked yX12_isCracked ∈ xgt := ws_5 (q := (yX12_isCracked, 69)) 14 rfl rfl
set_option maxRecDepth 20000 in
theorem xw_1002 : Cond.methodLink RX12 338 yX12_isCracked ∈ xgt := wm_7 205 rfl rfl
set_option maxRecDepth 20000 in
theorem xw_1003 : Cond.instanceMethod yX12_reaches ∈ xgt := wm_8 15 rfl rfl
set_option maxRecDepth 20000 in
theorem xw_1004 : Cond.selects yX12_reaches.cls yX12_reaches yX12_reaches ∈ xgt := ws_6 (q := (yX12_reaches, 69)) 6 rfl rfl
set_option maxRecDepth 20000 in
theorem xw_1005 : Cond.methodLink RX12 378 yX12_reaches ∈ xgt := wm_8 13 rfl rfl
set_option maxRecDepth 20000 in
theorem xw_1006 : Cond.code yX12_isGang cX12_isGang 5 (some .boolean) ∈ xgt := wm_8 210 rfl rfl
set_option maxRecDepth 20000 in
theorem xw_1007 : Cond.code yX12_isHummed cX12_isHummed 2 (some .boolean) ∈ xgt := wm_8 191 rfl rfl
set_option maxRecDepth 20000 in
theorem xw_1008 : Cond.code yX12_isPart cX12_isPart 3 (some .boolean) ∈ xgt := wm_7 228 rfl rfl
set_option maxRecDepth 20000 in
theorem xw_1009 : Cond.code yX12_isRound cX12_isRound 2 (some .boolean) ∈ xgt := wm_8 217 rfl rfl
set_option maxRecDepth 20000 in
theorem xw_1010 : Cond.code yX12_isSign cX12_isSign 2 (some .boolean) ∈ xgt := wm_7 181 rfl rfl
set_option maxRecDepth 20000 in
theorem xw_1011 : Cond.code yX12_isSmall cX12_isSmall 1 (some .boolean) ∈ xgt := wm_7 71 rfl rfl
set_option maxRecDepth 20000 in
theorem xw_1012 : Cond.code yX12_isSounded cX12_isSounded 4 (some .boolean) ∈ xgt := wm_8 12 rfl rfl
set_option maxRecDepth 20000 in
theorem xw_1013 : Cond.code yX12_isTavern cX12_isTavern 2 (some .boolean) ∈ xgt := wm_7 216 rfl rfl
set_option maxRecDepth 20000 in
theorem xw_1014 : Cond.code yX12_isThief cX12_isThief 3 (some .boolean) ∈ xgt := wm_8 187 rfl rfl
set_option maxRecDepth 20000 in
theorem xw_1015 : Cond.code yX12_isVerse cX12_isVerse 2 (some .boolean) ∈ xgt := wm_7 224 rfl rfl
set_option maxRecDepth 20000 in
theorem xw_1016 : Cond.code yX12_isVoice cX12_isVoice 2 (some .boolean) ∈ xgt := wm_7 204 rfl rfl
set_option maxRecDepth 20000 in
theorem xw_1017 : Cond.code yX12_isWord cX12_isWord 2 (some .boolean) ∈ xgt := wm_7 125 rfl rfl
set_option maxRecDepth 20000 in
theorem xw_1018 : Cond.code yX12_keep cX12_keep 1 (some .int) ∈ xgt := wm_9 7 rfl rfl
set_option maxRecDepth 20000 in
theorem xw_1019 : Cond.fieldLink RX12 288 (TX12 36).1 (TX12 36).2.1 (TX12 36).2.2.1 ∈ xgt := wm_6 116 rfl rfl
set_option maxRecDepth 20000 in
theorem xw_1020 : Cond.code yX12_knot cX12_knot 1 none ∈ xgt := wm_7 161 rfl rfl
set_option maxRecDepth 20000 in
theorem xw_1021 : Cond.code yX12_known cX12_known 2 (some .boolean) ∈ xgt := wm_8 171 rfl rfl
set_option maxRecDepth 20000 in
theorem xw_1022 : Cond.code yX12_knownMany cX12_knownMany 1 (some .int) ∈ xgt := wm_8 183 rfl rfl
set_option maxRecDepth 20000 in
theorem xw_1023 : Cond.fieldLink RX12 243 (TX12 24).1 (TX12 24).2.1 (TX12 24).2.2.1 ∈ xgt := wm_6 104 rfl rfl
set_option maxRecDepth 20000 in
theorem xw_1024 : Cond.instanceMethod yX12_sumOf ∈ xgt := wm_7 144 rfl rfl
set_option maxRecDepth 20000 in
theorem xw_1025 : Cond.selects yX12_sumOf.cls yX12_sumOf yX12_sumOf ∈ xgt := ws_5 (q := (yX12_sumOf, 69)) 2 rfl rfl
set_option maxRecDepth 20000 in
theorem xw_1026 : Cond.methodLink RX12 264 yX12_sumOf ∈ xgt := wm_7 142 rfl rfl
set_option maxRecDepth 20000 in
theorem xw_1027 : Cond.code yX12_lawLine cX12_lawLine 2 none ∈ xgt := wm_7 185 rfl rfl
set_option maxRecDepth 20000 in
theorem xw_1028 : Cond.instanceMethod yX12_layDues ∈ xgt := wm_8 110 rfl rfl
set_option maxRecDepth 20000 in
theorem xw_1029 : Cond.selects yX12_layDues.cls yX12_layDues yX12_layDues ∈ xgt := ws_7 (q := (yX12_layDues, 69)) 1 rfl rfl
set_option maxRecDepth 20000 in
theorem xw_1030 : Cond.methodLink RX12 424 yX12_layDues ∈ xgt := wm_8 108 rfl rfl
set_option maxRecDepth 20000 in
theorem xw_1031 : Cond.instanceMethod yX12_tries ∈ xgt := wm_8 130 rfl rfl
set_option maxRecDepth 20000 in
theorem xw_1032 : Cond.selects yX12_tries.cls yX12_tries yX12_tries ∈ xgt := ws_7 (q := (yX12_tries, 69)) 6 rfl rfl
set_option maxRecDepth 20000 in
theorem xw_1033 : Cond.methodLink RX12 439 yX12_tries ∈ xgt := wm_8 128 rfl rfl
set_option maxRecDepth 20000 in
theorem xw_1034 : Cond.code yX12_layBest cX12_layBest 4 none ∈ xgt := wm_8 107 rfl rfl
set_option maxRecDepth 20000 in
theorem xw_1035 : Cond.code yX12_layDues cX12_layDues 3 none ∈ xgt := wm_8 111 rfl rfl
set_option maxRecDepth 20000 in
theorem xw_1036 : Cond.instanceMethod yX12_isFull ∈ xgt := wm_7 101 rfl rfl
set_option maxRecDepth 20000 in
theorem xw_1037 : Cond.selects yX12_isFull.cls yX12_isFull yX12_isFull ∈ xgt := ws_4 (q := (yX12_isFull, 69)) 8 rfl rfl
set_option maxRecDepth 20000 in
theorem xw_1038 : Cond.methodLink RX12 240 yX12_isFull ∈ xgt := wm_7 99 rfl rfl
set_option maxRecDepth 20000 in
theorem xw_1039 : Cond.instanceMethod yX12_fresh ∈ xgt := wm_7 109 rfl rfl
set_option maxRecDepth 20000 in
theorem xw_1040 : Cond.selects yX12_fresh.cls yX12_fresh yX12_fresh ∈ xgt := ws_4 (q := (yX12_fresh, 69)) 10 rfl rfl
set_option maxRecDepth 20000 in
theorem xw_1041 : Cond.methodLink RX12 246 yX12_fresh ∈ xgt := wm_7 107 rfl rfl
set_option maxRecDepth 20000 in
theorem xw_1042 : Cond.instanceMethod yX12_numeral ∈ xgt := wm_7 116 rfl rfl
set_option maxRecDepth 20000 in
theorem xw_1043 : Cond.selects yX12_numeral.cls yX12_numeral yX12_numeral ∈ xgt := ws_4 (q := (yX12_numeral, 69)) 11 rfl rfl
set_option maxRecDepth 20000 in
theorem xw_1044 : Cond.methodLink RX12 250 yX12_numeral ∈ xgt := wm_7 114 rfl rfl
set_option maxRecDepth 20000 in
theorem xw_1045 : Cond.instanceMethod yX12_reads ∈ xgt := wm_7 59 rfl rfl
set_option maxRecDepth 20000 in
theorem xw_1046 : Cond.selects yX12_reads.cls yX12_reads yX12_reads ∈ xgt := ws_4 (q := (yX12_reads, 69)) 0 rfl rfl
set_option maxRecDepth 20000 in
theorem xw_1047 : Cond.methodLink RX12 254 yX12_reads ∈ xgt := wm_7 57 rfl rfl
set_option maxRecDepth 20000 in
theorem xw_1048 : Cond.instanceMethod yX12_voiceLine ∈ xgt := wm_7 120 rfl rfl
set_option maxRecDepth 20000 in
theorem xw_1049 : Cond.selects yX12_voiceLine.cls yX12_voiceLine yX12_voiceLine ∈ xgt := ws_4 (q := (yX12_voiceLine, 69)) 12 rfl rfl
set_option maxRecDepth 20000 in
theorem xw_1050 : Cond.methodLink RX12 258 yX12_voiceLine ∈ xgt := wm_7 118 rfl rfl
set_option maxRecDepth 20000 in
theorem xw_1051 : Cond.instanceMethod yX12_verseLine ∈ xgt := wm_7 136 rfl rfl
set_option maxRecDepth 20000 in
theorem xw_1052 : Cond.selects yX12_verseLine.cls yX12_verseLine yX12_verseLine ∈ xgt := ws_5 (q := (yX12_verseLine, 69)) 0 rfl rfl
set_option maxRecDepth 20000 in
theorem xw_1053 : Cond.methodLink RX12 261 yX12_verseLine ∈ xgt := wm_7 134 rfl rfl
set_option maxRecDepth 20000 in
theorem xw_1054 : Cond.constant RX12 201 (nI 99999) ∈ xgt := wm_7 86 rfl rfl
set_option maxRecDepth 20000 in
theorem xw_1055 : Cond.instanceMethod yX12_lawLine ∈ xgt := wm_7 184 rfl rfl
set_option maxRecDepth 20000 in
theorem xw_1056 : Cond.selects yX12_lawLine.cls yX12_lawLine yX12_lawLine ∈ xgt := ws_5 (q := (yX12_lawLine, 69)) 12 rfl rfl
set_option maxRecDepth 20000 in
theorem xw_1057 : Cond.methodLink RX12 267 yX12_lawLine ∈ xgt := wm_7 182 rfl rfl
set_option maxRecDepth 20000 in
theorem xw_1058 : Cond.instanceMethod yX12_isSign ∈ xgt := wm_7 180 rfl rfl
set_option maxRecDepth 20000 in
theorem xw_1059 : Cond.selects yX12_isSign.cls yX12_isSign yX12_isSign ∈ xgt := ws_5 (q := (yX12_isSign, 69)) 11 rfl rfl
set_option maxRecDepth 20000 in
theorem xw_1060 : Cond.methodLink RX12 270 yX12_isSign ∈ xgt := wm_7 178 rfl rfl
set_option maxRecDepth 20000 in
theorem xw_1061 : Cond.fieldLink RX12 273 (TX12 25).1 (TX12 25).2.1 (TX12 25).2.2.1 ∈ xgt := wm_6 105 rfl rfl
set_option maxRecDepth 20000 in
theorem xw_1062 : Cond.code yX12_line cX12_line 4 none ∈ xgt := wm_7 94 rfl rfl
set_option maxRecDepth 20000 in
theorem xw_1063 : Cond.code yX12_look cX12_look 3 (some .int) ∈ xgt := wm_7 200 rfl rfl
set_option maxRecDepth 20000 in
theorem xw_1064 : Cond.code yX12_mayBe cX12_mayBe 4 (some .boolean) ∈ xgt := wm_8 119 rfl rfl
set_option maxRecDepth 20000 in
theorem xw_1065 : Cond.fieldLink RX12 179 (TX12 28).1 (TX12 28).2.1 (TX12 28).2.2.1 ∈ xgt := wm_6 108 rfl rfl
set_option maxRecDepth 20000 in
theorem xw_1066 : Cond.code yX12_name cX12_name 2 none ∈ xgt := wm_7 82 rfl rfl
set_option maxRecDepth 20000 in
theorem xw_1067 : Cond.code yX12_named cX12_named 3 (some .int) ∈ xgt := wm_7 196 rfl rfl
set_option maxRecDepth 20000 in
theorem xw_1068 : Cond.instanceMethod yX12_sum ∈ xgt := wm_7 168 rfl rfl
set_option maxRecDepth 20000 in
theorem xw_1069 : Cond.selects yX12_sum.cls yX12_sum yX12_sum ∈ xgt := ws_5 (q := (yX12_sum, 69)) 8 rfl rfl
set_option maxRecDepth 20000 in
theorem xw_1070 : Cond.methodLink RX12 303 yX12_sum ∈ xgt := wm_7 166 rfl rfl
set_option maxRecDepth 20000 in
theorem xw_1071 : Cond.code yX12_negation cX12_negation 2 none ∈ xgt := wm_7 157 rfl rfl
set_option maxRecDepth 20000 in
theorem xw_1072 : Cond.code yX12_numeral cX12_numeral 4 (some .int) ∈ xgt := wm_7 117 rfl rfl
set_option maxRecDepth 20000 in
theorem xw_1073 : Cond.instanceMethod yX12_thieves ∈ xgt := wm_8 173 rfl rfl
set_option maxRecDepth 20000 in
theorem xw_1074 : Cond.selects yX12_thieves.cls yX12_thieves yX12_thieves ∈ xgt := wm_8 174 rfl rfl
set_option maxRecDepth 20000 in
theorem xw_1075 : Cond.methodLink RX12 479 yX12_thieves ∈ xgt := wm_8 196 rfl rfl
set_option maxRecDepth 20000 in
theorem xw_1076 : Cond.methodLink RX12 482 yX12_common ∈ xgt := wm_8 197 rfl rfl
set_option maxRecDepth 20000 in
theorem xw_1077 : Cond.static yX12_common ∈ xgt := wm_8 198 rfl rfl
set_option maxRecDepth 20000 in
theorem xw_1078 : Cond.code yX12_odds cX12_odds 6 (some .int) ∈ xgt := wm_8 195 rfl rfl
set_option maxRecDepth 20000 in
theorem xw_1079 : Cond.code yX12_partLine cX12_partLine 3 none ∈ xgt := wm_7 141 rfl rfl
set_option maxRecDepth 20000 in
theorem xw_1080 : Cond.instanceMethod yX12_isTavern ∈ xgt := wm_7 215 rfl rfl
set_option maxRecDepth 20000 in
theorem xw_1081 : Cond.selects yX12_isTavern.cls yX12_isTavern yX12_isTavern ∈ xgt := ws_5 (q := (yX12_isTavern, 69)) 15 rfl rfl
set_option maxRecDepth 20000 in
theorem xw_1082 : Cond.methodLink RX12 341 yX12_isTavern ∈ xgt := wm_7 213 rfl rfl
set_option maxRecDepth 20000 in
theorem xw_1083 : Cond.code yX12_pay cX12_pay 5 (some .int) ∈ xgt := wm_8 237 rfl rfl
set_option maxRecDepth 20000 in
theorem xw_1084 : Cond.code yX12_pitch cX12_pitch 4 (some .int) ∈ xgt := wm_7 232 rfl rfl
set_option maxRecDepth 20000 in
theorem xw_1085 : Cond.fieldLink RX12 312 (TX12 35).1 (TX12 35).2.1 (TX12 35).2.2.1 ∈ xgt := wm_6 115 rfl rfl
set_option maxRecDepth 20000 in
theorem xw_1086 : Cond.instanceMethod yX12_expression ∈ xgt := wm_7 148 rfl rfl
set_option maxRecDepth 20000 in
theorem xw_1087 : Cond.selects yX12_expression.cls yX12_expression yX12_expression ∈ xgt := ws_5 (q := (yX12_expression, 69)) 3 rfl rfl
set_option maxRecDepth 20000 in
theorem xw_1088 : Cond.methodLink RX12 276 yX12_expression ∈ xgt := wm_7 146 rfl rfl
set_option maxRecDepth 20000 in
theorem xw_1089 : Cond.code yX12_primary cX12_primary 2 none ∈ xgt := wm_7 177 rfl rfl
set_option maxRecDepth 20000 in
theorem xw_1090 : Cond.instanceMethod yX12_primary ∈ xgt := wm_7 176 rfl rfl
set_option maxRecDepth 20000 in
theorem xw_1091 : Cond.selects yX12_primary.cls yX12_primary yX12_primary ∈ xgt := ws_5 (q := (yX12_primary, 69)) 10 rfl rfl
set_option maxRecDepth 20000 in
theorem xw_1092 : Cond.methodLink RX12 309 yX12_primary ∈ xgt := wm_7 174 rfl rfl
set_option maxRecDepth 20000 in
theorem xw_1093 : Cond.code yX12_product cX12_product 2 none ∈ xgt := wm_7 173 rfl rfl
set_option maxRecDepth 20000 in
theorem xw_1094 : Cond.code yX12_puts cX12_puts 3 none ∈ xgt := wm_7 165 rfl rfl
set_option maxRecDepth 20000 in
theorem xw_1095 : Cond.code yX12_reaches cX12_reaches 3 (some .boolean) ∈ xgt := wm_8 16 rfl rfl
set_option maxRecDepth 20000 in
theorem xw_1096 : Cond.code yX12_reads cX12_reads 3 none ∈ xgt := wm_7 60 rfl rfl
set_option maxRecDepth 20000 in
theorem xw_1097 : Cond.instanceMethod yX12_singsIn ∈ xgt := wm_8 73 rfl rfl
set_option maxRecDepth 20000 in
theorem xw_1098 : Cond.selects yX12_singsIn.cls yX12_singsIn yX12_singsIn ∈ xgt := ws_6 (q := (yX12_singsIn, 69)) 14 rfl rfl
set_option maxRecDepth 20000 in
theorem xw_1099 : Cond.methodLink RX12 414 yX12_singsIn ∈ xgt := wm_8 71 rfl rfl
set_option maxRecDepth 20000 in
theorem xw_1100 : Cond.code yX12_redeem cX12_redeem 6 (some .int) ∈ xgt := wm_8 70 rfl rfl
set_option maxRecDepth 20000 in
theorem xw_1101 : Cond.code yX12_restsOf cX12_restsOf 4 (some .int) ∈ xgt := wm_8 20 rfl rfl
set_option maxRecDepth 20000 in
theorem xw_1102 : Cond.code yX12_round cX12_round 5 (some .int) ∈ xgt := wm_8 214 rfl rfl
set_option maxRecDepth 20000 in
theorem xw_1103 : Cond.code yX12_rows cX12_rows 10 none ∈ xgt := wm_8 221 rfl rfl
set_option maxRecDepth 20000 in
theorem xw_1104 : Cond.instanceMethod yX12_hasOf ∈ xgt := wm_8 232 rfl rfl
set_option maxRecDepth 20000 in
theorem xw_1105 : Cond.selects yX12_hasOf.cls yX12_hasOf yX12_hasOf ∈ xgt := ws_8 (q := (yX12_hasOf, 69)) 1 rfl rfl
set_option maxRecDepth 20000 in
theorem xw_1106 : Cond.methodLink RX12 501 yX12_hasOf ∈ xgt := wm_8 230 rfl rfl
set_option maxRecDepth 20000 in
theorem xw_1107 : Cond.code yX12_run cX12_run 3 (some .int) ∈ xgt := wm_8 229 rfl rfl
set_option maxRecDepth 20000 in
theorem xw_1108 : Cond.fieldLink RX12 455 (TX12 59).1 (TX12 59).2.1 (TX12 59).2.2.1 ∈ xgt := wm_6 139 rfl rfl
set_option maxRecDepth 20000 in
theorem xw_1109 : Cond.fieldLink RX12 458 (TX12 60).1 (TX12 60).2.1 (TX12 60).2.2.1 ∈ xgt := wm_6 140 rfl rfl
set_option maxRecDepth 20000 in
theorem xw_1110 : Cond.code yX12_sells cX12_sells 8 (some .int) ∈ xgt := wm_8 155 rfl rfl
set_option maxRecDepth 20000 in
theorem xw_1111 : Cond.instanceMethod yX12_here ∈ xgt := wm_7 67 rfl rfl
set_option maxRecDepth 20000 in
theorem xw_1112 : Cond.selects yX12_here.cls yX12_here yX12_here ∈ xgt := ws_4 (q := (yX12_here, 69)) 2 rfl rfl
set_option maxRecDepth 20000 in
theorem xw_1113 : Cond.methodLink RX12 175 yX12_here ∈ xgt := wm_7 65 rfl rfl
set_option maxRecDepth 20000 in
theorem xw_1114 : Cond.code yX12_sign cX12_sign 2 none ∈ xgt := wm_7 90 rfl rfl
set_option maxRecDepth 20000 in
theorem xw_1115 : Cond.code yX12_sings cX12_sings 4 (some .int) ∈ xgt := wm_8 82 rfl rfl
set_option maxRecDepth 20000 in
theorem xw_1116 : Cond.code yX12_singsIn cX12_singsIn 4 (some .boolean) ∈ xgt := wm_8 74 rfl rfl
set_option maxRecDepth 20000 in
theorem xw_1117 : Cond.code yX12_sold cX12_sold 4 (some .int) ∈ xgt := wm_8 147 rfl rfl
set_option maxRecDepth 20000 in
theorem xw_1118 : Cond.code yX12_sounds cX12_sounds 4 (some .int) ∈ xgt := wm_8 49 rfl rfl
set_option maxRecDepth 20000 in
theorem xw_1119 : Cond.code yX12_soundsOf cX12_soundsOf 5 (some .int) ∈ xgt := wm_8 8 rfl rfl
set_option maxRecDepth 20000 in
theorem xw_1120 : Cond.code yX12_starts cX12_starts 2 none ∈ xgt := wm_8 115 rfl rfl
set_option maxRecDepth 20000 in
theorem xw_1121 : Cond.code yX12_strike cX12_strike 2 (some .int) ∈ xgt := wm_8 167 rfl rfl
set_option maxRecDepth 20000 in
theorem xw_1122 : Cond.code yX12_strikes cX12_strikes 2 none ∈ xgt := wm_8 179 rfl rfl
set_option maxRecDepth 20000 in
theorem xw_1123 : Cond.instanceMethod yX12_product ∈ xgt := wm_7 172 rfl rfl
set_option maxRecDepth 20000 in
theorem xw_1124 : Cond.selects yX12_product.cls yX12_product yX12_product ∈ xgt := ws_5 (q := (yX12_product, 69)) 9 rfl rfl
set_option maxRecDepth 20000 in
theorem xw_1125 : Cond.methodLink RX12 306 yX12_product ∈ xgt := wm_7 170 rfl rfl
set_option maxRecDepth 20000 in
theorem xw_1126 : Cond.code yX12_sum cX12_sum 2 none ∈ xgt := wm_7 169 rfl rfl
set_option maxRecDepth 20000 in
theorem xw_1127 : Cond.code yX12_sumOf cX12_sumOf 2 none ∈ xgt := wm_7 145 rfl rfl
set_option maxRecDepth 20000 in
theorem xw_1128 : Cond.instanceMethod yX12_draw ∈ xgt := wm_8 93 rfl rfl
set_option maxRecDepth 20000 in
theorem xw_1129 : Cond.selects yX12_draw.cls yX12_draw yX12_draw ∈ xgt := ws_6 (q := (yX12_draw, 69)) 15 rfl rfl
set_option maxRecDepth 20000 in
theorem xw_1130 : Cond.methodLink RX12 421 yX12_draw ∈ xgt := wm_8 91 rfl rfl
set_option maxRecDepth 20000 in
theorem xw_1131 : Cond.code yX12_sunday cX12_sunday 4 (some .int) ∈ xgt := wm_8 90 rfl rfl
set_option maxRecDepth 20000 in
theorem xw_1132 : Cond.code yX12_tavern cX12_tavern 5 (some .int) ∈ xgt := wm_7 212 rfl rfl
set_option maxRecDepth 20000 in
theorem xw_1133 : Cond.code yX12_tavernAhead cX12_tavernAhead 2 (some .int) ∈ xgt := wm_7 129 rfl rfl
set_option maxRecDepth 20000 in
theorem xw_1134 : Cond.fieldLink RX12 220 (TX12 32).1 (TX12 32).2.1 (TX12 32).2.2.1 ∈ xgt := wm_6 112 rfl rfl
set_option maxRecDepth 20000 in
theorem xw_1135 : Cond.instanceMethod yX12_line ∈ xgt := wm_7 93 rfl rfl
set_option maxRecDepth 20000 in
theorem xw_1136 : Cond.selects yX12_line.cls yX12_line yX12_line ∈ xgt := ws_4 (q := (yX12_line, 69)) 6 rfl rfl
set_option maxRecDepth 20000 in
theorem xw_1137 : Cond.methodLink RX12 315 yX12_line ∈ xgt := wm_7 91 rfl rfl
set_option maxRecDepth 20000 in
theorem xw_1138 : Cond.methodLink RX12 321 yX12_half ∈ xgt := wm_7 186 rfl rfl
set_option maxRecDepth 20000 in
theorem xw_1139 : Cond.static yX12_half ∈ xgt := wm_7 187 rfl rfl
set_option maxRecDepth 20000 in
theorem xw_1140 : Cond.code yX12_text cX12_text 3 (some .int) ∈ xgt := wm_7 56 rfl rfl
set_option maxRecDepth 20000 in
theorem xw_1141 : Cond.instanceMethod yX12_isThief ∈ xgt := wm_8 186 rfl rfl
set_option maxRecDepth 20000 in
theorem xw_1142 : Cond.selects yX12_isThief.cls yX12_isThief yX12_isThief ∈ xgt := ws_7 (q := (yX12_isThief, 69)) 13 rfl rfl
set_option maxRecDepth 20000 in
theorem xw_1143 : Cond.methodLink RX12 476 yX12_isThief ∈ xgt := wm_8 184 rfl rfl
set_option maxRecDepth 20000 in
theorem xw_1144 : Cond.code yX12_thieves cX12_thieves 3 (some .int) ∈ xgt := wm_8 175 rfl rfl
set_option maxRecDepth 20000 in
theorem xw_1145 : Cond.methodLink RX12 185 yX12_isSmall ∈ xgt := wm_7 69 rfl rfl
set_option maxRecDepth 20000 in
theorem xw_1146 : Cond.static yX12_isSmall ∈ xgt := wm_7 70 rfl rfl
set_option maxRecDepth 20000 in
theorem xw_1147 : Cond.instanceMethod yX12_word ∈ xgt := wm_7 74 rfl rfl
set_option maxRecDepth 20000 in
theorem xw_1148 : Cond.selects yX12_word.cls yX12_word yX12_word ∈ xgt := ws_4 (q := (yX12_word, 69)) 3 rfl rfl
set_option maxRecDepth 20000 in
theorem xw_1149 : Cond.methodLink RX12 189 yX12_word ∈ xgt := wm_7 72 rfl rfl
set_option maxRecDepth 20000 in
theorem xw_1150 : Cond.instanceMethod yX12_name ∈ xgt := wm_7 81 rfl rfl
set_option maxRecDepth 20000 in
theorem xw_1151 : Cond.selects yX12_name.cls yX12_name yX12_name ∈ xgt := ws_4 (q := (yX12_name, 69)) 4 rfl rfl
set_option maxRecDepth 20000 in
theorem xw_1152 : Cond.methodLink RX12 195 yX12_name ∈ xgt := wm_7 79 rfl rfl
set_option maxRecDepth 20000 in
theorem xw_1153 : Cond.methodLink RX12 198 yX12_isDigit ∈ xgt := wm_7 83 rfl rfl
set_option maxRecDepth 20000 in
theorem xw_1154 : Cond.static yX12_isDigit ∈ xgt := wm_7 84 rfl rfl
set_option maxRecDepth 20000 in
theorem xw_1155 : Cond.instanceMethod yX12_sign ∈ xgt := wm_7 89 rfl rfl
set_option maxRecDepth 20000 in
theorem xw_1156 : Cond.selects yX12_sign.cls yX12_sign yX12_sign ∈ xgt := ws_4 (q := (yX12_sign, 69)) 5 rfl rfl
set_option maxRecDepth 20000 in
theorem xw_1157 : Cond.methodLink RX12 202 yX12_sign ∈ xgt := wm_7 87 rfl rfl
set_option maxRecDepth 20000 in
theorem xw_1158 : Cond.code yX12_token cX12_token 2 none ∈ xgt := wm_7 64 rfl rfl
set_option maxRecDepth 20000 in
theorem xw_1159 : Cond.code yX12_tries cX12_tries 9 none ∈ xgt := wm_8 131 rfl rfl
set_option maxRecDepth 20000 in
theorem xw_1160 : Cond.code yX12_undo cX12_undo 3 (some .int) ∈ xgt := wm_8 78 rfl rfl
set_option maxRecDepth 20000 in
theorem xw_1161 : Cond.code yX12_verse cX12_verse 3 (some .int) ∈ xgt := wm_7 220 rfl rfl
set_option maxRecDepth 20000 in
theorem xw_1162 : Cond.instanceMethod yX12_partLine ∈ xgt := wm_7 140 rfl rfl
set_option maxRecDepth 20000 in
theorem xw_1163 : Cond.selects yX12_partLine.cls yX12_partLine yX12_partLine ∈ xgt := ws_5 (q := (yX12_partLine, 69)) 1 rfl rfl
set_option maxRecDepth 20000 in
theorem xw_1164 : Cond.methodLink RX12 285 yX12_partLine ∈ xgt := wm_7 138 rfl rfl
set_option maxRecDepth 20000 in
theorem xw_1165 : Cond.code yX12_verseLine cX12_verseLine 2 none ∈ xgt := wm_7 137 rfl rfl
set_option maxRecDepth 20000 in
theorem xw_1166 : Cond.instanceMethod yX12_tavernAhead ∈ xgt := wm_7 128 rfl rfl
set_option maxRecDepth 20000 in
theorem xw_1167 : Cond.selects yX12_tavernAhead.cls yX12_tavernAhead yX12_tavernAhead ∈ xgt := ws_4 (q := (yX12_tavernAhead, 69)) 14 rfl rfl
set_option maxRecDepth 20000 in
theorem xw_1168 : Cond.methodLink RX12 282 yX12_tavernAhead ∈ xgt := wm_7 126 rfl rfl
set_option maxRecDepth 20000 in
theorem xw_1169 : Cond.code yX12_voiceLine cX12_voiceLine 2 none ∈ xgt := wm_7 121 rfl rfl
set_option maxRecDepth 20000 in
theorem xw_1170 : Cond.constantLong RX12 504 (lN 18446744073709551615) ∈ xgt := wm_9 2 rfl rfl
set_option maxRecDepth 20000 in
theorem xw_1171 : Cond.constantLong RX12 506 (lN 100) ∈ xgt := wm_9 3 rfl rfl
set_option maxRecDepth 20000 in
theorem xw_1172 : Cond.code yX12_whole cX12_whole 10 (some .long) ∈ xgt := wm_9 1 rfl rfl
set_option maxRecDepth 20000 in
theorem xw_1173 : Cond.instanceMethod yX12_goes ∈ xgt := wm_8 32 rfl rfl
set_option maxRecDepth 20000 in
theorem xw_1174 : Cond.selects yX12_goes.cls yX12_goes yX12_goes ∈ xgt := ws_6 (q := (yX12_goes, 69)) 10 rfl rfl
set_option maxRecDepth 20000 in
theorem xw_1175 : Cond.methodLink RX12 368 yX12_goes ∈ xgt := wm_8 30 rfl rfl
set_option maxRecDepth 20000 in
theorem xw_1177 : Cond.code yX12_within cX12_within 4 (some .int) ∈ xgt := wm_8 29 rfl rfl
set_option maxRecDepth 20000 in
theorem xw_1178 : Cond.methodLink RX12 208 yJ0_length_8abf5 ∈ xgt := wm_7 77 rfl rfl
set_option maxRecDepth 20000 in
theorem xw_1179 : Cond.methodLink RX12 213 yJ0_charAt_5068e ∈ xgt := wm_7 78 rfl rfl
set_option maxRecDepth 20000 in
theorem xw_1180 : Cond.code yX12_word cX12_word 4 (some .int) ∈ xgt := wm_7 75 rfl rfl
set_option maxRecDepth 20000 in
theorem xw_1181 : Cond.methodLink RX12 351 yX12_is ∈ xgt := wm_8 38 rfl rfl
set_option maxRecDepth 20000 in
theorem xw_1182 : Cond.static yX12_is ∈ xgt := wm_8 39 rfl rfl
set_option maxRecDepth 20000 in
theorem xw_1184 : Cond.constantLong RX12 361 (lN 1000000000000) ∈ xgt := wm_8 42 rfl rfl
set_option maxRecDepth 20000 in
theorem xw_1185 : Cond.constantLong RX12 363 (lN 18446743073709551616) ∈ xgt := wm_8 43 rfl rfl
set_option maxRecDepth 20000 in
theorem xw_1186 : Cond.code yX12_works cX12_works 8 (some .boolean) ∈ xgt := wm_8 37 rfl rfl
set_option maxRecDepth 20000 in
theorem xw_1187 : Cond.code yX12_wrong cX12_wrong 2 none ∈ xgt := wm_7 98 rfl rfl
set_option maxRecDepth 20000 in
theorem xw_1188 : Cond.constant RJ6 265 (nI 1431655765) ∈ xgt := wm_4 126 rfl rfl
set_option maxRecDepth 20000 in
theorem xw_1189 : Cond.constant RJ6 266 (nI 858993459) ∈ xgt := wm_4 127 rfl rfl
set_option maxRecDepth 20000 in
theorem xw_1190 : Cond.constant RJ6 267 (nI 252645135) ∈ xgt := wm_4 128 rfl rfl
set_option maxRecDepth 20000 in
theorem xw_1191 : Cond.code yJ6_bitCount_0f7a4 cJ6_bitCount_0f7a4 1 (some .int) ∈ xgt := wm_4 125 rfl rfl
set_option maxRecDepth 20000 in
theorem xw_1192 : Cond.initialized RJ6 ∈ xgt := wm_1 26 rfl rfl
set_option maxRecDepth 20000 in
theorem xw_1193 : Cond.constantLong RJ13 314 (lN 6148914691236517205) ∈ xgt := wm_5 173 rfl rfl
set_option maxRecDepth 20000 in
theorem xw_1194 : Cond.constantLong RJ13 316 (lN 3689348814741910323) ∈ xgt := wm_5 174 rfl rfl
set_option maxRecDepth 20000 in
theorem xw_1195 : Cond.constantLong RJ13 318 (lN 1085102592571150095) ∈ xgt := wm_5 175 rfl rfl
set_option maxRecDepth 20000 in
theorem xw_1196 : Cond.code yJ13_bitCount_95d88 cJ13_bitCount_95d88 2 (some .int) ∈ xgt := wm_5 172 rfl rfl
set_option maxRecDepth 20000 in
theorem xw_1197 : Cond.initialized RJ13 ∈ xgt := wm_1 27 rfl rfl
set_option maxRecDepth 20000 in
theorem xw_1204 : Cond.instanceMethod yJ0_isLatin1_aae02 ∈ xgt := wm_2 3 rfl rfl
set_option maxRecDepth 20000 in
theorem xw_1205 : Cond.selects yJ0_isLatin1_aae02.cls yJ0_isLatin1_aae02 yJ0_isLatin1_aae02 ∈ xgt := wm_2 4 rfl rfl
set_option maxRecDepth 20000 in
theorem xw_1206 : Cond.methodLink RJ0 492 yJ0_isLatin1_aae02 ∈ xgt := wm_2 2 rfl rfl
set_option maxRecDepth 20000 in
theorem xw_1207 : Cond.fieldLink RJ0 9 "java/lang/String" "value" "[B" ∈ xgt := wm_9 38 rfl rfl
set_option maxRecDepth 20000 in
theorem xw_1208 : Cond.methodLink RJ0 495 yJ1_charAt_3b067 ∈ xgt := wm_2 6 rfl rfl
set_option maxRecDepth 20000 in
theorem xw_1209 : Cond.static yJ1_charAt_3b067 ∈ xgt := wm_2 7 rfl rfl
set_option maxRecDepth 20000 in
theorem xw_1210 : Cond.code yJ0_charAt_5068e cJ0_charAt_5068e 2 (some .char) ∈ xgt := wm_2 1 rfl rfl
set_option maxRecDepth 20000 in
theorem xw_1211 : Cond.initialized RJ0 ∈ xgt := wm_1 7 rfl rfl
set_option maxRecDepth 20000 in
theorem xw_1212 : Cond.fieldLink RJ0 1053 "jdk/internal/util/Preconditions" "SIOOBE_FORMATTER" "Ljava/util/function/BiFunction;" ∈ xgt := wm_2 12 rfl rfl
set_option maxRecDepth 20000 in
theorem xw_1213 : Cond.methodLink RJ0 1059 yJ3_checkIndex_8e157 ∈ xgt := wm_2 14 rfl rfl
set_option maxRecDepth 20000 in
theorem xw_1214 : Cond.static yJ3_checkIndex_8e157 ∈ xgt := wm_2 15 rfl rfl
set_option maxRecDepth 20000 in
theorem xw_1215 : Cond.code yJ0_checkIndex_df160 cJ0_checkIndex_df160 2 none ∈ xgt := wm_2 11 rfl rfl
set_option maxRecDepth 20000 in
theorem xw_1216 : Cond.fieldLink RJ0 38 "java/lang/String" "COMPACT_STRINGS" "Z" ∈ xgt := wm_1 236 rfl rfl
set_option maxRecDepth 20000 in
theorem xw_1217 : Cond.fieldLink RJ0 15 "java/lang/String" "coder" "B" ∈ xgt := wm_9 39 rfl rfl
set_option maxRecDepth 20000 in
theorem xw_1218 : Cond.code yJ0_coder_7d493 cJ0_coder_7d493 1 (some .byte) ∈ xgt := wm_1 235 rfl rfl
set_option maxRecDepth 20000 in
theorem xw_1219 : Cond.code yJ0_isLatin1_aae02 cJ0_isLatin1_aae02 1 (some .boolean) ∈ xgt := wm_2 5 rfl rfl
set_option maxRecDepth 20000 in
theorem xw_1220 : Cond.instanceMethod yJ0_coder_7d493 ∈ xgt := wm_1 233 rfl rfl
set_option maxRecDepth 20000 in
theorem xw_1221 : Cond.selects yJ0_coder_7d493.cls yJ0_coder_7d493 yJ0_coder_7d493 ∈ xgt := wm_1 234 rfl rfl
set_option maxRecDepth 20000 in
theorem xw_1222 : Cond.methodLink RJ0 335 yJ0_coder_7d493 ∈ xgt := wm_1 232 rfl rfl
set_option maxRecDepth 20000 in
theorem xw_1223 : Cond.code yJ0_length_8abf5 cJ0_length_8abf5 1 (some .int) ∈ xgt := wm_1 231 rfl rfl
set_option maxRecDepth 20000 in
theorem xw_1224 : Cond.methodLink RJ1 9 yJ0_checkIndex_df160 ∈ xgt := wm_2 9 rfl rfl
set_option maxRecDepth 20000 in
theorem xw_1225 : Cond.static yJ0_checkIndex_df160 ∈ xgt := wm_2 10 rfl rfl
set_option maxRecDepth 20000 in
theorem xw_1226 : Cond.code yJ1_charAt_3b067 cJ1_charAt_3b067 2 (some .char) ∈ xgt := wm_2 8 rfl rfl
set_option maxRecDepth 20000 in
theorem xw_1227 : Cond.initialized RJ1 ∈ xgt := wm_1 8 rfl rfl
set_option maxRecDepth 20000 in
theorem xw_1228 : Cond.code yJ7_fill_53178 cJ7_fill_53178 4 none ∈ xgt := wm_3 68 rfl rfl
set_option maxRecDepth 20000 in
theorem xw_1229 : Cond.initialized RJ7 ∈ xgt := wm_1 17 rfl rfl
set_option maxRecDepth 20000 in
theorem xw_1230 : Cond.code yJ3_checkIndex_8e157 cJ3_checkIndex_8e157 3 (some .int) ∈ xgt := wm_2 16 rfl rfl
set_option maxRecDepth 20000 in
theorem xw_1231 : Cond.initialized RJ3 ∈ xgt := wm_1 9 rfl rfl
set_option maxRecDepth 20000 in
theorem xw_1232 : Cond.classLink RL 8 RX11 ∈ xgt := wm_1 28 rfl rfl
set_option maxRecDepth 20000 in
theorem xw_1233 : Cond.instantiable RX11 15 ∈ xgt := wm_1 29 rfl rfl
set_option maxRecDepth 20000 in
theorem xw_1234 : Cond.instanceMethod yX11_init ∈ xgt := wm_1 31 rfl rfl
set_option maxRecDepth 20000 in
theorem xw_1235 : Cond.methodLink RL 17 yX11_init ∈ xgt := wm_1 30 rfl rfl
set_option maxRecDepth 20000 in
theorem xw_1236 : Cond.classLink RL 18 RX12 ∈ xgt := wm_6 70 rfl rfl
set_option maxRecDepth 20000 in
theorem xw_1237 : Cond.instantiable RX12 69 ∈ xgt := wm_6 71 rfl rfl
set_option maxRecDepth 20000 in
theorem xw_1238 : Cond.instanceMethod yX12_init ∈ xgt := wm_6 73 rfl rfl
set_option maxRecDepth 20000 in
theorem xw_1239 : Cond.methodLink RL 20 yX12_init ∈ xgt := wm_6 72 rfl rfl
set_option maxRecDepth 20000 in
theorem xw_1240 : Cond.instanceMethod yX11_feed ∈ xgt := wm_3 123 rfl rfl
set_option maxRecDepth 20000 in
theorem xw_1241 : Cond.selects yX11_feed.cls yX11_feed yX11_feed ∈ xgt := wm_3 124 rfl rfl
set_option maxRecDepth 20000 in
theorem xw_1242 : Cond.methodLink RL 21 yX11_feed ∈ xgt := wm_3 122 rfl rfl
set_option maxRecDepth 20000 in
theorem xw_1243 : Cond.instanceMethod yX12_feed ∈ xgt := wm_7 50 rfl rfl
set_option maxRecDepth 20000 in
theorem xw_1244 : Cond.selects yX12_feed.cls yX12_feed yX12_feed ∈ xgt := wm_7 51 rfl rfl
set_option maxRecDepth 20000 in
theorem xw_1245 : Cond.methodLink RL 25 yX12_feed ∈ xgt := wm_7 49 rfl rfl
set_option maxRecDepth 20000 in
theorem xw_1246 : Cond.instanceMethod yX11_text ∈ xgt := wm_3 131 rfl rfl
set_option maxRecDepth 20000 in
theorem xw_1247 : Cond.selects yX11_text.cls yX11_text yX11_text ∈ xgt := wm_3 132 rfl rfl
set_option maxRecDepth 20000 in
theorem xw_1248 : Cond.methodLink RL 26 yX11_text ∈ xgt := wm_3 130 rfl rfl
set_option maxRecDepth 20000 in
theorem xw_1249 : Cond.instanceMethod yX12_text ∈ xgt := wm_7 54 rfl rfl
set_option maxRecDepth 20000 in
theorem xw_1250 : Cond.selects yX12_text.cls yX12_text yX12_text ∈ xgt := wm_7 55 rfl rfl
set_option maxRecDepth 20000 in
theorem xw_1251 : Cond.methodLink RL 30 yX12_text ∈ xgt := wm_7 53 rfl rfl
set_option maxRecDepth 20000 in
theorem xw_1252 : Cond.instanceMethod yX11_fault ∈ xgt := wm_4 63 rfl rfl
set_option maxRecDepth 20000 in
theorem xw_1253 : Cond.selects yX11_fault.cls yX11_fault yX11_fault ∈ xgt := wm_4 64 rfl rfl
set_option maxRecDepth 20000 in
theorem xw_1254 : Cond.methodLink RL 31 yX11_fault ∈ xgt := wm_4 62 rfl rfl
set_option maxRecDepth 20000 in
theorem xw_1255 : Cond.instanceMethod yX12_fault ∈ xgt := wm_7 190 rfl rfl
set_option maxRecDepth 20000 in
theorem xw_1256 : Cond.selects yX12_fault.cls yX12_fault yX12_fault ∈ xgt := wm_7 191 rfl rfl
set_option maxRecDepth 20000 in
theorem xw_1257 : Cond.methodLink RL 34 yX12_fault ∈ xgt := wm_7 189 rfl rfl
set_option maxRecDepth 20000 in
theorem xw_1258 : Cond.instanceMethod yX11_named ∈ xgt := wm_4 67 rfl rfl
set_option maxRecDepth 20000 in
theorem xw_1259 : Cond.selects yX11_named.cls yX11_named yX11_named ∈ xgt := wm_4 68 rfl rfl
set_option maxRecDepth 20000 in
theorem xw_1260 : Cond.methodLink RL 35 yX11_named ∈ xgt := wm_4 66 rfl rfl
set_option maxRecDepth 20000 in
theorem xw_1261 : Cond.instanceMethod yX12_named ∈ xgt := wm_7 194 rfl rfl
set_option maxRecDepth 20000 in
theorem xw_1262 : Cond.selects yX12_named.cls yX12_named yX12_named ∈ xgt := wm_7 195 rfl rfl
set_option maxRecDepth 20000 in
theorem xw_1263 : Cond.methodLink RL 38 yX12_named ∈ xgt := wm_7 193 rfl rfl
set_option maxRecDepth 20000 in
theorem xw_1264 : Cond.instanceMethod yX12_look ∈ xgt := wm_7 198 rfl rfl
set_option maxRecDepth 20000 in
theorem xw_1265 : Cond.selects yX12_look.cls yX12_look yX12_look ∈ xgt := wm_7 199 rfl rfl
set_option maxRecDepth 20000 in
theorem xw_1266 : Cond.methodLink RL 44 yX12_look ∈ xgt := wm_7 197 rfl rfl
set_option maxRecDepth 20000 in
theorem xw_1267 : Cond.instanceMethod yX11_tavern ∈ xgt := wm_4 72 rfl rfl
set_option maxRecDepth 20000 in
theorem xw_1268 : Cond.selects yX11_tavern.cls yX11_tavern yX11_tavern ∈ xgt := wm_4 73 rfl rfl
set_option maxRecDepth 20000 in
theorem xw_1269 : Cond.methodLink RL 45 yX11_tavern ∈ xgt := wm_4 71 rfl rfl
set_option maxRecDepth 20000 in
theorem xw_1270 : Cond.instanceMethod yX12_tavern ∈ xgt := wm_7 210 rfl rfl
set_option maxRecDepth 20000 in
theorem xw_1271 : Cond.selects yX12_tavern.cls yX12_tavern yX12_tavern ∈ xgt := wm_7 211 rfl rfl
set_option maxRecDepth 20000 in
theorem xw_1272 : Cond.methodLink RL 48 yX12_tavern ∈ xgt := wm_7 209 rfl rfl
set_option maxRecDepth 20000 in
theorem xw_1273 : Cond.instanceMethod yX11_verse ∈ xgt := wm_4 84 rfl rfl
set_option maxRecDepth 20000 in
theorem xw_1274 : Cond.selects yX11_verse.cls yX11_verse yX11_verse ∈ xgt := wm_4 85 rfl rfl
set_option maxRecDepth 20000 in
theorem xw_1275 : Cond.methodLink RL 49 yX11_verse ∈ xgt := wm_4 83 rfl rfl
set_option maxRecDepth 20000 in
theorem xw_1276 : Cond.instanceMethod yX12_verse ∈ xgt := wm_7 218 rfl rfl
set_option maxRecDepth 20000 in
theorem xw_1277 : Cond.selects yX12_verse.cls yX12_verse yX12_verse ∈ xgt := wm_7 219 rfl rfl
set_option maxRecDepth 20000 in
theorem xw_1278 : Cond.methodLink RL 52 yX12_verse ∈ xgt := wm_7 217 rfl rfl
set_option maxRecDepth 20000 in
theorem xw_1279 : Cond.instanceMethod yX11_pitch ∈ xgt := wm_4 94 rfl rfl
set_option maxRecDepth 20000 in
theorem xw_1280 : Cond.selects yX11_pitch.cls yX11_pitch yX11_pitch ∈ xgt := wm_4 95 rfl rfl
set_option maxRecDepth 20000 in
theorem xw_1281 : Cond.methodLink RL 53 yX11_pitch ∈ xgt := wm_4 93 rfl rfl
set_option maxRecDepth 20000 in
theorem xw_1282 : Cond.instanceMethod yX12_pitch ∈ xgt := wm_7 230 rfl rfl
set_option maxRecDepth 20000 in
theorem xw_1283 : Cond.selects yX12_pitch.cls yX12_pitch yX12_pitch ∈ xgt := wm_7 231 rfl rfl
set_option maxRecDepth 20000 in
theorem xw_1284 : Cond.methodLink RL 57 yX12_pitch ∈ xgt := wm_7 229 rfl rfl
set_option maxRecDepth 20000 in
theorem xw_1285 : Cond.instanceMethod yX11_due ∈ xgt := wm_4 102 rfl rfl
set_option maxRecDepth 20000 in
theorem xw_1286 : Cond.selects yX11_due.cls yX11_due yX11_due ∈ xgt := wm_4 103 rfl rfl
set_option maxRecDepth 20000 in
theorem xw_1287 : Cond.methodLink RL 58 yX11_due ∈ xgt := wm_4 101 rfl rfl
set_option maxRecDepth 20000 in
theorem xw_1288 : Cond.instanceMethod yX12_due ∈ xgt := wm_7 234 rfl rfl
set_option maxRecDepth 20000 in
theorem xw_1289 : Cond.selects yX12_due.cls yX12_due yX12_due ∈ xgt := wm_7 235 rfl rfl
set_option maxRecDepth 20000 in
theorem xw_1290 : Cond.methodLink RL 61 yX12_due ∈ xgt := wm_7 233 rfl rfl
set_option maxRecDepth 20000 in
theorem xw_1291 : Cond.instanceMethod yX11_sounds ∈ xgt := wm_4 184 rfl rfl
set_option maxRecDepth 20000 in
theorem xw_1292 : Cond.selects yX11_sounds.cls yX11_sounds yX11_sounds ∈ xgt := wm_4 185 rfl rfl
set_option maxRecDepth 20000 in
theorem xw_1293 : Cond.methodLink RL 62 yX11_sounds ∈ xgt := wm_4 183 rfl rfl
set_option maxRecDepth 20000 in
theorem xw_1294 : Cond.instanceMethod yX12_sounds ∈ xgt := wm_8 47 rfl rfl
set_option maxRecDepth 20000 in
theorem xw_1295 : Cond.selects yX12_sounds.cls yX12_sounds yX12_sounds ∈ xgt := wm_8 48 rfl rfl
set_option maxRecDepth 20000 in
theorem xw_1296 : Cond.methodLink RL 65 yX12_sounds ∈ xgt := wm_8 46 rfl rfl
set_option maxRecDepth 20000 in
theorem xw_1297 : Cond.instanceMethod yX11_bids ∈ xgt := wm_4 190 rfl rfl
set_option maxRecDepth 20000 in
theorem xw_1298 : Cond.selects yX11_bids.cls yX11_bids yX11_bids ∈ xgt := wm_4 191 rfl rfl
set_option maxRecDepth 20000 in
theorem xw_1299 : Cond.methodLink RL 66 yX11_bids ∈ xgt := wm_4 189 rfl rfl
set_option maxRecDepth 20000 in
theorem xw_1300 : Cond.instanceMethod yX12_bids ∈ xgt := wm_8 51 rfl rfl
set_option maxRecDepth 20000 in
theorem xw_1301 : Cond.selects yX12_bids.cls yX12_bids yX12_bids ∈ xgt := wm_8 52 rfl rfl
set_option maxRecDepth 20000 in
theorem xw_1302 : Cond.methodLink RL 69 yX12_bids ∈ xgt := wm_8 50 rfl rfl
set_option maxRecDepth 20000 in
theorem xw_1303 : Cond.instanceMethod yX11_cracks ∈ xgt := wm_4 200 rfl rfl
set_option maxRecDepth 20000 in
theorem xw_1304 : Cond.selects yX11_cracks.cls yX11_cracks yX11_cracks ∈ xgt := wm_4 201 rfl rfl
set_option maxRecDepth 20000 in
theorem xw_1305 : Cond.methodLink RL 70 yX11_cracks ∈ xgt := wm_4 199 rfl rfl
set_option maxRecDepth 20000 in
theorem xw_1306 : Cond.instanceMethod yX12_cracks ∈ xgt := wm_8 60 rfl rfl
set_option maxRecDepth 20000 in
theorem xw_1307 : Cond.selects yX12_cracks.cls yX12_cracks yX12_cracks ∈ xgt := wm_8 61 rfl rfl
set_option maxRecDepth 20000 in
theorem xw_1308 : Cond.methodLink RL 73 yX12_cracks ∈ xgt := wm_8 59 rfl rfl
set_option maxRecDepth 20000 in
theorem xw_1309 : Cond.instanceMethod yX11_redeem ∈ xgt := wm_4 208 rfl rfl
set_option maxRecDepth 20000 in
theorem xw_1310 : Cond.selects yX11_redeem.cls yX11_redeem yX11_redeem ∈ xgt := wm_4 209 rfl rfl
set_option maxRecDepth 20000 in
theorem xw_1311 : Cond.methodLink RL 74 yX11_redeem ∈ xgt := wm_4 207 rfl rfl
set_option maxRecDepth 20000 in
theorem xw_1312 : Cond.instanceMethod yX12_redeem ∈ xgt := wm_8 68 rfl rfl
set_option maxRecDepth 20000 in
theorem xw_1313 : Cond.selects yX12_redeem.cls yX12_redeem yX12_redeem ∈ xgt := wm_8 69 rfl rfl
set_option maxRecDepth 20000 in
theorem xw_1314 : Cond.methodLink RL 77 yX12_redeem ∈ xgt := wm_8 67 rfl rfl
set_option maxRecDepth 20000 in
theorem xw_1315 : Cond.instanceMethod yX11_undo ∈ xgt := wm_4 221 rfl rfl
set_option maxRecDepth 20000 in
theorem xw_1316 : Cond.selects yX11_undo.cls yX11_undo yX11_undo ∈ xgt := wm_4 222 rfl rfl
set_option maxRecDepth 20000 in
theorem xw_1317 : Cond.methodLink RL 78 yX11_undo ∈ xgt := wm_4 220 rfl rfl
set_option maxRecDepth 20000 in
theorem xw_1318 : Cond.instanceMethod yX12_undo ∈ xgt := wm_8 76 rfl rfl
set_option maxRecDepth 20000 in
theorem xw_1319 : Cond.selects yX12_undo.cls yX12_undo yX12_undo ∈ xgt := wm_8 77 rfl rfl
set_option maxRecDepth 20000 in
theorem xw_1320 : Cond.methodLink RL 82 yX12_undo ∈ xgt := wm_8 75 rfl rfl
set_option maxRecDepth 20000 in
theorem xw_1321 : Cond.instanceMethod yX11_sings ∈ xgt := wm_4 229 rfl rfl
set_option maxRecDepth 20000 in
theorem xw_1322 : Cond.selects yX11_sings.cls yX11_sings yX11_sings ∈ xgt := wm_4 230 rfl rfl
set_option maxRecDepth 20000 in
theorem xw_1323 : Cond.methodLink RL 83 yX11_sings ∈ xgt := wm_4 228 rfl rfl
set_option maxRecDepth 20000 in
theorem xw_1324 : Cond.instanceMethod yX12_sings ∈ xgt := wm_8 80 rfl rfl
set_option maxRecDepth 20000 in
theorem xw_1325 : Cond.selects yX12_sings.cls yX12_sings yX12_sings ∈ xgt := wm_8 81 rfl rfl
set_option maxRecDepth 20000 in
theorem xw_1326 : Cond.methodLink RL 86 yX12_sings ∈ xgt := wm_8 79 rfl rfl
set_option maxRecDepth 20000 in
theorem xw_1327 : Cond.instanceMethod yX11_bar ∈ xgt := wm_4 233 rfl rfl
set_option maxRecDepth 20000 in
theorem xw_1328 : Cond.selects yX11_bar.cls yX11_bar yX11_bar ∈ xgt := wm_4 234 rfl rfl
set_option maxRecDepth 20000 in
theorem xw_1329 : Cond.methodLink RL 87 yX11_bar ∈ xgt := wm_4 232 rfl rfl
set_option maxRecDepth 20000 in
theorem xw_1330 : Cond.instanceMethod yX12_bar ∈ xgt := wm_8 84 rfl rfl
set_option maxRecDepth 20000 in
theorem xw_1331 : Cond.selects yX12_bar.cls yX12_bar yX12_bar ∈ xgt := wm_8 85 rfl rfl
set_option maxRecDepth 20000 in
theorem xw_1332 : Cond.methodLink RL 90 yX12_bar ∈ xgt := wm_8 83 rfl rfl
set_option maxRecDepth 20000 in
theorem xw_1333 : Cond.instanceMethod yX11_sunday ∈ xgt := wm_4 237 rfl rfl
set_option maxRecDepth 20000 in
theorem xw_1334 : Cond.selects yX11_sunday.cls yX11_sunday yX11_sunday ∈ xgt := wm_4 238 rfl rfl
set_option maxRecDepth 20000 in
theorem xw_1335 : Cond.methodLink RL 91 yX11_sunday ∈ xgt := wm_4 236 rfl rfl
set_option maxRecDepth 20000 in
theorem xw_1336 : Cond.instanceMethod yX12_sunday ∈ xgt := wm_8 88 rfl rfl
set_option maxRecDepth 20000 in
theorem xw_1337 : Cond.selects yX12_sunday.cls yX12_sunday yX12_sunday ∈ xgt := wm_8 89 rfl rfl
set_option maxRecDepth 20000 in
theorem xw_1338 : Cond.methodLink RL 94 yX12_sunday ∈ xgt := wm_8 87 rfl rfl
set_option maxRecDepth 20000 in
theorem xw_1339 : Cond.instanceMethod yX11_best ∈ xgt := wm_5 23 rfl rfl
set_option maxRecDepth 20000 in
theorem xw_1340 : Cond.selects yX11_best.cls yX11_best yX11_best ∈ xgt := wm_5 24 rfl rfl
set_option maxRecDepth 20000 in
theorem xw_1341 : Cond.methodLink RL 95 yX11_best ∈ xgt := wm_5 22 rfl rfl
set_option maxRecDepth 20000 in
theorem xw_1342 : Cond.instanceMethod yX12_best ∈ xgt := wm_8 98 rfl rfl
set_option maxRecDepth 20000 in
theorem xw_1343 : Cond.selects yX12_best.cls yX12_best yX12_best ∈ xgt := wm_8 99 rfl rfl
set_option maxRecDepth 20000 in
theorem xw_1344 : Cond.methodLink RL 98 yX12_best ∈ xgt := wm_8 97 rfl rfl
set_option maxRecDepth 20000 in
theorem xw_1345 : Cond.instanceMethod yX11_chosen ∈ xgt := wm_5 66 rfl rfl
set_option maxRecDepth 20000 in
theorem xw_1346 : Cond.selects yX11_chosen.cls yX11_chosen yX11_chosen ∈ xgt := wm_5 67 rfl rfl
set_option maxRecDepth 20000 in
theorem xw_1347 : Cond.methodLink RL 99 yX11_chosen ∈ xgt := wm_5 65 rfl rfl
set_option maxRecDepth 20000 in
theorem xw_1348 : Cond.instanceMethod yX12_chosen ∈ xgt := wm_8 137 rfl rfl
set_option maxRecDepth 20000 in
theorem xw_1349 : Cond.selects yX12_chosen.cls yX12_chosen yX12_chosen ∈ xgt := wm_8 138 rfl rfl
set_option maxRecDepth 20000 in
theorem xw_1350 : Cond.methodLink RL 102 yX12_chosen ∈ xgt := wm_8 136 rfl rfl
set_option maxRecDepth 20000 in
theorem xw_1351 : Cond.instanceMethod yX11_sold ∈ xgt := wm_5 79 rfl rfl
set_option maxRecDepth 20000 in
theorem xw_1352 : Cond.selects yX11_sold.cls yX11_sold yX11_sold ∈ xgt := wm_5 80 rfl rfl
set_option maxRecDepth 20000 in
theorem xw_1353 : Cond.methodLink RL 103 yX11_sold ∈ xgt := wm_5 78 rfl rfl
set_option maxRecDepth 20000 in
theorem xw_1354 : Cond.instanceMethod yX12_sold ∈ xgt := wm_8 145 rfl rfl
set_option maxRecDepth 20000 in
theorem xw_1355 : Cond.selects yX12_sold.cls yX12_sold yX12_sold ∈ xgt := wm_8 146 rfl rfl
set_option maxRecDepth 20000 in
theorem xw_1356 : Cond.methodLink RL 106 yX12_sold ∈ xgt := wm_8 144 rfl rfl
set_option maxRecDepth 20000 in
theorem xw_1357 : Cond.instanceMethod yX11_easter ∈ xgt := wm_5 98 rfl rfl
set_option maxRecDepth 20000 in
theorem xw_1358 : Cond.selects yX11_easter.cls yX11_easter yX11_easter ∈ xgt := wm_5 99 rfl rfl
set_option maxRecDepth 20000 in
theorem xw_1359 : Cond.methodLink RL 107 yX11_easter ∈ xgt := wm_5 97 rfl rfl
set_option maxRecDepth 20000 in
theorem xw_1360 : Cond.instanceMethod yX12_easter ∈ xgt := wm_8 157 rfl rfl
set_option maxRecDepth 20000 in
theorem xw_1361 : Cond.selects yX12_easter.cls yX12_easter yX12_easter ∈ xgt := wm_8 158 rfl rfl
set_option maxRecDepth 20000 in
theorem xw_1362 : Cond.methodLink RL 110 yX12_easter ∈ xgt := wm_8 156 rfl rfl
set_option maxRecDepth 20000 in
theorem xw_1363 : Cond.instanceMethod yX11_hum ∈ xgt := wm_5 102 rfl rfl
set_option maxRecDepth 20000 in
theorem xw_1364 : Cond.selects yX11_hum.cls yX11_hum yX11_hum ∈ xgt := wm_5 103 rfl rfl
set_option maxRecDepth 20000 in
theorem xw_1365 : Cond.methodLink RL 111 yX11_hum ∈ xgt := wm_5 101 rfl rfl
set_option maxRecDepth 20000 in
theorem xw_1366 : Cond.instanceMethod yX12_hum ∈ xgt := wm_8 161 rfl rfl
set_option maxRecDepth 20000 in
theorem xw_1367 : Cond.selects yX12_hum.cls yX12_hum yX12_hum ∈ xgt := wm_8 162 rfl rfl
set_option maxRecDepth 20000 in
theorem xw_1368 : Cond.methodLink RL 114 yX12_hum ∈ xgt := wm_8 160 rfl rfl
set_option maxRecDepth 20000 in
theorem xw_1369 : Cond.instanceMethod yX11_strike ∈ xgt := wm_5 110 rfl rfl
set_option maxRecDepth 20000 in
theorem xw_1370 : Cond.selects yX11_strike.cls yX11_strike yX11_strike ∈ xgt := wm_5 111 rfl rfl
set_option maxRecDepth 20000 in
theorem xw_1371 : Cond.methodLink RL 115 yX11_strike ∈ xgt := wm_5 109 rfl rfl
set_option maxRecDepth 20000 in
theorem xw_1372 : Cond.instanceMethod yX12_strike ∈ xgt := wm_8 165 rfl rfl
set_option maxRecDepth 20000 in
theorem xw_1373 : Cond.selects yX12_strike.cls yX12_strike yX12_strike ∈ xgt := wm_8 166 rfl rfl
set_option maxRecDepth 20000 in
theorem xw_1374 : Cond.methodLink RL 118 yX12_strike ∈ xgt := wm_8 164 rfl rfl
set_option maxRecDepth 20000 in
theorem xw_1375 : Cond.instanceMethod yX11_known ∈ xgt := wm_5 114 rfl rfl
set_option maxRecDepth 20000 in
theorem xw_1376 : Cond.selects yX11_known.cls yX11_known yX11_known ∈ xgt := wm_5 115 rfl rfl
set_option maxRecDepth 20000 in
theorem xw_1377 : Cond.methodLink RL 119 yX11_known ∈ xgt := wm_5 113 rfl rfl
set_option maxRecDepth 20000 in
theorem xw_1378 : Cond.instanceMethod yX12_known ∈ xgt := wm_8 169 rfl rfl
set_option maxRecDepth 20000 in
theorem xw_1379 : Cond.selects yX12_known.cls yX12_known yX12_known ∈ xgt := wm_8 170 rfl rfl
set_option maxRecDepth 20000 in
theorem xw_1380 : Cond.methodLink RL 123 yX12_known ∈ xgt := wm_8 168 rfl rfl
set_option maxRecDepth 20000 in
theorem xw_1381 : Cond.methodLink RL 124 yX11_thieves ∈ xgt := wm_5 117 rfl rfl
set_option maxRecDepth 20000 in
theorem xw_1382 : Cond.methodLink RL 127 yX12_thieves ∈ xgt := wm_8 172 rfl rfl
set_option maxRecDepth 20000 in
theorem xw_1383 : Cond.instanceMethod yX11_odds ∈ xgt := wm_5 137 rfl rfl
set_option maxRecDepth 20000 in
theorem xw_1384 : Cond.selects yX11_odds.cls yX11_odds yX11_odds ∈ xgt := wm_5 138 rfl rfl
set_option maxRecDepth 20000 in
theorem xw_1385 : Cond.methodLink RL 128 yX11_odds ∈ xgt := wm_5 136 rfl rfl
set_option maxRecDepth 20000 in
theorem xw_1386 : Cond.instanceMethod yX12_odds ∈ xgt := wm_8 193 rfl rfl
set_option maxRecDepth 20000 in
theorem xw_1387 : Cond.selects yX12_odds.cls yX12_odds yX12_odds ∈ xgt := wm_8 194 rfl rfl
set_option maxRecDepth 20000 in
theorem xw_1388 : Cond.methodLink RL 131 yX12_odds ∈ xgt := wm_8 192 rfl rfl
set_option maxRecDepth 20000 in
theorem xw_1389 : Cond.instanceMethod yX11_gang ∈ xgt := wm_5 145 rfl rfl
set_option maxRecDepth 20000 in
theorem xw_1390 : Cond.selects yX11_gang.cls yX11_gang yX11_gang ∈ xgt := wm_5 146 rfl rfl
set_option maxRecDepth 20000 in
theorem xw_1391 : Cond.methodLink RL 132 yX11_gang ∈ xgt := wm_5 144 rfl rfl
set_option maxRecDepth 20000 in
theorem xw_1392 : Cond.instanceMethod yX12_gang ∈ xgt := wm_8 201 rfl rfl
set_option maxRecDepth 20000 in
theorem xw_1393 : Cond.selects yX12_gang.cls yX12_gang yX12_gang ∈ xgt := wm_8 202 rfl rfl
set_option maxRecDepth 20000 in
theorem xw_1394 : Cond.methodLink RL 135 yX12_gang ∈ xgt := wm_8 200 rfl rfl
set_option maxRecDepth 20000 in
theorem xw_1395 : Cond.instanceMethod yX11_round ∈ xgt := wm_5 153 rfl rfl
set_option maxRecDepth 20000 in
theorem xw_1396 : Cond.selects yX11_round.cls yX11_round yX11_round ∈ xgt := wm_5 154 rfl rfl
set_option maxRecDepth 20000 in
theorem xw_1397 : Cond.methodLink RL 136 yX11_round ∈ xgt := wm_5 152 rfl rfl
set_option maxRecDepth 20000 in
theorem xw_1398 : Cond.instanceMethod yX12_round ∈ xgt := wm_8 212 rfl rfl
set_option maxRecDepth 20000 in
theorem xw_1399 : Cond.selects yX12_round.cls yX12_round yX12_round ∈ xgt := wm_8 213 rfl rfl
set_option maxRecDepth 20000 in
theorem xw_1400 : Cond.methodLink RL 140 yX12_round ∈ xgt := wm_8 211 rfl rfl
set_option maxRecDepth 20000 in
theorem xw_1401 : Cond.instanceMethod yX11_entry ∈ xgt := wm_5 178 rfl rfl
set_option maxRecDepth 20000 in
theorem xw_1402 : Cond.selects yX11_entry.cls yX11_entry yX11_entry ∈ xgt := wm_5 179 rfl rfl
set_option maxRecDepth 20000 in
theorem xw_1403 : Cond.methodLink RL 141 yX11_entry ∈ xgt := wm_5 177 rfl rfl
set_option maxRecDepth 20000 in
theorem xw_1404 : Cond.instanceMethod yX12_entry ∈ xgt := wm_8 223 rfl rfl
set_option maxRecDepth 20000 in
theorem xw_1405 : Cond.selects yX12_entry.cls yX12_entry yX12_entry ∈ xgt := wm_8 224 rfl rfl
set_option maxRecDepth 20000 in
theorem xw_1406 : Cond.methodLink RL 144 yX12_entry ∈ xgt := wm_8 222 rfl rfl
set_option maxRecDepth 20000 in
theorem xw_1407 : Cond.instanceMethod yX11_run ∈ xgt := wm_5 182 rfl rfl
set_option maxRecDepth 20000 in
theorem xw_1408 : Cond.selects yX11_run.cls yX11_run yX11_run ∈ xgt := wm_5 183 rfl rfl
set_option maxRecDepth 20000 in
theorem xw_1409 : Cond.methodLink RL 145 yX11_run ∈ xgt := wm_5 181 rfl rfl
set_option maxRecDepth 20000 in
theorem xw_1410 : Cond.instanceMethod yX12_run ∈ xgt := wm_8 227 rfl rfl
set_option maxRecDepth 20000 in
theorem xw_1411 : Cond.selects yX12_run.cls yX12_run yX12_run ∈ xgt := wm_8 228 rfl rfl
set_option maxRecDepth 20000 in
theorem xw_1412 : Cond.methodLink RL 148 yX12_run ∈ xgt := wm_8 226 rfl rfl
set_option maxRecDepth 20000 in
theorem xw_1413 : Cond.instanceMethod yX11_pay ∈ xgt := wm_5 191 rfl rfl
set_option maxRecDepth 20000 in
theorem xw_1414 : Cond.selects yX11_pay.cls yX11_pay yX11_pay ∈ xgt := wm_5 192 rfl rfl
set_option maxRecDepth 20000 in
theorem xw_1415 : Cond.methodLink RL 149 yX11_pay ∈ xgt := wm_5 190 rfl rfl
set_option maxRecDepth 20000 in
theorem xw_1416 : Cond.instanceMethod yX12_pay ∈ xgt := wm_8 235 rfl rfl
set_option maxRecDepth 20000 in
theorem xw_1417 : Cond.selects yX12_pay.cls yX12_pay yX12_pay ∈ xgt := wm_8 236 rfl rfl
set_option maxRecDepth 20000 in
theorem xw_1418 : Cond.methodLink RL 152 yX12_pay ∈ xgt := wm_8 234 rfl rfl
set_option maxRecDepth 20000 in
theorem xw_1419 : Cond.instanceMethod yX11_whole ∈ xgt := wm_5 195 rfl rfl
set_option maxRecDepth 20000 in
theorem xw_1420 : Cond.selects yX11_whole.cls yX11_whole yX11_whole ∈ xgt := wm_5 196 rfl rfl
set_option maxRecDepth 20000 in
theorem xw_1421 : Cond.methodLink RL 153 yX11_whole ∈ xgt := wm_5 194 rfl rfl
set_option maxRecDepth 20000 in
theorem xw_1422 : Cond.instanceMethod yX12_whole ∈ xgt := wm_8 239 rfl rfl
set_option maxRecDepth 20000 in
theorem xw_1423 : Cond.selects yX12_whole.cls yX12_whole yX12_whole ∈ xgt := wm_9 0 rfl rfl
set_option maxRecDepth 20000 in
theorem xw_1424 : Cond.methodLink RL 157 yX12_whole ∈ xgt := wm_8 238 rfl rfl
set_option maxRecDepth 20000 in
theorem xw_1425 : Cond.instanceMethod yX11_keep ∈ xgt := wm_5 200 rfl rfl
set_option maxRecDepth 20000 in
theorem xw_1426 : Cond.selects yX11_keep.cls yX11_keep yX11_keep ∈ xgt := wm_5 201 rfl rfl
set_option maxRecDepth 20000 in
theorem xw_1427 : Cond.methodLink RL 158 yX11_keep ∈ xgt := wm_5 199 rfl rfl
set_option maxRecDepth 20000 in
theorem xw_1428 : Cond.instanceMethod yX12_keep ∈ xgt := wm_9 5 rfl rfl
set_option maxRecDepth 20000 in
theorem xw_1429 : Cond.selects yX12_keep.cls yX12_keep yX12_keep ∈ xgt := wm_9 6 rfl rfl
set_option maxRecDepth 20000 in
theorem xw_1430 : Cond.methodLink RL 161 yX12_keep ∈ xgt := wm_9 4 rfl rfl
set_option maxRecDepth 20000 in
theorem xw_1431 : Cond.instanceMethod yX11_back ∈ xgt := wm_5 208 rfl rfl
set_option maxRecDepth 20000 in
theorem xw_1432 : Cond.selects yX11_back.cls yX11_back yX11_back ∈ xgt := wm_5 209 rfl rfl
set_option maxRecDepth 20000 in
theorem xw_1433 : Cond.methodLink RL 162 yX11_back ∈ xgt := wm_5 207 rfl rfl
set_option maxRecDepth 20000 in
theorem xw_1434 : Cond.instanceMethod yX12_back ∈ xgt := wm_9 13 rfl rfl
set_option maxRecDepth 20000 in
theorem xw_1435 : Cond.selects yX12_back.cls yX12_back yX12_back ∈ xgt := wm_9 14 rfl rfl
set_option maxRecDepth 20000 in
theorem xw_1436 : Cond.methodLink RL 165 yX12_back ∈ xgt := wm_9 12 rfl rfl
set_option maxRecDepth 20000 in
theorem xw_1437 : Cond.instanceMethod yX11_count ∈ xgt := wm_5 212 rfl rfl
set_option maxRecDepth 20000 in
theorem xw_1438 : Cond.selects yX11_count.cls yX11_count yX11_count ∈ xgt := wm_5 213 rfl rfl
set_option maxRecDepth 20000 in
theorem xw_1439 : Cond.methodLink RL 166 yX11_count ∈ xgt := wm_5 211 rfl rfl
set_option maxRecDepth 20000 in
theorem xw_1440 : Cond.instanceMethod yX12_count ∈ xgt := wm_9 17 rfl rfl
set_option maxRecDepth 20000 in
theorem xw_1441 : Cond.selects yX12_count.cls yX12_count yX12_count ∈ xgt := wm_9 18 rfl rfl
set_option maxRecDepth 20000 in
theorem xw_1442 : Cond.methodLink RL 169 yX12_count ∈ xgt := wm_9 16 rfl rfl
end
section
theorem xcnz {α : Type} {a : α} {l : List α} {Q : α → Prop} (h : Q a) (t : ∀ q ∈ l, Q q) : ∀ q ∈ a :: l, Q q := List.forall_mem_cons.mpr ⟨h, t⟩
theorem xnlz {α : Type} {Q : α → Prop} : ∀ q ∈ ([] : List α), Q q := fun _ h => absurd h List.not_mem_nil
set_option maxRecDepth 20000 in
theorem xiw_X0_0 : u_lay RX0 TX0 0 ∈ xgt := (show Cond.laysFinal RX0 (TX0 0).1 (TX0 0).2.1 (TX0 0).2.2.1 ∈ xgt from wm_3 41 rfl rfl)
set_option maxRecDepth 20000 in
theorem xiw_X0_1 : u_lay RX0 TX0 1 ∈ xgt := (show Cond.laysFinal RX0 (TX0 1).1 (TX0 1).2.1 (TX0 1).2.2.1 ∈ xgt from wm_3 43 rfl rfl)
set_option maxRecDepth 20000 in
theorem xiw_X0_2 : u_lay RX0 TX0 2 ∈ xgt := (show Cond.laysFinal RX0 (TX0 2).1 (TX0 2).2.1 (TX0 2).2.2.1 ∈ xgt from wm_3 45 rfl rfl)
set_option maxRecDepth 20000 in
theorem xiw_X0_3 : u_lay RX0 TX0 3 ∈ xgt := (show Cond.laysFinal RX0 (TX0 3).1 (TX0 3).2.1 (TX0 3).2.2.1 ∈ xgt from wm_3 47 rfl rfl)
set_option maxRecDepth 20000 in
theorem xiw_X0_4 : u_lay RX0 TX0 4 ∈ xgt := (show Cond.laysFinal RX0 (TX0 4).1 (TX0 4).2.1 (TX0 4).2.2.1 ∈ xgt from wm_3 49 rfl rfl)
set_option maxRecDepth 20000 in
theorem xiw_X0_5 : u_lay RX0 TX0 5 ∈ xgt := (show Cond.laysFinal RX0 (TX0 5).1 (TX0 5).2.1 (TX0 5).2.2.1 ∈ xgt from wm_3 51 rfl rfl)
set_option maxRecDepth 20000 in
theorem xiw_X0_6 : u_lay RX0 TX0 6 ∈ xgt := (show Cond.lays RX0 (TX0 6).1 (TX0 6).2.1 (TX0 6).2.2.1 ∈ xgt from wm_3 53 rfl rfl)
set_option maxRecDepth 20000 in
theorem xiw_X0_7 : u_lay RX0 TX0 7 ∈ xgt := (show Cond.lays RX0 (TX0 7).1 (TX0 7).2.1 (TX0 7).2.2.1 ∈ xgt from wm_3 55 rfl rfl)
set_option maxRecDepth 20000 in
theorem xiw_X0_8 : u_lay RX0 TX0 8 ∈ xgt := (show Cond.lays RX0 (TX0 8).1 (TX0 8).2.1 (TX0 8).2.2.1 ∈ xgt from wm_3 57 rfl rfl)
set_option maxRecDepth 20000 in
theorem xiw_X0_9 : u_lay RX0 TX0 9 ∈ xgt := (show Cond.lays RX0 (TX0 9).1 (TX0 9).2.1 (TX0 9).2.2.1 ∈ xgt from wm_3 59 rfl rfl)
theorem xin_X0 : ∀ w ∈ u_ws RX0 TX0 10, w ∈ xgt := xcnz xiw_X0_0 <| xcnz xiw_X0_1 <| xcnz xiw_X0_2 <| xcnz xiw_X0_3 <| xcnz xiw_X0_4 <| xcnz xiw_X0_5 <| xcnz xiw_X0_6 <| xcnz xiw_X0_7 <| xcnz xiw_X0_8 <| xcnz xiw_X0_9 <| xnlz
set_option maxRecDepth 20000 in
theorem xiw_X1_0 : u_lay RX1 TX1 0 ∈ xgt := (show Cond.laysFinal RX1 (TX1 0).1 (TX1 0).2.1 (TX1 0).2.2.1 ∈ xgt from wm_2 212 rfl rfl)
set_option maxRecDepth 20000 in
theorem xiw_X1_1 : u_lay RX1 TX1 1 ∈ xgt := (show Cond.laysFinal RX1 (TX1 1).1 (TX1 1).2.1 (TX1 1).2.2.1 ∈ xgt from wm_2 214 rfl rfl)
set_option maxRecDepth 20000 in
theorem xiw_X1_2 : u_lay RX1 TX1 2 ∈ xgt := (show Cond.laysFinal RX1 (TX1 2).1 (TX1 2).2.1 (TX1 2).2.2.1 ∈ xgt from wm_2 216 rfl rfl)
set_option maxRecDepth 20000 in
theorem xiw_X1_3 : u_lay RX1 TX1 3 ∈ xgt := (show Cond.laysFinal RX1 (TX1 3).1 (TX1 3).2.1 (TX1 3).2.2.1 ∈ xgt from wm_2 218 rfl rfl)
set_option maxRecDepth 20000 in
theorem xiw_X1_4 : u_lay RX1 TX1 4 ∈ xgt := (show Cond.laysFinal RX1 (TX1 4).1 (TX1 4).2.1 (TX1 4).2.2.1 ∈ xgt from wm_2 220 rfl rfl)
set_option maxRecDepth 20000 in
theorem xiw_X1_5 : u_lay RX1 TX1 5 ∈ xgt := (show Cond.laysFinal RX1 (TX1 5).1 (TX1 5).2.1 (TX1 5).2.2.1 ∈ xgt from wm_2 222 rfl rfl)
set_option maxRecDepth 20000 in
theorem xiw_X1_6 : u_lay RX1 TX1 6 ∈ xgt := (show Cond.laysFinal RX1 (TX1 6).1 (TX1 6).2.1 (TX1 6).2.2.1 ∈ xgt from wm_2 224 rfl rfl)
set_option maxRecDepth 20000 in
theorem xiw_X1_7 : u_lay RX1 TX1 7 ∈ xgt := (show Cond.laysFinal RX1 (TX1 7).1 (TX1 7).2.1 (TX1 7).2.2.1 ∈ xgt from wm_2 226 rfl rfl)
set_option maxRecDepth 20000 in
theorem xiw_X1_8 : u_lay RX1 TX1 8 ∈ xgt := (show Cond.lays RX1 (TX1 8).1 (TX1 8).2.1 (TX1 8).2.2.1 ∈ xgt from wm_2 228 rfl rfl)
set_option maxRecDepth 20000 in
theorem xiw_X1_9 : u_lay RX1 TX1 9 ∈ xgt := (show Cond.lays RX1 (TX1 9).1 (TX1 9).2.1 (TX1 9).2.2.1 ∈ xgt from wm_2 230 rfl rfl)
set_option maxRecDepth 20000 in
theorem xiw_X1_10 : u_lay RX1 TX1 10 ∈ xgt := (show Cond.lays RX1 (TX1 10).1 (TX1 10).2.1 (TX1 10).2.2.1 ∈ xgt from wm_2 232 rfl rfl)
theorem xin_X1 : ∀ w ∈ u_ws RX1 TX1 11, w ∈ xgt := xcnz xiw_X1_0 <| xcnz xiw_X1_1 <| xcnz xiw_X1_2 <| xcnz xiw_X1_3 <| xcnz xiw_X1_4 <| xcnz xiw_X1_5 <| xcnz xiw_X1_6 <| xcnz xiw_X1_7 <| xcnz xiw_X1_8 <| xcnz xiw_X1_9 <| xcnz xiw_X1_10 <| xnlz
set_option maxRecDepth 20000 in
theorem xiw_X2_0 : u_lay RX2 TX2 0 ∈ xgt := (show Cond.laysFinal RX2 (TX2 0).1 (TX2 0).2.1 (TX2 0).2.2.1 ∈ xgt from wm_1 84 rfl rfl)
set_option maxRecDepth 20000 in
theorem xiw_X2_1 : u_lay RX2 TX2 1 ∈ xgt := (show Cond.laysFinal RX2 (TX2 1).1 (TX2 1).2.1 (TX2 1).2.2.1 ∈ xgt from wm_1 86 rfl rfl)
set_option maxRecDepth 20000 in
theorem xiw_X2_2 : u_lay RX2 TX2 2 ∈ xgt := (show Cond.laysFinal RX2 (TX2 2).1 (TX2 2).2.1 (TX2 2).2.2.1 ∈ xgt from wm_1 88 rfl rfl)
set_option maxRecDepth 20000 in
theorem xiw_X2_3 : u_lay RX2 TX2 3 ∈ xgt := (show Cond.laysFinal RX2 (TX2 3).1 (TX2 3).2.1 (TX2 3).2.2.1 ∈ xgt from wm_1 90 rfl rfl)
set_option maxRecDepth 20000 in
theorem xiw_X2_4 : u_lay RX2 TX2 4 ∈ xgt := (show Cond.lays RX2 (TX2 4).1 (TX2 4).2.1 (TX2 4).2.2.1 ∈ xgt from wm_1 92 rfl rfl)
set_option maxRecDepth 20000 in
theorem xiw_X2_5 : u_lay RX2 TX2 5 ∈ xgt := (show Cond.laysFinal RX2 (TX2 5).1 (TX2 5).2.1 (TX2 5).2.2.1 ∈ xgt from wm_1 94 rfl rfl)
set_option maxRecDepth 20000 in
theorem xiw_X2_6 : u_lay RX2 TX2 6 ∈ xgt := (show Cond.lays RX2 (TX2 6).1 (TX2 6).2.1 (TX2 6).2.2.1 ∈ xgt from wm_1 96 rfl rfl)
set_option maxRecDepth 20000 in
theorem xiw_X2_7 : u_lay RX2 TX2 7 ∈ xgt := (show Cond.lays RX2 (TX2 7).1 (TX2 7).2.1 (TX2 7).2.2.1 ∈ xgt from wm_1 98 rfl rfl)
set_option maxRecDepth 20000 in
theorem xiw_X2_8 : u_lay RX2 TX2 8 ∈ xgt := (show Cond.lays RX2 (TX2 8).1 (TX2 8).2.1 (TX2 8).2.2.1 ∈ xgt from wm_1 100 rfl rfl)
set_option maxRecDepth 20000 in
theorem xiw_X2_9 : u_lay RX2 TX2 9 ∈ xgt := (show Cond.lays RX2 (TX2 9).1 (TX2 9).2.1 (TX2 9).2.2.1 ∈ xgt from wm_1 102 rfl rfl)
theorem xin_X2 : ∀ w ∈ u_ws RX2 TX2 10, w ∈ xgt := xcnz xiw_X2_0 <| xcnz xiw_X2_1 <| xcnz xiw_X2_2 <| xcnz xiw_X2_3 <| xcnz xiw_X2_4 <| xcnz xiw_X2_5 <| xcnz xiw_X2_6 <| xcnz xiw_X2_7 <| xcnz xiw_X2_8 <| xcnz xiw_X2_9 <| xnlz
set_option maxRecDepth 20000 in
theorem xiw_X3_0 : u_lay RX3 TX3 0 ∈ xgt := (show Cond.laysFinal RX3 (TX3 0).1 (TX3 0).2.1 (TX3 0).2.2.1 ∈ xgt from wm_2 160 rfl rfl)
set_option maxRecDepth 20000 in
theorem xiw_X3_1 : u_lay RX3 TX3 1 ∈ xgt := (show Cond.lays RX3 (TX3 1).1 (TX3 1).2.1 (TX3 1).2.2.1 ∈ xgt from wm_2 162 rfl rfl)
theorem xin_X3 : ∀ w ∈ u_ws RX3 TX3 2, w ∈ xgt := xcnz xiw_X3_0 <| xcnz xiw_X3_1 <| xnlz
set_option maxRecDepth 20000 in
theorem xiw_X4_0 : u_lay RX4 TX4 0 ∈ xgt := (show Cond.laysFinal RX4 (TX4 0).1 (TX4 0).2.1 (TX4 0).2.2.1 ∈ xgt from wm_1 176 rfl rfl)
set_option maxRecDepth 20000 in
theorem xiw_X4_1 : u_lay RX4 TX4 1 ∈ xgt := (show Cond.laysFinal RX4 (TX4 1).1 (TX4 1).2.1 (TX4 1).2.2.1 ∈ xgt from wm_1 178 rfl rfl)
set_option maxRecDepth 20000 in
theorem xiw_X4_2 : u_lay RX4 TX4 2 ∈ xgt := (show Cond.laysFinal RX4 (TX4 2).1 (TX4 2).2.1 (TX4 2).2.2.1 ∈ xgt from wm_1 180 rfl rfl)
set_option maxRecDepth 20000 in
theorem xiw_X4_3 : u_lay RX4 TX4 3 ∈ xgt := (show Cond.laysFinal RX4 (TX4 3).1 (TX4 3).2.1 (TX4 3).2.2.1 ∈ xgt from wm_1 182 rfl rfl)
set_option maxRecDepth 20000 in
theorem xiw_X4_4 : u_lay RX4 TX4 4 ∈ xgt := (show Cond.laysFinal RX4 (TX4 4).1 (TX4 4).2.1 (TX4 4).2.2.1 ∈ xgt from wm_1 184 rfl rfl)
set_option maxRecDepth 20000 in
theorem xiw_X4_5 : u_lay RX4 TX4 5 ∈ xgt := (show Cond.laysFinal RX4 (TX4 5).1 (TX4 5).2.1 (TX4 5).2.2.1 ∈ xgt from wm_1 186 rfl rfl)
set_option maxRecDepth 20000 in
theorem xiw_X4_6 : u_lay RX4 TX4 6 ∈ xgt := (show Cond.laysFinal RX4 (TX4 6).1 (TX4 6).2.1 (TX4 6).2.2.1 ∈ xgt from wm_1 188 rfl rfl)
set_option maxRecDepth 20000 in
theorem xiw_X4_7 : u_lay RX4 TX4 7 ∈ xgt := (show Cond.laysFinal RX4 (TX4 7).1 (TX4 7).2.1 (TX4 7).2.2.1 ∈ xgt from wm_1 190 rfl rfl)
set_option maxRecDepth 20000 in
theorem xiw_X4_8 : u_lay RX4 TX4 8 ∈ xgt := (show Cond.laysFinal RX4 (TX4 8).1 (TX4 8).2.1 (TX4 8).2.2.1 ∈ xgt from wm_1 192 rfl rfl)
set_option maxRecDepth 20000 in
theorem xiw_X4_9 : u_lay RX4 TX4 9 ∈ xgt := (show Cond.laysFinal RX4 (TX4 9).1 (TX4 9).2.1 (TX4 9).2.2.1 ∈ xgt from wm_1 194 rfl rfl)
set_option maxRecDepth 20000 in
theorem xiw_X4_10 : u_lay RX4 TX4 10 ∈ xgt := (show Cond.laysFinal RX4 (TX4 10).1 (TX4 10).2.1 (TX4 10).2.2.1 ∈ xgt from wm_1 196 rfl rfl)
set_option maxRecDepth 20000 in
theorem xiw_X4_11 : u_lay RX4 TX4 11 ∈ xgt := (show Cond.laysFinal RX4 (TX4 11).1 (TX4 11).2.1 (TX4 11).2.2.1 ∈ xgt from wm_1 198 rfl rfl)
set_option maxRecDepth 20000 in
theorem xiw_X4_12 : u_lay RX4 TX4 12 ∈ xgt := (show Cond.laysFinal RX4 (TX4 12).1 (TX4 12).2.1 (TX4 12).2.2.1 ∈ xgt from wm_1 200 rfl rfl)
set_option maxRecDepth 20000 in
theorem xiw_X4_13 : u_lay RX4 TX4 13 ∈ xgt := (show Cond.laysFinal RX4 (TX4 13).1 (TX4 13).2.1 (TX4 13).2.2.1 ∈ xgt from wm_1 202 rfl rfl)
set_option maxRecDepth 20000 in
theorem xiw_X4_14 : u_lay RX4 TX4 14 ∈ xgt := (show Cond.laysFinal RX4 (TX4 14).1 (TX4 14).2.1 (TX4 14).2.2.1 ∈ xgt from wm_1 204 rfl rfl)
set_option maxRecDepth 20000 in
theorem xiw_X4_15 : u_lay RX4 TX4 15 ∈ xgt := (show Cond.laysFinal RX4 (TX4 15).1 (TX4 15).2.1 (TX4 15).2.2.1 ∈ xgt from wm_1 206 rfl rfl)
set_option maxRecDepth 20000 in
theorem xiw_X4_16 : u_lay RX4 TX4 16 ∈ xgt := (show Cond.lays RX4 (TX4 16).1 (TX4 16).2.1 (TX4 16).2.2.1 ∈ xgt from wm_1 208 rfl rfl)
set_option maxRecDepth 20000 in
theorem xiw_X4_17 : u_lay RX4 TX4 17 ∈ xgt := (show Cond.lays RX4 (TX4 17).1 (TX4 17).2.1 (TX4 17).2.2.1 ∈ xgt from wm_1 210 rfl rfl)
set_option maxRecDepth 20000 in
theorem xiw_X4_18 : u_lay RX4 TX4 18 ∈ xgt := (show Cond.lays RX4 (TX4 18).1 (TX4 18).2.1 (TX4 18).2.2.1 ∈ xgt from wm_1 212 rfl rfl)
theorem xin_X4 : ∀ w ∈ u_ws RX4 TX4 19, w ∈ xgt := xcnz xiw_X4_0 <| xcnz xiw_X4_1 <| xcnz xiw_X4_2 <| xcnz xiw_X4_3 <| xcnz xiw_X4_4 <| xcnz xiw_X4_5 <| xcnz xiw_X4_6 <| xcnz xiw_X4_7 <| xcnz xiw_X4_8 <| xcnz xiw_X4_9 <| xcnz xiw_X4_10 <| xcnz xiw_X4_11 <| xcnz xiw_X4_12 <| xcnz xiw_X4_13 <| xcnz xiw_X4_14 <| xcnz xiw_X4_15 <| xcnz xiw_X4_16 <| xcnz xiw_X4_17 <| xcnz xiw_X4_18 <| xnlz
set_option maxRecDepth 20000 in
theorem xiw_X5_0 : u_lay RX5 TX5 0 ∈ xgt := (show Cond.laysFinal RX5 (TX5 0).1 (TX5 0).2.1 (TX5 0).2.2.1 ∈ xgt from wm_2 177 rfl rfl)
set_option maxRecDepth 20000 in
theorem xiw_X5_1 : u_lay RX5 TX5 1 ∈ xgt := (show Cond.laysFinal RX5 (TX5 1).1 (TX5 1).2.1 (TX5 1).2.2.1 ∈ xgt from wm_2 179 rfl rfl)
set_option maxRecDepth 20000 in
theorem xiw_X5_2 : u_lay RX5 TX5 2 ∈ xgt := (show Cond.laysFinal RX5 (TX5 2).1 (TX5 2).2.1 (TX5 2).2.2.1 ∈ xgt from wm_2 181 rfl rfl)
set_option maxRecDepth 20000 in
theorem xiw_X5_3 : u_lay RX5 TX5 3 ∈ xgt := (show Cond.laysFinal RX5 (TX5 3).1 (TX5 3).2.1 (TX5 3).2.2.1 ∈ xgt from wm_2 183 rfl rfl)
set_option maxRecDepth 20000 in
theorem xiw_X5_4 : u_lay RX5 TX5 4 ∈ xgt := (show Cond.lays RX5 (TX5 4).1 (TX5 4).2.1 (TX5 4).2.2.1 ∈ xgt from wm_2 185 rfl rfl)
set_option maxRecDepth 20000 in
theorem xiw_X5_5 : u_lay RX5 TX5 5 ∈ xgt := (show Cond.lays RX5 (TX5 5).1 (TX5 5).2.1 (TX5 5).2.2.1 ∈ xgt from wm_2 187 rfl rfl)
theorem xin_X5 : ∀ w ∈ u_ws RX5 TX5 6, w ∈ xgt := xcnz xiw_X5_0 <| xcnz xiw_X5_1 <| xcnz xiw_X5_2 <| xcnz xiw_X5_3 <| xcnz xiw_X5_4 <| xcnz xiw_X5_5 <| xnlz
set_option maxRecDepth 20000 in
theorem xiw_X6_0 : u_lay RX6 TX6 0 ∈ xgt := (show Cond.laysFinal RX6 (TX6 0).1 (TX6 0).2.1 (TX6 0).2.2.1 ∈ xgt from wm_1 56 rfl rfl)
set_option maxRecDepth 20000 in
theorem xiw_X6_1 : u_lay RX6 TX6 1 ∈ xgt := (show Cond.lays RX6 (TX6 1).1 (TX6 1).2.1 (TX6 1).2.2.1 ∈ xgt from wm_1 58 rfl rfl)
theorem xin_X6 : ∀ w ∈ u_ws RX6 TX6 2, w ∈ xgt := xcnz xiw_X6_0 <| xcnz xiw_X6_1 <| xnlz
set_option maxRecDepth 20000 in
theorem xiw_X7_0 : u_lay RX7 TX7 0 ∈ xgt := (show Cond.laysFinal RX7 (TX7 0).1 (TX7 0).2.1 (TX7 0).2.2.1 ∈ xgt from wm_3 10 rfl rfl)
set_option maxRecDepth 20000 in
theorem xiw_X7_1 : u_lay RX7 TX7 1 ∈ xgt := (show Cond.laysFinal RX7 (TX7 1).1 (TX7 1).2.1 (TX7 1).2.2.1 ∈ xgt from wm_3 12 rfl rfl)
set_option maxRecDepth 20000 in
theorem xiw_X7_2 : u_lay RX7 TX7 2 ∈ xgt := (show Cond.laysFinal RX7 (TX7 2).1 (TX7 2).2.1 (TX7 2).2.2.1 ∈ xgt from wm_3 14 rfl rfl)
set_option maxRecDepth 20000 in
theorem xiw_X7_3 : u_lay RX7 TX7 3 ∈ xgt := (show Cond.laysFinal RX7 (TX7 3).1 (TX7 3).2.1 (TX7 3).2.2.1 ∈ xgt from wm_3 16 rfl rfl)
set_option maxRecDepth 20000 in
theorem xiw_X7_4 : u_lay RX7 TX7 4 ∈ xgt := (show Cond.laysFinal RX7 (TX7 4).1 (TX7 4).2.1 (TX7 4).2.2.1 ∈ xgt from wm_3 18 rfl rfl)
set_option maxRecDepth 20000 in
theorem xiw_X7_5 : u_lay RX7 TX7 5 ∈ xgt := (show Cond.laysFinal RX7 (TX7 5).1 (TX7 5).2.1 (TX7 5).2.2.1 ∈ xgt from wm_3 20 rfl rfl)
theorem xin_X7 : ∀ w ∈ u_ws RX7 TX7 6, w ∈ xgt := xcnz xiw_X7_0 <| xcnz xiw_X7_1 <| xcnz xiw_X7_2 <| xcnz xiw_X7_3 <| xcnz xiw_X7_4 <| xcnz xiw_X7_5 <| xnlz
set_option maxRecDepth 20000 in
theorem xiw_X8_0 : u_lay RX8 TX8 0 ∈ xgt := (show Cond.laysFinal RX8 (TX8 0).1 (TX8 0).2.1 (TX8 0).2.2.1 ∈ xgt from wm_2 80 rfl rfl)
set_option maxRecDepth 20000 in
theorem xiw_X8_1 : u_lay RX8 TX8 1 ∈ xgt := (show Cond.laysFinal RX8 (TX8 1).1 (TX8 1).2.1 (TX8 1).2.2.1 ∈ xgt from wm_2 82 rfl rfl)
set_option maxRecDepth 20000 in
theorem xiw_X8_2 : u_lay RX8 TX8 2 ∈ xgt := (show Cond.lays RX8 (TX8 2).1 (TX8 2).2.1 (TX8 2).2.2.1 ∈ xgt from wm_2 84 rfl rfl)
set_option maxRecDepth 20000 in
theorem xiw_X8_3 : u_lay RX8 TX8 3 ∈ xgt := (show Cond.lays RX8 (TX8 3).1 (TX8 3).2.1 (TX8 3).2.2.1 ∈ xgt from wm_2 86 rfl rfl)
theorem xin_X8 : ∀ w ∈ u_ws RX8 TX8 4, w ∈ xgt := xcnz xiw_X8_0 <| xcnz xiw_X8_1 <| xcnz xiw_X8_2 <| xcnz xiw_X8_3 <| xnlz
set_option maxRecDepth 20000 in
theorem xiw_X9_0 : u_lay RX9 TX9 0 ∈ xgt := (show Cond.laysFinal RX9 (TX9 0).1 (TX9 0).2.1 (TX9 0).2.2.1 ∈ xgt from wm_2 52 rfl rfl)
set_option maxRecDepth 20000 in
theorem xiw_X9_1 : u_lay RX9 TX9 1 ∈ xgt := (show Cond.laysFinal RX9 (TX9 1).1 (TX9 1).2.1 (TX9 1).2.2.1 ∈ xgt from wm_2 54 rfl rfl)
set_option maxRecDepth 20000 in
theorem xiw_X9_2 : u_lay RX9 TX9 2 ∈ xgt := (show Cond.lays RX9 (TX9 2).1 (TX9 2).2.1 (TX9 2).2.2.1 ∈ xgt from wm_2 56 rfl rfl)
set_option maxRecDepth 20000 in
theorem xiw_X9_3 : u_lay RX9 TX9 3 ∈ xgt := (show Cond.lays RX9 (TX9 3).1 (TX9 3).2.1 (TX9 3).2.2.1 ∈ xgt from wm_2 58 rfl rfl)
set_option maxRecDepth 20000 in
theorem xiw_X9_4 : u_lay RX9 TX9 4 ∈ xgt := (show Cond.lays RX9 (TX9 4).1 (TX9 4).2.1 (TX9 4).2.2.1 ∈ xgt from wm_2 60 rfl rfl)
set_option maxRecDepth 20000 in
theorem xiw_X9_5 : u_lay RX9 TX9 5 ∈ xgt := (show Cond.lays RX9 (TX9 5).1 (TX9 5).2.1 (TX9 5).2.2.1 ∈ xgt from wm_2 62 rfl rfl)
set_option maxRecDepth 20000 in
theorem xiw_X9_6 : u_lay RX9 TX9 6 ∈ xgt := (show Cond.lays RX9 (TX9 6).1 (TX9 6).2.1 (TX9 6).2.2.1 ∈ xgt from wm_2 64 rfl rfl)
set_option maxRecDepth 20000 in
theorem xiw_X9_7 : u_lay RX9 TX9 7 ∈ xgt := (show Cond.lays RX9 (TX9 7).1 (TX9 7).2.1 (TX9 7).2.2.1 ∈ xgt from wm_2 66 rfl rfl)
set_option maxRecDepth 20000 in
theorem xiw_X9_8 : u_lay RX9 TX9 8 ∈ xgt := (show Cond.lays RX9 (TX9 8).1 (TX9 8).2.1 (TX9 8).2.2.1 ∈ xgt from wm_2 68 rfl rfl)
theorem xin_X9 : ∀ w ∈ u_ws RX9 TX9 9, w ∈ xgt := xcnz xiw_X9_0 <| xcnz xiw_X9_1 <| xcnz xiw_X9_2 <| xcnz xiw_X9_3 <| xcnz xiw_X9_4 <| xcnz xiw_X9_5 <| xcnz xiw_X9_6 <| xcnz xiw_X9_7 <| xcnz xiw_X9_8 <| xnlz
set_option maxRecDepth 20000 in
theorem xiw_X10_0 : u_lay RX10 TX10 0 ∈ xgt := (show Cond.laysFinal RX10 (TX10 0).1 (TX10 0).2.1 (TX10 0).2.2.1 ∈ xgt from wm_2 124 rfl rfl)
set_option maxRecDepth 20000 in
theorem xiw_X10_1 : u_lay RX10 TX10 1 ∈ xgt := (show Cond.laysFinal RX10 (TX10 1).1 (TX10 1).2.1 (TX10 1).2.2.1 ∈ xgt from wm_2 126 rfl rfl)
set_option maxRecDepth 20000 in
theorem xiw_X10_2 : u_lay RX10 TX10 2 ∈ xgt := (show Cond.laysFinal RX10 (TX10 2).1 (TX10 2).2.1 (TX10 2).2.2.1 ∈ xgt from wm_2 128 rfl rfl)
set_option maxRecDepth 20000 in
theorem xiw_X10_3 : u_lay RX10 TX10 3 ∈ xgt := (show Cond.laysFinal RX10 (TX10 3).1 (TX10 3).2.1 (TX10 3).2.2.1 ∈ xgt from wm_2 130 rfl rfl)
set_option maxRecDepth 20000 in
theorem xiw_X10_4 : u_lay RX10 TX10 4 ∈ xgt := (show Cond.laysFinal RX10 (TX10 4).1 (TX10 4).2.1 (TX10 4).2.2.1 ∈ xgt from wm_2 132 rfl rfl)
set_option maxRecDepth 20000 in
theorem xiw_X10_5 : u_lay RX10 TX10 5 ∈ xgt := (show Cond.laysFinal RX10 (TX10 5).1 (TX10 5).2.1 (TX10 5).2.2.1 ∈ xgt from wm_2 134 rfl rfl)
set_option maxRecDepth 20000 in
theorem xiw_X10_6 : u_lay RX10 TX10 6 ∈ xgt := (show Cond.lays RX10 (TX10 6).1 (TX10 6).2.1 (TX10 6).2.2.1 ∈ xgt from wm_2 136 rfl rfl)
set_option maxRecDepth 20000 in
theorem xiw_X10_7 : u_lay RX10 TX10 7 ∈ xgt := (show Cond.lays RX10 (TX10 7).1 (TX10 7).2.1 (TX10 7).2.2.1 ∈ xgt from wm_2 138 rfl rfl)
set_option maxRecDepth 20000 in
theorem xiw_X10_8 : u_lay RX10 TX10 8 ∈ xgt := (show Cond.lays RX10 (TX10 8).1 (TX10 8).2.1 (TX10 8).2.2.1 ∈ xgt from wm_2 140 rfl rfl)
set_option maxRecDepth 20000 in
theorem xiw_X10_9 : u_lay RX10 TX10 9 ∈ xgt := (show Cond.lays RX10 (TX10 9).1 (TX10 9).2.1 (TX10 9).2.2.1 ∈ xgt from wm_2 142 rfl rfl)
set_option maxRecDepth 20000 in
theorem xiw_X10_10 : u_lay RX10 TX10 10 ∈ xgt := (show Cond.lays RX10 (TX10 10).1 (TX10 10).2.1 (TX10 10).2.2.1 ∈ xgt from wm_2 144 rfl rfl)
set_option maxRecDepth 20000 in
theorem xiw_X10_11 : u_lay RX10 TX10 11 ∈ xgt := (show Cond.lays RX10 (TX10 11).1 (TX10 11).2.1 (TX10 11).2.2.1 ∈ xgt from wm_2 146 rfl rfl)
set_option maxRecDepth 20000 in
theorem xiw_X10_12 : u_lay RX10 TX10 12 ∈ xgt := (show Cond.lays RX10 (TX10 12).1 (TX10 12).2.1 (TX10 12).2.2.1 ∈ xgt from wm_2 148 rfl rfl)
theorem xin_X10 : ∀ w ∈ u_ws RX10 TX10 13, w ∈ xgt := xcnz xiw_X10_0 <| xcnz xiw_X10_1 <| xcnz xiw_X10_2 <| xcnz xiw_X10_3 <| xcnz xiw_X10_4 <| xcnz xiw_X10_5 <| xcnz xiw_X10_6 <| xcnz xiw_X10_7 <| xcnz xiw_X10_8 <| xcnz xiw_X10_9 <| xcnz xiw_X10_10 <| xcnz xiw_X10_11 <| xcnz xiw_X10_12 <| xnlz
set_option maxRecDepth 20000 in
theorem xiw_X11_0 : u_lay RX11 TX11 0 ∈ xgt := (show Cond.laysFinal RX11 (TX11 0).1 (TX11 0).2.1 (TX11 0).2.2.1 ∈ xgt from wm_3 91 rfl rfl)
set_option maxRecDepth 20000 in
theorem xiw_X11_1 : u_lay RX11 TX11 1 ∈ xgt := (show Cond.laysFinal RX11 (TX11 1).1 (TX11 1).2.1 (TX11 1).2.2.1 ∈ xgt from wm_3 93 rfl rfl)
set_option maxRecDepth 20000 in
theorem xiw_X11_2 : u_lay RX11 TX11 2 ∈ xgt := (show Cond.laysFinal RX11 (TX11 2).1 (TX11 2).2.1 (TX11 2).2.2.1 ∈ xgt from wm_3 95 rfl rfl)
set_option maxRecDepth 20000 in
theorem xiw_X11_3 : u_lay RX11 TX11 3 ∈ xgt := (show Cond.laysFinal RX11 (TX11 3).1 (TX11 3).2.1 (TX11 3).2.2.1 ∈ xgt from wm_3 97 rfl rfl)
set_option maxRecDepth 20000 in
theorem xiw_X11_4 : u_lay RX11 TX11 4 ∈ xgt := (show Cond.laysFinal RX11 (TX11 4).1 (TX11 4).2.1 (TX11 4).2.2.1 ∈ xgt from wm_3 99 rfl rfl)
set_option maxRecDepth 20000 in
theorem xiw_X11_5 : u_lay RX11 TX11 5 ∈ xgt := (show Cond.laysFinal RX11 (TX11 5).1 (TX11 5).2.1 (TX11 5).2.2.1 ∈ xgt from wm_3 101 rfl rfl)
set_option maxRecDepth 20000 in
theorem xiw_X11_6 : u_lay RX11 TX11 6 ∈ xgt := (show Cond.laysFinal RX11 (TX11 6).1 (TX11 6).2.1 (TX11 6).2.2.1 ∈ xgt from wm_3 103 rfl rfl)
set_option maxRecDepth 20000 in
theorem xiw_X11_7 : u_lay RX11 TX11 7 ∈ xgt := (show Cond.laysFinal RX11 (TX11 7).1 (TX11 7).2.1 (TX11 7).2.2.1 ∈ xgt from wm_3 105 rfl rfl)
set_option maxRecDepth 20000 in
theorem xiw_X11_8 : u_lay RX11 TX11 8 ∈ xgt := (show Cond.laysFinal RX11 (TX11 8).1 (TX11 8).2.1 (TX11 8).2.2.1 ∈ xgt from wm_3 107 rfl rfl)
set_option maxRecDepth 20000 in
theorem xiw_X11_9 : u_lay RX11 TX11 9 ∈ xgt := (show Cond.laysFinal RX11 (TX11 9).1 (TX11 9).2.1 (TX11 9).2.2.1 ∈ xgt from wm_3 109 rfl rfl)
set_option maxRecDepth 20000 in
theorem xiw_X11_10 : u_lay RX11 TX11 10 ∈ xgt := (show Cond.laysFinal RX11 (TX11 10).1 (TX11 10).2.1 (TX11 10).2.2.1 ∈ xgt from wm_3 111 rfl rfl)
set_option maxRecDepth 20000 in
theorem xiw_X11_11 : u_lay RX11 TX11 11 ∈ xgt := (show Cond.lays RX11 (TX11 11).1 (TX11 11).2.1 (TX11 11).2.2.1 ∈ xgt from wm_3 113 rfl rfl)
set_option maxRecDepth 20000 in
theorem xiw_X11_12 : u_lay RX11 TX11 12 ∈ xgt := (show Cond.lays RX11 (TX11 12).1 (TX11 12).2.1 (TX11 12).2.2.1 ∈ xgt from wm_3 115 rfl rfl)
set_option maxRecDepth 20000 in
theorem xiw_X11_13 : u_lay RX11 TX11 13 ∈ xgt := (show Cond.lays RX11 (TX11 13).1 (TX11 13).2.1 (TX11 13).2.2.1 ∈ xgt from wm_3 117 rfl rfl)
set_option maxRecDepth 20000 in
theorem xiw_X11_14 : u_lay RX11 TX11 14 ∈ xgt := (show Cond.lays RX11 (TX11 14).1 (TX11 14).2.1 (TX11 14).2.2.1 ∈ xgt from wm_3 119 rfl rfl)
theorem xin_X11 : ∀ w ∈ u_ws RX11 TX11 15, w ∈ xgt := xcnz xiw_X11_0 <| xcnz xiw_X11_1 <| xcnz xiw_X11_2 <| xcnz xiw_X11_3 <| xcnz xiw_X11_4 <| xcnz xiw_X11_5 <| xcnz xiw_X11_6 <| xcnz xiw_X11_7 <| xcnz xiw_X11_8 <| xcnz xiw_X11_9 <| xcnz xiw_X11_10 <| xcnz xiw_X11_11 <| xcnz xiw_X11_12 <| xcnz xiw_X11_13 <| xcnz xiw_X11_14 <| xnlz
set_option maxRecDepth 20000 in
theorem xiw_X12_0 : u_lay RX12 TX12 0 ∈ xgt := (show Cond.lays RX12 (TX12 0).1 (TX12 0).2.1 (TX12 0).2.2.1 ∈ xgt from wm_6 149 rfl rfl)
set_option maxRecDepth 20000 in
theorem xiw_X12_1 : u_lay RX12 TX12 1 ∈ xgt := (show Cond.laysFinal RX12 (TX12 1).1 (TX12 1).2.1 (TX12 1).2.2.1 ∈ xgt from wm_6 151 rfl rfl)
set_option maxRecDepth 20000 in
theorem xiw_X12_2 : u_lay RX12 TX12 2 ∈ xgt := (show Cond.lays RX12 (TX12 2).1 (TX12 2).2.1 (TX12 2).2.2.1 ∈ xgt from wm_6 153 rfl rfl)
set_option maxRecDepth 20000 in
theorem xiw_X12_3 : u_lay RX12 TX12 3 ∈ xgt := (show Cond.laysFinal RX12 (TX12 3).1 (TX12 3).2.1 (TX12 3).2.2.1 ∈ xgt from wm_6 155 rfl rfl)
set_option maxRecDepth 20000 in
theorem xiw_X12_4 : u_lay RX12 TX12 4 ∈ xgt := (show Cond.laysFinal RX12 (TX12 4).1 (TX12 4).2.1 (TX12 4).2.2.1 ∈ xgt from wm_6 157 rfl rfl)
set_option maxRecDepth 20000 in
theorem xiw_X12_5 : u_lay RX12 TX12 5 ∈ xgt := (show Cond.laysFinal RX12 (TX12 5).1 (TX12 5).2.1 (TX12 5).2.2.1 ∈ xgt from wm_6 159 rfl rfl)
set_option maxRecDepth 20000 in
theorem xiw_X12_6 : u_lay RX12 TX12 6 ∈ xgt := (show Cond.laysFinal RX12 (TX12 6).1 (TX12 6).2.1 (TX12 6).2.2.1 ∈ xgt from wm_6 161 rfl rfl)
set_option maxRecDepth 20000 in
theorem xiw_X12_7 : u_lay RX12 TX12 7 ∈ xgt := (show Cond.laysFinal RX12 (TX12 7).1 (TX12 7).2.1 (TX12 7).2.2.1 ∈ xgt from wm_6 163 rfl rfl)
set_option maxRecDepth 20000 in
theorem xiw_X12_8 : u_lay RX12 TX12 8 ∈ xgt := (show Cond.laysFinal RX12 (TX12 8).1 (TX12 8).2.1 (TX12 8).2.2.1 ∈ xgt from wm_6 165 rfl rfl)
set_option maxRecDepth 20000 in
theorem xiw_X12_9 : u_lay RX12 TX12 9 ∈ xgt := (show Cond.laysFinal RX12 (TX12 9).1 (TX12 9).2.1 (TX12 9).2.2.1 ∈ xgt from wm_6 167 rfl rfl)
set_option maxRecDepth 20000 in
theorem xiw_X12_10 : u_lay RX12 TX12 10 ∈ xgt := (show Cond.laysFinal RX12 (TX12 10).1 (TX12 10).2.1 (TX12 10).2.2.1 ∈ xgt from wm_6 169 rfl rfl)
set_option maxRecDepth 20000 in
theorem xiw_X12_11 : u_lay RX12 TX12 11 ∈ xgt := (show Cond.laysFinal RX12 (TX12 11).1 (TX12 11).2.1 (TX12 11).2.2.1 ∈ xgt from wm_6 171 rfl rfl)
set_option maxRecDepth 20000 in
theorem xiw_X12_12 : u_lay RX12 TX12 12 ∈ xgt := (show Cond.laysFinal RX12 (TX12 12).1 (TX12 12).2.1 (TX12 12).2.2.1 ∈ xgt from wm_6 173 rfl rfl)
set_option maxRecDepth 20000 in
theorem xiw_X12_13 : u_lay RX12 TX12 13 ∈ xgt := (show Cond.laysFinal RX12 (TX12 13).1 (TX12 13).2.1 (TX12 13).2.2.1 ∈ xgt from wm_6 175 rfl rfl)
set_option maxRecDepth 20000 in
theorem xiw_X12_14 : u_lay RX12 TX12 14 ∈ xgt := (show Cond.laysFinal RX12 (TX12 14).1 (TX12 14).2.1 (TX12 14).2.2.1 ∈ xgt from wm_6 177 rfl rfl)
set_option maxRecDepth 20000 in
theorem xiw_X12_15 : u_lay RX12 TX12 15 ∈ xgt := (show Cond.laysFinal RX12 (TX12 15).1 (TX12 15).2.1 (TX12 15).2.2.1 ∈ xgt from wm_6 179 rfl rfl)
set_option maxRecDepth 20000 in
theorem xiw_X12_16 : u_lay RX12 TX12 16 ∈ xgt := (show Cond.laysFinal RX12 (TX12 16).1 (TX12 16).2.1 (TX12 16).2.2.1 ∈ xgt from wm_6 181 rfl rfl)
set_option maxRecDepth 20000 in
theorem xiw_X12_17 : u_lay RX12 TX12 17 ∈ xgt := (show Cond.laysFinal RX12 (TX12 17).1 (TX12 17).2.1 (TX12 17).2.2.1 ∈ xgt from wm_6 183 rfl rfl)
set_option maxRecDepth 20000 in
theorem xiw_X12_18 : u_lay RX12 TX12 18 ∈ xgt := (show Cond.laysFinal RX12 (TX12 18).1 (TX12 18).2.1 (TX12 18).2.2.1 ∈ xgt from wm_6 185 rfl rfl)
set_option maxRecDepth 20000 in
theorem xiw_X12_19 : u_lay RX12 TX12 19 ∈ xgt := (show Cond.laysFinal RX12 (TX12 19).1 (TX12 19).2.1 (TX12 19).2.2.1 ∈ xgt from wm_6 187 rfl rfl)
set_option maxRecDepth 20000 in
theorem xiw_X12_20 : u_lay RX12 TX12 20 ∈ xgt := (show Cond.laysFinal RX12 (TX12 20).1 (TX12 20).2.1 (TX12 20).2.2.1 ∈ xgt from wm_6 189 rfl rfl)
set_option maxRecDepth 20000 in
theorem xiw_X12_21 : u_lay RX12 TX12 21 ∈ xgt := (show Cond.laysFinal RX12 (TX12 21).1 (TX12 21).2.1 (TX12 21).2.2.1 ∈ xgt from wm_6 191 rfl rfl)
set_option maxRecDepth 20000 in
theorem xiw_X12_22 : u_lay RX12 TX12 22 ∈ xgt := (show Cond.laysFinal RX12 (TX12 22).1 (TX12 22).2.1 (TX12 22).2.2.1 ∈ xgt from wm_6 193 rfl rfl)
set_option maxRecDepth 20000 in
theorem xiw_X12_23 : u_lay RX12 TX12 23 ∈ xgt := (show Cond.laysFinal RX12 (TX12 23).1 (TX12 23).2.1 (TX12 23).2.2.1 ∈ xgt from wm_6 195 rfl rfl)
set_option maxRecDepth 20000 in
theorem xiw_X12_24 : u_lay RX12 TX12 24 ∈ xgt := (show Cond.lays RX12 (TX12 24).1 (TX12 24).2.1 (TX12 24).2.2.1 ∈ xgt from wm_6 197 rfl rfl)
set_option maxRecDepth 20000 in
theorem xiw_X12_25 : u_lay RX12 TX12 25 ∈ xgt := (show Cond.lays RX12 (TX12 25).1 (TX12 25).2.1 (TX12 25).2.2.1 ∈ xgt from wm_6 199 rfl rfl)
set_option maxRecDepth 20000 in
theorem xiw_X12_26 : u_lay RX12 TX12 26 ∈ xgt := (show Cond.lays RX12 (TX12 26).1 (TX12 26).2.1 (TX12 26).2.2.1 ∈ xgt from wm_6 201 rfl rfl)
set_option maxRecDepth 20000 in
theorem xiw_X12_27 : u_lay RX12 TX12 27 ∈ xgt := (show Cond.lays RX12 (TX12 27).1 (TX12 27).2.1 (TX12 27).2.2.1 ∈ xgt from wm_6 203 rfl rfl)
set_option maxRecDepth 20000 in
theorem xiw_X12_28 : u_lay RX12 TX12 28 ∈ xgt := (show Cond.lays RX12 (TX12 28).1 (TX12 28).2.1 (TX12 28).2.2.1 ∈ xgt from wm_6 205 rfl rfl)
set_option maxRecDepth 20000 in
theorem xiw_X12_29 : u_lay RX12 TX12 29 ∈ xgt := (show Cond.lays RX12 (TX12 29).1 (TX12 29).2.1 (TX12 29).2.2.1 ∈ xgt from wm_6 207 rfl rfl)
set_option maxRecDepth 20000 in
theorem xiw_X12_30 : u_lay RX12 TX12 30 ∈ xgt := (show Cond.lays RX12 (TX12 30).1 (TX12 30).2.1 (TX12 30).2.2.1 ∈ xgt from wm_6 209 rfl rfl)
set_option maxRecDepth 20000 in
theorem xiw_X12_31 : u_lay RX12 TX12 31 ∈ xgt := (show Cond.lays RX12 (TX12 31).1 (TX12 31).2.1 (TX12 31).2.2.1 ∈ xgt from wm_6 211 rfl rfl)
set_option maxRecDepth 20000 in
theorem xiw_X12_32 : u_lay RX12 TX12 32 ∈ xgt := (show Cond.lays RX12 (TX12 32).1 (TX12 32).2.1 (TX12 32).2.2.1 ∈ xgt from wm_6 213 rfl rfl)
set_option maxRecDepth 20000 in
theorem xiw_X12_33 : u_lay RX12 TX12 33 ∈ xgt := (show Cond.lays RX12 (TX12 33).1 (TX12 33).2.1 (TX12 33).2.2.1 ∈ xgt from wm_6 215 rfl rfl)
set_option maxRecDepth 20000 in
theorem xiw_X12_34 : u_lay RX12 TX12 34 ∈ xgt := (show Cond.lays RX12 (TX12 34).1 (TX12 34).2.1 (TX12 34).2.2.1 ∈ xgt from wm_6 217 rfl rfl)
set_option maxRecDepth 20000 in
theorem xiw_X12_35 : u_lay RX12 TX12 35 ∈ xgt := (show Cond.lays RX12 (TX12 35).1 (TX12 35).2.1 (TX12 35).2.2.1 ∈ xgt from wm_6 219 rfl rfl)
set_option maxRecDepth 20000 in
theorem xiw_X12_36 : u_lay RX12 TX12 36 ∈ xgt := (show Cond.lays RX12 (TX12 36).1 (TX12 36).2.1 (TX12 36).2.2.1 ∈ xgt from wm_6 221 rfl rfl)
set_option maxRecDepth 20000 in
theorem xiw_X12_37 : u_lay RX12 TX12 37 ∈ xgt := (show Cond.laysFinal RX12 (TX12 37).1 (TX12 37).2.1 (TX12 37).2.2.1 ∈ xgt from wm_6 223 rfl rfl)
set_option maxRecDepth 20000 in
theorem xiw_X12_38 : u_lay RX12 TX12 38 ∈ xgt := (show Cond.laysFinal RX12 (TX12 38).1 (TX12 38).2.1 (TX12 38).2.2.1 ∈ xgt from wm_6 225 rfl rfl)
set_option maxRecDepth 20000 in
theorem xiw_X12_39 : u_lay RX12 TX12 39 ∈ xgt := (show Cond.laysFinal RX12 (TX12 39).1 (TX12 39).2.1 (TX12 39).2.2.1 ∈ xgt from wm_6 227 rfl rfl)
set_option maxRecDepth 20000 in
theorem xiw_X12_40 : u_lay RX12 TX12 40 ∈ xgt := (show Cond.laysFinal RX12 (TX12 40).1 (TX12 40).2.1 (TX12 40).2.2.1 ∈ xgt from wm_6 229 rfl rfl)
set_option maxRecDepth 20000 in
theorem xiw_X12_41 : u_lay RX12 TX12 41 ∈ xgt := (show Cond.laysFinal RX12 (TX12 41).1 (TX12 41).2.1 (TX12 41).2.2.1 ∈ xgt from wm_6 231 rfl rfl)
set_option maxRecDepth 20000 in
theorem xiw_X12_42 : u_lay RX12 TX12 42 ∈ xgt := (show Cond.laysFinal RX12 (TX12 42).1 (TX12 42).2.1 (TX12 42).2.2.1 ∈ xgt from wm_6 233 rfl rfl)
set_option maxRecDepth 20000 in
theorem xiw_X12_43 : u_lay RX12 TX12 43 ∈ xgt := (show Cond.laysFinal RX12 (TX12 43).1 (TX12 43).2.1 (TX12 43).2.2.1 ∈ xgt from wm_6 235 rfl rfl)
set_option maxRecDepth 20000 in
theorem xiw_X12_44 : u_lay RX12 TX12 44 ∈ xgt := (show Cond.laysFinal RX12 (TX12 44).1 (TX12 44).2.1 (TX12 44).2.2.1 ∈ xgt from wm_6 237 rfl rfl)
set_option maxRecDepth 20000 in
theorem xiw_X12_45 : u_lay RX12 TX12 45 ∈ xgt := (show Cond.laysFinal RX12 (TX12 45).1 (TX12 45).2.1 (TX12 45).2.2.1 ∈ xgt from wm_6 239 rfl rfl)
set_option maxRecDepth 20000 in
theorem xiw_X12_46 : u_lay RX12 TX12 46 ∈ xgt := (show Cond.laysFinal RX12 (TX12 46).1 (TX12 46).2.1 (TX12 46).2.2.1 ∈ xgt from wm_7 1 rfl rfl)
set_option maxRecDepth 20000 in
theorem xiw_X12_47 : u_lay RX12 TX12 47 ∈ xgt := (show Cond.laysFinal RX12 (TX12 47).1 (TX12 47).2.1 (TX12 47).2.2.1 ∈ xgt from wm_7 3 rfl rfl)
set_option maxRecDepth 20000 in
theorem xiw_X12_48 : u_lay RX12 TX12 48 ∈ xgt := (show Cond.laysFinal RX12 (TX12 48).1 (TX12 48).2.1 (TX12 48).2.2.1 ∈ xgt from wm_7 5 rfl rfl)
set_option maxRecDepth 20000 in
theorem xiw_X12_49 : u_lay RX12 TX12 49 ∈ xgt := (show Cond.lays RX12 (TX12 49).1 (TX12 49).2.1 (TX12 49).2.2.1 ∈ xgt from wm_7 7 rfl rfl)
set_option maxRecDepth 20000 in
theorem xiw_X12_50 : u_lay RX12 TX12 50 ∈ xgt := (show Cond.laysFinal RX12 (TX12 50).1 (TX12 50).2.1 (TX12 50).2.2.1 ∈ xgt from wm_7 9 rfl rfl)
set_option maxRecDepth 20000 in
theorem xiw_X12_51 : u_lay RX12 TX12 51 ∈ xgt := (show Cond.laysFinal RX12 (TX12 51).1 (TX12 51).2.1 (TX12 51).2.2.1 ∈ xgt from wm_7 11 rfl rfl)
set_option maxRecDepth 20000 in
theorem xiw_X12_52 : u_lay RX12 TX12 52 ∈ xgt := (show Cond.lays RX12 (TX12 52).1 (TX12 52).2.1 (TX12 52).2.2.1 ∈ xgt from wm_7 13 rfl rfl)
set_option maxRecDepth 20000 in
theorem xiw_X12_53 : u_lay RX12 TX12 53 ∈ xgt := (show Cond.laysFinal RX12 (TX12 53).1 (TX12 53).2.1 (TX12 53).2.2.1 ∈ xgt from wm_7 15 rfl rfl)
set_option maxRecDepth 20000 in
theorem xiw_X12_54 : u_lay RX12 TX12 54 ∈ xgt := (show Cond.laysFinal RX12 (TX12 54).1 (TX12 54).2.1 (TX12 54).2.2.1 ∈ xgt from wm_7 17 rfl rfl)
set_option maxRecDepth 20000 in
theorem xiw_X12_55 : u_lay RX12 TX12 55 ∈ xgt := (show Cond.laysFinal RX12 (TX12 55).1 (TX12 55).2.1 (TX12 55).2.2.1 ∈ xgt from wm_7 19 rfl rfl)
set_option maxRecDepth 20000 in
theorem xiw_X12_56 : u_lay RX12 TX12 56 ∈ xgt := (show Cond.laysFinal RX12 (TX12 56).1 (TX12 56).2.1 (TX12 56).2.2.1 ∈ xgt from wm_7 21 rfl rfl)
set_option maxRecDepth 20000 in
theorem xiw_X12_57 : u_lay RX12 TX12 57 ∈ xgt := (show Cond.laysFinal RX12 (TX12 57).1 (TX12 57).2.1 (TX12 57).2.2.1 ∈ xgt from wm_7 23 rfl rfl)
set_option maxRecDepth 20000 in
theorem xiw_X12_58 : u_lay RX12 TX12 58 ∈ xgt := (show Cond.laysFinal RX12 (TX12 58).1 (TX12 58).2.1 (TX12 58).2.2.1 ∈ xgt from wm_7 25 rfl rfl)
set_option maxRecDepth 20000 in
theorem xiw_X12_59 : u_lay RX12 TX12 59 ∈ xgt := (show Cond.lays RX12 (TX12 59).1 (TX12 59).2.1 (TX12 59).2.2.1 ∈ xgt from wm_7 27 rfl rfl)
set_option maxRecDepth 20000 in
theorem xiw_X12_60 : u_lay RX12 TX12 60 ∈ xgt := (show Cond.lays RX12 (TX12 60).1 (TX12 60).2.1 (TX12 60).2.2.1 ∈ xgt from wm_7 29 rfl rfl)
set_option maxRecDepth 20000 in
theorem xiw_X12_61 : u_lay RX12 TX12 61 ∈ xgt := (show Cond.lays RX12 (TX12 61).1 (TX12 61).2.1 (TX12 61).2.2.1 ∈ xgt from wm_7 31 rfl rfl)
set_option maxRecDepth 20000 in
theorem xiw_X12_62 : u_lay RX12 TX12 62 ∈ xgt := (show Cond.lays RX12 (TX12 62).1 (TX12 62).2.1 (TX12 62).2.2.1 ∈ xgt from wm_7 33 rfl rfl)
set_option maxRecDepth 20000 in
theorem xiw_X12_63 : u_lay RX12 TX12 63 ∈ xgt := (show Cond.laysFinal RX12 (TX12 63).1 (TX12 63).2.1 (TX12 63).2.2.1 ∈ xgt from wm_7 35 rfl rfl)
set_option maxRecDepth 20000 in
theorem xiw_X12_64 : u_lay RX12 TX12 64 ∈ xgt := (show Cond.laysFinal RX12 (TX12 64).1 (TX12 64).2.1 (TX12 64).2.2.1 ∈ xgt from wm_7 37 rfl rfl)
set_option maxRecDepth 20000 in
theorem xiw_X12_65 : u_lay RX12 TX12 65 ∈ xgt := (show Cond.laysFinal RX12 (TX12 65).1 (TX12 65).2.1 (TX12 65).2.2.1 ∈ xgt from wm_7 39 rfl rfl)
set_option maxRecDepth 20000 in
theorem xiw_X12_66 : u_lay RX12 TX12 66 ∈ xgt := (show Cond.laysFinal RX12 (TX12 66).1 (TX12 66).2.1 (TX12 66).2.2.1 ∈ xgt from wm_7 41 rfl rfl)
set_option maxRecDepth 20000 in
theorem xiw_X12_67 : u_lay RX12 TX12 67 ∈ xgt := (show Cond.laysFinal RX12 (TX12 67).1 (TX12 67).2.1 (TX12 67).2.2.1 ∈ xgt from wm_7 43 rfl rfl)
set_option maxRecDepth 20000 in
theorem xiw_X12_68 : u_lay RX12 TX12 68 ∈ xgt := (show Cond.lays RX12 (TX12 68).1 (TX12 68).2.1 (TX12 68).2.2.1 ∈ xgt from wm_7 45 rfl rfl)
theorem xin_X12 : ∀ w ∈ u_ws RX12 TX12 69, w ∈ xgt := xcnz xiw_X12_0 <| xcnz xiw_X12_1 <| xcnz xiw_X12_2 <| xcnz xiw_X12_3 <| xcnz xiw_X12_4 <| xcnz xiw_X12_5 <| xcnz xiw_X12_6 <| xcnz xiw_X12_7 <| xcnz xiw_X12_8 <| xcnz xiw_X12_9 <| xcnz xiw_X12_10 <| xcnz xiw_X12_11 <| xcnz xiw_X12_12 <| xcnz xiw_X12_13 <| xcnz xiw_X12_14 <| xcnz xiw_X12_15 <| xcnz xiw_X12_16 <| xcnz xiw_X12_17 <| xcnz xiw_X12_18 <| xcnz xiw_X12_19 <| xcnz xiw_X12_20 <| xcnz xiw_X12_21 <| xcnz xiw_X12_22 <| xcnz xiw_X12_23 <| xcnz xiw_X12_24 <| xcnz xiw_X12_25 <| xcnz xiw_X12_26 <| xcnz xiw_X12_27 <| xcnz xiw_X12_28 <| xcnz xiw_X12_29 <| xcnz xiw_X12_30 <| xcnz xiw_X12_31 <| xcnz xiw_X12_32 <| xcnz xiw_X12_33 <| xcnz xiw_X12_34 <| xcnz xiw_X12_35 <| xcnz xiw_X12_36 <| xcnz xiw_X12_37 <| xcnz xiw_X12_38 <| xcnz xiw_X12_39 <| xcnz xiw_X12_40 <| xcnz xiw_X12_41 <| xcnz xiw_X12_42 <| xcnz xiw_X12_43 <| xcnz xiw_X12_44 <| xcnz xiw_X12_45 <| xcnz xiw_X12_46 <| xcnz xiw_X12_47 <| xcnz xiw_X12_48 <| xcnz xiw_X12_49 <| xcnz xiw_X12_50 <| xcnz xiw_X12_51 <| xcnz xiw_X12_52 <| xcnz xiw_X12_53 <| xcnz xiw_X12_54 <| xcnz xiw_X12_55 <| xcnz xiw_X12_56 <| xcnz xiw_X12_57 <| xcnz xiw_X12_58 <| xcnz xiw_X12_59 <| xcnz xiw_X12_60 <| xcnz xiw_X12_61 <| xcnz xiw_X12_62 <| xcnz xiw_X12_63 <| xcnz xiw_X12_64 <| xcnz xiw_X12_65 <| xcnz xiw_X12_66 <| xcnz xiw_X12_67 <| xcnz xiw_X12_68 <| xnlz
end
section
/-! A machine of my own over numbers, that a program can run: abstract values (tag, number): (0, n) int, (1, i) the cell number i, (2, _) null, (3, k) the unknown int number k, (4, n) long, (5, k) the constant text number k, (6, k) its bytes, (7, _) a reference that is passed on alone.
A cell: inl (type, contents) an array, inr (class, fields) an object. -/
abbrev xV : Type := Nat × Nat
abbrev xC : Type := (Nat × List xV) ⊕ (Nat × List xV)
abbrev xH : Type := List xC
abbrev xL : Type := List (Nat × xV)
abbrev xOp : Type := Nat × Nat × Nat × Nat × List (Nat × Nat)
abbrev xM : Type := MethodName × ByteArray × Nat × Option FieldType × Nat × String × Room × List (Nat × xOp)
/-- what is known of the unknown ints: pairs that differ; bounds (moved by 2^31) -/
abbrev xK : Type := List (xV × xV) × List (Nat × Nat)
abbrev xR : Type := xK × Option xV × xH
abbrev xD : Type := List (Nat × xV × xV)
/-! what an abstract thing means -/
def xdi (ρ : Nat → Int32) (v : xV) : Int32 := match v with
  | (0, n) => nI n
  | (3, k) => ρ k
  | _ => 0
def xdl (v : xV) : Int64 := lN v.2
def xdv (b : Nat) (ρ : Nat → Int32) (sa : Nat → Nat) (v : xV) : Value := match v with
  | (0, n) => .int (nI n)
  | (1, i) => .ref (b + i)
  | (2, _) => .null
  | (3, k) => .int (ρ k)
  | (5, k) => .ref (sa k)
  | (6, k) => .ref (sa (k + 1000))
  | (7, _) => if sa 98 = 0 then .null else .ref (sa 99)
  | (_, n) => .long (lN n)
def xdr (b : Nat) (v : xV) : Option Nat := match v with
  | (1, i) => some (b + i)
  | _ => none
def xty (k : Nat) : FieldType := match k with
  | 0 => .int
  | 1 => .byte
  | 2 => .long
  | 3 => .boolean
  | _ => .array .int
def xzero (k : Nat) : xV := match k with
  | 2 => (4, 0)
  | 4 => (2, 0)
  | _ => (0, 0)
def xce (b : Nat) (ρ : Nat → Int32) (sa : Nat → Nat) (dA : Nat → ClassId) (c : xC) : va_E := match c with
  | .inl (2, vs) => .inl (dA 2, vs.length, .inr (.inl (fun j => xdl (vs.getD j (4, 0)))))
  | .inl (4, vs) => .inl (dA 4, vs.length, .inr (.inr (.inr (.inr (fun j => xdr b (vs.getD j (2, 0)))))))
  | .inl (k, vs) => .inl (dA k, vs.length, .inl (fun j => xdi ρ (vs.getD j (0, 0))))
  | .inr (ci, fs) => .inr (ci, fs.map (xdv b ρ sa))
def xcx (b : Nat) (ρ : Nat → Int32) (sa : Nat → Nat) (dA : Nat → ClassId) : Nat → xH → va_W
  | _, [] => []
  | i, c :: K => (b + i, xce b ρ sa dA c) :: xcx b ρ sa dA (i + 1) K
theorem xcx_get {b : Nat} {ρ : Nat → Int32} {sa : Nat → Nat} {dA : Nat → ClassId} : ∀ (K : xH) (o i : Nat), (xcx b ρ sa dA o K)[i]? = K[i]?.map (fun c => (b + (o + i), xce b ρ sa dA c))
  | [], o, i => by simp [xcx]
  | c :: K, o, 0 => by simp [xcx]
  | c :: K, o, i + 1 => by
    simp only [xcx, List.getElem?_cons_succ]
    rw [xcx_get K (o + 1) i, show o + 1 + i = o + (i + 1) by omega]
theorem xcx_set {b : Nat} {ρ : Nat → Int32} {sa : Nat → Nat} {dA : Nat → ClassId} : ∀ (K : xH) (o i : Nat) (c : xC), (xcx b ρ sa dA o K).set i (b + (o + i), xce b ρ sa dA c) = xcx b ρ sa dA o (K.set i c)
  | [], o, i, c => by simp [xcx]
  | d :: K, o, 0, c => by simp [xcx]
  | d :: K, o, i + 1, c => by
    simp only [xcx, List.set_cons_succ]
    rw [← xcx_set K (o + 1) i c, show o + 1 + i = o + (i + 1) by omega]
theorem xcx_push {b : Nat} {ρ : Nat → Int32} {sa : Nat → Nat} {dA : Nat → ClassId} : ∀ (K : xH) (o : Nat) (c : xC), xcx b ρ sa dA o (K ++ [c]) = xcx b ρ sa dA o K ++ [(b + (o + K.length), xce b ρ sa dA c)]
  | [], o, c => by simp [xcx]
  | d :: K, o, c => by
    simp only [List.cons_append, xcx, List.length_cons]
    rw [xcx_push K (o + 1) c, show o + 1 + K.length = o + (K.length + 1) by omega]
theorem xcx_D {b : Nat} {ρ : Nat → Int32} {sa : Nat → Nat} {dA : Nat → ClassId} {A : Nat → Prop} {K : xH} (h : ∀ i, i < K.length → A (b + i)) : va_D A (xcx b ρ sa dA 0 K) := by
  refine ⟨fun i j p q hi hj hpq => ?_, fun k q hk => ?_⟩
  · rw [xcx_get] at hi hj
    cases h1 : K[i]? with
    | none => rw [h1] at hi; cases hi
    | some x =>
      cases h2 : K[j]? with
      | none => rw [h2] at hj; cases hj
      | some y =>
        rw [h1] at hi; rw [h2] at hj
        cases hi; cases hj
        dsimp only at hpq
        omega
  · rw [xcx_get] at hk
    cases h1 : K[k]? with
    | none => rw [h1] at hk; cases hk
    | some x =>
      rw [h1] at hk
      cases hk
      have := (List.getElem?_eq_some_iff.mp h1).1
      rw [show b + (0 + k) = b + k by omega]
      exact h k this
/-! the numbers -/
def xbin (o x y : Nat) : Option Nat := match o with
  | 0 => some ((x + y) % 4294967296)
  | 1 => some ((x + (4294967296 - y % 4294967296)) % 4294967296)
  | 2 => some ((x * y) % 4294967296)
  | 3 => some (Nat.land x y)
  | 4 => some (Nat.lor x y)
  | 5 => some (Nat.xor x y)
  | 6 => if Nat.blt y 32 && Nat.blt (x * 2 ^ y) 4294967296 then some (x * 2 ^ y) else none
  | 7 => if Nat.blt y 32 && Nat.blt x 2147483648 then some (x / 2 ^ y) else none
  | 8 => if Nat.blt y 32 && Nat.blt x 4294967296 then some (x / 2 ^ y) else none
  | 9 => if Nat.blt 0 y && Nat.blt y 2147483648 && Nat.blt x 2147483648 then some (x / y) else none
  | 10 => if Nat.blt 0 y && Nat.blt y 2147483648 && Nat.blt x 2147483648 then some (x % y) else none
  | _ => none
def fbin (o : Nat) (x y : Int32) : Int32 := match o with
  | 0 => x + y
  | 1 => x - y
  | 2 => x * y
  | 3 => x &&& y
  | 4 => x ||| y
  | 5 => x ^^^ y
  | 6 => x <<< (y &&& 31)
  | 7 => x >>> (y &&& 31)
  | 8 => (x.toUInt32 >>> (y.toUInt32 &&& Int32.toUInt32 31)).toInt32
  | 9 => x / y
  | 10 => x - x / y * y
  | _ => 0
theorem nI_m (n : Nat) : nI (n % 4294967296) = nI n := by
  apply Int32.toBitVec_inj.mp
  show BitVec.ofNat 32 _ = BitVec.ofNat 32 _
  apply BitVec.eq_of_toNat_eq
  simp
theorem nI_bv (n : Nat) : (nI n).toBitVec = BitVec.ofNat 32 n := rfl
theorem xs_l : ∀ n, n < 32 → ((nI n &&& 31).toBitVec.smod 32).toNat = n := by decide +kernel
theorem xs_u : ∀ n, n < 32 → (((nI n).toUInt32 &&& Int32.toUInt32 31).toBitVec % 32).toNat = n := by decide +kernel
theorem xbin_ok {o x y z : Nat} (h : xbin o x y = some z) : fbin o (nI x) (nI y) = nI z := by
  match o, h with
  | 0, h => cases h; rw [nI_m]; exact nI_add x y
  | 1, h =>
    cases h
    rw [nI_m, ← nI_add]
    show nI x - nI y = _
    have e : nI (4294967296 - y % 4294967296) + nI y = 0 := by
      rw [← nI_m y, nI_add, show 4294967296 - y % 4294967296 + y % 4294967296 = 4294967296 by omega]
      decide +kernel
    have e2 : nI (4294967296 - y % 4294967296) = - nI y := by
      rw [← Int32.add_zero (-nI y), ← e, Int32.add_comm, Int32.add_assoc, Int32.add_right_neg, Int32.add_zero]
    rw [e2, Int32.sub_eq_add_neg]
  | 2, h => cases h; rw [nI_m]; exact pk_mul x y
  | 3, h =>
    cases h
    apply Int32.toBitVec_inj.mp
    show BitVec.ofNat 32 x &&& BitVec.ofNat 32 y = BitVec.ofNat 32 (x &&& y)
    apply BitVec.eq_of_toNat_eq
    simp [Nat.and_mod_two_pow]
  | 4, h =>
    cases h
    apply Int32.toBitVec_inj.mp
    show BitVec.ofNat 32 x ||| BitVec.ofNat 32 y = BitVec.ofNat 32 (x ||| y)
    apply BitVec.eq_of_toNat_eq
    simp [Nat.or_mod_two_pow]
  | 5, h =>
    cases h
    apply Int32.toBitVec_inj.mp
    show BitVec.ofNat 32 x ^^^ BitVec.ofNat 32 y = BitVec.ofNat 32 (x ^^^ y)
    apply BitVec.eq_of_toNat_eq
    simp [Nat.xor_mod_two_pow]
  | 6, h =>
    simp only [xbin] at h
    split at h
    · next hc =>
      simp only [Bool.and_eq_true, Nat.blt_eq] at hc
      cases h
      exact pk_shlN _ y (xs_l y hc.1) hc.2
    · cases h
  | 7, h =>
    simp only [xbin] at h
    split at h
    · next hc =>
      simp only [Bool.and_eq_true, Nat.blt_eq] at hc
      cases h
      exact pk_shrN hc.2 _ y (xs_l y hc.1)
    · cases h
  | 8, h =>
    simp only [xbin] at h
    split at h
    · next hc =>
      simp only [Bool.and_eq_true, Nat.blt_eq] at hc
      cases h
      exact pk_ushrN hc.2 _ y (xs_u y hc.1)
    · cases h
  | 9, h =>
    simp only [xbin] at h
    split at h
    · next hc =>
      simp only [Bool.and_eq_true, Nat.blt_eq] at hc
      cases h
      exact pk_div hc.2 hc.1.1 hc.1.2
    · cases h
  | 10, h =>
    simp only [xbin] at h
    split at h
    · next hc =>
      simp only [Bool.and_eq_true, Nat.blt_eq] at hc
      cases h
      exact pk_rem hc.2 hc.1.1 hc.1.2
    · cases h
/-- comparing: 0 =, 1 not =, 2 <, 3 >=, 4 >, 5 <= -/
def xcp (c : Nat) (x y : Int32) : Prop := match c with
  | 0 => x = y
  | 1 => ¬ x = y
  | 2 => x < y
  | 3 => y ≤ x
  | 4 => y < x
  | _ => x ≤ y
def xsg (n : Nat) : Nat := (n + 2147483648) % 4294967296
def xcb (c x y : Nat) : Bool := match c with
  | 0 => Nat.beq x y
  | 1 => !(Nat.beq x y)
  | 2 => Nat.blt (xsg x) (xsg y)
  | 3 => Nat.ble (xsg y) (xsg x)
  | 4 => Nat.blt (xsg y) (xsg x)
  | _ => Nat.ble (xsg x) (xsg y)
theorem xti {n : Nat} (h : n < 4294967296) : (nI n).toInt = (xsg n : Int) - 2147483648 := by
  show (BitVec.ofNat 32 n).toInt = _
  rw [BitVec.toInt_eq_toNat_cond]
  simp only [BitVec.toNat_ofNat, xsg]
  have e : n % 2 ^ 32 = n := Nat.mod_eq_of_lt h
  rw [e]
  split <;> omega
theorem xcb_ok {c x y : Nat} (hx : x < 4294967296) (hy : y < 4294967296) : xcb c x y = true ↔ xcp c (nI x) (nI y) := by
  have ex := xti hx
  have ey := xti hy
  have eq : nI x = nI y ↔ x = y := by
    refine ⟨fun h => ?_, fun h => by rw [h]⟩
    have h2 : (nI x).toInt = (nI y).toInt := by rw [h]
    rw [ex, ey] at h2
    simp only [xsg] at h2
    omega
  match c with
  | 0 =>
    show Nat.beq x y = true ↔ nI x = nI y
    rw [eq, Nat.beq_eq]
  | 1 =>
    show (!(Nat.beq x y)) = true ↔ ¬ nI x = nI y
    rw [eq, ← Nat.beq_eq]
    cases Nat.beq x y <;> simp
  | 2 =>
    show Nat.blt (xsg x) (xsg y) = true ↔ nI x < nI y
    rw [Nat.blt_eq, Int32.lt_iff_toInt_lt, ex, ey]; omega
  | 3 =>
    show Nat.ble (xsg y) (xsg x) = true ↔ nI y ≤ nI x
    rw [Nat.ble_eq, Int32.le_iff_toInt_le, ex, ey]; omega
  | 4 =>
    show Nat.blt (xsg y) (xsg x) = true ↔ nI y < nI x
    rw [Nat.blt_eq, Int32.lt_iff_toInt_lt, ex, ey]; omega
  | c + 5 =>
    show Nat.ble (xsg x) (xsg y) = true ↔ nI x ≤ nI y
    rw [Nat.ble_eq, Int32.le_iff_toInt_le, ex, ey]; omega
/-! what is known of the unknown ints -/
def sgI (x : Int32) : Nat := (x.toInt + 2147483648).toNat
theorem sgI_i (x : Int32) : (sgI x : Int) = x.toInt + 2147483648 := by
  have h := Int32.le_toInt x
  simp only [sgI]
  omega
theorem sgI_lt (x : Int32) : sgI x < 4294967296 := by
  have h := Int32.toInt_lt x
  have h2 := sgI_i x
  omega
theorem sgI_nI {n : Nat} (h : n < 4294967296) : sgI (nI n) = xsg n := by
  have h1 := sgI_i (nI n)
  rw [xti h] at h1
  omega
theorem xsg2 {n : Nat} (h : n < 4294967296) : xsg (xsg n) = n := by
  simp only [xsg]
  omega
theorem xsg_lt (n : Nat) : xsg n < 4294967296 := Nat.mod_lt _ (by decide)
theorem sgI_inj {x y : Int32} (h : sgI x = sgI y) : x = y := by
  apply Int32.toInt_inj.mp
  have h1 := sgI_i x
  have h2 := sgI_i y
  omega
theorem sgI_eq {x : Int32} {n : Nat} (hn : n < 4294967296) (h : sgI x = n) : x = nI (xsg n) := sgI_inj (by rw [sgI_nI (xsg_lt n), xsg2 hn]; exact h)
theorem sgI_ltI (x y : Int32) : x < y ↔ sgI x < sgI y := by
  have h1 := sgI_i x
  have h2 := sgI_i y
  rw [Int32.lt_iff_toInt_lt]
  omega
def xKok (ρ : Nat → Int32) (κ : xK) : Prop := (∀ q ∈ κ.1, ¬ xdi ρ q.1 = xdi ρ q.2) ∧ ∀ (k lo hi : Nat), κ.2[k]? = some (lo, hi) → lo ≤ sgI (ρ k) ∧ sgI (ρ k) ≤ hi
/-- an int -/
def xint (v : xV) : Bool := match v with
  | (0, n) => Nat.blt n 4294967296
  | (3, _) => true
  | _ => false
def xrng (iv : List (Nat × Nat)) (v : xV) : Nat × Nat := match v with
  | (0, n) => (xsg n, xsg n)
  | (3, k) => iv.getD k (0, 4294967295)
  | _ => (0, 4294967295)
theorem xrng_ok {ρ : Nat → Int32} {κ : xK} (h : xKok ρ κ) {v : xV} (hv : xint v = true) : (xrng κ.2 v).1 ≤ sgI (xdi ρ v) ∧ sgI (xdi ρ v) ≤ (xrng κ.2 v).2 := by
  match v, hv with
  | (0, n), hv =>
    have hn : n < 4294967296 := by simpa [xint, Nat.blt_eq] using hv
    simp only [xrng, xdi]
    rw [sgI_nI hn]
    exact ⟨Nat.le_refl _, Nat.le_refl _⟩
  | (3, k), _ =>
    simp only [xrng, xdi]
    rw [List.getD_eq_getElem?_getD]
    cases hk : κ.2[k]? with
    | none =>
      have := sgI_lt (ρ k)
      exact ⟨Nat.zero_le _, by simp; omega⟩
    | some q => exact h.2 k q.1 q.2 hk
/-- a known unknown -/
def xnm (iv : List (Nat × Nat)) (v : xV) : xV := match v with
  | (3, k) => match iv[k]? with
    | some (lo, hi) => if Nat.beq lo hi then (0, xsg lo) else (3, k)
    | none => (3, k)
  | v => v
theorem xnm_ok {ρ : Nat → Int32} {κ : xK} (h : xKok ρ κ) {b : Nat} {sa : Nat → Nat} (v : xV) : xdv b ρ sa (xnm κ.2 v) = xdv b ρ sa v ∧ xdi ρ (xnm κ.2 v) = xdi ρ v := by
  match v with
  | (0, _) | (1, _) | (2, _) | (4, _) | (5, _) | (6, _) | (7, _) => exact ⟨rfl, rfl⟩
  | (n + 8, _) => exact ⟨rfl, rfl⟩
  | (3, k) =>
    simp only [xnm]
    cases hk : κ.2[k]? with
    | none => exact ⟨rfl, rfl⟩
    | some q =>
      obtain ⟨lo, hi⟩ := q
      dsimp only
      split
      · next he =>
        have he : lo = hi := Nat.eq_of_beq_eq_true he
        subst he
        obtain ⟨h1, h2⟩ := h.2 k lo lo hk
        have e : sgI (ρ k) = lo := by omega
        have := sgI_eq (by have := sgI_lt (ρ k); omega) e
        simp only [xdv, xdi]
        rw [← this]
        exact ⟨rfl, rfl⟩
      · exact ⟨rfl, rfl⟩
def xsetr (iv : List (Nat × Nat)) (v : xV) (lo hi : Nat) : List (Nat × Nat) := match v with
  | (3, k) => match iv[k]? with
    | some (l, h) => iv.set k (Nat.max l lo, Nat.min h hi)
    | none => iv
  | _ => iv
theorem xsetr_ok {ρ : Nat → Int32} {cs : List (xV × xV)} {iv : List (Nat × Nat)} (h : xKok ρ (cs, iv)) {v : xV} {lo hi : Nat} (h1 : lo ≤ sgI (xdi ρ v)) (h2 : sgI (xdi ρ v) ≤ hi) : xKok ρ (cs, xsetr iv v lo hi) := by
  refine ⟨h.1, ?_⟩
  match v, h1, h2 with
  | (0, _), _, _ | (1, _), _, _ | (2, _), _, _ => exact h.2
  | (n + 4, _), _, _ => exact h.2
  | (3, k), h1, h2 =>
    simp only [xsetr]
    cases hk : iv[k]? with
    | none => exact h.2
    | some q =>
      obtain ⟨l, u⟩ := q
      intro j lo' hi' hj
      dsimp only at hj
      by_cases e : j = k
      · subst e
        have hl := (List.getElem?_eq_some_iff.mp hk).1
        rw [List.getElem?_set_self hl] at hj
        cases hj
        have h3 := h.2 j l u hk
        simp only [xdi] at h1 h2
        exact ⟨Nat.max_le.mpr ⟨h3.1, h1⟩, Nat.le_min.mpr ⟨h3.2, h2⟩⟩
      · rw [List.getElem?_set_ne (Ne.symm e)] at hj
        exact h.2 j lo' hi' hj
def xcons (iv : List (Nat × Nat)) : Bool := iv.all (fun q => Nat.ble q.1 q.2)
theorem xcons_ok {ρ : Nat → Int32} {κ : xK} (h : xKok ρ κ) : xcons κ.2 = true := by
  refine List.all_eq_true.mpr (fun q hq => ?_)
  obtain ⟨k, hk⟩ := List.getElem?_of_mem hq
  have := h.2 k q.1 q.2 hk
  exact Nat.ble_eq.mpr (by omega)
/-- the base compare: k 0 '=', 1 '<' -/
def xbp (k : Nat) (x y : Int32) : Prop := if k = 0 then x = y else x < y
def xdec (κ : xK) (k : Nat) (x y : xV) : Option Bool :=
  let a := xrng κ.2 x
  let b := xrng κ.2 y
  if Nat.beq k 0 then
    if Nat.beq a.1 a.2 && (Nat.beq b.1 b.2 && Nat.beq a.1 b.1) then some true
    else if Nat.blt a.2 b.1 || Nat.blt b.2 a.1 then some false
    else if κ.1.any (fun q => Nat.beq q.1.1 x.1 && Nat.beq q.1.2 x.2 && (Nat.beq q.2.1 y.1 && Nat.beq q.2.2 y.2)) then some false
    else none
  else if Nat.blt a.2 b.1 then some true
  else if Nat.ble b.2 a.1 then some false
  else none
theorem xdec_ok {ρ : Nat → Int32} {κ : xK} (h : xKok ρ κ) {k : Nat} {x y : xV} (hx : xint x = true) (hy : xint y = true) {r : Bool} (hd : xdec κ k x y = some r) : r = true ↔ xbp k (xdi ρ x) (xdi ρ y) := by
  have h1 := xrng_ok h hx
  have h2 := xrng_ok h hy
  simp only [xdec] at hd
  by_cases hk : k = 0
  · subst hk
    rw [if_pos (by rfl)] at hd
    simp only [xbp, if_pos]
    split at hd
    · next hc =>
      simp only [Bool.and_eq_true, Nat.beq_eq] at hc
      cases hd
      exact ⟨fun _ => sgI_inj (by omega), fun _ => rfl⟩
    · split at hd
      · next hc =>
        simp only [Bool.or_eq_true, Nat.blt_eq] at hc
        cases hd
        refine ⟨fun q => (by cases q), fun e => ?_⟩
        rw [e] at h1
        omega
      · split at hd
        · next hc =>
          cases hd
          refine ⟨fun q => (by cases q), fun e => ?_⟩
          obtain ⟨q, hq, hh⟩ := List.any_eq_true.mp hc
          simp only [Bool.and_eq_true, Nat.beq_eq] at hh
          obtain ⟨⟨e1, e2⟩, e3, e4⟩ := hh
          have ex : q.1 = x := Prod.ext e1 e2
          have ey : q.2 = y := Prod.ext e3 e4
          exact absurd (by rw [ex, ey]; exact e) (h.1 q hq)
        · cases hd
  · rw [if_neg (by rw [Nat.beq_eq]; exact hk)] at hd
    simp only [xbp, if_neg hk]
    rw [sgI_ltI]
    split at hd
    · next hc =>
      simp only [Nat.blt_eq] at hc
      cases hd
      exact ⟨fun _ => by omega, fun _ => rfl⟩
    · split at hd
      · next hc =>
        simp only [Nat.ble_eq] at hc
        cases hd
        exact ⟨fun q => (by cases q), fun _ => by omega⟩
      · cases hd
/-- what a branch teaches -/
def xlrn (κ : xK) (k : Nat) (x y : xV) (r : Bool) : xK :=
  let a := xrng κ.2 x
  let b := xrng κ.2 y
  if Nat.beq k 0 then (if r then (κ.1, xsetr (xsetr κ.2 x b.1 b.2) y a.1 a.2) else ((x, y) :: κ.1, κ.2))
  else if r then (κ.1, xsetr (xsetr κ.2 x 0 (b.2 - 1)) y (a.1 + 1) 4294967295)
  else (κ.1, xsetr (xsetr κ.2 x b.1 4294967295) y 0 a.2)
theorem xlrn_ok {ρ : Nat → Int32} {κ : xK} (h : xKok ρ κ) {k : Nat} {x y : xV} (hx : xint x = true) (hy : xint y = true) {r : Bool} (hb : r = true ↔ xbp k (xdi ρ x) (xdi ρ y)) : xKok ρ (xlrn κ k x y r) := by
  have h1 := xrng_ok h hx
  have h2 := xrng_ok h hy
  have l1 := sgI_lt (xdi ρ x)
  have l2 := sgI_lt (xdi ρ y)
  simp only [xlrn]
  by_cases hk : k = 0
  · subst hk
    simp only [xbp, if_pos] at hb
    rw [if_pos (by rfl)]
    cases r with
    | true =>
      have e := hb.mp rfl
      rw [if_pos rfl]
      exact xsetr_ok (xsetr_ok (cs := κ.1) (iv := κ.2) h (by rw [e]; exact h2.1) (by rw [e]; exact h2.2)) (by rw [← e]; exact h1.1) (by rw [← e]; exact h1.2)
    | false =>
      rw [if_neg (by decide)]
      refine ⟨fun q hq => ?_, h.2⟩
      rcases List.mem_cons.mp hq with e | hq
      · rw [e]
        exact fun z => by have := hb.mpr z; cases this
      · exact h.1 q hq
  · simp only [xbp, if_neg hk] at hb
    rw [if_neg (by rw [Nat.beq_eq]; exact hk)]
    rw [sgI_ltI] at hb
    cases r with
    | true =>
      have e := hb.mp rfl
      rw [if_pos rfl]
      exact xsetr_ok (xsetr_ok (cs := κ.1) (iv := κ.2) h (Nat.zero_le _) (by omega)) (by omega) (by omega)
    | false =>
      have e : ¬ sgI (xdi ρ x) < sgI (xdi ρ y) := fun z => by have := hb.mpr z; cases this
      rw [if_neg (by decide)]
      exact xsetr_ok (xsetr_ok (cs := κ.1) (iv := κ.2) h (by omega) (by omega)) (Nat.zero_le _) (by omega)
/-- the normal form of a compare: base, left, right, negated -/
def xnf (c : Nat) (x y : xV) : Nat × xV × xV × Bool := match c with
  | 0 => (0, x, y, false)
  | 1 => (0, x, y, true)
  | 2 => (1, x, y, false)
  | 3 => (1, x, y, true)
  | 4 => (1, y, x, false)
  | _ => (1, y, x, true)
theorem xnf_ok {ρ : Nat → Int32} (c : Nat) (x y : xV) : xcp c (xdi ρ x) (xdi ρ y) ↔ (xbp (xnf c x y).1 (xdi ρ (xnf c x y).2.1) (xdi ρ (xnf c x y).2.2.1) ↔ (xnf c x y).2.2.2 = false) := by
  match c with
  | 0 => simp [xcp, xnf, xbp]
  | 1 => simp [xcp, xnf, xbp]
  | 2 => simp [xcp, xnf, xbp]
  | 3 => simp [xcp, xnf, xbp, Int32.not_lt]
  | 4 => simp [xcp, xnf, xbp]
  | c + 5 => simp [xcp, xnf, xbp, Int32.not_lt]
def xadd (x y : Option (List xR)) : Option (List xR) := match x, y with
  | some a, some b => some (a ++ b)
  | _, _ => none
/-- a compare: one way where it is known, else both, each with what it teaches -/
def xfork (κ : xK) (c : Nat) (x y : xV) (kt kf : xK → Option (List xR)) : Option (List xR) :=
  let q := xnf c (xnm κ.2 x) (xnm κ.2 y)
  if xint q.2.1 && xint q.2.2.1 then
    match xdec κ q.1 q.2.1 q.2.2.1 with
    | some r => if Bool.xor r q.2.2.2 then kt κ else kf κ
    | none =>
      let k1 := xlrn κ q.1 q.2.1 q.2.2.1 true
      let k2 := xlrn κ q.1 q.2.1 q.2.2.1 false
      xadd (if xcons k1.2 then (if q.2.2.2 then kf k1 else kt k1) else some []) (if xcons k2.2 then (if q.2.2.2 then kt k2 else kf k2) else some [])
  else none
theorem xfork_ok {ρ : Nat → Int32} {κ : xK} (h : xKok ρ κ) {c : Nat} {x y : xV} {kt kf : xK → Option (List xR)} {Ls : List xR} (hf : xfork κ c x y kt kf = some Ls) :
    (xcp c (xdi ρ x) (xdi ρ y) → ∃ κ' L, kt κ' = some L ∧ xKok ρ κ' ∧ ∀ q ∈ L, q ∈ Ls) ∧ (¬ xcp c (xdi ρ x) (xdi ρ y) → ∃ κ' L, kf κ' = some L ∧ xKok ρ κ' ∧ ∀ q ∈ L, q ∈ Ls) := by
  simp only [xfork] at hf
  have hn := xnf_ok (ρ := ρ) c (xnm κ.2 x) (xnm κ.2 y)
  rw [(xnm_ok h (b := 0) (sa := fun _ => 0) x).2, (xnm_ok h (b := 0) (sa := fun _ => 0) y).2] at hn
  generalize xnf c (xnm κ.2 x) (xnm κ.2 y) = q at hf hn
  obtain ⟨k, u, w, ng⟩ := q
  dsimp only at hf hn
  split at hf
  · next hi =>
    simp only [Bool.and_eq_true] at hi
    cases hd : xdec κ k u w with
    | some r =>
      rw [hd] at hf
      dsimp only at hf
      have hr := xdec_ok h hi.1 hi.2 hd
      rw [← hr] at hn
      refine ⟨fun hc => ⟨κ, Ls, ?_, h, fun _ z => z⟩, fun hc => ⟨κ, Ls, ?_, h, fun _ z => z⟩⟩
      · have := hn.mp hc
        cases r <;> cases ng <;> simp_all
      · have := fun z => hc (hn.mpr z)
        cases r <;> cases ng <;> simp_all
    | none =>
      rw [hd] at hf
      dsimp only at hf
      generalize ha : (if xcons (xlrn κ k u w true).2 = true then (if ng = true then kf (xlrn κ k u w true) else kt (xlrn κ k u w true)) else some []) = a at hf
      generalize hb : (if xcons (xlrn κ k u w false).2 = true then (if ng = true then kt (xlrn κ k u w false) else kf (xlrn κ k u w false)) else some []) = b at hf
      cases a with
      | none => cases hf
      | some La =>
        cases b with
        | none => cases hf
        | some Lb =>
          cases hf
          by_cases hbp : xbp k (xdi ρ u) (xdi ρ w)
          · have hK := xlrn_ok h hi.1 hi.2 (r := true) (k := k) ⟨fun _ => hbp, fun _ => rfl⟩
            rw [if_pos (xcons_ok hK)] at ha
            refine ⟨fun hc => ⟨_, La, ?_, hK, fun q hq => List.mem_append_left _ hq⟩, fun hc => ⟨_, La, ?_, hK, fun q hq => List.mem_append_left _ hq⟩⟩
            · have := (hn.mp hc).mp hbp
              subst this
              simpa using ha
            · have : ng = true := by
                cases ng
                · exact absurd (hn.mpr ⟨fun _ => rfl, fun _ => hbp⟩) hc
                · rfl
              subst this
              simpa using ha
          · have hK := xlrn_ok h hi.1 hi.2 (r := false) (k := k) ⟨fun z => (by cases z), fun z => absurd z hbp⟩
            rw [if_pos (xcons_ok hK)] at hb
            refine ⟨fun hc => ⟨_, Lb, ?_, hK, fun q hq => List.mem_append_right _ hq⟩, fun hc => ⟨_, Lb, ?_, hK, fun q hq => List.mem_append_right _ hq⟩⟩
            · have : ng = true := by
                cases ng
                · exact absurd ((hn.mp hc).mpr rfl) hbp
                · rfl
              subst this
              simpa using hb
            · have : ng = false := by
                cases ng
                · rfl
                · exact absurd (hn.mpr ⟨fun z => absurd z hbp, fun z => by cases z⟩) hc
              subst this
              simpa using hb
  · cases hf
end
