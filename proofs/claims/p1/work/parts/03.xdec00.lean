theorem dX11_init_0 : decode cX11_init 0 = .ok (.aload_n 0, 1) := by decide +kernel
theorem dX11_init_1 : decode cX11_init 1 = .ok (.invokespecial 3, 3) := by decide +kernel
theorem dX11_init_4 : decode cX11_init 4 = .ok (.aload_n 0, 1) := by decide +kernel
theorem dX11_init_5 : decode cX11_init 5 = .ok (.sipush 800, 3) := by decide +kernel
theorem dX11_init_8 : decode cX11_init 8 = .ok (.newarray .byte, 2) := by decide +kernel
theorem dX11_init_10 : decode cX11_init 10 = .ok (.putfield 9, 3) := by decide +kernel
theorem dX11_init_13 : decode cX11_init 13 = .ok (.aload_n 0, 1) := by decide +kernel
theorem dX11_init_14 : decode cX11_init 14 = .ok (.new 13, 3) := by decide +kernel
theorem dX11_init_17 : decode cX11_init 17 = .ok (.dup, 1) := by decide +kernel
theorem dX11_init_18 : decode cX11_init 18 = .ok (.invokespecial 15, 3) := by decide +kernel
theorem dX11_init_21 : decode cX11_init 21 = .ok (.putfield 16, 3) := by decide +kernel
theorem dX11_init_24 : decode cX11_init 24 = .ok (.aload_n 0, 1) := by decide +kernel
theorem dX11_init_25 : decode cX11_init 25 = .ok (.new 13, 3) := by decide +kernel
theorem dX11_init_28 : decode cX11_init 28 = .ok (.dup, 1) := by decide +kernel
theorem dX11_init_29 : decode cX11_init 29 = .ok (.invokespecial 15, 3) := by decide +kernel
theorem dX11_init_32 : decode cX11_init 32 = .ok (.putfield 20, 3) := by decide +kernel
theorem dX11_init_35 : decode cX11_init 35 = .ok (.aload_n 0, 1) := by decide +kernel
theorem dX11_init_36 : decode cX11_init 36 = .ok (.new 23, 3) := by decide +kernel
theorem dX11_init_39 : decode cX11_init 39 = .ok (.dup, 1) := by decide +kernel
theorem dX11_init_40 : decode cX11_init 40 = .ok (.new 25, 3) := by decide +kernel
theorem dX11_init_43 : decode cX11_init 43 = .ok (.dup, 1) := by decide +kernel
theorem dX11_init_44 : decode cX11_init 44 = .ok (.aload_n 0, 1) := by decide +kernel
theorem dX11_init_45 : decode cX11_init 45 = .ok (.getfield 9, 3) := by decide +kernel
theorem dX11_init_48 : decode cX11_init 48 = .ok (.invokespecial 27, 3) := by decide +kernel
theorem dX11_init_51 : decode cX11_init 51 = .ok (.aload_n 0, 1) := by decide +kernel
theorem dX11_init_52 : decode cX11_init 52 = .ok (.getfield 20, 3) := by decide +kernel
theorem dX11_init_55 : decode cX11_init 55 = .ok (.invokespecial 30, 3) := by decide +kernel
theorem dX11_init_58 : decode cX11_init 58 = .ok (.putfield 33, 3) := by decide +kernel
theorem dX11_init_61 : decode cX11_init 61 = .ok (.aload_n 0, 1) := by decide +kernel
theorem dX11_init_62 : decode cX11_init 62 = .ok (.new 37, 3) := by decide +kernel
theorem dX11_init_65 : decode cX11_init 65 = .ok (.dup, 1) := by decide +kernel
theorem dX11_init_66 : decode cX11_init 66 = .ok (.invokespecial 39, 3) := by decide +kernel
theorem dX11_init_69 : decode cX11_init 69 = .ok (.putfield 40, 3) := by decide +kernel
theorem dX11_init_72 : decode cX11_init 72 = .ok (.aload_n 0, 1) := by decide +kernel
theorem dX11_init_73 : decode cX11_init 73 = .ok (.new 37, 3) := by decide +kernel
theorem dX11_init_76 : decode cX11_init 76 = .ok (.dup, 1) := by decide +kernel
theorem dX11_init_77 : decode cX11_init 77 = .ok (.invokespecial 39, 3) := by decide +kernel
theorem dX11_init_80 : decode cX11_init 80 = .ok (.putfield 44, 3) := by decide +kernel
theorem dX11_init_83 : decode cX11_init 83 = .ok (.aload_n 0, 1) := by decide +kernel
theorem dX11_init_84 : decode cX11_init 84 = .ok (.new 47, 3) := by decide +kernel
theorem dX11_init_87 : decode cX11_init 87 = .ok (.dup, 1) := by decide +kernel
theorem dX11_init_88 : decode cX11_init 88 = .ok (.invokespecial 49, 3) := by decide +kernel
theorem dX11_init_91 : decode cX11_init 91 = .ok (.putfield 50, 3) := by decide +kernel
theorem dX11_init_94 : decode cX11_init 94 = .ok (.aload_n 0, 1) := by decide +kernel
theorem dX11_init_95 : decode cX11_init 95 = .ok (.new 54, 3) := by decide +kernel
theorem dX11_init_98 : decode cX11_init 98 = .ok (.dup, 1) := by decide +kernel
theorem dX11_init_99 : decode cX11_init 99 = .ok (.aload_n 0, 1) := by decide +kernel
theorem dX11_init_100 : decode cX11_init 100 = .ok (.getfield 16, 3) := by decide +kernel
theorem dX11_init_103 : decode cX11_init 103 = .ok (.aload_n 0, 1) := by decide +kernel
theorem dX11_init_104 : decode cX11_init 104 = .ok (.getfield 40, 3) := by decide +kernel
theorem dX11_init_107 : decode cX11_init 107 = .ok (.invokespecial 56, 3) := by decide +kernel
theorem dX11_init_110 : decode cX11_init 110 = .ok (.putfield 59, 3) := by decide +kernel
theorem dX11_init_113 : decode cX11_init 113 = .ok (.aload_n 0, 1) := by decide +kernel
theorem dX11_init_114 : decode cX11_init 114 = .ok (.new 63, 3) := by decide +kernel
theorem dX11_init_117 : decode cX11_init 117 = .ok (.dup, 1) := by decide +kernel
theorem dX11_init_118 : decode cX11_init 118 = .ok (.aload_n 0, 1) := by decide +kernel
theorem dX11_init_119 : decode cX11_init 119 = .ok (.getfield 16, 3) := by decide +kernel
theorem dX11_init_122 : decode cX11_init 122 = .ok (.aload_n 0, 1) := by decide +kernel
theorem dX11_init_123 : decode cX11_init 123 = .ok (.getfield 40, 3) := by decide +kernel
theorem dX11_init_126 : decode cX11_init 126 = .ok (.aload_n 0, 1) := by decide +kernel
theorem dX11_init_127 : decode cX11_init 127 = .ok (.getfield 59, 3) := by decide +kernel
theorem dX11_init_130 : decode cX11_init 130 = .ok (.invokespecial 65, 3) := by decide +kernel
theorem dX11_init_133 : decode cX11_init 133 = .ok (.putfield 68, 3) := by decide +kernel
theorem dX11_init_136 : decode cX11_init 136 = .ok (.aload_n 0, 1) := by decide +kernel
theorem dX11_init_137 : decode cX11_init 137 = .ok (.new 72, 3) := by decide +kernel
theorem dX11_init_140 : decode cX11_init 140 = .ok (.dup, 1) := by decide +kernel
theorem dX11_init_141 : decode cX11_init 141 = .ok (.aload_n 0, 1) := by decide +kernel
theorem dX11_init_142 : decode cX11_init 142 = .ok (.getfield 16, 3) := by decide +kernel
theorem dX11_init_145 : decode cX11_init 145 = .ok (.aload_n 0, 1) := by decide +kernel
theorem dX11_init_146 : decode cX11_init 146 = .ok (.getfield 40, 3) := by decide +kernel
theorem dX11_init_149 : decode cX11_init 149 = .ok (.aload_n 0, 1) := by decide +kernel
theorem dX11_init_150 : decode cX11_init 150 = .ok (.getfield 59, 3) := by decide +kernel
theorem dX11_init_153 : decode cX11_init 153 = .ok (.invokespecial 74, 3) := by decide +kernel
theorem dX11_init_156 : decode cX11_init 156 = .ok (.putfield 75, 3) := by decide +kernel
theorem dX11_init_159 : decode cX11_init 159 = .ok (.aload_n 0, 1) := by decide +kernel
theorem dX11_init_160 : decode cX11_init 160 = .ok (.new 79, 3) := by decide +kernel
theorem dX11_init_163 : decode cX11_init 163 = .ok (.dup, 1) := by decide +kernel
theorem dX11_init_164 : decode cX11_init 164 = .ok (.aload_n 0, 1) := by decide +kernel
theorem dX11_init_165 : decode cX11_init 165 = .ok (.getfield 16, 3) := by decide +kernel
theorem dX11_init_168 : decode cX11_init 168 = .ok (.aload_n 0, 1) := by decide +kernel
theorem dX11_init_169 : decode cX11_init 169 = .ok (.getfield 40, 3) := by decide +kernel
theorem dX11_init_172 : decode cX11_init 172 = .ok (.aload_n 0, 1) := by decide +kernel
theorem dX11_init_173 : decode cX11_init 173 = .ok (.getfield 59, 3) := by decide +kernel
theorem dX11_init_176 : decode cX11_init 176 = .ok (.invokespecial 81, 3) := by decide +kernel
theorem dX11_init_179 : decode cX11_init 179 = .ok (.putfield 82, 3) := by decide +kernel
theorem dX11_init_182 : decode cX11_init 182 = .ok (.aload_n 0, 1) := by decide +kernel
theorem dX11_init_183 : decode cX11_init 183 = .ok (.iconst 0, 1) := by decide +kernel
theorem dX11_init_184 : decode cX11_init 184 = .ok (.putfield 86, 3) := by decide +kernel
theorem dX11_init_187 : decode cX11_init 187 = .ok (.aload_n 0, 1) := by decide +kernel
theorem dX11_init_188 : decode cX11_init 188 = .ok (.iconst 0, 1) := by decide +kernel
theorem dX11_init_189 : decode cX11_init 189 = .ok (.putfield 90, 3) := by decide +kernel
theorem dX11_init_192 : decode cX11_init 192 = .ok (.aload_n 0, 1) := by decide +kernel
theorem dX11_init_193 : decode cX11_init 193 = .ok (.iconst (-1), 1) := by decide +kernel
theorem dX11_init_194 : decode cX11_init 194 = .ok (.putfield 93, 3) := by decide +kernel
theorem dX11_init_197 : decode cX11_init 197 = .ok (.aload_n 0, 1) := by decide +kernel
theorem dX11_init_198 : decode cX11_init 198 = .ok (.iconst 0, 1) := by decide +kernel
theorem dX11_init_199 : decode cX11_init 199 = .ok (.putfield 96, 3) := by decide +kernel
theorem dX11_init_202 : decode cX11_init 202 = .ok (.aload_n 0, 1) := by decide +kernel
theorem dX11_init_203 : decode cX11_init 203 = .ok (.getfield 40, 3) := by decide +kernel
theorem dX11_init_206 : decode cX11_init 206 = .ok (.aload_n 0, 1) := by decide +kernel
theorem dX11_init_207 : decode cX11_init 207 = .ok (.getfield 16, 3) := by decide +kernel
theorem dX11_init_210 : decode cX11_init 210 = .ok (.invokevirtual 100, 3) := by decide +kernel
theorem dX11_init_213 : decode cX11_init 213 = .ok (.return_, 1) := by decide +kernel
theorem dX11_back_0 : decode cX11_back 0 = .ok (.aload_n 0, 1) := by decide +kernel
theorem dX11_back_1 : decode cX11_back 1 = .ok (.getfield 96, 3) := by decide +kernel
theorem dX11_back_4 : decode cX11_back 4 = .ok (.ifCond .ne 5, 3) := by decide +kernel
theorem dX11_back_7 : decode cX11_back 7 = .ok (.iconst (-1), 1) := by decide +kernel
theorem dX11_back_8 : decode cX11_back 8 = .ok (.ireturn, 1) := by decide +kernel
theorem dX11_bar_0 : decode cX11_bar 0 = .ok (.aload_n 0, 1) := by decide +kernel
theorem dX11_bar_1 : decode cX11_bar 1 = .ok (.getfield 16, 3) := by decide +kernel
theorem dX11_bar_4 : decode cX11_bar 4 = .ok (.getfield 139, 3) := by decide +kernel
theorem dX11_bar_7 : decode cX11_bar 7 = .ok (.iload_n 1, 1) := by decide +kernel
theorem dX11_bar_8 : decode cX11_bar 8 = .ok (.invokevirtual 145, 3) := by decide +kernel
theorem dX11_bar_11 : decode cX11_bar 11 = .ok (.ifCond .eq 13, 3) := by decide +kernel
theorem dX11_bar_24 : decode cX11_bar 24 = .ok (.iconst (-1), 1) := by decide +kernel
theorem dX11_bar_25 : decode cX11_bar 25 = .ok (.ireturn, 1) := by decide +kernel
theorem dX11_best_0 : decode cX11_best 0 = .ok (.iload_n 1, 1) := by decide +kernel
theorem dX11_best_1 : decode cX11_best 1 = .ok (.ifCond .lt 19, 3) := by decide +kernel
theorem dX11_best_4 : decode cX11_best 4 = .ok (.iload_n 1, 1) := by decide +kernel
theorem dX11_best_5 : decode cX11_best 5 = .ok (.sipush 999, 3) := by decide +kernel
theorem dX11_best_8 : decode cX11_best 8 = .ok (.if_icmp .gt 12, 3) := by decide +kernel
theorem dX11_best_11 : decode cX11_best 11 = .ok (.iload_n 2, 1) := by decide +kernel
theorem dX11_best_12 : decode cX11_best 12 = .ok (.ifCond .lt 8, 3) := by decide +kernel
theorem dX11_best_15 : decode cX11_best 15 = .ok (.iload_n 2, 1) := by decide +kernel
theorem dX11_best_16 : decode cX11_best 16 = .ok (.iconst 1, 1) := by decide +kernel
theorem dX11_best_17 : decode cX11_best 17 = .ok (.if_icmp .le 5, 3) := by decide +kernel
theorem dX11_best_20 : decode cX11_best 20 = .ok (.iconst (-1), 1) := by decide +kernel
theorem dX11_best_21 : decode cX11_best 21 = .ok (.ireturn, 1) := by decide +kernel
theorem dX11_best_22 : decode cX11_best 22 = .ok (.aload_n 0, 1) := by decide +kernel
theorem dX11_best_23 : decode cX11_best 23 = .ok (.getfield 68, 3) := by decide +kernel
theorem dX11_best_26 : decode cX11_best 26 = .ok (.invokevirtual 267, 3) := by decide +kernel
theorem dX11_best_29 : decode cX11_best 29 = .ok (.aload_n 0, 1) := by decide +kernel
theorem dX11_best_30 : decode cX11_best 30 = .ok (.getfield 68, 3) := by decide +kernel
theorem dX11_best_33 : decode cX11_best 33 = .ok (.iload_n 1, 1) := by decide +kernel
theorem dX11_best_34 : decode cX11_best 34 = .ok (.invokevirtual 270, 3) := by decide +kernel
theorem dX11_best_37 : decode cX11_best 37 = .ok (.istore_n 3, 1) := by decide +kernel
theorem dX11_best_38 : decode cX11_best 38 = .ok (.iload_n 2, 1) := by decide +kernel
theorem dX11_best_39 : decode cX11_best 39 = .ok (.ifCond .ne 7, 3) := by decide +kernel
theorem dX11_best_42 : decode cX11_best 42 = .ok (.iload_n 3, 1) := by decide +kernel
theorem dX11_best_43 : decode cX11_best 43 = .ok (.goto 11, 3) := by decide +kernel
theorem dX11_best_46 : decode cX11_best 46 = .ok (.aload_n 0, 1) := by decide +kernel
theorem dX11_best_47 : decode cX11_best 47 = .ok (.getfield 68, 3) := by decide +kernel
theorem dX11_best_50 : decode cX11_best 50 = .ok (.iload_n 3, 1) := by decide +kernel
theorem dX11_best_51 : decode cX11_best 51 = .ok (.invokevirtual 273, 3) := by decide +kernel
theorem dX11_best_54 : decode cX11_best 54 = .ok (.ireturn, 1) := by decide +kernel
theorem dX11_bids_0 : decode cX11_bids 0 = .ok (.aload_n 0, 1) := by decide +kernel
theorem dX11_bids_1 : decode cX11_bids 1 = .ok (.getfield 16, 3) := by decide +kernel
theorem dX11_bids_4 : decode cX11_bids 4 = .ok (.getfield 142, 3) := by decide +kernel
theorem dX11_bids_7 : decode cX11_bids 7 = .ok (.iload_n 1, 1) := by decide +kernel
theorem dX11_bids_8 : decode cX11_bids 8 = .ok (.invokevirtual 145, 3) := by decide +kernel
theorem dX11_bids_11 : decode cX11_bids 11 = .ok (.ifCond .eq 17, 3) := by decide +kernel
theorem dX11_bids_28 : decode cX11_bids 28 = .ok (.iconst (-1), 1) := by decide +kernel
theorem dX11_bids_29 : decode cX11_bids 29 = .ok (.ireturn, 1) := by decide +kernel
theorem dX11_chosen_0 : decode cX11_chosen 0 = .ok (.iload_n 1, 1) := by decide +kernel
theorem dX11_chosen_1 : decode cX11_chosen 1 = .ok (.ifCond .lt 22, 3) := by decide +kernel
theorem dX11_chosen_4 : decode cX11_chosen 4 = .ok (.iload_n 1, 1) := by decide +kernel
theorem dX11_chosen_5 : decode cX11_chosen 5 = .ok (.sipush 999, 3) := by decide +kernel
theorem dX11_chosen_8 : decode cX11_chosen 8 = .ok (.if_icmp .gt 15, 3) := by decide +kernel
theorem dX11_chosen_11 : decode cX11_chosen 11 = .ok (.aload_n 0, 1) := by decide +kernel
theorem dX11_chosen_12 : decode cX11_chosen 12 = .ok (.getfield 16, 3) := by decide +kernel
theorem dX11_chosen_15 : decode cX11_chosen 15 = .ok (.iload_n 2, 1) := by decide +kernel
theorem dX11_chosen_16 : decode cX11_chosen 16 = .ok (.iload_n 3, 1) := by decide +kernel
theorem dX11_chosen_17 : decode cX11_chosen 17 = .ok (.invokevirtual 195, 3) := by decide +kernel
theorem dX11_chosen_20 : decode cX11_chosen 20 = .ok (.ifCond .ne 5, 3) := by decide +kernel
theorem dX11_chosen_23 : decode cX11_chosen 23 = .ok (.iconst (-1), 1) := by decide +kernel
theorem dX11_chosen_24 : decode cX11_chosen 24 = .ok (.ireturn, 1) := by decide +kernel
theorem dX11_count_0 : decode cX11_count 0 = .ok (.iload_n 1, 1) := by decide +kernel
theorem dX11_count_1 : decode cX11_count 1 = .ok (.tableswitch 174 0 11 #[63, 74, 85, 96, 107, 118, 126, 134, 142, 150, 155, 166], 63) := by decide +kernel
theorem dX11_count_64 : decode cX11_count 64 = .ok (.aload_n 0, 1) := by decide +kernel
theorem dX11_count_65 : decode cX11_count 65 = .ok (.getfield 16, 3) := by decide +kernel
theorem dX11_count_68 : decode cX11_count 68 = .ok (.getfield 127, 3) := by decide +kernel
theorem dX11_count_71 : decode cX11_count 71 = .ok (.getfield 292, 3) := by decide +kernel
theorem dX11_count_74 : decode cX11_count 74 = .ok (.ireturn, 1) := by decide +kernel
theorem dX11_count_75 : decode cX11_count 75 = .ok (.aload_n 0, 1) := by decide +kernel
theorem dX11_count_76 : decode cX11_count 76 = .ok (.getfield 16, 3) := by decide +kernel
theorem dX11_count_79 : decode cX11_count 79 = .ok (.getfield 136, 3) := by decide +kernel
theorem dX11_count_82 : decode cX11_count 82 = .ok (.getfield 292, 3) := by decide +kernel
theorem dX11_count_85 : decode cX11_count 85 = .ok (.ireturn, 1) := by decide +kernel
theorem dX11_count_86 : decode cX11_count 86 = .ok (.aload_n 0, 1) := by decide +kernel
theorem dX11_count_87 : decode cX11_count 87 = .ok (.getfield 16, 3) := by decide +kernel
theorem dX11_count_90 : decode cX11_count 90 = .ok (.getfield 139, 3) := by decide +kernel
theorem dX11_count_93 : decode cX11_count 93 = .ok (.getfield 292, 3) := by decide +kernel
theorem dX11_count_96 : decode cX11_count 96 = .ok (.ireturn, 1) := by decide +kernel
theorem dX11_count_97 : decode cX11_count 97 = .ok (.aload_n 0, 1) := by decide +kernel
theorem dX11_count_98 : decode cX11_count 98 = .ok (.getfield 16, 3) := by decide +kernel
theorem dX11_count_101 : decode cX11_count 101 = .ok (.getfield 142, 3) := by decide +kernel
theorem dX11_count_104 : decode cX11_count 104 = .ok (.getfield 292, 3) := by decide +kernel
theorem dX11_count_107 : decode cX11_count 107 = .ok (.ireturn, 1) := by decide +kernel
theorem dX11_count_108 : decode cX11_count 108 = .ok (.aload_n 0, 1) := by decide +kernel
theorem dX11_count_109 : decode cX11_count 109 = .ok (.getfield 16, 3) := by decide +kernel
theorem dX11_count_112 : decode cX11_count 112 = .ok (.getfield 357, 3) := by decide +kernel
theorem dX11_count_115 : decode cX11_count 115 = .ok (.getfield 361, 3) := by decide +kernel
theorem dX11_count_118 : decode cX11_count 118 = .ok (.ireturn, 1) := by decide +kernel
theorem dX11_count_119 : decode cX11_count 119 = .ok (.aload_n 0, 1) := by decide +kernel
theorem dX11_count_120 : decode cX11_count 120 = .ok (.getfield 40, 3) := by decide +kernel
theorem dX11_count_123 : decode cX11_count 123 = .ok (.getfield 227, 3) := by decide +kernel
theorem dX11_count_126 : decode cX11_count 126 = .ok (.ireturn, 1) := by decide +kernel
theorem dX11_count_127 : decode cX11_count 127 = .ok (.aload_n 0, 1) := by decide +kernel
theorem dX11_count_128 : decode cX11_count 128 = .ok (.getfield 40, 3) := by decide +kernel
theorem dX11_count_131 : decode cX11_count 131 = .ok (.getfield 239, 3) := by decide +kernel
theorem dX11_count_134 : decode cX11_count 134 = .ok (.ireturn, 1) := by decide +kernel
theorem dX11_count_135 : decode cX11_count 135 = .ok (.aload_n 0, 1) := by decide +kernel
theorem dX11_count_136 : decode cX11_count 136 = .ok (.getfield 40, 3) := by decide +kernel
theorem dX11_count_139 : decode cX11_count 139 = .ok (.getfield 246, 3) := by decide +kernel
theorem dX11_count_142 : decode cX11_count 142 = .ok (.ireturn, 1) := by decide +kernel
theorem dX11_count_143 : decode cX11_count 143 = .ok (.aload_n 0, 1) := by decide +kernel
theorem dX11_count_144 : decode cX11_count 144 = .ok (.getfield 50, 3) := by decide +kernel
theorem dX11_count_147 : decode cX11_count 147 = .ok (.getfield 121, 3) := by decide +kernel
theorem dX11_count_150 : decode cX11_count 150 = .ok (.ireturn, 1) := by decide +kernel
theorem dX11_count_151 : decode cX11_count 151 = .ok (.aload_n 0, 1) := by decide +kernel
theorem dX11_count_152 : decode cX11_count 152 = .ok (.invokevirtual 302, 3) := by decide +kernel
theorem dX11_count_155 : decode cX11_count 155 = .ok (.ireturn, 1) := by decide +kernel
theorem dX11_count_156 : decode cX11_count 156 = .ok (.aload_n 0, 1) := by decide +kernel
theorem dX11_count_157 : decode cX11_count 157 = .ok (.getfield 40, 3) := by decide +kernel
theorem dX11_count_160 : decode cX11_count 160 = .ok (.getfield 325, 3) := by decide +kernel
theorem dX11_count_163 : decode cX11_count 163 = .ok (.invokestatic 216, 3) := by decide +kernel
theorem dX11_count_166 : decode cX11_count 166 = .ok (.ireturn, 1) := by decide +kernel
theorem dX11_count_167 : decode cX11_count 167 = .ok (.aload_n 0, 1) := by decide +kernel
theorem dX11_count_168 : decode cX11_count 168 = .ok (.getfield 40, 3) := by decide +kernel
theorem dX11_count_171 : decode cX11_count 171 = .ok (.invokevirtual 364, 3) := by decide +kernel
theorem dX11_count_174 : decode cX11_count 174 = .ok (.ireturn, 1) := by decide +kernel
theorem dX11_count_175 : decode cX11_count 175 = .ok (.iconst (-1), 1) := by decide +kernel
theorem dX11_count_176 : decode cX11_count 176 = .ok (.ireturn, 1) := by decide +kernel
theorem dX11_crackBoys_0 : decode cX11_crackBoys 0 = .ok (.iconst 0, 1) := by decide +kernel
theorem dX11_crackBoys_1 : decode cX11_crackBoys 1 = .ok (.istore_n 1, 1) := by decide +kernel
theorem dX11_crackBoys_2 : decode cX11_crackBoys 2 = .ok (.iload_n 1, 1) := by decide +kernel
theorem dX11_crackBoys_3 : decode cX11_crackBoys 3 = .ok (.aload_n 0, 1) := by decide +kernel
theorem dX11_crackBoys_4 : decode cX11_crackBoys 4 = .ok (.getfield 16, 3) := by decide +kernel
theorem dX11_crackBoys_7 : decode cX11_crackBoys 7 = .ok (.getfield 136, 3) := by decide +kernel
theorem dX11_crackBoys_10 : decode cX11_crackBoys 10 = .ok (.getfield 292, 3) := by decide +kernel
theorem dX11_crackBoys_13 : decode cX11_crackBoys 13 = .ok (.if_icmp .ge 76, 3) := by decide +kernel
theorem dX11_crackBoys_89 : decode cX11_crackBoys 89 = .ok (.return_, 1) := by decide +kernel
theorem dX11_cracks_0 : decode cX11_cracks 0 = .ok (.aload_n 0, 1) := by decide +kernel
theorem dX11_cracks_1 : decode cX11_cracks 1 = .ok (.getfield 16, 3) := by decide +kernel
theorem dX11_cracks_4 : decode cX11_cracks 4 = .ok (.getfield 136, 3) := by decide +kernel
theorem dX11_cracks_7 : decode cX11_cracks 7 = .ok (.iload_n 1, 1) := by decide +kernel
theorem dX11_cracks_8 : decode cX11_cracks 8 = .ok (.invokevirtual 145, 3) := by decide +kernel
theorem dX11_cracks_11 : decode cX11_cracks 11 = .ok (.ifCond .eq 21, 3) := by decide +kernel
theorem dX11_cracks_32 : decode cX11_cracks 32 = .ok (.iconst (-1), 1) := by decide +kernel
theorem dX11_cracks_33 : decode cX11_cracks 33 = .ok (.ireturn, 1) := by decide +kernel
theorem dX11_due_0 : decode cX11_due 0 = .ok (.aload_n 0, 1) := by decide +kernel
theorem dX11_due_1 : decode cX11_due 1 = .ok (.getfield 16, 3) := by decide +kernel
theorem dX11_due_4 : decode cX11_due 4 = .ok (.iload_n 1, 1) := by decide +kernel
theorem dX11_due_5 : decode cX11_due 5 = .ok (.iload_n 2, 1) := by decide +kernel
theorem dX11_due_6 : decode cX11_due 6 = .ok (.invokevirtual 195, 3) := by decide +kernel
theorem dX11_due_9 : decode cX11_due 9 = .ok (.ifCond .eq 30, 3) := by decide +kernel
theorem dX11_due_39 : decode cX11_due 39 = .ok (.iconst (-1), 1) := by decide +kernel
theorem dX11_due_40 : decode cX11_due 40 = .ok (.ireturn, 1) := by decide +kernel
theorem dX11_easter_0 : decode cX11_easter 0 = .ok (.aload_n 0, 1) := by decide +kernel
theorem dX11_easter_1 : decode cX11_easter 1 = .ok (.getfield 16, 3) := by decide +kernel
theorem dX11_easter_4 : decode cX11_easter 4 = .ok (.iload_n 1, 1) := by decide +kernel
theorem dX11_easter_5 : decode cX11_easter 5 = .ok (.invokevirtual 280, 3) := by decide +kernel
theorem dX11_easter_8 : decode cX11_easter 8 = .ok (.ifCond .ne 5, 3) := by decide +kernel
theorem dX11_easter_11 : decode cX11_easter 11 = .ok (.iconst (-1), 1) := by decide +kernel
theorem dX11_easter_12 : decode cX11_easter 12 = .ok (.ireturn, 1) := by decide +kernel
theorem dX11_easter_13 : decode cX11_easter 13 = .ok (.aload_n 0, 1) := by decide +kernel
theorem dX11_easter_14 : decode cX11_easter 14 = .ok (.getfield 75, 3) := by decide +kernel
theorem dX11_easter_17 : decode cX11_easter 17 = .ok (.iload_n 1, 1) := by decide +kernel
theorem dX11_easter_18 : decode cX11_easter 18 = .ok (.invokevirtual 283, 3) := by decide +kernel
theorem dX11_easter_21 : decode cX11_easter 21 = .ok (.istore_n 2, 1) := by decide +kernel
theorem dX11_easter_22 : decode cX11_easter 22 = .ok (.iconst 0, 1) := by decide +kernel
theorem dX11_easter_23 : decode cX11_easter 23 = .ok (.istore_n 3, 1) := by decide +kernel
theorem dX11_easter_24 : decode cX11_easter 24 = .ok (.iload_n 3, 1) := by decide +kernel
theorem dX11_easter_25 : decode cX11_easter 25 = .ok (.aload_n 0, 1) := by decide +kernel
theorem dX11_easter_26 : decode cX11_easter 26 = .ok (.getfield 16, 3) := by decide +kernel
theorem dX11_easter_29 : decode cX11_easter 29 = .ok (.getfield 142, 3) := by decide +kernel
theorem dX11_easter_32 : decode cX11_easter 32 = .ok (.getfield 292, 3) := by decide +kernel
theorem dX11_easter_35 : decode cX11_easter 35 = .ok (.if_icmp .ge 27, 3) := by decide +kernel
theorem dX11_easter_62 : decode cX11_easter 62 = .ok (.aload_n 0, 1) := by decide +kernel
theorem dX11_easter_63 : decode cX11_easter 63 = .ok (.getfield 40, 3) := by decide +kernel
theorem dX11_easter_66 : decode cX11_easter 66 = .ok (.dup, 1) := by decide +kernel
theorem dX11_easter_67 : decode cX11_easter 67 = .ok (.getfield 239, 3) := by decide +kernel
theorem dX11_easter_70 : decode cX11_easter 70 = .ok (.iload_n 2, 1) := by decide +kernel
theorem dX11_easter_71 : decode cX11_easter 71 = .ok (.iadd, 1) := by decide +kernel
theorem dX11_easter_72 : decode cX11_easter 72 = .ok (.putfield 239, 3) := by decide +kernel
theorem dX11_easter_75 : decode cX11_easter 75 = .ok (.iload_n 2, 1) := by decide +kernel
theorem dX11_easter_76 : decode cX11_easter 76 = .ok (.ireturn, 1) := by decide +kernel
theorem dX11_entry_0 : decode cX11_entry 0 = .ok (.aload_n 0, 1) := by decide +kernel
theorem dX11_entry_1 : decode cX11_entry 1 = .ok (.iload_n 1, 1) := by decide +kernel
theorem dX11_entry_2 : decode cX11_entry 2 = .ok (.iload_n 2, 1) := by decide +kernel
theorem dX11_entry_3 : decode cX11_entry 3 = .ok (.iload_n 3, 1) := by decide +kernel
theorem dX11_entry_4 : decode cX11_entry 4 = .ok (.iload 4, 2) := by decide +kernel
theorem dX11_entry_6 : decode cX11_entry 6 = .ok (.invokevirtual 331, 3) := by decide +kernel
theorem dX11_entry_9 : decode cX11_entry 9 = .ok (.ifCond .eq 14, 3) := by decide +kernel
theorem dX11_entry_23 : decode cX11_entry 23 = .ok (.iconst (-1), 1) := by decide +kernel
theorem dX11_entry_24 : decode cX11_entry 24 = .ok (.ireturn, 1) := by decide +kernel
theorem dX11_fault_0 : decode cX11_fault 0 = .ok (.iload_n 1, 1) := by decide +kernel
theorem dX11_fault_1 : decode cX11_fault 1 = .ok (.lookupswitch 37 #[(0, 27), (1, 32)], 27) := by decide +kernel
theorem dX11_fault_28 : decode cX11_fault 28 = .ok (.aload_n 0, 1) := by decide +kernel
theorem dX11_fault_29 : decode cX11_fault 29 = .ok (.getfield 90, 3) := by decide +kernel
theorem dX11_fault_32 : decode cX11_fault 32 = .ok (.ireturn, 1) := by decide +kernel
theorem dX11_fault_33 : decode cX11_fault 33 = .ok (.aload_n 0, 1) := by decide +kernel
theorem dX11_fault_34 : decode cX11_fault 34 = .ok (.getfield 93, 3) := by decide +kernel
theorem dX11_fault_37 : decode cX11_fault 37 = .ok (.ireturn, 1) := by decide +kernel
theorem dX11_fault_38 : decode cX11_fault 38 = .ok (.iconst (-1), 1) := by decide +kernel
theorem dX11_fault_39 : decode cX11_fault 39 = .ok (.ireturn, 1) := by decide +kernel
theorem dX11_feed_0 : decode cX11_feed 0 = .ok (.aload_n 0, 1) := by decide +kernel
theorem dX11_feed_1 : decode cX11_feed 1 = .ok (.getfield 86, 3) := by decide +kernel
theorem dX11_feed_4 : decode cX11_feed 4 = .ok (.bipush 20, 2) := by decide +kernel
theorem dX11_feed_6 : decode cX11_feed 6 = .ok (.iadd, 1) := by decide +kernel
theorem dX11_feed_7 : decode cX11_feed 7 = .ok (.sipush 800, 3) := by decide +kernel
theorem dX11_feed_10 : decode cX11_feed 10 = .ok (.if_icmp .le 5, 3) := by decide +kernel
theorem dX11_feed_15 : decode cX11_feed 15 = .ok (.aload_n 0, 1) := by decide +kernel
theorem dX11_feed_16 : decode cX11_feed 16 = .ok (.iload_n 1, 1) := by decide +kernel
theorem dX11_feed_17 : decode cX11_feed 17 = .ok (.invokevirtual 104, 3) := by decide +kernel
theorem dX11_feed_20 : decode cX11_feed 20 = .ok (.aload_n 0, 1) := by decide +kernel
theorem dX11_feed_21 : decode cX11_feed 21 = .ok (.iload_n 2, 1) := by decide +kernel
theorem dX11_feed_22 : decode cX11_feed 22 = .ok (.invokevirtual 104, 3) := by decide +kernel
theorem dX11_feed_25 : decode cX11_feed 25 = .ok (.aload_n 0, 1) := by decide +kernel
theorem dX11_feed_26 : decode cX11_feed 26 = .ok (.iload_n 3, 1) := by decide +kernel
theorem dX11_feed_27 : decode cX11_feed 27 = .ok (.invokevirtual 104, 3) := by decide +kernel
theorem dX11_feed_30 : decode cX11_feed 30 = .ok (.aload_n 0, 1) := by decide +kernel
theorem dX11_feed_31 : decode cX11_feed 31 = .ok (.iload 4, 2) := by decide +kernel
theorem dX11_feed_33 : decode cX11_feed 33 = .ok (.invokevirtual 104, 3) := by decide +kernel
theorem dX11_feed_36 : decode cX11_feed 36 = .ok (.aload_n 0, 1) := by decide +kernel
theorem dX11_feed_37 : decode cX11_feed 37 = .ok (.iload 5, 2) := by decide +kernel
theorem dX11_feed_39 : decode cX11_feed 39 = .ok (.invokevirtual 104, 3) := by decide +kernel
theorem dX11_feed_42 : decode cX11_feed 42 = .ok (.aload_n 0, 1) := by decide +kernel
theorem dX11_feed_43 : decode cX11_feed 43 = .ok (.getfield 86, 3) := by decide +kernel
theorem dX11_feed_46 : decode cX11_feed 46 = .ok (.ireturn, 1) := by decide +kernel
theorem dX11_gang_0 : decode cX11_gang 0 = .ok (.aload_n 0, 1) := by decide +kernel
theorem dX11_gang_1 : decode cX11_gang 1 = .ok (.getfield 50, 3) := by decide +kernel
theorem dX11_gang_4 : decode cX11_gang 4 = .ok (.aload_n 0, 1) := by decide +kernel
theorem dX11_gang_5 : decode cX11_gang 5 = .ok (.invokevirtual 302, 3) := by decide +kernel
theorem dX11_gang_8 : decode cX11_gang 8 = .ok (.invokevirtual 306, 3) := by decide +kernel
theorem dX11_gang_11 : decode cX11_gang 11 = .ok (.lstore_n 1, 1) := by decide +kernel
theorem dX11_gang_12 : decode cX11_gang 12 = .ok (.bipush (-2), 2) := by decide +kernel
theorem dX11_gang_14 : decode cX11_gang 14 = .ok (.istore_n 3, 1) := by decide +kernel
theorem dX11_gang_15 : decode cX11_gang 15 = .ok (.bipush 7, 2) := by decide +kernel
theorem dX11_gang_17 : decode cX11_gang 17 = .ok (.istore 4, 2) := by decide +kernel
theorem dX11_gang_19 : decode cX11_gang 19 = .ok (.iconst 0, 1) := by decide +kernel
theorem dX11_gang_20 : decode cX11_gang 20 = .ok (.istore 5, 2) := by decide +kernel
theorem dX11_gang_22 : decode cX11_gang 22 = .ok (.iload 5, 2) := by decide +kernel
theorem dX11_gang_24 : decode cX11_gang 24 = .ok (.iconst 1, 1) := by decide +kernel
theorem dX11_gang_25 : decode cX11_gang 25 = .ok (.aload_n 0, 1) := by decide +kernel
theorem dX11_gang_26 : decode cX11_gang 26 = .ok (.getfield 16, 3) := by decide +kernel
theorem dX11_gang_29 : decode cX11_gang 29 = .ok (.getfield 136, 3) := by decide +kernel
theorem dX11_gang_32 : decode cX11_gang 32 = .ok (.getfield 292, 3) := by decide +kernel
theorem dX11_gang_35 : decode cX11_gang 35 = .ok (.ishl, 1) := by decide +kernel
theorem dX11_gang_36 : decode cX11_gang 36 = .ok (.if_icmp .ge 60, 3) := by decide +kernel
theorem dX11_gang_39 : decode cX11_gang 39 = .ok (.iload 5, 2) := by decide +kernel
theorem dX11_gang_41 : decode cX11_gang 41 = .ok (.invokestatic 216, 3) := by decide +kernel
theorem dX11_gang_44 : decode cX11_gang 44 = .ok (.istore 6, 2) := by decide +kernel
theorem dX11_gang_46 : decode cX11_gang 46 = .ok (.iload 6, 2) := by decide +kernel
theorem dX11_gang_48 : decode cX11_gang 48 = .ok (.iload 4, 2) := by decide +kernel
theorem dX11_gang_50 : decode cX11_gang 50 = .ok (.if_icmp .ge 40, 3) := by decide +kernel
theorem dX11_gang_53 : decode cX11_gang 53 = .ok (.iload 5, 2) := by decide +kernel
theorem dX11_gang_55 : decode cX11_gang 55 = .ok (.aload_n 0, 1) := by decide +kernel
theorem dX11_gang_56 : decode cX11_gang 56 = .ok (.getfield 40, 3) := by decide +kernel
theorem dX11_gang_59 : decode cX11_gang 59 = .ok (.getfield 325, 3) := by decide +kernel
theorem dX11_gang_62 : decode cX11_gang 62 = .ok (.iand, 1) := by decide +kernel
theorem dX11_gang_63 : decode cX11_gang 63 = .ok (.ifCond .ne 27, 3) := by decide +kernel
theorem dX11_gang_66 : decode cX11_gang 66 = .ok (.lload_n 1, 1) := by decide +kernel
theorem dX11_gang_67 : decode cX11_gang 67 = .ok (.aload_n 0, 1) := by decide +kernel
theorem dX11_gang_68 : decode cX11_gang 68 = .ok (.iload 5, 2) := by decide +kernel
theorem dX11_gang_70 : decode cX11_gang 70 = .ok (.invokevirtual 328, 3) := by decide +kernel
theorem dX11_gang_73 : decode cX11_gang 73 = .ok (.ldc2_w 313, 3) := by decide +kernel
theorem dX11_gang_76 : decode cX11_gang 76 = .ok (.lxor, 1) := by decide +kernel
theorem dX11_gang_77 : decode cX11_gang 77 = .ok (.land, 1) := by decide +kernel
theorem dX11_gang_78 : decode cX11_gang 78 = .ok (.lconst 0, 1) := by decide +kernel
theorem dX11_gang_79 : decode cX11_gang 79 = .ok (.lcmp, 1) := by decide +kernel
theorem dX11_gang_80 : decode cX11_gang 80 = .ok (.ifCond .ne 10, 3) := by decide +kernel
theorem dX11_gang_83 : decode cX11_gang 83 = .ok (.iload 6, 2) := by decide +kernel
theorem dX11_gang_85 : decode cX11_gang 85 = .ok (.istore 4, 2) := by decide +kernel
theorem dX11_gang_87 : decode cX11_gang 87 = .ok (.iload 5, 2) := by decide +kernel
theorem dX11_gang_89 : decode cX11_gang 89 = .ok (.istore_n 3, 1) := by decide +kernel
theorem dX11_gang_90 : decode cX11_gang 90 = .ok (.iinc 5 1, 3) := by decide +kernel
theorem dX11_gang_93 : decode cX11_gang 93 = .ok (.goto (-71), 3) := by decide +kernel
theorem dX11_gang_96 : decode cX11_gang 96 = .ok (.iload_n 3, 1) := by decide +kernel
theorem dX11_gang_97 : decode cX11_gang 97 = .ok (.ireturn, 1) := by decide +kernel
theorem dX11_hum_0 : decode cX11_hum 0 = .ok (.iload_n 1, 1) := by decide +kernel
theorem dX11_hum_1 : decode cX11_hum 1 = .ok (.iconst 1, 1) := by decide +kernel
theorem dX11_hum_2 : decode cX11_hum 2 = .ok (.if_icmp .lt 20, 3) := by decide +kernel
theorem dX11_hum_5 : decode cX11_hum 5 = .ok (.iload_n 1, 1) := by decide +kernel
theorem dX11_hum_6 : decode cX11_hum 6 = .ok (.bipush 40, 2) := by decide +kernel
theorem dX11_hum_8 : decode cX11_hum 8 = .ok (.if_icmp .gt 14, 3) := by decide +kernel
theorem dX11_hum_11 : decode cX11_hum 11 = .ok (.aload_n 0, 1) := by decide +kernel
theorem dX11_hum_12 : decode cX11_hum 12 = .ok (.getfield 50, 3) := by decide +kernel
theorem dX11_hum_15 : decode cX11_hum 15 = .ok (.iload_n 1, 1) := by decide +kernel
theorem dX11_hum_16 : decode cX11_hum 16 = .ok (.invokevirtual 296, 3) := by decide +kernel
theorem dX11_hum_19 : decode cX11_hum 19 = .ok (.goto 4, 3) := by decide +kernel
theorem dX11_hum_22 : decode cX11_hum 22 = .ok (.iconst (-1), 1) := by decide +kernel
theorem dX11_hum_23 : decode cX11_hum 23 = .ok (.ireturn, 1) := by decide +kernel
theorem dX11_isRound_0 : decode cX11_isRound 0 = .ok (.aload_n 0, 1) := by decide +kernel
theorem dX11_isRound_1 : decode cX11_isRound 1 = .ok (.getfield 16, 3) := by decide +kernel
theorem dX11_isRound_4 : decode cX11_isRound 4 = .ok (.iload_n 1, 1) := by decide +kernel
theorem dX11_isRound_5 : decode cX11_isRound 5 = .ok (.iload_n 2, 1) := by decide +kernel
theorem dX11_isRound_6 : decode cX11_isRound 6 = .ok (.invokevirtual 195, 3) := by decide +kernel
theorem dX11_isRound_9 : decode cX11_isRound 9 = .ok (.ifCond .eq 30, 3) := by decide +kernel
theorem dX11_isRound_39 : decode cX11_isRound 39 = .ok (.iconst 0, 1) := by decide +kernel
theorem dX11_isRound_40 : decode cX11_isRound 40 = .ok (.ireturn, 1) := by decide +kernel
theorem dX11_keep_0 : decode cX11_keep 0 = .ok (.aload_n 0, 1) := by decide +kernel
theorem dX11_keep_1 : decode cX11_keep 1 = .ok (.getfield 44, 3) := by decide +kernel
theorem dX11_keep_4 : decode cX11_keep 4 = .ok (.aload_n 0, 1) := by decide +kernel
theorem dX11_keep_5 : decode cX11_keep 5 = .ok (.getfield 40, 3) := by decide +kernel
theorem dX11_keep_8 : decode cX11_keep 8 = .ok (.invokevirtual 354, 3) := by decide +kernel
theorem dX11_keep_11 : decode cX11_keep 11 = .ok (.aload_n 0, 1) := by decide +kernel
theorem dX11_keep_12 : decode cX11_keep 12 = .ok (.iconst 1, 1) := by decide +kernel
theorem dX11_keep_13 : decode cX11_keep 13 = .ok (.putfield 96, 3) := by decide +kernel
theorem dX11_keep_16 : decode cX11_keep 16 = .ok (.aload_n 0, 1) := by decide +kernel
theorem dX11_keep_17 : decode cX11_keep 17 = .ok (.getfield 40, 3) := by decide +kernel
theorem dX11_keep_20 : decode cX11_keep 20 = .ok (.getfield 227, 3) := by decide +kernel
theorem dX11_keep_23 : decode cX11_keep 23 = .ok (.ireturn, 1) := by decide +kernel
theorem dX11_known_0 : decode cX11_known 0 = .ok (.iload_n 1, 1) := by decide +kernel
theorem dX11_known_1 : decode cX11_known 1 = .ok (.iconst (-1), 1) := by decide +kernel
theorem dX11_known_2 : decode cX11_known 2 = .ok (.if_icmp .lt 14, 3) := by decide +kernel
theorem dX11_known_5 : decode cX11_known 5 = .ok (.iload_n 1, 1) := by decide +kernel
theorem dX11_known_6 : decode cX11_known 6 = .ok (.aload_n 0, 1) := by decide +kernel
theorem dX11_known_7 : decode cX11_known 7 = .ok (.getfield 50, 3) := by decide +kernel
theorem dX11_known_10 : decode cX11_known 10 = .ok (.getfield 121, 3) := by decide +kernel
theorem dX11_known_13 : decode cX11_known 13 = .ok (.if_icmp .le 5, 3) := by decide +kernel
theorem dX11_known_16 : decode cX11_known 16 = .ok (.iconst 0, 1) := by decide +kernel
theorem dX11_known_17 : decode cX11_known 17 = .ok (.ireturn, 1) := by decide +kernel
theorem dX11_known_18 : decode cX11_known 18 = .ok (.aload_n 0, 1) := by decide +kernel
theorem dX11_known_19 : decode cX11_known 19 = .ok (.getfield 40, 3) := by decide +kernel
theorem dX11_known_22 : decode cX11_known 22 = .ok (.iload_n 1, 1) := by decide +kernel
theorem dX11_known_23 : decode cX11_known 23 = .ok (.putfield 299, 3) := by decide +kernel
theorem dX11_known_26 : decode cX11_known 26 = .ok (.iconst 1, 1) := by decide +kernel
theorem dX11_known_27 : decode cX11_known 27 = .ok (.ireturn, 1) := by decide +kernel
theorem dX11_knownCount_0 : decode cX11_knownCount 0 = .ok (.aload_n 0, 1) := by decide +kernel
theorem dX11_knownCount_1 : decode cX11_knownCount 1 = .ok (.getfield 40, 3) := by decide +kernel
theorem dX11_knownCount_4 : decode cX11_knownCount 4 = .ok (.getfield 299, 3) := by decide +kernel
theorem dX11_knownCount_7 : decode cX11_knownCount 7 = .ok (.iconst (-1), 1) := by decide +kernel
theorem dX11_knownCount_8 : decode cX11_knownCount 8 = .ok (.if_icmp .ne 13, 3) := by decide +kernel
theorem dX11_knownCount_11 : decode cX11_knownCount 11 = .ok (.aload_n 0, 1) := by decide +kernel
theorem dX11_knownCount_12 : decode cX11_knownCount 12 = .ok (.getfield 50, 3) := by decide +kernel
theorem dX11_knownCount_15 : decode cX11_knownCount 15 = .ok (.getfield 121, 3) := by decide +kernel
theorem dX11_knownCount_18 : decode cX11_knownCount 18 = .ok (.goto 10, 3) := by decide +kernel
theorem dX11_knownCount_28 : decode cX11_knownCount 28 = .ok (.ireturn, 1) := by decide +kernel
theorem dX11_named_0 : decode cX11_named 0 = .ok (.iload_n 1, 1) := by decide +kernel
theorem dX11_named_1 : decode cX11_named 1 = .ok (.tableswitch 79 0 3 #[31, 43, 55, 67], 31) := by decide +kernel
theorem dX11_named_32 : decode cX11_named 32 = .ok (.aload_n 0, 1) := by decide +kernel
theorem dX11_named_33 : decode cX11_named 33 = .ok (.getfield 16, 3) := by decide +kernel
theorem dX11_named_36 : decode cX11_named 36 = .ok (.getfield 127, 3) := by decide +kernel
theorem dX11_named_39 : decode cX11_named 39 = .ok (.iload_n 2, 1) := by decide +kernel
theorem dX11_named_40 : decode cX11_named 40 = .ok (.invokevirtual 131, 3) := by decide +kernel
theorem dX11_named_43 : decode cX11_named 43 = .ok (.ireturn, 1) := by decide +kernel
theorem dX11_named_44 : decode cX11_named 44 = .ok (.aload_n 0, 1) := by decide +kernel
theorem dX11_named_45 : decode cX11_named 45 = .ok (.getfield 16, 3) := by decide +kernel
theorem dX11_named_48 : decode cX11_named 48 = .ok (.getfield 136, 3) := by decide +kernel
theorem dX11_named_51 : decode cX11_named 51 = .ok (.iload_n 2, 1) := by decide +kernel
theorem dX11_named_52 : decode cX11_named 52 = .ok (.invokevirtual 131, 3) := by decide +kernel
theorem dX11_named_55 : decode cX11_named 55 = .ok (.ireturn, 1) := by decide +kernel
theorem dX11_named_56 : decode cX11_named 56 = .ok (.aload_n 0, 1) := by decide +kernel
theorem dX11_named_57 : decode cX11_named 57 = .ok (.getfield 16, 3) := by decide +kernel
theorem dX11_named_60 : decode cX11_named 60 = .ok (.getfield 139, 3) := by decide +kernel
theorem dX11_named_63 : decode cX11_named 63 = .ok (.iload_n 2, 1) := by decide +kernel
theorem dX11_named_64 : decode cX11_named 64 = .ok (.invokevirtual 131, 3) := by decide +kernel
theorem dX11_named_67 : decode cX11_named 67 = .ok (.ireturn, 1) := by decide +kernel
theorem dX11_named_68 : decode cX11_named 68 = .ok (.aload_n 0, 1) := by decide +kernel
theorem dX11_named_69 : decode cX11_named 69 = .ok (.getfield 16, 3) := by decide +kernel
theorem dX11_named_72 : decode cX11_named 72 = .ok (.getfield 142, 3) := by decide +kernel
theorem dX11_named_75 : decode cX11_named 75 = .ok (.iload_n 2, 1) := by decide +kernel
theorem dX11_named_76 : decode cX11_named 76 = .ok (.invokevirtual 131, 3) := by decide +kernel
theorem dX11_named_79 : decode cX11_named 79 = .ok (.ireturn, 1) := by decide +kernel
theorem dX11_named_80 : decode cX11_named 80 = .ok (.iconst (-1), 1) := by decide +kernel
theorem dX11_named_81 : decode cX11_named 81 = .ok (.ireturn, 1) := by decide +kernel
theorem dX11_odds_0 : decode cX11_odds 0 = .ok (.aload_n 0, 1) := by decide +kernel
theorem dX11_odds_1 : decode cX11_odds 1 = .ok (.getfield 16, 3) := by decide +kernel
theorem dX11_odds_4 : decode cX11_odds 4 = .ok (.getfield 136, 3) := by decide +kernel
theorem dX11_odds_7 : decode cX11_odds 7 = .ok (.iload_n 1, 1) := by decide +kernel
theorem dX11_odds_8 : decode cX11_odds 8 = .ok (.invokevirtual 145, 3) := by decide +kernel
theorem dX11_odds_11 : decode cX11_odds 11 = .ok (.ifCond .eq 12, 3) := by decide +kernel
theorem dX11_odds_23 : decode cX11_odds 23 = .ok (.iconst (-1), 1) := by decide +kernel
theorem dX11_odds_24 : decode cX11_odds 24 = .ok (.ireturn, 1) := by decide +kernel
theorem dX11_pay_0 : decode cX11_pay 0 = .ok (.aload_n 0, 1) := by decide +kernel
theorem dX11_pay_1 : decode cX11_pay 1 = .ok (.getfield 16, 3) := by decide +kernel
theorem dX11_pay_4 : decode cX11_pay 4 = .ok (.getfield 127, 3) := by decide +kernel
theorem dX11_pay_7 : decode cX11_pay 7 = .ok (.iload_n 1, 1) := by decide +kernel
theorem dX11_pay_8 : decode cX11_pay 8 = .ok (.invokevirtual 145, 3) := by decide +kernel
theorem dX11_pay_11 : decode cX11_pay 11 = .ok (.ifCond .ne 5, 3) := by decide +kernel
theorem dX11_pay_14 : decode cX11_pay 14 = .ok (.iconst (-1), 1) := by decide +kernel
theorem dX11_pay_15 : decode cX11_pay 15 = .ok (.ireturn, 1) := by decide +kernel
theorem dX11_pitch_0 : decode cX11_pitch 0 = .ok (.aload_n 0, 1) := by decide +kernel
theorem dX11_pitch_1 : decode cX11_pitch 1 = .ok (.getfield 16, 3) := by decide +kernel
theorem dX11_pitch_4 : decode cX11_pitch 4 = .ok (.iload_n 1, 1) := by decide +kernel
theorem dX11_pitch_5 : decode cX11_pitch 5 = .ok (.iload_n 2, 1) := by decide +kernel
theorem dX11_pitch_6 : decode cX11_pitch 6 = .ok (.invokevirtual 195, 3) := by decide +kernel
theorem dX11_pitch_9 : decode cX11_pitch 9 = .ok (.ifCond .ne 5, 3) := by decide +kernel
theorem dX11_pitch_12 : decode cX11_pitch 12 = .ok (.iconst (-1), 1) := by decide +kernel
theorem dX11_pitch_13 : decode cX11_pitch 13 = .ok (.ireturn, 1) := by decide +kernel
theorem dX11_reachOf_0 : decode cX11_reachOf 0 = .ok (.lconst 0, 1) := by decide +kernel
theorem dX11_reachOf_1 : decode cX11_reachOf 1 = .ok (.lstore_n 2, 1) := by decide +kernel
theorem dX11_reachOf_2 : decode cX11_reachOf 2 = .ok (.iconst 0, 1) := by decide +kernel
theorem dX11_reachOf_3 : decode cX11_reachOf 3 = .ok (.istore 4, 2) := by decide +kernel
theorem dX11_reachOf_5 : decode cX11_reachOf 5 = .ok (.iload 4, 2) := by decide +kernel
theorem dX11_reachOf_7 : decode cX11_reachOf 7 = .ok (.aload_n 0, 1) := by decide +kernel
theorem dX11_reachOf_8 : decode cX11_reachOf 8 = .ok (.getfield 16, 3) := by decide +kernel
theorem dX11_reachOf_11 : decode cX11_reachOf 11 = .ok (.getfield 136, 3) := by decide +kernel
theorem dX11_reachOf_14 : decode cX11_reachOf 14 = .ok (.getfield 292, 3) := by decide +kernel
theorem dX11_reachOf_17 : decode cX11_reachOf 17 = .ok (.if_icmp .ge 30, 3) := by decide +kernel
theorem dX11_reachOf_47 : decode cX11_reachOf 47 = .ok (.lload_n 2, 1) := by decide +kernel
theorem dX11_reachOf_48 : decode cX11_reachOf 48 = .ok (.lreturn, 1) := by decide +kernel
theorem dX11_redeem_0 : decode cX11_redeem 0 = .ok (.aload_n 0, 1) := by decide +kernel
theorem dX11_redeem_1 : decode cX11_redeem 1 = .ok (.getfield 16, 3) := by decide +kernel
theorem dX11_redeem_4 : decode cX11_redeem 4 = .ok (.iload_n 1, 1) := by decide +kernel
theorem dX11_redeem_5 : decode cX11_redeem 5 = .ok (.iload_n 2, 1) := by decide +kernel
theorem dX11_redeem_6 : decode cX11_redeem 6 = .ok (.invokevirtual 195, 3) := by decide +kernel
theorem dX11_redeem_9 : decode cX11_redeem 9 = .ok (.ifCond .eq 28, 3) := by decide +kernel
theorem dX11_redeem_37 : decode cX11_redeem 37 = .ok (.iconst (-1), 1) := by decide +kernel
theorem dX11_redeem_38 : decode cX11_redeem 38 = .ok (.ireturn, 1) := by decide +kernel
theorem dX11_round_0 : decode cX11_round 0 = .ok (.aload_n 0, 1) := by decide +kernel
theorem dX11_round_1 : decode cX11_round 1 = .ok (.iload_n 1, 1) := by decide +kernel
theorem dX11_round_2 : decode cX11_round 2 = .ok (.iload_n 2, 1) := by decide +kernel
theorem dX11_round_3 : decode cX11_round 3 = .ok (.iload_n 3, 1) := by decide +kernel
theorem dX11_round_4 : decode cX11_round 4 = .ok (.iload 4, 2) := by decide +kernel
theorem dX11_round_6 : decode cX11_round 6 = .ok (.invokevirtual 331, 3) := by decide +kernel
theorem dX11_round_9 : decode cX11_round 9 = .ok (.ifCond .ne 5, 3) := by decide +kernel
theorem dX11_round_12 : decode cX11_round 12 = .ok (.iconst (-1), 1) := by decide +kernel
theorem dX11_round_13 : decode cX11_round 13 = .ok (.ireturn, 1) := by decide +kernel
theorem dX11_run_0 : decode cX11_run 0 = .ok (.aload_n 0, 1) := by decide +kernel
theorem dX11_run_1 : decode cX11_run 1 = .ok (.getfield 16, 3) := by decide +kernel
theorem dX11_run_4 : decode cX11_run 4 = .ok (.getfield 127, 3) := by decide +kernel
theorem dX11_run_7 : decode cX11_run 7 = .ok (.iload_n 1, 1) := by decide +kernel
theorem dX11_run_8 : decode cX11_run 8 = .ok (.invokevirtual 145, 3) := by decide +kernel
theorem dX11_run_11 : decode cX11_run 11 = .ok (.ifCond .ne 5, 3) := by decide +kernel
theorem dX11_run_14 : decode cX11_run 14 = .ok (.iconst (-1), 1) := by decide +kernel
theorem dX11_run_15 : decode cX11_run 15 = .ok (.ireturn, 1) := by decide +kernel
theorem dX11_sings_0 : decode cX11_sings 0 = .ok (.aload_n 0, 1) := by decide +kernel
theorem dX11_sings_1 : decode cX11_sings 1 = .ok (.getfield 16, 3) := by decide +kernel
theorem dX11_sings_4 : decode cX11_sings 4 = .ok (.iload_n 1, 1) := by decide +kernel
theorem dX11_sings_5 : decode cX11_sings 5 = .ok (.iload_n 2, 1) := by decide +kernel
theorem dX11_sings_6 : decode cX11_sings 6 = .ok (.invokevirtual 195, 3) := by decide +kernel
theorem dX11_sings_9 : decode cX11_sings 9 = .ok (.ifCond .ne 5, 3) := by decide +kernel
theorem dX11_sings_12 : decode cX11_sings 12 = .ok (.iconst (-1), 1) := by decide +kernel
theorem dX11_sings_13 : decode cX11_sings 13 = .ok (.ireturn, 1) := by decide +kernel
theorem dX11_sold_0 : decode cX11_sold 0 = .ok (.aload_n 0, 1) := by decide +kernel
theorem dX11_sold_1 : decode cX11_sold 1 = .ok (.getfield 16, 3) := by decide +kernel
theorem dX11_sold_4 : decode cX11_sold 4 = .ok (.iload_n 1, 1) := by decide +kernel
theorem dX11_sold_5 : decode cX11_sold 5 = .ok (.invokevirtual 280, 3) := by decide +kernel
theorem dX11_sold_8 : decode cX11_sold 8 = .ok (.ifCond .eq 26, 3) := by decide +kernel
theorem dX11_sold_11 : decode cX11_sold 11 = .ok (.aload_n 0, 1) := by decide +kernel
theorem dX11_sold_12 : decode cX11_sold 12 = .ok (.getfield 16, 3) := by decide +kernel
theorem dX11_sold_15 : decode cX11_sold 15 = .ok (.getfield 139, 3) := by decide +kernel
theorem dX11_sold_18 : decode cX11_sold 18 = .ok (.iload_n 2, 1) := by decide +kernel
theorem dX11_sold_19 : decode cX11_sold 19 = .ok (.invokevirtual 145, 3) := by decide +kernel
theorem dX11_sold_22 : decode cX11_sold 22 = .ok (.ifCond .eq 12, 3) := by decide +kernel
theorem dX11_sold_34 : decode cX11_sold 34 = .ok (.iconst (-1), 1) := by decide +kernel
theorem dX11_sold_35 : decode cX11_sold 35 = .ok (.ireturn, 1) := by decide +kernel
theorem dX11_sounds_0 : decode cX11_sounds 0 = .ok (.aload_n 0, 1) := by decide +kernel
theorem dX11_sounds_1 : decode cX11_sounds 1 = .ok (.getfield 16, 3) := by decide +kernel
theorem dX11_sounds_4 : decode cX11_sounds 4 = .ok (.iload_n 1, 1) := by decide +kernel
theorem dX11_sounds_5 : decode cX11_sounds 5 = .ok (.iload_n 2, 1) := by decide +kernel
theorem dX11_sounds_6 : decode cX11_sounds 6 = .ok (.invokevirtual 195, 3) := by decide +kernel
theorem dX11_sounds_9 : decode cX11_sounds 9 = .ok (.ifCond .eq 17, 3) := by decide +kernel
theorem dX11_sounds_26 : decode cX11_sounds 26 = .ok (.iconst (-1), 1) := by decide +kernel
theorem dX11_sounds_27 : decode cX11_sounds 27 = .ok (.ireturn, 1) := by decide +kernel
theorem dX11_strike_0 : decode cX11_strike 0 = .ok (.iload_n 1, 1) := by decide +kernel
theorem dX11_strike_1 : decode cX11_strike 1 = .ok (.ifCond .lt 27, 3) := by decide +kernel
theorem dX11_strike_4 : decode cX11_strike 4 = .ok (.iload_n 1, 1) := by decide +kernel
theorem dX11_strike_5 : decode cX11_strike 5 = .ok (.aload_n 0, 1) := by decide +kernel
theorem dX11_strike_6 : decode cX11_strike 6 = .ok (.getfield 50, 3) := by decide +kernel
theorem dX11_strike_9 : decode cX11_strike 9 = .ok (.getfield 121, 3) := by decide +kernel
theorem dX11_strike_12 : decode cX11_strike 12 = .ok (.if_icmp .ge 16, 3) := by decide +kernel
theorem dX11_strike_28 : decode cX11_strike 28 = .ok (.iconst (-1), 1) := by decide +kernel
theorem dX11_strike_29 : decode cX11_strike 29 = .ok (.ireturn, 1) := by decide +kernel
theorem dX11_sunday_0 : decode cX11_sunday 0 = .ok (.iconst 0, 1) := by decide +kernel
theorem dX11_sunday_1 : decode cX11_sunday 1 = .ok (.istore_n 1, 1) := by decide +kernel
theorem dX11_sunday_2 : decode cX11_sunday 2 = .ok (.iconst 0, 1) := by decide +kernel
theorem dX11_sunday_3 : decode cX11_sunday 3 = .ok (.istore_n 2, 1) := by decide +kernel
theorem dX11_sunday_4 : decode cX11_sunday 4 = .ok (.iload_n 2, 1) := by decide +kernel
theorem dX11_sunday_5 : decode cX11_sunday 5 = .ok (.aload_n 0, 1) := by decide +kernel
theorem dX11_sunday_6 : decode cX11_sunday 6 = .ok (.getfield 40, 3) := by decide +kernel
theorem dX11_sunday_9 : decode cX11_sunday 9 = .ok (.getfield 246, 3) := by decide +kernel
theorem dX11_sunday_12 : decode cX11_sunday 12 = .ok (.if_icmp .ge 25, 3) := by decide +kernel
theorem dX11_sunday_37 : decode cX11_sunday 37 = .ok (.aload_n 0, 1) := by decide +kernel
theorem dX11_sunday_38 : decode cX11_sunday 38 = .ok (.getfield 40, 3) := by decide +kernel
theorem dX11_sunday_41 : decode cX11_sunday 41 = .ok (.invokevirtual 261, 3) := by decide +kernel
theorem dX11_sunday_44 : decode cX11_sunday 44 = .ok (.aload_n 0, 1) := by decide +kernel
theorem dX11_sunday_45 : decode cX11_sunday 45 = .ok (.invokevirtual 264, 3) := by decide +kernel
theorem dX11_sunday_48 : decode cX11_sunday 48 = .ok (.aload_n 0, 1) := by decide +kernel
theorem dX11_sunday_49 : decode cX11_sunday 49 = .ok (.getfield 40, 3) := by decide +kernel
theorem dX11_sunday_52 : decode cX11_sunday 52 = .ok (.dup, 1) := by decide +kernel
theorem dX11_sunday_53 : decode cX11_sunday 53 = .ok (.getfield 227, 3) := by decide +kernel
theorem dX11_sunday_56 : decode cX11_sunday 56 = .ok (.iconst 1, 1) := by decide +kernel
theorem dX11_sunday_57 : decode cX11_sunday 57 = .ok (.iadd, 1) := by decide +kernel
theorem dX11_sunday_58 : decode cX11_sunday 58 = .ok (.putfield 227, 3) := by decide +kernel
theorem dX11_sunday_61 : decode cX11_sunday 61 = .ok (.aload_n 0, 1) := by decide +kernel
theorem dX11_sunday_62 : decode cX11_sunday 62 = .ok (.getfield 68, 3) := by decide +kernel
theorem dX11_sunday_65 : decode cX11_sunday 65 = .ok (.iconst 0, 1) := by decide +kernel
theorem dX11_sunday_66 : decode cX11_sunday 66 = .ok (.putfield 124, 3) := by decide +kernel
theorem dX11_sunday_69 : decode cX11_sunday 69 = .ok (.iload_n 1, 1) := by decide +kernel
theorem dX11_sunday_70 : decode cX11_sunday 70 = .ok (.ireturn, 1) := by decide +kernel
theorem dX11_tapeNumber_0 : decode cX11_tapeNumber 0 = .ok (.bipush 24, 2) := by decide +kernel
theorem dX11_tapeNumber_2 : decode cX11_tapeNumber 2 = .ok (.istore_n 2, 1) := by decide +kernel
theorem dX11_tapeNumber_3 : decode cX11_tapeNumber 3 = .ok (.iload_n 2, 1) := by decide +kernel
theorem dX11_tapeNumber_4 : decode cX11_tapeNumber 4 = .ok (.ifCond .lt 42, 3) := by decide +kernel
theorem dX11_tapeNumber_7 : decode cX11_tapeNumber 7 = .ok (.aload_n 0, 1) := by decide +kernel
theorem dX11_tapeNumber_8 : decode cX11_tapeNumber 8 = .ok (.getfield 86, 3) := by decide +kernel
theorem dX11_tapeNumber_11 : decode cX11_tapeNumber 11 = .ok (.sipush 800, 3) := by decide +kernel
theorem dX11_tapeNumber_14 : decode cX11_tapeNumber 14 = .ok (.if_icmp .ge 32, 3) := by decide +kernel
theorem dX11_tapeNumber_17 : decode cX11_tapeNumber 17 = .ok (.aload_n 0, 1) := by decide +kernel
theorem dX11_tapeNumber_18 : decode cX11_tapeNumber 18 = .ok (.getfield 9, 3) := by decide +kernel
theorem dX11_tapeNumber_21 : decode cX11_tapeNumber 21 = .ok (.aload_n 0, 1) := by decide +kernel
theorem dX11_tapeNumber_22 : decode cX11_tapeNumber 22 = .ok (.getfield 86, 3) := by decide +kernel
theorem dX11_tapeNumber_25 : decode cX11_tapeNumber 25 = .ok (.iload_n 1, 1) := by decide +kernel
theorem dX11_tapeNumber_26 : decode cX11_tapeNumber 26 = .ok (.iload_n 2, 1) := by decide +kernel
theorem dX11_tapeNumber_27 : decode cX11_tapeNumber 27 = .ok (.ishr, 1) := by decide +kernel
theorem dX11_tapeNumber_28 : decode cX11_tapeNumber 28 = .ok (.i2b, 1) := by decide +kernel
theorem dX11_tapeNumber_29 : decode cX11_tapeNumber 29 = .ok (.bastore, 1) := by decide +kernel
theorem dX11_tapeNumber_30 : decode cX11_tapeNumber 30 = .ok (.aload_n 0, 1) := by decide +kernel
theorem dX11_tapeNumber_31 : decode cX11_tapeNumber 31 = .ok (.dup, 1) := by decide +kernel
theorem dX11_tapeNumber_32 : decode cX11_tapeNumber 32 = .ok (.getfield 86, 3) := by decide +kernel
theorem dX11_tapeNumber_35 : decode cX11_tapeNumber 35 = .ok (.iconst 1, 1) := by decide +kernel
theorem dX11_tapeNumber_36 : decode cX11_tapeNumber 36 = .ok (.iadd, 1) := by decide +kernel
theorem dX11_tapeNumber_37 : decode cX11_tapeNumber 37 = .ok (.putfield 86, 3) := by decide +kernel
theorem dX11_tapeNumber_40 : decode cX11_tapeNumber 40 = .ok (.iinc 2 (-8), 3) := by decide +kernel
theorem dX11_tapeNumber_43 : decode cX11_tapeNumber 43 = .ok (.goto (-40), 3) := by decide +kernel
theorem dX11_tapeNumber_46 : decode cX11_tapeNumber 46 = .ok (.return_, 1) := by decide +kernel
theorem dX11_tavern_0 : decode cX11_tavern 0 = .ok (.aload_n 0, 1) := by decide +kernel
theorem dX11_tavern_1 : decode cX11_tavern 1 = .ok (.getfield 16, 3) := by decide +kernel
theorem dX11_tavern_4 : decode cX11_tavern 4 = .ok (.getfield 127, 3) := by decide +kernel
theorem dX11_tavern_7 : decode cX11_tavern 7 = .ok (.iload_n 1, 1) := by decide +kernel
theorem dX11_tavern_8 : decode cX11_tavern 8 = .ok (.invokevirtual 145, 3) := by decide +kernel
theorem dX11_tavern_11 : decode cX11_tavern 11 = .ok (.ifCond .ne 5, 3) := by decide +kernel
theorem dX11_tavern_14 : decode cX11_tavern 14 = .ok (.iconst (-1), 1) := by decide +kernel
theorem dX11_tavern_15 : decode cX11_tavern 15 = .ok (.ireturn, 1) := by decide +kernel
theorem dX11_text_0 : decode cX11_text 0 = .ok (.iload_n 1, 1) := by decide +kernel
theorem dX11_text_1 : decode cX11_text 1 = .ok (.ifCond .lt 11, 3) := by decide +kernel
theorem dX11_text_4 : decode cX11_text 4 = .ok (.iload_n 1, 1) := by decide +kernel
theorem dX11_text_5 : decode cX11_text 5 = .ok (.aload_n 0, 1) := by decide +kernel
theorem dX11_text_6 : decode cX11_text 6 = .ok (.getfield 86, 3) := by decide +kernel
theorem dX11_text_9 : decode cX11_text 9 = .ok (.if_icmp .le 6, 3) := by decide +kernel
theorem dX11_text_12 : decode cX11_text 12 = .ok (.bipush (-2), 2) := by decide +kernel
theorem dX11_text_14 : decode cX11_text 14 = .ok (.ireturn, 1) := by decide +kernel
theorem dX11_text_15 : decode cX11_text 15 = .ok (.aload_n 0, 1) := by decide +kernel
theorem dX11_text_16 : decode cX11_text 16 = .ok (.getfield 33, 3) := by decide +kernel
theorem dX11_text_19 : decode cX11_text 19 = .ok (.iload_n 1, 1) := by decide +kernel
theorem dX11_text_20 : decode cX11_text 20 = .ok (.invokevirtual 108, 3) := by decide +kernel
theorem dX11_text_23 : decode cX11_text 23 = .ok (.istore_n 2, 1) := by decide +kernel
theorem dX11_text_24 : decode cX11_text 24 = .ok (.aload_n 0, 1) := by decide +kernel
theorem dX11_text_25 : decode cX11_text 25 = .ok (.iconst 0, 1) := by decide +kernel
theorem dX11_text_26 : decode cX11_text 26 = .ok (.putfield 86, 3) := by decide +kernel
theorem dX11_text_29 : decode cX11_text 29 = .ok (.aload_n 0, 1) := by decide +kernel
theorem dX11_text_30 : decode cX11_text 30 = .ok (.aload_n 0, 1) := by decide +kernel
theorem dX11_text_31 : decode cX11_text 31 = .ok (.getfield 33, 3) := by decide +kernel
theorem dX11_text_34 : decode cX11_text 34 = .ok (.getfield 112, 3) := by decide +kernel
theorem dX11_text_37 : decode cX11_text 37 = .ok (.getfield 116, 3) := by decide +kernel
theorem dX11_text_40 : decode cX11_text 40 = .ok (.putfield 90, 3) := by decide +kernel
theorem dX11_text_43 : decode cX11_text 43 = .ok (.aload_n 0, 1) := by decide +kernel
theorem dX11_text_44 : decode cX11_text 44 = .ok (.aload_n 0, 1) := by decide +kernel
theorem dX11_text_45 : decode cX11_text 45 = .ok (.getfield 33, 3) := by decide +kernel
theorem dX11_text_48 : decode cX11_text 48 = .ok (.getfield 112, 3) := by decide +kernel
theorem dX11_text_51 : decode cX11_text 51 = .ok (.getfield 117, 3) := by decide +kernel
theorem dX11_text_54 : decode cX11_text 54 = .ok (.putfield 93, 3) := by decide +kernel
theorem dX11_text_57 : decode cX11_text 57 = .ok (.aload_n 0, 1) := by decide +kernel
theorem dX11_text_58 : decode cX11_text 58 = .ok (.getfield 90, 3) := by decide +kernel
theorem dX11_text_61 : decode cX11_text 61 = .ok (.ifCond .eq 5, 3) := by decide +kernel
theorem dX11_text_66 : decode cX11_text 66 = .ok (.aload_n 0, 1) := by decide +kernel
theorem dX11_text_67 : decode cX11_text 67 = .ok (.getfield 16, 3) := by decide +kernel
theorem dX11_text_70 : decode cX11_text 70 = .ok (.aload_n 0, 1) := by decide +kernel
theorem dX11_text_71 : decode cX11_text 71 = .ok (.getfield 20, 3) := by decide +kernel
theorem dX11_text_74 : decode cX11_text 74 = .ok (.invokevirtual 118, 3) := by decide +kernel
theorem dX11_text_77 : decode cX11_text 77 = .ok (.aload_n 0, 1) := by decide +kernel
theorem dX11_text_78 : decode cX11_text 78 = .ok (.getfield 40, 3) := by decide +kernel
theorem dX11_text_81 : decode cX11_text 81 = .ok (.aload_n 0, 1) := by decide +kernel
theorem dX11_text_82 : decode cX11_text 82 = .ok (.getfield 16, 3) := by decide +kernel
theorem dX11_text_85 : decode cX11_text 85 = .ok (.invokevirtual 100, 3) := by decide +kernel
theorem dX11_text_88 : decode cX11_text 88 = .ok (.aload_n 0, 1) := by decide +kernel
theorem dX11_text_89 : decode cX11_text 89 = .ok (.getfield 50, 3) := by decide +kernel
theorem dX11_text_92 : decode cX11_text 92 = .ok (.iconst 0, 1) := by decide +kernel
theorem dX11_text_93 : decode cX11_text 93 = .ok (.putfield 121, 3) := by decide +kernel
theorem dX11_text_96 : decode cX11_text 96 = .ok (.aload_n 0, 1) := by decide +kernel
theorem dX11_text_97 : decode cX11_text 97 = .ok (.iconst 0, 1) := by decide +kernel
theorem dX11_text_98 : decode cX11_text 98 = .ok (.putfield 96, 3) := by decide +kernel
theorem dX11_text_101 : decode cX11_text 101 = .ok (.aload_n 0, 1) := by decide +kernel
theorem dX11_text_102 : decode cX11_text 102 = .ok (.getfield 68, 3) := by decide +kernel
theorem dX11_text_105 : decode cX11_text 105 = .ok (.iconst 0, 1) := by decide +kernel
theorem dX11_text_106 : decode cX11_text 106 = .ok (.putfield 124, 3) := by decide +kernel
theorem dX11_text_109 : decode cX11_text 109 = .ok (.iload_n 2, 1) := by decide +kernel
theorem dX11_text_110 : decode cX11_text 110 = .ok (.ireturn, 1) := by decide +kernel
theorem dX11_thieves_0 : decode cX11_thieves 0 = .ok (.aload_n 0, 1) := by decide +kernel
theorem dX11_thieves_1 : decode cX11_thieves 1 = .ok (.getfield 50, 3) := by decide +kernel
theorem dX11_thieves_4 : decode cX11_thieves 4 = .ok (.aload_n 0, 1) := by decide +kernel
theorem dX11_thieves_5 : decode cX11_thieves 5 = .ok (.invokevirtual 302, 3) := by decide +kernel
theorem dX11_thieves_8 : decode cX11_thieves 8 = .ok (.invokevirtual 306, 3) := by decide +kernel
theorem dX11_thieves_11 : decode cX11_thieves 11 = .ok (.lstore_n 1, 1) := by decide +kernel
theorem dX11_thieves_12 : decode cX11_thieves 12 = .ok (.iconst 0, 1) := by decide +kernel
theorem dX11_thieves_13 : decode cX11_thieves 13 = .ok (.istore_n 3, 1) := by decide +kernel
theorem dX11_thieves_14 : decode cX11_thieves 14 = .ok (.iconst 0, 1) := by decide +kernel
theorem dX11_thieves_15 : decode cX11_thieves 15 = .ok (.istore 4, 2) := by decide +kernel
theorem dX11_thieves_17 : decode cX11_thieves 17 = .ok (.iload 4, 2) := by decide +kernel
theorem dX11_thieves_19 : decode cX11_thieves 19 = .ok (.aload_n 0, 1) := by decide +kernel
theorem dX11_thieves_20 : decode cX11_thieves 20 = .ok (.getfield 16, 3) := by decide +kernel
theorem dX11_thieves_23 : decode cX11_thieves 23 = .ok (.getfield 136, 3) := by decide +kernel
theorem dX11_thieves_26 : decode cX11_thieves 26 = .ok (.getfield 292, 3) := by decide +kernel
theorem dX11_thieves_29 : decode cX11_thieves 29 = .ok (.if_icmp .ge 48, 3) := by decide +kernel
theorem dX11_thieves_77 : decode cX11_thieves 77 = .ok (.iload_n 3, 1) := by decide +kernel
theorem dX11_thieves_78 : decode cX11_thieves 78 = .ok (.ireturn, 1) := by decide +kernel
theorem dX11_undo_0 : decode cX11_undo 0 = .ok (.aload_n 0, 1) := by decide +kernel
theorem dX11_undo_1 : decode cX11_undo 1 = .ok (.getfield 40, 3) := by decide +kernel
theorem dX11_undo_4 : decode cX11_undo 4 = .ok (.getfield 246, 3) := by decide +kernel
theorem dX11_undo_7 : decode cX11_undo 7 = .ok (.ifCond .ne 5, 3) := by decide +kernel
theorem dX11_undo_10 : decode cX11_undo 10 = .ok (.iconst (-1), 1) := by decide +kernel
theorem dX11_undo_11 : decode cX11_undo 11 = .ok (.ireturn, 1) := by decide +kernel
theorem dX11_verse_0 : decode cX11_verse 0 = .ok (.aload_n 0, 1) := by decide +kernel
theorem dX11_verse_1 : decode cX11_verse 1 = .ok (.getfield 16, 3) := by decide +kernel
theorem dX11_verse_4 : decode cX11_verse 4 = .ok (.getfield 139, 3) := by decide +kernel
theorem dX11_verse_7 : decode cX11_verse 7 = .ok (.iload_n 1, 1) := by decide +kernel
theorem dX11_verse_8 : decode cX11_verse 8 = .ok (.invokevirtual 145, 3) := by decide +kernel
theorem dX11_verse_11 : decode cX11_verse 11 = .ok (.ifCond .ne 5, 3) := by decide +kernel
theorem dX11_verse_14 : decode cX11_verse 14 = .ok (.iconst (-1), 1) := by decide +kernel
theorem dX11_verse_15 : decode cX11_verse 15 = .ok (.ireturn, 1) := by decide +kernel
theorem dX11_whole_0 : decode cX11_whole 0 = .ok (.aload_n 0, 1) := by decide +kernel
theorem dX11_whole_1 : decode cX11_whole 1 = .ok (.getfield 16, 3) := by decide +kernel
theorem dX11_whole_4 : decode cX11_whole 4 = .ok (.getfield 136, 3) := by decide +kernel
theorem dX11_whole_7 : decode cX11_whole 7 = .ok (.iload_n 1, 1) := by decide +kernel
theorem dX11_whole_8 : decode cX11_whole 8 = .ok (.invokevirtual 145, 3) := by decide +kernel
theorem dX11_whole_11 : decode cX11_whole 11 = .ok (.ifCond .eq 22, 3) := by decide +kernel
theorem dX11_whole_33 : decode cX11_whole 33 = .ok (.ldc2_w 313, 3) := by decide +kernel
theorem dX11_whole_36 : decode cX11_whole 36 = .ok (.lreturn, 1) := by decide +kernel
theorem dX0_init_0 : decode cX0_init 0 = .ok (.aload_n 0, 1) := by decide +kernel
theorem dX0_init_1 : decode cX0_init 1 = .ok (.invokespecial 3, 3) := by decide +kernel
theorem dX0_init_4 : decode cX0_init 4 = .ok (.aload_n 0, 1) := by decide +kernel
theorem dX0_init_5 : decode cX0_init 5 = .ok (.bipush 6, 2) := by decide +kernel
theorem dX0_init_7 : decode cX0_init 7 = .ok (.newarray .int, 2) := by decide +kernel
theorem dX0_init_9 : decode cX0_init 9 = .ok (.putfield 9, 3) := by decide +kernel
theorem dX0_init_12 : decode cX0_init 12 = .ok (.aload_n 0, 1) := by decide +kernel
theorem dX0_init_13 : decode cX0_init 13 = .ok (.iconst 4, 1) := by decide +kernel
theorem dX0_init_14 : decode cX0_init 14 = .ok (.newarray .int, 2) := by decide +kernel
theorem dX0_init_16 : decode cX0_init 16 = .ok (.putfield 15, 3) := by decide +kernel
theorem dX0_init_19 : decode cX0_init 19 = .ok (.aload_n 0, 1) := by decide +kernel
theorem dX0_init_20 : decode cX0_init 20 = .ok (.iconst 4, 1) := by decide +kernel
theorem dX0_init_21 : decode cX0_init 21 = .ok (.newarray .int, 2) := by decide +kernel
theorem dX0_init_23 : decode cX0_init 23 = .ok (.putfield 18, 3) := by decide +kernel
theorem dX0_init_26 : decode cX0_init 26 = .ok (.aload_n 0, 1) := by decide +kernel
theorem dX0_init_27 : decode cX0_init 27 = .ok (.iconst 0, 1) := by decide +kernel
theorem dX0_init_28 : decode cX0_init 28 = .ok (.putfield 21, 3) := by decide +kernel
theorem dX0_init_31 : decode cX0_init 31 = .ok (.aload_n 0, 1) := by decide +kernel
theorem dX0_init_32 : decode cX0_init 32 = .ok (.iconst 0, 1) := by decide +kernel
theorem dX0_init_33 : decode cX0_init 33 = .ok (.putfield 25, 3) := by decide +kernel
theorem dX0_init_36 : decode cX0_init 36 = .ok (.aload_n 0, 1) := by decide +kernel
theorem dX0_init_37 : decode cX0_init 37 = .ok (.iconst 0, 1) := by decide +kernel
theorem dX0_init_38 : decode cX0_init 38 = .ok (.putfield 28, 3) := by decide +kernel
theorem dX0_init_41 : decode cX0_init 41 = .ok (.aload_n 0, 1) := by decide +kernel
theorem dX0_init_42 : decode cX0_init 42 = .ok (.ldc 31, 2) := by decide +kernel
theorem dX0_init_44 : decode cX0_init 44 = .ok (.putfield 32, 3) := by decide +kernel
theorem dX0_init_47 : decode cX0_init 47 = .ok (.aload_n 0, 1) := by decide +kernel
theorem dX0_init_48 : decode cX0_init 48 = .ok (.aload_n 1, 1) := by decide +kernel
theorem dX0_init_49 : decode cX0_init 49 = .ok (.putfield 35, 3) := by decide +kernel
theorem dX0_init_52 : decode cX0_init 52 = .ok (.aload_n 0, 1) := by decide +kernel
theorem dX0_init_53 : decode cX0_init 53 = .ok (.aload_n 2, 1) := by decide +kernel
theorem dX0_init_54 : decode cX0_init 54 = .ok (.putfield 39, 3) := by decide +kernel
theorem dX0_init_57 : decode cX0_init 57 = .ok (.aload_n 0, 1) := by decide +kernel
theorem dX0_init_58 : decode cX0_init 58 = .ok (.aload_n 3, 1) := by decide +kernel
theorem dX0_init_59 : decode cX0_init 59 = .ok (.putfield 43, 3) := by decide +kernel
theorem dX0_init_62 : decode cX0_init 62 = .ok (.return_, 1) := by decide +kernel
theorem dX1_init_0 : decode cX1_init 0 = .ok (.aload_n 0, 1) := by decide +kernel
theorem dX1_init_1 : decode cX1_init 1 = .ok (.invokespecial 5, 3) := by decide +kernel
theorem dX1_init_4 : decode cX1_init 4 = .ok (.aload_n 0, 1) := by decide +kernel
theorem dX1_init_5 : decode cX1_init 5 = .ok (.bipush 72, 2) := by decide +kernel
theorem dX1_init_7 : decode cX1_init 7 = .ok (.newarray .int, 2) := by decide +kernel
theorem dX1_init_9 : decode cX1_init 9 = .ok (.putfield 11, 3) := by decide +kernel
theorem dX1_init_12 : decode cX1_init 12 = .ok (.aload_n 0, 1) := by decide +kernel
theorem dX1_init_13 : decode cX1_init 13 = .ok (.bipush 72, 2) := by decide +kernel
theorem dX1_init_15 : decode cX1_init 15 = .ok (.newarray .int, 2) := by decide +kernel
theorem dX1_init_17 : decode cX1_init 17 = .ok (.putfield 15, 3) := by decide +kernel
theorem dX1_init_20 : decode cX1_init 20 = .ok (.aload_n 0, 1) := by decide +kernel
theorem dX1_init_21 : decode cX1_init 21 = .ok (.bipush 25, 2) := by decide +kernel
theorem dX1_init_23 : decode cX1_init 23 = .ok (.newarray .int, 2) := by decide +kernel
theorem dX1_init_25 : decode cX1_init 25 = .ok (.putfield 18, 3) := by decide +kernel
theorem dX1_init_28 : decode cX1_init 28 = .ok (.aload_n 0, 1) := by decide +kernel
theorem dX1_init_29 : decode cX1_init 29 = .ok (.iconst 5, 1) := by decide +kernel
theorem dX1_init_30 : decode cX1_init 30 = .ok (.bipush 97, 2) := by decide +kernel
theorem dX1_init_32 : decode cX1_init 32 = .ok (.multianewarray 21 2, 4) := by decide +kernel
theorem dX1_init_36 : decode cX1_init 36 = .ok (.putfield 23, 3) := by decide +kernel
theorem dX1_init_39 : decode cX1_init 39 = .ok (.aload_n 0, 1) := by decide +kernel
theorem dX1_init_40 : decode cX1_init 40 = .ok (.bipush 12, 2) := by decide +kernel
theorem dX1_init_42 : decode cX1_init 42 = .ok (.newarray .int, 2) := by decide +kernel
theorem dX1_init_44 : decode cX1_init 44 = .ok (.putfield 26, 3) := by decide +kernel
theorem dX1_init_47 : decode cX1_init 47 = .ok (.aload_n 0, 1) := by decide +kernel
theorem dX1_init_48 : decode cX1_init 48 = .ok (.iconst 0, 1) := by decide +kernel
theorem dX1_init_49 : decode cX1_init 49 = .ok (.putfield 29, 3) := by decide +kernel
theorem dX1_init_52 : decode cX1_init 52 = .ok (.aload_n 0, 1) := by decide +kernel
theorem dX1_init_53 : decode cX1_init 53 = .ok (.iconst 0, 1) := by decide +kernel
theorem dX1_init_54 : decode cX1_init 54 = .ok (.putfield 33, 3) := by decide +kernel
theorem dX1_init_57 : decode cX1_init 57 = .ok (.aload_n 0, 1) := by decide +kernel
theorem dX1_init_58 : decode cX1_init 58 = .ok (.iconst 0, 1) := by decide +kernel
theorem dX1_init_59 : decode cX1_init 59 = .ok (.putfield 36, 3) := by decide +kernel
theorem dX1_init_62 : decode cX1_init 62 = .ok (.aload_n 0, 1) := by decide +kernel
theorem dX1_init_63 : decode cX1_init 63 = .ok (.aload_n 1, 1) := by decide +kernel
theorem dX1_init_64 : decode cX1_init 64 = .ok (.putfield 40, 3) := by decide +kernel
theorem dX1_init_67 : decode cX1_init 67 = .ok (.aload_n 0, 1) := by decide +kernel
theorem dX1_init_68 : decode cX1_init 68 = .ok (.aload_n 2, 1) := by decide +kernel
theorem dX1_init_69 : decode cX1_init 69 = .ok (.putfield 44, 3) := by decide +kernel
theorem dX1_init_72 : decode cX1_init 72 = .ok (.aload_n 0, 1) := by decide +kernel
theorem dX1_init_73 : decode cX1_init 73 = .ok (.aload_n 3, 1) := by decide +kernel
theorem dX1_init_74 : decode cX1_init 74 = .ok (.putfield 48, 3) := by decide +kernel
theorem dX1_init_77 : decode cX1_init 77 = .ok (.return_, 1) := by decide +kernel
theorem dX1_crownsFor_0 : decode cX1_crownsFor 0 = .ok (.aload_n 0, 1) := by decide +kernel
theorem dX1_crownsFor_1 : decode cX1_crownsFor 1 = .ok (.getfield 23, 3) := by decide +kernel
theorem dX1_crownsFor_4 : decode cX1_crownsFor 4 = .ok (.iconst 0, 1) := by decide +kernel
theorem dX1_crownsFor_5 : decode cX1_crownsFor 5 = .ok (.aaload, 1) := by decide +kernel
theorem dX1_crownsFor_6 : decode cX1_crownsFor 6 = .ok (.iload_n 1, 1) := by decide +kernel
theorem dX1_crownsFor_7 : decode cX1_crownsFor 7 = .ok (.iaload, 1) := by decide +kernel
theorem dX1_crownsFor_8 : decode cX1_crownsFor 8 = .ok (.ireturn, 1) := by decide +kernel
theorem dX1_mostNotes_0 : decode cX1_mostNotes 0 = .ok (.bipush 96, 2) := by decide +kernel
theorem dX1_mostNotes_2 : decode cX1_mostNotes 2 = .ok (.istore_n 2, 1) := by decide +kernel
theorem dX1_mostNotes_3 : decode cX1_mostNotes 3 = .ok (.iload_n 2, 1) := by decide +kernel
theorem dX1_mostNotes_4 : decode cX1_mostNotes 4 = .ok (.ifCond .le 23, 3) := by decide +kernel
theorem dX1_mostNotes_7 : decode cX1_mostNotes 7 = .ok (.aload_n 0, 1) := by decide +kernel
theorem dX1_mostNotes_8 : decode cX1_mostNotes 8 = .ok (.getfield 23, 3) := by decide +kernel
theorem dX1_mostNotes_11 : decode cX1_mostNotes 11 = .ok (.iconst 0, 1) := by decide +kernel
theorem dX1_mostNotes_12 : decode cX1_mostNotes 12 = .ok (.aaload, 1) := by decide +kernel
theorem dX1_mostNotes_13 : decode cX1_mostNotes 13 = .ok (.iload_n 2, 1) := by decide +kernel
theorem dX1_mostNotes_14 : decode cX1_mostNotes 14 = .ok (.iaload, 1) := by decide +kernel
theorem dX1_mostNotes_15 : decode cX1_mostNotes 15 = .ok (.iload_n 1, 1) := by decide +kernel
theorem dX1_mostNotes_16 : decode cX1_mostNotes 16 = .ok (.if_icmp .gt 5, 3) := by decide +kernel
theorem dX1_mostNotes_21 : decode cX1_mostNotes 21 = .ok (.iinc 2 (-1), 3) := by decide +kernel
theorem dX1_mostNotes_24 : decode cX1_mostNotes 24 = .ok (.goto (-21), 3) := by decide +kernel
theorem dX1_mostNotes_27 : decode cX1_mostNotes 27 = .ok (.iconst 0, 1) := by decide +kernel
theorem dX1_mostNotes_28 : decode cX1_mostNotes 28 = .ok (.ireturn, 1) := by decide +kernel
theorem dX1_weigh_0 : decode cX1_weigh 0 = .ok (.aload_n 0, 1) := by decide +kernel
theorem dX1_weigh_1 : decode cX1_weigh 1 = .ok (.getfield 36, 3) := by decide +kernel
theorem dX1_weigh_4 : decode cX1_weigh 4 = .ok (.ifCond .eq 4, 3) := by decide +kernel
theorem dX1_weigh_8 : decode cX1_weigh 8 = .ok (.aload_n 0, 1) := by decide +kernel
theorem dX1_weigh_9 : decode cX1_weigh 9 = .ok (.iconst 1, 1) := by decide +kernel
theorem dX1_weigh_10 : decode cX1_weigh 10 = .ok (.putfield 36, 3) := by decide +kernel
theorem dX1_weigh_13 : decode cX1_weigh 13 = .ok (.aload_n 0, 1) := by decide +kernel
theorem dX1_weigh_14 : decode cX1_weigh 14 = .ok (.getfield 40, 3) := by decide +kernel
theorem dX1_weigh_17 : decode cX1_weigh 17 = .ok (.getfield 52, 3) := by decide +kernel
theorem dX1_weigh_20 : decode cX1_weigh 20 = .ok (.getfield 58, 3) := by decide +kernel
theorem dX1_weigh_23 : decode cX1_weigh 23 = .ok (.istore_n 1, 1) := by decide +kernel
theorem dX1_weigh_24 : decode cX1_weigh 24 = .ok (.aload_n 0, 1) := by decide +kernel
theorem dX1_weigh_25 : decode cX1_weigh 25 = .ok (.getfield 23, 3) := by decide +kernel
theorem dX1_weigh_28 : decode cX1_weigh 28 = .ok (.iload_n 1, 1) := by decide +kernel
theorem dX1_weigh_29 : decode cX1_weigh 29 = .ok (.aaload, 1) := by decide +kernel
theorem dX1_weigh_30 : decode cX1_weigh 30 = .ok (.ldc 63, 2) := by decide +kernel
theorem dX1_weigh_32 : decode cX1_weigh 32 = .ok (.invokestatic 64, 3) := by decide +kernel
theorem dX1_weigh_35 : decode cX1_weigh 35 = .ok (.aload_n 0, 1) := by decide +kernel
theorem dX1_weigh_36 : decode cX1_weigh 36 = .ok (.getfield 23, 3) := by decide +kernel
theorem dX1_weigh_39 : decode cX1_weigh 39 = .ok (.iload_n 1, 1) := by decide +kernel
theorem dX1_weigh_40 : decode cX1_weigh 40 = .ok (.aaload, 1) := by decide +kernel
theorem dX1_weigh_41 : decode cX1_weigh 41 = .ok (.iconst 0, 1) := by decide +kernel
theorem dX1_weigh_42 : decode cX1_weigh 42 = .ok (.iconst 0, 1) := by decide +kernel
theorem dX1_weigh_43 : decode cX1_weigh 43 = .ok (.iastore, 1) := by decide +kernel
theorem dX1_weigh_44 : decode cX1_weigh 44 = .ok (.iload_n 1, 1) := by decide +kernel
theorem dX1_weigh_45 : decode cX1_weigh 45 = .ok (.iconst 1, 1) := by decide +kernel
theorem dX1_weigh_46 : decode cX1_weigh 46 = .ok (.isub, 1) := by decide +kernel
theorem dX1_weigh_47 : decode cX1_weigh 47 = .ok (.istore_n 2, 1) := by decide +kernel
theorem dX1_weigh_48 : decode cX1_weigh 48 = .ok (.iload_n 2, 1) := by decide +kernel
theorem dX1_weigh_49 : decode cX1_weigh 49 = .ok (.ifCond .lt 46, 3) := by decide +kernel
theorem dX1_weigh_95 : decode cX1_weigh 95 = .ok (.return_, 1) := by decide +kernel
theorem dX2_init_0 : decode cX2_init 0 = .ok (.aload_n 0, 1) := by decide +kernel
theorem dX2_init_1 : decode cX2_init 1 = .ok (.invokespecial 3, 3) := by decide +kernel
theorem dX2_init_4 : decode cX2_init 4 = .ok (.aload_n 0, 1) := by decide +kernel
theorem dX2_init_5 : decode cX2_init 5 = .ok (.bipush 64, 2) := by decide +kernel
theorem dX2_init_7 : decode cX2_init 7 = .ok (.newarray .int, 2) := by decide +kernel
theorem dX2_init_9 : decode cX2_init 9 = .ok (.putfield 9, 3) := by decide +kernel
theorem dX2_init_12 : decode cX2_init 12 = .ok (.aload_n 0, 1) := by decide +kernel
theorem dX2_init_13 : decode cX2_init 13 = .ok (.bipush 64, 2) := by decide +kernel
theorem dX2_init_15 : decode cX2_init 15 = .ok (.newarray .int, 2) := by decide +kernel
theorem dX2_init_17 : decode cX2_init 17 = .ok (.putfield 15, 3) := by decide +kernel
theorem dX2_init_20 : decode cX2_init 20 = .ok (.aload_n 0, 1) := by decide +kernel
theorem dX2_init_21 : decode cX2_init 21 = .ok (.iconst 5, 1) := by decide +kernel
theorem dX2_init_22 : decode cX2_init 22 = .ok (.newarray .int, 2) := by decide +kernel
theorem dX2_init_24 : decode cX2_init 24 = .ok (.putfield 18, 3) := by decide +kernel
theorem dX2_init_27 : decode cX2_init 27 = .ok (.aload_n 0, 1) := by decide +kernel
theorem dX2_init_28 : decode cX2_init 28 = .ok (.iconst 5, 1) := by decide +kernel
theorem dX2_init_29 : decode cX2_init 29 = .ok (.newarray .int, 2) := by decide +kernel
theorem dX2_init_31 : decode cX2_init 31 = .ok (.putfield 21, 3) := by decide +kernel
theorem dX2_init_34 : decode cX2_init 34 = .ok (.aload_n 0, 1) := by decide +kernel
theorem dX2_init_35 : decode cX2_init 35 = .ok (.iconst 0, 1) := by decide +kernel
theorem dX2_init_36 : decode cX2_init 36 = .ok (.putfield 24, 3) := by decide +kernel
theorem dX2_init_39 : decode cX2_init 39 = .ok (.aload_n 0, 1) := by decide +kernel
theorem dX2_init_40 : decode cX2_init 40 = .ok (.bipush 72, 2) := by decide +kernel
theorem dX2_init_42 : decode cX2_init 42 = .ok (.newarray .int, 2) := by decide +kernel
theorem dX2_init_44 : decode cX2_init 44 = .ok (.putfield 28, 3) := by decide +kernel
theorem dX2_init_47 : decode cX2_init 47 = .ok (.aload_n 0, 1) := by decide +kernel
theorem dX2_init_48 : decode cX2_init 48 = .ok (.iconst 0, 1) := by decide +kernel
theorem dX2_init_49 : decode cX2_init 49 = .ok (.putfield 31, 3) := by decide +kernel
theorem dX2_init_52 : decode cX2_init 52 = .ok (.aload_n 0, 1) := by decide +kernel
theorem dX2_init_53 : decode cX2_init 53 = .ok (.iconst 0, 1) := by decide +kernel
theorem dX2_init_54 : decode cX2_init 54 = .ok (.putfield 34, 3) := by decide +kernel
theorem dX2_init_57 : decode cX2_init 57 = .ok (.aload_n 0, 1) := by decide +kernel
theorem dX2_init_58 : decode cX2_init 58 = .ok (.iconst 0, 1) := by decide +kernel
theorem dX2_init_59 : decode cX2_init 59 = .ok (.putfield 37, 3) := by decide +kernel
theorem dX2_init_62 : decode cX2_init 62 = .ok (.aload_n 0, 1) := by decide +kernel
theorem dX2_init_63 : decode cX2_init 63 = .ok (.iconst 1, 1) := by decide +kernel
theorem dX2_init_64 : decode cX2_init 64 = .ok (.putfield 40, 3) := by decide +kernel
theorem dX2_init_67 : decode cX2_init 67 = .ok (.return_, 1) := by decide +kernel
theorem dX2_clear_0 : decode cX2_clear 0 = .ok (.aload_n 0, 1) := by decide +kernel
theorem dX2_clear_1 : decode cX2_clear 1 = .ok (.iconst 0, 1) := by decide +kernel
theorem dX2_clear_2 : decode cX2_clear 2 = .ok (.putfield 24, 3) := by decide +kernel
theorem dX2_clear_5 : decode cX2_clear 5 = .ok (.aload_n 0, 1) := by decide +kernel
theorem dX2_clear_6 : decode cX2_clear 6 = .ok (.iconst 0, 1) := by decide +kernel
theorem dX2_clear_7 : decode cX2_clear 7 = .ok (.putfield 37, 3) := by decide +kernel
theorem dX2_clear_10 : decode cX2_clear 10 = .ok (.aload_n 0, 1) := by decide +kernel
theorem dX2_clear_11 : decode cX2_clear 11 = .ok (.getfield 18, 3) := by decide +kernel
theorem dX2_clear_14 : decode cX2_clear 14 = .ok (.iconst 0, 1) := by decide +kernel
theorem dX2_clear_15 : decode cX2_clear 15 = .ok (.invokestatic 44, 3) := by decide +kernel
theorem dX2_clear_18 : decode cX2_clear 18 = .ok (.aload_n 0, 1) := by decide +kernel
theorem dX2_clear_19 : decode cX2_clear 19 = .ok (.getfield 21, 3) := by decide +kernel
theorem dX2_clear_22 : decode cX2_clear 22 = .ok (.iconst 0, 1) := by decide +kernel
theorem dX2_clear_23 : decode cX2_clear 23 = .ok (.invokestatic 44, 3) := by decide +kernel
theorem dX2_clear_26 : decode cX2_clear 26 = .ok (.return_, 1) := by decide +kernel
theorem dX2_take_0 : decode cX2_take 0 = .ok (.aload_n 1, 1) := by decide +kernel
theorem dX2_take_1 : decode cX2_take 1 = .ok (.getfield 9, 3) := by decide +kernel
theorem dX2_take_4 : decode cX2_take 4 = .ok (.iconst 0, 1) := by decide +kernel
theorem dX2_take_5 : decode cX2_take 5 = .ok (.aload_n 0, 1) := by decide +kernel
theorem dX2_take_6 : decode cX2_take 6 = .ok (.getfield 9, 3) := by decide +kernel
theorem dX2_take_9 : decode cX2_take 9 = .ok (.iconst 0, 1) := by decide +kernel
theorem dX2_take_10 : decode cX2_take 10 = .ok (.aload_n 0, 1) := by decide +kernel
theorem dX2_take_11 : decode cX2_take 11 = .ok (.getfield 9, 3) := by decide +kernel
theorem dX2_take_14 : decode cX2_take 14 = .ok (.arraylength, 1) := by decide +kernel
theorem dX2_take_15 : decode cX2_take 15 = .ok (.invokestatic 50, 3) := by decide +kernel
theorem dX2_take_18 : decode cX2_take 18 = .ok (.aload_n 1, 1) := by decide +kernel
theorem dX2_take_19 : decode cX2_take 19 = .ok (.getfield 15, 3) := by decide +kernel
theorem dX2_take_22 : decode cX2_take 22 = .ok (.iconst 0, 1) := by decide +kernel
theorem dX2_take_23 : decode cX2_take 23 = .ok (.aload_n 0, 1) := by decide +kernel
theorem dX2_take_24 : decode cX2_take 24 = .ok (.getfield 15, 3) := by decide +kernel
theorem dX2_take_27 : decode cX2_take 27 = .ok (.iconst 0, 1) := by decide +kernel
theorem dX2_take_28 : decode cX2_take 28 = .ok (.aload_n 0, 1) := by decide +kernel
theorem dX2_take_29 : decode cX2_take 29 = .ok (.getfield 15, 3) := by decide +kernel
theorem dX2_take_32 : decode cX2_take 32 = .ok (.arraylength, 1) := by decide +kernel
theorem dX2_take_33 : decode cX2_take 33 = .ok (.invokestatic 50, 3) := by decide +kernel
theorem dX2_take_36 : decode cX2_take 36 = .ok (.aload_n 1, 1) := by decide +kernel
theorem dX2_take_37 : decode cX2_take 37 = .ok (.getfield 18, 3) := by decide +kernel
theorem dX2_take_40 : decode cX2_take 40 = .ok (.iconst 0, 1) := by decide +kernel
theorem dX2_take_41 : decode cX2_take 41 = .ok (.aload_n 0, 1) := by decide +kernel
theorem dX2_take_42 : decode cX2_take 42 = .ok (.getfield 18, 3) := by decide +kernel
theorem dX2_take_45 : decode cX2_take 45 = .ok (.iconst 0, 1) := by decide +kernel
theorem dX2_take_46 : decode cX2_take 46 = .ok (.aload_n 0, 1) := by decide +kernel
theorem dX2_take_47 : decode cX2_take 47 = .ok (.getfield 18, 3) := by decide +kernel
theorem dX2_take_50 : decode cX2_take 50 = .ok (.arraylength, 1) := by decide +kernel
theorem dX2_take_51 : decode cX2_take 51 = .ok (.invokestatic 50, 3) := by decide +kernel
theorem dX2_take_54 : decode cX2_take 54 = .ok (.aload_n 1, 1) := by decide +kernel
theorem dX2_take_55 : decode cX2_take 55 = .ok (.getfield 21, 3) := by decide +kernel
theorem dX2_take_58 : decode cX2_take 58 = .ok (.iconst 0, 1) := by decide +kernel
theorem dX2_take_59 : decode cX2_take 59 = .ok (.aload_n 0, 1) := by decide +kernel
theorem dX2_take_60 : decode cX2_take 60 = .ok (.getfield 21, 3) := by decide +kernel
theorem dX2_take_63 : decode cX2_take 63 = .ok (.iconst 0, 1) := by decide +kernel
theorem dX2_take_64 : decode cX2_take 64 = .ok (.aload_n 0, 1) := by decide +kernel
theorem dX2_take_65 : decode cX2_take 65 = .ok (.getfield 21, 3) := by decide +kernel
theorem dX2_take_68 : decode cX2_take 68 = .ok (.arraylength, 1) := by decide +kernel
theorem dX2_take_69 : decode cX2_take 69 = .ok (.invokestatic 50, 3) := by decide +kernel
theorem dX2_take_72 : decode cX2_take 72 = .ok (.aload_n 0, 1) := by decide +kernel
theorem dX2_take_73 : decode cX2_take 73 = .ok (.aload_n 1, 1) := by decide +kernel
theorem dX2_take_74 : decode cX2_take 74 = .ok (.getfield 24, 3) := by decide +kernel
theorem dX2_take_77 : decode cX2_take 77 = .ok (.putfield 24, 3) := by decide +kernel
theorem dX2_take_80 : decode cX2_take 80 = .ok (.return_, 1) := by decide +kernel
theorem dX3_init_0 : decode cX3_init 0 = .ok (.aload_n 0, 1) := by decide +kernel
theorem dX3_init_1 : decode cX3_init 1 = .ok (.invokespecial 3, 3) := by decide +kernel
theorem dX3_init_4 : decode cX3_init 4 = .ok (.aload_n 0, 1) := by decide +kernel
theorem dX3_init_5 : decode cX3_init 5 = .ok (.bipush 24, 2) := by decide +kernel
theorem dX3_init_7 : decode cX3_init 7 = .ok (.newarray .int, 2) := by decide +kernel
theorem dX3_init_9 : decode cX3_init 9 = .ok (.putfield 9, 3) := by decide +kernel
theorem dX3_init_12 : decode cX3_init 12 = .ok (.aload_n 0, 1) := by decide +kernel
theorem dX3_init_13 : decode cX3_init 13 = .ok (.iconst 0, 1) := by decide +kernel
theorem dX3_init_14 : decode cX3_init 14 = .ok (.putfield 15, 3) := by decide +kernel
theorem dX3_init_17 : decode cX3_init 17 = .ok (.return_, 1) := by decide +kernel
theorem dX3_add_0 : decode cX3_add 0 = .ok (.aload_n 0, 1) := by decide +kernel
theorem dX3_add_1 : decode cX3_add 1 = .ok (.getfield 15, 3) := by decide +kernel
theorem dX3_add_4 : decode cX3_add 4 = .ok (.bipush 24, 2) := by decide +kernel
theorem dX3_add_6 : decode cX3_add 6 = .ok (.if_icmp .lt 5, 3) := by decide +kernel
theorem dX3_add_11 : decode cX3_add 11 = .ok (.aload_n 0, 1) := by decide +kernel
theorem dX3_add_12 : decode cX3_add 12 = .ok (.getfield 9, 3) := by decide +kernel
theorem dX3_add_15 : decode cX3_add 15 = .ok (.aload_n 0, 1) := by decide +kernel
theorem dX3_add_16 : decode cX3_add 16 = .ok (.getfield 15, 3) := by decide +kernel
theorem dX3_add_19 : decode cX3_add 19 = .ok (.iload_n 1, 1) := by decide +kernel
theorem dX3_add_20 : decode cX3_add 20 = .ok (.iastore, 1) := by decide +kernel
theorem dX3_add_21 : decode cX3_add 21 = .ok (.aload_n 0, 1) := by decide +kernel
theorem dX3_add_22 : decode cX3_add 22 = .ok (.dup, 1) := by decide +kernel
theorem dX3_add_23 : decode cX3_add 23 = .ok (.getfield 15, 3) := by decide +kernel
theorem dX3_add_26 : decode cX3_add 26 = .ok (.iconst 1, 1) := by decide +kernel
theorem dX3_add_27 : decode cX3_add 27 = .ok (.iadd, 1) := by decide +kernel
theorem dX3_add_28 : decode cX3_add 28 = .ok (.putfield 15, 3) := by decide +kernel
theorem dX3_add_31 : decode cX3_add 31 = .ok (.aload_n 0, 1) := by decide +kernel
theorem dX3_add_32 : decode cX3_add 32 = .ok (.getfield 15, 3) := by decide +kernel
theorem dX3_add_35 : decode cX3_add 35 = .ok (.iconst 1, 1) := by decide +kernel
theorem dX3_add_36 : decode cX3_add 36 = .ok (.isub, 1) := by decide +kernel
theorem dX3_add_37 : decode cX3_add 37 = .ok (.ireturn, 1) := by decide +kernel
theorem dX3_pitches_0 : decode cX3_pitches 0 = .ok (.iconst 0, 1) := by decide +kernel
theorem dX3_pitches_1 : decode cX3_pitches 1 = .ok (.istore_n 2, 1) := by decide +kernel
theorem dX3_pitches_2 : decode cX3_pitches 2 = .ok (.lconst 0, 1) := by decide +kernel
theorem dX3_pitches_3 : decode cX3_pitches 3 = .ok (.lstore_n 3, 1) := by decide +kernel
theorem dX3_pitches_4 : decode cX3_pitches 4 = .ok (.iload_n 1, 1) := by decide +kernel
theorem dX3_pitches_5 : decode cX3_pitches 5 = .ok (.aload_n 0, 1) := by decide +kernel
theorem dX3_pitches_6 : decode cX3_pitches 6 = .ok (.getfield 15, 3) := by decide +kernel
theorem dX3_pitches_9 : decode cX3_pitches 9 = .ok (.invokestatic 19, 3) := by decide +kernel
theorem dX3_pitches_12 : decode cX3_pitches 12 = .ok (.iconst 1, 1) := by decide +kernel
theorem dX3_pitches_13 : decode cX3_pitches 13 = .ok (.isub, 1) := by decide +kernel
theorem dX3_pitches_14 : decode cX3_pitches 14 = .ok (.istore 5, 2) := by decide +kernel
theorem dX3_pitches_16 : decode cX3_pitches 16 = .ok (.iload 5, 2) := by decide +kernel
theorem dX3_pitches_18 : decode cX3_pitches 18 = .ok (.ifCond .lt 57, 3) := by decide +kernel
theorem dX3_pitches_75 : decode cX3_pitches 75 = .ok (.lload_n 3, 1) := by decide +kernel
theorem dX3_pitches_76 : decode cX3_pitches 76 = .ok (.lreturn, 1) := by decide +kernel
theorem dX4_init_0 : decode cX4_init 0 = .ok (.aload_n 0, 1) := by decide +kernel
theorem dX4_init_1 : decode cX4_init 1 = .ok (.invokespecial 3, 3) := by decide +kernel
theorem dX4_init_4 : decode cX4_init 4 = .ok (.aload_n 0, 1) := by decide +kernel
theorem dX4_init_5 : decode cX4_init 5 = .ok (.new 9, 3) := by decide +kernel
theorem dX4_init_8 : decode cX4_init 8 = .ok (.dup, 1) := by decide +kernel
theorem dX4_init_9 : decode cX4_init 9 = .ok (.iconst 3, 1) := by decide +kernel
theorem dX4_init_10 : decode cX4_init 10 = .ok (.invokespecial 11, 3) := by decide +kernel
theorem dX4_init_13 : decode cX4_init 13 = .ok (.putfield 14, 3) := by decide +kernel
theorem dX4_init_16 : decode cX4_init 16 = .ok (.aload_n 0, 1) := by decide +kernel
theorem dX4_init_17 : decode cX4_init 17 = .ok (.new 9, 3) := by decide +kernel
theorem dX4_init_20 : decode cX4_init 20 = .ok (.dup, 1) := by decide +kernel
theorem dX4_init_21 : decode cX4_init 21 = .ok (.bipush 6, 2) := by decide +kernel
theorem dX4_init_23 : decode cX4_init 23 = .ok (.invokespecial 11, 3) := by decide +kernel
theorem dX4_init_26 : decode cX4_init 26 = .ok (.putfield 20, 3) := by decide +kernel
theorem dX4_init_29 : decode cX4_init 29 = .ok (.aload_n 0, 1) := by decide +kernel
theorem dX4_init_30 : decode cX4_init 30 = .ok (.new 9, 3) := by decide +kernel
theorem dX4_init_33 : decode cX4_init 33 = .ok (.dup, 1) := by decide +kernel
theorem dX4_init_34 : decode cX4_init 34 = .ok (.iconst 4, 1) := by decide +kernel
theorem dX4_init_35 : decode cX4_init 35 = .ok (.invokespecial 11, 3) := by decide +kernel
theorem dX4_init_38 : decode cX4_init 38 = .ok (.putfield 23, 3) := by decide +kernel
theorem dX4_init_41 : decode cX4_init 41 = .ok (.aload_n 0, 1) := by decide +kernel
theorem dX4_init_42 : decode cX4_init 42 = .ok (.new 9, 3) := by decide +kernel
theorem dX4_init_45 : decode cX4_init 45 = .ok (.dup, 1) := by decide +kernel
theorem dX4_init_46 : decode cX4_init 46 = .ok (.iconst 3, 1) := by decide +kernel
theorem dX4_init_47 : decode cX4_init 47 = .ok (.invokespecial 11, 3) := by decide +kernel
theorem dX4_init_50 : decode cX4_init 50 = .ok (.putfield 26, 3) := by decide +kernel
theorem dX4_init_53 : decode cX4_init 53 = .ok (.aload_n 0, 1) := by decide +kernel
theorem dX4_init_54 : decode cX4_init 54 = .ok (.iconst 3, 1) := by decide +kernel
theorem dX4_init_55 : decode cX4_init 55 = .ok (.newarray .int, 2) := by decide +kernel
theorem dX4_init_57 : decode cX4_init 57 = .ok (.putfield 29, 3) := by decide +kernel
theorem dX4_init_60 : decode cX4_init 60 = .ok (.aload_n 0, 1) := by decide +kernel
theorem dX4_init_61 : decode cX4_init 61 = .ok (.iconst 3, 1) := by decide +kernel
theorem dX4_init_62 : decode cX4_init 62 = .ok (.newarray .int, 2) := by decide +kernel
theorem dX4_init_64 : decode cX4_init 64 = .ok (.putfield 33, 3) := by decide +kernel
theorem dX4_init_67 : decode cX4_init 67 = .ok (.aload_n 0, 1) := by decide +kernel
theorem dX4_init_68 : decode cX4_init 68 = .ok (.bipush 6, 2) := by decide +kernel
theorem dX4_init_70 : decode cX4_init 70 = .ok (.newarray .int, 2) := by decide +kernel
theorem dX4_init_72 : decode cX4_init 72 = .ok (.putfield 36, 3) := by decide +kernel
theorem dX4_init_75 : decode cX4_init 75 = .ok (.aload_n 0, 1) := by decide +kernel
theorem dX4_init_76 : decode cX4_init 76 = .ok (.bipush 6, 2) := by decide +kernel
theorem dX4_init_78 : decode cX4_init 78 = .ok (.newarray .int, 2) := by decide +kernel
theorem dX4_init_80 : decode cX4_init 80 = .ok (.putfield 39, 3) := by decide +kernel
theorem dX4_init_83 : decode cX4_init 83 = .ok (.aload_n 0, 1) := by decide +kernel
theorem dX4_init_84 : decode cX4_init 84 = .ok (.bipush 6, 2) := by decide +kernel
theorem dX4_init_86 : decode cX4_init 86 = .ok (.newarray .int, 2) := by decide +kernel
theorem dX4_init_88 : decode cX4_init 88 = .ok (.putfield 42, 3) := by decide +kernel
theorem dX4_init_91 : decode cX4_init 91 = .ok (.aload_n 0, 1) := by decide +kernel
theorem dX4_init_92 : decode cX4_init 92 = .ok (.bipush 6, 2) := by decide +kernel
theorem dX4_init_94 : decode cX4_init 94 = .ok (.newarray .int, 2) := by decide +kernel
theorem dX4_init_96 : decode cX4_init 96 = .ok (.putfield 45, 3) := by decide +kernel
theorem dX4_init_99 : decode cX4_init 99 = .ok (.aload_n 0, 1) := by decide +kernel
theorem dX4_init_100 : decode cX4_init 100 = .ok (.bipush 6, 2) := by decide +kernel
theorem dX4_init_102 : decode cX4_init 102 = .ok (.newarray .int, 2) := by decide +kernel
theorem dX4_init_104 : decode cX4_init 104 = .ok (.putfield 48, 3) := by decide +kernel
theorem dX4_init_107 : decode cX4_init 107 = .ok (.aload_n 0, 1) := by decide +kernel
theorem dX4_init_108 : decode cX4_init 108 = .ok (.iconst 4, 1) := by decide +kernel
theorem dX4_init_109 : decode cX4_init 109 = .ok (.newarray .int, 2) := by decide +kernel
theorem dX4_init_111 : decode cX4_init 111 = .ok (.putfield 51, 3) := by decide +kernel
theorem dX4_init_114 : decode cX4_init 114 = .ok (.aload_n 0, 1) := by decide +kernel
theorem dX4_init_115 : decode cX4_init 115 = .ok (.bipush 12, 2) := by decide +kernel
theorem dX4_init_117 : decode cX4_init 117 = .ok (.newarray .int, 2) := by decide +kernel
theorem dX4_init_119 : decode cX4_init 119 = .ok (.putfield 54, 3) := by decide +kernel
theorem dX4_init_122 : decode cX4_init 122 = .ok (.aload_n 0, 1) := by decide +kernel
theorem dX4_init_123 : decode cX4_init 123 = .ok (.bipush 96, 2) := by decide +kernel
theorem dX4_init_125 : decode cX4_init 125 = .ok (.newarray .int, 2) := by decide +kernel
theorem dX4_init_127 : decode cX4_init 127 = .ok (.putfield 57, 3) := by decide +kernel
theorem dX4_init_130 : decode cX4_init 130 = .ok (.aload_n 0, 1) := by decide +kernel
theorem dX4_init_131 : decode cX4_init 131 = .ok (.iconst 3, 1) := by decide +kernel
theorem dX4_init_132 : decode cX4_init 132 = .ok (.newarray .int, 2) := by decide +kernel
theorem dX4_init_134 : decode cX4_init 134 = .ok (.putfield 60, 3) := by decide +kernel
theorem dX4_init_137 : decode cX4_init 137 = .ok (.aload_n 0, 1) := by decide +kernel
theorem dX4_init_138 : decode cX4_init 138 = .ok (.new 63, 3) := by decide +kernel
theorem dX4_init_141 : decode cX4_init 141 = .ok (.dup, 1) := by decide +kernel
theorem dX4_init_142 : decode cX4_init 142 = .ok (.invokespecial 65, 3) := by decide +kernel
theorem dX4_init_145 : decode cX4_init 145 = .ok (.putfield 66, 3) := by decide +kernel
theorem dX4_init_148 : decode cX4_init 148 = .ok (.aload_n 0, 1) := by decide +kernel
theorem dX4_init_149 : decode cX4_init 149 = .ok (.iconst 0, 1) := by decide +kernel
theorem dX4_init_150 : decode cX4_init 150 = .ok (.putfield 70, 3) := by decide +kernel
theorem dX4_init_153 : decode cX4_init 153 = .ok (.aload_n 0, 1) := by decide +kernel
theorem dX4_init_154 : decode cX4_init 154 = .ok (.iconst 0, 1) := by decide +kernel
theorem dX4_init_155 : decode cX4_init 155 = .ok (.putfield 74, 3) := by decide +kernel
theorem dX4_init_158 : decode cX4_init 158 = .ok (.aload_n 0, 1) := by decide +kernel
theorem dX4_init_159 : decode cX4_init 159 = .ok (.iconst 0, 1) := by decide +kernel
theorem dX4_init_160 : decode cX4_init 160 = .ok (.putfield 77, 3) := by decide +kernel
theorem dX4_init_163 : decode cX4_init 163 = .ok (.return_, 1) := by decide +kernel
theorem dX4_clear_0 : decode cX4_clear 0 = .ok (.aload_n 0, 1) := by decide +kernel
theorem dX4_clear_1 : decode cX4_clear 1 = .ok (.getfield 14, 3) := by decide +kernel
theorem dX4_clear_4 : decode cX4_clear 4 = .ok (.iconst 0, 1) := by decide +kernel
theorem dX4_clear_5 : decode cX4_clear 5 = .ok (.putfield 80, 3) := by decide +kernel
theorem dX4_clear_8 : decode cX4_clear 8 = .ok (.aload_n 0, 1) := by decide +kernel
theorem dX4_clear_9 : decode cX4_clear 9 = .ok (.getfield 20, 3) := by decide +kernel
theorem dX4_clear_12 : decode cX4_clear 12 = .ok (.iconst 0, 1) := by decide +kernel
theorem dX4_clear_13 : decode cX4_clear 13 = .ok (.putfield 80, 3) := by decide +kernel
theorem dX4_clear_16 : decode cX4_clear 16 = .ok (.aload_n 0, 1) := by decide +kernel
theorem dX4_clear_17 : decode cX4_clear 17 = .ok (.getfield 23, 3) := by decide +kernel
theorem dX4_clear_20 : decode cX4_clear 20 = .ok (.iconst 0, 1) := by decide +kernel
theorem dX4_clear_21 : decode cX4_clear 21 = .ok (.putfield 80, 3) := by decide +kernel
theorem dX4_clear_24 : decode cX4_clear 24 = .ok (.aload_n 0, 1) := by decide +kernel
theorem dX4_clear_25 : decode cX4_clear 25 = .ok (.getfield 26, 3) := by decide +kernel
theorem dX4_clear_28 : decode cX4_clear 28 = .ok (.iconst 0, 1) := by decide +kernel
theorem dX4_clear_29 : decode cX4_clear 29 = .ok (.putfield 80, 3) := by decide +kernel
theorem dX4_clear_32 : decode cX4_clear 32 = .ok (.aload_n 0, 1) := by decide +kernel
theorem dX4_clear_33 : decode cX4_clear 33 = .ok (.getfield 66, 3) := by decide +kernel
theorem dX4_clear_36 : decode cX4_clear 36 = .ok (.invokevirtual 83, 3) := by decide +kernel
theorem dX4_clear_39 : decode cX4_clear 39 = .ok (.aload_n 0, 1) := by decide +kernel
theorem dX4_clear_40 : decode cX4_clear 40 = .ok (.iconst 0, 1) := by decide +kernel
theorem dX4_clear_41 : decode cX4_clear 41 = .ok (.putfield 70, 3) := by decide +kernel
theorem dX4_clear_44 : decode cX4_clear 44 = .ok (.aload_n 0, 1) := by decide +kernel
theorem dX4_clear_45 : decode cX4_clear 45 = .ok (.iconst 0, 1) := by decide +kernel
theorem dX4_clear_46 : decode cX4_clear 46 = .ok (.putfield 74, 3) := by decide +kernel
theorem dX4_clear_49 : decode cX4_clear 49 = .ok (.aload_n 0, 1) := by decide +kernel
theorem dX4_clear_50 : decode cX4_clear 50 = .ok (.iconst 0, 1) := by decide +kernel
theorem dX4_clear_51 : decode cX4_clear 51 = .ok (.putfield 77, 3) := by decide +kernel
