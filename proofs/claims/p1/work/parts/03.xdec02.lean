theorem dX12_bids_1 : decode cX12_bids 1 = .ok (.iconst 0, 1) := by decide +kernel
theorem dX12_bids_2 : decode cX12_bids 2 = .ok (.putfield 163, 3) := by decide +kernel
theorem dX12_bids_5 : decode cX12_bids 5 = .ok (.iload_n 1, 1) := by decide +kernel
theorem dX12_bids_6 : decode cX12_bids 6 = .ok (.ifCond .lt 36, 3) := by decide +kernel
theorem dX12_bids_9 : decode cX12_bids 9 = .ok (.iload_n 1, 1) := by decide +kernel
theorem dX12_bids_10 : decode cX12_bids 10 = .ok (.aload_n 0, 1) := by decide +kernel
theorem dX12_bids_11 : decode cX12_bids 11 = .ok (.getfield 13, 3) := by decide +kernel
theorem dX12_bids_14 : decode cX12_bids 14 = .ok (.iconst 3, 1) := by decide +kernel
theorem dX12_bids_15 : decode cX12_bids 15 = .ok (.iaload, 1) := by decide +kernel
theorem dX12_bids_16 : decode cX12_bids 16 = .ok (.if_icmp .ge 26, 3) := by decide +kernel
theorem dX12_bids_42 : decode cX12_bids 42 = .ok (.iconst (-1), 1) := by decide +kernel
theorem dX12_bids_43 : decode cX12_bids 43 = .ok (.ireturn, 1) := by decide +kernel
theorem dX12_bitsOf_0 : decode cX12_bitsOf 0 = .ok (.iconst 0, 1) := by decide +kernel
theorem dX12_bitsOf_1 : decode cX12_bitsOf 1 = .ok (.istore_n 1, 1) := by decide +kernel
theorem dX12_bitsOf_2 : decode cX12_bitsOf 2 = .ok (.iconst 0, 1) := by decide +kernel
theorem dX12_bitsOf_3 : decode cX12_bitsOf 3 = .ok (.istore_n 2, 1) := by decide +kernel
theorem dX12_bitsOf_4 : decode cX12_bitsOf 4 = .ok (.iload_n 2, 1) := by decide +kernel
theorem dX12_bitsOf_5 : decode cX12_bitsOf 5 = .ok (.bipush 6, 2) := by decide +kernel
theorem dX12_bitsOf_7 : decode cX12_bitsOf 7 = .ok (.if_icmp .ge 17, 3) := by decide +kernel
theorem dX12_bitsOf_10 : decode cX12_bitsOf 10 = .ok (.iload_n 1, 1) := by decide +kernel
theorem dX12_bitsOf_11 : decode cX12_bitsOf 11 = .ok (.iload_n 0, 1) := by decide +kernel
theorem dX12_bitsOf_12 : decode cX12_bitsOf 12 = .ok (.iload_n 2, 1) := by decide +kernel
theorem dX12_bitsOf_13 : decode cX12_bitsOf 13 = .ok (.ishr, 1) := by decide +kernel
theorem dX12_bitsOf_14 : decode cX12_bitsOf 14 = .ok (.iconst 1, 1) := by decide +kernel
theorem dX12_bitsOf_15 : decode cX12_bitsOf 15 = .ok (.iand, 1) := by decide +kernel
theorem dX12_bitsOf_16 : decode cX12_bitsOf 16 = .ok (.iadd, 1) := by decide +kernel
theorem dX12_bitsOf_17 : decode cX12_bitsOf 17 = .ok (.istore_n 1, 1) := by decide +kernel
theorem dX12_bitsOf_18 : decode cX12_bitsOf 18 = .ok (.iinc 2 1, 3) := by decide +kernel
theorem dX12_bitsOf_21 : decode cX12_bitsOf 21 = .ok (.goto (-17), 3) := by decide +kernel
theorem dX12_bitsOf_24 : decode cX12_bitsOf 24 = .ok (.iload_n 1, 1) := by decide +kernel
theorem dX12_bitsOf_25 : decode cX12_bitsOf 25 = .ok (.ireturn, 1) := by decide +kernel
theorem dX12_chosen_0 : decode cX12_chosen 0 = .ok (.aload_n 0, 1) := by decide +kernel
theorem dX12_chosen_1 : decode cX12_chosen 1 = .ok (.iconst 0, 1) := by decide +kernel
theorem dX12_chosen_2 : decode cX12_chosen 2 = .ok (.putfield 163, 3) := by decide +kernel
theorem dX12_chosen_5 : decode cX12_chosen 5 = .ok (.iload_n 1, 1) := by decide +kernel
theorem dX12_chosen_6 : decode cX12_chosen 6 = .ok (.invokestatic 446, 3) := by decide +kernel
theorem dX12_chosen_9 : decode cX12_chosen 9 = .ok (.ifCond .eq 12, 3) := by decide +kernel
theorem dX12_chosen_12 : decode cX12_chosen 12 = .ok (.aload_n 0, 1) := by decide +kernel
theorem dX12_chosen_13 : decode cX12_chosen 13 = .ok (.iload_n 2, 1) := by decide +kernel
theorem dX12_chosen_14 : decode cX12_chosen 14 = .ok (.iload_n 3, 1) := by decide +kernel
theorem dX12_chosen_15 : decode cX12_chosen 15 = .ok (.invokevirtual 344, 3) := by decide +kernel
theorem dX12_chosen_18 : decode cX12_chosen 18 = .ok (.ifCond .ne 5, 3) := by decide +kernel
theorem dX12_chosen_21 : decode cX12_chosen 21 = .ok (.iconst (-1), 1) := by decide +kernel
theorem dX12_chosen_22 : decode cX12_chosen 22 = .ok (.ireturn, 1) := by decide +kernel
theorem dX12_copies_0 : decode cX12_copies 0 = .ok (.aload_n 0, 1) := by decide +kernel
theorem dX12_copies_1 : decode cX12_copies 1 = .ok (.getfield 81, 3) := by decide +kernel
theorem dX12_copies_4 : decode cX12_copies 4 = .ok (.iload_n 1, 1) := by decide +kernel
theorem dX12_copies_5 : decode cX12_copies 5 = .ok (.aload_n 0, 1) := by decide +kernel
theorem dX12_copies_6 : decode cX12_copies 6 = .ok (.getfield 81, 3) := by decide +kernel
theorem dX12_copies_9 : decode cX12_copies 9 = .ok (.iload_n 2, 1) := by decide +kernel
theorem dX12_copies_10 : decode cX12_copies 10 = .ok (.iaload, 1) := by decide +kernel
theorem dX12_copies_11 : decode cX12_copies 11 = .ok (.iastore, 1) := by decide +kernel
theorem dX12_copies_12 : decode cX12_copies 12 = .ok (.aload_n 0, 1) := by decide +kernel
theorem dX12_copies_13 : decode cX12_copies 13 = .ok (.getfield 84, 3) := by decide +kernel
theorem dX12_copies_16 : decode cX12_copies 16 = .ok (.iload_n 1, 1) := by decide +kernel
theorem dX12_copies_17 : decode cX12_copies 17 = .ok (.aload_n 0, 1) := by decide +kernel
theorem dX12_copies_18 : decode cX12_copies 18 = .ok (.getfield 84, 3) := by decide +kernel
theorem dX12_copies_21 : decode cX12_copies 21 = .ok (.iload_n 2, 1) := by decide +kernel
theorem dX12_copies_22 : decode cX12_copies 22 = .ok (.iaload, 1) := by decide +kernel
theorem dX12_copies_23 : decode cX12_copies 23 = .ok (.iastore, 1) := by decide +kernel
theorem dX12_copies_24 : decode cX12_copies 24 = .ok (.aload_n 0, 1) := by decide +kernel
theorem dX12_copies_25 : decode cX12_copies 25 = .ok (.getfield 87, 3) := by decide +kernel
theorem dX12_copies_28 : decode cX12_copies 28 = .ok (.iload_n 1, 1) := by decide +kernel
theorem dX12_copies_29 : decode cX12_copies 29 = .ok (.aload_n 0, 1) := by decide +kernel
theorem dX12_copies_30 : decode cX12_copies 30 = .ok (.getfield 87, 3) := by decide +kernel
theorem dX12_copies_33 : decode cX12_copies 33 = .ok (.iload_n 2, 1) := by decide +kernel
theorem dX12_copies_34 : decode cX12_copies 34 = .ok (.iaload, 1) := by decide +kernel
theorem dX12_copies_35 : decode cX12_copies 35 = .ok (.iastore, 1) := by decide +kernel
theorem dX12_copies_36 : decode cX12_copies 36 = .ok (.aload_n 0, 1) := by decide +kernel
theorem dX12_copies_37 : decode cX12_copies 37 = .ok (.getfield 90, 3) := by decide +kernel
theorem dX12_copies_40 : decode cX12_copies 40 = .ok (.iload_n 1, 1) := by decide +kernel
theorem dX12_copies_41 : decode cX12_copies 41 = .ok (.aload_n 0, 1) := by decide +kernel
theorem dX12_copies_42 : decode cX12_copies 42 = .ok (.getfield 90, 3) := by decide +kernel
theorem dX12_copies_45 : decode cX12_copies 45 = .ok (.iload_n 2, 1) := by decide +kernel
theorem dX12_copies_46 : decode cX12_copies 46 = .ok (.iaload, 1) := by decide +kernel
theorem dX12_copies_47 : decode cX12_copies 47 = .ok (.iastore, 1) := by decide +kernel
theorem dX12_copies_48 : decode cX12_copies 48 = .ok (.aload_n 0, 1) := by decide +kernel
theorem dX12_copies_49 : decode cX12_copies 49 = .ok (.getfield 93, 3) := by decide +kernel
theorem dX12_copies_52 : decode cX12_copies 52 = .ok (.iload_n 1, 1) := by decide +kernel
theorem dX12_copies_53 : decode cX12_copies 53 = .ok (.aload_n 0, 1) := by decide +kernel
theorem dX12_copies_54 : decode cX12_copies 54 = .ok (.getfield 93, 3) := by decide +kernel
theorem dX12_copies_57 : decode cX12_copies 57 = .ok (.iload_n 2, 1) := by decide +kernel
theorem dX12_copies_58 : decode cX12_copies 58 = .ok (.iaload, 1) := by decide +kernel
theorem dX12_copies_59 : decode cX12_copies 59 = .ok (.iastore, 1) := by decide +kernel
theorem dX12_copies_60 : decode cX12_copies 60 = .ok (.aload_n 0, 1) := by decide +kernel
theorem dX12_copies_61 : decode cX12_copies 61 = .ok (.getfield 108, 3) := by decide +kernel
theorem dX12_copies_64 : decode cX12_copies 64 = .ok (.iload_n 1, 1) := by decide +kernel
theorem dX12_copies_65 : decode cX12_copies 65 = .ok (.aload_n 0, 1) := by decide +kernel
theorem dX12_copies_66 : decode cX12_copies 66 = .ok (.getfield 108, 3) := by decide +kernel
theorem dX12_copies_69 : decode cX12_copies 69 = .ok (.iload_n 2, 1) := by decide +kernel
theorem dX12_copies_70 : decode cX12_copies 70 = .ok (.iaload, 1) := by decide +kernel
theorem dX12_copies_71 : decode cX12_copies 71 = .ok (.iastore, 1) := by decide +kernel
theorem dX12_copies_72 : decode cX12_copies 72 = .ok (.iconst 0, 1) := by decide +kernel
theorem dX12_copies_73 : decode cX12_copies 73 = .ok (.istore_n 3, 1) := by decide +kernel
theorem dX12_copies_74 : decode cX12_copies 74 = .ok (.iload_n 3, 1) := by decide +kernel
theorem dX12_copies_75 : decode cX12_copies 75 = .ok (.iconst 3, 1) := by decide +kernel
theorem dX12_copies_76 : decode cX12_copies 76 = .ok (.if_icmp .ge 29, 3) := by decide +kernel
theorem dX12_copies_79 : decode cX12_copies 79 = .ok (.aload_n 0, 1) := by decide +kernel
theorem dX12_copies_80 : decode cX12_copies 80 = .ok (.getfield 96, 3) := by decide +kernel
theorem dX12_copies_83 : decode cX12_copies 83 = .ok (.iconst 3, 1) := by decide +kernel
theorem dX12_copies_84 : decode cX12_copies 84 = .ok (.iload_n 1, 1) := by decide +kernel
theorem dX12_copies_85 : decode cX12_copies 85 = .ok (.imul, 1) := by decide +kernel
theorem dX12_copies_86 : decode cX12_copies 86 = .ok (.iload_n 3, 1) := by decide +kernel
theorem dX12_copies_87 : decode cX12_copies 87 = .ok (.iadd, 1) := by decide +kernel
theorem dX12_copies_88 : decode cX12_copies 88 = .ok (.aload_n 0, 1) := by decide +kernel
theorem dX12_copies_89 : decode cX12_copies 89 = .ok (.getfield 96, 3) := by decide +kernel
theorem dX12_copies_92 : decode cX12_copies 92 = .ok (.iconst 3, 1) := by decide +kernel
theorem dX12_copies_93 : decode cX12_copies 93 = .ok (.iload_n 2, 1) := by decide +kernel
theorem dX12_copies_94 : decode cX12_copies 94 = .ok (.imul, 1) := by decide +kernel
theorem dX12_copies_95 : decode cX12_copies 95 = .ok (.iload_n 3, 1) := by decide +kernel
theorem dX12_copies_96 : decode cX12_copies 96 = .ok (.iadd, 1) := by decide +kernel
theorem dX12_copies_97 : decode cX12_copies 97 = .ok (.iaload, 1) := by decide +kernel
theorem dX12_copies_98 : decode cX12_copies 98 = .ok (.iastore, 1) := by decide +kernel
theorem dX12_copies_99 : decode cX12_copies 99 = .ok (.iinc 3 1, 3) := by decide +kernel
theorem dX12_copies_102 : decode cX12_copies 102 = .ok (.goto (-28), 3) := by decide +kernel
theorem dX12_copies_105 : decode cX12_copies 105 = .ok (.iconst 0, 1) := by decide +kernel
theorem dX12_copies_106 : decode cX12_copies 106 = .ok (.istore_n 3, 1) := by decide +kernel
theorem dX12_copies_107 : decode cX12_copies 107 = .ok (.iload_n 3, 1) := by decide +kernel
theorem dX12_copies_108 : decode cX12_copies 108 = .ok (.iconst 3, 1) := by decide +kernel
theorem dX12_copies_109 : decode cX12_copies 109 = .ok (.if_icmp .ge 29, 3) := by decide +kernel
theorem dX12_copies_112 : decode cX12_copies 112 = .ok (.aload_n 0, 1) := by decide +kernel
theorem dX12_copies_113 : decode cX12_copies 113 = .ok (.getfield 99, 3) := by decide +kernel
theorem dX12_copies_116 : decode cX12_copies 116 = .ok (.iconst 3, 1) := by decide +kernel
theorem dX12_copies_117 : decode cX12_copies 117 = .ok (.iload_n 1, 1) := by decide +kernel
theorem dX12_copies_118 : decode cX12_copies 118 = .ok (.imul, 1) := by decide +kernel
theorem dX12_copies_119 : decode cX12_copies 119 = .ok (.iload_n 3, 1) := by decide +kernel
theorem dX12_copies_120 : decode cX12_copies 120 = .ok (.iadd, 1) := by decide +kernel
theorem dX12_copies_121 : decode cX12_copies 121 = .ok (.aload_n 0, 1) := by decide +kernel
theorem dX12_copies_122 : decode cX12_copies 122 = .ok (.getfield 99, 3) := by decide +kernel
theorem dX12_copies_125 : decode cX12_copies 125 = .ok (.iconst 3, 1) := by decide +kernel
theorem dX12_copies_126 : decode cX12_copies 126 = .ok (.iload_n 2, 1) := by decide +kernel
theorem dX12_copies_127 : decode cX12_copies 127 = .ok (.imul, 1) := by decide +kernel
theorem dX12_copies_128 : decode cX12_copies 128 = .ok (.iload_n 3, 1) := by decide +kernel
theorem dX12_copies_129 : decode cX12_copies 129 = .ok (.iadd, 1) := by decide +kernel
theorem dX12_copies_130 : decode cX12_copies 130 = .ok (.iaload, 1) := by decide +kernel
theorem dX12_copies_131 : decode cX12_copies 131 = .ok (.iastore, 1) := by decide +kernel
theorem dX12_copies_132 : decode cX12_copies 132 = .ok (.iinc 3 1, 3) := by decide +kernel
theorem dX12_copies_135 : decode cX12_copies 135 = .ok (.goto (-28), 3) := by decide +kernel
theorem dX12_copies_138 : decode cX12_copies 138 = .ok (.iconst 0, 1) := by decide +kernel
theorem dX12_copies_139 : decode cX12_copies 139 = .ok (.istore_n 3, 1) := by decide +kernel
theorem dX12_copies_140 : decode cX12_copies 140 = .ok (.iload_n 3, 1) := by decide +kernel
theorem dX12_copies_141 : decode cX12_copies 141 = .ok (.bipush 6, 2) := by decide +kernel
theorem dX12_copies_143 : decode cX12_copies 143 = .ok (.if_icmp .ge 31, 3) := by decide +kernel
theorem dX12_copies_146 : decode cX12_copies 146 = .ok (.aload_n 0, 1) := by decide +kernel
theorem dX12_copies_147 : decode cX12_copies 147 = .ok (.getfield 102, 3) := by decide +kernel
theorem dX12_copies_150 : decode cX12_copies 150 = .ok (.bipush 6, 2) := by decide +kernel
theorem dX12_copies_152 : decode cX12_copies 152 = .ok (.iload_n 1, 1) := by decide +kernel
theorem dX12_copies_153 : decode cX12_copies 153 = .ok (.imul, 1) := by decide +kernel
theorem dX12_copies_154 : decode cX12_copies 154 = .ok (.iload_n 3, 1) := by decide +kernel
theorem dX12_copies_155 : decode cX12_copies 155 = .ok (.iadd, 1) := by decide +kernel
theorem dX12_copies_156 : decode cX12_copies 156 = .ok (.aload_n 0, 1) := by decide +kernel
theorem dX12_copies_157 : decode cX12_copies 157 = .ok (.getfield 102, 3) := by decide +kernel
theorem dX12_copies_160 : decode cX12_copies 160 = .ok (.bipush 6, 2) := by decide +kernel
theorem dX12_copies_162 : decode cX12_copies 162 = .ok (.iload_n 2, 1) := by decide +kernel
theorem dX12_copies_163 : decode cX12_copies 163 = .ok (.imul, 1) := by decide +kernel
theorem dX12_copies_164 : decode cX12_copies 164 = .ok (.iload_n 3, 1) := by decide +kernel
theorem dX12_copies_165 : decode cX12_copies 165 = .ok (.iadd, 1) := by decide +kernel
theorem dX12_copies_166 : decode cX12_copies 166 = .ok (.iaload, 1) := by decide +kernel
theorem dX12_copies_167 : decode cX12_copies 167 = .ok (.iastore, 1) := by decide +kernel
theorem dX12_copies_168 : decode cX12_copies 168 = .ok (.iinc 3 1, 3) := by decide +kernel
theorem dX12_copies_171 : decode cX12_copies 171 = .ok (.goto (-31), 3) := by decide +kernel
theorem dX12_copies_174 : decode cX12_copies 174 = .ok (.iconst 0, 1) := by decide +kernel
theorem dX12_copies_175 : decode cX12_copies 175 = .ok (.istore_n 3, 1) := by decide +kernel
theorem dX12_copies_176 : decode cX12_copies 176 = .ok (.iload_n 3, 1) := by decide +kernel
theorem dX12_copies_177 : decode cX12_copies 177 = .ok (.bipush 12, 2) := by decide +kernel
theorem dX12_copies_179 : decode cX12_copies 179 = .ok (.if_icmp .ge 75, 3) := by decide +kernel
theorem dX12_copies_182 : decode cX12_copies 182 = .ok (.aload_n 0, 1) := by decide +kernel
theorem dX12_copies_183 : decode cX12_copies 183 = .ok (.getfield 105, 3) := by decide +kernel
theorem dX12_copies_186 : decode cX12_copies 186 = .ok (.bipush 12, 2) := by decide +kernel
theorem dX12_copies_188 : decode cX12_copies 188 = .ok (.iload_n 1, 1) := by decide +kernel
theorem dX12_copies_189 : decode cX12_copies 189 = .ok (.imul, 1) := by decide +kernel
theorem dX12_copies_190 : decode cX12_copies 190 = .ok (.iload_n 3, 1) := by decide +kernel
theorem dX12_copies_191 : decode cX12_copies 191 = .ok (.iadd, 1) := by decide +kernel
theorem dX12_copies_192 : decode cX12_copies 192 = .ok (.aload_n 0, 1) := by decide +kernel
theorem dX12_copies_193 : decode cX12_copies 193 = .ok (.getfield 105, 3) := by decide +kernel
theorem dX12_copies_196 : decode cX12_copies 196 = .ok (.bipush 12, 2) := by decide +kernel
theorem dX12_copies_198 : decode cX12_copies 198 = .ok (.iload_n 2, 1) := by decide +kernel
theorem dX12_copies_199 : decode cX12_copies 199 = .ok (.imul, 1) := by decide +kernel
theorem dX12_copies_200 : decode cX12_copies 200 = .ok (.iload_n 3, 1) := by decide +kernel
theorem dX12_copies_201 : decode cX12_copies 201 = .ok (.iadd, 1) := by decide +kernel
theorem dX12_copies_202 : decode cX12_copies 202 = .ok (.iaload, 1) := by decide +kernel
theorem dX12_copies_203 : decode cX12_copies 203 = .ok (.iastore, 1) := by decide +kernel
theorem dX12_copies_204 : decode cX12_copies 204 = .ok (.aload_n 0, 1) := by decide +kernel
theorem dX12_copies_205 : decode cX12_copies 205 = .ok (.getfield 111, 3) := by decide +kernel
theorem dX12_copies_208 : decode cX12_copies 208 = .ok (.bipush 12, 2) := by decide +kernel
theorem dX12_copies_210 : decode cX12_copies 210 = .ok (.iload_n 1, 1) := by decide +kernel
theorem dX12_copies_211 : decode cX12_copies 211 = .ok (.imul, 1) := by decide +kernel
theorem dX12_copies_212 : decode cX12_copies 212 = .ok (.iload_n 3, 1) := by decide +kernel
theorem dX12_copies_213 : decode cX12_copies 213 = .ok (.iadd, 1) := by decide +kernel
theorem dX12_copies_214 : decode cX12_copies 214 = .ok (.aload_n 0, 1) := by decide +kernel
theorem dX12_copies_215 : decode cX12_copies 215 = .ok (.getfield 111, 3) := by decide +kernel
theorem dX12_copies_218 : decode cX12_copies 218 = .ok (.bipush 12, 2) := by decide +kernel
theorem dX12_copies_220 : decode cX12_copies 220 = .ok (.iload_n 2, 1) := by decide +kernel
theorem dX12_copies_221 : decode cX12_copies 221 = .ok (.imul, 1) := by decide +kernel
theorem dX12_copies_222 : decode cX12_copies 222 = .ok (.iload_n 3, 1) := by decide +kernel
theorem dX12_copies_223 : decode cX12_copies 223 = .ok (.iadd, 1) := by decide +kernel
theorem dX12_copies_224 : decode cX12_copies 224 = .ok (.iaload, 1) := by decide +kernel
theorem dX12_copies_225 : decode cX12_copies 225 = .ok (.iastore, 1) := by decide +kernel
theorem dX12_copies_226 : decode cX12_copies 226 = .ok (.aload_n 0, 1) := by decide +kernel
theorem dX12_copies_227 : decode cX12_copies 227 = .ok (.getfield 114, 3) := by decide +kernel
theorem dX12_copies_230 : decode cX12_copies 230 = .ok (.bipush 12, 2) := by decide +kernel
theorem dX12_copies_232 : decode cX12_copies 232 = .ok (.iload_n 1, 1) := by decide +kernel
theorem dX12_copies_233 : decode cX12_copies 233 = .ok (.imul, 1) := by decide +kernel
theorem dX12_copies_234 : decode cX12_copies 234 = .ok (.iload_n 3, 1) := by decide +kernel
theorem dX12_copies_235 : decode cX12_copies 235 = .ok (.iadd, 1) := by decide +kernel
theorem dX12_copies_236 : decode cX12_copies 236 = .ok (.aload_n 0, 1) := by decide +kernel
theorem dX12_copies_237 : decode cX12_copies 237 = .ok (.getfield 114, 3) := by decide +kernel
theorem dX12_copies_240 : decode cX12_copies 240 = .ok (.bipush 12, 2) := by decide +kernel
theorem dX12_copies_242 : decode cX12_copies 242 = .ok (.iload_n 2, 1) := by decide +kernel
theorem dX12_copies_243 : decode cX12_copies 243 = .ok (.imul, 1) := by decide +kernel
theorem dX12_copies_244 : decode cX12_copies 244 = .ok (.iload_n 3, 1) := by decide +kernel
theorem dX12_copies_245 : decode cX12_copies 245 = .ok (.iadd, 1) := by decide +kernel
theorem dX12_copies_246 : decode cX12_copies 246 = .ok (.iaload, 1) := by decide +kernel
theorem dX12_copies_247 : decode cX12_copies 247 = .ok (.iastore, 1) := by decide +kernel
theorem dX12_copies_248 : decode cX12_copies 248 = .ok (.iinc 3 1, 3) := by decide +kernel
theorem dX12_copies_251 : decode cX12_copies 251 = .ok (.goto (-75), 3) := by decide +kernel
theorem dX12_copies_254 : decode cX12_copies 254 = .ok (.return_, 1) := by decide +kernel
theorem dX12_count_0 : decode cX12_count 0 = .ok (.aload_n 0, 1) := by decide +kernel
theorem dX12_count_1 : decode cX12_count 1 = .ok (.iconst 0, 1) := by decide +kernel
theorem dX12_count_2 : decode cX12_count 2 = .ok (.putfield 163, 3) := by decide +kernel
theorem dX12_count_5 : decode cX12_count 5 = .ok (.iconst 0, 1) := by decide +kernel
theorem dX12_count_6 : decode cX12_count 6 = .ok (.istore_n 2, 1) := by decide +kernel
theorem dX12_count_7 : decode cX12_count 7 = .ok (.iload_n 1, 1) := by decide +kernel
theorem dX12_count_8 : decode cX12_count 8 = .ok (.tableswitch 211 0 11 #[64, 71, 78, 85, 92, 100, 107, 114, 121, 126, 131, 141], 64) := by decide +kernel
theorem dX12_count_72 : decode cX12_count 72 = .ok (.aload_n 0, 1) := by decide +kernel
theorem dX12_count_73 : decode cX12_count 73 = .ok (.getfield 13, 3) := by decide +kernel
theorem dX12_count_76 : decode cX12_count 76 = .ok (.iconst 0, 1) := by decide +kernel
theorem dX12_count_77 : decode cX12_count 77 = .ok (.iaload, 1) := by decide +kernel
theorem dX12_count_78 : decode cX12_count 78 = .ok (.ireturn, 1) := by decide +kernel
theorem dX12_count_79 : decode cX12_count 79 = .ok (.aload_n 0, 1) := by decide +kernel
theorem dX12_count_80 : decode cX12_count 80 = .ok (.getfield 13, 3) := by decide +kernel
theorem dX12_count_83 : decode cX12_count 83 = .ok (.iconst 1, 1) := by decide +kernel
theorem dX12_count_84 : decode cX12_count 84 = .ok (.iaload, 1) := by decide +kernel
theorem dX12_count_85 : decode cX12_count 85 = .ok (.ireturn, 1) := by decide +kernel
theorem dX12_count_86 : decode cX12_count 86 = .ok (.aload_n 0, 1) := by decide +kernel
theorem dX12_count_87 : decode cX12_count 87 = .ok (.getfield 13, 3) := by decide +kernel
theorem dX12_count_90 : decode cX12_count 90 = .ok (.iconst 2, 1) := by decide +kernel
theorem dX12_count_91 : decode cX12_count 91 = .ok (.iaload, 1) := by decide +kernel
theorem dX12_count_92 : decode cX12_count 92 = .ok (.ireturn, 1) := by decide +kernel
theorem dX12_count_93 : decode cX12_count 93 = .ok (.aload_n 0, 1) := by decide +kernel
theorem dX12_count_94 : decode cX12_count 94 = .ok (.getfield 13, 3) := by decide +kernel
theorem dX12_count_97 : decode cX12_count 97 = .ok (.iconst 3, 1) := by decide +kernel
theorem dX12_count_98 : decode cX12_count 98 = .ok (.iaload, 1) := by decide +kernel
theorem dX12_count_99 : decode cX12_count 99 = .ok (.ireturn, 1) := by decide +kernel
theorem dX12_count_100 : decode cX12_count 100 = .ok (.aload_n 0, 1) := by decide +kernel
theorem dX12_count_101 : decode cX12_count 101 = .ok (.getfield 13, 3) := by decide +kernel
theorem dX12_count_104 : decode cX12_count 104 = .ok (.bipush 6, 2) := by decide +kernel
theorem dX12_count_106 : decode cX12_count 106 = .ok (.iaload, 1) := by decide +kernel
theorem dX12_count_107 : decode cX12_count 107 = .ok (.ireturn, 1) := by decide +kernel
theorem dX12_count_108 : decode cX12_count 108 = .ok (.aload_n 0, 1) := by decide +kernel
theorem dX12_count_109 : decode cX12_count 109 = .ok (.getfield 81, 3) := by decide +kernel
theorem dX12_count_112 : decode cX12_count 112 = .ok (.iconst 0, 1) := by decide +kernel
theorem dX12_count_113 : decode cX12_count 113 = .ok (.iaload, 1) := by decide +kernel
theorem dX12_count_114 : decode cX12_count 114 = .ok (.ireturn, 1) := by decide +kernel
theorem dX12_count_115 : decode cX12_count 115 = .ok (.aload_n 0, 1) := by decide +kernel
theorem dX12_count_116 : decode cX12_count 116 = .ok (.getfield 84, 3) := by decide +kernel
theorem dX12_count_119 : decode cX12_count 119 = .ok (.iconst 0, 1) := by decide +kernel
theorem dX12_count_120 : decode cX12_count 120 = .ok (.iaload, 1) := by decide +kernel
theorem dX12_count_121 : decode cX12_count 121 = .ok (.ireturn, 1) := by decide +kernel
theorem dX12_count_122 : decode cX12_count 122 = .ok (.aload_n 0, 1) := by decide +kernel
theorem dX12_count_123 : decode cX12_count 123 = .ok (.getfield 108, 3) := by decide +kernel
theorem dX12_count_126 : decode cX12_count 126 = .ok (.iconst 0, 1) := by decide +kernel
theorem dX12_count_127 : decode cX12_count 127 = .ok (.iaload, 1) := by decide +kernel
theorem dX12_count_128 : decode cX12_count 128 = .ok (.ireturn, 1) := by decide +kernel
theorem dX12_count_129 : decode cX12_count 129 = .ok (.aload_n 0, 1) := by decide +kernel
theorem dX12_count_130 : decode cX12_count 130 = .ok (.getfield 325, 3) := by decide +kernel
theorem dX12_count_133 : decode cX12_count 133 = .ok (.ireturn, 1) := by decide +kernel
theorem dX12_count_134 : decode cX12_count 134 = .ok (.aload_n 0, 1) := by decide +kernel
theorem dX12_count_135 : decode cX12_count 135 = .ok (.invokevirtual 467, 3) := by decide +kernel
theorem dX12_count_138 : decode cX12_count 138 = .ok (.ireturn, 1) := by decide +kernel
theorem dX12_count_139 : decode cX12_count 139 = .ok (.aload_n 0, 1) := by decide +kernel
theorem dX12_count_140 : decode cX12_count 140 = .ok (.getfield 93, 3) := by decide +kernel
theorem dX12_count_143 : decode cX12_count 143 = .ok (.iconst 0, 1) := by decide +kernel
theorem dX12_count_144 : decode cX12_count 144 = .ok (.iaload, 1) := by decide +kernel
theorem dX12_count_145 : decode cX12_count 145 = .ok (.invokestatic 485, 3) := by decide +kernel
theorem dX12_count_148 : decode cX12_count 148 = .ok (.ireturn, 1) := by decide +kernel
theorem dX12_count_149 : decode cX12_count 149 = .ok (.iconst 0, 1) := by decide +kernel
theorem dX12_count_150 : decode cX12_count 150 = .ok (.istore_n 3, 1) := by decide +kernel
theorem dX12_count_151 : decode cX12_count 151 = .ok (.iload_n 3, 1) := by decide +kernel
theorem dX12_count_152 : decode cX12_count 152 = .ok (.aload_n 0, 1) := by decide +kernel
theorem dX12_count_153 : decode cX12_count 153 = .ok (.getfield 13, 3) := by decide +kernel
theorem dX12_count_156 : decode cX12_count 156 = .ok (.iconst 0, 1) := by decide +kernel
theorem dX12_count_157 : decode cX12_count 157 = .ok (.iaload, 1) := by decide +kernel
theorem dX12_count_158 : decode cX12_count 158 = .ok (.if_icmp .ge 18, 3) := by decide +kernel
theorem dX12_count_176 : decode cX12_count 176 = .ok (.iconst 0, 1) := by decide +kernel
theorem dX12_count_177 : decode cX12_count 177 = .ok (.istore_n 3, 1) := by decide +kernel
theorem dX12_count_178 : decode cX12_count 178 = .ok (.iload_n 3, 1) := by decide +kernel
theorem dX12_count_179 : decode cX12_count 179 = .ok (.aload_n 0, 1) := by decide +kernel
theorem dX12_count_180 : decode cX12_count 180 = .ok (.getfield 13, 3) := by decide +kernel
theorem dX12_count_183 : decode cX12_count 183 = .ok (.iconst 3, 1) := by decide +kernel
theorem dX12_count_184 : decode cX12_count 184 = .ok (.iaload, 1) := by decide +kernel
theorem dX12_count_185 : decode cX12_count 185 = .ok (.if_icmp .ge 18, 3) := by decide +kernel
theorem dX12_count_203 : decode cX12_count 203 = .ok (.iload_n 2, 1) := by decide +kernel
theorem dX12_count_204 : decode cX12_count 204 = .ok (.aload_n 0, 1) := by decide +kernel
theorem dX12_count_205 : decode cX12_count 205 = .ok (.getfield 84, 3) := by decide +kernel
theorem dX12_count_208 : decode cX12_count 208 = .ok (.iconst 0, 1) := by decide +kernel
theorem dX12_count_209 : decode cX12_count 209 = .ok (.iaload, 1) := by decide +kernel
theorem dX12_count_210 : decode cX12_count 210 = .ok (.iadd, 1) := by decide +kernel
theorem dX12_count_211 : decode cX12_count 211 = .ok (.aload_n 0, 1) := by decide +kernel
theorem dX12_count_212 : decode cX12_count 212 = .ok (.getfield 90, 3) := by decide +kernel
theorem dX12_count_215 : decode cX12_count 215 = .ok (.iconst 0, 1) := by decide +kernel
theorem dX12_count_216 : decode cX12_count 216 = .ok (.iaload, 1) := by decide +kernel
theorem dX12_count_217 : decode cX12_count 217 = .ok (.iadd, 1) := by decide +kernel
theorem dX12_count_218 : decode cX12_count 218 = .ok (.ireturn, 1) := by decide +kernel
theorem dX12_count_219 : decode cX12_count 219 = .ok (.iconst (-1), 1) := by decide +kernel
theorem dX12_count_220 : decode cX12_count 220 = .ok (.ireturn, 1) := by decide +kernel
theorem dX12_cracks_0 : decode cX12_cracks 0 = .ok (.aload_n 0, 1) := by decide +kernel
theorem dX12_cracks_1 : decode cX12_cracks 1 = .ok (.iconst 0, 1) := by decide +kernel
theorem dX12_cracks_2 : decode cX12_cracks 2 = .ok (.putfield 163, 3) := by decide +kernel
theorem dX12_cracks_5 : decode cX12_cracks 5 = .ok (.aload_n 0, 1) := by decide +kernel
theorem dX12_cracks_6 : decode cX12_cracks 6 = .ok (.iload_n 1, 1) := by decide +kernel
theorem dX12_cracks_7 : decode cX12_cracks 7 = .ok (.invokevirtual 335, 3) := by decide +kernel
theorem dX12_cracks_10 : decode cX12_cracks 10 = .ok (.ifCond .eq 12, 3) := by decide +kernel
theorem dX12_cracks_22 : decode cX12_cracks 22 = .ok (.iconst (-1), 1) := by decide +kernel
theorem dX12_cracks_23 : decode cX12_cracks 23 = .ok (.ireturn, 1) := by decide +kernel
theorem dX12_due_0 : decode cX12_due 0 = .ok (.aload_n 0, 1) := by decide +kernel
theorem dX12_due_1 : decode cX12_due 1 = .ok (.iconst 0, 1) := by decide +kernel
theorem dX12_due_2 : decode cX12_due 2 = .ok (.putfield 163, 3) := by decide +kernel
theorem dX12_due_5 : decode cX12_due 5 = .ok (.aload_n 0, 1) := by decide +kernel
theorem dX12_due_6 : decode cX12_due 6 = .ok (.iload_n 1, 1) := by decide +kernel
theorem dX12_due_7 : decode cX12_due 7 = .ok (.iload_n 2, 1) := by decide +kernel
theorem dX12_due_8 : decode cX12_due 8 = .ok (.invokevirtual 344, 3) := by decide +kernel
theorem dX12_due_11 : decode cX12_due 11 = .ok (.ifCond .eq 24, 3) := by decide +kernel
theorem dX12_due_35 : decode cX12_due 35 = .ok (.iconst (-1), 1) := by decide +kernel
theorem dX12_due_36 : decode cX12_due 36 = .ok (.ireturn, 1) := by decide +kernel
theorem dX12_easter_0 : decode cX12_easter 0 = .ok (.aload_n 0, 1) := by decide +kernel
theorem dX12_easter_1 : decode cX12_easter 1 = .ok (.iconst 0, 1) := by decide +kernel
theorem dX12_easter_2 : decode cX12_easter 2 = .ok (.putfield 163, 3) := by decide +kernel
theorem dX12_easter_5 : decode cX12_easter 5 = .ok (.aload_n 0, 1) := by decide +kernel
theorem dX12_easter_6 : decode cX12_easter 6 = .ok (.iload_n 1, 1) := by decide +kernel
theorem dX12_easter_7 : decode cX12_easter 7 = .ok (.invokevirtual 461, 3) := by decide +kernel
theorem dX12_easter_10 : decode cX12_easter 10 = .ok (.ifCond .ne 5, 3) := by decide +kernel
theorem dX12_easter_13 : decode cX12_easter 13 = .ok (.iconst (-1), 1) := by decide +kernel
theorem dX12_easter_14 : decode cX12_easter 14 = .ok (.ireturn, 1) := by decide +kernel
theorem dX12_easter_15 : decode cX12_easter 15 = .ok (.aload_n 0, 1) := by decide +kernel
theorem dX12_easter_16 : decode cX12_easter 16 = .ok (.iload_n 1, 1) := by decide +kernel
theorem dX12_easter_17 : decode cX12_easter 17 = .ok (.aload_n 0, 1) := by decide +kernel
theorem dX12_easter_18 : decode cX12_easter 18 = .ok (.getfield 13, 3) := by decide +kernel
theorem dX12_easter_21 : decode cX12_easter 21 = .ok (.iconst 2, 1) := by decide +kernel
theorem dX12_easter_22 : decode cX12_easter 22 = .ok (.iaload, 1) := by decide +kernel
theorem dX12_easter_23 : decode cX12_easter 23 = .ok (.iconst 1, 1) := by decide +kernel
theorem dX12_easter_24 : decode cX12_easter 24 = .ok (.isub, 1) := by decide +kernel
theorem dX12_easter_25 : decode cX12_easter 25 = .ok (.invokevirtual 464, 3) := by decide +kernel
theorem dX12_easter_28 : decode cX12_easter 28 = .ok (.istore_n 2, 1) := by decide +kernel
theorem dX12_easter_29 : decode cX12_easter 29 = .ok (.iconst 0, 1) := by decide +kernel
theorem dX12_easter_30 : decode cX12_easter 30 = .ok (.istore_n 3, 1) := by decide +kernel
theorem dX12_easter_31 : decode cX12_easter 31 = .ok (.iload_n 3, 1) := by decide +kernel
theorem dX12_easter_32 : decode cX12_easter 32 = .ok (.aload_n 0, 1) := by decide +kernel
theorem dX12_easter_33 : decode cX12_easter 33 = .ok (.getfield 13, 3) := by decide +kernel
theorem dX12_easter_36 : decode cX12_easter 36 = .ok (.iconst 3, 1) := by decide +kernel
theorem dX12_easter_37 : decode cX12_easter 37 = .ok (.iaload, 1) := by decide +kernel
theorem dX12_easter_38 : decode cX12_easter 38 = .ok (.if_icmp .ge 21, 3) := by decide +kernel
theorem dX12_easter_59 : decode cX12_easter 59 = .ok (.aload_n 0, 1) := by decide +kernel
theorem dX12_easter_60 : decode cX12_easter 60 = .ok (.getfield 84, 3) := by decide +kernel
theorem dX12_easter_63 : decode cX12_easter 63 = .ok (.iconst 0, 1) := by decide +kernel
theorem dX12_easter_64 : decode cX12_easter 64 = .ok (.dup2, 1) := by decide +kernel
theorem dX12_easter_65 : decode cX12_easter 65 = .ok (.iaload, 1) := by decide +kernel
theorem dX12_easter_66 : decode cX12_easter 66 = .ok (.iload_n 2, 1) := by decide +kernel
theorem dX12_easter_67 : decode cX12_easter 67 = .ok (.iadd, 1) := by decide +kernel
theorem dX12_easter_68 : decode cX12_easter 68 = .ok (.iastore, 1) := by decide +kernel
theorem dX12_easter_69 : decode cX12_easter 69 = .ok (.iload_n 2, 1) := by decide +kernel
theorem dX12_easter_70 : decode cX12_easter 70 = .ok (.ireturn, 1) := by decide +kernel
theorem dX12_entry_0 : decode cX12_entry 0 = .ok (.aload_n 0, 1) := by decide +kernel
theorem dX12_entry_1 : decode cX12_entry 1 = .ok (.iconst 0, 1) := by decide +kernel
theorem dX12_entry_2 : decode cX12_entry 2 = .ok (.putfield 163, 3) := by decide +kernel
theorem dX12_entry_5 : decode cX12_entry 5 = .ok (.aload_n 0, 1) := by decide +kernel
theorem dX12_entry_6 : decode cX12_entry 6 = .ok (.iload_n 1, 1) := by decide +kernel
theorem dX12_entry_7 : decode cX12_entry 7 = .ok (.iload_n 2, 1) := by decide +kernel
theorem dX12_entry_8 : decode cX12_entry 8 = .ok (.invokevirtual 344, 3) := by decide +kernel
theorem dX12_entry_11 : decode cX12_entry 11 = .ok (.ifCond .eq 23, 3) := by decide +kernel
theorem dX12_entry_34 : decode cX12_entry 34 = .ok (.iconst (-1), 1) := by decide +kernel
theorem dX12_entry_35 : decode cX12_entry 35 = .ok (.ireturn, 1) := by decide +kernel
theorem dX12_fault_0 : decode cX12_fault 0 = .ok (.aload_n 0, 1) := by decide +kernel
theorem dX12_fault_1 : decode cX12_fault 1 = .ok (.iconst 0, 1) := by decide +kernel
theorem dX12_fault_2 : decode cX12_fault 2 = .ok (.putfield 163, 3) := by decide +kernel
theorem dX12_fault_5 : decode cX12_fault 5 = .ok (.iload_n 1, 1) := by decide +kernel
theorem dX12_fault_6 : decode cX12_fault 6 = .ok (.ifCond .ne 10, 3) := by decide +kernel
theorem dX12_fault_9 : decode cX12_fault 9 = .ok (.aload_n 0, 1) := by decide +kernel
theorem dX12_fault_10 : decode cX12_fault 10 = .ok (.getfield 318, 3) := by decide +kernel
theorem dX12_fault_13 : decode cX12_fault 13 = .ok (.goto 16, 3) := by decide +kernel
theorem dX12_fault_16 : decode cX12_fault 16 = .ok (.iload_n 1, 1) := by decide +kernel
theorem dX12_fault_17 : decode cX12_fault 17 = .ok (.iconst 1, 1) := by decide +kernel
theorem dX12_fault_18 : decode cX12_fault 18 = .ok (.if_icmp .ne 10, 3) := by decide +kernel
theorem dX12_fault_21 : decode cX12_fault 21 = .ok (.aload_n 0, 1) := by decide +kernel
theorem dX12_fault_22 : decode cX12_fault 22 = .ok (.getfield 77, 3) := by decide +kernel
theorem dX12_fault_25 : decode cX12_fault 25 = .ok (.goto 4, 3) := by decide +kernel
theorem dX12_fault_28 : decode cX12_fault 28 = .ok (.iconst (-1), 1) := by decide +kernel
theorem dX12_fault_29 : decode cX12_fault 29 = .ok (.ireturn, 1) := by decide +kernel
theorem dX12_feed_0 : decode cX12_feed 0 = .ok (.aload_n 0, 1) := by decide +kernel
theorem dX12_feed_1 : decode cX12_feed 1 = .ok (.iconst 0, 1) := by decide +kernel
theorem dX12_feed_2 : decode cX12_feed 2 = .ok (.putfield 163, 3) := by decide +kernel
theorem dX12_feed_5 : decode cX12_feed 5 = .ok (.aload_n 0, 1) := by decide +kernel
theorem dX12_feed_6 : decode cX12_feed 6 = .ok (.getfield 166, 3) := by decide +kernel
theorem dX12_feed_9 : decode cX12_feed 9 = .ok (.sipush 780, 3) := by decide +kernel
theorem dX12_feed_12 : decode cX12_feed 12 = .ok (.if_icmp .le 5, 3) := by decide +kernel
theorem dX12_feed_17 : decode cX12_feed 17 = .ok (.iconst 0, 1) := by decide +kernel
theorem dX12_feed_18 : decode cX12_feed 18 = .ok (.istore 6, 2) := by decide +kernel
theorem dX12_feed_20 : decode cX12_feed 20 = .ok (.iload 6, 2) := by decide +kernel
theorem dX12_feed_22 : decode cX12_feed 22 = .ok (.bipush 20, 2) := by decide +kernel
theorem dX12_feed_24 : decode cX12_feed 24 = .ok (.if_icmp .ge 86, 3) := by decide +kernel
theorem dX12_feed_27 : decode cX12_feed 27 = .ok (.iload 6, 2) := by decide +kernel
theorem dX12_feed_29 : decode cX12_feed 29 = .ok (.iconst 4, 1) := by decide +kernel
theorem dX12_feed_30 : decode cX12_feed 30 = .ok (.if_icmp .ge 7, 3) := by decide +kernel
theorem dX12_feed_33 : decode cX12_feed 33 = .ok (.iload_n 1, 1) := by decide +kernel
theorem dX12_feed_34 : decode cX12_feed 34 = .ok (.goto 39, 3) := by decide +kernel
theorem dX12_feed_37 : decode cX12_feed 37 = .ok (.iload 6, 2) := by decide +kernel
theorem dX12_feed_39 : decode cX12_feed 39 = .ok (.bipush 8, 2) := by decide +kernel
theorem dX12_feed_41 : decode cX12_feed 41 = .ok (.if_icmp .ge 7, 3) := by decide +kernel
theorem dX12_feed_44 : decode cX12_feed 44 = .ok (.iload_n 2, 1) := by decide +kernel
theorem dX12_feed_45 : decode cX12_feed 45 = .ok (.goto 28, 3) := by decide +kernel
theorem dX12_feed_48 : decode cX12_feed 48 = .ok (.iload 6, 2) := by decide +kernel
theorem dX12_feed_50 : decode cX12_feed 50 = .ok (.bipush 12, 2) := by decide +kernel
theorem dX12_feed_52 : decode cX12_feed 52 = .ok (.if_icmp .ge 7, 3) := by decide +kernel
theorem dX12_feed_55 : decode cX12_feed 55 = .ok (.iload_n 3, 1) := by decide +kernel
theorem dX12_feed_56 : decode cX12_feed 56 = .ok (.goto 17, 3) := by decide +kernel
theorem dX12_feed_59 : decode cX12_feed 59 = .ok (.iload 6, 2) := by decide +kernel
theorem dX12_feed_61 : decode cX12_feed 61 = .ok (.bipush 16, 2) := by decide +kernel
theorem dX12_feed_63 : decode cX12_feed 63 = .ok (.if_icmp .ge 8, 3) := by decide +kernel
theorem dX12_feed_66 : decode cX12_feed 66 = .ok (.iload 4, 2) := by decide +kernel
theorem dX12_feed_68 : decode cX12_feed 68 = .ok (.goto 5, 3) := by decide +kernel
theorem dX12_feed_71 : decode cX12_feed 71 = .ok (.iload 5, 2) := by decide +kernel
theorem dX12_feed_73 : decode cX12_feed 73 = .ok (.istore 7, 2) := by decide +kernel
theorem dX12_feed_75 : decode cX12_feed 75 = .ok (.aload_n 0, 1) := by decide +kernel
theorem dX12_feed_76 : decode cX12_feed 76 = .ok (.getfield 7, 3) := by decide +kernel
theorem dX12_feed_79 : decode cX12_feed 79 = .ok (.aload_n 0, 1) := by decide +kernel
theorem dX12_feed_80 : decode cX12_feed 80 = .ok (.getfield 166, 3) := by decide +kernel
theorem dX12_feed_83 : decode cX12_feed 83 = .ok (.iload 6, 2) := by decide +kernel
theorem dX12_feed_85 : decode cX12_feed 85 = .ok (.iadd, 1) := by decide +kernel
theorem dX12_feed_86 : decode cX12_feed 86 = .ok (.iload 7, 2) := by decide +kernel
theorem dX12_feed_88 : decode cX12_feed 88 = .ok (.bipush 24, 2) := by decide +kernel
theorem dX12_feed_90 : decode cX12_feed 90 = .ok (.bipush 8, 2) := by decide +kernel
theorem dX12_feed_92 : decode cX12_feed 92 = .ok (.iload 6, 2) := by decide +kernel
theorem dX12_feed_94 : decode cX12_feed 94 = .ok (.iconst 4, 1) := by decide +kernel
theorem dX12_feed_95 : decode cX12_feed 95 = .ok (.irem, 1) := by decide +kernel
theorem dX12_feed_96 : decode cX12_feed 96 = .ok (.imul, 1) := by decide +kernel
theorem dX12_feed_97 : decode cX12_feed 97 = .ok (.isub, 1) := by decide +kernel
theorem dX12_feed_98 : decode cX12_feed 98 = .ok (.ishr, 1) := by decide +kernel
theorem dX12_feed_99 : decode cX12_feed 99 = .ok (.sipush 255, 3) := by decide +kernel
theorem dX12_feed_102 : decode cX12_feed 102 = .ok (.iand, 1) := by decide +kernel
theorem dX12_feed_103 : decode cX12_feed 103 = .ok (.iastore, 1) := by decide +kernel
theorem dX12_feed_104 : decode cX12_feed 104 = .ok (.iinc 6 1, 3) := by decide +kernel
theorem dX12_feed_107 : decode cX12_feed 107 = .ok (.goto (-87), 3) := by decide +kernel
theorem dX12_feed_110 : decode cX12_feed 110 = .ok (.aload_n 0, 1) := by decide +kernel
theorem dX12_feed_111 : decode cX12_feed 111 = .ok (.dup, 1) := by decide +kernel
theorem dX12_feed_112 : decode cX12_feed 112 = .ok (.getfield 166, 3) := by decide +kernel
theorem dX12_feed_115 : decode cX12_feed 115 = .ok (.bipush 20, 2) := by decide +kernel
theorem dX12_feed_117 : decode cX12_feed 117 = .ok (.iadd, 1) := by decide +kernel
theorem dX12_feed_118 : decode cX12_feed 118 = .ok (.putfield 166, 3) := by decide +kernel
theorem dX12_feed_121 : decode cX12_feed 121 = .ok (.aload_n 0, 1) := by decide +kernel
theorem dX12_feed_122 : decode cX12_feed 122 = .ok (.getfield 166, 3) := by decide +kernel
theorem dX12_feed_125 : decode cX12_feed 125 = .ok (.ireturn, 1) := by decide +kernel
theorem dX12_found_0 : decode cX12_found 0 = .ok (.iconst 0, 1) := by decide +kernel
theorem dX12_found_1 : decode cX12_found 1 = .ok (.istore 4, 2) := by decide +kernel
theorem dX12_found_3 : decode cX12_found 3 = .ok (.iload 4, 2) := by decide +kernel
theorem dX12_found_5 : decode cX12_found 5 = .ok (.iload_n 2, 1) := by decide +kernel
theorem dX12_found_6 : decode cX12_found 6 = .ok (.if_icmp .ge 22, 3) := by decide +kernel
theorem dX12_found_28 : decode cX12_found 28 = .ok (.iconst (-1), 1) := by decide +kernel
theorem dX12_found_29 : decode cX12_found 29 = .ok (.ireturn, 1) := by decide +kernel
theorem dX12_gang_0 : decode cX12_gang 0 = .ok (.aload_n 0, 1) := by decide +kernel
theorem dX12_gang_1 : decode cX12_gang 1 = .ok (.iconst 0, 1) := by decide +kernel
theorem dX12_gang_2 : decode cX12_gang 2 = .ok (.putfield 163, 3) := by decide +kernel
theorem dX12_gang_5 : decode cX12_gang 5 = .ok (.aload_n 0, 1) := by decide +kernel
theorem dX12_gang_6 : decode cX12_gang 6 = .ok (.invokevirtual 473, 3) := by decide +kernel
theorem dX12_gang_9 : decode cX12_gang 9 = .ok (.bipush (-2), 2) := by decide +kernel
theorem dX12_gang_11 : decode cX12_gang 11 = .ok (.istore_n 1, 1) := by decide +kernel
theorem dX12_gang_12 : decode cX12_gang 12 = .ok (.iconst 0, 1) := by decide +kernel
theorem dX12_gang_13 : decode cX12_gang 13 = .ok (.istore_n 2, 1) := by decide +kernel
theorem dX12_gang_14 : decode cX12_gang 14 = .ok (.iload_n 2, 1) := by decide +kernel
theorem dX12_gang_15 : decode cX12_gang 15 = .ok (.iconst 1, 1) := by decide +kernel
theorem dX12_gang_16 : decode cX12_gang 16 = .ok (.aload_n 0, 1) := by decide +kernel
theorem dX12_gang_17 : decode cX12_gang 17 = .ok (.getfield 13, 3) := by decide +kernel
theorem dX12_gang_20 : decode cX12_gang 20 = .ok (.iconst 1, 1) := by decide +kernel
theorem dX12_gang_21 : decode cX12_gang 21 = .ok (.iaload, 1) := by decide +kernel
theorem dX12_gang_22 : decode cX12_gang 22 = .ok (.ishl, 1) := by decide +kernel
theorem dX12_gang_23 : decode cX12_gang 23 = .ok (.if_icmp .ge 36, 3) := by decide +kernel
theorem dX12_gang_26 : decode cX12_gang 26 = .ok (.iload_n 1, 1) := by decide +kernel
theorem dX12_gang_27 : decode cX12_gang 27 = .ok (.bipush (-2), 2) := by decide +kernel
theorem dX12_gang_29 : decode cX12_gang 29 = .ok (.if_icmp .eq 14, 3) := by decide +kernel
theorem dX12_gang_43 : decode cX12_gang 43 = .ok (.aload_n 0, 1) := by decide +kernel
theorem dX12_gang_44 : decode cX12_gang 44 = .ok (.iload_n 2, 1) := by decide +kernel
theorem dX12_gang_45 : decode cX12_gang 45 = .ok (.invokevirtual 488, 3) := by decide +kernel
theorem dX12_gang_48 : decode cX12_gang 48 = .ok (.ifCond .eq 5, 3) := by decide +kernel
theorem dX12_gang_51 : decode cX12_gang 51 = .ok (.iload_n 2, 1) := by decide +kernel
theorem dX12_gang_52 : decode cX12_gang 52 = .ok (.istore_n 1, 1) := by decide +kernel
theorem dX12_gang_53 : decode cX12_gang 53 = .ok (.iinc 2 1, 3) := by decide +kernel
theorem dX12_gang_56 : decode cX12_gang 56 = .ok (.goto (-42), 3) := by decide +kernel
theorem dX12_gang_59 : decode cX12_gang 59 = .ok (.iload_n 1, 1) := by decide +kernel
theorem dX12_gang_60 : decode cX12_gang 60 = .ok (.ireturn, 1) := by decide +kernel
theorem dX12_half_0 : decode cX12_half 0 = .ok (.aload_n 0, 1) := by decide +kernel
theorem dX12_half_1 : decode cX12_half 1 = .ok (.arraylength, 1) := by decide +kernel
theorem dX12_half_2 : decode cX12_half 2 = .ok (.iconst 2, 1) := by decide +kernel
theorem dX12_half_3 : decode cX12_half 3 = .ok (.idiv, 1) := by decide +kernel
theorem dX12_half_4 : decode cX12_half 4 = .ok (.istore_n 1, 1) := by decide +kernel
theorem dX12_half_5 : decode cX12_half 5 = .ok (.iconst 0, 1) := by decide +kernel
theorem dX12_half_6 : decode cX12_half 6 = .ok (.istore_n 2, 1) := by decide +kernel
theorem dX12_half_7 : decode cX12_half 7 = .ok (.iload_n 2, 1) := by decide +kernel
theorem dX12_half_8 : decode cX12_half 8 = .ok (.iload_n 1, 1) := by decide +kernel
theorem dX12_half_9 : decode cX12_half 9 = .ok (.if_icmp .ge 17, 3) := by decide +kernel
theorem dX12_half_12 : decode cX12_half 12 = .ok (.aload_n 0, 1) := by decide +kernel
theorem dX12_half_13 : decode cX12_half 13 = .ok (.iload_n 2, 1) := by decide +kernel
theorem dX12_half_14 : decode cX12_half 14 = .ok (.aload_n 0, 1) := by decide +kernel
theorem dX12_half_15 : decode cX12_half 15 = .ok (.iload_n 1, 1) := by decide +kernel
theorem dX12_half_16 : decode cX12_half 16 = .ok (.iload_n 2, 1) := by decide +kernel
theorem dX12_half_17 : decode cX12_half 17 = .ok (.iadd, 1) := by decide +kernel
theorem dX12_half_18 : decode cX12_half 18 = .ok (.iaload, 1) := by decide +kernel
theorem dX12_half_19 : decode cX12_half 19 = .ok (.iastore, 1) := by decide +kernel
theorem dX12_half_20 : decode cX12_half 20 = .ok (.iinc 2 1, 3) := by decide +kernel
theorem dX12_half_23 : decode cX12_half 23 = .ok (.goto (-16), 3) := by decide +kernel
theorem dX12_half_26 : decode cX12_half 26 = .ok (.return_, 1) := by decide +kernel
theorem dX12_here_0 : decode cX12_here 0 = .ok (.aload_n 0, 1) := by decide +kernel
theorem dX12_here_1 : decode cX12_here 1 = .ok (.getfield 169, 3) := by decide +kernel
theorem dX12_here_4 : decode cX12_here 4 = .ok (.aload_n 0, 1) := by decide +kernel
theorem dX12_here_5 : decode cX12_here 5 = .ok (.getfield 172, 3) := by decide +kernel
theorem dX12_here_8 : decode cX12_here 8 = .ok (.if_icmp .ge 15, 3) := by decide +kernel
theorem dX12_here_23 : decode cX12_here 23 = .ok (.iconst (-1), 1) := by decide +kernel
theorem dX12_here_24 : decode cX12_here 24 = .ok (.ireturn, 1) := by decide +kernel
theorem dX12_hum_0 : decode cX12_hum 0 = .ok (.aload_n 0, 1) := by decide +kernel
theorem dX12_hum_1 : decode cX12_hum 1 = .ok (.iconst 0, 1) := by decide +kernel
theorem dX12_hum_2 : decode cX12_hum 2 = .ok (.putfield 163, 3) := by decide +kernel
theorem dX12_hum_5 : decode cX12_hum 5 = .ok (.iload_n 1, 1) := by decide +kernel
theorem dX12_hum_6 : decode cX12_hum 6 = .ok (.iconst 1, 1) := by decide +kernel
theorem dX12_hum_7 : decode cX12_hum 7 = .ok (.if_icmp .lt 18, 3) := by decide +kernel
theorem dX12_hum_10 : decode cX12_hum 10 = .ok (.iload_n 1, 1) := by decide +kernel
theorem dX12_hum_11 : decode cX12_hum 11 = .ok (.bipush 40, 2) := by decide +kernel
theorem dX12_hum_13 : decode cX12_hum 13 = .ok (.if_icmp .gt 12, 3) := by decide +kernel
theorem dX12_hum_16 : decode cX12_hum 16 = .ok (.aload_n 0, 1) := by decide +kernel
theorem dX12_hum_17 : decode cX12_hum 17 = .ok (.getfield 325, 3) := by decide +kernel
theorem dX12_hum_20 : decode cX12_hum 20 = .ok (.bipush 24, 2) := by decide +kernel
theorem dX12_hum_22 : decode cX12_hum 22 = .ok (.if_icmp .ne 5, 3) := by decide +kernel
theorem dX12_hum_25 : decode cX12_hum 25 = .ok (.iconst (-1), 1) := by decide +kernel
theorem dX12_hum_26 : decode cX12_hum 26 = .ok (.ireturn, 1) := by decide +kernel
theorem dX12_hum_27 : decode cX12_hum 27 = .ok (.aload_n 0, 1) := by decide +kernel
theorem dX12_hum_28 : decode cX12_hum 28 = .ok (.getfield 145, 3) := by decide +kernel
theorem dX12_hum_31 : decode cX12_hum 31 = .ok (.aload_n 0, 1) := by decide +kernel
theorem dX12_hum_32 : decode cX12_hum 32 = .ok (.getfield 325, 3) := by decide +kernel
theorem dX12_hum_35 : decode cX12_hum 35 = .ok (.iload_n 1, 1) := by decide +kernel
theorem dX12_hum_36 : decode cX12_hum 36 = .ok (.iastore, 1) := by decide +kernel
theorem dX12_hum_37 : decode cX12_hum 37 = .ok (.aload_n 0, 1) := by decide +kernel
theorem dX12_hum_38 : decode cX12_hum 38 = .ok (.getfield 148, 3) := by decide +kernel
theorem dX12_hum_41 : decode cX12_hum 41 = .ok (.aload_n 0, 1) := by decide +kernel
theorem dX12_hum_42 : decode cX12_hum 42 = .ok (.getfield 325, 3) := by decide +kernel
theorem dX12_hum_45 : decode cX12_hum 45 = .ok (.iconst (-1), 1) := by decide +kernel
theorem dX12_hum_46 : decode cX12_hum 46 = .ok (.iastore, 1) := by decide +kernel
theorem dX12_hum_47 : decode cX12_hum 47 = .ok (.aload_n 0, 1) := by decide +kernel
theorem dX12_hum_48 : decode cX12_hum 48 = .ok (.dup, 1) := by decide +kernel
theorem dX12_hum_49 : decode cX12_hum 49 = .ok (.getfield 325, 3) := by decide +kernel
theorem dX12_hum_52 : decode cX12_hum 52 = .ok (.iconst 1, 1) := by decide +kernel
theorem dX12_hum_53 : decode cX12_hum 53 = .ok (.iadd, 1) := by decide +kernel
theorem dX12_hum_54 : decode cX12_hum 54 = .ok (.putfield 325, 3) := by decide +kernel
theorem dX12_hum_57 : decode cX12_hum 57 = .ok (.aload_n 0, 1) := by decide +kernel
theorem dX12_hum_58 : decode cX12_hum 58 = .ok (.getfield 325, 3) := by decide +kernel
theorem dX12_hum_61 : decode cX12_hum 61 = .ok (.iconst 1, 1) := by decide +kernel
theorem dX12_hum_62 : decode cX12_hum 62 = .ok (.isub, 1) := by decide +kernel
theorem dX12_hum_63 : decode cX12_hum 63 = .ok (.ireturn, 1) := by decide +kernel
theorem dX12_isCrowns_0 : decode cX12_isCrowns 0 = .ok (.iload_n 0, 1) := by decide +kernel
theorem dX12_isCrowns_1 : decode cX12_isCrowns 1 = .ok (.ifCond .lt 14, 3) := by decide +kernel
theorem dX12_isCrowns_4 : decode cX12_isCrowns 4 = .ok (.iload_n 0, 1) := by decide +kernel
theorem dX12_isCrowns_5 : decode cX12_isCrowns 5 = .ok (.sipush 1000, 3) := by decide +kernel
theorem dX12_isCrowns_8 : decode cX12_isCrowns 8 = .ok (.if_icmp .ge 7, 3) := by decide +kernel
theorem dX12_isCrowns_11 : decode cX12_isCrowns 11 = .ok (.iconst 1, 1) := by decide +kernel
theorem dX12_isCrowns_12 : decode cX12_isCrowns 12 = .ok (.goto 4, 3) := by decide +kernel
theorem dX12_isCrowns_15 : decode cX12_isCrowns 15 = .ok (.iconst 0, 1) := by decide +kernel
theorem dX12_isCrowns_16 : decode cX12_isCrowns 16 = .ok (.ireturn, 1) := by decide +kernel
theorem dX12_isGang_0 : decode cX12_isGang 0 = .ok (.iconst 0, 1) := by decide +kernel
theorem dX12_isGang_1 : decode cX12_isGang 1 = .ok (.istore_n 2, 1) := by decide +kernel
theorem dX12_isGang_2 : decode cX12_isGang 2 = .ok (.iload_n 2, 1) := by decide +kernel
theorem dX12_isGang_3 : decode cX12_isGang 3 = .ok (.aload_n 0, 1) := by decide +kernel
theorem dX12_isGang_4 : decode cX12_isGang 4 = .ok (.invokevirtual 467, 3) := by decide +kernel
theorem dX12_isGang_7 : decode cX12_isGang 7 = .ok (.if_icmp .ge 90, 3) := by decide +kernel
theorem dX12_isGang_97 : decode cX12_isGang 97 = .ok (.iconst 1, 1) := by decide +kernel
theorem dX12_isGang_98 : decode cX12_isGang 98 = .ok (.ireturn, 1) := by decide +kernel
theorem dX12_isPart_0 : decode cX12_isPart 0 = .ok (.aload_n 0, 1) := by decide +kernel
theorem dX12_isPart_1 : decode cX12_isPart 1 = .ok (.iload_n 1, 1) := by decide +kernel
theorem dX12_isPart_2 : decode cX12_isPart 2 = .ok (.invokevirtual 332, 3) := by decide +kernel
theorem dX12_isPart_5 : decode cX12_isPart 5 = .ok (.ifCond .eq 21, 3) := by decide +kernel
theorem dX12_isPart_26 : decode cX12_isPart 26 = .ok (.iconst 0, 1) := by decide +kernel
theorem dX12_isPart_27 : decode cX12_isPart 27 = .ok (.ireturn, 1) := by decide +kernel
theorem dX12_isTavern_0 : decode cX12_isTavern 0 = .ok (.iload_n 1, 1) := by decide +kernel
theorem dX12_isTavern_1 : decode cX12_isTavern 1 = .ok (.ifCond .lt 17, 3) := by decide +kernel
theorem dX12_isTavern_4 : decode cX12_isTavern 4 = .ok (.iload_n 1, 1) := by decide +kernel
theorem dX12_isTavern_5 : decode cX12_isTavern 5 = .ok (.aload_n 0, 1) := by decide +kernel
theorem dX12_isTavern_6 : decode cX12_isTavern 6 = .ok (.getfield 13, 3) := by decide +kernel
theorem dX12_isTavern_9 : decode cX12_isTavern 9 = .ok (.iconst 0, 1) := by decide +kernel
theorem dX12_isTavern_10 : decode cX12_isTavern 10 = .ok (.iaload, 1) := by decide +kernel
theorem dX12_isTavern_11 : decode cX12_isTavern 11 = .ok (.if_icmp .ge 7, 3) := by decide +kernel
theorem dX12_isTavern_18 : decode cX12_isTavern 18 = .ok (.iconst 0, 1) := by decide +kernel
theorem dX12_isTavern_19 : decode cX12_isTavern 19 = .ok (.ireturn, 1) := by decide +kernel
theorem dX12_isVerse_0 : decode cX12_isVerse 0 = .ok (.iload_n 1, 1) := by decide +kernel
theorem dX12_isVerse_1 : decode cX12_isVerse 1 = .ok (.ifCond .lt 17, 3) := by decide +kernel
theorem dX12_isVerse_4 : decode cX12_isVerse 4 = .ok (.iload_n 1, 1) := by decide +kernel
theorem dX12_isVerse_5 : decode cX12_isVerse 5 = .ok (.aload_n 0, 1) := by decide +kernel
theorem dX12_isVerse_6 : decode cX12_isVerse 6 = .ok (.getfield 13, 3) := by decide +kernel
theorem dX12_isVerse_9 : decode cX12_isVerse 9 = .ok (.iconst 2, 1) := by decide +kernel
theorem dX12_isVerse_10 : decode cX12_isVerse 10 = .ok (.iaload, 1) := by decide +kernel
theorem dX12_isVerse_11 : decode cX12_isVerse 11 = .ok (.if_icmp .ge 7, 3) := by decide +kernel
theorem dX12_isVerse_18 : decode cX12_isVerse 18 = .ok (.iconst 0, 1) := by decide +kernel
theorem dX12_isVerse_19 : decode cX12_isVerse 19 = .ok (.ireturn, 1) := by decide +kernel
theorem dX12_isVoice_0 : decode cX12_isVoice 0 = .ok (.iload_n 1, 1) := by decide +kernel
theorem dX12_isVoice_1 : decode cX12_isVoice 1 = .ok (.ifCond .lt 17, 3) := by decide +kernel
theorem dX12_isVoice_4 : decode cX12_isVoice 4 = .ok (.iload_n 1, 1) := by decide +kernel
theorem dX12_isVoice_5 : decode cX12_isVoice 5 = .ok (.aload_n 0, 1) := by decide +kernel
theorem dX12_isVoice_6 : decode cX12_isVoice 6 = .ok (.getfield 13, 3) := by decide +kernel
theorem dX12_isVoice_9 : decode cX12_isVoice 9 = .ok (.iconst 1, 1) := by decide +kernel
theorem dX12_isVoice_10 : decode cX12_isVoice 10 = .ok (.iaload, 1) := by decide +kernel
theorem dX12_isVoice_11 : decode cX12_isVoice 11 = .ok (.if_icmp .ge 7, 3) := by decide +kernel
theorem dX12_isVoice_18 : decode cX12_isVoice 18 = .ok (.iconst 0, 1) := by decide +kernel
theorem dX12_isVoice_19 : decode cX12_isVoice 19 = .ok (.ireturn, 1) := by decide +kernel
theorem dX12_keep_0 : decode cX12_keep 0 = .ok (.aload_n 0, 1) := by decide +kernel
theorem dX12_keep_1 : decode cX12_keep 1 = .ok (.iconst 0, 1) := by decide +kernel
theorem dX12_keep_2 : decode cX12_keep 2 = .ok (.putfield 163, 3) := by decide +kernel
theorem dX12_keep_5 : decode cX12_keep 5 = .ok (.aload_n 0, 1) := by decide +kernel
theorem dX12_keep_6 : decode cX12_keep 6 = .ok (.iconst 1, 1) := by decide +kernel
theorem dX12_keep_7 : decode cX12_keep 7 = .ok (.iconst 0, 1) := by decide +kernel
theorem dX12_keep_8 : decode cX12_keep 8 = .ok (.invokevirtual 508, 3) := by decide +kernel
theorem dX12_keep_11 : decode cX12_keep 11 = .ok (.aload_n 0, 1) := by decide +kernel
theorem dX12_keep_12 : decode cX12_keep 12 = .ok (.iconst 1, 1) := by decide +kernel
theorem dX12_keep_13 : decode cX12_keep 13 = .ok (.putfield 328, 3) := by decide +kernel
theorem dX12_keep_16 : decode cX12_keep 16 = .ok (.aload_n 0, 1) := by decide +kernel
theorem dX12_keep_17 : decode cX12_keep 17 = .ok (.getfield 81, 3) := by decide +kernel
theorem dX12_keep_20 : decode cX12_keep 20 = .ok (.iconst 0, 1) := by decide +kernel
theorem dX12_keep_21 : decode cX12_keep 21 = .ok (.iaload, 1) := by decide +kernel
theorem dX12_keep_22 : decode cX12_keep 22 = .ok (.ireturn, 1) := by decide +kernel
theorem dX12_known_0 : decode cX12_known 0 = .ok (.aload_n 0, 1) := by decide +kernel
theorem dX12_known_1 : decode cX12_known 1 = .ok (.iconst 0, 1) := by decide +kernel
theorem dX12_known_2 : decode cX12_known 2 = .ok (.putfield 163, 3) := by decide +kernel
theorem dX12_known_5 : decode cX12_known 5 = .ok (.iload_n 1, 1) := by decide +kernel
theorem dX12_known_6 : decode cX12_known 6 = .ok (.iconst (-1), 1) := by decide +kernel
theorem dX12_known_7 : decode cX12_known 7 = .ok (.if_icmp .lt 11, 3) := by decide +kernel
theorem dX12_known_10 : decode cX12_known 10 = .ok (.iload_n 1, 1) := by decide +kernel
theorem dX12_known_11 : decode cX12_known 11 = .ok (.aload_n 0, 1) := by decide +kernel
theorem dX12_known_12 : decode cX12_known 12 = .ok (.getfield 325, 3) := by decide +kernel
theorem dX12_known_15 : decode cX12_known 15 = .ok (.if_icmp .le 5, 3) := by decide +kernel
theorem dX12_known_18 : decode cX12_known 18 = .ok (.iconst 0, 1) := by decide +kernel
theorem dX12_known_19 : decode cX12_known 19 = .ok (.ireturn, 1) := by decide +kernel
theorem dX12_known_20 : decode cX12_known 20 = .ok (.aload_n 0, 1) := by decide +kernel
theorem dX12_known_21 : decode cX12_known 21 = .ok (.iload_n 1, 1) := by decide +kernel
theorem dX12_known_22 : decode cX12_known 22 = .ok (.putfield 142, 3) := by decide +kernel
theorem dX12_known_25 : decode cX12_known 25 = .ok (.iconst 1, 1) := by decide +kernel
theorem dX12_known_26 : decode cX12_known 26 = .ok (.ireturn, 1) := by decide +kernel
theorem dX12_knownMany_0 : decode cX12_knownMany 0 = .ok (.aload_n 0, 1) := by decide +kernel
theorem dX12_knownMany_1 : decode cX12_knownMany 1 = .ok (.getfield 142, 3) := by decide +kernel
theorem dX12_knownMany_4 : decode cX12_knownMany 4 = .ok (.iconst (-1), 1) := by decide +kernel
theorem dX12_knownMany_5 : decode cX12_knownMany 5 = .ok (.if_icmp .ne 10, 3) := by decide +kernel
theorem dX12_knownMany_8 : decode cX12_knownMany 8 = .ok (.aload_n 0, 1) := by decide +kernel
theorem dX12_knownMany_9 : decode cX12_knownMany 9 = .ok (.getfield 325, 3) := by decide +kernel
theorem dX12_knownMany_12 : decode cX12_knownMany 12 = .ok (.goto 7, 3) := by decide +kernel
theorem dX12_knownMany_19 : decode cX12_knownMany 19 = .ok (.ireturn, 1) := by decide +kernel
theorem dX12_layBest_0 : decode cX12_layBest 0 = .ok (.aload_n 0, 1) := by decide +kernel
theorem dX12_layBest_1 : decode cX12_layBest 1 = .ok (.invokevirtual 424, 3) := by decide +kernel
theorem dX12_layBest_4 : decode cX12_layBest 4 = .ok (.iconst 0, 1) := by decide +kernel
theorem dX12_layBest_5 : decode cX12_layBest 5 = .ok (.istore_n 2, 1) := by decide +kernel
theorem dX12_layBest_6 : decode cX12_layBest 6 = .ok (.iload_n 2, 1) := by decide +kernel
theorem dX12_layBest_7 : decode cX12_layBest 7 = .ok (.iload_n 1, 1) := by decide +kernel
theorem dX12_layBest_8 : decode cX12_layBest 8 = .ok (.if_icmp .gt 45, 3) := by decide +kernel
theorem dX12_layBest_11 : decode cX12_layBest 11 = .ok (.aload_n 0, 1) := by decide +kernel
theorem dX12_layBest_12 : decode cX12_layBest 12 = .ok (.getfield 124, 3) := by decide +kernel
theorem dX12_layBest_15 : decode cX12_layBest 15 = .ok (.sipush 1000, 3) := by decide +kernel
theorem dX12_layBest_18 : decode cX12_layBest 18 = .ok (.aload_n 0, 1) := by decide +kernel
theorem dX12_layBest_19 : decode cX12_layBest 19 = .ok (.getfield 13, 3) := by decide +kernel
theorem dX12_layBest_22 : decode cX12_layBest 22 = .ok (.iconst 2, 1) := by decide +kernel
theorem dX12_layBest_23 : decode cX12_layBest 23 = .ok (.iaload, 1) := by decide +kernel
theorem dX12_layBest_24 : decode cX12_layBest 24 = .ok (.imul, 1) := by decide +kernel
theorem dX12_layBest_25 : decode cX12_layBest 25 = .ok (.iload_n 2, 1) := by decide +kernel
theorem dX12_layBest_26 : decode cX12_layBest 26 = .ok (.iadd, 1) := by decide +kernel
theorem dX12_layBest_27 : decode cX12_layBest 27 = .ok (.iconst 0, 1) := by decide +kernel
theorem dX12_layBest_28 : decode cX12_layBest 28 = .ok (.iastore, 1) := by decide +kernel
theorem dX12_layBest_29 : decode cX12_layBest 29 = .ok (.aload_n 0, 1) := by decide +kernel
theorem dX12_layBest_30 : decode cX12_layBest 30 = .ok (.getfield 127, 3) := by decide +kernel
theorem dX12_layBest_33 : decode cX12_layBest 33 = .ok (.sipush 1000, 3) := by decide +kernel
theorem dX12_layBest_36 : decode cX12_layBest 36 = .ok (.aload_n 0, 1) := by decide +kernel
theorem dX12_layBest_37 : decode cX12_layBest 37 = .ok (.getfield 13, 3) := by decide +kernel
theorem dX12_layBest_40 : decode cX12_layBest 40 = .ok (.iconst 2, 1) := by decide +kernel
theorem dX12_layBest_41 : decode cX12_layBest 41 = .ok (.iaload, 1) := by decide +kernel
theorem dX12_layBest_42 : decode cX12_layBest 42 = .ok (.imul, 1) := by decide +kernel
theorem dX12_layBest_43 : decode cX12_layBest 43 = .ok (.iload_n 2, 1) := by decide +kernel
theorem dX12_layBest_44 : decode cX12_layBest 44 = .ok (.iadd, 1) := by decide +kernel
theorem dX12_layBest_45 : decode cX12_layBest 45 = .ok (.iconst 0, 1) := by decide +kernel
theorem dX12_layBest_46 : decode cX12_layBest 46 = .ok (.iastore, 1) := by decide +kernel
theorem dX12_layBest_47 : decode cX12_layBest 47 = .ok (.iinc 2 1, 3) := by decide +kernel
theorem dX12_layBest_50 : decode cX12_layBest 50 = .ok (.goto (-44), 3) := by decide +kernel
theorem dX12_layBest_53 : decode cX12_layBest 53 = .ok (.aload_n 0, 1) := by decide +kernel
theorem dX12_layBest_54 : decode cX12_layBest 54 = .ok (.getfield 13, 3) := by decide +kernel
theorem dX12_layBest_57 : decode cX12_layBest 57 = .ok (.iconst 2, 1) := by decide +kernel
theorem dX12_layBest_58 : decode cX12_layBest 58 = .ok (.iaload, 1) := by decide +kernel
theorem dX12_layBest_59 : decode cX12_layBest 59 = .ok (.iconst 1, 1) := by decide +kernel
theorem dX12_layBest_60 : decode cX12_layBest 60 = .ok (.isub, 1) := by decide +kernel
theorem dX12_layBest_61 : decode cX12_layBest 61 = .ok (.istore_n 2, 1) := by decide +kernel
theorem dX12_layBest_62 : decode cX12_layBest 62 = .ok (.iload_n 2, 1) := by decide +kernel
theorem dX12_layBest_63 : decode cX12_layBest 63 = .ok (.ifCond .lt 71, 3) := by decide +kernel
theorem dX12_layBest_134 : decode cX12_layBest 134 = .ok (.return_, 1) := by decide +kernel
theorem dX12_layDues_0 : decode cX12_layDues 0 = .ok (.iconst 0, 1) := by decide +kernel
theorem dX12_layDues_1 : decode cX12_layDues 1 = .ok (.istore_n 1, 1) := by decide +kernel
theorem dX12_layDues_2 : decode cX12_layDues 2 = .ok (.iload_n 1, 1) := by decide +kernel
theorem dX12_layDues_3 : decode cX12_layDues 3 = .ok (.bipush 12, 2) := by decide +kernel
theorem dX12_layDues_5 : decode cX12_layDues 5 = .ok (.if_icmp .ge 77, 3) := by decide +kernel
theorem dX12_layDues_8 : decode cX12_layDues 8 = .ok (.aload_n 0, 1) := by decide +kernel
theorem dX12_layDues_9 : decode cX12_layDues 9 = .ok (.iload_n 1, 1) := by decide +kernel
theorem dX12_layDues_10 : decode cX12_layDues 10 = .ok (.iconst 3, 1) := by decide +kernel
theorem dX12_layDues_11 : decode cX12_layDues 11 = .ok (.idiv, 1) := by decide +kernel
theorem dX12_layDues_12 : decode cX12_layDues 12 = .ok (.iload_n 1, 1) := by decide +kernel
theorem dX12_layDues_13 : decode cX12_layDues 13 = .ok (.iconst 3, 1) := by decide +kernel
theorem dX12_layDues_14 : decode cX12_layDues 14 = .ok (.irem, 1) := by decide +kernel
theorem dX12_layDues_15 : decode cX12_layDues 15 = .ok (.invokevirtual 344, 3) := by decide +kernel
theorem dX12_layDues_18 : decode cX12_layDues 18 = .ok (.ifCond .ne 6, 3) := by decide +kernel
theorem dX12_layDues_21 : decode cX12_layDues 21 = .ok (.goto 55, 3) := by decide +kernel
theorem dX12_layDues_76 : decode cX12_layDues 76 = .ok (.iinc 1 1, 3) := by decide +kernel
theorem dX12_layDues_79 : decode cX12_layDues 79 = .ok (.goto (-77), 3) := by decide +kernel
theorem dX12_layDues_82 : decode cX12_layDues 82 = .ok (.return_, 1) := by decide +kernel
theorem dX12_look_0 : decode cX12_look 0 = .ok (.aload_n 0, 1) := by decide +kernel
theorem dX12_look_1 : decode cX12_look 1 = .ok (.aload_n 0, 1) := by decide +kernel
theorem dX12_look_2 : decode cX12_look 2 = .ok (.iload_n 1, 1) := by decide +kernel
theorem dX12_look_3 : decode cX12_look 3 = .ok (.invokevirtual 335, 3) := by decide +kernel
theorem dX12_look_6 : decode cX12_look 6 = .ok (.ifCond .ne 7, 3) := by decide +kernel
theorem dX12_look_9 : decode cX12_look 9 = .ok (.iconst 1, 1) := by decide +kernel
theorem dX12_look_10 : decode cX12_look 10 = .ok (.goto 17, 3) := by decide +kernel
theorem dX12_look_27 : decode cX12_look 27 = .ok (.putfield 163, 3) := by decide +kernel
theorem dX12_look_30 : decode cX12_look 30 = .ok (.aload_n 0, 1) := by decide +kernel
theorem dX12_look_31 : decode cX12_look 31 = .ok (.getfield 163, 3) := by decide +kernel
theorem dX12_look_34 : decode cX12_look 34 = .ok (.ifCond .eq 5, 3) := by decide +kernel
theorem dX12_look_37 : decode cX12_look 37 = .ok (.iconst 0, 1) := by decide +kernel
theorem dX12_look_38 : decode cX12_look 38 = .ok (.ireturn, 1) := by decide +kernel
theorem dX12_named_0 : decode cX12_named 0 = .ok (.aload_n 0, 1) := by decide +kernel
theorem dX12_named_1 : decode cX12_named 1 = .ok (.iconst 0, 1) := by decide +kernel
theorem dX12_named_2 : decode cX12_named 2 = .ok (.putfield 163, 3) := by decide +kernel
theorem dX12_named_5 : decode cX12_named 5 = .ok (.iload_n 1, 1) := by decide +kernel
theorem dX12_named_6 : decode cX12_named 6 = .ok (.tableswitch 94 0 3 #[30, 46, 62, 78], 30) := by decide +kernel
theorem dX12_named_36 : decode cX12_named 36 = .ok (.aload_n 0, 1) := by decide +kernel
theorem dX12_named_37 : decode cX12_named 37 = .ok (.getfield 16, 3) := by decide +kernel
theorem dX12_named_40 : decode cX12_named 40 = .ok (.iconst 0, 1) := by decide +kernel
theorem dX12_named_41 : decode cX12_named 41 = .ok (.aload_n 0, 1) := by decide +kernel
theorem dX12_named_42 : decode cX12_named 42 = .ok (.getfield 13, 3) := by decide +kernel
theorem dX12_named_45 : decode cX12_named 45 = .ok (.iconst 0, 1) := by decide +kernel
theorem dX12_named_46 : decode cX12_named 46 = .ok (.iaload, 1) := by decide +kernel
theorem dX12_named_47 : decode cX12_named 47 = .ok (.iload_n 2, 1) := by decide +kernel
theorem dX12_named_48 : decode cX12_named 48 = .ok (.invokestatic 229, 3) := by decide +kernel
theorem dX12_named_51 : decode cX12_named 51 = .ok (.ireturn, 1) := by decide +kernel
theorem dX12_named_52 : decode cX12_named 52 = .ok (.aload_n 0, 1) := by decide +kernel
theorem dX12_named_53 : decode cX12_named 53 = .ok (.getfield 25, 3) := by decide +kernel
theorem dX12_named_56 : decode cX12_named 56 = .ok (.iconst 0, 1) := by decide +kernel
theorem dX12_named_57 : decode cX12_named 57 = .ok (.aload_n 0, 1) := by decide +kernel
theorem dX12_named_58 : decode cX12_named 58 = .ok (.getfield 13, 3) := by decide +kernel
theorem dX12_named_61 : decode cX12_named 61 = .ok (.iconst 1, 1) := by decide +kernel
theorem dX12_named_62 : decode cX12_named 62 = .ok (.iaload, 1) := by decide +kernel
theorem dX12_named_63 : decode cX12_named 63 = .ok (.iload_n 2, 1) := by decide +kernel
theorem dX12_named_64 : decode cX12_named 64 = .ok (.invokestatic 229, 3) := by decide +kernel
theorem dX12_named_67 : decode cX12_named 67 = .ok (.ireturn, 1) := by decide +kernel
theorem dX12_named_68 : decode cX12_named 68 = .ok (.aload_n 0, 1) := by decide +kernel
theorem dX12_named_69 : decode cX12_named 69 = .ok (.getfield 47, 3) := by decide +kernel
theorem dX12_named_72 : decode cX12_named 72 = .ok (.iconst 0, 1) := by decide +kernel
theorem dX12_named_73 : decode cX12_named 73 = .ok (.aload_n 0, 1) := by decide +kernel
theorem dX12_named_74 : decode cX12_named 74 = .ok (.getfield 13, 3) := by decide +kernel
theorem dX12_named_77 : decode cX12_named 77 = .ok (.iconst 2, 1) := by decide +kernel
theorem dX12_named_78 : decode cX12_named 78 = .ok (.iaload, 1) := by decide +kernel
theorem dX12_named_79 : decode cX12_named 79 = .ok (.iload_n 2, 1) := by decide +kernel
theorem dX12_named_80 : decode cX12_named 80 = .ok (.invokestatic 229, 3) := by decide +kernel
theorem dX12_named_83 : decode cX12_named 83 = .ok (.ireturn, 1) := by decide +kernel
theorem dX12_named_84 : decode cX12_named 84 = .ok (.aload_n 0, 1) := by decide +kernel
theorem dX12_named_85 : decode cX12_named 85 = .ok (.getfield 59, 3) := by decide +kernel
theorem dX12_named_88 : decode cX12_named 88 = .ok (.iconst 0, 1) := by decide +kernel
theorem dX12_named_89 : decode cX12_named 89 = .ok (.aload_n 0, 1) := by decide +kernel
theorem dX12_named_90 : decode cX12_named 90 = .ok (.getfield 13, 3) := by decide +kernel
theorem dX12_named_93 : decode cX12_named 93 = .ok (.iconst 3, 1) := by decide +kernel
theorem dX12_named_94 : decode cX12_named 94 = .ok (.iaload, 1) := by decide +kernel
theorem dX12_named_95 : decode cX12_named 95 = .ok (.iload_n 2, 1) := by decide +kernel
theorem dX12_named_96 : decode cX12_named 96 = .ok (.invokestatic 229, 3) := by decide +kernel
theorem dX12_named_99 : decode cX12_named 99 = .ok (.ireturn, 1) := by decide +kernel
theorem dX12_named_100 : decode cX12_named 100 = .ok (.iconst (-1), 1) := by decide +kernel
theorem dX12_named_101 : decode cX12_named 101 = .ok (.ireturn, 1) := by decide +kernel
theorem dX12_odds_0 : decode cX12_odds 0 = .ok (.aload_n 0, 1) := by decide +kernel
theorem dX12_odds_1 : decode cX12_odds 1 = .ok (.iconst 0, 1) := by decide +kernel
theorem dX12_odds_2 : decode cX12_odds 2 = .ok (.putfield 163, 3) := by decide +kernel
theorem dX12_odds_5 : decode cX12_odds 5 = .ok (.aload_n 0, 1) := by decide +kernel
theorem dX12_odds_6 : decode cX12_odds 6 = .ok (.iload_n 1, 1) := by decide +kernel
theorem dX12_odds_7 : decode cX12_odds 7 = .ok (.invokevirtual 335, 3) := by decide +kernel
theorem dX12_odds_10 : decode cX12_odds 10 = .ok (.ifCond .eq 12, 3) := by decide +kernel
theorem dX12_odds_22 : decode cX12_odds 22 = .ok (.iconst (-1), 1) := by decide +kernel
theorem dX12_odds_23 : decode cX12_odds 23 = .ok (.ireturn, 1) := by decide +kernel
theorem dX12_pay_0 : decode cX12_pay 0 = .ok (.aload_n 0, 1) := by decide +kernel
theorem dX12_pay_1 : decode cX12_pay 1 = .ok (.iconst 0, 1) := by decide +kernel
theorem dX12_pay_2 : decode cX12_pay 2 = .ok (.putfield 163, 3) := by decide +kernel
theorem dX12_pay_5 : decode cX12_pay 5 = .ok (.aload_n 0, 1) := by decide +kernel
theorem dX12_pay_6 : decode cX12_pay 6 = .ok (.iload_n 1, 1) := by decide +kernel
theorem dX12_pay_7 : decode cX12_pay 7 = .ok (.invokevirtual 341, 3) := by decide +kernel
theorem dX12_pay_10 : decode cX12_pay 10 = .ok (.ifCond .ne 5, 3) := by decide +kernel
theorem dX12_pay_13 : decode cX12_pay 13 = .ok (.iconst (-1), 1) := by decide +kernel
theorem dX12_pay_14 : decode cX12_pay 14 = .ok (.ireturn, 1) := by decide +kernel
theorem dX12_pitch_0 : decode cX12_pitch 0 = .ok (.aload_n 0, 1) := by decide +kernel
theorem dX12_pitch_1 : decode cX12_pitch 1 = .ok (.iconst 0, 1) := by decide +kernel
theorem dX12_pitch_2 : decode cX12_pitch 2 = .ok (.putfield 163, 3) := by decide +kernel
theorem dX12_pitch_5 : decode cX12_pitch 5 = .ok (.aload_n 0, 1) := by decide +kernel
theorem dX12_pitch_6 : decode cX12_pitch 6 = .ok (.iload_n 1, 1) := by decide +kernel
theorem dX12_pitch_7 : decode cX12_pitch 7 = .ok (.iload_n 2, 1) := by decide +kernel
theorem dX12_pitch_8 : decode cX12_pitch 8 = .ok (.invokevirtual 344, 3) := by decide +kernel
theorem dX12_pitch_11 : decode cX12_pitch 11 = .ok (.ifCond .eq 39, 3) := by decide +kernel
theorem dX12_pitch_50 : decode cX12_pitch 50 = .ok (.iconst (-1), 1) := by decide +kernel
theorem dX12_pitch_51 : decode cX12_pitch 51 = .ok (.ireturn, 1) := by decide +kernel
theorem dX12_reads_0 : decode cX12_reads 0 = .ok (.aload_n 0, 1) := by decide +kernel
theorem dX12_reads_1 : decode cX12_reads 1 = .ok (.getfield 13, 3) := by decide +kernel
theorem dX12_reads_4 : decode cX12_reads 4 = .ok (.bipush 7, 2) := by decide +kernel
theorem dX12_reads_6 : decode cX12_reads 6 = .ok (.iload_n 1, 1) := by decide +kernel
theorem dX12_reads_7 : decode cX12_reads 7 = .ok (.iadd, 1) := by decide +kernel
theorem dX12_reads_8 : decode cX12_reads 8 = .ok (.iload_n 2, 1) := by decide +kernel
theorem dX12_reads_9 : decode cX12_reads 9 = .ok (.iastore, 1) := by decide +kernel
theorem dX12_reads_10 : decode cX12_reads 10 = .ok (.return_, 1) := by decide +kernel
theorem dX12_redeem_0 : decode cX12_redeem 0 = .ok (.aload_n 0, 1) := by decide +kernel
theorem dX12_redeem_1 : decode cX12_redeem 1 = .ok (.iconst 0, 1) := by decide +kernel
theorem dX12_redeem_2 : decode cX12_redeem 2 = .ok (.putfield 163, 3) := by decide +kernel
theorem dX12_redeem_5 : decode cX12_redeem 5 = .ok (.aload_n 0, 1) := by decide +kernel
theorem dX12_redeem_6 : decode cX12_redeem 6 = .ok (.iload_n 1, 1) := by decide +kernel
theorem dX12_redeem_7 : decode cX12_redeem 7 = .ok (.iload_n 2, 1) := by decide +kernel
theorem dX12_redeem_8 : decode cX12_redeem 8 = .ok (.invokevirtual 344, 3) := by decide +kernel
theorem dX12_redeem_11 : decode cX12_redeem 11 = .ok (.ifCond .eq 42, 3) := by decide +kernel
theorem dX12_redeem_53 : decode cX12_redeem 53 = .ok (.iconst (-1), 1) := by decide +kernel
theorem dX12_redeem_54 : decode cX12_redeem 54 = .ok (.ireturn, 1) := by decide +kernel
theorem dX12_round_0 : decode cX12_round 0 = .ok (.aload_n 0, 1) := by decide +kernel
theorem dX12_round_1 : decode cX12_round 1 = .ok (.iconst 0, 1) := by decide +kernel
theorem dX12_round_2 : decode cX12_round 2 = .ok (.putfield 163, 3) := by decide +kernel
theorem dX12_round_5 : decode cX12_round 5 = .ok (.aload_n 0, 1) := by decide +kernel
theorem dX12_round_6 : decode cX12_round 6 = .ok (.iload_n 1, 1) := by decide +kernel
theorem dX12_round_7 : decode cX12_round 7 = .ok (.iload_n 2, 1) := by decide +kernel
theorem dX12_round_8 : decode cX12_round 8 = .ok (.invokevirtual 344, 3) := by decide +kernel
theorem dX12_round_11 : decode cX12_round 11 = .ok (.ifCond .eq 12, 3) := by decide +kernel
theorem dX12_round_23 : decode cX12_round 23 = .ok (.iconst (-1), 1) := by decide +kernel
theorem dX12_round_24 : decode cX12_round 24 = .ok (.ireturn, 1) := by decide +kernel
theorem dX12_run_0 : decode cX12_run 0 = .ok (.aload_n 0, 1) := by decide +kernel
theorem dX12_run_1 : decode cX12_run 1 = .ok (.iconst 0, 1) := by decide +kernel
theorem dX12_run_2 : decode cX12_run 2 = .ok (.putfield 163, 3) := by decide +kernel
theorem dX12_run_5 : decode cX12_run 5 = .ok (.aload_n 0, 1) := by decide +kernel
theorem dX12_run_6 : decode cX12_run 6 = .ok (.iload_n 1, 1) := by decide +kernel
theorem dX12_run_7 : decode cX12_run 7 = .ok (.invokevirtual 341, 3) := by decide +kernel
theorem dX12_run_10 : decode cX12_run 10 = .ok (.ifCond .eq 26, 3) := by decide +kernel
theorem dX12_run_36 : decode cX12_run 36 = .ok (.iconst (-1), 1) := by decide +kernel
theorem dX12_run_37 : decode cX12_run 37 = .ok (.ireturn, 1) := by decide +kernel
theorem dX12_sells_0 : decode cX12_sells 0 = .ok (.iconst 0, 1) := by decide +kernel
theorem dX12_sells_1 : decode cX12_sells 1 = .ok (.istore_n 3, 1) := by decide +kernel
theorem dX12_sells_2 : decode cX12_sells 2 = .ok (.iconst 0, 1) := by decide +kernel
theorem dX12_sells_3 : decode cX12_sells 3 = .ok (.istore 4, 2) := by decide +kernel
theorem dX12_sells_5 : decode cX12_sells 5 = .ok (.iload 4, 2) := by decide +kernel
theorem dX12_sells_7 : decode cX12_sells 7 = .ok (.aload_n 0, 1) := by decide +kernel
theorem dX12_sells_8 : decode cX12_sells 8 = .ok (.getfield 13, 3) := by decide +kernel
theorem dX12_sells_11 : decode cX12_sells 11 = .ok (.iconst 3, 1) := by decide +kernel
theorem dX12_sells_12 : decode cX12_sells 12 = .ok (.iaload, 1) := by decide +kernel
theorem dX12_sells_13 : decode cX12_sells 13 = .ok (.if_icmp .ge 23, 3) := by decide +kernel
theorem dX12_sells_36 : decode cX12_sells 36 = .ok (.iconst 0, 1) := by decide +kernel
theorem dX12_sells_37 : decode cX12_sells 37 = .ok (.istore 4, 2) := by decide +kernel
theorem dX12_sells_39 : decode cX12_sells 39 = .ok (.iload 4, 2) := by decide +kernel
theorem dX12_sells_41 : decode cX12_sells 41 = .ok (.iload_n 2, 1) := by decide +kernel
theorem dX12_sells_42 : decode cX12_sells 42 = .ok (.if_icmp .gt 146, 3) := by decide +kernel
theorem dX12_sells_188 : decode cX12_sells 188 = .ok (.iload_n 3, 1) := by decide +kernel
theorem dX12_sells_189 : decode cX12_sells 189 = .ok (.ireturn, 1) := by decide +kernel
theorem dX12_sings_0 : decode cX12_sings 0 = .ok (.aload_n 0, 1) := by decide +kernel
theorem dX12_sings_1 : decode cX12_sings 1 = .ok (.iconst 0, 1) := by decide +kernel
theorem dX12_sings_2 : decode cX12_sings 2 = .ok (.putfield 163, 3) := by decide +kernel
theorem dX12_sings_5 : decode cX12_sings 5 = .ok (.aload_n 0, 1) := by decide +kernel
theorem dX12_sings_6 : decode cX12_sings 6 = .ok (.iload_n 1, 1) := by decide +kernel
theorem dX12_sings_7 : decode cX12_sings 7 = .ok (.iload_n 2, 1) := by decide +kernel
theorem dX12_sings_8 : decode cX12_sings 8 = .ok (.invokevirtual 344, 3) := by decide +kernel
theorem dX12_sings_11 : decode cX12_sings 11 = .ok (.ifCond .ne 5, 3) := by decide +kernel
theorem dX12_sings_14 : decode cX12_sings 14 = .ok (.iconst (-1), 1) := by decide +kernel
theorem dX12_sings_15 : decode cX12_sings 15 = .ok (.ireturn, 1) := by decide +kernel
theorem dX12_sold_0 : decode cX12_sold 0 = .ok (.aload_n 0, 1) := by decide +kernel
theorem dX12_sold_1 : decode cX12_sold 1 = .ok (.iconst 0, 1) := by decide +kernel
theorem dX12_sold_2 : decode cX12_sold 2 = .ok (.putfield 163, 3) := by decide +kernel
theorem dX12_sold_5 : decode cX12_sold 5 = .ok (.aload_n 0, 1) := by decide +kernel
theorem dX12_sold_6 : decode cX12_sold 6 = .ok (.iload_n 1, 1) := by decide +kernel
theorem dX12_sold_7 : decode cX12_sold 7 = .ok (.invokevirtual 461, 3) := by decide +kernel
theorem dX12_sold_10 : decode cX12_sold 10 = .ok (.ifCond .eq 28, 3) := by decide +kernel
theorem dX12_sold_13 : decode cX12_sold 13 = .ok (.aload_n 0, 1) := by decide +kernel
theorem dX12_sold_14 : decode cX12_sold 14 = .ok (.iload_n 2, 1) := by decide +kernel
theorem dX12_sold_15 : decode cX12_sold 15 = .ok (.invokevirtual 332, 3) := by decide +kernel
theorem dX12_sold_18 : decode cX12_sold 18 = .ok (.ifCond .eq 20, 3) := by decide +kernel
theorem dX12_sold_38 : decode cX12_sold 38 = .ok (.iconst (-1), 1) := by decide +kernel
theorem dX12_sold_39 : decode cX12_sold 39 = .ok (.ireturn, 1) := by decide +kernel
theorem dX12_sounds_0 : decode cX12_sounds 0 = .ok (.aload_n 0, 1) := by decide +kernel
theorem dX12_sounds_1 : decode cX12_sounds 1 = .ok (.iconst 0, 1) := by decide +kernel
theorem dX12_sounds_2 : decode cX12_sounds 2 = .ok (.putfield 163, 3) := by decide +kernel
theorem dX12_sounds_5 : decode cX12_sounds 5 = .ok (.aload_n 0, 1) := by decide +kernel
theorem dX12_sounds_6 : decode cX12_sounds 6 = .ok (.iload_n 1, 1) := by decide +kernel
theorem dX12_sounds_7 : decode cX12_sounds 7 = .ok (.iload_n 2, 1) := by decide +kernel
theorem dX12_sounds_8 : decode cX12_sounds 8 = .ok (.invokevirtual 344, 3) := by decide +kernel
theorem dX12_sounds_11 : decode cX12_sounds 11 = .ok (.ifCond .eq 24, 3) := by decide +kernel
theorem dX12_sounds_35 : decode cX12_sounds 35 = .ok (.iconst (-1), 1) := by decide +kernel
theorem dX12_sounds_36 : decode cX12_sounds 36 = .ok (.ireturn, 1) := by decide +kernel
theorem dX12_strike_0 : decode cX12_strike 0 = .ok (.aload_n 0, 1) := by decide +kernel
theorem dX12_strike_1 : decode cX12_strike 1 = .ok (.iconst 0, 1) := by decide +kernel
theorem dX12_strike_2 : decode cX12_strike 2 = .ok (.putfield 163, 3) := by decide +kernel
theorem dX12_strike_5 : decode cX12_strike 5 = .ok (.iload_n 1, 1) := by decide +kernel
theorem dX12_strike_6 : decode cX12_strike 6 = .ok (.ifCond .lt 20, 3) := by decide +kernel
theorem dX12_strike_9 : decode cX12_strike 9 = .ok (.iload_n 1, 1) := by decide +kernel
theorem dX12_strike_10 : decode cX12_strike 10 = .ok (.aload_n 0, 1) := by decide +kernel
theorem dX12_strike_11 : decode cX12_strike 11 = .ok (.getfield 325, 3) := by decide +kernel
theorem dX12_strike_14 : decode cX12_strike 14 = .ok (.if_icmp .ge 12, 3) := by decide +kernel
theorem dX12_strike_26 : decode cX12_strike 26 = .ok (.iconst (-1), 1) := by decide +kernel
theorem dX12_strike_27 : decode cX12_strike 27 = .ok (.ireturn, 1) := by decide +kernel
theorem dX12_strikes_0 : decode cX12_strikes 0 = .ok (.iconst 0, 1) := by decide +kernel
theorem dX12_strikes_1 : decode cX12_strikes 1 = .ok (.istore_n 1, 1) := by decide +kernel
theorem dX12_strikes_2 : decode cX12_strikes 2 = .ok (.iload_n 1, 1) := by decide +kernel
theorem dX12_strikes_3 : decode cX12_strikes 3 = .ok (.aload_n 0, 1) := by decide +kernel
theorem dX12_strikes_4 : decode cX12_strikes 4 = .ok (.invokevirtual 467, 3) := by decide +kernel
theorem dX12_strikes_7 : decode cX12_strikes 7 = .ok (.if_icmp .ge 16, 3) := by decide +kernel
theorem dX12_strikes_23 : decode cX12_strikes 23 = .ok (.aload_n 0, 1) := by decide +kernel
theorem dX12_strikes_24 : decode cX12_strikes 24 = .ok (.invokevirtual 467, 3) := by decide +kernel
theorem dX12_strikes_27 : decode cX12_strikes 27 = .ok (.iconst 1, 1) := by decide +kernel
theorem dX12_strikes_28 : decode cX12_strikes 28 = .ok (.isub, 1) := by decide +kernel
theorem dX12_strikes_29 : decode cX12_strikes 29 = .ok (.istore_n 1, 1) := by decide +kernel
theorem dX12_strikes_30 : decode cX12_strikes 30 = .ok (.iload_n 1, 1) := by decide +kernel
theorem dX12_strikes_31 : decode cX12_strikes 31 = .ok (.ifCond .lt 40, 3) := by decide +kernel
theorem dX12_strikes_71 : decode cX12_strikes 71 = .ok (.return_, 1) := by decide +kernel
theorem dX12_sunday_0 : decode cX12_sunday 0 = .ok (.aload_n 0, 1) := by decide +kernel
theorem dX12_sunday_1 : decode cX12_sunday 1 = .ok (.iconst 0, 1) := by decide +kernel
theorem dX12_sunday_2 : decode cX12_sunday 2 = .ok (.putfield 163, 3) := by decide +kernel
theorem dX12_sunday_5 : decode cX12_sunday 5 = .ok (.iconst 0, 1) := by decide +kernel
theorem dX12_sunday_6 : decode cX12_sunday 6 = .ok (.istore_n 1, 1) := by decide +kernel
theorem dX12_sunday_7 : decode cX12_sunday 7 = .ok (.iconst 0, 1) := by decide +kernel
theorem dX12_sunday_8 : decode cX12_sunday 8 = .ok (.istore_n 2, 1) := by decide +kernel
theorem dX12_sunday_9 : decode cX12_sunday 9 = .ok (.iload_n 2, 1) := by decide +kernel
theorem dX12_sunday_10 : decode cX12_sunday 10 = .ok (.bipush 12, 2) := by decide +kernel
theorem dX12_sunday_12 : decode cX12_sunday 12 = .ok (.if_icmp .ge 64, 3) := by decide +kernel
theorem dX12_sunday_15 : decode cX12_sunday 15 = .ok (.aload_n 0, 1) := by decide +kernel
theorem dX12_sunday_16 : decode cX12_sunday 16 = .ok (.getfield 105, 3) := by decide +kernel
theorem dX12_sunday_19 : decode cX12_sunday 19 = .ok (.iload_n 2, 1) := by decide +kernel
theorem dX12_sunday_20 : decode cX12_sunday 20 = .ok (.iaload, 1) := by decide +kernel
theorem dX12_sunday_21 : decode cX12_sunday 21 = .ok (.istore_n 3, 1) := by decide +kernel
theorem dX12_sunday_22 : decode cX12_sunday 22 = .ok (.aload_n 0, 1) := by decide +kernel
theorem dX12_sunday_23 : decode cX12_sunday 23 = .ok (.getfield 105, 3) := by decide +kernel
theorem dX12_sunday_26 : decode cX12_sunday 26 = .ok (.iload_n 2, 1) := by decide +kernel
theorem dX12_sunday_27 : decode cX12_sunday 27 = .ok (.iconst (-1), 1) := by decide +kernel
theorem dX12_sunday_28 : decode cX12_sunday 28 = .ok (.iastore, 1) := by decide +kernel
theorem dX12_sunday_29 : decode cX12_sunday 29 = .ok (.iload_n 3, 1) := by decide +kernel
theorem dX12_sunday_30 : decode cX12_sunday 30 = .ok (.iconst (-1), 1) := by decide +kernel
theorem dX12_sunday_31 : decode cX12_sunday 31 = .ok (.if_icmp .ne 6, 3) := by decide +kernel
theorem dX12_sunday_34 : decode cX12_sunday 34 = .ok (.goto 36, 3) := by decide +kernel
theorem dX12_sunday_70 : decode cX12_sunday 70 = .ok (.iinc 2 1, 3) := by decide +kernel
theorem dX12_sunday_73 : decode cX12_sunday 73 = .ok (.goto (-64), 3) := by decide +kernel
theorem dX12_sunday_76 : decode cX12_sunday 76 = .ok (.aload_n 0, 1) := by decide +kernel
theorem dX12_sunday_77 : decode cX12_sunday 77 = .ok (.getfield 108, 3) := by decide +kernel
theorem dX12_sunday_80 : decode cX12_sunday 80 = .ok (.iconst 0, 1) := by decide +kernel
theorem dX12_sunday_81 : decode cX12_sunday 81 = .ok (.iconst 0, 1) := by decide +kernel
theorem dX12_sunday_82 : decode cX12_sunday 82 = .ok (.iastore, 1) := by decide +kernel
theorem dX12_sunday_83 : decode cX12_sunday 83 = .ok (.aload_n 0, 1) := by decide +kernel
theorem dX12_sunday_84 : decode cX12_sunday 84 = .ok (.getfield 93, 3) := by decide +kernel
theorem dX12_sunday_87 : decode cX12_sunday 87 = .ok (.iconst 0, 1) := by decide +kernel
theorem dX12_sunday_88 : decode cX12_sunday 88 = .ok (.iaload, 1) := by decide +kernel
theorem dX12_sunday_89 : decode cX12_sunday 89 = .ok (.istore_n 2, 1) := by decide +kernel
theorem dX12_sunday_90 : decode cX12_sunday 90 = .ok (.iconst 0, 1) := by decide +kernel
theorem dX12_sunday_91 : decode cX12_sunday 91 = .ok (.istore_n 3, 1) := by decide +kernel
theorem dX12_sunday_92 : decode cX12_sunday 92 = .ok (.iload_n 3, 1) := by decide +kernel
theorem dX12_sunday_93 : decode cX12_sunday 93 = .ok (.aload_n 0, 1) := by decide +kernel
theorem dX12_sunday_94 : decode cX12_sunday 94 = .ok (.getfield 13, 3) := by decide +kernel
theorem dX12_sunday_97 : decode cX12_sunday 97 = .ok (.iconst 1, 1) := by decide +kernel
theorem dX12_sunday_98 : decode cX12_sunday 98 = .ok (.iaload, 1) := by decide +kernel
theorem dX12_sunday_99 : decode cX12_sunday 99 = .ok (.if_icmp .ge 45, 3) := by decide +kernel
theorem dX12_sunday_144 : decode cX12_sunday 144 = .ok (.aload_n 0, 1) := by decide +kernel
theorem dX12_sunday_145 : decode cX12_sunday 145 = .ok (.getfield 93, 3) := by decide +kernel
theorem dX12_sunday_148 : decode cX12_sunday 148 = .ok (.iconst 0, 1) := by decide +kernel
theorem dX12_sunday_149 : decode cX12_sunday 149 = .ok (.iload_n 2, 1) := by decide +kernel
theorem dX12_sunday_150 : decode cX12_sunday 150 = .ok (.iastore, 1) := by decide +kernel
theorem dX12_sunday_151 : decode cX12_sunday 151 = .ok (.aload_n 0, 1) := by decide +kernel
theorem dX12_sunday_152 : decode cX12_sunday 152 = .ok (.getfield 81, 3) := by decide +kernel
theorem dX12_sunday_155 : decode cX12_sunday 155 = .ok (.iconst 0, 1) := by decide +kernel
theorem dX12_sunday_156 : decode cX12_sunday 156 = .ok (.dup2, 1) := by decide +kernel
theorem dX12_sunday_157 : decode cX12_sunday 157 = .ok (.iaload, 1) := by decide +kernel
theorem dX12_sunday_158 : decode cX12_sunday 158 = .ok (.iconst 1, 1) := by decide +kernel
theorem dX12_sunday_159 : decode cX12_sunday 159 = .ok (.iadd, 1) := by decide +kernel
theorem dX12_sunday_160 : decode cX12_sunday 160 = .ok (.iastore, 1) := by decide +kernel
theorem dX12_sunday_161 : decode cX12_sunday 161 = .ok (.iload_n 1, 1) := by decide +kernel
theorem dX12_sunday_162 : decode cX12_sunday 162 = .ok (.ireturn, 1) := by decide +kernel
theorem dX12_tavern_0 : decode cX12_tavern 0 = .ok (.aload_n 0, 1) := by decide +kernel
theorem dX12_tavern_1 : decode cX12_tavern 1 = .ok (.iconst 0, 1) := by decide +kernel
theorem dX12_tavern_2 : decode cX12_tavern 2 = .ok (.putfield 163, 3) := by decide +kernel
theorem dX12_tavern_5 : decode cX12_tavern 5 = .ok (.aload_n 0, 1) := by decide +kernel
theorem dX12_tavern_6 : decode cX12_tavern 6 = .ok (.iload_n 1, 1) := by decide +kernel
theorem dX12_tavern_7 : decode cX12_tavern 7 = .ok (.invokevirtual 341, 3) := by decide +kernel
theorem dX12_tavern_10 : decode cX12_tavern 10 = .ok (.ifCond .ne 5, 3) := by decide +kernel
theorem dX12_tavern_13 : decode cX12_tavern 13 = .ok (.iconst (-1), 1) := by decide +kernel
theorem dX12_tavern_14 : decode cX12_tavern 14 = .ok (.ireturn, 1) := by decide +kernel
theorem dX12_text_0 : decode cX12_text 0 = .ok (.aload_n 0, 1) := by decide +kernel
theorem dX12_text_1 : decode cX12_text 1 = .ok (.iconst 0, 1) := by decide +kernel
theorem dX12_text_2 : decode cX12_text 2 = .ok (.putfield 163, 3) := by decide +kernel
theorem dX12_text_5 : decode cX12_text 5 = .ok (.iload_n 1, 1) := by decide +kernel
theorem dX12_text_6 : decode cX12_text 6 = .ok (.ifCond .lt 11, 3) := by decide +kernel
theorem dX12_text_9 : decode cX12_text 9 = .ok (.iload_n 1, 1) := by decide +kernel
theorem dX12_text_10 : decode cX12_text 10 = .ok (.aload_n 0, 1) := by decide +kernel
theorem dX12_text_11 : decode cX12_text 11 = .ok (.getfield 166, 3) := by decide +kernel
theorem dX12_text_14 : decode cX12_text 14 = .ok (.if_icmp .le 6, 3) := by decide +kernel
theorem dX12_text_17 : decode cX12_text 17 = .ok (.bipush (-2), 2) := by decide +kernel
theorem dX12_text_19 : decode cX12_text 19 = .ok (.ireturn, 1) := by decide +kernel
theorem dX12_text_20 : decode cX12_text 20 = .ok (.aload_n 0, 1) := by decide +kernel
theorem dX12_text_21 : decode cX12_text 21 = .ok (.iload_n 1, 1) := by decide +kernel
theorem dX12_text_22 : decode cX12_text 22 = .ok (.putfield 172, 3) := by decide +kernel
theorem dX12_text_25 : decode cX12_text 25 = .ok (.aload_n 0, 1) := by decide +kernel
theorem dX12_text_26 : decode cX12_text 26 = .ok (.iconst 0, 1) := by decide +kernel
theorem dX12_text_27 : decode cX12_text 27 = .ok (.putfield 166, 3) := by decide +kernel
theorem dX12_text_30 : decode cX12_text 30 = .ok (.aload_n 0, 1) := by decide +kernel
theorem dX12_text_31 : decode cX12_text 31 = .ok (.iconst 0, 1) := by decide +kernel
theorem dX12_text_32 : decode cX12_text 32 = .ok (.putfield 169, 3) := by decide +kernel
theorem dX12_text_35 : decode cX12_text 35 = .ok (.aload_n 0, 1) := by decide +kernel
theorem dX12_text_36 : decode cX12_text 36 = .ok (.iconst 0, 1) := by decide +kernel
theorem dX12_text_37 : decode cX12_text 37 = .ok (.putfield 217, 3) := by decide +kernel
theorem dX12_text_40 : decode cX12_text 40 = .ok (.aload_n 0, 1) := by decide +kernel
theorem dX12_text_41 : decode cX12_text 41 = .ok (.iconst (-1), 1) := by decide +kernel
theorem dX12_text_42 : decode cX12_text 42 = .ok (.putfield 220, 3) := by decide +kernel
theorem dX12_text_45 : decode cX12_text 45 = .ok (.iconst 0, 1) := by decide +kernel
theorem dX12_text_46 : decode cX12_text 46 = .ok (.istore_n 2, 1) := by decide +kernel
theorem dX12_text_47 : decode cX12_text 47 = .ok (.iload_n 2, 1) := by decide +kernel
theorem dX12_text_48 : decode cX12_text 48 = .ok (.bipush 7, 2) := by decide +kernel
theorem dX12_text_50 : decode cX12_text 50 = .ok (.if_icmp .ge 15, 3) := by decide +kernel
theorem dX12_text_53 : decode cX12_text 53 = .ok (.aload_n 0, 1) := by decide +kernel
theorem dX12_text_54 : decode cX12_text 54 = .ok (.iload_n 2, 1) := by decide +kernel
theorem dX12_text_55 : decode cX12_text 55 = .ok (.iconst 0, 1) := by decide +kernel
theorem dX12_text_56 : decode cX12_text 56 = .ok (.invokevirtual 254, 3) := by decide +kernel
theorem dX12_text_59 : decode cX12_text 59 = .ok (.iinc 2 1, 3) := by decide +kernel
theorem dX12_text_62 : decode cX12_text 62 = .ok (.goto (-15), 3) := by decide +kernel
theorem dX12_text_65 : decode cX12_text 65 = .ok (.iconst 5, 1) := by decide +kernel
theorem dX12_text_66 : decode cX12_text 66 = .ok (.istore_n 2, 1) := by decide +kernel
theorem dX12_text_67 : decode cX12_text 67 = .ok (.iload_n 2, 1) := by decide +kernel
theorem dX12_text_68 : decode cX12_text 68 = .ok (.bipush 10, 2) := by decide +kernel
theorem dX12_text_70 : decode cX12_text 70 = .ok (.if_icmp .ge 23, 3) := by decide +kernel
theorem dX12_text_73 : decode cX12_text 73 = .ok (.aload_n 0, 1) := by decide +kernel
theorem dX12_text_74 : decode cX12_text 74 = .ok (.getfield 65, 3) := by decide +kernel
theorem dX12_text_77 : decode cX12_text 77 = .ok (.iload_n 2, 1) := by decide +kernel
theorem dX12_text_78 : decode cX12_text 78 = .ok (.iconst 0, 1) := by decide +kernel
theorem dX12_text_79 : decode cX12_text 79 = .ok (.iastore, 1) := by decide +kernel
theorem dX12_text_80 : decode cX12_text 80 = .ok (.aload_n 0, 1) := by decide +kernel
theorem dX12_text_81 : decode cX12_text 81 = .ok (.getfield 68, 3) := by decide +kernel
theorem dX12_text_84 : decode cX12_text 84 = .ok (.iload_n 2, 1) := by decide +kernel
theorem dX12_text_85 : decode cX12_text 85 = .ok (.iconst 0, 1) := by decide +kernel
theorem dX12_text_86 : decode cX12_text 86 = .ok (.iastore, 1) := by decide +kernel
theorem dX12_text_87 : decode cX12_text 87 = .ok (.iinc 2 1, 3) := by decide +kernel
theorem dX12_text_90 : decode cX12_text 90 = .ok (.goto (-23), 3) := by decide +kernel
theorem dX12_text_93 : decode cX12_text 93 = .ok (.aload_n 0, 1) := by decide +kernel
theorem dX12_text_94 : decode cX12_text 94 = .ok (.iconst 0, 1) := by decide +kernel
theorem dX12_text_95 : decode cX12_text 95 = .ok (.putfield 243, 3) := by decide +kernel
theorem dX12_text_98 : decode cX12_text 98 = .ok (.aload_n 0, 1) := by decide +kernel
theorem dX12_text_99 : decode cX12_text 99 = .ok (.iconst 0, 1) := by decide +kernel
theorem dX12_text_100 : decode cX12_text 100 = .ok (.putfield 273, 3) := by decide +kernel
theorem dX12_text_103 : decode cX12_text 103 = .ok (.aload_n 0, 1) := by decide +kernel
theorem dX12_text_104 : decode cX12_text 104 = .ok (.iconst 0, 1) := by decide +kernel
theorem dX12_text_105 : decode cX12_text 105 = .ok (.putfield 312, 3) := by decide +kernel
theorem dX12_text_108 : decode cX12_text 108 = .ok (.aload_n 0, 1) := by decide +kernel
theorem dX12_text_109 : decode cX12_text 109 = .ok (.iconst 0, 1) := by decide +kernel
theorem dX12_text_110 : decode cX12_text 110 = .ok (.putfield 288, 3) := by decide +kernel
theorem dX12_text_113 : decode cX12_text 113 = .ok (.aload_n 0, 1) := by decide +kernel
theorem dX12_text_114 : decode cX12_text 114 = .ok (.invokevirtual 223, 3) := by decide +kernel
theorem dX12_text_117 : decode cX12_text 117 = .ok (.aload_n 0, 1) := by decide +kernel
theorem dX12_text_118 : decode cX12_text 118 = .ok (.getfield 217, 3) := by decide +kernel
theorem dX12_text_121 : decode cX12_text 121 = .ok (.ifCond .ne 18, 3) := by decide +kernel
theorem dX12_text_124 : decode cX12_text 124 = .ok (.aload_n 0, 1) := by decide +kernel
theorem dX12_text_125 : decode cX12_text 125 = .ok (.getfield 182, 3) := by decide +kernel
theorem dX12_text_128 : decode cX12_text 128 = .ok (.iconst 4, 1) := by decide +kernel
theorem dX12_text_129 : decode cX12_text 129 = .ok (.if_icmp .eq 10, 3) := by decide +kernel
theorem dX12_text_139 : decode cX12_text 139 = .ok (.aload_n 0, 1) := by decide +kernel
theorem dX12_text_140 : decode cX12_text 140 = .ok (.aload_n 0, 1) := by decide +kernel
theorem dX12_text_141 : decode cX12_text 141 = .ok (.getfield 217, 3) := by decide +kernel
theorem dX12_text_144 : decode cX12_text 144 = .ok (.putfield 318, 3) := by decide +kernel
theorem dX12_text_147 : decode cX12_text 147 = .ok (.aload_n 0, 1) := by decide +kernel
theorem dX12_text_148 : decode cX12_text 148 = .ok (.aload_n 0, 1) := by decide +kernel
theorem dX12_text_149 : decode cX12_text 149 = .ok (.getfield 220, 3) := by decide +kernel
theorem dX12_text_152 : decode cX12_text 152 = .ok (.putfield 77, 3) := by decide +kernel
theorem dX12_text_155 : decode cX12_text 155 = .ok (.aload_n 0, 1) := by decide +kernel
theorem dX12_text_156 : decode cX12_text 156 = .ok (.getfield 217, 3) := by decide +kernel
theorem dX12_text_159 : decode cX12_text 159 = .ok (.ifCond .eq 5, 3) := by decide +kernel
theorem dX12_text_164 : decode cX12_text 164 = .ok (.aload_n 0, 1) := by decide +kernel
theorem dX12_text_165 : decode cX12_text 165 = .ok (.getfield 13, 3) := by decide +kernel
theorem dX12_text_168 : decode cX12_text 168 = .ok (.invokestatic 321, 3) := by decide +kernel
theorem dX12_text_171 : decode cX12_text 171 = .ok (.aload_n 0, 1) := by decide +kernel
theorem dX12_text_172 : decode cX12_text 172 = .ok (.getfield 16, 3) := by decide +kernel
theorem dX12_text_175 : decode cX12_text 175 = .ok (.invokestatic 321, 3) := by decide +kernel
theorem dX12_text_178 : decode cX12_text 178 = .ok (.aload_n 0, 1) := by decide +kernel
theorem dX12_text_179 : decode cX12_text 179 = .ok (.getfield 19, 3) := by decide +kernel
theorem dX12_text_182 : decode cX12_text 182 = .ok (.invokestatic 321, 3) := by decide +kernel
theorem dX12_text_185 : decode cX12_text 185 = .ok (.aload_n 0, 1) := by decide +kernel
theorem dX12_text_186 : decode cX12_text 186 = .ok (.getfield 22, 3) := by decide +kernel
theorem dX12_text_189 : decode cX12_text 189 = .ok (.invokestatic 321, 3) := by decide +kernel
theorem dX12_text_192 : decode cX12_text 192 = .ok (.aload_n 0, 1) := by decide +kernel
theorem dX12_text_193 : decode cX12_text 193 = .ok (.getfield 25, 3) := by decide +kernel
theorem dX12_text_196 : decode cX12_text 196 = .ok (.invokestatic 321, 3) := by decide +kernel
theorem dX12_text_199 : decode cX12_text 199 = .ok (.aload_n 0, 1) := by decide +kernel
theorem dX12_text_200 : decode cX12_text 200 = .ok (.getfield 28, 3) := by decide +kernel
theorem dX12_text_203 : decode cX12_text 203 = .ok (.invokestatic 321, 3) := by decide +kernel
theorem dX12_text_206 : decode cX12_text 206 = .ok (.aload_n 0, 1) := by decide +kernel
theorem dX12_text_207 : decode cX12_text 207 = .ok (.getfield 31, 3) := by decide +kernel
theorem dX12_text_210 : decode cX12_text 210 = .ok (.invokestatic 321, 3) := by decide +kernel
theorem dX12_text_213 : decode cX12_text 213 = .ok (.iconst 0, 1) := by decide +kernel
theorem dX12_text_214 : decode cX12_text 214 = .ok (.istore_n 2, 1) := by decide +kernel
theorem dX12_text_215 : decode cX12_text 215 = .ok (.iload_n 2, 1) := by decide +kernel
theorem dX12_text_216 : decode cX12_text 216 = .ok (.bipush 6, 2) := by decide +kernel
theorem dX12_text_218 : decode cX12_text 218 = .ok (.if_icmp .ge 24, 3) := by decide +kernel
theorem dX12_text_221 : decode cX12_text 221 = .ok (.aload_n 0, 1) := by decide +kernel
theorem dX12_text_222 : decode cX12_text 222 = .ok (.getfield 34, 3) := by decide +kernel
theorem dX12_text_225 : decode cX12_text 225 = .ok (.iload_n 2, 1) := by decide +kernel
theorem dX12_text_226 : decode cX12_text 226 = .ok (.aload_n 0, 1) := by decide +kernel
theorem dX12_text_227 : decode cX12_text 227 = .ok (.getfield 34, 3) := by decide +kernel
theorem dX12_text_230 : decode cX12_text 230 = .ok (.bipush 6, 2) := by decide +kernel
theorem dX12_text_232 : decode cX12_text 232 = .ok (.iload_n 2, 1) := by decide +kernel
theorem dX12_text_233 : decode cX12_text 233 = .ok (.iadd, 1) := by decide +kernel
theorem dX12_text_234 : decode cX12_text 234 = .ok (.baload, 1) := by decide +kernel
theorem dX12_text_235 : decode cX12_text 235 = .ok (.bastore, 1) := by decide +kernel
theorem dX12_text_236 : decode cX12_text 236 = .ok (.iinc 2 1, 3) := by decide +kernel
theorem dX12_text_239 : decode cX12_text 239 = .ok (.goto (-24), 3) := by decide +kernel
