theorem dX11_init_0 : decode cX11_init 0 = .ok (.aload_n 0, 1) := by decide +kernel
theorem dX11_init_1 : decode cX11_init 1 = .ok (.invokespecial 3, 3) := by decide +kernel
theorem dX11_init_4 : decode cX11_init 4 = .ok (.aload_n 0, 1) := by decide +kernel
theorem dX11_init_5 : decode cX11_init 5 = .ok (.sipush 800, 3) := by decide +kernel
theorem dX11_init_8 : decode cX11_init 8 = .ok (.newarray .byte, 2) := by decide +kernel
theorem dX11_init_10 : decode cX11_init 10 = .ok (.putfield 9, 3) := by decide +kernel
theorem dX11_init_13 : decode cX11_init 13 = .ok (.aload_n 0, 1) := by decide +kernel
theorem dX11_init_14 : decode cX11_init 14 = .ok (.new 13, 3) := by decide +kernel
theorem dX11_init_17 : decode cX11_init 17 = .ok (.dup, 1) := by decide +kernel
theorem dX11_init_18 : decode cX11_init 18 = .ok (.invokespecial 15, 3) := by decide +kernel
theorem dX11_init_21 : decode cX11_init 21 = .ok (.putfield 16, 3) := by decide +kernel
theorem dX11_init_24 : decode cX11_init 24 = .ok (.aload_n 0, 1) := by decide +kernel
theorem dX11_init_25 : decode cX11_init 25 = .ok (.new 13, 3) := by decide +kernel
theorem dX11_init_28 : decode cX11_init 28 = .ok (.dup, 1) := by decide +kernel
theorem dX11_init_29 : decode cX11_init 29 = .ok (.invokespecial 15, 3) := by decide +kernel
theorem dX11_init_32 : decode cX11_init 32 = .ok (.putfield 20, 3) := by decide +kernel
theorem dX11_init_35 : decode cX11_init 35 = .ok (.aload_n 0, 1) := by decide +kernel
theorem dX11_init_36 : decode cX11_init 36 = .ok (.new 23, 3) := by decide +kernel
theorem dX11_init_39 : decode cX11_init 39 = .ok (.dup, 1) := by decide +kernel
theorem dX11_init_40 : decode cX11_init 40 = .ok (.new 25, 3) := by decide +kernel
theorem dX11_init_43 : decode cX11_init 43 = .ok (.dup, 1) := by decide +kernel
theorem dX11_init_44 : decode cX11_init 44 = .ok (.aload_n 0, 1) := by decide +kernel
theorem dX11_init_45 : decode cX11_init 45 = .ok (.getfield 9, 3) := by decide +kernel
theorem dX11_init_48 : decode cX11_init 48 = .ok (.invokespecial 27, 3) := by decide +kernel
theorem dX11_init_51 : decode cX11_init 51 = .ok (.aload_n 0, 1) := by decide +kernel
theorem dX11_init_52 : decode cX11_init 52 = .ok (.getfield 20, 3) := by decide +kernel
theorem dX11_init_55 : decode cX11_init 55 = .ok (.invokespecial 30, 3) := by decide +kernel
theorem dX11_init_58 : decode cX11_init 58 = .ok (.putfield 33, 3) := by decide +kernel
theorem dX11_init_61 : decode cX11_init 61 = .ok (.aload_n 0, 1) := by decide +kernel
theorem dX11_init_62 : decode cX11_init 62 = .ok (.new 37, 3) := by decide +kernel
theorem dX11_init_65 : decode cX11_init 65 = .ok (.dup, 1) := by decide +kernel
theorem dX11_init_66 : decode cX11_init 66 = .ok (.invokespecial 39, 3) := by decide +kernel
theorem dX11_init_69 : decode cX11_init 69 = .ok (.putfield 40, 3) := by decide +kernel
theorem dX11_init_72 : decode cX11_init 72 = .ok (.aload_n 0, 1) := by decide +kernel
theorem dX11_init_73 : decode cX11_init 73 = .ok (.new 37, 3) := by decide +kernel
theorem dX11_init_76 : decode cX11_init 76 = .ok (.dup, 1) := by decide +kernel
theorem dX11_init_77 : decode cX11_init 77 = .ok (.invokespecial 39, 3) := by decide +kernel
theorem dX11_init_80 : decode cX11_init 80 = .ok (.putfield 44, 3) := by decide +kernel
theorem dX11_init_83 : decode cX11_init 83 = .ok (.aload_n 0, 1) := by decide +kernel
theorem dX11_init_84 : decode cX11_init 84 = .ok (.new 47, 3) := by decide +kernel
theorem dX11_init_87 : decode cX11_init 87 = .ok (.dup, 1) := by decide +kernel
theorem dX11_init_88 : decode cX11_init 88 = .ok (.invokespecial 49, 3) := by decide +kernel
theorem dX11_init_91 : decode cX11_init 91 = .ok (.putfield 50, 3) := by decide +kernel
theorem dX11_init_94 : decode cX11_init 94 = .ok (.aload_n 0, 1) := by decide +kernel
theorem dX11_init_95 : decode cX11_init 95 = .ok (.new 54, 3) := by decide +kernel
theorem dX11_init_98 : decode cX11_init 98 = .ok (.dup, 1) := by decide +kernel
theorem dX11_init_99 : decode cX11_init 99 = .ok (.aload_n 0, 1) := by decide +kernel
theorem dX11_init_100 : decode cX11_init 100 = .ok (.getfield 16, 3) := by decide +kernel
theorem dX11_init_103 : decode cX11_init 103 = .ok (.aload_n 0, 1) := by decide +kernel
theorem dX11_init_104 : decode cX11_init 104 = .ok (.getfield 40, 3) := by decide +kernel
theorem dX11_init_107 : decode cX11_init 107 = .ok (.invokespecial 56, 3) := by decide +kernel
theorem dX11_init_110 : decode cX11_init 110 = .ok (.putfield 59, 3) := by decide +kernel
theorem dX11_init_113 : decode cX11_init 113 = .ok (.aload_n 0, 1) := by decide +kernel
theorem dX11_init_114 : decode cX11_init 114 = .ok (.new 63, 3) := by decide +kernel
theorem dX11_init_117 : decode cX11_init 117 = .ok (.dup, 1) := by decide +kernel
theorem dX11_init_118 : decode cX11_init 118 = .ok (.aload_n 0, 1) := by decide +kernel
theorem dX11_init_119 : decode cX11_init 119 = .ok (.getfield 16, 3) := by decide +kernel
theorem dX11_init_122 : decode cX11_init 122 = .ok (.aload_n 0, 1) := by decide +kernel
theorem dX11_init_123 : decode cX11_init 123 = .ok (.getfield 40, 3) := by decide +kernel
theorem dX11_init_126 : decode cX11_init 126 = .ok (.aload_n 0, 1) := by decide +kernel
theorem dX11_init_127 : decode cX11_init 127 = .ok (.getfield 59, 3) := by decide +kernel
theorem dX11_init_130 : decode cX11_init 130 = .ok (.invokespecial 65, 3) := by decide +kernel
theorem dX11_init_133 : decode cX11_init 133 = .ok (.putfield 68, 3) := by decide +kernel
theorem dX11_init_136 : decode cX11_init 136 = .ok (.aload_n 0, 1) := by decide +kernel
theorem dX11_init_137 : decode cX11_init 137 = .ok (.new 72, 3) := by decide +kernel
theorem dX11_init_140 : decode cX11_init 140 = .ok (.dup, 1) := by decide +kernel
theorem dX11_init_141 : decode cX11_init 141 = .ok (.aload_n 0, 1) := by decide +kernel
theorem dX11_init_142 : decode cX11_init 142 = .ok (.getfield 16, 3) := by decide +kernel
theorem dX11_init_145 : decode cX11_init 145 = .ok (.aload_n 0, 1) := by decide +kernel
theorem dX11_init_146 : decode cX11_init 146 = .ok (.getfield 40, 3) := by decide +kernel
theorem dX11_init_149 : decode cX11_init 149 = .ok (.aload_n 0, 1) := by decide +kernel
theorem dX11_init_150 : decode cX11_init 150 = .ok (.getfield 59, 3) := by decide +kernel
theorem dX11_init_153 : decode cX11_init 153 = .ok (.invokespecial 74, 3) := by decide +kernel
theorem dX11_init_156 : decode cX11_init 156 = .ok (.putfield 75, 3) := by decide +kernel
theorem dX11_init_159 : decode cX11_init 159 = .ok (.aload_n 0, 1) := by decide +kernel
theorem dX11_init_160 : decode cX11_init 160 = .ok (.new 79, 3) := by decide +kernel
theorem dX11_init_163 : decode cX11_init 163 = .ok (.dup, 1) := by decide +kernel
theorem dX11_init_164 : decode cX11_init 164 = .ok (.aload_n 0, 1) := by decide +kernel
theorem dX11_init_165 : decode cX11_init 165 = .ok (.getfield 16, 3) := by decide +kernel
theorem dX11_init_168 : decode cX11_init 168 = .ok (.aload_n 0, 1) := by decide +kernel
theorem dX11_init_169 : decode cX11_init 169 = .ok (.getfield 40, 3) := by decide +kernel
theorem dX11_init_172 : decode cX11_init 172 = .ok (.aload_n 0, 1) := by decide +kernel
theorem dX11_init_173 : decode cX11_init 173 = .ok (.getfield 59, 3) := by decide +kernel
theorem dX11_init_176 : decode cX11_init 176 = .ok (.invokespecial 81, 3) := by decide +kernel
theorem dX11_init_179 : decode cX11_init 179 = .ok (.putfield 82, 3) := by decide +kernel
theorem dX11_init_182 : decode cX11_init 182 = .ok (.aload_n 0, 1) := by decide +kernel
theorem dX11_init_183 : decode cX11_init 183 = .ok (.iconst 0, 1) := by decide +kernel
theorem dX11_init_184 : decode cX11_init 184 = .ok (.putfield 86, 3) := by decide +kernel
theorem dX11_init_187 : decode cX11_init 187 = .ok (.aload_n 0, 1) := by decide +kernel
theorem dX11_init_188 : decode cX11_init 188 = .ok (.iconst 0, 1) := by decide +kernel
theorem dX11_init_189 : decode cX11_init 189 = .ok (.putfield 90, 3) := by decide +kernel
theorem dX11_init_192 : decode cX11_init 192 = .ok (.aload_n 0, 1) := by decide +kernel
theorem dX11_init_193 : decode cX11_init 193 = .ok (.iconst (-1), 1) := by decide +kernel
theorem dX11_init_194 : decode cX11_init 194 = .ok (.putfield 93, 3) := by decide +kernel
theorem dX11_init_197 : decode cX11_init 197 = .ok (.aload_n 0, 1) := by decide +kernel
theorem dX11_init_198 : decode cX11_init 198 = .ok (.iconst 0, 1) := by decide +kernel
theorem dX11_init_199 : decode cX11_init 199 = .ok (.putfield 96, 3) := by decide +kernel
theorem dX11_init_202 : decode cX11_init 202 = .ok (.aload_n 0, 1) := by decide +kernel
theorem dX11_init_203 : decode cX11_init 203 = .ok (.getfield 40, 3) := by decide +kernel
theorem dX11_init_206 : decode cX11_init 206 = .ok (.aload_n 0, 1) := by decide +kernel
theorem dX11_init_207 : decode cX11_init 207 = .ok (.getfield 16, 3) := by decide +kernel
theorem dX11_init_210 : decode cX11_init 210 = .ok (.invokevirtual 100, 3) := by decide +kernel
theorem dX11_init_213 : decode cX11_init 213 = .ok (.return_, 1) := by decide +kernel
theorem dX11_back_0 : decode cX11_back 0 = .ok (.aload_n 0, 1) := by decide +kernel
theorem dX11_back_1 : decode cX11_back 1 = .ok (.getfield 96, 3) := by decide +kernel
theorem dX11_back_4 : decode cX11_back 4 = .ok (.ifCond .ne 5, 3) := by decide +kernel
theorem dX11_back_7 : decode cX11_back 7 = .ok (.iconst (-1), 1) := by decide +kernel
theorem dX11_back_8 : decode cX11_back 8 = .ok (.ireturn, 1) := by decide +kernel
theorem dX11_back_9 : decode cX11_back 9 = .ok (.aload_n 0, 1) := by decide +kernel
theorem dX11_back_10 : decode cX11_back 10 = .ok (.getfield 40, 3) := by decide +kernel
theorem dX11_back_13 : decode cX11_back 13 = .ok (.aload_n 0, 1) := by decide +kernel
theorem dX11_back_14 : decode cX11_back 14 = .ok (.getfield 44, 3) := by decide +kernel
theorem dX11_back_17 : decode cX11_back 17 = .ok (.invokevirtual 354, 3) := by decide +kernel
theorem dX11_back_20 : decode cX11_back 20 = .ok (.aload_n 0, 1) := by decide +kernel
theorem dX11_back_21 : decode cX11_back 21 = .ok (.getfield 68, 3) := by decide +kernel
theorem dX11_back_24 : decode cX11_back 24 = .ok (.iconst 0, 1) := by decide +kernel
theorem dX11_back_25 : decode cX11_back 25 = .ok (.putfield 124, 3) := by decide +kernel
theorem dX11_back_28 : decode cX11_back 28 = .ok (.aload_n 0, 1) := by decide +kernel
theorem dX11_back_29 : decode cX11_back 29 = .ok (.getfield 40, 3) := by decide +kernel
theorem dX11_back_32 : decode cX11_back 32 = .ok (.getfield 227, 3) := by decide +kernel
theorem dX11_back_35 : decode cX11_back 35 = .ok (.ireturn, 1) := by decide +kernel
theorem dX11_bar_0 : decode cX11_bar 0 = .ok (.aload_n 0, 1) := by decide +kernel
theorem dX11_bar_1 : decode cX11_bar 1 = .ok (.getfield 16, 3) := by decide +kernel
theorem dX11_bar_4 : decode cX11_bar 4 = .ok (.getfield 139, 3) := by decide +kernel
theorem dX11_bar_7 : decode cX11_bar 7 = .ok (.iload_n 1, 1) := by decide +kernel
theorem dX11_bar_8 : decode cX11_bar 8 = .ok (.invokevirtual 145, 3) := by decide +kernel
theorem dX11_bar_11 : decode cX11_bar 11 = .ok (.ifCond .eq 13, 3) := by decide +kernel
theorem dX11_bar_14 : decode cX11_bar 14 = .ok (.iload_n 2, 1) := by decide +kernel
theorem dX11_bar_15 : decode cX11_bar 15 = .ok (.ifCond .lt 9, 3) := by decide +kernel
theorem dX11_bar_18 : decode cX11_bar 18 = .ok (.iload_n 2, 1) := by decide +kernel
theorem dX11_bar_19 : decode cX11_bar 19 = .ok (.bipush 8, 2) := by decide +kernel
theorem dX11_bar_21 : decode cX11_bar 21 = .ok (.if_icmp .lt 5, 3) := by decide +kernel
theorem dX11_bar_24 : decode cX11_bar 24 = .ok (.iconst (-1), 1) := by decide +kernel
theorem dX11_bar_25 : decode cX11_bar 25 = .ok (.ireturn, 1) := by decide +kernel
theorem dX11_bar_26 : decode cX11_bar 26 = .ok (.iconst 0, 1) := by decide +kernel
theorem dX11_bar_27 : decode cX11_bar 27 = .ok (.istore_n 3, 1) := by decide +kernel
theorem dX11_bar_28 : decode cX11_bar 28 = .ok (.iconst 0, 1) := by decide +kernel
theorem dX11_bar_29 : decode cX11_bar 29 = .ok (.istore 4, 2) := by decide +kernel
theorem dX11_bar_31 : decode cX11_bar 31 = .ok (.iload 4, 2) := by decide +kernel
theorem dX11_bar_33 : decode cX11_bar 33 = .ok (.aload_n 0, 1) := by decide +kernel
theorem dX11_bar_34 : decode cX11_bar 34 = .ok (.getfield 16, 3) := by decide +kernel
theorem dX11_bar_37 : decode cX11_bar 37 = .ok (.getfield 192, 3) := by decide +kernel
theorem dX11_bar_40 : decode cX11_bar 40 = .ok (.iload_n 1, 1) := by decide +kernel
theorem dX11_bar_41 : decode cX11_bar 41 = .ok (.iaload, 1) := by decide +kernel
theorem dX11_bar_42 : decode cX11_bar 42 = .ok (.if_icmp .ge 60, 3) := by decide +kernel
theorem dX11_bar_45 : decode cX11_bar 45 = .ok (.iload_n 1, 1) := by decide +kernel
theorem dX11_bar_46 : decode cX11_bar 46 = .ok (.iload 4, 2) := by decide +kernel
theorem dX11_bar_48 : decode cX11_bar 48 = .ok (.invokestatic 202, 3) := by decide +kernel
theorem dX11_bar_51 : decode cX11_bar 51 = .ok (.istore 5, 2) := by decide +kernel
theorem dX11_bar_53 : decode cX11_bar 53 = .ok (.aload_n 0, 1) := by decide +kernel
theorem dX11_bar_54 : decode cX11_bar 54 = .ok (.getfield 40, 3) := by decide +kernel
theorem dX11_bar_57 : decode cX11_bar 57 = .ok (.getfield 233, 3) := by decide +kernel
theorem dX11_bar_60 : decode cX11_bar 60 = .ok (.iload 5, 2) := by decide +kernel
theorem dX11_bar_62 : decode cX11_bar 62 = .ok (.iaload, 1) := by decide +kernel
theorem dX11_bar_63 : decode cX11_bar 63 = .ok (.istore 6, 2) := by decide +kernel
theorem dX11_bar_65 : decode cX11_bar 65 = .ok (.iload 6, 2) := by decide +kernel
theorem dX11_bar_67 : decode cX11_bar 67 = .ok (.iconst (-1), 1) := by decide +kernel
theorem dX11_bar_68 : decode cX11_bar 68 = .ok (.if_icmp .eq 28, 3) := by decide +kernel
theorem dX11_bar_71 : decode cX11_bar 71 = .ok (.aload_n 0, 1) := by decide +kernel
theorem dX11_bar_72 : decode cX11_bar 72 = .ok (.getfield 59, 3) := by decide +kernel
theorem dX11_bar_75 : decode cX11_bar 75 = .ok (.iload 5, 2) := by decide +kernel
theorem dX11_bar_77 : decode cX11_bar 77 = .ok (.iload 6, 2) := by decide +kernel
theorem dX11_bar_79 : decode cX11_bar 79 = .ok (.invokevirtual 213, 3) := by decide +kernel
theorem dX11_bar_82 : decode cX11_bar 82 = .ok (.iload_n 2, 1) := by decide +kernel
theorem dX11_bar_83 : decode cX11_bar 83 = .ok (.ishr, 1) := by decide +kernel
theorem dX11_bar_84 : decode cX11_bar 84 = .ok (.iconst 1, 1) := by decide +kernel
theorem dX11_bar_85 : decode cX11_bar 85 = .ok (.iand, 1) := by decide +kernel
theorem dX11_bar_86 : decode cX11_bar 86 = .ok (.ifCond .eq 10, 3) := by decide +kernel
theorem dX11_bar_89 : decode cX11_bar 89 = .ok (.iload_n 3, 1) := by decide +kernel
theorem dX11_bar_90 : decode cX11_bar 90 = .ok (.iconst 1, 1) := by decide +kernel
theorem dX11_bar_91 : decode cX11_bar 91 = .ok (.iload 4, 2) := by decide +kernel
theorem dX11_bar_93 : decode cX11_bar 93 = .ok (.ishl, 1) := by decide +kernel
theorem dX11_bar_94 : decode cX11_bar 94 = .ok (.ior, 1) := by decide +kernel
theorem dX11_bar_95 : decode cX11_bar 95 = .ok (.istore_n 3, 1) := by decide +kernel
theorem dX11_bar_96 : decode cX11_bar 96 = .ok (.iinc 4 1, 3) := by decide +kernel
theorem dX11_bar_99 : decode cX11_bar 99 = .ok (.goto (-68), 3) := by decide +kernel
theorem dX11_bar_102 : decode cX11_bar 102 = .ok (.iload_n 3, 1) := by decide +kernel
theorem dX11_bar_103 : decode cX11_bar 103 = .ok (.ireturn, 1) := by decide +kernel
theorem dX11_best_0 : decode cX11_best 0 = .ok (.iload_n 1, 1) := by decide +kernel
theorem dX11_best_1 : decode cX11_best 1 = .ok (.ifCond .lt 19, 3) := by decide +kernel
theorem dX11_best_4 : decode cX11_best 4 = .ok (.iload_n 1, 1) := by decide +kernel
theorem dX11_best_5 : decode cX11_best 5 = .ok (.sipush 999, 3) := by decide +kernel
theorem dX11_best_8 : decode cX11_best 8 = .ok (.if_icmp .gt 12, 3) := by decide +kernel
theorem dX11_best_11 : decode cX11_best 11 = .ok (.iload_n 2, 1) := by decide +kernel
theorem dX11_best_12 : decode cX11_best 12 = .ok (.ifCond .lt 8, 3) := by decide +kernel
theorem dX11_best_15 : decode cX11_best 15 = .ok (.iload_n 2, 1) := by decide +kernel
theorem dX11_best_16 : decode cX11_best 16 = .ok (.iconst 1, 1) := by decide +kernel
theorem dX11_best_17 : decode cX11_best 17 = .ok (.if_icmp .le 5, 3) := by decide +kernel
theorem dX11_best_20 : decode cX11_best 20 = .ok (.iconst (-1), 1) := by decide +kernel
theorem dX11_best_21 : decode cX11_best 21 = .ok (.ireturn, 1) := by decide +kernel
theorem dX11_best_22 : decode cX11_best 22 = .ok (.aload_n 0, 1) := by decide +kernel
theorem dX11_best_23 : decode cX11_best 23 = .ok (.getfield 68, 3) := by decide +kernel
theorem dX11_best_26 : decode cX11_best 26 = .ok (.invokevirtual 267, 3) := by decide +kernel
theorem dX11_best_29 : decode cX11_best 29 = .ok (.aload_n 0, 1) := by decide +kernel
theorem dX11_best_30 : decode cX11_best 30 = .ok (.getfield 68, 3) := by decide +kernel
theorem dX11_best_33 : decode cX11_best 33 = .ok (.iload_n 1, 1) := by decide +kernel
theorem dX11_best_34 : decode cX11_best 34 = .ok (.invokevirtual 270, 3) := by decide +kernel
theorem dX11_best_37 : decode cX11_best 37 = .ok (.istore_n 3, 1) := by decide +kernel
theorem dX11_best_38 : decode cX11_best 38 = .ok (.iload_n 2, 1) := by decide +kernel
theorem dX11_best_39 : decode cX11_best 39 = .ok (.ifCond .ne 7, 3) := by decide +kernel
theorem dX11_best_42 : decode cX11_best 42 = .ok (.iload_n 3, 1) := by decide +kernel
theorem dX11_best_43 : decode cX11_best 43 = .ok (.goto 11, 3) := by decide +kernel
theorem dX11_best_46 : decode cX11_best 46 = .ok (.aload_n 0, 1) := by decide +kernel
theorem dX11_best_47 : decode cX11_best 47 = .ok (.getfield 68, 3) := by decide +kernel
theorem dX11_best_50 : decode cX11_best 50 = .ok (.iload_n 3, 1) := by decide +kernel
theorem dX11_best_51 : decode cX11_best 51 = .ok (.invokevirtual 273, 3) := by decide +kernel
theorem dX11_best_54 : decode cX11_best 54 = .ok (.ireturn, 1) := by decide +kernel
theorem dX11_bids_0 : decode cX11_bids 0 = .ok (.aload_n 0, 1) := by decide +kernel
theorem dX11_bids_1 : decode cX11_bids 1 = .ok (.getfield 16, 3) := by decide +kernel
theorem dX11_bids_4 : decode cX11_bids 4 = .ok (.getfield 142, 3) := by decide +kernel
theorem dX11_bids_7 : decode cX11_bids 7 = .ok (.iload_n 1, 1) := by decide +kernel
theorem dX11_bids_8 : decode cX11_bids 8 = .ok (.invokevirtual 145, 3) := by decide +kernel
theorem dX11_bids_11 : decode cX11_bids 11 = .ok (.ifCond .eq 17, 3) := by decide +kernel
theorem dX11_bids_14 : decode cX11_bids 14 = .ok (.aload_n 0, 1) := by decide +kernel
theorem dX11_bids_15 : decode cX11_bids 15 = .ok (.getfield 16, 3) := by decide +kernel
theorem dX11_bids_18 : decode cX11_bids 18 = .ok (.getfield 139, 3) := by decide +kernel
theorem dX11_bids_21 : decode cX11_bids 21 = .ok (.iload_n 2, 1) := by decide +kernel
theorem dX11_bids_22 : decode cX11_bids 22 = .ok (.invokevirtual 145, 3) := by decide +kernel
theorem dX11_bids_25 : decode cX11_bids 25 = .ok (.ifCond .ne 5, 3) := by decide +kernel
theorem dX11_bids_28 : decode cX11_bids 28 = .ok (.iconst (-1), 1) := by decide +kernel
theorem dX11_bids_29 : decode cX11_bids 29 = .ok (.ireturn, 1) := by decide +kernel
theorem dX11_bids_30 : decode cX11_bids 30 = .ok (.aload_n 0, 1) := by decide +kernel
theorem dX11_bids_31 : decode cX11_bids 31 = .ok (.getfield 59, 3) := by decide +kernel
theorem dX11_bids_34 : decode cX11_bids 34 = .ok (.iload_n 1, 1) := by decide +kernel
theorem dX11_bids_35 : decode cX11_bids 35 = .ok (.iload_n 2, 1) := by decide +kernel
theorem dX11_bids_36 : decode cX11_bids 36 = .ok (.aload_n 0, 1) := by decide +kernel
theorem dX11_bids_37 : decode cX11_bids 37 = .ok (.getfield 40, 3) := by decide +kernel
theorem dX11_bids_40 : decode cX11_bids 40 = .ok (.getfield 221, 3) := by decide +kernel
theorem dX11_bids_43 : decode cX11_bids 43 = .ok (.iload_n 1, 1) := by decide +kernel
theorem dX11_bids_44 : decode cX11_bids 44 = .ok (.iaload, 1) := by decide +kernel
theorem dX11_bids_45 : decode cX11_bids 45 = .ok (.invokevirtual 224, 3) := by decide +kernel
theorem dX11_bids_48 : decode cX11_bids 48 = .ok (.ireturn, 1) := by decide +kernel
theorem dX11_chosen_0 : decode cX11_chosen 0 = .ok (.iload_n 1, 1) := by decide +kernel
theorem dX11_chosen_1 : decode cX11_chosen 1 = .ok (.ifCond .lt 22, 3) := by decide +kernel
theorem dX11_chosen_4 : decode cX11_chosen 4 = .ok (.iload_n 1, 1) := by decide +kernel
theorem dX11_chosen_5 : decode cX11_chosen 5 = .ok (.sipush 999, 3) := by decide +kernel
theorem dX11_chosen_8 : decode cX11_chosen 8 = .ok (.if_icmp .gt 15, 3) := by decide +kernel
theorem dX11_chosen_11 : decode cX11_chosen 11 = .ok (.aload_n 0, 1) := by decide +kernel
theorem dX11_chosen_12 : decode cX11_chosen 12 = .ok (.getfield 16, 3) := by decide +kernel
theorem dX11_chosen_15 : decode cX11_chosen 15 = .ok (.iload_n 2, 1) := by decide +kernel
theorem dX11_chosen_16 : decode cX11_chosen 16 = .ok (.iload_n 3, 1) := by decide +kernel
theorem dX11_chosen_17 : decode cX11_chosen 17 = .ok (.invokevirtual 195, 3) := by decide +kernel
theorem dX11_chosen_20 : decode cX11_chosen 20 = .ok (.ifCond .ne 5, 3) := by decide +kernel
theorem dX11_chosen_23 : decode cX11_chosen 23 = .ok (.iconst (-1), 1) := by decide +kernel
theorem dX11_chosen_24 : decode cX11_chosen 24 = .ok (.ireturn, 1) := by decide +kernel
theorem dX11_chosen_25 : decode cX11_chosen 25 = .ok (.aload_n 0, 1) := by decide +kernel
theorem dX11_chosen_26 : decode cX11_chosen 26 = .ok (.getfield 68, 3) := by decide +kernel
theorem dX11_chosen_29 : decode cX11_chosen 29 = .ok (.invokevirtual 267, 3) := by decide +kernel
theorem dX11_chosen_32 : decode cX11_chosen 32 = .ok (.aload_n 0, 1) := by decide +kernel
theorem dX11_chosen_33 : decode cX11_chosen 33 = .ok (.getfield 68, 3) := by decide +kernel
theorem dX11_chosen_36 : decode cX11_chosen 36 = .ok (.iload_n 1, 1) := by decide +kernel
theorem dX11_chosen_37 : decode cX11_chosen 37 = .ok (.invokevirtual 276, 3) := by decide +kernel
theorem dX11_chosen_40 : decode cX11_chosen 40 = .ok (.aload_n 0, 1) := by decide +kernel
theorem dX11_chosen_41 : decode cX11_chosen 41 = .ok (.getfield 68, 3) := by decide +kernel
theorem dX11_chosen_44 : decode cX11_chosen 44 = .ok (.getfield 279, 3) := by decide +kernel
theorem dX11_chosen_47 : decode cX11_chosen 47 = .ok (.iload_n 2, 1) := by decide +kernel
theorem dX11_chosen_48 : decode cX11_chosen 48 = .ok (.iload_n 3, 1) := by decide +kernel
theorem dX11_chosen_49 : decode cX11_chosen 49 = .ok (.invokestatic 202, 3) := by decide +kernel
theorem dX11_chosen_52 : decode cX11_chosen 52 = .ok (.iaload, 1) := by decide +kernel
theorem dX11_chosen_53 : decode cX11_chosen 53 = .ok (.istore 4, 2) := by decide +kernel
theorem dX11_chosen_55 : decode cX11_chosen 55 = .ok (.iload 4, 2) := by decide +kernel
theorem dX11_chosen_57 : decode cX11_chosen 57 = .ok (.iconst (-1), 1) := by decide +kernel
theorem dX11_chosen_58 : decode cX11_chosen 58 = .ok (.if_icmp .ne 8, 3) := by decide +kernel
theorem dX11_chosen_61 : decode cX11_chosen 61 = .ok (.bipush (-2), 2) := by decide +kernel
theorem dX11_chosen_63 : decode cX11_chosen 63 = .ok (.goto 5, 3) := by decide +kernel
theorem dX11_chosen_66 : decode cX11_chosen 66 = .ok (.iload 4, 2) := by decide +kernel
theorem dX11_chosen_68 : decode cX11_chosen 68 = .ok (.ireturn, 1) := by decide +kernel
theorem dX11_claimsOn_0 : decode cX11_claimsOn 0 = .ok (.iconst 0, 1) := by decide +kernel
theorem dX11_claimsOn_1 : decode cX11_claimsOn 1 = .ok (.istore_n 2, 1) := by decide +kernel
theorem dX11_claimsOn_2 : decode cX11_claimsOn 2 = .ok (.iconst 0, 1) := by decide +kernel
theorem dX11_claimsOn_3 : decode cX11_claimsOn 3 = .ok (.istore_n 3, 1) := by decide +kernel
theorem dX11_claimsOn_4 : decode cX11_claimsOn 4 = .ok (.iload_n 3, 1) := by decide +kernel
theorem dX11_claimsOn_5 : decode cX11_claimsOn 5 = .ok (.aload_n 0, 1) := by decide +kernel
theorem dX11_claimsOn_6 : decode cX11_claimsOn 6 = .ok (.getfield 16, 3) := by decide +kernel
theorem dX11_claimsOn_9 : decode cX11_claimsOn 9 = .ok (.getfield 136, 3) := by decide +kernel
theorem dX11_claimsOn_12 : decode cX11_claimsOn 12 = .ok (.getfield 292, 3) := by decide +kernel
theorem dX11_claimsOn_15 : decode cX11_claimsOn 15 = .ok (.if_icmp .ge 34, 3) := by decide +kernel
theorem dX11_claimsOn_18 : decode cX11_claimsOn 18 = .ok (.aload_n 0, 1) := by decide +kernel
theorem dX11_claimsOn_19 : decode cX11_claimsOn 19 = .ok (.getfield 16, 3) := by decide +kernel
theorem dX11_claimsOn_22 : decode cX11_claimsOn 22 = .ok (.getfield 163, 3) := by decide +kernel
theorem dX11_claimsOn_25 : decode cX11_claimsOn 25 = .ok (.iload_n 3, 1) := by decide +kernel
theorem dX11_claimsOn_26 : decode cX11_claimsOn 26 = .ok (.iaload, 1) := by decide +kernel
theorem dX11_claimsOn_27 : decode cX11_claimsOn 27 = .ok (.iload_n 1, 1) := by decide +kernel
theorem dX11_claimsOn_28 : decode cX11_claimsOn 28 = .ok (.if_icmp .ne 15, 3) := by decide +kernel
theorem dX11_claimsOn_31 : decode cX11_claimsOn 31 = .ok (.iload_n 2, 1) := by decide +kernel
theorem dX11_claimsOn_32 : decode cX11_claimsOn 32 = .ok (.aload_n 0, 1) := by decide +kernel
theorem dX11_claimsOn_33 : decode cX11_claimsOn 33 = .ok (.getfield 40, 3) := by decide +kernel
theorem dX11_claimsOn_36 : decode cX11_claimsOn 36 = .ok (.getfield 169, 3) := by decide +kernel
theorem dX11_claimsOn_39 : decode cX11_claimsOn 39 = .ok (.iload_n 3, 1) := by decide +kernel
theorem dX11_claimsOn_40 : decode cX11_claimsOn 40 = .ok (.iaload, 1) := by decide +kernel
theorem dX11_claimsOn_41 : decode cX11_claimsOn 41 = .ok (.iadd, 1) := by decide +kernel
theorem dX11_claimsOn_42 : decode cX11_claimsOn 42 = .ok (.istore_n 2, 1) := by decide +kernel
theorem dX11_claimsOn_43 : decode cX11_claimsOn 43 = .ok (.iinc 3 1, 3) := by decide +kernel
theorem dX11_claimsOn_46 : decode cX11_claimsOn 46 = .ok (.goto (-42), 3) := by decide +kernel
theorem dX11_claimsOn_49 : decode cX11_claimsOn 49 = .ok (.iload_n 2, 1) := by decide +kernel
theorem dX11_claimsOn_50 : decode cX11_claimsOn 50 = .ok (.ireturn, 1) := by decide +kernel
theorem dX11_count_0 : decode cX11_count 0 = .ok (.iload_n 1, 1) := by decide +kernel
theorem dX11_count_1 : decode cX11_count 1 = .ok (.tableswitch 174 0 11 #[63, 74, 85, 96, 107, 118, 126, 134, 142, 150, 155, 166], 63) := by decide +kernel
theorem dX11_count_64 : decode cX11_count 64 = .ok (.aload_n 0, 1) := by decide +kernel
theorem dX11_count_65 : decode cX11_count 65 = .ok (.getfield 16, 3) := by decide +kernel
theorem dX11_count_68 : decode cX11_count 68 = .ok (.getfield 127, 3) := by decide +kernel
theorem dX11_count_71 : decode cX11_count 71 = .ok (.getfield 292, 3) := by decide +kernel
theorem dX11_count_74 : decode cX11_count 74 = .ok (.ireturn, 1) := by decide +kernel
theorem dX11_count_75 : decode cX11_count 75 = .ok (.aload_n 0, 1) := by decide +kernel
theorem dX11_count_76 : decode cX11_count 76 = .ok (.getfield 16, 3) := by decide +kernel
theorem dX11_count_79 : decode cX11_count 79 = .ok (.getfield 136, 3) := by decide +kernel
theorem dX11_count_82 : decode cX11_count 82 = .ok (.getfield 292, 3) := by decide +kernel
theorem dX11_count_85 : decode cX11_count 85 = .ok (.ireturn, 1) := by decide +kernel
theorem dX11_count_86 : decode cX11_count 86 = .ok (.aload_n 0, 1) := by decide +kernel
theorem dX11_count_87 : decode cX11_count 87 = .ok (.getfield 16, 3) := by decide +kernel
theorem dX11_count_90 : decode cX11_count 90 = .ok (.getfield 139, 3) := by decide +kernel
theorem dX11_count_93 : decode cX11_count 93 = .ok (.getfield 292, 3) := by decide +kernel
theorem dX11_count_96 : decode cX11_count 96 = .ok (.ireturn, 1) := by decide +kernel
theorem dX11_count_97 : decode cX11_count 97 = .ok (.aload_n 0, 1) := by decide +kernel
theorem dX11_count_98 : decode cX11_count 98 = .ok (.getfield 16, 3) := by decide +kernel
theorem dX11_count_101 : decode cX11_count 101 = .ok (.getfield 142, 3) := by decide +kernel
theorem dX11_count_104 : decode cX11_count 104 = .ok (.getfield 292, 3) := by decide +kernel
theorem dX11_count_107 : decode cX11_count 107 = .ok (.ireturn, 1) := by decide +kernel
theorem dX11_count_108 : decode cX11_count 108 = .ok (.aload_n 0, 1) := by decide +kernel
theorem dX11_count_109 : decode cX11_count 109 = .ok (.getfield 16, 3) := by decide +kernel
theorem dX11_count_112 : decode cX11_count 112 = .ok (.getfield 357, 3) := by decide +kernel
theorem dX11_count_115 : decode cX11_count 115 = .ok (.getfield 361, 3) := by decide +kernel
theorem dX11_count_118 : decode cX11_count 118 = .ok (.ireturn, 1) := by decide +kernel
theorem dX11_count_119 : decode cX11_count 119 = .ok (.aload_n 0, 1) := by decide +kernel
theorem dX11_count_120 : decode cX11_count 120 = .ok (.getfield 40, 3) := by decide +kernel
theorem dX11_count_123 : decode cX11_count 123 = .ok (.getfield 227, 3) := by decide +kernel
theorem dX11_count_126 : decode cX11_count 126 = .ok (.ireturn, 1) := by decide +kernel
theorem dX11_count_127 : decode cX11_count 127 = .ok (.aload_n 0, 1) := by decide +kernel
theorem dX11_count_128 : decode cX11_count 128 = .ok (.getfield 40, 3) := by decide +kernel
theorem dX11_count_131 : decode cX11_count 131 = .ok (.getfield 239, 3) := by decide +kernel
theorem dX11_count_134 : decode cX11_count 134 = .ok (.ireturn, 1) := by decide +kernel
theorem dX11_count_135 : decode cX11_count 135 = .ok (.aload_n 0, 1) := by decide +kernel
theorem dX11_count_136 : decode cX11_count 136 = .ok (.getfield 40, 3) := by decide +kernel
theorem dX11_count_139 : decode cX11_count 139 = .ok (.getfield 246, 3) := by decide +kernel
theorem dX11_count_142 : decode cX11_count 142 = .ok (.ireturn, 1) := by decide +kernel
theorem dX11_count_143 : decode cX11_count 143 = .ok (.aload_n 0, 1) := by decide +kernel
theorem dX11_count_144 : decode cX11_count 144 = .ok (.getfield 50, 3) := by decide +kernel
theorem dX11_count_147 : decode cX11_count 147 = .ok (.getfield 121, 3) := by decide +kernel
theorem dX11_count_150 : decode cX11_count 150 = .ok (.ireturn, 1) := by decide +kernel
theorem dX11_count_151 : decode cX11_count 151 = .ok (.aload_n 0, 1) := by decide +kernel
theorem dX11_count_152 : decode cX11_count 152 = .ok (.invokevirtual 302, 3) := by decide +kernel
theorem dX11_count_155 : decode cX11_count 155 = .ok (.ireturn, 1) := by decide +kernel
theorem dX11_count_156 : decode cX11_count 156 = .ok (.aload_n 0, 1) := by decide +kernel
theorem dX11_count_157 : decode cX11_count 157 = .ok (.getfield 40, 3) := by decide +kernel
theorem dX11_count_160 : decode cX11_count 160 = .ok (.getfield 325, 3) := by decide +kernel
theorem dX11_count_163 : decode cX11_count 163 = .ok (.invokestatic 216, 3) := by decide +kernel
theorem dX11_count_166 : decode cX11_count 166 = .ok (.ireturn, 1) := by decide +kernel
theorem dX11_count_167 : decode cX11_count 167 = .ok (.aload_n 0, 1) := by decide +kernel
theorem dX11_count_168 : decode cX11_count 168 = .ok (.getfield 40, 3) := by decide +kernel
theorem dX11_count_171 : decode cX11_count 171 = .ok (.invokevirtual 364, 3) := by decide +kernel
theorem dX11_count_174 : decode cX11_count 174 = .ok (.ireturn, 1) := by decide +kernel
theorem dX11_count_175 : decode cX11_count 175 = .ok (.iconst (-1), 1) := by decide +kernel
theorem dX11_count_176 : decode cX11_count 176 = .ok (.ireturn, 1) := by decide +kernel
theorem dX11_crackBoys_0 : decode cX11_crackBoys 0 = .ok (.iconst 0, 1) := by decide +kernel
theorem dX11_crackBoys_1 : decode cX11_crackBoys 1 = .ok (.istore_n 1, 1) := by decide +kernel
theorem dX11_crackBoys_2 : decode cX11_crackBoys 2 = .ok (.iload_n 1, 1) := by decide +kernel
theorem dX11_crackBoys_3 : decode cX11_crackBoys 3 = .ok (.aload_n 0, 1) := by decide +kernel
theorem dX11_crackBoys_4 : decode cX11_crackBoys 4 = .ok (.getfield 16, 3) := by decide +kernel
theorem dX11_crackBoys_7 : decode cX11_crackBoys 7 = .ok (.getfield 136, 3) := by decide +kernel
theorem dX11_crackBoys_10 : decode cX11_crackBoys 10 = .ok (.getfield 292, 3) := by decide +kernel
theorem dX11_crackBoys_13 : decode cX11_crackBoys 13 = .ok (.if_icmp .ge 76, 3) := by decide +kernel
theorem dX11_crackBoys_16 : decode cX11_crackBoys 16 = .ok (.aload_n 0, 1) := by decide +kernel
theorem dX11_crackBoys_17 : decode cX11_crackBoys 17 = .ok (.getfield 16, 3) := by decide +kernel
theorem dX11_crackBoys_20 : decode cX11_crackBoys 20 = .ok (.iload_n 1, 1) := by decide +kernel
theorem dX11_crackBoys_21 : decode cX11_crackBoys 21 = .ok (.invokevirtual 175, 3) := by decide +kernel
theorem dX11_crackBoys_24 : decode cX11_crackBoys 24 = .ok (.ifCond .eq 59, 3) := by decide +kernel
theorem dX11_crackBoys_27 : decode cX11_crackBoys 27 = .ok (.aload_n 0, 1) := by decide +kernel
theorem dX11_crackBoys_28 : decode cX11_crackBoys 28 = .ok (.getfield 40, 3) := by decide +kernel
theorem dX11_crackBoys_31 : decode cX11_crackBoys 31 = .ok (.iload_n 1, 1) := by decide +kernel
theorem dX11_crackBoys_32 : decode cX11_crackBoys 32 = .ok (.invokevirtual 172, 3) := by decide +kernel
theorem dX11_crackBoys_35 : decode cX11_crackBoys 35 = .ok (.ifCond .ne 48, 3) := by decide +kernel
theorem dX11_crackBoys_38 : decode cX11_crackBoys 38 = .ok (.aload_n 0, 1) := by decide +kernel
theorem dX11_crackBoys_39 : decode cX11_crackBoys 39 = .ok (.getfield 40, 3) := by decide +kernel
theorem dX11_crackBoys_42 : decode cX11_crackBoys 42 = .ok (.invokevirtual 370, 3) := by decide +kernel
theorem dX11_crackBoys_45 : decode cX11_crackBoys 45 = .ok (.bipush 100, 2) := by decide +kernel
theorem dX11_crackBoys_47 : decode cX11_crackBoys 47 = .ok (.irem, 1) := by decide +kernel
theorem dX11_crackBoys_48 : decode cX11_crackBoys 48 = .ok (.istore_n 2, 1) := by decide +kernel
theorem dX11_crackBoys_49 : decode cX11_crackBoys 49 = .ok (.iload_n 2, 1) := by decide +kernel
theorem dX11_crackBoys_50 : decode cX11_crackBoys 50 = .ok (.aload_n 0, 1) := by decide +kernel
theorem dX11_crackBoys_51 : decode cX11_crackBoys 51 = .ok (.getfield 59, 3) := by decide +kernel
theorem dX11_crackBoys_54 : decode cX11_crackBoys 54 = .ok (.iload_n 1, 1) := by decide +kernel
theorem dX11_crackBoys_55 : decode cX11_crackBoys 55 = .ok (.aload_n 0, 1) := by decide +kernel
theorem dX11_crackBoys_56 : decode cX11_crackBoys 56 = .ok (.getfield 40, 3) := by decide +kernel
theorem dX11_crackBoys_59 : decode cX11_crackBoys 59 = .ok (.getfield 227, 3) := by decide +kernel
theorem dX11_crackBoys_62 : decode cX11_crackBoys 62 = .ok (.invokevirtual 230, 3) := by decide +kernel
theorem dX11_crackBoys_65 : decode cX11_crackBoys 65 = .ok (.if_icmp .ge 18, 3) := by decide +kernel
theorem dX11_crackBoys_68 : decode cX11_crackBoys 68 = .ok (.aload_n 0, 1) := by decide +kernel
theorem dX11_crackBoys_69 : decode cX11_crackBoys 69 = .ok (.getfield 40, 3) := by decide +kernel
theorem dX11_crackBoys_72 : decode cX11_crackBoys 72 = .ok (.dup, 1) := by decide +kernel
theorem dX11_crackBoys_73 : decode cX11_crackBoys 73 = .ok (.getfield 325, 3) := by decide +kernel
theorem dX11_crackBoys_76 : decode cX11_crackBoys 76 = .ok (.iconst 1, 1) := by decide +kernel
theorem dX11_crackBoys_77 : decode cX11_crackBoys 77 = .ok (.iload_n 1, 1) := by decide +kernel
theorem dX11_crackBoys_78 : decode cX11_crackBoys 78 = .ok (.ishl, 1) := by decide +kernel
theorem dX11_crackBoys_79 : decode cX11_crackBoys 79 = .ok (.ior, 1) := by decide +kernel
theorem dX11_crackBoys_80 : decode cX11_crackBoys 80 = .ok (.putfield 325, 3) := by decide +kernel
theorem dX11_crackBoys_83 : decode cX11_crackBoys 83 = .ok (.iinc 1 1, 3) := by decide +kernel
theorem dX11_crackBoys_86 : decode cX11_crackBoys 86 = .ok (.goto (-84), 3) := by decide +kernel
theorem dX11_crackBoys_89 : decode cX11_crackBoys 89 = .ok (.return_, 1) := by decide +kernel
theorem dX11_cracks_0 : decode cX11_cracks 0 = .ok (.aload_n 0, 1) := by decide +kernel
theorem dX11_cracks_1 : decode cX11_cracks 1 = .ok (.getfield 16, 3) := by decide +kernel
theorem dX11_cracks_4 : decode cX11_cracks 4 = .ok (.getfield 136, 3) := by decide +kernel
theorem dX11_cracks_7 : decode cX11_cracks 7 = .ok (.iload_n 1, 1) := by decide +kernel
theorem dX11_cracks_8 : decode cX11_cracks 8 = .ok (.invokevirtual 145, 3) := by decide +kernel
theorem dX11_cracks_11 : decode cX11_cracks 11 = .ok (.ifCond .eq 21, 3) := by decide +kernel
theorem dX11_cracks_14 : decode cX11_cracks 14 = .ok (.aload_n 0, 1) := by decide +kernel
theorem dX11_cracks_15 : decode cX11_cracks 15 = .ok (.getfield 59, 3) := by decide +kernel
theorem dX11_cracks_18 : decode cX11_cracks 18 = .ok (.iload_n 1, 1) := by decide +kernel
theorem dX11_cracks_19 : decode cX11_cracks 19 = .ok (.aload_n 0, 1) := by decide +kernel
theorem dX11_cracks_20 : decode cX11_cracks 20 = .ok (.getfield 40, 3) := by decide +kernel
theorem dX11_cracks_23 : decode cX11_cracks 23 = .ok (.getfield 227, 3) := by decide +kernel
theorem dX11_cracks_26 : decode cX11_cracks 26 = .ok (.invokevirtual 230, 3) := by decide +kernel
theorem dX11_cracks_29 : decode cX11_cracks 29 = .ok (.goto 4, 3) := by decide +kernel
theorem dX11_cracks_32 : decode cX11_cracks 32 = .ok (.iconst (-1), 1) := by decide +kernel
theorem dX11_cracks_33 : decode cX11_cracks 33 = .ok (.ireturn, 1) := by decide +kernel
theorem dX11_due_0 : decode cX11_due 0 = .ok (.aload_n 0, 1) := by decide +kernel
theorem dX11_due_1 : decode cX11_due 1 = .ok (.getfield 16, 3) := by decide +kernel
theorem dX11_due_4 : decode cX11_due 4 = .ok (.iload_n 1, 1) := by decide +kernel
theorem dX11_due_5 : decode cX11_due 5 = .ok (.iload_n 2, 1) := by decide +kernel
theorem dX11_due_6 : decode cX11_due 6 = .ok (.invokevirtual 195, 3) := by decide +kernel
theorem dX11_due_9 : decode cX11_due 9 = .ok (.ifCond .eq 30, 3) := by decide +kernel
theorem dX11_due_12 : decode cX11_due 12 = .ok (.aload_n 0, 1) := by decide +kernel
theorem dX11_due_13 : decode cX11_due 13 = .ok (.getfield 16, 3) := by decide +kernel
theorem dX11_due_16 : decode cX11_due 16 = .ok (.getfield 136, 3) := by decide +kernel
theorem dX11_due_19 : decode cX11_due 19 = .ok (.iload_n 3, 1) := by decide +kernel
theorem dX11_due_20 : decode cX11_due 20 = .ok (.invokevirtual 145, 3) := by decide +kernel
theorem dX11_due_23 : decode cX11_due 23 = .ok (.ifCond .eq 16, 3) := by decide +kernel
theorem dX11_due_26 : decode cX11_due 26 = .ok (.aload_n 0, 1) := by decide +kernel
theorem dX11_due_27 : decode cX11_due 27 = .ok (.getfield 59, 3) := by decide +kernel
theorem dX11_due_30 : decode cX11_due 30 = .ok (.iload_n 1, 1) := by decide +kernel
theorem dX11_due_31 : decode cX11_due 31 = .ok (.iload_n 2, 1) := by decide +kernel
theorem dX11_due_32 : decode cX11_due 32 = .ok (.iload_n 3, 1) := by decide +kernel
theorem dX11_due_33 : decode cX11_due 33 = .ok (.invokevirtual 209, 3) := by decide +kernel
theorem dX11_due_36 : decode cX11_due 36 = .ok (.goto 4, 3) := by decide +kernel
theorem dX11_due_39 : decode cX11_due 39 = .ok (.iconst (-1), 1) := by decide +kernel
theorem dX11_due_40 : decode cX11_due 40 = .ok (.ireturn, 1) := by decide +kernel
theorem dX11_easter_0 : decode cX11_easter 0 = .ok (.aload_n 0, 1) := by decide +kernel
theorem dX11_easter_1 : decode cX11_easter 1 = .ok (.getfield 16, 3) := by decide +kernel
theorem dX11_easter_4 : decode cX11_easter 4 = .ok (.iload_n 1, 1) := by decide +kernel
theorem dX11_easter_5 : decode cX11_easter 5 = .ok (.invokevirtual 280, 3) := by decide +kernel
theorem dX11_easter_8 : decode cX11_easter 8 = .ok (.ifCond .ne 5, 3) := by decide +kernel
theorem dX11_easter_11 : decode cX11_easter 11 = .ok (.iconst (-1), 1) := by decide +kernel
theorem dX11_easter_12 : decode cX11_easter 12 = .ok (.ireturn, 1) := by decide +kernel
theorem dX11_easter_13 : decode cX11_easter 13 = .ok (.aload_n 0, 1) := by decide +kernel
theorem dX11_easter_14 : decode cX11_easter 14 = .ok (.getfield 75, 3) := by decide +kernel
theorem dX11_easter_17 : decode cX11_easter 17 = .ok (.iload_n 1, 1) := by decide +kernel
theorem dX11_easter_18 : decode cX11_easter 18 = .ok (.invokevirtual 283, 3) := by decide +kernel
theorem dX11_easter_21 : decode cX11_easter 21 = .ok (.istore_n 2, 1) := by decide +kernel
theorem dX11_easter_22 : decode cX11_easter 22 = .ok (.iconst 0, 1) := by decide +kernel
theorem dX11_easter_23 : decode cX11_easter 23 = .ok (.istore_n 3, 1) := by decide +kernel
theorem dX11_easter_24 : decode cX11_easter 24 = .ok (.iload_n 3, 1) := by decide +kernel
theorem dX11_easter_25 : decode cX11_easter 25 = .ok (.aload_n 0, 1) := by decide +kernel
theorem dX11_easter_26 : decode cX11_easter 26 = .ok (.getfield 16, 3) := by decide +kernel
theorem dX11_easter_29 : decode cX11_easter 29 = .ok (.getfield 142, 3) := by decide +kernel
theorem dX11_easter_32 : decode cX11_easter 32 = .ok (.getfield 292, 3) := by decide +kernel
theorem dX11_easter_35 : decode cX11_easter 35 = .ok (.if_icmp .ge 27, 3) := by decide +kernel
theorem dX11_easter_38 : decode cX11_easter 38 = .ok (.aload_n 0, 1) := by decide +kernel
theorem dX11_easter_39 : decode cX11_easter 39 = .ok (.getfield 40, 3) := by decide +kernel
theorem dX11_easter_42 : decode cX11_easter 42 = .ok (.getfield 221, 3) := by decide +kernel
theorem dX11_easter_45 : decode cX11_easter 45 = .ok (.iload_n 3, 1) := by decide +kernel
theorem dX11_easter_46 : decode cX11_easter 46 = .ok (.aload_n 0, 1) := by decide +kernel
theorem dX11_easter_47 : decode cX11_easter 47 = .ok (.getfield 75, 3) := by decide +kernel
theorem dX11_easter_50 : decode cX11_easter 50 = .ok (.getfield 293, 3) := by decide +kernel
theorem dX11_easter_53 : decode cX11_easter 53 = .ok (.iload_n 3, 1) := by decide +kernel
theorem dX11_easter_54 : decode cX11_easter 54 = .ok (.iaload, 1) := by decide +kernel
theorem dX11_easter_55 : decode cX11_easter 55 = .ok (.iastore, 1) := by decide +kernel
theorem dX11_easter_56 : decode cX11_easter 56 = .ok (.iinc 3 1, 3) := by decide +kernel
theorem dX11_easter_59 : decode cX11_easter 59 = .ok (.goto (-35), 3) := by decide +kernel
theorem dX11_easter_62 : decode cX11_easter 62 = .ok (.aload_n 0, 1) := by decide +kernel
theorem dX11_easter_63 : decode cX11_easter 63 = .ok (.getfield 40, 3) := by decide +kernel
theorem dX11_easter_66 : decode cX11_easter 66 = .ok (.dup, 1) := by decide +kernel
theorem dX11_easter_67 : decode cX11_easter 67 = .ok (.getfield 239, 3) := by decide +kernel
theorem dX11_easter_70 : decode cX11_easter 70 = .ok (.iload_n 2, 1) := by decide +kernel
theorem dX11_easter_71 : decode cX11_easter 71 = .ok (.iadd, 1) := by decide +kernel
theorem dX11_easter_72 : decode cX11_easter 72 = .ok (.putfield 239, 3) := by decide +kernel
theorem dX11_easter_75 : decode cX11_easter 75 = .ok (.iload_n 2, 1) := by decide +kernel
theorem dX11_easter_76 : decode cX11_easter 76 = .ok (.ireturn, 1) := by decide +kernel
theorem dX11_entry_0 : decode cX11_entry 0 = .ok (.aload_n 0, 1) := by decide +kernel
theorem dX11_entry_1 : decode cX11_entry 1 = .ok (.iload_n 1, 1) := by decide +kernel
theorem dX11_entry_2 : decode cX11_entry 2 = .ok (.iload_n 2, 1) := by decide +kernel
theorem dX11_entry_3 : decode cX11_entry 3 = .ok (.iload_n 3, 1) := by decide +kernel
theorem dX11_entry_4 : decode cX11_entry 4 = .ok (.iload 4, 2) := by decide +kernel
theorem dX11_entry_6 : decode cX11_entry 6 = .ok (.invokevirtual 331, 3) := by decide +kernel
theorem dX11_entry_9 : decode cX11_entry 9 = .ok (.ifCond .eq 14, 3) := by decide +kernel
theorem dX11_entry_12 : decode cX11_entry 12 = .ok (.iload 5, 2) := by decide +kernel
theorem dX11_entry_14 : decode cX11_entry 14 = .ok (.ifCond .lt 9, 3) := by decide +kernel
theorem dX11_entry_17 : decode cX11_entry 17 = .ok (.iload 5, 2) := by decide +kernel
theorem dX11_entry_19 : decode cX11_entry 19 = .ok (.iload_n 3, 1) := by decide +kernel
theorem dX11_entry_20 : decode cX11_entry 20 = .ok (.if_icmp .lt 5, 3) := by decide +kernel
theorem dX11_entry_23 : decode cX11_entry 23 = .ok (.iconst (-1), 1) := by decide +kernel
theorem dX11_entry_24 : decode cX11_entry 24 = .ok (.ireturn, 1) := by decide +kernel
theorem dX11_entry_25 : decode cX11_entry 25 = .ok (.aload_n 0, 1) := by decide +kernel
theorem dX11_entry_26 : decode cX11_entry 26 = .ok (.getfield 82, 3) := by decide +kernel
theorem dX11_entry_29 : decode cX11_entry 29 = .ok (.iload_n 1, 1) := by decide +kernel
theorem dX11_entry_30 : decode cX11_entry 30 = .ok (.iload_n 2, 1) := by decide +kernel
theorem dX11_entry_31 : decode cX11_entry 31 = .ok (.invokestatic 202, 3) := by decide +kernel
theorem dX11_entry_34 : decode cX11_entry 34 = .ok (.iload_n 3, 1) := by decide +kernel
theorem dX11_entry_35 : decode cX11_entry 35 = .ok (.iload 4, 2) := by decide +kernel
theorem dX11_entry_37 : decode cX11_entry 37 = .ok (.invokevirtual 335, 3) := by decide +kernel
theorem dX11_entry_40 : decode cX11_entry 40 = .ok (.istore 6, 2) := by decide +kernel
theorem dX11_entry_42 : decode cX11_entry 42 = .ok (.iload 6, 2) := by decide +kernel
theorem dX11_entry_44 : decode cX11_entry 44 = .ok (.bipush (-2), 2) := by decide +kernel
theorem dX11_entry_46 : decode cX11_entry 46 = .ok (.if_icmp .ne 8, 3) := by decide +kernel
theorem dX11_entry_49 : decode cX11_entry 49 = .ok (.bipush (-2), 2) := by decide +kernel
theorem dX11_entry_51 : decode cX11_entry 51 = .ok (.goto 13, 3) := by decide +kernel
theorem dX11_entry_54 : decode cX11_entry 54 = .ok (.aload_n 0, 1) := by decide +kernel
theorem dX11_entry_55 : decode cX11_entry 55 = .ok (.getfield 82, 3) := by decide +kernel
theorem dX11_entry_58 : decode cX11_entry 58 = .ok (.getfield 338, 3) := by decide +kernel
theorem dX11_entry_61 : decode cX11_entry 61 = .ok (.iload 5, 2) := by decide +kernel
theorem dX11_entry_63 : decode cX11_entry 63 = .ok (.iaload, 1) := by decide +kernel
theorem dX11_entry_64 : decode cX11_entry 64 = .ok (.ireturn, 1) := by decide +kernel
theorem dX11_fault_0 : decode cX11_fault 0 = .ok (.iload_n 1, 1) := by decide +kernel
theorem dX11_fault_1 : decode cX11_fault 1 = .ok (.lookupswitch 37 #[(0, 27), (1, 32)], 27) := by decide +kernel
theorem dX11_fault_28 : decode cX11_fault 28 = .ok (.aload_n 0, 1) := by decide +kernel
theorem dX11_fault_29 : decode cX11_fault 29 = .ok (.getfield 90, 3) := by decide +kernel
theorem dX11_fault_32 : decode cX11_fault 32 = .ok (.ireturn, 1) := by decide +kernel
theorem dX11_fault_33 : decode cX11_fault 33 = .ok (.aload_n 0, 1) := by decide +kernel
theorem dX11_fault_34 : decode cX11_fault 34 = .ok (.getfield 93, 3) := by decide +kernel
theorem dX11_fault_37 : decode cX11_fault 37 = .ok (.ireturn, 1) := by decide +kernel
theorem dX11_fault_38 : decode cX11_fault 38 = .ok (.iconst (-1), 1) := by decide +kernel
theorem dX11_fault_39 : decode cX11_fault 39 = .ok (.ireturn, 1) := by decide +kernel
theorem dX11_feed_0 : decode cX11_feed 0 = .ok (.aload_n 0, 1) := by decide +kernel
theorem dX11_feed_1 : decode cX11_feed 1 = .ok (.getfield 86, 3) := by decide +kernel
theorem dX11_feed_4 : decode cX11_feed 4 = .ok (.bipush 20, 2) := by decide +kernel
theorem dX11_feed_6 : decode cX11_feed 6 = .ok (.iadd, 1) := by decide +kernel
theorem dX11_feed_7 : decode cX11_feed 7 = .ok (.sipush 800, 3) := by decide +kernel
theorem dX11_feed_10 : decode cX11_feed 10 = .ok (.if_icmp .le 5, 3) := by decide +kernel
theorem dX11_feed_13 : decode cX11_feed 13 = .ok (.iconst (-1), 1) := by decide +kernel
theorem dX11_feed_14 : decode cX11_feed 14 = .ok (.ireturn, 1) := by decide +kernel
theorem dX11_feed_15 : decode cX11_feed 15 = .ok (.aload_n 0, 1) := by decide +kernel
theorem dX11_feed_16 : decode cX11_feed 16 = .ok (.iload_n 1, 1) := by decide +kernel
theorem dX11_feed_17 : decode cX11_feed 17 = .ok (.invokevirtual 104, 3) := by decide +kernel
theorem dX11_feed_20 : decode cX11_feed 20 = .ok (.aload_n 0, 1) := by decide +kernel
theorem dX11_feed_21 : decode cX11_feed 21 = .ok (.iload_n 2, 1) := by decide +kernel
theorem dX11_feed_22 : decode cX11_feed 22 = .ok (.invokevirtual 104, 3) := by decide +kernel
theorem dX11_feed_25 : decode cX11_feed 25 = .ok (.aload_n 0, 1) := by decide +kernel
theorem dX11_feed_26 : decode cX11_feed 26 = .ok (.iload_n 3, 1) := by decide +kernel
theorem dX11_feed_27 : decode cX11_feed 27 = .ok (.invokevirtual 104, 3) := by decide +kernel
theorem dX11_feed_30 : decode cX11_feed 30 = .ok (.aload_n 0, 1) := by decide +kernel
theorem dX11_feed_31 : decode cX11_feed 31 = .ok (.iload 4, 2) := by decide +kernel
theorem dX11_feed_33 : decode cX11_feed 33 = .ok (.invokevirtual 104, 3) := by decide +kernel
theorem dX11_feed_36 : decode cX11_feed 36 = .ok (.aload_n 0, 1) := by decide +kernel
theorem dX11_feed_37 : decode cX11_feed 37 = .ok (.iload 5, 2) := by decide +kernel
theorem dX11_feed_39 : decode cX11_feed 39 = .ok (.invokevirtual 104, 3) := by decide +kernel
theorem dX11_feed_42 : decode cX11_feed 42 = .ok (.aload_n 0, 1) := by decide +kernel
theorem dX11_feed_43 : decode cX11_feed 43 = .ok (.getfield 86, 3) := by decide +kernel
theorem dX11_feed_46 : decode cX11_feed 46 = .ok (.ireturn, 1) := by decide +kernel
theorem dX11_gang_0 : decode cX11_gang 0 = .ok (.aload_n 0, 1) := by decide +kernel
theorem dX11_gang_1 : decode cX11_gang 1 = .ok (.getfield 50, 3) := by decide +kernel
theorem dX11_gang_4 : decode cX11_gang 4 = .ok (.aload_n 0, 1) := by decide +kernel
theorem dX11_gang_5 : decode cX11_gang 5 = .ok (.invokevirtual 302, 3) := by decide +kernel
theorem dX11_gang_8 : decode cX11_gang 8 = .ok (.invokevirtual 306, 3) := by decide +kernel
theorem dX11_gang_11 : decode cX11_gang 11 = .ok (.lstore_n 1, 1) := by decide +kernel
theorem dX11_gang_12 : decode cX11_gang 12 = .ok (.bipush (-2), 2) := by decide +kernel
theorem dX11_gang_14 : decode cX11_gang 14 = .ok (.istore_n 3, 1) := by decide +kernel
theorem dX11_gang_15 : decode cX11_gang 15 = .ok (.bipush 7, 2) := by decide +kernel
theorem dX11_gang_17 : decode cX11_gang 17 = .ok (.istore 4, 2) := by decide +kernel
theorem dX11_gang_19 : decode cX11_gang 19 = .ok (.iconst 0, 1) := by decide +kernel
theorem dX11_gang_20 : decode cX11_gang 20 = .ok (.istore 5, 2) := by decide +kernel
theorem dX11_gang_22 : decode cX11_gang 22 = .ok (.iload 5, 2) := by decide +kernel
theorem dX11_gang_24 : decode cX11_gang 24 = .ok (.iconst 1, 1) := by decide +kernel
theorem dX11_gang_25 : decode cX11_gang 25 = .ok (.aload_n 0, 1) := by decide +kernel
theorem dX11_gang_26 : decode cX11_gang 26 = .ok (.getfield 16, 3) := by decide +kernel
theorem dX11_gang_29 : decode cX11_gang 29 = .ok (.getfield 136, 3) := by decide +kernel
theorem dX11_gang_32 : decode cX11_gang 32 = .ok (.getfield 292, 3) := by decide +kernel
theorem dX11_gang_35 : decode cX11_gang 35 = .ok (.ishl, 1) := by decide +kernel
theorem dX11_gang_36 : decode cX11_gang 36 = .ok (.if_icmp .ge 60, 3) := by decide +kernel
theorem dX11_gang_39 : decode cX11_gang 39 = .ok (.iload 5, 2) := by decide +kernel
theorem dX11_gang_41 : decode cX11_gang 41 = .ok (.invokestatic 216, 3) := by decide +kernel
theorem dX11_gang_44 : decode cX11_gang 44 = .ok (.istore 6, 2) := by decide +kernel
theorem dX11_gang_46 : decode cX11_gang 46 = .ok (.iload 6, 2) := by decide +kernel
theorem dX11_gang_48 : decode cX11_gang 48 = .ok (.iload 4, 2) := by decide +kernel
theorem dX11_gang_50 : decode cX11_gang 50 = .ok (.if_icmp .ge 40, 3) := by decide +kernel
theorem dX11_gang_53 : decode cX11_gang 53 = .ok (.iload 5, 2) := by decide +kernel
theorem dX11_gang_55 : decode cX11_gang 55 = .ok (.aload_n 0, 1) := by decide +kernel
theorem dX11_gang_56 : decode cX11_gang 56 = .ok (.getfield 40, 3) := by decide +kernel
theorem dX11_gang_59 : decode cX11_gang 59 = .ok (.getfield 325, 3) := by decide +kernel
theorem dX11_gang_62 : decode cX11_gang 62 = .ok (.iand, 1) := by decide +kernel
theorem dX11_gang_63 : decode cX11_gang 63 = .ok (.ifCond .ne 27, 3) := by decide +kernel
theorem dX11_gang_66 : decode cX11_gang 66 = .ok (.lload_n 1, 1) := by decide +kernel
theorem dX11_gang_67 : decode cX11_gang 67 = .ok (.aload_n 0, 1) := by decide +kernel
theorem dX11_gang_68 : decode cX11_gang 68 = .ok (.iload 5, 2) := by decide +kernel
theorem dX11_gang_70 : decode cX11_gang 70 = .ok (.invokevirtual 328, 3) := by decide +kernel
theorem dX11_gang_73 : decode cX11_gang 73 = .ok (.ldc2_w 313, 3) := by decide +kernel
theorem dX11_gang_76 : decode cX11_gang 76 = .ok (.lxor, 1) := by decide +kernel
theorem dX11_gang_77 : decode cX11_gang 77 = .ok (.land, 1) := by decide +kernel
theorem dX11_gang_78 : decode cX11_gang 78 = .ok (.lconst 0, 1) := by decide +kernel
theorem dX11_gang_79 : decode cX11_gang 79 = .ok (.lcmp, 1) := by decide +kernel
theorem dX11_gang_80 : decode cX11_gang 80 = .ok (.ifCond .ne 10, 3) := by decide +kernel
theorem dX11_gang_83 : decode cX11_gang 83 = .ok (.iload 6, 2) := by decide +kernel
theorem dX11_gang_85 : decode cX11_gang 85 = .ok (.istore 4, 2) := by decide +kernel
theorem dX11_gang_87 : decode cX11_gang 87 = .ok (.iload 5, 2) := by decide +kernel
theorem dX11_gang_89 : decode cX11_gang 89 = .ok (.istore_n 3, 1) := by decide +kernel
theorem dX11_gang_90 : decode cX11_gang 90 = .ok (.iinc 5 1, 3) := by decide +kernel
theorem dX11_gang_93 : decode cX11_gang 93 = .ok (.goto (-71), 3) := by decide +kernel
theorem dX11_gang_96 : decode cX11_gang 96 = .ok (.iload_n 3, 1) := by decide +kernel
theorem dX11_gang_97 : decode cX11_gang 97 = .ok (.ireturn, 1) := by decide +kernel
theorem dX11_hum_0 : decode cX11_hum 0 = .ok (.iload_n 1, 1) := by decide +kernel
theorem dX11_hum_1 : decode cX11_hum 1 = .ok (.iconst 1, 1) := by decide +kernel
theorem dX11_hum_2 : decode cX11_hum 2 = .ok (.if_icmp .lt 20, 3) := by decide +kernel
theorem dX11_hum_5 : decode cX11_hum 5 = .ok (.iload_n 1, 1) := by decide +kernel
theorem dX11_hum_6 : decode cX11_hum 6 = .ok (.bipush 40, 2) := by decide +kernel
theorem dX11_hum_8 : decode cX11_hum 8 = .ok (.if_icmp .gt 14, 3) := by decide +kernel
theorem dX11_hum_11 : decode cX11_hum 11 = .ok (.aload_n 0, 1) := by decide +kernel
theorem dX11_hum_12 : decode cX11_hum 12 = .ok (.getfield 50, 3) := by decide +kernel
theorem dX11_hum_15 : decode cX11_hum 15 = .ok (.iload_n 1, 1) := by decide +kernel
theorem dX11_hum_16 : decode cX11_hum 16 = .ok (.invokevirtual 296, 3) := by decide +kernel
theorem dX11_hum_19 : decode cX11_hum 19 = .ok (.goto 4, 3) := by decide +kernel
theorem dX11_hum_22 : decode cX11_hum 22 = .ok (.iconst (-1), 1) := by decide +kernel
theorem dX11_hum_23 : decode cX11_hum 23 = .ok (.ireturn, 1) := by decide +kernel
theorem dX11_isRound_0 : decode cX11_isRound 0 = .ok (.aload_n 0, 1) := by decide +kernel
theorem dX11_isRound_1 : decode cX11_isRound 1 = .ok (.getfield 16, 3) := by decide +kernel
theorem dX11_isRound_4 : decode cX11_isRound 4 = .ok (.iload_n 1, 1) := by decide +kernel
theorem dX11_isRound_5 : decode cX11_isRound 5 = .ok (.iload_n 2, 1) := by decide +kernel
theorem dX11_isRound_6 : decode cX11_isRound 6 = .ok (.invokevirtual 195, 3) := by decide +kernel
theorem dX11_isRound_9 : decode cX11_isRound 9 = .ok (.ifCond .eq 30, 3) := by decide +kernel
theorem dX11_isRound_12 : decode cX11_isRound 12 = .ok (.iload_n 3, 1) := by decide +kernel
theorem dX11_isRound_13 : decode cX11_isRound 13 = .ok (.iconst 1, 1) := by decide +kernel
theorem dX11_isRound_14 : decode cX11_isRound 14 = .ok (.if_icmp .lt 25, 3) := by decide +kernel
theorem dX11_isRound_17 : decode cX11_isRound 17 = .ok (.iload_n 3, 1) := by decide +kernel
theorem dX11_isRound_18 : decode cX11_isRound 18 = .ok (.iconst 4, 1) := by decide +kernel
theorem dX11_isRound_19 : decode cX11_isRound 19 = .ok (.if_icmp .gt 20, 3) := by decide +kernel
theorem dX11_isRound_22 : decode cX11_isRound 22 = .ok (.iload 4, 2) := by decide +kernel
theorem dX11_isRound_24 : decode cX11_isRound 24 = .ok (.iconst 1, 1) := by decide +kernel
theorem dX11_isRound_25 : decode cX11_isRound 25 = .ok (.if_icmp .lt 14, 3) := by decide +kernel
theorem dX11_isRound_28 : decode cX11_isRound 28 = .ok (.iload 4, 2) := by decide +kernel
theorem dX11_isRound_30 : decode cX11_isRound 30 = .ok (.bipush 8, 2) := by decide +kernel
theorem dX11_isRound_32 : decode cX11_isRound 32 = .ok (.if_icmp .gt 7, 3) := by decide +kernel
theorem dX11_isRound_35 : decode cX11_isRound 35 = .ok (.iconst 1, 1) := by decide +kernel
theorem dX11_isRound_36 : decode cX11_isRound 36 = .ok (.goto 4, 3) := by decide +kernel
theorem dX11_isRound_39 : decode cX11_isRound 39 = .ok (.iconst 0, 1) := by decide +kernel
theorem dX11_isRound_40 : decode cX11_isRound 40 = .ok (.ireturn, 1) := by decide +kernel
theorem dX11_keep_0 : decode cX11_keep 0 = .ok (.aload_n 0, 1) := by decide +kernel
theorem dX11_keep_1 : decode cX11_keep 1 = .ok (.getfield 44, 3) := by decide +kernel
theorem dX11_keep_4 : decode cX11_keep 4 = .ok (.aload_n 0, 1) := by decide +kernel
theorem dX11_keep_5 : decode cX11_keep 5 = .ok (.getfield 40, 3) := by decide +kernel
theorem dX11_keep_8 : decode cX11_keep 8 = .ok (.invokevirtual 354, 3) := by decide +kernel
theorem dX11_keep_11 : decode cX11_keep 11 = .ok (.aload_n 0, 1) := by decide +kernel
theorem dX11_keep_12 : decode cX11_keep 12 = .ok (.iconst 1, 1) := by decide +kernel
theorem dX11_keep_13 : decode cX11_keep 13 = .ok (.putfield 96, 3) := by decide +kernel
theorem dX11_keep_16 : decode cX11_keep 16 = .ok (.aload_n 0, 1) := by decide +kernel
theorem dX11_keep_17 : decode cX11_keep 17 = .ok (.getfield 40, 3) := by decide +kernel
theorem dX11_keep_20 : decode cX11_keep 20 = .ok (.getfield 227, 3) := by decide +kernel
theorem dX11_keep_23 : decode cX11_keep 23 = .ok (.ireturn, 1) := by decide +kernel
theorem dX11_known_0 : decode cX11_known 0 = .ok (.iload_n 1, 1) := by decide +kernel
theorem dX11_known_1 : decode cX11_known 1 = .ok (.iconst (-1), 1) := by decide +kernel
theorem dX11_known_2 : decode cX11_known 2 = .ok (.if_icmp .lt 14, 3) := by decide +kernel
theorem dX11_known_5 : decode cX11_known 5 = .ok (.iload_n 1, 1) := by decide +kernel
theorem dX11_known_6 : decode cX11_known 6 = .ok (.aload_n 0, 1) := by decide +kernel
theorem dX11_known_7 : decode cX11_known 7 = .ok (.getfield 50, 3) := by decide +kernel
theorem dX11_known_10 : decode cX11_known 10 = .ok (.getfield 121, 3) := by decide +kernel
theorem dX11_known_13 : decode cX11_known 13 = .ok (.if_icmp .le 5, 3) := by decide +kernel
theorem dX11_known_16 : decode cX11_known 16 = .ok (.iconst 0, 1) := by decide +kernel
theorem dX11_known_17 : decode cX11_known 17 = .ok (.ireturn, 1) := by decide +kernel
theorem dX11_known_18 : decode cX11_known 18 = .ok (.aload_n 0, 1) := by decide +kernel
theorem dX11_known_19 : decode cX11_known 19 = .ok (.getfield 40, 3) := by decide +kernel
theorem dX11_known_22 : decode cX11_known 22 = .ok (.iload_n 1, 1) := by decide +kernel
theorem dX11_known_23 : decode cX11_known 23 = .ok (.putfield 299, 3) := by decide +kernel
theorem dX11_known_26 : decode cX11_known 26 = .ok (.iconst 1, 1) := by decide +kernel
theorem dX11_known_27 : decode cX11_known 27 = .ok (.ireturn, 1) := by decide +kernel
theorem dX11_knownCount_0 : decode cX11_knownCount 0 = .ok (.aload_n 0, 1) := by decide +kernel
theorem dX11_knownCount_1 : decode cX11_knownCount 1 = .ok (.getfield 40, 3) := by decide +kernel
theorem dX11_knownCount_4 : decode cX11_knownCount 4 = .ok (.getfield 299, 3) := by decide +kernel
theorem dX11_knownCount_7 : decode cX11_knownCount 7 = .ok (.iconst (-1), 1) := by decide +kernel
theorem dX11_knownCount_8 : decode cX11_knownCount 8 = .ok (.if_icmp .ne 13, 3) := by decide +kernel
theorem dX11_knownCount_11 : decode cX11_knownCount 11 = .ok (.aload_n 0, 1) := by decide +kernel
theorem dX11_knownCount_12 : decode cX11_knownCount 12 = .ok (.getfield 50, 3) := by decide +kernel
theorem dX11_knownCount_15 : decode cX11_knownCount 15 = .ok (.getfield 121, 3) := by decide +kernel
theorem dX11_knownCount_18 : decode cX11_knownCount 18 = .ok (.goto 10, 3) := by decide +kernel
theorem dX11_knownCount_21 : decode cX11_knownCount 21 = .ok (.aload_n 0, 1) := by decide +kernel
theorem dX11_knownCount_22 : decode cX11_knownCount 22 = .ok (.getfield 40, 3) := by decide +kernel
theorem dX11_knownCount_25 : decode cX11_knownCount 25 = .ok (.getfield 299, 3) := by decide +kernel
theorem dX11_knownCount_28 : decode cX11_knownCount 28 = .ok (.ireturn, 1) := by decide +kernel
theorem dX11_leastTerm_0 : decode cX11_leastTerm 0 = .ok (.lload_n 2, 1) := by decide +kernel
theorem dX11_leastTerm_1 : decode cX11_leastTerm 1 = .ok (.lstore 5, 2) := by decide +kernel
theorem dX11_leastTerm_3 : decode cX11_leastTerm 3 = .ok (.lload_n 0, 1) := by decide +kernel
theorem dX11_leastTerm_4 : decode cX11_leastTerm 4 = .ok (.lstore 7, 2) := by decide +kernel
theorem dX11_leastTerm_6 : decode cX11_leastTerm 6 = .ok (.iconst 0, 1) := by decide +kernel
theorem dX11_leastTerm_7 : decode cX11_leastTerm 7 = .ok (.istore 9, 2) := by decide +kernel
theorem dX11_leastTerm_9 : decode cX11_leastTerm 9 = .ok (.iload 9, 2) := by decide +kernel
theorem dX11_leastTerm_11 : decode cX11_leastTerm 11 = .ok (.sipush 1000, 3) := by decide +kernel
theorem dX11_leastTerm_14 : decode cX11_leastTerm 14 = .ok (.if_icmp .ge 31, 3) := by decide +kernel
theorem dX11_leastTerm_17 : decode cX11_leastTerm 17 = .ok (.lload 7, 2) := by decide +kernel
theorem dX11_leastTerm_19 : decode cX11_leastTerm 19 = .ok (.lconst 0, 1) := by decide +kernel
theorem dX11_leastTerm_20 : decode cX11_leastTerm 20 = .ok (.lcmp, 1) := by decide +kernel
theorem dX11_leastTerm_21 : decode cX11_leastTerm 21 = .ok (.ifCond .eq 24, 3) := by decide +kernel
theorem dX11_leastTerm_24 : decode cX11_leastTerm 24 = .ok (.lload 5, 2) := by decide +kernel
theorem dX11_leastTerm_26 : decode cX11_leastTerm 26 = .ok (.lload 7, 2) := by decide +kernel
theorem dX11_leastTerm_28 : decode cX11_leastTerm 28 = .ok (.lrem, 1) := by decide +kernel
theorem dX11_leastTerm_29 : decode cX11_leastTerm 29 = .ok (.lstore 10, 2) := by decide +kernel
theorem dX11_leastTerm_31 : decode cX11_leastTerm 31 = .ok (.lload 7, 2) := by decide +kernel
theorem dX11_leastTerm_33 : decode cX11_leastTerm 33 = .ok (.lstore 5, 2) := by decide +kernel
theorem dX11_leastTerm_35 : decode cX11_leastTerm 35 = .ok (.lload 10, 2) := by decide +kernel
theorem dX11_leastTerm_37 : decode cX11_leastTerm 37 = .ok (.lstore 7, 2) := by decide +kernel
theorem dX11_leastTerm_39 : decode cX11_leastTerm 39 = .ok (.iinc 9 1, 3) := by decide +kernel
theorem dX11_leastTerm_42 : decode cX11_leastTerm 42 = .ok (.goto (-33), 3) := by decide +kernel
theorem dX11_leastTerm_45 : decode cX11_leastTerm 45 = .ok (.iload 4, 2) := by decide +kernel
theorem dX11_leastTerm_47 : decode cX11_leastTerm 47 = .ok (.ifCond .ne 7, 3) := by decide +kernel
theorem dX11_leastTerm_50 : decode cX11_leastTerm 50 = .ok (.lload_n 0, 1) := by decide +kernel
theorem dX11_leastTerm_51 : decode cX11_leastTerm 51 = .ok (.goto 4, 3) := by decide +kernel
theorem dX11_leastTerm_54 : decode cX11_leastTerm 54 = .ok (.lload_n 2, 1) := by decide +kernel
theorem dX11_leastTerm_55 : decode cX11_leastTerm 55 = .ok (.lstore 9, 2) := by decide +kernel
theorem dX11_leastTerm_57 : decode cX11_leastTerm 57 = .ok (.lload 5, 2) := by decide +kernel
theorem dX11_leastTerm_59 : decode cX11_leastTerm 59 = .ok (.lconst 0, 1) := by decide +kernel
theorem dX11_leastTerm_60 : decode cX11_leastTerm 60 = .ok (.lcmp, 1) := by decide +kernel
theorem dX11_leastTerm_61 : decode cX11_leastTerm 61 = .ok (.ifCond .ne 8, 3) := by decide +kernel
theorem dX11_leastTerm_64 : decode cX11_leastTerm 64 = .ok (.lload 9, 2) := by decide +kernel
theorem dX11_leastTerm_66 : decode cX11_leastTerm 66 = .ok (.goto 8, 3) := by decide +kernel
theorem dX11_leastTerm_69 : decode cX11_leastTerm 69 = .ok (.lload 9, 2) := by decide +kernel
theorem dX11_leastTerm_71 : decode cX11_leastTerm 71 = .ok (.lload 5, 2) := by decide +kernel
theorem dX11_leastTerm_73 : decode cX11_leastTerm 73 = .ok (.ldiv, 1) := by decide +kernel
theorem dX11_leastTerm_74 : decode cX11_leastTerm 74 = .ok (.lreturn, 1) := by decide +kernel
theorem dX11_named_0 : decode cX11_named 0 = .ok (.iload_n 1, 1) := by decide +kernel
theorem dX11_named_1 : decode cX11_named 1 = .ok (.tableswitch 79 0 3 #[31, 43, 55, 67], 31) := by decide +kernel
theorem dX11_named_32 : decode cX11_named 32 = .ok (.aload_n 0, 1) := by decide +kernel
theorem dX11_named_33 : decode cX11_named 33 = .ok (.getfield 16, 3) := by decide +kernel
theorem dX11_named_36 : decode cX11_named 36 = .ok (.getfield 127, 3) := by decide +kernel
theorem dX11_named_39 : decode cX11_named 39 = .ok (.iload_n 2, 1) := by decide +kernel
theorem dX11_named_40 : decode cX11_named 40 = .ok (.invokevirtual 131, 3) := by decide +kernel
theorem dX11_named_43 : decode cX11_named 43 = .ok (.ireturn, 1) := by decide +kernel
theorem dX11_named_44 : decode cX11_named 44 = .ok (.aload_n 0, 1) := by decide +kernel
theorem dX11_named_45 : decode cX11_named 45 = .ok (.getfield 16, 3) := by decide +kernel
theorem dX11_named_48 : decode cX11_named 48 = .ok (.getfield 136, 3) := by decide +kernel
theorem dX11_named_51 : decode cX11_named 51 = .ok (.iload_n 2, 1) := by decide +kernel
theorem dX11_named_52 : decode cX11_named 52 = .ok (.invokevirtual 131, 3) := by decide +kernel
theorem dX11_named_55 : decode cX11_named 55 = .ok (.ireturn, 1) := by decide +kernel
theorem dX11_named_56 : decode cX11_named 56 = .ok (.aload_n 0, 1) := by decide +kernel
theorem dX11_named_57 : decode cX11_named 57 = .ok (.getfield 16, 3) := by decide +kernel
theorem dX11_named_60 : decode cX11_named 60 = .ok (.getfield 139, 3) := by decide +kernel
theorem dX11_named_63 : decode cX11_named 63 = .ok (.iload_n 2, 1) := by decide +kernel
theorem dX11_named_64 : decode cX11_named 64 = .ok (.invokevirtual 131, 3) := by decide +kernel
theorem dX11_named_67 : decode cX11_named 67 = .ok (.ireturn, 1) := by decide +kernel
theorem dX11_named_68 : decode cX11_named 68 = .ok (.aload_n 0, 1) := by decide +kernel
theorem dX11_named_69 : decode cX11_named 69 = .ok (.getfield 16, 3) := by decide +kernel
theorem dX11_named_72 : decode cX11_named 72 = .ok (.getfield 142, 3) := by decide +kernel
theorem dX11_named_75 : decode cX11_named 75 = .ok (.iload_n 2, 1) := by decide +kernel
theorem dX11_named_76 : decode cX11_named 76 = .ok (.invokevirtual 131, 3) := by decide +kernel
theorem dX11_named_79 : decode cX11_named 79 = .ok (.ireturn, 1) := by decide +kernel
theorem dX11_named_80 : decode cX11_named 80 = .ok (.iconst (-1), 1) := by decide +kernel
theorem dX11_named_81 : decode cX11_named 81 = .ok (.ireturn, 1) := by decide +kernel
theorem dX11_odds_0 : decode cX11_odds 0 = .ok (.aload_n 0, 1) := by decide +kernel
theorem dX11_odds_1 : decode cX11_odds 1 = .ok (.getfield 16, 3) := by decide +kernel
theorem dX11_odds_4 : decode cX11_odds 4 = .ok (.getfield 136, 3) := by decide +kernel
theorem dX11_odds_7 : decode cX11_odds 7 = .ok (.iload_n 1, 1) := by decide +kernel
theorem dX11_odds_8 : decode cX11_odds 8 = .ok (.invokevirtual 145, 3) := by decide +kernel
theorem dX11_odds_11 : decode cX11_odds 11 = .ok (.ifCond .eq 12, 3) := by decide +kernel
theorem dX11_odds_14 : decode cX11_odds 14 = .ok (.iload_n 2, 1) := by decide +kernel
theorem dX11_odds_15 : decode cX11_odds 15 = .ok (.ifCond .lt 8, 3) := by decide +kernel
theorem dX11_odds_18 : decode cX11_odds 18 = .ok (.iload_n 2, 1) := by decide +kernel
theorem dX11_odds_19 : decode cX11_odds 19 = .ok (.iconst 1, 1) := by decide +kernel
theorem dX11_odds_20 : decode cX11_odds 20 = .ok (.if_icmp .le 5, 3) := by decide +kernel
theorem dX11_odds_23 : decode cX11_odds 23 = .ok (.iconst (-1), 1) := by decide +kernel
theorem dX11_odds_24 : decode cX11_odds 24 = .ok (.ireturn, 1) := by decide +kernel
theorem dX11_odds_25 : decode cX11_odds 25 = .ok (.aload_n 0, 1) := by decide +kernel
theorem dX11_odds_26 : decode cX11_odds 26 = .ok (.invokevirtual 315, 3) := by decide +kernel
theorem dX11_odds_29 : decode cX11_odds 29 = .ok (.istore_n 3, 1) := by decide +kernel
theorem dX11_odds_30 : decode cX11_odds 30 = .ok (.iload_n 3, 1) := by decide +kernel
theorem dX11_odds_31 : decode cX11_odds 31 = .ok (.iload_n 1, 1) := by decide +kernel
theorem dX11_odds_32 : decode cX11_odds 32 = .ok (.ishr, 1) := by decide +kernel
theorem dX11_odds_33 : decode cX11_odds 33 = .ok (.iconst 1, 1) := by decide +kernel
theorem dX11_odds_34 : decode cX11_odds 34 = .ok (.iand, 1) := by decide +kernel
theorem dX11_odds_35 : decode cX11_odds 35 = .ok (.ifCond .ne 5, 3) := by decide +kernel
theorem dX11_odds_38 : decode cX11_odds 38 = .ok (.iload_n 2, 1) := by decide +kernel
theorem dX11_odds_39 : decode cX11_odds 39 = .ok (.ireturn, 1) := by decide +kernel
theorem dX11_odds_40 : decode cX11_odds 40 = .ok (.iconst 0, 1) := by decide +kernel
theorem dX11_odds_41 : decode cX11_odds 41 = .ok (.istore 4, 2) := by decide +kernel
theorem dX11_odds_43 : decode cX11_odds 43 = .ok (.iconst 0, 1) := by decide +kernel
theorem dX11_odds_44 : decode cX11_odds 44 = .ok (.istore 5, 2) := by decide +kernel
theorem dX11_odds_46 : decode cX11_odds 46 = .ok (.iload 5, 2) := by decide +kernel
theorem dX11_odds_48 : decode cX11_odds 48 = .ok (.aload_n 0, 1) := by decide +kernel
theorem dX11_odds_49 : decode cX11_odds 49 = .ok (.getfield 16, 3) := by decide +kernel
theorem dX11_odds_52 : decode cX11_odds 52 = .ok (.getfield 136, 3) := by decide +kernel
theorem dX11_odds_55 : decode cX11_odds 55 = .ok (.getfield 292, 3) := by decide +kernel
theorem dX11_odds_58 : decode cX11_odds 58 = .ok (.if_icmp .ge 33, 3) := by decide +kernel
theorem dX11_odds_61 : decode cX11_odds 61 = .ok (.iload_n 3, 1) := by decide +kernel
theorem dX11_odds_62 : decode cX11_odds 62 = .ok (.iload 5, 2) := by decide +kernel
theorem dX11_odds_64 : decode cX11_odds 64 = .ok (.ishr, 1) := by decide +kernel
theorem dX11_odds_65 : decode cX11_odds 65 = .ok (.iconst 1, 1) := by decide +kernel
theorem dX11_odds_66 : decode cX11_odds 66 = .ok (.iand, 1) := by decide +kernel
theorem dX11_odds_67 : decode cX11_odds 67 = .ok (.ifCond .eq 18, 3) := by decide +kernel
theorem dX11_odds_70 : decode cX11_odds 70 = .ok (.iload 4, 2) := by decide +kernel
theorem dX11_odds_72 : decode cX11_odds 72 = .ok (.aload_n 0, 1) := by decide +kernel
theorem dX11_odds_73 : decode cX11_odds 73 = .ok (.getfield 16, 3) := by decide +kernel
theorem dX11_odds_76 : decode cX11_odds 76 = .ok (.getfield 318, 3) := by decide +kernel
theorem dX11_odds_79 : decode cX11_odds 79 = .ok (.iload 5, 2) := by decide +kernel
theorem dX11_odds_81 : decode cX11_odds 81 = .ok (.iaload, 1) := by decide +kernel
theorem dX11_odds_82 : decode cX11_odds 82 = .ok (.iadd, 1) := by decide +kernel
theorem dX11_odds_83 : decode cX11_odds 83 = .ok (.istore 4, 2) := by decide +kernel
theorem dX11_odds_85 : decode cX11_odds 85 = .ok (.iinc 5 1, 3) := by decide +kernel
theorem dX11_odds_88 : decode cX11_odds 88 = .ok (.goto (-42), 3) := by decide +kernel
theorem dX11_odds_91 : decode cX11_odds 91 = .ok (.aload_n 0, 1) := by decide +kernel
theorem dX11_odds_92 : decode cX11_odds 92 = .ok (.getfield 16, 3) := by decide +kernel
theorem dX11_odds_95 : decode cX11_odds 95 = .ok (.getfield 318, 3) := by decide +kernel
theorem dX11_odds_98 : decode cX11_odds 98 = .ok (.iload_n 1, 1) := by decide +kernel
theorem dX11_odds_99 : decode cX11_odds 99 = .ok (.iaload, 1) := by decide +kernel
theorem dX11_odds_100 : decode cX11_odds 100 = .ok (.i2l, 1) := by decide +kernel
theorem dX11_odds_101 : decode cX11_odds 101 = .ok (.iload 4, 2) := by decide +kernel
theorem dX11_odds_103 : decode cX11_odds 103 = .ok (.i2l, 1) := by decide +kernel
theorem dX11_odds_104 : decode cX11_odds 104 = .ok (.iload_n 2, 1) := by decide +kernel
theorem dX11_odds_105 : decode cX11_odds 105 = .ok (.invokestatic 321, 3) := by decide +kernel
theorem dX11_odds_108 : decode cX11_odds 108 = .ok (.l2i, 1) := by decide +kernel
theorem dX11_odds_109 : decode cX11_odds 109 = .ok (.ireturn, 1) := by decide +kernel
theorem dX11_pay_0 : decode cX11_pay 0 = .ok (.aload_n 0, 1) := by decide +kernel
theorem dX11_pay_1 : decode cX11_pay 1 = .ok (.getfield 16, 3) := by decide +kernel
theorem dX11_pay_4 : decode cX11_pay 4 = .ok (.getfield 127, 3) := by decide +kernel
theorem dX11_pay_7 : decode cX11_pay 7 = .ok (.iload_n 1, 1) := by decide +kernel
theorem dX11_pay_8 : decode cX11_pay 8 = .ok (.invokevirtual 145, 3) := by decide +kernel
theorem dX11_pay_11 : decode cX11_pay 11 = .ok (.ifCond .ne 5, 3) := by decide +kernel
theorem dX11_pay_14 : decode cX11_pay 14 = .ok (.iconst (-1), 1) := by decide +kernel
theorem dX11_pay_15 : decode cX11_pay 15 = .ok (.ireturn, 1) := by decide +kernel
theorem dX11_pay_16 : decode cX11_pay 16 = .ok (.iconst 0, 1) := by decide +kernel
theorem dX11_pay_17 : decode cX11_pay 17 = .ok (.istore_n 2, 1) := by decide +kernel
theorem dX11_pay_18 : decode cX11_pay 18 = .ok (.iconst 0, 1) := by decide +kernel
theorem dX11_pay_19 : decode cX11_pay 19 = .ok (.istore_n 3, 1) := by decide +kernel
theorem dX11_pay_20 : decode cX11_pay 20 = .ok (.iload_n 3, 1) := by decide +kernel
theorem dX11_pay_21 : decode cX11_pay 21 = .ok (.aload_n 0, 1) := by decide +kernel
theorem dX11_pay_22 : decode cX11_pay 22 = .ok (.getfield 16, 3) := by decide +kernel
theorem dX11_pay_25 : decode cX11_pay 25 = .ok (.getfield 136, 3) := by decide +kernel
theorem dX11_pay_28 : decode cX11_pay 28 = .ok (.getfield 292, 3) := by decide +kernel
theorem dX11_pay_31 : decode cX11_pay 31 = .ok (.if_icmp .ge 78, 3) := by decide +kernel
theorem dX11_pay_34 : decode cX11_pay 34 = .ok (.aload_n 0, 1) := by decide +kernel
theorem dX11_pay_35 : decode cX11_pay 35 = .ok (.getfield 16, 3) := by decide +kernel
theorem dX11_pay_38 : decode cX11_pay 38 = .ok (.getfield 163, 3) := by decide +kernel
theorem dX11_pay_41 : decode cX11_pay 41 = .ok (.iload_n 3, 1) := by decide +kernel
theorem dX11_pay_42 : decode cX11_pay 42 = .ok (.iaload, 1) := by decide +kernel
theorem dX11_pay_43 : decode cX11_pay 43 = .ok (.iload_n 1, 1) := by decide +kernel
theorem dX11_pay_44 : decode cX11_pay 44 = .ok (.if_icmp .ne 59, 3) := by decide +kernel
theorem dX11_pay_47 : decode cX11_pay 47 = .ok (.aload_n 0, 1) := by decide +kernel
theorem dX11_pay_48 : decode cX11_pay 48 = .ok (.getfield 40, 3) := by decide +kernel
theorem dX11_pay_51 : decode cX11_pay 51 = .ok (.getfield 169, 3) := by decide +kernel
theorem dX11_pay_54 : decode cX11_pay 54 = .ok (.iload_n 3, 1) := by decide +kernel
theorem dX11_pay_55 : decode cX11_pay 55 = .ok (.iaload, 1) := by decide +kernel
theorem dX11_pay_56 : decode cX11_pay 56 = .ok (.aload_n 0, 1) := by decide +kernel
theorem dX11_pay_57 : decode cX11_pay 57 = .ok (.getfield 40, 3) := by decide +kernel
theorem dX11_pay_60 : decode cX11_pay 60 = .ok (.getfield 186, 3) := by decide +kernel
theorem dX11_pay_63 : decode cX11_pay 63 = .ok (.iload_n 1, 1) := by decide +kernel
theorem dX11_pay_64 : decode cX11_pay 64 = .ok (.iaload, 1) := by decide +kernel
theorem dX11_pay_65 : decode cX11_pay 65 = .ok (.invokestatic 344, 3) := by decide +kernel
theorem dX11_pay_68 : decode cX11_pay 68 = .ok (.istore 4, 2) := by decide +kernel
theorem dX11_pay_70 : decode cX11_pay 70 = .ok (.aload_n 0, 1) := by decide +kernel
theorem dX11_pay_71 : decode cX11_pay 71 = .ok (.getfield 40, 3) := by decide +kernel
theorem dX11_pay_74 : decode cX11_pay 74 = .ok (.getfield 169, 3) := by decide +kernel
theorem dX11_pay_77 : decode cX11_pay 77 = .ok (.iload_n 3, 1) := by decide +kernel
theorem dX11_pay_78 : decode cX11_pay 78 = .ok (.dup2, 1) := by decide +kernel
theorem dX11_pay_79 : decode cX11_pay 79 = .ok (.iaload, 1) := by decide +kernel
theorem dX11_pay_80 : decode cX11_pay 80 = .ok (.iload 4, 2) := by decide +kernel
theorem dX11_pay_82 : decode cX11_pay 82 = .ok (.isub, 1) := by decide +kernel
theorem dX11_pay_83 : decode cX11_pay 83 = .ok (.iastore, 1) := by decide +kernel
theorem dX11_pay_84 : decode cX11_pay 84 = .ok (.aload_n 0, 1) := by decide +kernel
theorem dX11_pay_85 : decode cX11_pay 85 = .ok (.getfield 40, 3) := by decide +kernel
theorem dX11_pay_88 : decode cX11_pay 88 = .ok (.getfield 186, 3) := by decide +kernel
theorem dX11_pay_91 : decode cX11_pay 91 = .ok (.iload_n 1, 1) := by decide +kernel
theorem dX11_pay_92 : decode cX11_pay 92 = .ok (.dup2, 1) := by decide +kernel
theorem dX11_pay_93 : decode cX11_pay 93 = .ok (.iaload, 1) := by decide +kernel
theorem dX11_pay_94 : decode cX11_pay 94 = .ok (.iload 4, 2) := by decide +kernel
theorem dX11_pay_96 : decode cX11_pay 96 = .ok (.isub, 1) := by decide +kernel
theorem dX11_pay_97 : decode cX11_pay 97 = .ok (.iastore, 1) := by decide +kernel
theorem dX11_pay_98 : decode cX11_pay 98 = .ok (.iload_n 2, 1) := by decide +kernel
theorem dX11_pay_99 : decode cX11_pay 99 = .ok (.iload 4, 2) := by decide +kernel
theorem dX11_pay_101 : decode cX11_pay 101 = .ok (.iadd, 1) := by decide +kernel
theorem dX11_pay_102 : decode cX11_pay 102 = .ok (.istore_n 2, 1) := by decide +kernel
theorem dX11_pay_103 : decode cX11_pay 103 = .ok (.iinc 3 1, 3) := by decide +kernel
theorem dX11_pay_106 : decode cX11_pay 106 = .ok (.goto (-86), 3) := by decide +kernel
theorem dX11_pay_109 : decode cX11_pay 109 = .ok (.aload_n 0, 1) := by decide +kernel
theorem dX11_pay_110 : decode cX11_pay 110 = .ok (.getfield 40, 3) := by decide +kernel
theorem dX11_pay_113 : decode cX11_pay 113 = .ok (.dup, 1) := by decide +kernel
theorem dX11_pay_114 : decode cX11_pay 114 = .ok (.getfield 349, 3) := by decide +kernel
theorem dX11_pay_117 : decode cX11_pay 117 = .ok (.iload_n 2, 1) := by decide +kernel
theorem dX11_pay_118 : decode cX11_pay 118 = .ok (.iadd, 1) := by decide +kernel
theorem dX11_pay_119 : decode cX11_pay 119 = .ok (.putfield 349, 3) := by decide +kernel
theorem dX11_pay_122 : decode cX11_pay 122 = .ok (.iload_n 2, 1) := by decide +kernel
theorem dX11_pay_123 : decode cX11_pay 123 = .ok (.ireturn, 1) := by decide +kernel
theorem dX11_pitch_0 : decode cX11_pitch 0 = .ok (.aload_n 0, 1) := by decide +kernel
theorem dX11_pitch_1 : decode cX11_pitch 1 = .ok (.getfield 16, 3) := by decide +kernel
theorem dX11_pitch_4 : decode cX11_pitch 4 = .ok (.iload_n 1, 1) := by decide +kernel
theorem dX11_pitch_5 : decode cX11_pitch 5 = .ok (.iload_n 2, 1) := by decide +kernel
theorem dX11_pitch_6 : decode cX11_pitch 6 = .ok (.invokevirtual 195, 3) := by decide +kernel
theorem dX11_pitch_9 : decode cX11_pitch 9 = .ok (.ifCond .ne 5, 3) := by decide +kernel
theorem dX11_pitch_12 : decode cX11_pitch 12 = .ok (.iconst (-1), 1) := by decide +kernel
theorem dX11_pitch_13 : decode cX11_pitch 13 = .ok (.ireturn, 1) := by decide +kernel
theorem dX11_pitch_14 : decode cX11_pitch 14 = .ok (.iload_n 1, 1) := by decide +kernel
theorem dX11_pitch_15 : decode cX11_pitch 15 = .ok (.iload_n 2, 1) := by decide +kernel
theorem dX11_pitch_16 : decode cX11_pitch 16 = .ok (.invokestatic 202, 3) := by decide +kernel
theorem dX11_pitch_19 : decode cX11_pitch 19 = .ok (.istore 4, 2) := by decide +kernel
theorem dX11_pitch_21 : decode cX11_pitch 21 = .ok (.iload_n 3, 1) := by decide +kernel
theorem dX11_pitch_22 : decode cX11_pitch 22 = .ok (.ifCond .lt 30, 3) := by decide +kernel
theorem dX11_pitch_25 : decode cX11_pitch 25 = .ok (.iload_n 3, 1) := by decide +kernel
theorem dX11_pitch_26 : decode cX11_pitch 26 = .ok (.aload_n 0, 1) := by decide +kernel
theorem dX11_pitch_27 : decode cX11_pitch 27 = .ok (.getfield 16, 3) := by decide +kernel
theorem dX11_pitch_30 : decode cX11_pitch 30 = .ok (.getfield 199, 3) := by decide +kernel
theorem dX11_pitch_33 : decode cX11_pitch 33 = .ok (.iload 4, 2) := by decide +kernel
theorem dX11_pitch_35 : decode cX11_pitch 35 = .ok (.iaload, 1) := by decide +kernel
theorem dX11_pitch_36 : decode cX11_pitch 36 = .ok (.if_icmp .ge 16, 3) := by decide +kernel
theorem dX11_pitch_39 : decode cX11_pitch 39 = .ok (.aload_n 0, 1) := by decide +kernel
theorem dX11_pitch_40 : decode cX11_pitch 40 = .ok (.getfield 16, 3) := by decide +kernel
theorem dX11_pitch_43 : decode cX11_pitch 43 = .ok (.iload 4, 2) := by decide +kernel
theorem dX11_pitch_45 : decode cX11_pitch 45 = .ok (.iload_n 3, 1) := by decide +kernel
theorem dX11_pitch_46 : decode cX11_pitch 46 = .ok (.invokevirtual 206, 3) := by decide +kernel
theorem dX11_pitch_49 : decode cX11_pitch 49 = .ok (.goto 4, 3) := by decide +kernel
theorem dX11_pitch_52 : decode cX11_pitch 52 = .ok (.iconst (-1), 1) := by decide +kernel
theorem dX11_pitch_53 : decode cX11_pitch 53 = .ok (.ireturn, 1) := by decide +kernel
theorem dX11_reachOf_0 : decode cX11_reachOf 0 = .ok (.lconst 0, 1) := by decide +kernel
theorem dX11_reachOf_1 : decode cX11_reachOf 1 = .ok (.lstore_n 2, 1) := by decide +kernel
theorem dX11_reachOf_2 : decode cX11_reachOf 2 = .ok (.iconst 0, 1) := by decide +kernel
theorem dX11_reachOf_3 : decode cX11_reachOf 3 = .ok (.istore 4, 2) := by decide +kernel
theorem dX11_reachOf_5 : decode cX11_reachOf 5 = .ok (.iload 4, 2) := by decide +kernel
theorem dX11_reachOf_7 : decode cX11_reachOf 7 = .ok (.aload_n 0, 1) := by decide +kernel
theorem dX11_reachOf_8 : decode cX11_reachOf 8 = .ok (.getfield 16, 3) := by decide +kernel
theorem dX11_reachOf_11 : decode cX11_reachOf 11 = .ok (.getfield 136, 3) := by decide +kernel
theorem dX11_reachOf_14 : decode cX11_reachOf 14 = .ok (.getfield 292, 3) := by decide +kernel
theorem dX11_reachOf_17 : decode cX11_reachOf 17 = .ok (.if_icmp .ge 30, 3) := by decide +kernel
theorem dX11_reachOf_20 : decode cX11_reachOf 20 = .ok (.iload_n 1, 1) := by decide +kernel
theorem dX11_reachOf_21 : decode cX11_reachOf 21 = .ok (.iload 4, 2) := by decide +kernel
theorem dX11_reachOf_23 : decode cX11_reachOf 23 = .ok (.ishr, 1) := by decide +kernel
theorem dX11_reachOf_24 : decode cX11_reachOf 24 = .ok (.iconst 1, 1) := by decide +kernel
theorem dX11_reachOf_25 : decode cX11_reachOf 25 = .ok (.iand, 1) := by decide +kernel
theorem dX11_reachOf_26 : decode cX11_reachOf 26 = .ok (.ifCond .eq 15, 3) := by decide +kernel
theorem dX11_reachOf_29 : decode cX11_reachOf 29 = .ok (.lload_n 2, 1) := by decide +kernel
theorem dX11_reachOf_30 : decode cX11_reachOf 30 = .ok (.aload_n 0, 1) := by decide +kernel
theorem dX11_reachOf_31 : decode cX11_reachOf 31 = .ok (.getfield 16, 3) := by decide +kernel
theorem dX11_reachOf_34 : decode cX11_reachOf 34 = .ok (.iload 4, 2) := by decide +kernel
theorem dX11_reachOf_36 : decode cX11_reachOf 36 = .ok (.invokevirtual 310, 3) := by decide +kernel
theorem dX11_reachOf_39 : decode cX11_reachOf 39 = .ok (.lor, 1) := by decide +kernel
theorem dX11_reachOf_40 : decode cX11_reachOf 40 = .ok (.lstore_n 2, 1) := by decide +kernel
theorem dX11_reachOf_41 : decode cX11_reachOf 41 = .ok (.iinc 4 1, 3) := by decide +kernel
theorem dX11_reachOf_44 : decode cX11_reachOf 44 = .ok (.goto (-39), 3) := by decide +kernel
theorem dX11_reachOf_47 : decode cX11_reachOf 47 = .ok (.lload_n 2, 1) := by decide +kernel
theorem dX11_reachOf_48 : decode cX11_reachOf 48 = .ok (.lreturn, 1) := by decide +kernel
theorem dX11_redeem_0 : decode cX11_redeem 0 = .ok (.aload_n 0, 1) := by decide +kernel
theorem dX11_redeem_1 : decode cX11_redeem 1 = .ok (.getfield 16, 3) := by decide +kernel
theorem dX11_redeem_4 : decode cX11_redeem 4 = .ok (.iload_n 1, 1) := by decide +kernel
theorem dX11_redeem_5 : decode cX11_redeem 5 = .ok (.iload_n 2, 1) := by decide +kernel
theorem dX11_redeem_6 : decode cX11_redeem 6 = .ok (.invokevirtual 195, 3) := by decide +kernel
theorem dX11_redeem_9 : decode cX11_redeem 9 = .ok (.ifCond .eq 28, 3) := by decide +kernel
theorem dX11_redeem_12 : decode cX11_redeem 12 = .ok (.aload_n 0, 1) := by decide +kernel
theorem dX11_redeem_13 : decode cX11_redeem 13 = .ok (.getfield 16, 3) := by decide +kernel
theorem dX11_redeem_16 : decode cX11_redeem 16 = .ok (.getfield 136, 3) := by decide +kernel
theorem dX11_redeem_19 : decode cX11_redeem 19 = .ok (.iload_n 3, 1) := by decide +kernel
theorem dX11_redeem_20 : decode cX11_redeem 20 = .ok (.invokevirtual 145, 3) := by decide +kernel
theorem dX11_redeem_23 : decode cX11_redeem 23 = .ok (.ifCond .eq 14, 3) := by decide +kernel
theorem dX11_redeem_26 : decode cX11_redeem 26 = .ok (.aload_n 0, 1) := by decide +kernel
theorem dX11_redeem_27 : decode cX11_redeem 27 = .ok (.getfield 40, 3) := by decide +kernel
theorem dX11_redeem_30 : decode cX11_redeem 30 = .ok (.iload_n 3, 1) := by decide +kernel
theorem dX11_redeem_31 : decode cX11_redeem 31 = .ok (.invokevirtual 172, 3) := by decide +kernel
theorem dX11_redeem_34 : decode cX11_redeem 34 = .ok (.ifCond .eq 5, 3) := by decide +kernel
theorem dX11_redeem_37 : decode cX11_redeem 37 = .ok (.iconst (-1), 1) := by decide +kernel
theorem dX11_redeem_38 : decode cX11_redeem 38 = .ok (.ireturn, 1) := by decide +kernel
theorem dX11_redeem_39 : decode cX11_redeem 39 = .ok (.iload_n 1, 1) := by decide +kernel
theorem dX11_redeem_40 : decode cX11_redeem 40 = .ok (.iload_n 2, 1) := by decide +kernel
theorem dX11_redeem_41 : decode cX11_redeem 41 = .ok (.invokestatic 202, 3) := by decide +kernel
theorem dX11_redeem_44 : decode cX11_redeem 44 = .ok (.istore 4, 2) := by decide +kernel
theorem dX11_redeem_46 : decode cX11_redeem 46 = .ok (.aload_n 0, 1) := by decide +kernel
theorem dX11_redeem_47 : decode cX11_redeem 47 = .ok (.getfield 40, 3) := by decide +kernel
theorem dX11_redeem_50 : decode cX11_redeem 50 = .ok (.getfield 233, 3) := by decide +kernel
theorem dX11_redeem_53 : decode cX11_redeem 53 = .ok (.iload 4, 2) := by decide +kernel
theorem dX11_redeem_55 : decode cX11_redeem 55 = .ok (.iaload, 1) := by decide +kernel
theorem dX11_redeem_56 : decode cX11_redeem 56 = .ok (.iconst (-1), 1) := by decide +kernel
theorem dX11_redeem_57 : decode cX11_redeem 57 = .ok (.if_icmp .ne 12, 3) := by decide +kernel
theorem dX11_redeem_60 : decode cX11_redeem 60 = .ok (.aload_n 0, 1) := by decide +kernel
theorem dX11_redeem_61 : decode cX11_redeem 61 = .ok (.iload_n 1, 1) := by decide +kernel
theorem dX11_redeem_62 : decode cX11_redeem 62 = .ok (.iload_n 3, 1) := by decide +kernel
theorem dX11_redeem_63 : decode cX11_redeem 63 = .ok (.invokevirtual 236, 3) := by decide +kernel
theorem dX11_redeem_66 : decode cX11_redeem 66 = .ok (.ifCond .eq 5, 3) := by decide +kernel
theorem dX11_redeem_69 : decode cX11_redeem 69 = .ok (.iconst (-1), 1) := by decide +kernel
theorem dX11_redeem_70 : decode cX11_redeem 70 = .ok (.ireturn, 1) := by decide +kernel
theorem dX11_redeem_71 : decode cX11_redeem 71 = .ok (.aload_n 0, 1) := by decide +kernel
theorem dX11_redeem_72 : decode cX11_redeem 72 = .ok (.getfield 59, 3) := by decide +kernel
theorem dX11_redeem_75 : decode cX11_redeem 75 = .ok (.iload_n 1, 1) := by decide +kernel
theorem dX11_redeem_76 : decode cX11_redeem 76 = .ok (.iload_n 2, 1) := by decide +kernel
theorem dX11_redeem_77 : decode cX11_redeem 77 = .ok (.iload_n 3, 1) := by decide +kernel
theorem dX11_redeem_78 : decode cX11_redeem 78 = .ok (.invokevirtual 209, 3) := by decide +kernel
theorem dX11_redeem_81 : decode cX11_redeem 81 = .ok (.istore 5, 2) := by decide +kernel
theorem dX11_redeem_83 : decode cX11_redeem 83 = .ok (.iload 5, 2) := by decide +kernel
theorem dX11_redeem_85 : decode cX11_redeem 85 = .ok (.aload_n 0, 1) := by decide +kernel
theorem dX11_redeem_86 : decode cX11_redeem 86 = .ok (.getfield 40, 3) := by decide +kernel
theorem dX11_redeem_89 : decode cX11_redeem 89 = .ok (.getfield 239, 3) := by decide +kernel
theorem dX11_redeem_92 : decode cX11_redeem 92 = .ok (.if_icmp .le 6, 3) := by decide +kernel
theorem dX11_redeem_95 : decode cX11_redeem 95 = .ok (.bipush (-2), 2) := by decide +kernel
theorem dX11_redeem_97 : decode cX11_redeem 97 = .ok (.ireturn, 1) := by decide +kernel
theorem dX11_redeem_98 : decode cX11_redeem 98 = .ok (.aload_n 0, 1) := by decide +kernel
theorem dX11_redeem_99 : decode cX11_redeem 99 = .ok (.getfield 40, 3) := by decide +kernel
theorem dX11_redeem_102 : decode cX11_redeem 102 = .ok (.iload 4, 2) := by decide +kernel
theorem dX11_redeem_104 : decode cX11_redeem 104 = .ok (.iload_n 3, 1) := by decide +kernel
theorem dX11_redeem_105 : decode cX11_redeem 105 = .ok (.iload 5, 2) := by decide +kernel
theorem dX11_redeem_107 : decode cX11_redeem 107 = .ok (.aload_n 0, 1) := by decide +kernel
theorem dX11_redeem_108 : decode cX11_redeem 108 = .ok (.getfield 16, 3) := by decide +kernel
theorem dX11_redeem_111 : decode cX11_redeem 111 = .ok (.getfield 163, 3) := by decide +kernel
theorem dX11_redeem_114 : decode cX11_redeem 114 = .ok (.iload_n 3, 1) := by decide +kernel
theorem dX11_redeem_115 : decode cX11_redeem 115 = .ok (.iaload, 1) := by decide +kernel
theorem dX11_redeem_116 : decode cX11_redeem 116 = .ok (.invokevirtual 242, 3) := by decide +kernel
theorem dX11_redeem_119 : decode cX11_redeem 119 = .ok (.iload 5, 2) := by decide +kernel
theorem dX11_redeem_121 : decode cX11_redeem 121 = .ok (.ireturn, 1) := by decide +kernel
theorem dX11_round_0 : decode cX11_round 0 = .ok (.aload_n 0, 1) := by decide +kernel
theorem dX11_round_1 : decode cX11_round 1 = .ok (.iload_n 1, 1) := by decide +kernel
theorem dX11_round_2 : decode cX11_round 2 = .ok (.iload_n 2, 1) := by decide +kernel
theorem dX11_round_3 : decode cX11_round 3 = .ok (.iload_n 3, 1) := by decide +kernel
theorem dX11_round_4 : decode cX11_round 4 = .ok (.iload 4, 2) := by decide +kernel
theorem dX11_round_6 : decode cX11_round 6 = .ok (.invokevirtual 331, 3) := by decide +kernel
theorem dX11_round_9 : decode cX11_round 9 = .ok (.ifCond .ne 5, 3) := by decide +kernel
theorem dX11_round_12 : decode cX11_round 12 = .ok (.iconst (-1), 1) := by decide +kernel
theorem dX11_round_13 : decode cX11_round 13 = .ok (.ireturn, 1) := by decide +kernel
theorem dX11_round_14 : decode cX11_round 14 = .ok (.aload_n 0, 1) := by decide +kernel
theorem dX11_round_15 : decode cX11_round 15 = .ok (.getfield 82, 3) := by decide +kernel
theorem dX11_round_18 : decode cX11_round 18 = .ok (.iload_n 1, 1) := by decide +kernel
theorem dX11_round_19 : decode cX11_round 19 = .ok (.iload_n 2, 1) := by decide +kernel
theorem dX11_round_20 : decode cX11_round 20 = .ok (.invokestatic 202, 3) := by decide +kernel
theorem dX11_round_23 : decode cX11_round 23 = .ok (.iload_n 3, 1) := by decide +kernel
theorem dX11_round_24 : decode cX11_round 24 = .ok (.iload 4, 2) := by decide +kernel
theorem dX11_round_26 : decode cX11_round 26 = .ok (.invokevirtual 335, 3) := by decide +kernel
theorem dX11_round_29 : decode cX11_round 29 = .ok (.ireturn, 1) := by decide +kernel
theorem dX11_run_0 : decode cX11_run 0 = .ok (.aload_n 0, 1) := by decide +kernel
theorem dX11_run_1 : decode cX11_run 1 = .ok (.getfield 16, 3) := by decide +kernel
theorem dX11_run_4 : decode cX11_run 4 = .ok (.getfield 127, 3) := by decide +kernel
theorem dX11_run_7 : decode cX11_run 7 = .ok (.iload_n 1, 1) := by decide +kernel
theorem dX11_run_8 : decode cX11_run 8 = .ok (.invokevirtual 145, 3) := by decide +kernel
theorem dX11_run_11 : decode cX11_run 11 = .ok (.ifCond .ne 5, 3) := by decide +kernel
theorem dX11_run_14 : decode cX11_run 14 = .ok (.iconst (-1), 1) := by decide +kernel
theorem dX11_run_15 : decode cX11_run 15 = .ok (.ireturn, 1) := by decide +kernel
theorem dX11_run_16 : decode cX11_run 16 = .ok (.iload_n 2, 1) := by decide +kernel
theorem dX11_run_17 : decode cX11_run 17 = .ok (.iconst (-1), 1) := by decide +kernel
theorem dX11_run_18 : decode cX11_run 18 = .ok (.if_icmp .eq 32, 3) := by decide +kernel
theorem dX11_run_21 : decode cX11_run 21 = .ok (.aload_n 0, 1) := by decide +kernel
theorem dX11_run_22 : decode cX11_run 22 = .ok (.getfield 16, 3) := by decide +kernel
theorem dX11_run_25 : decode cX11_run 25 = .ok (.getfield 136, 3) := by decide +kernel
theorem dX11_run_28 : decode cX11_run 28 = .ok (.iload_n 2, 1) := by decide +kernel
theorem dX11_run_29 : decode cX11_run 29 = .ok (.invokevirtual 145, 3) := by decide +kernel
theorem dX11_run_32 : decode cX11_run 32 = .ok (.ifCond .eq 16, 3) := by decide +kernel
theorem dX11_run_35 : decode cX11_run 35 = .ok (.aload_n 0, 1) := by decide +kernel
theorem dX11_run_36 : decode cX11_run 36 = .ok (.getfield 16, 3) := by decide +kernel
theorem dX11_run_39 : decode cX11_run 39 = .ok (.getfield 163, 3) := by decide +kernel
theorem dX11_run_42 : decode cX11_run 42 = .ok (.iload_n 2, 1) := by decide +kernel
theorem dX11_run_43 : decode cX11_run 43 = .ok (.iaload, 1) := by decide +kernel
theorem dX11_run_44 : decode cX11_run 44 = .ok (.iload_n 1, 1) := by decide +kernel
theorem dX11_run_45 : decode cX11_run 45 = .ok (.if_icmp .eq 5, 3) := by decide +kernel
theorem dX11_run_48 : decode cX11_run 48 = .ok (.iconst (-1), 1) := by decide +kernel
theorem dX11_run_49 : decode cX11_run 49 = .ok (.ireturn, 1) := by decide +kernel
theorem dX11_run_50 : decode cX11_run 50 = .ok (.aload_n 0, 1) := by decide +kernel
theorem dX11_run_51 : decode cX11_run 51 = .ok (.iload_n 1, 1) := by decide +kernel
theorem dX11_run_52 : decode cX11_run 52 = .ok (.iload_n 2, 1) := by decide +kernel
theorem dX11_run_53 : decode cX11_run 53 = .ok (.invokevirtual 341, 3) := by decide +kernel
theorem dX11_run_56 : decode cX11_run 56 = .ok (.ireturn, 1) := by decide +kernel
theorem dX11_shareOf_0 : decode cX11_shareOf 0 = .ok (.aload_n 0, 1) := by decide +kernel
theorem dX11_shareOf_1 : decode cX11_shareOf 1 = .ok (.getfield 40, 3) := by decide +kernel
theorem dX11_shareOf_4 : decode cX11_shareOf 4 = .ok (.getfield 186, 3) := by decide +kernel
theorem dX11_shareOf_7 : decode cX11_shareOf 7 = .ok (.iload_n 1, 1) := by decide +kernel
theorem dX11_shareOf_8 : decode cX11_shareOf 8 = .ok (.iaload, 1) := by decide +kernel
theorem dX11_shareOf_9 : decode cX11_shareOf 9 = .ok (.istore_n 3, 1) := by decide +kernel
theorem dX11_shareOf_10 : decode cX11_shareOf 10 = .ok (.iconst 0, 1) := by decide +kernel
theorem dX11_shareOf_11 : decode cX11_shareOf 11 = .ok (.istore 4, 2) := by decide +kernel
theorem dX11_shareOf_13 : decode cX11_shareOf 13 = .ok (.iconst 0, 1) := by decide +kernel
theorem dX11_shareOf_14 : decode cX11_shareOf 14 = .ok (.istore 5, 2) := by decide +kernel
theorem dX11_shareOf_16 : decode cX11_shareOf 16 = .ok (.iload 5, 2) := by decide +kernel
theorem dX11_shareOf_18 : decode cX11_shareOf 18 = .ok (.aload_n 0, 1) := by decide +kernel
theorem dX11_shareOf_19 : decode cX11_shareOf 19 = .ok (.getfield 16, 3) := by decide +kernel
theorem dX11_shareOf_22 : decode cX11_shareOf 22 = .ok (.getfield 136, 3) := by decide +kernel
theorem dX11_shareOf_25 : decode cX11_shareOf 25 = .ok (.getfield 292, 3) := by decide +kernel
theorem dX11_shareOf_28 : decode cX11_shareOf 28 = .ok (.if_icmp .ge 60, 3) := by decide +kernel
theorem dX11_shareOf_31 : decode cX11_shareOf 31 = .ok (.aload_n 0, 1) := by decide +kernel
theorem dX11_shareOf_32 : decode cX11_shareOf 32 = .ok (.getfield 16, 3) := by decide +kernel
theorem dX11_shareOf_35 : decode cX11_shareOf 35 = .ok (.getfield 163, 3) := by decide +kernel
theorem dX11_shareOf_38 : decode cX11_shareOf 38 = .ok (.iload 5, 2) := by decide +kernel
theorem dX11_shareOf_40 : decode cX11_shareOf 40 = .ok (.iaload, 1) := by decide +kernel
theorem dX11_shareOf_41 : decode cX11_shareOf 41 = .ok (.iload_n 1, 1) := by decide +kernel
theorem dX11_shareOf_42 : decode cX11_shareOf 42 = .ok (.if_icmp .ne 40, 3) := by decide +kernel
theorem dX11_shareOf_45 : decode cX11_shareOf 45 = .ok (.aload_n 0, 1) := by decide +kernel
theorem dX11_shareOf_46 : decode cX11_shareOf 46 = .ok (.getfield 40, 3) := by decide +kernel
theorem dX11_shareOf_49 : decode cX11_shareOf 49 = .ok (.getfield 169, 3) := by decide +kernel
theorem dX11_shareOf_52 : decode cX11_shareOf 52 = .ok (.iload 5, 2) := by decide +kernel
theorem dX11_shareOf_54 : decode cX11_shareOf 54 = .ok (.iaload, 1) := by decide +kernel
theorem dX11_shareOf_55 : decode cX11_shareOf 55 = .ok (.iload_n 3, 1) := by decide +kernel
theorem dX11_shareOf_56 : decode cX11_shareOf 56 = .ok (.invokestatic 344, 3) := by decide +kernel
theorem dX11_shareOf_59 : decode cX11_shareOf 59 = .ok (.istore 6, 2) := by decide +kernel
theorem dX11_shareOf_61 : decode cX11_shareOf 61 = .ok (.iload 5, 2) := by decide +kernel
theorem dX11_shareOf_63 : decode cX11_shareOf 63 = .ok (.iload_n 2, 1) := by decide +kernel
theorem dX11_shareOf_64 : decode cX11_shareOf 64 = .ok (.if_icmp .ne 6, 3) := by decide +kernel
theorem dX11_shareOf_67 : decode cX11_shareOf 67 = .ok (.iload 6, 2) := by decide +kernel
theorem dX11_shareOf_69 : decode cX11_shareOf 69 = .ok (.ireturn, 1) := by decide +kernel
theorem dX11_shareOf_70 : decode cX11_shareOf 70 = .ok (.iload_n 3, 1) := by decide +kernel
theorem dX11_shareOf_71 : decode cX11_shareOf 71 = .ok (.iload 6, 2) := by decide +kernel
theorem dX11_shareOf_73 : decode cX11_shareOf 73 = .ok (.isub, 1) := by decide +kernel
theorem dX11_shareOf_74 : decode cX11_shareOf 74 = .ok (.istore_n 3, 1) := by decide +kernel
theorem dX11_shareOf_75 : decode cX11_shareOf 75 = .ok (.iload 4, 2) := by decide +kernel
theorem dX11_shareOf_77 : decode cX11_shareOf 77 = .ok (.iload 6, 2) := by decide +kernel
theorem dX11_shareOf_79 : decode cX11_shareOf 79 = .ok (.iadd, 1) := by decide +kernel
theorem dX11_shareOf_80 : decode cX11_shareOf 80 = .ok (.istore 4, 2) := by decide +kernel
theorem dX11_shareOf_82 : decode cX11_shareOf 82 = .ok (.iinc 5 1, 3) := by decide +kernel
theorem dX11_shareOf_85 : decode cX11_shareOf 85 = .ok (.goto (-69), 3) := by decide +kernel
theorem dX11_shareOf_88 : decode cX11_shareOf 88 = .ok (.iload 4, 2) := by decide +kernel
theorem dX11_shareOf_90 : decode cX11_shareOf 90 = .ok (.ireturn, 1) := by decide +kernel
theorem dX11_singPart_0 : decode cX11_singPart 0 = .ok (.aload_n 0, 1) := by decide +kernel
theorem dX11_singPart_1 : decode cX11_singPart 1 = .ok (.getfield 40, 3) := by decide +kernel
theorem dX11_singPart_4 : decode cX11_singPart 4 = .ok (.getfield 233, 3) := by decide +kernel
theorem dX11_singPart_7 : decode cX11_singPart 7 = .ok (.iload_n 1, 1) := by decide +kernel
theorem dX11_singPart_8 : decode cX11_singPart 8 = .ok (.iaload, 1) := by decide +kernel
theorem dX11_singPart_9 : decode cX11_singPart 9 = .ok (.istore_n 2, 1) := by decide +kernel
theorem dX11_singPart_10 : decode cX11_singPart 10 = .ok (.iload_n 2, 1) := by decide +kernel
theorem dX11_singPart_11 : decode cX11_singPart 11 = .ok (.iconst (-1), 1) := by decide +kernel
theorem dX11_singPart_12 : decode cX11_singPart 12 = .ok (.if_icmp .ne 5, 3) := by decide +kernel
theorem dX11_singPart_15 : decode cX11_singPart 15 = .ok (.iconst 0, 1) := by decide +kernel
theorem dX11_singPart_16 : decode cX11_singPart 16 = .ok (.ireturn, 1) := by decide +kernel
theorem dX11_singPart_17 : decode cX11_singPart 17 = .ok (.aload_n 0, 1) := by decide +kernel
theorem dX11_singPart_18 : decode cX11_singPart 18 = .ok (.getfield 16, 3) := by decide +kernel
theorem dX11_singPart_21 : decode cX11_singPart 21 = .ok (.getfield 163, 3) := by decide +kernel
theorem dX11_singPart_24 : decode cX11_singPart 24 = .ok (.iload_n 2, 1) := by decide +kernel
theorem dX11_singPart_25 : decode cX11_singPart 25 = .ok (.iaload, 1) := by decide +kernel
theorem dX11_singPart_26 : decode cX11_singPart 26 = .ok (.iconst (-1), 1) := by decide +kernel
theorem dX11_singPart_27 : decode cX11_singPart 27 = .ok (.if_icmp .eq 23, 3) := by decide +kernel
theorem dX11_singPart_30 : decode cX11_singPart 30 = .ok (.aload_n 0, 1) := by decide +kernel
theorem dX11_singPart_31 : decode cX11_singPart 31 = .ok (.getfield 40, 3) := by decide +kernel
theorem dX11_singPart_34 : decode cX11_singPart 34 = .ok (.getfield 169, 3) := by decide +kernel
theorem dX11_singPart_37 : decode cX11_singPart 37 = .ok (.iload_n 2, 1) := by decide +kernel
theorem dX11_singPart_38 : decode cX11_singPart 38 = .ok (.dup2, 1) := by decide +kernel
theorem dX11_singPart_39 : decode cX11_singPart 39 = .ok (.iaload, 1) := by decide +kernel
theorem dX11_singPart_40 : decode cX11_singPart 40 = .ok (.aload_n 0, 1) := by decide +kernel
theorem dX11_singPart_41 : decode cX11_singPart 41 = .ok (.getfield 16, 3) := by decide +kernel
theorem dX11_singPart_44 : decode cX11_singPart 44 = .ok (.iload_n 1, 1) := by decide +kernel
theorem dX11_singPart_45 : decode cX11_singPart 45 = .ok (.invokevirtual 367, 3) := by decide +kernel
theorem dX11_singPart_48 : decode cX11_singPart 48 = .ok (.iadd, 1) := by decide +kernel
theorem dX11_singPart_49 : decode cX11_singPart 49 = .ok (.iastore, 1) := by decide +kernel
theorem dX11_singPart_50 : decode cX11_singPart 50 = .ok (.aload_n 0, 1) := by decide +kernel
theorem dX11_singPart_51 : decode cX11_singPart 51 = .ok (.getfield 59, 3) := by decide +kernel
theorem dX11_singPart_54 : decode cX11_singPart 54 = .ok (.iload_n 1, 1) := by decide +kernel
theorem dX11_singPart_55 : decode cX11_singPart 55 = .ok (.iload_n 2, 1) := by decide +kernel
theorem dX11_singPart_56 : decode cX11_singPart 56 = .ok (.invokevirtual 213, 3) := by decide +kernel
theorem dX11_singPart_59 : decode cX11_singPart 59 = .ok (.invokestatic 216, 3) := by decide +kernel
theorem dX11_singPart_62 : decode cX11_singPart 62 = .ok (.ireturn, 1) := by decide +kernel
theorem dX11_sings_0 : decode cX11_sings 0 = .ok (.aload_n 0, 1) := by decide +kernel
theorem dX11_sings_1 : decode cX11_sings 1 = .ok (.getfield 16, 3) := by decide +kernel
theorem dX11_sings_4 : decode cX11_sings 4 = .ok (.iload_n 1, 1) := by decide +kernel
theorem dX11_sings_5 : decode cX11_sings 5 = .ok (.iload_n 2, 1) := by decide +kernel
theorem dX11_sings_6 : decode cX11_sings 6 = .ok (.invokevirtual 195, 3) := by decide +kernel
theorem dX11_sings_9 : decode cX11_sings 9 = .ok (.ifCond .ne 5, 3) := by decide +kernel
theorem dX11_sings_12 : decode cX11_sings 12 = .ok (.iconst (-1), 1) := by decide +kernel
theorem dX11_sings_13 : decode cX11_sings 13 = .ok (.ireturn, 1) := by decide +kernel
theorem dX11_sings_14 : decode cX11_sings 14 = .ok (.aload_n 0, 1) := by decide +kernel
theorem dX11_sings_15 : decode cX11_sings 15 = .ok (.getfield 40, 3) := by decide +kernel
theorem dX11_sings_18 : decode cX11_sings 18 = .ok (.getfield 233, 3) := by decide +kernel
theorem dX11_sings_21 : decode cX11_sings 21 = .ok (.iload_n 1, 1) := by decide +kernel
theorem dX11_sings_22 : decode cX11_sings 22 = .ok (.iload_n 2, 1) := by decide +kernel
theorem dX11_sings_23 : decode cX11_sings 23 = .ok (.invokestatic 202, 3) := by decide +kernel
theorem dX11_sings_26 : decode cX11_sings 26 = .ok (.iaload, 1) := by decide +kernel
theorem dX11_sings_27 : decode cX11_sings 27 = .ok (.istore_n 3, 1) := by decide +kernel
theorem dX11_sings_28 : decode cX11_sings 28 = .ok (.iload_n 3, 1) := by decide +kernel
theorem dX11_sings_29 : decode cX11_sings 29 = .ok (.iconst (-1), 1) := by decide +kernel
theorem dX11_sings_30 : decode cX11_sings 30 = .ok (.if_icmp .ne 8, 3) := by decide +kernel
theorem dX11_sings_33 : decode cX11_sings 33 = .ok (.bipush (-2), 2) := by decide +kernel
theorem dX11_sings_35 : decode cX11_sings 35 = .ok (.goto 4, 3) := by decide +kernel
theorem dX11_sings_38 : decode cX11_sings 38 = .ok (.iload_n 3, 1) := by decide +kernel
theorem dX11_sings_39 : decode cX11_sings 39 = .ok (.ireturn, 1) := by decide +kernel
theorem dX11_singsIn_0 : decode cX11_singsIn 0 = .ok (.iconst 0, 1) := by decide +kernel
theorem dX11_singsIn_1 : decode cX11_singsIn 1 = .ok (.istore_n 3, 1) := by decide +kernel
theorem dX11_singsIn_2 : decode cX11_singsIn 2 = .ok (.iload_n 3, 1) := by decide +kernel
theorem dX11_singsIn_3 : decode cX11_singsIn 3 = .ok (.aload_n 0, 1) := by decide +kernel
theorem dX11_singsIn_4 : decode cX11_singsIn 4 = .ok (.getfield 16, 3) := by decide +kernel
theorem dX11_singsIn_7 : decode cX11_singsIn 7 = .ok (.getfield 192, 3) := by decide +kernel
theorem dX11_singsIn_10 : decode cX11_singsIn 10 = .ok (.iload_n 1, 1) := by decide +kernel
theorem dX11_singsIn_11 : decode cX11_singsIn 11 = .ok (.iaload, 1) := by decide +kernel
theorem dX11_singsIn_12 : decode cX11_singsIn 12 = .ok (.if_icmp .ge 28, 3) := by decide +kernel
theorem dX11_singsIn_15 : decode cX11_singsIn 15 = .ok (.aload_n 0, 1) := by decide +kernel
theorem dX11_singsIn_16 : decode cX11_singsIn 16 = .ok (.getfield 40, 3) := by decide +kernel
theorem dX11_singsIn_19 : decode cX11_singsIn 19 = .ok (.getfield 233, 3) := by decide +kernel
theorem dX11_singsIn_22 : decode cX11_singsIn 22 = .ok (.iload_n 1, 1) := by decide +kernel
theorem dX11_singsIn_23 : decode cX11_singsIn 23 = .ok (.iload_n 3, 1) := by decide +kernel
theorem dX11_singsIn_24 : decode cX11_singsIn 24 = .ok (.invokestatic 202, 3) := by decide +kernel
theorem dX11_singsIn_27 : decode cX11_singsIn 27 = .ok (.iaload, 1) := by decide +kernel
theorem dX11_singsIn_28 : decode cX11_singsIn 28 = .ok (.iload_n 2, 1) := by decide +kernel
theorem dX11_singsIn_29 : decode cX11_singsIn 29 = .ok (.if_icmp .ne 5, 3) := by decide +kernel
theorem dX11_singsIn_32 : decode cX11_singsIn 32 = .ok (.iconst 1, 1) := by decide +kernel
theorem dX11_singsIn_33 : decode cX11_singsIn 33 = .ok (.ireturn, 1) := by decide +kernel
theorem dX11_singsIn_34 : decode cX11_singsIn 34 = .ok (.iinc 3 1, 3) := by decide +kernel
theorem dX11_singsIn_37 : decode cX11_singsIn 37 = .ok (.goto (-35), 3) := by decide +kernel
theorem dX11_singsIn_40 : decode cX11_singsIn 40 = .ok (.iconst 0, 1) := by decide +kernel
theorem dX11_singsIn_41 : decode cX11_singsIn 41 = .ok (.ireturn, 1) := by decide +kernel
theorem dX11_slotOf_0 : decode cX11_slotOf 0 = .ok (.iload_n 0, 1) := by decide +kernel
theorem dX11_slotOf_1 : decode cX11_slotOf 1 = .ok (.iconst 3, 1) := by decide +kernel
theorem dX11_slotOf_2 : decode cX11_slotOf 2 = .ok (.imul, 1) := by decide +kernel
theorem dX11_slotOf_3 : decode cX11_slotOf 3 = .ok (.iload_n 1, 1) := by decide +kernel
theorem dX11_slotOf_4 : decode cX11_slotOf 4 = .ok (.iadd, 1) := by decide +kernel
theorem dX11_slotOf_5 : decode cX11_slotOf 5 = .ok (.ireturn, 1) := by decide +kernel
theorem dX11_sold_0 : decode cX11_sold 0 = .ok (.aload_n 0, 1) := by decide +kernel
theorem dX11_sold_1 : decode cX11_sold 1 = .ok (.getfield 16, 3) := by decide +kernel
theorem dX11_sold_4 : decode cX11_sold 4 = .ok (.iload_n 1, 1) := by decide +kernel
theorem dX11_sold_5 : decode cX11_sold 5 = .ok (.invokevirtual 280, 3) := by decide +kernel
theorem dX11_sold_8 : decode cX11_sold 8 = .ok (.ifCond .eq 26, 3) := by decide +kernel
theorem dX11_sold_11 : decode cX11_sold 11 = .ok (.aload_n 0, 1) := by decide +kernel
theorem dX11_sold_12 : decode cX11_sold 12 = .ok (.getfield 16, 3) := by decide +kernel
theorem dX11_sold_15 : decode cX11_sold 15 = .ok (.getfield 139, 3) := by decide +kernel
theorem dX11_sold_18 : decode cX11_sold 18 = .ok (.iload_n 2, 1) := by decide +kernel
theorem dX11_sold_19 : decode cX11_sold 19 = .ok (.invokevirtual 145, 3) := by decide +kernel
theorem dX11_sold_22 : decode cX11_sold 22 = .ok (.ifCond .eq 12, 3) := by decide +kernel
theorem dX11_sold_25 : decode cX11_sold 25 = .ok (.iload_n 3, 1) := by decide +kernel
theorem dX11_sold_26 : decode cX11_sold 26 = .ok (.ifCond .lt 8, 3) := by decide +kernel
theorem dX11_sold_29 : decode cX11_sold 29 = .ok (.iload_n 3, 1) := by decide +kernel
theorem dX11_sold_30 : decode cX11_sold 30 = .ok (.iconst 1, 1) := by decide +kernel
theorem dX11_sold_31 : decode cX11_sold 31 = .ok (.if_icmp .le 5, 3) := by decide +kernel
theorem dX11_sold_34 : decode cX11_sold 34 = .ok (.iconst (-1), 1) := by decide +kernel
theorem dX11_sold_35 : decode cX11_sold 35 = .ok (.ireturn, 1) := by decide +kernel
theorem dX11_sold_36 : decode cX11_sold 36 = .ok (.iload_n 1, 1) := by decide +kernel
theorem dX11_sold_37 : decode cX11_sold 37 = .ok (.iload_n 2, 1) := by decide +kernel
theorem dX11_sold_38 : decode cX11_sold 38 = .ok (.ishr, 1) := by decide +kernel
theorem dX11_sold_39 : decode cX11_sold 39 = .ok (.iconst 1, 1) := by decide +kernel
theorem dX11_sold_40 : decode cX11_sold 40 = .ok (.iand, 1) := by decide +kernel
theorem dX11_sold_41 : decode cX11_sold 41 = .ok (.ifCond .ne 5, 3) := by decide +kernel
theorem dX11_sold_44 : decode cX11_sold 44 = .ok (.iconst (-1), 1) := by decide +kernel
theorem dX11_sold_45 : decode cX11_sold 45 = .ok (.ireturn, 1) := by decide +kernel
theorem dX11_sold_46 : decode cX11_sold 46 = .ok (.aload_n 0, 1) := by decide +kernel
theorem dX11_sold_47 : decode cX11_sold 47 = .ok (.getfield 75, 3) := by decide +kernel
theorem dX11_sold_50 : decode cX11_sold 50 = .ok (.iload_n 1, 1) := by decide +kernel
theorem dX11_sold_51 : decode cX11_sold 51 = .ok (.invokevirtual 283, 3) := by decide +kernel
theorem dX11_sold_54 : decode cX11_sold 54 = .ok (.pop, 1) := by decide +kernel
theorem dX11_sold_55 : decode cX11_sold 55 = .ok (.iload_n 3, 1) := by decide +kernel
theorem dX11_sold_56 : decode cX11_sold 56 = .ok (.iconst 1, 1) := by decide +kernel
theorem dX11_sold_57 : decode cX11_sold 57 = .ok (.if_icmp .ne 13, 3) := by decide +kernel
theorem dX11_sold_60 : decode cX11_sold 60 = .ok (.aload_n 0, 1) := by decide +kernel
theorem dX11_sold_61 : decode cX11_sold 61 = .ok (.getfield 75, 3) := by decide +kernel
theorem dX11_sold_64 : decode cX11_sold 64 = .ok (.getfield 286, 3) := by decide +kernel
theorem dX11_sold_67 : decode cX11_sold 67 = .ok (.iload_n 2, 1) := by decide +kernel
theorem dX11_sold_68 : decode cX11_sold 68 = .ok (.iaload, 1) := by decide +kernel
theorem dX11_sold_69 : decode cX11_sold 69 = .ok (.ireturn, 1) := by decide +kernel
theorem dX11_sold_70 : decode cX11_sold 70 = .ok (.aload_n 0, 1) := by decide +kernel
theorem dX11_sold_71 : decode cX11_sold 71 = .ok (.getfield 75, 3) := by decide +kernel
theorem dX11_sold_74 : decode cX11_sold 74 = .ok (.getfield 289, 3) := by decide +kernel
theorem dX11_sold_77 : decode cX11_sold 77 = .ok (.iload_n 2, 1) := by decide +kernel
theorem dX11_sold_78 : decode cX11_sold 78 = .ok (.iaload, 1) := by decide +kernel
theorem dX11_sold_79 : decode cX11_sold 79 = .ok (.iconst (-1), 1) := by decide +kernel
theorem dX11_sold_80 : decode cX11_sold 80 = .ok (.if_icmp .ne 8, 3) := by decide +kernel
theorem dX11_sold_83 : decode cX11_sold 83 = .ok (.bipush (-2), 2) := by decide +kernel
theorem dX11_sold_85 : decode cX11_sold 85 = .ok (.goto 12, 3) := by decide +kernel
theorem dX11_sold_88 : decode cX11_sold 88 = .ok (.aload_n 0, 1) := by decide +kernel
theorem dX11_sold_89 : decode cX11_sold 89 = .ok (.getfield 75, 3) := by decide +kernel
theorem dX11_sold_92 : decode cX11_sold 92 = .ok (.getfield 289, 3) := by decide +kernel
theorem dX11_sold_95 : decode cX11_sold 95 = .ok (.iload_n 2, 1) := by decide +kernel
theorem dX11_sold_96 : decode cX11_sold 96 = .ok (.iaload, 1) := by decide +kernel
theorem dX11_sold_97 : decode cX11_sold 97 = .ok (.ireturn, 1) := by decide +kernel
theorem dX11_sounds_0 : decode cX11_sounds 0 = .ok (.aload_n 0, 1) := by decide +kernel
theorem dX11_sounds_1 : decode cX11_sounds 1 = .ok (.getfield 16, 3) := by decide +kernel
theorem dX11_sounds_4 : decode cX11_sounds 4 = .ok (.iload_n 1, 1) := by decide +kernel
theorem dX11_sounds_5 : decode cX11_sounds 5 = .ok (.iload_n 2, 1) := by decide +kernel
theorem dX11_sounds_6 : decode cX11_sounds 6 = .ok (.invokevirtual 195, 3) := by decide +kernel
theorem dX11_sounds_9 : decode cX11_sounds 9 = .ok (.ifCond .eq 17, 3) := by decide +kernel
theorem dX11_sounds_12 : decode cX11_sounds 12 = .ok (.aload_n 0, 1) := by decide +kernel
theorem dX11_sounds_13 : decode cX11_sounds 13 = .ok (.getfield 16, 3) := by decide +kernel
theorem dX11_sounds_16 : decode cX11_sounds 16 = .ok (.getfield 136, 3) := by decide +kernel
theorem dX11_sounds_19 : decode cX11_sounds 19 = .ok (.iload_n 3, 1) := by decide +kernel
theorem dX11_sounds_20 : decode cX11_sounds 20 = .ok (.invokevirtual 145, 3) := by decide +kernel
theorem dX11_sounds_23 : decode cX11_sounds 23 = .ok (.ifCond .ne 5, 3) := by decide +kernel
theorem dX11_sounds_26 : decode cX11_sounds 26 = .ok (.iconst (-1), 1) := by decide +kernel
theorem dX11_sounds_27 : decode cX11_sounds 27 = .ok (.ireturn, 1) := by decide +kernel
theorem dX11_sounds_28 : decode cX11_sounds 28 = .ok (.aload_n 0, 1) := by decide +kernel
theorem dX11_sounds_29 : decode cX11_sounds 29 = .ok (.getfield 59, 3) := by decide +kernel
theorem dX11_sounds_32 : decode cX11_sounds 32 = .ok (.iload_n 1, 1) := by decide +kernel
theorem dX11_sounds_33 : decode cX11_sounds 33 = .ok (.iload_n 2, 1) := by decide +kernel
theorem dX11_sounds_34 : decode cX11_sounds 34 = .ok (.invokestatic 202, 3) := by decide +kernel
theorem dX11_sounds_37 : decode cX11_sounds 37 = .ok (.iload_n 3, 1) := by decide +kernel
theorem dX11_sounds_38 : decode cX11_sounds 38 = .ok (.invokevirtual 213, 3) := by decide +kernel
theorem dX11_sounds_41 : decode cX11_sounds 41 = .ok (.invokestatic 216, 3) := by decide +kernel
theorem dX11_sounds_44 : decode cX11_sounds 44 = .ok (.ireturn, 1) := by decide +kernel
theorem dX11_strike_0 : decode cX11_strike 0 = .ok (.iload_n 1, 1) := by decide +kernel
theorem dX11_strike_1 : decode cX11_strike 1 = .ok (.ifCond .lt 27, 3) := by decide +kernel
theorem dX11_strike_4 : decode cX11_strike 4 = .ok (.iload_n 1, 1) := by decide +kernel
theorem dX11_strike_5 : decode cX11_strike 5 = .ok (.aload_n 0, 1) := by decide +kernel
theorem dX11_strike_6 : decode cX11_strike 6 = .ok (.getfield 50, 3) := by decide +kernel
theorem dX11_strike_9 : decode cX11_strike 9 = .ok (.getfield 121, 3) := by decide +kernel
theorem dX11_strike_12 : decode cX11_strike 12 = .ok (.if_icmp .ge 16, 3) := by decide +kernel
theorem dX11_strike_15 : decode cX11_strike 15 = .ok (.aload_n 0, 1) := by decide +kernel
theorem dX11_strike_16 : decode cX11_strike 16 = .ok (.getfield 50, 3) := by decide +kernel
theorem dX11_strike_19 : decode cX11_strike 19 = .ok (.iconst (-1), 1) := by decide +kernel
theorem dX11_strike_20 : decode cX11_strike 20 = .ok (.iload_n 1, 1) := by decide +kernel
theorem dX11_strike_21 : decode cX11_strike 21 = .ok (.isub, 1) := by decide +kernel
theorem dX11_strike_22 : decode cX11_strike 22 = .ok (.invokevirtual 296, 3) := by decide +kernel
theorem dX11_strike_25 : decode cX11_strike 25 = .ok (.goto 4, 3) := by decide +kernel
theorem dX11_strike_28 : decode cX11_strike 28 = .ok (.iconst (-1), 1) := by decide +kernel
theorem dX11_strike_29 : decode cX11_strike 29 = .ok (.ireturn, 1) := by decide +kernel
theorem dX11_sunday_0 : decode cX11_sunday 0 = .ok (.iconst 0, 1) := by decide +kernel
theorem dX11_sunday_1 : decode cX11_sunday 1 = .ok (.istore_n 1, 1) := by decide +kernel
theorem dX11_sunday_2 : decode cX11_sunday 2 = .ok (.iconst 0, 1) := by decide +kernel
theorem dX11_sunday_3 : decode cX11_sunday 3 = .ok (.istore_n 2, 1) := by decide +kernel
theorem dX11_sunday_4 : decode cX11_sunday 4 = .ok (.iload_n 2, 1) := by decide +kernel
theorem dX11_sunday_5 : decode cX11_sunday 5 = .ok (.aload_n 0, 1) := by decide +kernel
theorem dX11_sunday_6 : decode cX11_sunday 6 = .ok (.getfield 40, 3) := by decide +kernel
theorem dX11_sunday_9 : decode cX11_sunday 9 = .ok (.getfield 246, 3) := by decide +kernel
theorem dX11_sunday_12 : decode cX11_sunday 12 = .ok (.if_icmp .ge 25, 3) := by decide +kernel
theorem dX11_sunday_15 : decode cX11_sunday 15 = .ok (.iload_n 1, 1) := by decide +kernel
theorem dX11_sunday_16 : decode cX11_sunday 16 = .ok (.aload_n 0, 1) := by decide +kernel
theorem dX11_sunday_17 : decode cX11_sunday 17 = .ok (.aload_n 0, 1) := by decide +kernel
theorem dX11_sunday_18 : decode cX11_sunday 18 = .ok (.getfield 40, 3) := by decide +kernel
theorem dX11_sunday_21 : decode cX11_sunday 21 = .ok (.getfield 249, 3) := by decide +kernel
theorem dX11_sunday_24 : decode cX11_sunday 24 = .ok (.iload_n 2, 1) := by decide +kernel
theorem dX11_sunday_25 : decode cX11_sunday 25 = .ok (.iaload, 1) := by decide +kernel
theorem dX11_sunday_26 : decode cX11_sunday 26 = .ok (.invokevirtual 258, 3) := by decide +kernel
theorem dX11_sunday_29 : decode cX11_sunday 29 = .ok (.iadd, 1) := by decide +kernel
theorem dX11_sunday_30 : decode cX11_sunday 30 = .ok (.istore_n 1, 1) := by decide +kernel
theorem dX11_sunday_31 : decode cX11_sunday 31 = .ok (.iinc 2 1, 3) := by decide +kernel
theorem dX11_sunday_34 : decode cX11_sunday 34 = .ok (.goto (-30), 3) := by decide +kernel
theorem dX11_sunday_37 : decode cX11_sunday 37 = .ok (.aload_n 0, 1) := by decide +kernel
theorem dX11_sunday_38 : decode cX11_sunday 38 = .ok (.getfield 40, 3) := by decide +kernel
theorem dX11_sunday_41 : decode cX11_sunday 41 = .ok (.invokevirtual 261, 3) := by decide +kernel
theorem dX11_sunday_44 : decode cX11_sunday 44 = .ok (.aload_n 0, 1) := by decide +kernel
theorem dX11_sunday_45 : decode cX11_sunday 45 = .ok (.invokevirtual 264, 3) := by decide +kernel
theorem dX11_sunday_48 : decode cX11_sunday 48 = .ok (.aload_n 0, 1) := by decide +kernel
theorem dX11_sunday_49 : decode cX11_sunday 49 = .ok (.getfield 40, 3) := by decide +kernel
