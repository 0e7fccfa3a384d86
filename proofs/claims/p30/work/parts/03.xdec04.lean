theorem dX10_nextNumber_10 : decode cX10_nextNumber 10 = .ok (.ldc2_w 89, 3) := by decide +kernel
theorem dX10_nextNumber_13 : decode cX10_nextNumber 13 = .ok (.ladd, 1) := by decide +kernel
theorem dX10_nextNumber_14 : decode cX10_nextNumber 14 = .ok (.ldc2_w 91, 3) := by decide +kernel
theorem dX10_nextNumber_17 : decode cX10_nextNumber 17 = .ok (.land, 1) := by decide +kernel
theorem dX10_nextNumber_18 : decode cX10_nextNumber 18 = .ok (.l2i, 1) := by decide +kernel
theorem dX10_nextNumber_19 : decode cX10_nextNumber 19 = .ok (.putfield 49, 3) := by decide +kernel
theorem dX10_nextNumber_22 : decode cX10_nextNumber 22 = .ok (.aload_n 0, 1) := by decide +kernel
theorem dX10_nextNumber_23 : decode cX10_nextNumber 23 = .ok (.getfield 49, 3) := by decide +kernel
theorem dX10_nextNumber_26 : decode cX10_nextNumber 26 = .ok (.ldc 93, 2) := by decide +kernel
theorem dX10_nextNumber_28 : decode cX10_nextNumber 28 = .ok (.idiv, 1) := by decide +kernel
theorem dX10_nextNumber_29 : decode cX10_nextNumber 29 = .ok (.ireturn, 1) := by decide +kernel
theorem dX10_take_0 : decode cX10_take 0 = .ok (.aload_n 1, 1) := by decide +kernel
theorem dX10_take_1 : decode cX10_take 1 = .ok (.getfield 9, 3) := by decide +kernel
theorem dX10_take_4 : decode cX10_take 4 = .ok (.iconst 0, 1) := by decide +kernel
theorem dX10_take_5 : decode cX10_take 5 = .ok (.aload_n 0, 1) := by decide +kernel
theorem dX10_take_6 : decode cX10_take 6 = .ok (.getfield 9, 3) := by decide +kernel
theorem dX10_take_9 : decode cX10_take 9 = .ok (.iconst 0, 1) := by decide +kernel
theorem dX10_take_10 : decode cX10_take 10 = .ok (.aload_n 0, 1) := by decide +kernel
theorem dX10_take_11 : decode cX10_take 11 = .ok (.getfield 9, 3) := by decide +kernel
theorem dX10_take_14 : decode cX10_take 14 = .ok (.arraylength, 1) := by decide +kernel
theorem dX10_take_15 : decode cX10_take 15 = .ok (.invokestatic 70, 3) := by decide +kernel
theorem dX10_take_18 : decode cX10_take 18 = .ok (.aload_n 1, 1) := by decide +kernel
theorem dX10_take_19 : decode cX10_take 19 = .ok (.getfield 15, 3) := by decide +kernel
theorem dX10_take_22 : decode cX10_take 22 = .ok (.iconst 0, 1) := by decide +kernel
theorem dX10_take_23 : decode cX10_take 23 = .ok (.aload_n 0, 1) := by decide +kernel
theorem dX10_take_24 : decode cX10_take 24 = .ok (.getfield 15, 3) := by decide +kernel
theorem dX10_take_27 : decode cX10_take 27 = .ok (.iconst 0, 1) := by decide +kernel
theorem dX10_take_28 : decode cX10_take 28 = .ok (.aload_n 0, 1) := by decide +kernel
theorem dX10_take_29 : decode cX10_take 29 = .ok (.getfield 15, 3) := by decide +kernel
theorem dX10_take_32 : decode cX10_take 32 = .ok (.arraylength, 1) := by decide +kernel
theorem dX10_take_33 : decode cX10_take 33 = .ok (.invokestatic 70, 3) := by decide +kernel
theorem dX10_take_36 : decode cX10_take 36 = .ok (.aload_n 1, 1) := by decide +kernel
theorem dX10_take_37 : decode cX10_take 37 = .ok (.getfield 18, 3) := by decide +kernel
theorem dX10_take_40 : decode cX10_take 40 = .ok (.iconst 0, 1) := by decide +kernel
theorem dX10_take_41 : decode cX10_take 41 = .ok (.aload_n 0, 1) := by decide +kernel
theorem dX10_take_42 : decode cX10_take 42 = .ok (.getfield 18, 3) := by decide +kernel
theorem dX10_take_45 : decode cX10_take 45 = .ok (.iconst 0, 1) := by decide +kernel
theorem dX10_take_46 : decode cX10_take 46 = .ok (.aload_n 0, 1) := by decide +kernel
theorem dX10_take_47 : decode cX10_take 47 = .ok (.getfield 18, 3) := by decide +kernel
theorem dX10_take_50 : decode cX10_take 50 = .ok (.arraylength, 1) := by decide +kernel
theorem dX10_take_51 : decode cX10_take 51 = .ok (.invokestatic 70, 3) := by decide +kernel
theorem dX10_take_54 : decode cX10_take 54 = .ok (.aload_n 1, 1) := by decide +kernel
theorem dX10_take_55 : decode cX10_take 55 = .ok (.getfield 21, 3) := by decide +kernel
theorem dX10_take_58 : decode cX10_take 58 = .ok (.iconst 0, 1) := by decide +kernel
theorem dX10_take_59 : decode cX10_take 59 = .ok (.aload_n 0, 1) := by decide +kernel
theorem dX10_take_60 : decode cX10_take 60 = .ok (.getfield 21, 3) := by decide +kernel
theorem dX10_take_63 : decode cX10_take 63 = .ok (.iconst 0, 1) := by decide +kernel
theorem dX10_take_64 : decode cX10_take 64 = .ok (.aload_n 0, 1) := by decide +kernel
theorem dX10_take_65 : decode cX10_take 65 = .ok (.getfield 21, 3) := by decide +kernel
theorem dX10_take_68 : decode cX10_take 68 = .ok (.arraylength, 1) := by decide +kernel
theorem dX10_take_69 : decode cX10_take 69 = .ok (.invokestatic 70, 3) := by decide +kernel
theorem dX10_take_72 : decode cX10_take 72 = .ok (.aload_n 1, 1) := by decide +kernel
theorem dX10_take_73 : decode cX10_take 73 = .ok (.getfield 24, 3) := by decide +kernel
theorem dX10_take_76 : decode cX10_take 76 = .ok (.iconst 0, 1) := by decide +kernel
theorem dX10_take_77 : decode cX10_take 77 = .ok (.aload_n 0, 1) := by decide +kernel
theorem dX10_take_78 : decode cX10_take 78 = .ok (.getfield 24, 3) := by decide +kernel
theorem dX10_take_81 : decode cX10_take 81 = .ok (.iconst 0, 1) := by decide +kernel
theorem dX10_take_82 : decode cX10_take 82 = .ok (.aload_n 0, 1) := by decide +kernel
theorem dX10_take_83 : decode cX10_take 83 = .ok (.getfield 24, 3) := by decide +kernel
theorem dX10_take_86 : decode cX10_take 86 = .ok (.arraylength, 1) := by decide +kernel
theorem dX10_take_87 : decode cX10_take 87 = .ok (.invokestatic 70, 3) := by decide +kernel
theorem dX10_take_90 : decode cX10_take 90 = .ok (.aload_n 1, 1) := by decide +kernel
theorem dX10_take_91 : decode cX10_take 91 = .ok (.getfield 27, 3) := by decide +kernel
theorem dX10_take_94 : decode cX10_take 94 = .ok (.iconst 0, 1) := by decide +kernel
theorem dX10_take_95 : decode cX10_take 95 = .ok (.aload_n 0, 1) := by decide +kernel
theorem dX10_take_96 : decode cX10_take 96 = .ok (.getfield 27, 3) := by decide +kernel
theorem dX10_take_99 : decode cX10_take 99 = .ok (.iconst 0, 1) := by decide +kernel
theorem dX10_take_100 : decode cX10_take 100 = .ok (.aload_n 0, 1) := by decide +kernel
theorem dX10_take_101 : decode cX10_take 101 = .ok (.getfield 27, 3) := by decide +kernel
theorem dX10_take_104 : decode cX10_take 104 = .ok (.arraylength, 1) := by decide +kernel
theorem dX10_take_105 : decode cX10_take 105 = .ok (.invokestatic 70, 3) := by decide +kernel
theorem dX10_take_108 : decode cX10_take 108 = .ok (.aload_n 0, 1) := by decide +kernel
theorem dX10_take_109 : decode cX10_take 109 = .ok (.aload_n 1, 1) := by decide +kernel
theorem dX10_take_110 : decode cX10_take 110 = .ok (.getfield 30, 3) := by decide +kernel
theorem dX10_take_113 : decode cX10_take 113 = .ok (.putfield 30, 3) := by decide +kernel
theorem dX10_take_116 : decode cX10_take 116 = .ok (.aload_n 0, 1) := by decide +kernel
theorem dX10_take_117 : decode cX10_take 117 = .ok (.aload_n 1, 1) := by decide +kernel
theorem dX10_take_118 : decode cX10_take 118 = .ok (.getfield 34, 3) := by decide +kernel
theorem dX10_take_121 : decode cX10_take 121 = .ok (.putfield 34, 3) := by decide +kernel
theorem dX10_take_124 : decode cX10_take 124 = .ok (.aload_n 0, 1) := by decide +kernel
theorem dX10_take_125 : decode cX10_take 125 = .ok (.aload_n 1, 1) := by decide +kernel
theorem dX10_take_126 : decode cX10_take 126 = .ok (.getfield 37, 3) := by decide +kernel
theorem dX10_take_129 : decode cX10_take 129 = .ok (.putfield 37, 3) := by decide +kernel
theorem dX10_take_132 : decode cX10_take 132 = .ok (.aload_n 0, 1) := by decide +kernel
theorem dX10_take_133 : decode cX10_take 133 = .ok (.aload_n 1, 1) := by decide +kernel
theorem dX10_take_134 : decode cX10_take 134 = .ok (.getfield 40, 3) := by decide +kernel
theorem dX10_take_137 : decode cX10_take 137 = .ok (.putfield 40, 3) := by decide +kernel
theorem dX10_take_140 : decode cX10_take 140 = .ok (.aload_n 0, 1) := by decide +kernel
theorem dX10_take_141 : decode cX10_take 141 = .ok (.aload_n 1, 1) := by decide +kernel
theorem dX10_take_142 : decode cX10_take 142 = .ok (.getfield 43, 3) := by decide +kernel
theorem dX10_take_145 : decode cX10_take 145 = .ok (.putfield 43, 3) := by decide +kernel
theorem dX10_take_148 : decode cX10_take 148 = .ok (.aload_n 0, 1) := by decide +kernel
theorem dX10_take_149 : decode cX10_take 149 = .ok (.aload_n 1, 1) := by decide +kernel
theorem dX10_take_150 : decode cX10_take 150 = .ok (.getfield 46, 3) := by decide +kernel
theorem dX10_take_153 : decode cX10_take 153 = .ok (.putfield 46, 3) := by decide +kernel
theorem dX10_take_156 : decode cX10_take 156 = .ok (.aload_n 0, 1) := by decide +kernel
theorem dX10_take_157 : decode cX10_take 157 = .ok (.aload_n 1, 1) := by decide +kernel
theorem dX10_take_158 : decode cX10_take 158 = .ok (.getfield 49, 3) := by decide +kernel
theorem dX10_take_161 : decode cX10_take 161 = .ok (.putfield 49, 3) := by decide +kernel
theorem dX10_take_164 : decode cX10_take 164 = .ok (.return_, 1) := by decide +kernel
theorem dX12_init_0 : decode cX12_init 0 = .ok (.aload_n 0, 1) := by decide +kernel
theorem dX12_init_1 : decode cX12_init 1 = .ok (.invokespecial 1, 3) := by decide +kernel
theorem dX12_init_4 : decode cX12_init 4 = .ok (.aload_n 0, 1) := by decide +kernel
theorem dX12_init_5 : decode cX12_init 5 = .ok (.sipush 800, 3) := by decide +kernel
theorem dX12_init_8 : decode cX12_init 8 = .ok (.newarray .int, 2) := by decide +kernel
theorem dX12_init_10 : decode cX12_init 10 = .ok (.putfield 7, 3) := by decide +kernel
theorem dX12_init_13 : decode cX12_init 13 = .ok (.aload_n 0, 1) := by decide +kernel
theorem dX12_init_14 : decode cX12_init 14 = .ok (.bipush 14, 2) := by decide +kernel
theorem dX12_init_16 : decode cX12_init 16 = .ok (.newarray .int, 2) := by decide +kernel
theorem dX12_init_18 : decode cX12_init 18 = .ok (.putfield 13, 3) := by decide +kernel
theorem dX12_init_21 : decode cX12_init 21 = .ok (.aload_n 0, 1) := by decide +kernel
theorem dX12_init_22 : decode cX12_init 22 = .ok (.bipush 6, 2) := by decide +kernel
theorem dX12_init_24 : decode cX12_init 24 = .ok (.newarray .int, 2) := by decide +kernel
theorem dX12_init_26 : decode cX12_init 26 = .ok (.putfield 16, 3) := by decide +kernel
theorem dX12_init_29 : decode cX12_init 29 = .ok (.aload_n 0, 1) := by decide +kernel
theorem dX12_init_30 : decode cX12_init 30 = .ok (.bipush 6, 2) := by decide +kernel
theorem dX12_init_32 : decode cX12_init 32 = .ok (.newarray .int, 2) := by decide +kernel
theorem dX12_init_34 : decode cX12_init 34 = .ok (.putfield 19, 3) := by decide +kernel
theorem dX12_init_37 : decode cX12_init 37 = .ok (.aload_n 0, 1) := by decide +kernel
theorem dX12_init_38 : decode cX12_init 38 = .ok (.bipush 6, 2) := by decide +kernel
theorem dX12_init_40 : decode cX12_init 40 = .ok (.newarray .int, 2) := by decide +kernel
theorem dX12_init_42 : decode cX12_init 42 = .ok (.putfield 22, 3) := by decide +kernel
theorem dX12_init_45 : decode cX12_init 45 = .ok (.aload_n 0, 1) := by decide +kernel
theorem dX12_init_46 : decode cX12_init 46 = .ok (.bipush 12, 2) := by decide +kernel
theorem dX12_init_48 : decode cX12_init 48 = .ok (.newarray .int, 2) := by decide +kernel
theorem dX12_init_50 : decode cX12_init 50 = .ok (.putfield 25, 3) := by decide +kernel
theorem dX12_init_53 : decode cX12_init 53 = .ok (.aload_n 0, 1) := by decide +kernel
theorem dX12_init_54 : decode cX12_init 54 = .ok (.bipush 12, 2) := by decide +kernel
theorem dX12_init_56 : decode cX12_init 56 = .ok (.newarray .int, 2) := by decide +kernel
theorem dX12_init_58 : decode cX12_init 58 = .ok (.putfield 28, 3) := by decide +kernel
theorem dX12_init_61 : decode cX12_init 61 = .ok (.aload_n 0, 1) := by decide +kernel
theorem dX12_init_62 : decode cX12_init 62 = .ok (.bipush 12, 2) := by decide +kernel
theorem dX12_init_64 : decode cX12_init 64 = .ok (.newarray .int, 2) := by decide +kernel
theorem dX12_init_66 : decode cX12_init 66 = .ok (.putfield 31, 3) := by decide +kernel
theorem dX12_init_69 : decode cX12_init 69 = .ok (.aload_n 0, 1) := by decide +kernel
theorem dX12_init_70 : decode cX12_init 70 = .ok (.bipush 12, 2) := by decide +kernel
theorem dX12_init_72 : decode cX12_init 72 = .ok (.newarray .boolean, 2) := by decide +kernel
theorem dX12_init_74 : decode cX12_init 74 = .ok (.putfield 34, 3) := by decide +kernel
theorem dX12_init_77 : decode cX12_init 77 = .ok (.aload_n 0, 1) := by decide +kernel
theorem dX12_init_78 : decode cX12_init 78 = .ok (.bipush 12, 2) := by decide +kernel
theorem dX12_init_80 : decode cX12_init 80 = .ok (.newarray .int, 2) := by decide +kernel
theorem dX12_init_82 : decode cX12_init 82 = .ok (.dup, 1) := by decide +kernel
theorem dX12_init_83 : decode cX12_init 83 = .ok (.iconst 0, 1) := by decide +kernel
theorem dX12_init_84 : decode cX12_init 84 = .ok (.iconst (-1), 1) := by decide +kernel
theorem dX12_init_85 : decode cX12_init 85 = .ok (.iastore, 1) := by decide +kernel
theorem dX12_init_86 : decode cX12_init 86 = .ok (.dup, 1) := by decide +kernel
theorem dX12_init_87 : decode cX12_init 87 = .ok (.iconst 1, 1) := by decide +kernel
theorem dX12_init_88 : decode cX12_init 88 = .ok (.iconst (-1), 1) := by decide +kernel
theorem dX12_init_89 : decode cX12_init 89 = .ok (.iastore, 1) := by decide +kernel
theorem dX12_init_90 : decode cX12_init 90 = .ok (.dup, 1) := by decide +kernel
theorem dX12_init_91 : decode cX12_init 91 = .ok (.iconst 2, 1) := by decide +kernel
theorem dX12_init_92 : decode cX12_init 92 = .ok (.iconst (-1), 1) := by decide +kernel
theorem dX12_init_93 : decode cX12_init 93 = .ok (.iastore, 1) := by decide +kernel
theorem dX12_init_94 : decode cX12_init 94 = .ok (.dup, 1) := by decide +kernel
theorem dX12_init_95 : decode cX12_init 95 = .ok (.iconst 3, 1) := by decide +kernel
theorem dX12_init_96 : decode cX12_init 96 = .ok (.iconst (-1), 1) := by decide +kernel
theorem dX12_init_97 : decode cX12_init 97 = .ok (.iastore, 1) := by decide +kernel
theorem dX12_init_98 : decode cX12_init 98 = .ok (.dup, 1) := by decide +kernel
theorem dX12_init_99 : decode cX12_init 99 = .ok (.iconst 4, 1) := by decide +kernel
theorem dX12_init_100 : decode cX12_init 100 = .ok (.iconst (-1), 1) := by decide +kernel
theorem dX12_init_101 : decode cX12_init 101 = .ok (.iastore, 1) := by decide +kernel
theorem dX12_init_102 : decode cX12_init 102 = .ok (.dup, 1) := by decide +kernel
theorem dX12_init_103 : decode cX12_init 103 = .ok (.iconst 5, 1) := by decide +kernel
theorem dX12_init_104 : decode cX12_init 104 = .ok (.iconst (-1), 1) := by decide +kernel
theorem dX12_init_105 : decode cX12_init 105 = .ok (.iastore, 1) := by decide +kernel
theorem dX12_init_106 : decode cX12_init 106 = .ok (.dup, 1) := by decide +kernel
theorem dX12_init_107 : decode cX12_init 107 = .ok (.bipush 6, 2) := by decide +kernel
theorem dX12_init_109 : decode cX12_init 109 = .ok (.iconst (-1), 1) := by decide +kernel
theorem dX12_init_110 : decode cX12_init 110 = .ok (.iastore, 1) := by decide +kernel
theorem dX12_init_111 : decode cX12_init 111 = .ok (.dup, 1) := by decide +kernel
theorem dX12_init_112 : decode cX12_init 112 = .ok (.bipush 7, 2) := by decide +kernel
theorem dX12_init_114 : decode cX12_init 114 = .ok (.iconst (-1), 1) := by decide +kernel
theorem dX12_init_115 : decode cX12_init 115 = .ok (.iastore, 1) := by decide +kernel
theorem dX12_init_116 : decode cX12_init 116 = .ok (.dup, 1) := by decide +kernel
theorem dX12_init_117 : decode cX12_init 117 = .ok (.bipush 8, 2) := by decide +kernel
theorem dX12_init_119 : decode cX12_init 119 = .ok (.iconst (-1), 1) := by decide +kernel
theorem dX12_init_120 : decode cX12_init 120 = .ok (.iastore, 1) := by decide +kernel
theorem dX12_init_121 : decode cX12_init 121 = .ok (.dup, 1) := by decide +kernel
theorem dX12_init_122 : decode cX12_init 122 = .ok (.bipush 9, 2) := by decide +kernel
theorem dX12_init_124 : decode cX12_init 124 = .ok (.iconst (-1), 1) := by decide +kernel
theorem dX12_init_125 : decode cX12_init 125 = .ok (.iastore, 1) := by decide +kernel
theorem dX12_init_126 : decode cX12_init 126 = .ok (.dup, 1) := by decide +kernel
theorem dX12_init_127 : decode cX12_init 127 = .ok (.bipush 10, 2) := by decide +kernel
theorem dX12_init_129 : decode cX12_init 129 = .ok (.iconst (-1), 1) := by decide +kernel
theorem dX12_init_130 : decode cX12_init 130 = .ok (.iastore, 1) := by decide +kernel
theorem dX12_init_131 : decode cX12_init 131 = .ok (.dup, 1) := by decide +kernel
theorem dX12_init_132 : decode cX12_init 132 = .ok (.bipush 11, 2) := by decide +kernel
theorem dX12_init_134 : decode cX12_init 134 = .ok (.iconst (-1), 1) := by decide +kernel
theorem dX12_init_135 : decode cX12_init 135 = .ok (.iastore, 1) := by decide +kernel
theorem dX12_init_136 : decode cX12_init 136 = .ok (.putfield 38, 3) := by decide +kernel
theorem dX12_init_139 : decode cX12_init 139 = .ok (.aload_n 0, 1) := by decide +kernel
theorem dX12_init_140 : decode cX12_init 140 = .ok (.bipush 12, 2) := by decide +kernel
theorem dX12_init_142 : decode cX12_init 142 = .ok (.newarray .int, 2) := by decide +kernel
theorem dX12_init_144 : decode cX12_init 144 = .ok (.putfield 41, 3) := by decide +kernel
theorem dX12_init_147 : decode cX12_init 147 = .ok (.aload_n 0, 1) := by decide +kernel
theorem dX12_init_148 : decode cX12_init 148 = .ok (.bipush 12, 2) := by decide +kernel
theorem dX12_init_150 : decode cX12_init 150 = .ok (.newarray .int, 2) := by decide +kernel
theorem dX12_init_152 : decode cX12_init 152 = .ok (.putfield 44, 3) := by decide +kernel
theorem dX12_init_155 : decode cX12_init 155 = .ok (.aload_n 0, 1) := by decide +kernel
theorem dX12_init_156 : decode cX12_init 156 = .ok (.bipush 8, 2) := by decide +kernel
theorem dX12_init_158 : decode cX12_init 158 = .ok (.newarray .int, 2) := by decide +kernel
theorem dX12_init_160 : decode cX12_init 160 = .ok (.putfield 47, 3) := by decide +kernel
theorem dX12_init_163 : decode cX12_init 163 = .ok (.aload_n 0, 1) := by decide +kernel
theorem dX12_init_164 : decode cX12_init 164 = .ok (.bipush 8, 2) := by decide +kernel
theorem dX12_init_166 : decode cX12_init 166 = .ok (.newarray .int, 2) := by decide +kernel
theorem dX12_init_168 : decode cX12_init 168 = .ok (.putfield 50, 3) := by decide +kernel
theorem dX12_init_171 : decode cX12_init 171 = .ok (.aload_n 0, 1) := by decide +kernel
theorem dX12_init_172 : decode cX12_init 172 = .ok (.bipush 24, 2) := by decide +kernel
theorem dX12_init_174 : decode cX12_init 174 = .ok (.newarray .int, 2) := by decide +kernel
theorem dX12_init_176 : decode cX12_init 176 = .ok (.putfield 53, 3) := by decide +kernel
theorem dX12_init_179 : decode cX12_init 179 = .ok (.aload_n 0, 1) := by decide +kernel
theorem dX12_init_180 : decode cX12_init 180 = .ok (.sipush 192, 3) := by decide +kernel
theorem dX12_init_183 : decode cX12_init 183 = .ok (.newarray .int, 2) := by decide +kernel
theorem dX12_init_185 : decode cX12_init 185 = .ok (.putfield 56, 3) := by decide +kernel
theorem dX12_init_188 : decode cX12_init 188 = .ok (.aload_n 0, 1) := by decide +kernel
theorem dX12_init_189 : decode cX12_init 189 = .ok (.bipush 6, 2) := by decide +kernel
theorem dX12_init_191 : decode cX12_init 191 = .ok (.newarray .int, 2) := by decide +kernel
theorem dX12_init_193 : decode cX12_init 193 = .ok (.putfield 59, 3) := by decide +kernel
theorem dX12_init_196 : decode cX12_init 196 = .ok (.aload_n 0, 1) := by decide +kernel
theorem dX12_init_197 : decode cX12_init 197 = .ok (.bipush 6, 2) := by decide +kernel
theorem dX12_init_199 : decode cX12_init 199 = .ok (.newarray .int, 2) := by decide +kernel
theorem dX12_init_201 : decode cX12_init 201 = .ok (.putfield 62, 3) := by decide +kernel
theorem dX12_init_204 : decode cX12_init 204 = .ok (.aload_n 0, 1) := by decide +kernel
theorem dX12_init_205 : decode cX12_init 205 = .ok (.bipush 10, 2) := by decide +kernel
theorem dX12_init_207 : decode cX12_init 207 = .ok (.newarray .int, 2) := by decide +kernel
theorem dX12_init_209 : decode cX12_init 209 = .ok (.putfield 65, 3) := by decide +kernel
theorem dX12_init_212 : decode cX12_init 212 = .ok (.aload_n 0, 1) := by decide +kernel
theorem dX12_init_213 : decode cX12_init 213 = .ok (.bipush 10, 2) := by decide +kernel
theorem dX12_init_215 : decode cX12_init 215 = .ok (.newarray .int, 2) := by decide +kernel
theorem dX12_init_217 : decode cX12_init 217 = .ok (.putfield 68, 3) := by decide +kernel
theorem dX12_init_220 : decode cX12_init 220 = .ok (.aload_n 0, 1) := by decide +kernel
theorem dX12_init_221 : decode cX12_init 221 = .ok (.sipush 128, 3) := by decide +kernel
theorem dX12_init_224 : decode cX12_init 224 = .ok (.newarray .int, 2) := by decide +kernel
theorem dX12_init_226 : decode cX12_init 226 = .ok (.putfield 71, 3) := by decide +kernel
theorem dX12_init_229 : decode cX12_init 229 = .ok (.aload_n 0, 1) := by decide +kernel
theorem dX12_init_230 : decode cX12_init 230 = .ok (.sipush 128, 3) := by decide +kernel
theorem dX12_init_233 : decode cX12_init 233 = .ok (.newarray .int, 2) := by decide +kernel
theorem dX12_init_235 : decode cX12_init 235 = .ok (.putfield 74, 3) := by decide +kernel
theorem dX12_init_238 : decode cX12_init 238 = .ok (.aload_n 0, 1) := by decide +kernel
theorem dX12_init_239 : decode cX12_init 239 = .ok (.iconst (-1), 1) := by decide +kernel
theorem dX12_init_240 : decode cX12_init 240 = .ok (.putfield 77, 3) := by decide +kernel
theorem dX12_init_243 : decode cX12_init 243 = .ok (.aload_n 0, 1) := by decide +kernel
theorem dX12_init_244 : decode cX12_init 244 = .ok (.iconst 2, 1) := by decide +kernel
theorem dX12_init_245 : decode cX12_init 245 = .ok (.newarray .int, 2) := by decide +kernel
theorem dX12_init_247 : decode cX12_init 247 = .ok (.putfield 81, 3) := by decide +kernel
theorem dX12_init_250 : decode cX12_init 250 = .ok (.aload_n 0, 1) := by decide +kernel
theorem dX12_init_251 : decode cX12_init 251 = .ok (.iconst 2, 1) := by decide +kernel
theorem dX12_init_252 : decode cX12_init 252 = .ok (.newarray .int, 2) := by decide +kernel
theorem dX12_init_254 : decode cX12_init 254 = .ok (.putfield 84, 3) := by decide +kernel
theorem dX12_init_257 : decode cX12_init 257 = .ok (.aload_n 0, 1) := by decide +kernel
theorem dX12_init_258 : decode cX12_init 258 = .ok (.iconst 2, 1) := by decide +kernel
theorem dX12_init_259 : decode cX12_init 259 = .ok (.newarray .int, 2) := by decide +kernel
theorem dX12_init_261 : decode cX12_init 261 = .ok (.putfield 87, 3) := by decide +kernel
theorem dX12_init_264 : decode cX12_init 264 = .ok (.aload_n 0, 1) := by decide +kernel
theorem dX12_init_265 : decode cX12_init 265 = .ok (.iconst 2, 1) := by decide +kernel
theorem dX12_init_266 : decode cX12_init 266 = .ok (.newarray .int, 2) := by decide +kernel
theorem dX12_init_268 : decode cX12_init 268 = .ok (.putfield 90, 3) := by decide +kernel
theorem dX12_init_271 : decode cX12_init 271 = .ok (.aload_n 0, 1) := by decide +kernel
theorem dX12_init_272 : decode cX12_init 272 = .ok (.iconst 2, 1) := by decide +kernel
theorem dX12_init_273 : decode cX12_init 273 = .ok (.newarray .int, 2) := by decide +kernel
theorem dX12_init_275 : decode cX12_init 275 = .ok (.putfield 93, 3) := by decide +kernel
theorem dX12_init_278 : decode cX12_init 278 = .ok (.aload_n 0, 1) := by decide +kernel
theorem dX12_init_279 : decode cX12_init 279 = .ok (.bipush 6, 2) := by decide +kernel
theorem dX12_init_281 : decode cX12_init 281 = .ok (.newarray .int, 2) := by decide +kernel
theorem dX12_init_283 : decode cX12_init 283 = .ok (.putfield 96, 3) := by decide +kernel
theorem dX12_init_286 : decode cX12_init 286 = .ok (.aload_n 0, 1) := by decide +kernel
theorem dX12_init_287 : decode cX12_init 287 = .ok (.bipush 6, 2) := by decide +kernel
theorem dX12_init_289 : decode cX12_init 289 = .ok (.newarray .int, 2) := by decide +kernel
theorem dX12_init_291 : decode cX12_init 291 = .ok (.putfield 99, 3) := by decide +kernel
theorem dX12_init_294 : decode cX12_init 294 = .ok (.aload_n 0, 1) := by decide +kernel
theorem dX12_init_295 : decode cX12_init 295 = .ok (.bipush 12, 2) := by decide +kernel
theorem dX12_init_297 : decode cX12_init 297 = .ok (.newarray .int, 2) := by decide +kernel
theorem dX12_init_299 : decode cX12_init 299 = .ok (.putfield 102, 3) := by decide +kernel
theorem dX12_init_302 : decode cX12_init 302 = .ok (.aload_n 0, 1) := by decide +kernel
theorem dX12_init_303 : decode cX12_init 303 = .ok (.bipush 24, 2) := by decide +kernel
theorem dX12_init_305 : decode cX12_init 305 = .ok (.newarray .int, 2) := by decide +kernel
theorem dX12_init_307 : decode cX12_init 307 = .ok (.putfield 105, 3) := by decide +kernel
theorem dX12_init_310 : decode cX12_init 310 = .ok (.aload_n 0, 1) := by decide +kernel
theorem dX12_init_311 : decode cX12_init 311 = .ok (.iconst 2, 1) := by decide +kernel
theorem dX12_init_312 : decode cX12_init 312 = .ok (.newarray .int, 2) := by decide +kernel
theorem dX12_init_314 : decode cX12_init 314 = .ok (.putfield 108, 3) := by decide +kernel
theorem dX12_init_317 : decode cX12_init 317 = .ok (.aload_n 0, 1) := by decide +kernel
theorem dX12_init_318 : decode cX12_init 318 = .ok (.bipush 24, 2) := by decide +kernel
theorem dX12_init_320 : decode cX12_init 320 = .ok (.newarray .int, 2) := by decide +kernel
theorem dX12_init_322 : decode cX12_init 322 = .ok (.putfield 111, 3) := by decide +kernel
theorem dX12_init_325 : decode cX12_init 325 = .ok (.aload_n 0, 1) := by decide +kernel
theorem dX12_init_326 : decode cX12_init 326 = .ok (.bipush 24, 2) := by decide +kernel
theorem dX12_init_328 : decode cX12_init 328 = .ok (.newarray .int, 2) := by decide +kernel
theorem dX12_init_330 : decode cX12_init 330 = .ok (.putfield 114, 3) := by decide +kernel
theorem dX12_init_333 : decode cX12_init 333 = .ok (.aload_n 0, 1) := by decide +kernel
theorem dX12_init_334 : decode cX12_init 334 = .ok (.bipush 7, 2) := by decide +kernel
theorem dX12_init_336 : decode cX12_init 336 = .ok (.newarray .long, 2) := by decide +kernel
theorem dX12_init_338 : decode cX12_init 338 = .ok (.putfield 117, 3) := by decide +kernel
theorem dX12_init_341 : decode cX12_init 341 = .ok (.aload_n 0, 1) := by decide +kernel
theorem dX12_init_342 : decode cX12_init 342 = .ok (.bipush 64, 2) := by decide +kernel
theorem dX12_init_344 : decode cX12_init 344 = .ok (.newarray .long, 2) := by decide +kernel
theorem dX12_init_346 : decode cX12_init 346 = .ok (.putfield 121, 3) := by decide +kernel
theorem dX12_init_349 : decode cX12_init 349 = .ok (.aload_n 0, 1) := by decide +kernel
theorem dX12_init_350 : decode cX12_init 350 = .ok (.sipush 5000, 3) := by decide +kernel
theorem dX12_init_353 : decode cX12_init 353 = .ok (.newarray .int, 2) := by decide +kernel
theorem dX12_init_355 : decode cX12_init 355 = .ok (.putfield 124, 3) := by decide +kernel
theorem dX12_init_358 : decode cX12_init 358 = .ok (.aload_n 0, 1) := by decide +kernel
theorem dX12_init_359 : decode cX12_init 359 = .ok (.sipush 5000, 3) := by decide +kernel
theorem dX12_init_362 : decode cX12_init 362 = .ok (.newarray .int, 2) := by decide +kernel
theorem dX12_init_364 : decode cX12_init 364 = .ok (.putfield 127, 3) := by decide +kernel
theorem dX12_init_367 : decode cX12_init 367 = .ok (.aload_n 0, 1) := by decide +kernel
theorem dX12_init_368 : decode cX12_init 368 = .ok (.bipush 72, 2) := by decide +kernel
theorem dX12_init_370 : decode cX12_init 370 = .ok (.newarray .int, 2) := by decide +kernel
theorem dX12_init_372 : decode cX12_init 372 = .ok (.putfield 130, 3) := by decide +kernel
theorem dX12_init_375 : decode cX12_init 375 = .ok (.aload_n 0, 1) := by decide +kernel
theorem dX12_init_376 : decode cX12_init 376 = .ok (.bipush 72, 2) := by decide +kernel
theorem dX12_init_378 : decode cX12_init 378 = .ok (.newarray .int, 2) := by decide +kernel
theorem dX12_init_380 : decode cX12_init 380 = .ok (.putfield 133, 3) := by decide +kernel
theorem dX12_init_383 : decode cX12_init 383 = .ok (.aload_n 0, 1) := by decide +kernel
theorem dX12_init_384 : decode cX12_init 384 = .ok (.iconst 3, 1) := by decide +kernel
theorem dX12_init_385 : decode cX12_init 385 = .ok (.newarray .int, 2) := by decide +kernel
theorem dX12_init_387 : decode cX12_init 387 = .ok (.putfield 136, 3) := by decide +kernel
theorem dX12_init_390 : decode cX12_init 390 = .ok (.aload_n 0, 1) := by decide +kernel
theorem dX12_init_391 : decode cX12_init 391 = .ok (.iconst 3, 1) := by decide +kernel
theorem dX12_init_392 : decode cX12_init 392 = .ok (.newarray .int, 2) := by decide +kernel
theorem dX12_init_394 : decode cX12_init 394 = .ok (.putfield 139, 3) := by decide +kernel
theorem dX12_init_397 : decode cX12_init 397 = .ok (.aload_n 0, 1) := by decide +kernel
theorem dX12_init_398 : decode cX12_init 398 = .ok (.iconst (-1), 1) := by decide +kernel
theorem dX12_init_399 : decode cX12_init 399 = .ok (.putfield 142, 3) := by decide +kernel
theorem dX12_init_402 : decode cX12_init 402 = .ok (.aload_n 0, 1) := by decide +kernel
theorem dX12_init_403 : decode cX12_init 403 = .ok (.bipush 24, 2) := by decide +kernel
theorem dX12_init_405 : decode cX12_init 405 = .ok (.newarray .int, 2) := by decide +kernel
theorem dX12_init_407 : decode cX12_init 407 = .ok (.putfield 145, 3) := by decide +kernel
theorem dX12_init_410 : decode cX12_init 410 = .ok (.aload_n 0, 1) := by decide +kernel
theorem dX12_init_411 : decode cX12_init 411 = .ok (.bipush 24, 2) := by decide +kernel
theorem dX12_init_413 : decode cX12_init 413 = .ok (.newarray .int, 2) := by decide +kernel
theorem dX12_init_415 : decode cX12_init 415 = .ok (.putfield 148, 3) := by decide +kernel
theorem dX12_init_418 : decode cX12_init 418 = .ok (.aload_n 0, 1) := by decide +kernel
theorem dX12_init_419 : decode cX12_init 419 = .ok (.bipush 24, 2) := by decide +kernel
theorem dX12_init_421 : decode cX12_init 421 = .ok (.newarray .boolean, 2) := by decide +kernel
theorem dX12_init_423 : decode cX12_init 423 = .ok (.putfield 151, 3) := by decide +kernel
theorem dX12_init_426 : decode cX12_init 426 = .ok (.aload_n 0, 1) := by decide +kernel
theorem dX12_init_427 : decode cX12_init 427 = .ok (.iconst 4, 1) := by decide +kernel
theorem dX12_init_428 : decode cX12_init 428 = .ok (.newarray .int, 2) := by decide +kernel
theorem dX12_init_430 : decode cX12_init 430 = .ok (.putfield 154, 3) := by decide +kernel
theorem dX12_init_433 : decode cX12_init 433 = .ok (.aload_n 0, 1) := by decide +kernel
theorem dX12_init_434 : decode cX12_init 434 = .ok (.iconst 4, 1) := by decide +kernel
theorem dX12_init_435 : decode cX12_init 435 = .ok (.newarray .int, 2) := by decide +kernel
theorem dX12_init_437 : decode cX12_init 437 = .ok (.putfield 157, 3) := by decide +kernel
theorem dX12_init_440 : decode cX12_init 440 = .ok (.aload_n 0, 1) := by decide +kernel
theorem dX12_init_441 : decode cX12_init 441 = .ok (.invokevirtual 160, 3) := by decide +kernel
theorem dX12_init_444 : decode cX12_init 444 = .ok (.return_, 1) := by decide +kernel
theorem dX12_areVerses_0 : decode cX12_areVerses 0 = .ok (.iload_n 1, 1) := by decide +kernel
theorem dX12_areVerses_1 : decode cX12_areVerses 1 = .ok (.ifCond .lt 19, 3) := by decide +kernel
theorem dX12_areVerses_4 : decode cX12_areVerses 4 = .ok (.iload_n 1, 1) := by decide +kernel
theorem dX12_areVerses_5 : decode cX12_areVerses 5 = .ok (.iconst 1, 1) := by decide +kernel
theorem dX12_areVerses_6 : decode cX12_areVerses 6 = .ok (.aload_n 0, 1) := by decide +kernel
theorem dX12_areVerses_7 : decode cX12_areVerses 7 = .ok (.getfield 13, 3) := by decide +kernel
theorem dX12_areVerses_10 : decode cX12_areVerses 10 = .ok (.iconst 2, 1) := by decide +kernel
theorem dX12_areVerses_11 : decode cX12_areVerses 11 = .ok (.iaload, 1) := by decide +kernel
theorem dX12_areVerses_12 : decode cX12_areVerses 12 = .ok (.ishl, 1) := by decide +kernel
theorem dX12_areVerses_13 : decode cX12_areVerses 13 = .ok (.if_icmp .ge 7, 3) := by decide +kernel
theorem dX12_areVerses_16 : decode cX12_areVerses 16 = .ok (.iconst 1, 1) := by decide +kernel
theorem dX12_areVerses_17 : decode cX12_areVerses 17 = .ok (.goto 4, 3) := by decide +kernel
theorem dX12_areVerses_20 : decode cX12_areVerses 20 = .ok (.iconst 0, 1) := by decide +kernel
theorem dX12_areVerses_21 : decode cX12_areVerses 21 = .ok (.ireturn, 1) := by decide +kernel
theorem dX12_back_0 : decode cX12_back 0 = .ok (.aload_n 0, 1) := by decide +kernel
theorem dX12_back_1 : decode cX12_back 1 = .ok (.iconst 0, 1) := by decide +kernel
theorem dX12_back_2 : decode cX12_back 2 = .ok (.putfield 163, 3) := by decide +kernel
theorem dX12_back_5 : decode cX12_back 5 = .ok (.aload_n 0, 1) := by decide +kernel
theorem dX12_back_6 : decode cX12_back 6 = .ok (.getfield 328, 3) := by decide +kernel
theorem dX12_back_9 : decode cX12_back 9 = .ok (.ifCond .ne 5, 3) := by decide +kernel
theorem dX12_back_12 : decode cX12_back 12 = .ok (.iconst (-1), 1) := by decide +kernel
theorem dX12_back_13 : decode cX12_back 13 = .ok (.ireturn, 1) := by decide +kernel
theorem dX12_back_14 : decode cX12_back 14 = .ok (.aload_n 0, 1) := by decide +kernel
theorem dX12_back_15 : decode cX12_back 15 = .ok (.iconst 0, 1) := by decide +kernel
theorem dX12_back_16 : decode cX12_back 16 = .ok (.iconst 1, 1) := by decide +kernel
theorem dX12_back_17 : decode cX12_back 17 = .ok (.invokevirtual 508, 3) := by decide +kernel
theorem dX12_back_20 : decode cX12_back 20 = .ok (.aload_n 0, 1) := by decide +kernel
theorem dX12_back_21 : decode cX12_back 21 = .ok (.getfield 81, 3) := by decide +kernel
theorem dX12_back_24 : decode cX12_back 24 = .ok (.iconst 0, 1) := by decide +kernel
theorem dX12_back_25 : decode cX12_back 25 = .ok (.iaload, 1) := by decide +kernel
theorem dX12_back_26 : decode cX12_back 26 = .ok (.ireturn, 1) := by decide +kernel
theorem dX12_bar_0 : decode cX12_bar 0 = .ok (.aload_n 0, 1) := by decide +kernel
theorem dX12_bar_1 : decode cX12_bar 1 = .ok (.iconst 0, 1) := by decide +kernel
theorem dX12_bar_2 : decode cX12_bar 2 = .ok (.putfield 163, 3) := by decide +kernel
theorem dX12_bar_5 : decode cX12_bar 5 = .ok (.aload_n 0, 1) := by decide +kernel
theorem dX12_bar_6 : decode cX12_bar 6 = .ok (.iload_n 1, 1) := by decide +kernel
theorem dX12_bar_7 : decode cX12_bar 7 = .ok (.invokevirtual 332, 3) := by decide +kernel
theorem dX12_bar_10 : decode cX12_bar 10 = .ok (.ifCond .eq 13, 3) := by decide +kernel
theorem dX12_bar_13 : decode cX12_bar 13 = .ok (.iload_n 2, 1) := by decide +kernel
theorem dX12_bar_14 : decode cX12_bar 14 = .ok (.ifCond .lt 9, 3) := by decide +kernel
theorem dX12_bar_17 : decode cX12_bar 17 = .ok (.iload_n 2, 1) := by decide +kernel
theorem dX12_bar_18 : decode cX12_bar 18 = .ok (.bipush 8, 2) := by decide +kernel
theorem dX12_bar_20 : decode cX12_bar 20 = .ok (.if_icmp .lt 5, 3) := by decide +kernel
theorem dX12_bar_23 : decode cX12_bar 23 = .ok (.iconst (-1), 1) := by decide +kernel
theorem dX12_bar_24 : decode cX12_bar 24 = .ok (.ireturn, 1) := by decide +kernel
theorem dX12_bar_25 : decode cX12_bar 25 = .ok (.iconst 0, 1) := by decide +kernel
theorem dX12_bar_26 : decode cX12_bar 26 = .ok (.istore_n 3, 1) := by decide +kernel
theorem dX12_bar_27 : decode cX12_bar 27 = .ok (.iconst 0, 1) := by decide +kernel
theorem dX12_bar_28 : decode cX12_bar 28 = .ok (.istore 4, 2) := by decide +kernel
theorem dX12_bar_30 : decode cX12_bar 30 = .ok (.iload 4, 2) := by decide +kernel
theorem dX12_bar_32 : decode cX12_bar 32 = .ok (.aload_n 0, 1) := by decide +kernel
theorem dX12_bar_33 : decode cX12_bar 33 = .ok (.getfield 50, 3) := by decide +kernel
theorem dX12_bar_36 : decode cX12_bar 36 = .ok (.iload_n 1, 1) := by decide +kernel
theorem dX12_bar_37 : decode cX12_bar 37 = .ok (.iaload, 1) := by decide +kernel
theorem dX12_bar_38 : decode cX12_bar 38 = .ok (.if_icmp .ge 52, 3) := by decide +kernel
theorem dX12_bar_41 : decode cX12_bar 41 = .ok (.iconst 3, 1) := by decide +kernel
theorem dX12_bar_42 : decode cX12_bar 42 = .ok (.iload_n 1, 1) := by decide +kernel
theorem dX12_bar_43 : decode cX12_bar 43 = .ok (.imul, 1) := by decide +kernel
theorem dX12_bar_44 : decode cX12_bar 44 = .ok (.iload 4, 2) := by decide +kernel
theorem dX12_bar_46 : decode cX12_bar 46 = .ok (.iadd, 1) := by decide +kernel
theorem dX12_bar_47 : decode cX12_bar 47 = .ok (.istore 5, 2) := by decide +kernel
theorem dX12_bar_49 : decode cX12_bar 49 = .ok (.aload_n 0, 1) := by decide +kernel
theorem dX12_bar_50 : decode cX12_bar 50 = .ok (.getfield 105, 3) := by decide +kernel
theorem dX12_bar_53 : decode cX12_bar 53 = .ok (.iload 5, 2) := by decide +kernel
theorem dX12_bar_55 : decode cX12_bar 55 = .ok (.iaload, 1) := by decide +kernel
theorem dX12_bar_56 : decode cX12_bar 56 = .ok (.iconst (-1), 1) := by decide +kernel
theorem dX12_bar_57 : decode cX12_bar 57 = .ok (.if_icmp .eq 27, 3) := by decide +kernel
theorem dX12_bar_60 : decode cX12_bar 60 = .ok (.aload_n 0, 1) := by decide +kernel
theorem dX12_bar_61 : decode cX12_bar 61 = .ok (.iload 5, 2) := by decide +kernel
theorem dX12_bar_63 : decode cX12_bar 63 = .ok (.aload_n 0, 1) := by decide +kernel
theorem dX12_bar_64 : decode cX12_bar 64 = .ok (.getfield 105, 3) := by decide +kernel
theorem dX12_bar_67 : decode cX12_bar 67 = .ok (.iload 5, 2) := by decide +kernel
theorem dX12_bar_69 : decode cX12_bar 69 = .ok (.iaload, 1) := by decide +kernel
theorem dX12_bar_70 : decode cX12_bar 70 = .ok (.iload_n 2, 1) := by decide +kernel
theorem dX12_bar_71 : decode cX12_bar 71 = .ok (.invokevirtual 381, 3) := by decide +kernel
theorem dX12_bar_74 : decode cX12_bar 74 = .ok (.ifCond .eq 10, 3) := by decide +kernel
theorem dX12_bar_77 : decode cX12_bar 77 = .ok (.iload_n 3, 1) := by decide +kernel
theorem dX12_bar_78 : decode cX12_bar 78 = .ok (.iconst 1, 1) := by decide +kernel
theorem dX12_bar_79 : decode cX12_bar 79 = .ok (.iload 4, 2) := by decide +kernel
theorem dX12_bar_81 : decode cX12_bar 81 = .ok (.ishl, 1) := by decide +kernel
theorem dX12_bar_82 : decode cX12_bar 82 = .ok (.ior, 1) := by decide +kernel
theorem dX12_bar_83 : decode cX12_bar 83 = .ok (.istore_n 3, 1) := by decide +kernel
theorem dX12_bar_84 : decode cX12_bar 84 = .ok (.iinc 4 1, 3) := by decide +kernel
theorem dX12_bar_87 : decode cX12_bar 87 = .ok (.goto (-57), 3) := by decide +kernel
theorem dX12_bar_90 : decode cX12_bar 90 = .ok (.iload_n 3, 1) := by decide +kernel
theorem dX12_bar_91 : decode cX12_bar 91 = .ok (.ireturn, 1) := by decide +kernel
theorem dX12_begins_0 : decode cX12_begins 0 = .ok (.aload_n 0, 1) := by decide +kernel
theorem dX12_begins_1 : decode cX12_begins 1 = .ok (.getfield 81, 3) := by decide +kernel
theorem dX12_begins_4 : decode cX12_begins 4 = .ok (.iconst 0, 1) := by decide +kernel
theorem dX12_begins_5 : decode cX12_begins 5 = .ok (.iconst 0, 1) := by decide +kernel
theorem dX12_begins_6 : decode cX12_begins 6 = .ok (.iastore, 1) := by decide +kernel
theorem dX12_begins_7 : decode cX12_begins 7 = .ok (.aload_n 0, 1) := by decide +kernel
theorem dX12_begins_8 : decode cX12_begins 8 = .ok (.getfield 84, 3) := by decide +kernel
theorem dX12_begins_11 : decode cX12_begins 11 = .ok (.iconst 0, 1) := by decide +kernel
theorem dX12_begins_12 : decode cX12_begins 12 = .ok (.aload_n 0, 1) := by decide +kernel
theorem dX12_begins_13 : decode cX12_begins 13 = .ok (.getfield 13, 3) := by decide +kernel
theorem dX12_begins_16 : decode cX12_begins 16 = .ok (.iconst 4, 1) := by decide +kernel
theorem dX12_begins_17 : decode cX12_begins 17 = .ok (.iaload, 1) := by decide +kernel
theorem dX12_begins_18 : decode cX12_begins 18 = .ok (.iastore, 1) := by decide +kernel
theorem dX12_begins_19 : decode cX12_begins 19 = .ok (.aload_n 0, 1) := by decide +kernel
theorem dX12_begins_20 : decode cX12_begins 20 = .ok (.getfield 87, 3) := by decide +kernel
theorem dX12_begins_23 : decode cX12_begins 23 = .ok (.iconst 0, 1) := by decide +kernel
theorem dX12_begins_24 : decode cX12_begins 24 = .ok (.aload_n 0, 1) := by decide +kernel
theorem dX12_begins_25 : decode cX12_begins 25 = .ok (.getfield 13, 3) := by decide +kernel
theorem dX12_begins_28 : decode cX12_begins 28 = .ok (.iconst 5, 1) := by decide +kernel
theorem dX12_begins_29 : decode cX12_begins 29 = .ok (.iaload, 1) := by decide +kernel
theorem dX12_begins_30 : decode cX12_begins 30 = .ok (.iastore, 1) := by decide +kernel
theorem dX12_begins_31 : decode cX12_begins 31 = .ok (.aload_n 0, 1) := by decide +kernel
theorem dX12_begins_32 : decode cX12_begins 32 = .ok (.getfield 90, 3) := by decide +kernel
theorem dX12_begins_35 : decode cX12_begins 35 = .ok (.iconst 0, 1) := by decide +kernel
theorem dX12_begins_36 : decode cX12_begins 36 = .ok (.iconst 0, 1) := by decide +kernel
theorem dX12_begins_37 : decode cX12_begins 37 = .ok (.iastore, 1) := by decide +kernel
theorem dX12_begins_38 : decode cX12_begins 38 = .ok (.aload_n 0, 1) := by decide +kernel
theorem dX12_begins_39 : decode cX12_begins 39 = .ok (.getfield 93, 3) := by decide +kernel
theorem dX12_begins_42 : decode cX12_begins 42 = .ok (.iconst 0, 1) := by decide +kernel
theorem dX12_begins_43 : decode cX12_begins 43 = .ok (.iconst 0, 1) := by decide +kernel
theorem dX12_begins_44 : decode cX12_begins 44 = .ok (.iastore, 1) := by decide +kernel
theorem dX12_begins_45 : decode cX12_begins 45 = .ok (.aload_n 0, 1) := by decide +kernel
theorem dX12_begins_46 : decode cX12_begins 46 = .ok (.getfield 108, 3) := by decide +kernel
theorem dX12_begins_49 : decode cX12_begins 49 = .ok (.iconst 0, 1) := by decide +kernel
theorem dX12_begins_50 : decode cX12_begins 50 = .ok (.iconst 0, 1) := by decide +kernel
theorem dX12_begins_51 : decode cX12_begins 51 = .ok (.iastore, 1) := by decide +kernel
theorem dX12_begins_52 : decode cX12_begins 52 = .ok (.iconst 0, 1) := by decide +kernel
theorem dX12_begins_53 : decode cX12_begins 53 = .ok (.istore_n 1, 1) := by decide +kernel
theorem dX12_begins_54 : decode cX12_begins 54 = .ok (.iload_n 1, 1) := by decide +kernel
theorem dX12_begins_55 : decode cX12_begins 55 = .ok (.iconst 3, 1) := by decide +kernel
theorem dX12_begins_56 : decode cX12_begins 56 = .ok (.if_icmp .ge 35, 3) := by decide +kernel
theorem dX12_begins_59 : decode cX12_begins 59 = .ok (.aload_n 0, 1) := by decide +kernel
theorem dX12_begins_60 : decode cX12_begins 60 = .ok (.getfield 96, 3) := by decide +kernel
theorem dX12_begins_63 : decode cX12_begins 63 = .ok (.iload_n 1, 1) := by decide +kernel
theorem dX12_begins_64 : decode cX12_begins 64 = .ok (.iload_n 1, 1) := by decide +kernel
theorem dX12_begins_65 : decode cX12_begins 65 = .ok (.aload_n 0, 1) := by decide +kernel
theorem dX12_begins_66 : decode cX12_begins 66 = .ok (.getfield 13, 3) := by decide +kernel
theorem dX12_begins_69 : decode cX12_begins 69 = .ok (.iconst 0, 1) := by decide +kernel
theorem dX12_begins_70 : decode cX12_begins 70 = .ok (.iaload, 1) := by decide +kernel
theorem dX12_begins_71 : decode cX12_begins 71 = .ok (.if_icmp .ge 12, 3) := by decide +kernel
theorem dX12_begins_74 : decode cX12_begins 74 = .ok (.aload_n 0, 1) := by decide +kernel
theorem dX12_begins_75 : decode cX12_begins 75 = .ok (.getfield 22, 3) := by decide +kernel
theorem dX12_begins_78 : decode cX12_begins 78 = .ok (.iload_n 1, 1) := by decide +kernel
theorem dX12_begins_79 : decode cX12_begins 79 = .ok (.iaload, 1) := by decide +kernel
theorem dX12_begins_80 : decode cX12_begins 80 = .ok (.goto 4, 3) := by decide +kernel
theorem dX12_begins_83 : decode cX12_begins 83 = .ok (.iconst 0, 1) := by decide +kernel
theorem dX12_begins_84 : decode cX12_begins 84 = .ok (.iastore, 1) := by decide +kernel
theorem dX12_begins_85 : decode cX12_begins 85 = .ok (.iinc 1 1, 3) := by decide +kernel
theorem dX12_begins_88 : decode cX12_begins 88 = .ok (.goto (-34), 3) := by decide +kernel
theorem dX12_begins_91 : decode cX12_begins 91 = .ok (.iconst 0, 1) := by decide +kernel
theorem dX12_begins_92 : decode cX12_begins 92 = .ok (.istore_n 1, 1) := by decide +kernel
theorem dX12_begins_93 : decode cX12_begins 93 = .ok (.iload_n 1, 1) := by decide +kernel
theorem dX12_begins_94 : decode cX12_begins 94 = .ok (.iconst 3, 1) := by decide +kernel
theorem dX12_begins_95 : decode cX12_begins 95 = .ok (.if_icmp .ge 35, 3) := by decide +kernel
theorem dX12_begins_98 : decode cX12_begins 98 = .ok (.aload_n 0, 1) := by decide +kernel
theorem dX12_begins_99 : decode cX12_begins 99 = .ok (.getfield 99, 3) := by decide +kernel
theorem dX12_begins_102 : decode cX12_begins 102 = .ok (.iload_n 1, 1) := by decide +kernel
theorem dX12_begins_103 : decode cX12_begins 103 = .ok (.iload_n 1, 1) := by decide +kernel
theorem dX12_begins_104 : decode cX12_begins 104 = .ok (.aload_n 0, 1) := by decide +kernel
theorem dX12_begins_105 : decode cX12_begins 105 = .ok (.getfield 13, 3) := by decide +kernel
theorem dX12_begins_108 : decode cX12_begins 108 = .ok (.iconst 3, 1) := by decide +kernel
theorem dX12_begins_109 : decode cX12_begins 109 = .ok (.iaload, 1) := by decide +kernel
theorem dX12_begins_110 : decode cX12_begins 110 = .ok (.if_icmp .ge 12, 3) := by decide +kernel
theorem dX12_begins_113 : decode cX12_begins 113 = .ok (.aload_n 0, 1) := by decide +kernel
theorem dX12_begins_114 : decode cX12_begins 114 = .ok (.getfield 62, 3) := by decide +kernel
theorem dX12_begins_117 : decode cX12_begins 117 = .ok (.iload_n 1, 1) := by decide +kernel
theorem dX12_begins_118 : decode cX12_begins 118 = .ok (.iaload, 1) := by decide +kernel
theorem dX12_begins_119 : decode cX12_begins 119 = .ok (.goto 4, 3) := by decide +kernel
theorem dX12_begins_122 : decode cX12_begins 122 = .ok (.iconst 0, 1) := by decide +kernel
theorem dX12_begins_123 : decode cX12_begins 123 = .ok (.iastore, 1) := by decide +kernel
theorem dX12_begins_124 : decode cX12_begins 124 = .ok (.iinc 1 1, 3) := by decide +kernel
theorem dX12_begins_127 : decode cX12_begins 127 = .ok (.goto (-34), 3) := by decide +kernel
theorem dX12_begins_130 : decode cX12_begins 130 = .ok (.iconst 0, 1) := by decide +kernel
theorem dX12_begins_131 : decode cX12_begins 131 = .ok (.istore_n 1, 1) := by decide +kernel
theorem dX12_begins_132 : decode cX12_begins 132 = .ok (.iload_n 1, 1) := by decide +kernel
theorem dX12_begins_133 : decode cX12_begins 133 = .ok (.bipush 6, 2) := by decide +kernel
theorem dX12_begins_135 : decode cX12_begins 135 = .ok (.if_icmp .ge 16, 3) := by decide +kernel
theorem dX12_begins_138 : decode cX12_begins 138 = .ok (.aload_n 0, 1) := by decide +kernel
theorem dX12_begins_139 : decode cX12_begins 139 = .ok (.getfield 102, 3) := by decide +kernel
theorem dX12_begins_142 : decode cX12_begins 142 = .ok (.iload_n 1, 1) := by decide +kernel
theorem dX12_begins_143 : decode cX12_begins 143 = .ok (.iconst 0, 1) := by decide +kernel
theorem dX12_begins_144 : decode cX12_begins 144 = .ok (.iastore, 1) := by decide +kernel
theorem dX12_begins_145 : decode cX12_begins 145 = .ok (.iinc 1 1, 3) := by decide +kernel
theorem dX12_begins_148 : decode cX12_begins 148 = .ok (.goto (-16), 3) := by decide +kernel
theorem dX12_begins_151 : decode cX12_begins 151 = .ok (.iconst 0, 1) := by decide +kernel
theorem dX12_begins_152 : decode cX12_begins 152 = .ok (.istore_n 1, 1) := by decide +kernel
theorem dX12_begins_153 : decode cX12_begins 153 = .ok (.iload_n 1, 1) := by decide +kernel
theorem dX12_begins_154 : decode cX12_begins 154 = .ok (.bipush 12, 2) := by decide +kernel
theorem dX12_begins_156 : decode cX12_begins 156 = .ok (.if_icmp .ge 16, 3) := by decide +kernel
theorem dX12_begins_159 : decode cX12_begins 159 = .ok (.aload_n 0, 1) := by decide +kernel
theorem dX12_begins_160 : decode cX12_begins 160 = .ok (.getfield 105, 3) := by decide +kernel
theorem dX12_begins_163 : decode cX12_begins 163 = .ok (.iload_n 1, 1) := by decide +kernel
theorem dX12_begins_164 : decode cX12_begins 164 = .ok (.iconst (-1), 1) := by decide +kernel
theorem dX12_begins_165 : decode cX12_begins 165 = .ok (.iastore, 1) := by decide +kernel
theorem dX12_begins_166 : decode cX12_begins 166 = .ok (.iinc 1 1, 3) := by decide +kernel
theorem dX12_begins_169 : decode cX12_begins 169 = .ok (.goto (-16), 3) := by decide +kernel
theorem dX12_begins_172 : decode cX12_begins 172 = .ok (.return_, 1) := by decide +kernel
theorem dX12_best_0 : decode cX12_best 0 = .ok (.aload_n 0, 1) := by decide +kernel
theorem dX12_best_1 : decode cX12_best 1 = .ok (.iconst 0, 1) := by decide +kernel
theorem dX12_best_2 : decode cX12_best 2 = .ok (.putfield 163, 3) := by decide +kernel
theorem dX12_best_5 : decode cX12_best 5 = .ok (.iload_n 1, 1) := by decide +kernel
theorem dX12_best_6 : decode cX12_best 6 = .ok (.invokestatic 446, 3) := by decide +kernel
theorem dX12_best_9 : decode cX12_best 9 = .ok (.ifCond .eq 12, 3) := by decide +kernel
theorem dX12_best_12 : decode cX12_best 12 = .ok (.iload_n 2, 1) := by decide +kernel
theorem dX12_best_13 : decode cX12_best 13 = .ok (.ifCond .lt 8, 3) := by decide +kernel
theorem dX12_best_16 : decode cX12_best 16 = .ok (.iload_n 2, 1) := by decide +kernel
theorem dX12_best_17 : decode cX12_best 17 = .ok (.iconst 1, 1) := by decide +kernel
theorem dX12_best_18 : decode cX12_best 18 = .ok (.if_icmp .le 5, 3) := by decide +kernel
theorem dX12_best_21 : decode cX12_best 21 = .ok (.iconst (-1), 1) := by decide +kernel
theorem dX12_best_22 : decode cX12_best 22 = .ok (.ireturn, 1) := by decide +kernel
theorem dX12_best_23 : decode cX12_best 23 = .ok (.aload_n 0, 1) := by decide +kernel
theorem dX12_best_24 : decode cX12_best 24 = .ok (.iload_n 1, 1) := by decide +kernel
theorem dX12_best_25 : decode cX12_best 25 = .ok (.invokevirtual 449, 3) := by decide +kernel
theorem dX12_best_28 : decode cX12_best 28 = .ok (.iload_n 2, 1) := by decide +kernel
theorem dX12_best_29 : decode cX12_best 29 = .ok (.ifCond .ne 12, 3) := by decide +kernel
theorem dX12_best_32 : decode cX12_best 32 = .ok (.aload_n 0, 1) := by decide +kernel
theorem dX12_best_33 : decode cX12_best 33 = .ok (.getfield 124, 3) := by decide +kernel
theorem dX12_best_36 : decode cX12_best 36 = .ok (.iload_n 1, 1) := by decide +kernel
theorem dX12_best_37 : decode cX12_best 37 = .ok (.iaload, 1) := by decide +kernel
theorem dX12_best_38 : decode cX12_best 38 = .ok (.goto 9, 3) := by decide +kernel
theorem dX12_best_41 : decode cX12_best 41 = .ok (.aload_n 0, 1) := by decide +kernel
theorem dX12_best_42 : decode cX12_best 42 = .ok (.getfield 127, 3) := by decide +kernel
theorem dX12_best_45 : decode cX12_best 45 = .ok (.iload_n 1, 1) := by decide +kernel
theorem dX12_best_46 : decode cX12_best 46 = .ok (.iaload, 1) := by decide +kernel
theorem dX12_best_47 : decode cX12_best 47 = .ok (.ireturn, 1) := by decide +kernel
theorem dX12_bidOf_0 : decode cX12_bidOf 0 = .ok (.aload_n 0, 1) := by decide +kernel
theorem dX12_bidOf_1 : decode cX12_bidOf 1 = .ok (.getfield 117, 3) := by decide +kernel
theorem dX12_bidOf_4 : decode cX12_bidOf 4 = .ok (.iconst 0, 1) := by decide +kernel
theorem dX12_bidOf_5 : decode cX12_bidOf 5 = .ok (.lconst 0, 1) := by decide +kernel
theorem dX12_bidOf_6 : decode cX12_bidOf 6 = .ok (.lastore, 1) := by decide +kernel
theorem dX12_bidOf_7 : decode cX12_bidOf 7 = .ok (.aload_n 0, 1) := by decide +kernel
theorem dX12_bidOf_8 : decode cX12_bidOf 8 = .ok (.getfield 117, 3) := by decide +kernel
theorem dX12_bidOf_11 : decode cX12_bidOf 11 = .ok (.iconst 1, 1) := by decide +kernel
theorem dX12_bidOf_12 : decode cX12_bidOf 12 = .ok (.lconst 0, 1) := by decide +kernel
theorem dX12_bidOf_13 : decode cX12_bidOf 13 = .ok (.lastore, 1) := by decide +kernel
theorem dX12_bidOf_14 : decode cX12_bidOf 14 = .ok (.aload_n 0, 1) := by decide +kernel
theorem dX12_bidOf_15 : decode cX12_bidOf 15 = .ok (.getfield 117, 3) := by decide +kernel
theorem dX12_bidOf_18 : decode cX12_bidOf 18 = .ok (.iconst 2, 1) := by decide +kernel
theorem dX12_bidOf_19 : decode cX12_bidOf 19 = .ok (.lconst 0, 1) := by decide +kernel
theorem dX12_bidOf_20 : decode cX12_bidOf 20 = .ok (.lastore, 1) := by decide +kernel
theorem dX12_bidOf_21 : decode cX12_bidOf 21 = .ok (.aload_n 0, 1) := by decide +kernel
theorem dX12_bidOf_22 : decode cX12_bidOf 22 = .ok (.getfield 117, 3) := by decide +kernel
theorem dX12_bidOf_25 : decode cX12_bidOf 25 = .ok (.iconst 3, 1) := by decide +kernel
theorem dX12_bidOf_26 : decode cX12_bidOf 26 = .ok (.lconst 0, 1) := by decide +kernel
theorem dX12_bidOf_27 : decode cX12_bidOf 27 = .ok (.lastore, 1) := by decide +kernel
theorem dX12_bidOf_28 : decode cX12_bidOf 28 = .ok (.aload_n 0, 1) := by decide +kernel
theorem dX12_bidOf_29 : decode cX12_bidOf 29 = .ok (.getfield 117, 3) := by decide +kernel
theorem dX12_bidOf_32 : decode cX12_bidOf 32 = .ok (.iconst 4, 1) := by decide +kernel
theorem dX12_bidOf_33 : decode cX12_bidOf 33 = .ok (.lconst 0, 1) := by decide +kernel
theorem dX12_bidOf_34 : decode cX12_bidOf 34 = .ok (.lastore, 1) := by decide +kernel
theorem dX12_bidOf_35 : decode cX12_bidOf 35 = .ok (.aload_n 0, 1) := by decide +kernel
theorem dX12_bidOf_36 : decode cX12_bidOf 36 = .ok (.getfield 117, 3) := by decide +kernel
theorem dX12_bidOf_39 : decode cX12_bidOf 39 = .ok (.iconst 5, 1) := by decide +kernel
theorem dX12_bidOf_40 : decode cX12_bidOf 40 = .ok (.aload_n 0, 1) := by decide +kernel
theorem dX12_bidOf_41 : decode cX12_bidOf 41 = .ok (.getfield 81, 3) := by decide +kernel
theorem dX12_bidOf_44 : decode cX12_bidOf 44 = .ok (.iconst 0, 1) := by decide +kernel
theorem dX12_bidOf_45 : decode cX12_bidOf 45 = .ok (.iaload, 1) := by decide +kernel
theorem dX12_bidOf_46 : decode cX12_bidOf 46 = .ok (.i2l, 1) := by decide +kernel
theorem dX12_bidOf_47 : decode cX12_bidOf 47 = .ok (.lastore, 1) := by decide +kernel
theorem dX12_bidOf_48 : decode cX12_bidOf 48 = .ok (.aload_n 0, 1) := by decide +kernel
theorem dX12_bidOf_49 : decode cX12_bidOf 49 = .ok (.getfield 117, 3) := by decide +kernel
theorem dX12_bidOf_52 : decode cX12_bidOf 52 = .ok (.bipush 6, 2) := by decide +kernel
theorem dX12_bidOf_54 : decode cX12_bidOf 54 = .ok (.aload_n 0, 1) := by decide +kernel
theorem dX12_bidOf_55 : decode cX12_bidOf 55 = .ok (.getfield 50, 3) := by decide +kernel
theorem dX12_bidOf_58 : decode cX12_bidOf 58 = .ok (.iload_n 2, 1) := by decide +kernel
theorem dX12_bidOf_59 : decode cX12_bidOf 59 = .ok (.iaload, 1) := by decide +kernel
theorem dX12_bidOf_60 : decode cX12_bidOf 60 = .ok (.i2l, 1) := by decide +kernel
theorem dX12_bidOf_61 : decode cX12_bidOf 61 = .ok (.lastore, 1) := by decide +kernel
theorem dX12_bidOf_62 : decode cX12_bidOf 62 = .ok (.iconst 3, 1) := by decide +kernel
theorem dX12_bidOf_63 : decode cX12_bidOf 63 = .ok (.iload_n 2, 1) := by decide +kernel
theorem dX12_bidOf_64 : decode cX12_bidOf 64 = .ok (.imul, 1) := by decide +kernel
theorem dX12_bidOf_65 : decode cX12_bidOf 65 = .ok (.istore 4, 2) := by decide +kernel
theorem dX12_bidOf_67 : decode cX12_bidOf 67 = .ok (.iload 4, 2) := by decide +kernel
theorem dX12_bidOf_69 : decode cX12_bidOf 69 = .ok (.iconst 3, 1) := by decide +kernel
theorem dX12_bidOf_70 : decode cX12_bidOf 70 = .ok (.iload_n 2, 1) := by decide +kernel
theorem dX12_bidOf_71 : decode cX12_bidOf 71 = .ok (.imul, 1) := by decide +kernel
theorem dX12_bidOf_72 : decode cX12_bidOf 72 = .ok (.aload_n 0, 1) := by decide +kernel
theorem dX12_bidOf_73 : decode cX12_bidOf 73 = .ok (.getfield 50, 3) := by decide +kernel
theorem dX12_bidOf_76 : decode cX12_bidOf 76 = .ok (.iload_n 2, 1) := by decide +kernel
theorem dX12_bidOf_77 : decode cX12_bidOf 77 = .ok (.iaload, 1) := by decide +kernel
theorem dX12_bidOf_78 : decode cX12_bidOf 78 = .ok (.iadd, 1) := by decide +kernel
theorem dX12_bidOf_79 : decode cX12_bidOf 79 = .ok (.if_icmp .ge 71, 3) := by decide +kernel
theorem dX12_bidOf_82 : decode cX12_bidOf 82 = .ok (.aload_n 0, 1) := by decide +kernel
theorem dX12_bidOf_83 : decode cX12_bidOf 83 = .ok (.getfield 117, 3) := by decide +kernel
theorem dX12_bidOf_86 : decode cX12_bidOf 86 = .ok (.iconst 3, 1) := by decide +kernel
theorem dX12_bidOf_87 : decode cX12_bidOf 87 = .ok (.dup2, 1) := by decide +kernel
theorem dX12_bidOf_88 : decode cX12_bidOf 88 = .ok (.laload, 1) := by decide +kernel
theorem dX12_bidOf_89 : decode cX12_bidOf 89 = .ok (.aload_n 0, 1) := by decide +kernel
theorem dX12_bidOf_90 : decode cX12_bidOf 90 = .ok (.iload 4, 2) := by decide +kernel
theorem dX12_bidOf_92 : decode cX12_bidOf 92 = .ok (.invokevirtual 393, 3) := by decide +kernel
theorem dX12_bidOf_95 : decode cX12_bidOf 95 = .ok (.i2l, 1) := by decide +kernel
theorem dX12_bidOf_96 : decode cX12_bidOf 96 = .ok (.ladd, 1) := by decide +kernel
theorem dX12_bidOf_97 : decode cX12_bidOf 97 = .ok (.lastore, 1) := by decide +kernel
theorem dX12_bidOf_98 : decode cX12_bidOf 98 = .ok (.aload_n 0, 1) := by decide +kernel
theorem dX12_bidOf_99 : decode cX12_bidOf 99 = .ok (.getfield 117, 3) := by decide +kernel
theorem dX12_bidOf_102 : decode cX12_bidOf 102 = .ok (.iconst 2, 1) := by decide +kernel
theorem dX12_bidOf_103 : decode cX12_bidOf 103 = .ok (.dup2, 1) := by decide +kernel
theorem dX12_bidOf_104 : decode cX12_bidOf 104 = .ok (.laload, 1) := by decide +kernel
theorem dX12_bidOf_105 : decode cX12_bidOf 105 = .ok (.aload_n 0, 1) := by decide +kernel
theorem dX12_bidOf_106 : decode cX12_bidOf 106 = .ok (.getfield 53, 3) := by decide +kernel
theorem dX12_bidOf_109 : decode cX12_bidOf 109 = .ok (.iload 4, 2) := by decide +kernel
theorem dX12_bidOf_111 : decode cX12_bidOf 111 = .ok (.iaload, 1) := by decide +kernel
theorem dX12_bidOf_112 : decode cX12_bidOf 112 = .ok (.aload_n 0, 1) := by decide +kernel
theorem dX12_bidOf_113 : decode cX12_bidOf 113 = .ok (.iload 4, 2) := by decide +kernel
theorem dX12_bidOf_115 : decode cX12_bidOf 115 = .ok (.invokevirtual 393, 3) := by decide +kernel
theorem dX12_bidOf_118 : decode cX12_bidOf 118 = .ok (.isub, 1) := by decide +kernel
theorem dX12_bidOf_119 : decode cX12_bidOf 119 = .ok (.i2l, 1) := by decide +kernel
theorem dX12_bidOf_120 : decode cX12_bidOf 120 = .ok (.ladd, 1) := by decide +kernel
theorem dX12_bidOf_121 : decode cX12_bidOf 121 = .ok (.lastore, 1) := by decide +kernel
theorem dX12_bidOf_122 : decode cX12_bidOf 122 = .ok (.aload_n 0, 1) := by decide +kernel
theorem dX12_bidOf_123 : decode cX12_bidOf 123 = .ok (.getfield 117, 3) := by decide +kernel
theorem dX12_bidOf_126 : decode cX12_bidOf 126 = .ok (.iconst 4, 1) := by decide +kernel
theorem dX12_bidOf_127 : decode cX12_bidOf 127 = .ok (.aload_n 0, 1) := by decide +kernel
theorem dX12_bidOf_128 : decode cX12_bidOf 128 = .ok (.getfield 117, 3) := by decide +kernel
theorem dX12_bidOf_131 : decode cX12_bidOf 131 = .ok (.iconst 4, 1) := by decide +kernel
theorem dX12_bidOf_132 : decode cX12_bidOf 132 = .ok (.laload, 1) := by decide +kernel
theorem dX12_bidOf_133 : decode cX12_bidOf 133 = .ok (.aload_n 0, 1) := by decide +kernel
theorem dX12_bidOf_134 : decode cX12_bidOf 134 = .ok (.iload 4, 2) := by decide +kernel
theorem dX12_bidOf_136 : decode cX12_bidOf 136 = .ok (.invokevirtual 396, 3) := by decide +kernel
theorem dX12_bidOf_139 : decode cX12_bidOf 139 = .ok (.i2l, 1) := by decide +kernel
theorem dX12_bidOf_140 : decode cX12_bidOf 140 = .ok (.invokestatic 375, 3) := by decide +kernel
theorem dX12_bidOf_143 : decode cX12_bidOf 143 = .ok (.lastore, 1) := by decide +kernel
theorem dX12_bidOf_144 : decode cX12_bidOf 144 = .ok (.iinc 4 1, 3) := by decide +kernel
theorem dX12_bidOf_147 : decode cX12_bidOf 147 = .ok (.goto (-80), 3) := by decide +kernel
theorem dX12_bidOf_150 : decode cX12_bidOf 150 = .ok (.iload_n 3, 1) := by decide +kernel
theorem dX12_bidOf_151 : decode cX12_bidOf 151 = .ok (.aload_n 0, 1) := by decide +kernel
theorem dX12_bidOf_152 : decode cX12_bidOf 152 = .ok (.iconst 2, 1) := by decide +kernel
theorem dX12_bidOf_153 : decode cX12_bidOf 153 = .ok (.iload_n 1, 1) := by decide +kernel
theorem dX12_bidOf_154 : decode cX12_bidOf 154 = .ok (.iadd, 1) := by decide +kernel
theorem dX12_bidOf_155 : decode cX12_bidOf 155 = .ok (.sipush 999, 3) := by decide +kernel
theorem dX12_bidOf_158 : decode cX12_bidOf 158 = .ok (.iconst 0, 1) := by decide +kernel
theorem dX12_bidOf_159 : decode cX12_bidOf 159 = .ok (.invokevirtual 399, 3) := by decide +kernel
theorem dX12_bidOf_162 : decode cX12_bidOf 162 = .ok (.invokestatic 403, 3) := by decide +kernel
theorem dX12_bidOf_165 : decode cX12_bidOf 165 = .ok (.ireturn, 1) := by decide +kernel
theorem dX12_bids_0 : decode cX12_bids 0 = .ok (.aload_n 0, 1) := by decide +kernel
theorem dX12_bids_1 : decode cX12_bids 1 = .ok (.iconst 0, 1) := by decide +kernel
theorem dX12_bids_2 : decode cX12_bids 2 = .ok (.putfield 163, 3) := by decide +kernel
theorem dX12_bids_5 : decode cX12_bids 5 = .ok (.iload_n 1, 1) := by decide +kernel
theorem dX12_bids_6 : decode cX12_bids 6 = .ok (.ifCond .lt 36, 3) := by decide +kernel
theorem dX12_bids_9 : decode cX12_bids 9 = .ok (.iload_n 1, 1) := by decide +kernel
theorem dX12_bids_10 : decode cX12_bids 10 = .ok (.aload_n 0, 1) := by decide +kernel
theorem dX12_bids_11 : decode cX12_bids 11 = .ok (.getfield 13, 3) := by decide +kernel
theorem dX12_bids_14 : decode cX12_bids 14 = .ok (.iconst 3, 1) := by decide +kernel
theorem dX12_bids_15 : decode cX12_bids 15 = .ok (.iaload, 1) := by decide +kernel
theorem dX12_bids_16 : decode cX12_bids 16 = .ok (.if_icmp .ge 26, 3) := by decide +kernel
theorem dX12_bids_19 : decode cX12_bids 19 = .ok (.aload_n 0, 1) := by decide +kernel
theorem dX12_bids_20 : decode cX12_bids 20 = .ok (.iload_n 2, 1) := by decide +kernel
theorem dX12_bids_21 : decode cX12_bids 21 = .ok (.invokevirtual 332, 3) := by decide +kernel
theorem dX12_bids_24 : decode cX12_bids 24 = .ok (.ifCond .eq 18, 3) := by decide +kernel
theorem dX12_bids_27 : decode cX12_bids 27 = .ok (.aload_n 0, 1) := by decide +kernel
theorem dX12_bids_28 : decode cX12_bids 28 = .ok (.iload_n 1, 1) := by decide +kernel
theorem dX12_bids_29 : decode cX12_bids 29 = .ok (.iload_n 2, 1) := by decide +kernel
theorem dX12_bids_30 : decode cX12_bids 30 = .ok (.aload_n 0, 1) := by decide +kernel
theorem dX12_bids_31 : decode cX12_bids 31 = .ok (.getfield 99, 3) := by decide +kernel
theorem dX12_bids_34 : decode cX12_bids 34 = .ok (.iload_n 1, 1) := by decide +kernel
theorem dX12_bids_35 : decode cX12_bids 35 = .ok (.iaload, 1) := by decide +kernel
theorem dX12_bids_36 : decode cX12_bids 36 = .ok (.invokevirtual 408, 3) := by decide +kernel
theorem dX12_bids_39 : decode cX12_bids 39 = .ok (.goto 4, 3) := by decide +kernel
theorem dX12_bids_42 : decode cX12_bids 42 = .ok (.iconst (-1), 1) := by decide +kernel
theorem dX12_bids_43 : decode cX12_bids 43 = .ok (.ireturn, 1) := by decide +kernel
theorem dX12_bitsOf_0 : decode cX12_bitsOf 0 = .ok (.iconst 0, 1) := by decide +kernel
theorem dX12_bitsOf_1 : decode cX12_bitsOf 1 = .ok (.istore_n 1, 1) := by decide +kernel
theorem dX12_bitsOf_2 : decode cX12_bitsOf 2 = .ok (.iconst 0, 1) := by decide +kernel
theorem dX12_bitsOf_3 : decode cX12_bitsOf 3 = .ok (.istore_n 2, 1) := by decide +kernel
theorem dX12_bitsOf_4 : decode cX12_bitsOf 4 = .ok (.iload_n 2, 1) := by decide +kernel
theorem dX12_bitsOf_5 : decode cX12_bitsOf 5 = .ok (.bipush 6, 2) := by decide +kernel
theorem dX12_bitsOf_7 : decode cX12_bitsOf 7 = .ok (.if_icmp .ge 17, 3) := by decide +kernel
theorem dX12_bitsOf_10 : decode cX12_bitsOf 10 = .ok (.iload_n 1, 1) := by decide +kernel
theorem dX12_bitsOf_11 : decode cX12_bitsOf 11 = .ok (.iload_n 0, 1) := by decide +kernel
theorem dX12_bitsOf_12 : decode cX12_bitsOf 12 = .ok (.iload_n 2, 1) := by decide +kernel
theorem dX12_bitsOf_13 : decode cX12_bitsOf 13 = .ok (.ishr, 1) := by decide +kernel
theorem dX12_bitsOf_14 : decode cX12_bitsOf 14 = .ok (.iconst 1, 1) := by decide +kernel
theorem dX12_bitsOf_15 : decode cX12_bitsOf 15 = .ok (.iand, 1) := by decide +kernel
theorem dX12_bitsOf_16 : decode cX12_bitsOf 16 = .ok (.iadd, 1) := by decide +kernel
theorem dX12_bitsOf_17 : decode cX12_bitsOf 17 = .ok (.istore_n 1, 1) := by decide +kernel
theorem dX12_bitsOf_18 : decode cX12_bitsOf 18 = .ok (.iinc 2 1, 3) := by decide +kernel
theorem dX12_bitsOf_21 : decode cX12_bitsOf 21 = .ok (.goto (-17), 3) := by decide +kernel
theorem dX12_bitsOf_24 : decode cX12_bitsOf 24 = .ok (.iload_n 1, 1) := by decide +kernel
theorem dX12_bitsOf_25 : decode cX12_bitsOf 25 = .ok (.ireturn, 1) := by decide +kernel
theorem dX12_calls_0 : decode cX12_calls 0 = .ok (.aload_n 0, 1) := by decide +kernel
theorem dX12_calls_1 : decode cX12_calls 1 = .ok (.getfield 117, 3) := by decide +kernel
theorem dX12_calls_4 : decode cX12_calls 4 = .ok (.iconst 0, 1) := by decide +kernel
theorem dX12_calls_5 : decode cX12_calls 5 = .ok (.aload_n 0, 1) := by decide +kernel
theorem dX12_calls_6 : decode cX12_calls 6 = .ok (.getfield 41, 3) := by decide +kernel
theorem dX12_calls_9 : decode cX12_calls 9 = .ok (.iload_n 1, 1) := by decide +kernel
theorem dX12_calls_10 : decode cX12_calls 10 = .ok (.iaload, 1) := by decide +kernel
theorem dX12_calls_11 : decode cX12_calls 11 = .ok (.i2l, 1) := by decide +kernel
theorem dX12_calls_12 : decode cX12_calls 12 = .ok (.lastore, 1) := by decide +kernel
theorem dX12_calls_13 : decode cX12_calls 13 = .ok (.aload_n 0, 1) := by decide +kernel
theorem dX12_calls_14 : decode cX12_calls 14 = .ok (.getfield 117, 3) := by decide +kernel
theorem dX12_calls_17 : decode cX12_calls 17 = .ok (.iconst 1, 1) := by decide +kernel
theorem dX12_calls_18 : decode cX12_calls 18 = .ok (.aload_n 0, 1) := by decide +kernel
theorem dX12_calls_19 : decode cX12_calls 19 = .ok (.getfield 38, 3) := by decide +kernel
theorem dX12_calls_22 : decode cX12_calls 22 = .ok (.iload_n 1, 1) := by decide +kernel
theorem dX12_calls_23 : decode cX12_calls 23 = .ok (.iaload, 1) := by decide +kernel
theorem dX12_calls_24 : decode cX12_calls 24 = .ok (.iconst (-1), 1) := by decide +kernel
theorem dX12_calls_25 : decode cX12_calls 25 = .ok (.if_icmp .ne 7, 3) := by decide +kernel
theorem dX12_calls_28 : decode cX12_calls 28 = .ok (.lconst 0, 1) := by decide +kernel
theorem dX12_calls_29 : decode cX12_calls 29 = .ok (.goto 15, 3) := by decide +kernel
theorem dX12_calls_32 : decode cX12_calls 32 = .ok (.aload_n 0, 1) := by decide +kernel
theorem dX12_calls_33 : decode cX12_calls 33 = .ok (.getfield 19, 3) := by decide +kernel
theorem dX12_calls_36 : decode cX12_calls 36 = .ok (.aload_n 0, 1) := by decide +kernel
theorem dX12_calls_37 : decode cX12_calls 37 = .ok (.getfield 38, 3) := by decide +kernel
theorem dX12_calls_40 : decode cX12_calls 40 = .ok (.iload_n 1, 1) := by decide +kernel
theorem dX12_calls_41 : decode cX12_calls 41 = .ok (.iaload, 1) := by decide +kernel
theorem dX12_calls_42 : decode cX12_calls 42 = .ok (.iaload, 1) := by decide +kernel
theorem dX12_calls_43 : decode cX12_calls 43 = .ok (.i2l, 1) := by decide +kernel
theorem dX12_calls_44 : decode cX12_calls 44 = .ok (.lastore, 1) := by decide +kernel
theorem dX12_calls_45 : decode cX12_calls 45 = .ok (.aload_n 0, 1) := by decide +kernel
theorem dX12_calls_46 : decode cX12_calls 46 = .ok (.getfield 117, 3) := by decide +kernel
theorem dX12_calls_49 : decode cX12_calls 49 = .ok (.iconst 2, 1) := by decide +kernel
theorem dX12_calls_50 : decode cX12_calls 50 = .ok (.lconst 0, 1) := by decide +kernel
theorem dX12_calls_51 : decode cX12_calls 51 = .ok (.lastore, 1) := by decide +kernel
theorem dX12_calls_52 : decode cX12_calls 52 = .ok (.aload_n 0, 1) := by decide +kernel
theorem dX12_calls_53 : decode cX12_calls 53 = .ok (.getfield 117, 3) := by decide +kernel
theorem dX12_calls_56 : decode cX12_calls 56 = .ok (.iconst 3, 1) := by decide +kernel
theorem dX12_calls_57 : decode cX12_calls 57 = .ok (.lconst 0, 1) := by decide +kernel
theorem dX12_calls_58 : decode cX12_calls 58 = .ok (.lastore, 1) := by decide +kernel
theorem dX12_calls_59 : decode cX12_calls 59 = .ok (.aload_n 0, 1) := by decide +kernel
theorem dX12_calls_60 : decode cX12_calls 60 = .ok (.getfield 117, 3) := by decide +kernel
theorem dX12_calls_63 : decode cX12_calls 63 = .ok (.iconst 4, 1) := by decide +kernel
theorem dX12_calls_64 : decode cX12_calls 64 = .ok (.aload_n 0, 1) := by decide +kernel
theorem dX12_calls_65 : decode cX12_calls 65 = .ok (.getfield 31, 3) := by decide +kernel
theorem dX12_calls_68 : decode cX12_calls 68 = .ok (.iload_n 1, 1) := by decide +kernel
theorem dX12_calls_69 : decode cX12_calls 69 = .ok (.iaload, 1) := by decide +kernel
theorem dX12_calls_70 : decode cX12_calls 70 = .ok (.i2l, 1) := by decide +kernel
theorem dX12_calls_71 : decode cX12_calls 71 = .ok (.lastore, 1) := by decide +kernel
theorem dX12_calls_72 : decode cX12_calls 72 = .ok (.aload_n 0, 1) := by decide +kernel
theorem dX12_calls_73 : decode cX12_calls 73 = .ok (.getfield 117, 3) := by decide +kernel
theorem dX12_calls_76 : decode cX12_calls 76 = .ok (.iconst 5, 1) := by decide +kernel
theorem dX12_calls_77 : decode cX12_calls 77 = .ok (.aload_n 0, 1) := by decide +kernel
theorem dX12_calls_78 : decode cX12_calls 78 = .ok (.getfield 81, 3) := by decide +kernel
theorem dX12_calls_81 : decode cX12_calls 81 = .ok (.iconst 0, 1) := by decide +kernel
theorem dX12_calls_82 : decode cX12_calls 82 = .ok (.iaload, 1) := by decide +kernel
theorem dX12_calls_83 : decode cX12_calls 83 = .ok (.i2l, 1) := by decide +kernel
theorem dX12_calls_84 : decode cX12_calls 84 = .ok (.lastore, 1) := by decide +kernel
theorem dX12_calls_85 : decode cX12_calls 85 = .ok (.aload_n 0, 1) := by decide +kernel
theorem dX12_calls_86 : decode cX12_calls 86 = .ok (.getfield 117, 3) := by decide +kernel
theorem dX12_calls_89 : decode cX12_calls 89 = .ok (.bipush 6, 2) := by decide +kernel
theorem dX12_calls_91 : decode cX12_calls 91 = .ok (.lconst 0, 1) := by decide +kernel
theorem dX12_calls_92 : decode cX12_calls 92 = .ok (.lastore, 1) := by decide +kernel
theorem dX12_calls_93 : decode cX12_calls 93 = .ok (.return_, 1) := by decide +kernel
theorem dX12_chosen_0 : decode cX12_chosen 0 = .ok (.aload_n 0, 1) := by decide +kernel
theorem dX12_chosen_1 : decode cX12_chosen 1 = .ok (.iconst 0, 1) := by decide +kernel
theorem dX12_chosen_2 : decode cX12_chosen 2 = .ok (.putfield 163, 3) := by decide +kernel
theorem dX12_chosen_5 : decode cX12_chosen 5 = .ok (.iload_n 1, 1) := by decide +kernel
theorem dX12_chosen_6 : decode cX12_chosen 6 = .ok (.invokestatic 446, 3) := by decide +kernel
theorem dX12_chosen_9 : decode cX12_chosen 9 = .ok (.ifCond .eq 12, 3) := by decide +kernel
theorem dX12_chosen_12 : decode cX12_chosen 12 = .ok (.aload_n 0, 1) := by decide +kernel
theorem dX12_chosen_13 : decode cX12_chosen 13 = .ok (.iload_n 2, 1) := by decide +kernel
theorem dX12_chosen_14 : decode cX12_chosen 14 = .ok (.iload_n 3, 1) := by decide +kernel
theorem dX12_chosen_15 : decode cX12_chosen 15 = .ok (.invokevirtual 344, 3) := by decide +kernel
theorem dX12_chosen_18 : decode cX12_chosen 18 = .ok (.ifCond .ne 5, 3) := by decide +kernel
theorem dX12_chosen_21 : decode cX12_chosen 21 = .ok (.iconst (-1), 1) := by decide +kernel
theorem dX12_chosen_22 : decode cX12_chosen 22 = .ok (.ireturn, 1) := by decide +kernel
theorem dX12_chosen_23 : decode cX12_chosen 23 = .ok (.aload_n 0, 1) := by decide +kernel
theorem dX12_chosen_24 : decode cX12_chosen 24 = .ok (.iload_n 1, 1) := by decide +kernel
theorem dX12_chosen_25 : decode cX12_chosen 25 = .ok (.invokevirtual 449, 3) := by decide +kernel
theorem dX12_chosen_28 : decode cX12_chosen 28 = .ok (.iload_n 1, 1) := by decide +kernel
theorem dX12_chosen_29 : decode cX12_chosen 29 = .ok (.istore 4, 2) := by decide +kernel
theorem dX12_chosen_31 : decode cX12_chosen 31 = .ok (.iconst 0, 1) := by decide +kernel
theorem dX12_chosen_32 : decode cX12_chosen 32 = .ok (.istore 5, 2) := by decide +kernel
theorem dX12_chosen_34 : decode cX12_chosen 34 = .ok (.iload 5, 2) := by decide +kernel
theorem dX12_chosen_36 : decode cX12_chosen 36 = .ok (.iload_n 2, 1) := by decide +kernel
theorem dX12_chosen_37 : decode cX12_chosen 37 = .ok (.if_icmp .gt 54, 3) := by decide +kernel
theorem dX12_chosen_40 : decode cX12_chosen 40 = .ok (.aload_n 0, 1) := by decide +kernel
theorem dX12_chosen_41 : decode cX12_chosen 41 = .ok (.invokevirtual 427, 3) := by decide +kernel
theorem dX12_chosen_44 : decode cX12_chosen 44 = .ok (.aload_n 0, 1) := by decide +kernel
theorem dX12_chosen_45 : decode cX12_chosen 45 = .ok (.iload 5, 2) := by decide +kernel
theorem dX12_chosen_47 : decode cX12_chosen 47 = .ok (.invokevirtual 430, 3) := by decide +kernel
theorem dX12_chosen_50 : decode cX12_chosen 50 = .ok (.ifCond .eq 14, 3) := by decide +kernel
theorem dX12_chosen_53 : decode cX12_chosen 53 = .ok (.aload_n 0, 1) := by decide +kernel
theorem dX12_chosen_54 : decode cX12_chosen 54 = .ok (.iload 5, 2) := by decide +kernel
theorem dX12_chosen_56 : decode cX12_chosen 56 = .ok (.iload 4, 2) := by decide +kernel
theorem dX12_chosen_58 : decode cX12_chosen 58 = .ok (.invokevirtual 452, 3) := by decide +kernel
theorem dX12_chosen_61 : decode cX12_chosen 61 = .ok (.ifCond .ne 13, 3) := by decide +kernel
theorem dX12_chosen_64 : decode cX12_chosen 64 = .ok (.aload_n 0, 1) := by decide +kernel
theorem dX12_chosen_65 : decode cX12_chosen 65 = .ok (.iload 5, 2) := by decide +kernel
theorem dX12_chosen_67 : decode cX12_chosen 67 = .ok (.invokevirtual 443, 3) := by decide +kernel
theorem dX12_chosen_70 : decode cX12_chosen 70 = .ok (.pop, 1) := by decide +kernel
theorem dX12_chosen_71 : decode cX12_chosen 71 = .ok (.goto (-27), 3) := by decide +kernel
theorem dX12_chosen_74 : decode cX12_chosen 74 = .ok (.iload 4, 2) := by decide +kernel
theorem dX12_chosen_76 : decode cX12_chosen 76 = .ok (.aload_n 0, 1) := by decide +kernel
theorem dX12_chosen_77 : decode cX12_chosen 77 = .ok (.iload 5, 2) := by decide +kernel
theorem dX12_chosen_79 : decode cX12_chosen 79 = .ok (.invokevirtual 433, 3) := by decide +kernel
theorem dX12_chosen_82 : decode cX12_chosen 82 = .ok (.isub, 1) := by decide +kernel
theorem dX12_chosen_83 : decode cX12_chosen 83 = .ok (.istore 4, 2) := by decide +kernel
theorem dX12_chosen_85 : decode cX12_chosen 85 = .ok (.iinc 5 1, 3) := by decide +kernel
theorem dX12_chosen_88 : decode cX12_chosen 88 = .ok (.goto (-54), 3) := by decide +kernel
theorem dX12_chosen_91 : decode cX12_chosen 91 = .ok (.aload_n 0, 1) := by decide +kernel
theorem dX12_chosen_92 : decode cX12_chosen 92 = .ok (.getfield 136, 3) := by decide +kernel
theorem dX12_chosen_95 : decode cX12_chosen 95 = .ok (.iload_n 3, 1) := by decide +kernel
theorem dX12_chosen_96 : decode cX12_chosen 96 = .ok (.iaload, 1) := by decide +kernel
theorem dX12_chosen_97 : decode cX12_chosen 97 = .ok (.aload_n 0, 1) := by decide +kernel
theorem dX12_chosen_98 : decode cX12_chosen 98 = .ok (.getfield 13, 3) := by decide +kernel
theorem dX12_chosen_101 : decode cX12_chosen 101 = .ok (.iconst 1, 1) := by decide +kernel
theorem dX12_chosen_102 : decode cX12_chosen 102 = .ok (.iaload, 1) := by decide +kernel
theorem dX12_chosen_103 : decode cX12_chosen 103 = .ok (.if_icmp .ne 8, 3) := by decide +kernel
theorem dX12_chosen_106 : decode cX12_chosen 106 = .ok (.bipush (-2), 2) := by decide +kernel
theorem dX12_chosen_108 : decode cX12_chosen 108 = .ok (.goto 9, 3) := by decide +kernel
theorem dX12_chosen_111 : decode cX12_chosen 111 = .ok (.aload_n 0, 1) := by decide +kernel
theorem dX12_chosen_112 : decode cX12_chosen 112 = .ok (.getfield 136, 3) := by decide +kernel
theorem dX12_chosen_115 : decode cX12_chosen 115 = .ok (.iload_n 3, 1) := by decide +kernel
theorem dX12_chosen_116 : decode cX12_chosen 116 = .ok (.iaload, 1) := by decide +kernel
theorem dX12_chosen_117 : decode cX12_chosen 117 = .ok (.ireturn, 1) := by decide +kernel
theorem dX12_common_0 : decode cX12_common 0 = .ok (.lload_n 0, 1) := by decide +kernel
theorem dX12_common_1 : decode cX12_common 1 = .ok (.lstore 4, 2) := by decide +kernel
theorem dX12_common_3 : decode cX12_common 3 = .ok (.lload_n 2, 1) := by decide +kernel
theorem dX12_common_4 : decode cX12_common 4 = .ok (.lstore 6, 2) := by decide +kernel
theorem dX12_common_6 : decode cX12_common 6 = .ok (.lload 6, 2) := by decide +kernel
theorem dX12_common_8 : decode cX12_common 8 = .ok (.lconst 0, 1) := by decide +kernel
theorem dX12_common_9 : decode cX12_common 9 = .ok (.lcmp, 1) := by decide +kernel
theorem dX12_common_10 : decode cX12_common 10 = .ok (.ifCond .eq 21, 3) := by decide +kernel
theorem dX12_common_13 : decode cX12_common 13 = .ok (.lload 4, 2) := by decide +kernel
theorem dX12_common_15 : decode cX12_common 15 = .ok (.lload 6, 2) := by decide +kernel
theorem dX12_common_17 : decode cX12_common 17 = .ok (.lrem, 1) := by decide +kernel
theorem dX12_common_18 : decode cX12_common 18 = .ok (.lstore 8, 2) := by decide +kernel
theorem dX12_common_20 : decode cX12_common 20 = .ok (.lload 6, 2) := by decide +kernel
theorem dX12_common_22 : decode cX12_common 22 = .ok (.lstore 4, 2) := by decide +kernel
theorem dX12_common_24 : decode cX12_common 24 = .ok (.lload 8, 2) := by decide +kernel
theorem dX12_common_26 : decode cX12_common 26 = .ok (.lstore 6, 2) := by decide +kernel
theorem dX12_common_28 : decode cX12_common 28 = .ok (.goto (-22), 3) := by decide +kernel
theorem dX12_common_31 : decode cX12_common 31 = .ok (.lload 4, 2) := by decide +kernel
theorem dX12_common_33 : decode cX12_common 33 = .ok (.lreturn, 1) := by decide +kernel
theorem dX12_conjunction_0 : decode cX12_conjunction 0 = .ok (.aload_n 0, 1) := by decide +kernel
theorem dX12_conjunction_1 : decode cX12_conjunction 1 = .ok (.invokevirtual 300, 3) := by decide +kernel
theorem dX12_conjunction_4 : decode cX12_conjunction 4 = .ok (.aload_n 0, 1) := by decide +kernel
theorem dX12_conjunction_5 : decode cX12_conjunction 5 = .ok (.bipush 14, 2) := by decide +kernel
theorem dX12_conjunction_7 : decode cX12_conjunction 7 = .ok (.invokevirtual 279, 3) := by decide +kernel
theorem dX12_conjunction_10 : decode cX12_conjunction 10 = .ok (.ifCond .eq 26, 3) := by decide +kernel
theorem dX12_conjunction_13 : decode cX12_conjunction 13 = .ok (.aload_n 0, 1) := by decide +kernel
theorem dX12_conjunction_14 : decode cX12_conjunction 14 = .ok (.invokevirtual 294, 3) := by decide +kernel
theorem dX12_conjunction_17 : decode cX12_conjunction 17 = .ok (.aload_n 0, 1) := by decide +kernel
theorem dX12_conjunction_18 : decode cX12_conjunction 18 = .ok (.invokevirtual 237, 3) := by decide +kernel
theorem dX12_conjunction_21 : decode cX12_conjunction 21 = .ok (.aload_n 0, 1) := by decide +kernel
theorem dX12_conjunction_22 : decode cX12_conjunction 22 = .ok (.invokevirtual 300, 3) := by decide +kernel
theorem dX12_conjunction_25 : decode cX12_conjunction 25 = .ok (.aload_n 0, 1) := by decide +kernel
theorem dX12_conjunction_26 : decode cX12_conjunction 26 = .ok (.iconst 2, 1) := by decide +kernel
theorem dX12_conjunction_27 : decode cX12_conjunction 27 = .ok (.sipush 261, 3) := by decide +kernel
theorem dX12_conjunction_30 : decode cX12_conjunction 30 = .ok (.invokevirtual 297, 3) := by decide +kernel
theorem dX12_conjunction_33 : decode cX12_conjunction 33 = .ok (.goto (-29), 3) := by decide +kernel
theorem dX12_conjunction_36 : decode cX12_conjunction 36 = .ok (.return_, 1) := by decide +kernel
theorem dX12_copies_0 : decode cX12_copies 0 = .ok (.aload_n 0, 1) := by decide +kernel
theorem dX12_copies_1 : decode cX12_copies 1 = .ok (.getfield 81, 3) := by decide +kernel
theorem dX12_copies_4 : decode cX12_copies 4 = .ok (.iload_n 1, 1) := by decide +kernel
theorem dX12_copies_5 : decode cX12_copies 5 = .ok (.aload_n 0, 1) := by decide +kernel
theorem dX12_copies_6 : decode cX12_copies 6 = .ok (.getfield 81, 3) := by decide +kernel
theorem dX12_copies_9 : decode cX12_copies 9 = .ok (.iload_n 2, 1) := by decide +kernel
theorem dX12_copies_10 : decode cX12_copies 10 = .ok (.iaload, 1) := by decide +kernel
theorem dX12_copies_11 : decode cX12_copies 11 = .ok (.iastore, 1) := by decide +kernel
theorem dX12_copies_12 : decode cX12_copies 12 = .ok (.aload_n 0, 1) := by decide +kernel
theorem dX12_copies_13 : decode cX12_copies 13 = .ok (.getfield 84, 3) := by decide +kernel
theorem dX12_copies_16 : decode cX12_copies 16 = .ok (.iload_n 1, 1) := by decide +kernel
theorem dX12_copies_17 : decode cX12_copies 17 = .ok (.aload_n 0, 1) := by decide +kernel
theorem dX12_copies_18 : decode cX12_copies 18 = .ok (.getfield 84, 3) := by decide +kernel
theorem dX12_copies_21 : decode cX12_copies 21 = .ok (.iload_n 2, 1) := by decide +kernel
theorem dX12_copies_22 : decode cX12_copies 22 = .ok (.iaload, 1) := by decide +kernel
theorem dX12_copies_23 : decode cX12_copies 23 = .ok (.iastore, 1) := by decide +kernel
theorem dX12_copies_24 : decode cX12_copies 24 = .ok (.aload_n 0, 1) := by decide +kernel
theorem dX12_copies_25 : decode cX12_copies 25 = .ok (.getfield 87, 3) := by decide +kernel
theorem dX12_copies_28 : decode cX12_copies 28 = .ok (.iload_n 1, 1) := by decide +kernel
theorem dX12_copies_29 : decode cX12_copies 29 = .ok (.aload_n 0, 1) := by decide +kernel
theorem dX12_copies_30 : decode cX12_copies 30 = .ok (.getfield 87, 3) := by decide +kernel
theorem dX12_copies_33 : decode cX12_copies 33 = .ok (.iload_n 2, 1) := by decide +kernel
theorem dX12_copies_34 : decode cX12_copies 34 = .ok (.iaload, 1) := by decide +kernel
theorem dX12_copies_35 : decode cX12_copies 35 = .ok (.iastore, 1) := by decide +kernel
theorem dX12_copies_36 : decode cX12_copies 36 = .ok (.aload_n 0, 1) := by decide +kernel
theorem dX12_copies_37 : decode cX12_copies 37 = .ok (.getfield 90, 3) := by decide +kernel
theorem dX12_copies_40 : decode cX12_copies 40 = .ok (.iload_n 1, 1) := by decide +kernel
theorem dX12_copies_41 : decode cX12_copies 41 = .ok (.aload_n 0, 1) := by decide +kernel
theorem dX12_copies_42 : decode cX12_copies 42 = .ok (.getfield 90, 3) := by decide +kernel
theorem dX12_copies_45 : decode cX12_copies 45 = .ok (.iload_n 2, 1) := by decide +kernel
theorem dX12_copies_46 : decode cX12_copies 46 = .ok (.iaload, 1) := by decide +kernel
theorem dX12_copies_47 : decode cX12_copies 47 = .ok (.iastore, 1) := by decide +kernel
theorem dX12_copies_48 : decode cX12_copies 48 = .ok (.aload_n 0, 1) := by decide +kernel
theorem dX12_copies_49 : decode cX12_copies 49 = .ok (.getfield 93, 3) := by decide +kernel
theorem dX12_copies_52 : decode cX12_copies 52 = .ok (.iload_n 1, 1) := by decide +kernel
theorem dX12_copies_53 : decode cX12_copies 53 = .ok (.aload_n 0, 1) := by decide +kernel
theorem dX12_copies_54 : decode cX12_copies 54 = .ok (.getfield 93, 3) := by decide +kernel
theorem dX12_copies_57 : decode cX12_copies 57 = .ok (.iload_n 2, 1) := by decide +kernel
theorem dX12_copies_58 : decode cX12_copies 58 = .ok (.iaload, 1) := by decide +kernel
theorem dX12_copies_59 : decode cX12_copies 59 = .ok (.iastore, 1) := by decide +kernel
theorem dX12_copies_60 : decode cX12_copies 60 = .ok (.aload_n 0, 1) := by decide +kernel
theorem dX12_copies_61 : decode cX12_copies 61 = .ok (.getfield 108, 3) := by decide +kernel
theorem dX12_copies_64 : decode cX12_copies 64 = .ok (.iload_n 1, 1) := by decide +kernel
theorem dX12_copies_65 : decode cX12_copies 65 = .ok (.aload_n 0, 1) := by decide +kernel
theorem dX12_copies_66 : decode cX12_copies 66 = .ok (.getfield 108, 3) := by decide +kernel
theorem dX12_copies_69 : decode cX12_copies 69 = .ok (.iload_n 2, 1) := by decide +kernel
theorem dX12_copies_70 : decode cX12_copies 70 = .ok (.iaload, 1) := by decide +kernel
theorem dX12_copies_71 : decode cX12_copies 71 = .ok (.iastore, 1) := by decide +kernel
theorem dX12_copies_72 : decode cX12_copies 72 = .ok (.iconst 0, 1) := by decide +kernel
theorem dX12_copies_73 : decode cX12_copies 73 = .ok (.istore_n 3, 1) := by decide +kernel
theorem dX12_copies_74 : decode cX12_copies 74 = .ok (.iload_n 3, 1) := by decide +kernel
theorem dX12_copies_75 : decode cX12_copies 75 = .ok (.iconst 3, 1) := by decide +kernel
theorem dX12_copies_76 : decode cX12_copies 76 = .ok (.if_icmp .ge 29, 3) := by decide +kernel
theorem dX12_copies_79 : decode cX12_copies 79 = .ok (.aload_n 0, 1) := by decide +kernel
theorem dX12_copies_80 : decode cX12_copies 80 = .ok (.getfield 96, 3) := by decide +kernel
theorem dX12_copies_83 : decode cX12_copies 83 = .ok (.iconst 3, 1) := by decide +kernel
theorem dX12_copies_84 : decode cX12_copies 84 = .ok (.iload_n 1, 1) := by decide +kernel
theorem dX12_copies_85 : decode cX12_copies 85 = .ok (.imul, 1) := by decide +kernel
theorem dX12_copies_86 : decode cX12_copies 86 = .ok (.iload_n 3, 1) := by decide +kernel
theorem dX12_copies_87 : decode cX12_copies 87 = .ok (.iadd, 1) := by decide +kernel
theorem dX12_copies_88 : decode cX12_copies 88 = .ok (.aload_n 0, 1) := by decide +kernel
theorem dX12_copies_89 : decode cX12_copies 89 = .ok (.getfield 96, 3) := by decide +kernel
theorem dX12_copies_92 : decode cX12_copies 92 = .ok (.iconst 3, 1) := by decide +kernel
theorem dX12_copies_93 : decode cX12_copies 93 = .ok (.iload_n 2, 1) := by decide +kernel
theorem dX12_copies_94 : decode cX12_copies 94 = .ok (.imul, 1) := by decide +kernel
theorem dX12_copies_95 : decode cX12_copies 95 = .ok (.iload_n 3, 1) := by decide +kernel
theorem dX12_copies_96 : decode cX12_copies 96 = .ok (.iadd, 1) := by decide +kernel
theorem dX12_copies_97 : decode cX12_copies 97 = .ok (.iaload, 1) := by decide +kernel
theorem dX12_copies_98 : decode cX12_copies 98 = .ok (.iastore, 1) := by decide +kernel
theorem dX12_copies_99 : decode cX12_copies 99 = .ok (.iinc 3 1, 3) := by decide +kernel
theorem dX12_copies_102 : decode cX12_copies 102 = .ok (.goto (-28), 3) := by decide +kernel
theorem dX12_copies_105 : decode cX12_copies 105 = .ok (.iconst 0, 1) := by decide +kernel
theorem dX12_copies_106 : decode cX12_copies 106 = .ok (.istore_n 3, 1) := by decide +kernel
theorem dX12_copies_107 : decode cX12_copies 107 = .ok (.iload_n 3, 1) := by decide +kernel
theorem dX12_copies_108 : decode cX12_copies 108 = .ok (.iconst 3, 1) := by decide +kernel
theorem dX12_copies_109 : decode cX12_copies 109 = .ok (.if_icmp .ge 29, 3) := by decide +kernel
theorem dX12_copies_112 : decode cX12_copies 112 = .ok (.aload_n 0, 1) := by decide +kernel
theorem dX12_copies_113 : decode cX12_copies 113 = .ok (.getfield 99, 3) := by decide +kernel
theorem dX12_copies_116 : decode cX12_copies 116 = .ok (.iconst 3, 1) := by decide +kernel
theorem dX12_copies_117 : decode cX12_copies 117 = .ok (.iload_n 1, 1) := by decide +kernel
theorem dX12_copies_118 : decode cX12_copies 118 = .ok (.imul, 1) := by decide +kernel
theorem dX12_copies_119 : decode cX12_copies 119 = .ok (.iload_n 3, 1) := by decide +kernel
theorem dX12_copies_120 : decode cX12_copies 120 = .ok (.iadd, 1) := by decide +kernel
theorem dX12_copies_121 : decode cX12_copies 121 = .ok (.aload_n 0, 1) := by decide +kernel
theorem dX12_copies_122 : decode cX12_copies 122 = .ok (.getfield 99, 3) := by decide +kernel
theorem dX12_copies_125 : decode cX12_copies 125 = .ok (.iconst 3, 1) := by decide +kernel
theorem dX12_copies_126 : decode cX12_copies 126 = .ok (.iload_n 2, 1) := by decide +kernel
theorem dX12_copies_127 : decode cX12_copies 127 = .ok (.imul, 1) := by decide +kernel
theorem dX12_copies_128 : decode cX12_copies 128 = .ok (.iload_n 3, 1) := by decide +kernel
theorem dX12_copies_129 : decode cX12_copies 129 = .ok (.iadd, 1) := by decide +kernel
theorem dX12_copies_130 : decode cX12_copies 130 = .ok (.iaload, 1) := by decide +kernel
theorem dX12_copies_131 : decode cX12_copies 131 = .ok (.iastore, 1) := by decide +kernel
theorem dX12_copies_132 : decode cX12_copies 132 = .ok (.iinc 3 1, 3) := by decide +kernel
theorem dX12_copies_135 : decode cX12_copies 135 = .ok (.goto (-28), 3) := by decide +kernel
theorem dX12_copies_138 : decode cX12_copies 138 = .ok (.iconst 0, 1) := by decide +kernel
theorem dX12_copies_139 : decode cX12_copies 139 = .ok (.istore_n 3, 1) := by decide +kernel
theorem dX12_copies_140 : decode cX12_copies 140 = .ok (.iload_n 3, 1) := by decide +kernel
theorem dX12_copies_141 : decode cX12_copies 141 = .ok (.bipush 6, 2) := by decide +kernel
theorem dX12_copies_143 : decode cX12_copies 143 = .ok (.if_icmp .ge 31, 3) := by decide +kernel
theorem dX12_copies_146 : decode cX12_copies 146 = .ok (.aload_n 0, 1) := by decide +kernel
theorem dX12_copies_147 : decode cX12_copies 147 = .ok (.getfield 102, 3) := by decide +kernel
theorem dX12_copies_150 : decode cX12_copies 150 = .ok (.bipush 6, 2) := by decide +kernel
theorem dX12_copies_152 : decode cX12_copies 152 = .ok (.iload_n 1, 1) := by decide +kernel
theorem dX12_copies_153 : decode cX12_copies 153 = .ok (.imul, 1) := by decide +kernel
theorem dX12_copies_154 : decode cX12_copies 154 = .ok (.iload_n 3, 1) := by decide +kernel
theorem dX12_copies_155 : decode cX12_copies 155 = .ok (.iadd, 1) := by decide +kernel
theorem dX12_copies_156 : decode cX12_copies 156 = .ok (.aload_n 0, 1) := by decide +kernel
theorem dX12_copies_157 : decode cX12_copies 157 = .ok (.getfield 102, 3) := by decide +kernel
theorem dX12_copies_160 : decode cX12_copies 160 = .ok (.bipush 6, 2) := by decide +kernel
theorem dX12_copies_162 : decode cX12_copies 162 = .ok (.iload_n 2, 1) := by decide +kernel
theorem dX12_copies_163 : decode cX12_copies 163 = .ok (.imul, 1) := by decide +kernel
theorem dX12_copies_164 : decode cX12_copies 164 = .ok (.iload_n 3, 1) := by decide +kernel
theorem dX12_copies_165 : decode cX12_copies 165 = .ok (.iadd, 1) := by decide +kernel
theorem dX12_copies_166 : decode cX12_copies 166 = .ok (.iaload, 1) := by decide +kernel
theorem dX12_copies_167 : decode cX12_copies 167 = .ok (.iastore, 1) := by decide +kernel
theorem dX12_copies_168 : decode cX12_copies 168 = .ok (.iinc 3 1, 3) := by decide +kernel
theorem dX12_copies_171 : decode cX12_copies 171 = .ok (.goto (-31), 3) := by decide +kernel
theorem dX12_copies_174 : decode cX12_copies 174 = .ok (.iconst 0, 1) := by decide +kernel
theorem dX12_copies_175 : decode cX12_copies 175 = .ok (.istore_n 3, 1) := by decide +kernel
theorem dX12_copies_176 : decode cX12_copies 176 = .ok (.iload_n 3, 1) := by decide +kernel
theorem dX12_copies_177 : decode cX12_copies 177 = .ok (.bipush 12, 2) := by decide +kernel
theorem dX12_copies_179 : decode cX12_copies 179 = .ok (.if_icmp .ge 75, 3) := by decide +kernel
theorem dX12_copies_182 : decode cX12_copies 182 = .ok (.aload_n 0, 1) := by decide +kernel
theorem dX12_copies_183 : decode cX12_copies 183 = .ok (.getfield 105, 3) := by decide +kernel
theorem dX12_copies_186 : decode cX12_copies 186 = .ok (.bipush 12, 2) := by decide +kernel
theorem dX12_copies_188 : decode cX12_copies 188 = .ok (.iload_n 1, 1) := by decide +kernel
theorem dX12_copies_189 : decode cX12_copies 189 = .ok (.imul, 1) := by decide +kernel
theorem dX12_copies_190 : decode cX12_copies 190 = .ok (.iload_n 3, 1) := by decide +kernel
theorem dX12_copies_191 : decode cX12_copies 191 = .ok (.iadd, 1) := by decide +kernel
theorem dX12_copies_192 : decode cX12_copies 192 = .ok (.aload_n 0, 1) := by decide +kernel
theorem dX12_copies_193 : decode cX12_copies 193 = .ok (.getfield 105, 3) := by decide +kernel
theorem dX12_copies_196 : decode cX12_copies 196 = .ok (.bipush 12, 2) := by decide +kernel
theorem dX12_copies_198 : decode cX12_copies 198 = .ok (.iload_n 2, 1) := by decide +kernel
theorem dX12_copies_199 : decode cX12_copies 199 = .ok (.imul, 1) := by decide +kernel
theorem dX12_copies_200 : decode cX12_copies 200 = .ok (.iload_n 3, 1) := by decide +kernel
theorem dX12_copies_201 : decode cX12_copies 201 = .ok (.iadd, 1) := by decide +kernel
theorem dX12_copies_202 : decode cX12_copies 202 = .ok (.iaload, 1) := by decide +kernel
theorem dX12_copies_203 : decode cX12_copies 203 = .ok (.iastore, 1) := by decide +kernel
theorem dX12_copies_204 : decode cX12_copies 204 = .ok (.aload_n 0, 1) := by decide +kernel
theorem dX12_copies_205 : decode cX12_copies 205 = .ok (.getfield 111, 3) := by decide +kernel
theorem dX12_copies_208 : decode cX12_copies 208 = .ok (.bipush 12, 2) := by decide +kernel
theorem dX12_copies_210 : decode cX12_copies 210 = .ok (.iload_n 1, 1) := by decide +kernel
theorem dX12_copies_211 : decode cX12_copies 211 = .ok (.imul, 1) := by decide +kernel
theorem dX12_copies_212 : decode cX12_copies 212 = .ok (.iload_n 3, 1) := by decide +kernel
theorem dX12_copies_213 : decode cX12_copies 213 = .ok (.iadd, 1) := by decide +kernel
theorem dX12_copies_214 : decode cX12_copies 214 = .ok (.aload_n 0, 1) := by decide +kernel
theorem dX12_copies_215 : decode cX12_copies 215 = .ok (.getfield 111, 3) := by decide +kernel
theorem dX12_copies_218 : decode cX12_copies 218 = .ok (.bipush 12, 2) := by decide +kernel
theorem dX12_copies_220 : decode cX12_copies 220 = .ok (.iload_n 2, 1) := by decide +kernel
theorem dX12_copies_221 : decode cX12_copies 221 = .ok (.imul, 1) := by decide +kernel
theorem dX12_copies_222 : decode cX12_copies 222 = .ok (.iload_n 3, 1) := by decide +kernel
theorem dX12_copies_223 : decode cX12_copies 223 = .ok (.iadd, 1) := by decide +kernel
theorem dX12_copies_224 : decode cX12_copies 224 = .ok (.iaload, 1) := by decide +kernel
theorem dX12_copies_225 : decode cX12_copies 225 = .ok (.iastore, 1) := by decide +kernel
theorem dX12_copies_226 : decode cX12_copies 226 = .ok (.aload_n 0, 1) := by decide +kernel
theorem dX12_copies_227 : decode cX12_copies 227 = .ok (.getfield 114, 3) := by decide +kernel
theorem dX12_copies_230 : decode cX12_copies 230 = .ok (.bipush 12, 2) := by decide +kernel
theorem dX12_copies_232 : decode cX12_copies 232 = .ok (.iload_n 1, 1) := by decide +kernel
theorem dX12_copies_233 : decode cX12_copies 233 = .ok (.imul, 1) := by decide +kernel
theorem dX12_copies_234 : decode cX12_copies 234 = .ok (.iload_n 3, 1) := by decide +kernel
theorem dX12_copies_235 : decode cX12_copies 235 = .ok (.iadd, 1) := by decide +kernel
theorem dX12_copies_236 : decode cX12_copies 236 = .ok (.aload_n 0, 1) := by decide +kernel
theorem dX12_copies_237 : decode cX12_copies 237 = .ok (.getfield 114, 3) := by decide +kernel
theorem dX12_copies_240 : decode cX12_copies 240 = .ok (.bipush 12, 2) := by decide +kernel
theorem dX12_copies_242 : decode cX12_copies 242 = .ok (.iload_n 2, 1) := by decide +kernel
theorem dX12_copies_243 : decode cX12_copies 243 = .ok (.imul, 1) := by decide +kernel
theorem dX12_copies_244 : decode cX12_copies 244 = .ok (.iload_n 3, 1) := by decide +kernel
theorem dX12_copies_245 : decode cX12_copies 245 = .ok (.iadd, 1) := by decide +kernel
theorem dX12_copies_246 : decode cX12_copies 246 = .ok (.iaload, 1) := by decide +kernel
theorem dX12_copies_247 : decode cX12_copies 247 = .ok (.iastore, 1) := by decide +kernel
theorem dX12_copies_248 : decode cX12_copies 248 = .ok (.iinc 3 1, 3) := by decide +kernel
theorem dX12_copies_251 : decode cX12_copies 251 = .ok (.goto (-75), 3) := by decide +kernel
theorem dX12_copies_254 : decode cX12_copies 254 = .ok (.return_, 1) := by decide +kernel
theorem dX12_costOf_0 : decode cX12_costOf 0 = .ok (.iconst 0, 1) := by decide +kernel
theorem dX12_costOf_1 : decode cX12_costOf 1 = .ok (.istore_n 2, 1) := by decide +kernel
theorem dX12_costOf_2 : decode cX12_costOf 2 = .ok (.iconst 0, 1) := by decide +kernel
theorem dX12_costOf_3 : decode cX12_costOf 3 = .ok (.istore_n 3, 1) := by decide +kernel
theorem dX12_costOf_4 : decode cX12_costOf 4 = .ok (.iload_n 3, 1) := by decide +kernel
theorem dX12_costOf_5 : decode cX12_costOf 5 = .ok (.aload_n 0, 1) := by decide +kernel
theorem dX12_costOf_6 : decode cX12_costOf 6 = .ok (.getfield 50, 3) := by decide +kernel
theorem dX12_costOf_9 : decode cX12_costOf 9 = .ok (.iload_n 1, 1) := by decide +kernel
theorem dX12_costOf_10 : decode cX12_costOf 10 = .ok (.iaload, 1) := by decide +kernel
theorem dX12_costOf_11 : decode cX12_costOf 11 = .ok (.if_icmp .ge 51, 3) := by decide +kernel
theorem dX12_costOf_14 : decode cX12_costOf 14 = .ok (.iload_n 2, 1) := by decide +kernel
theorem dX12_costOf_15 : decode cX12_costOf 15 = .ok (.aload_n 0, 1) := by decide +kernel
theorem dX12_costOf_16 : decode cX12_costOf 16 = .ok (.getfield 136, 3) := by decide +kernel
theorem dX12_costOf_19 : decode cX12_costOf 19 = .ok (.iload_n 3, 1) := by decide +kernel
theorem dX12_costOf_20 : decode cX12_costOf 20 = .ok (.iaload, 1) := by decide +kernel
theorem dX12_costOf_21 : decode cX12_costOf 21 = .ok (.aload_n 0, 1) := by decide +kernel
theorem dX12_costOf_22 : decode cX12_costOf 22 = .ok (.getfield 13, 3) := by decide +kernel
theorem dX12_costOf_25 : decode cX12_costOf 25 = .ok (.iconst 1, 1) := by decide +kernel
theorem dX12_costOf_26 : decode cX12_costOf 26 = .ok (.iaload, 1) := by decide +kernel
theorem dX12_costOf_27 : decode cX12_costOf 27 = .ok (.if_icmp .ne 7, 3) := by decide +kernel
theorem dX12_costOf_30 : decode cX12_costOf 30 = .ok (.iconst 0, 1) := by decide +kernel
theorem dX12_costOf_31 : decode cX12_costOf 31 = .ok (.goto 23, 3) := by decide +kernel
theorem dX12_costOf_34 : decode cX12_costOf 34 = .ok (.aload_n 0, 1) := by decide +kernel
theorem dX12_costOf_35 : decode cX12_costOf 35 = .ok (.getfield 130, 3) := by decide +kernel
theorem dX12_costOf_38 : decode cX12_costOf 38 = .ok (.bipush 6, 2) := by decide +kernel
theorem dX12_costOf_40 : decode cX12_costOf 40 = .ok (.iconst 3, 1) := by decide +kernel
theorem dX12_costOf_41 : decode cX12_costOf 41 = .ok (.iload_n 1, 1) := by decide +kernel
theorem dX12_costOf_42 : decode cX12_costOf 42 = .ok (.imul, 1) := by decide +kernel
theorem dX12_costOf_43 : decode cX12_costOf 43 = .ok (.iload_n 3, 1) := by decide +kernel
theorem dX12_costOf_44 : decode cX12_costOf 44 = .ok (.iadd, 1) := by decide +kernel
theorem dX12_costOf_45 : decode cX12_costOf 45 = .ok (.imul, 1) := by decide +kernel
theorem dX12_costOf_46 : decode cX12_costOf 46 = .ok (.aload_n 0, 1) := by decide +kernel
theorem dX12_costOf_47 : decode cX12_costOf 47 = .ok (.getfield 136, 3) := by decide +kernel
theorem dX12_costOf_50 : decode cX12_costOf 50 = .ok (.iload_n 3, 1) := by decide +kernel
theorem dX12_costOf_51 : decode cX12_costOf 51 = .ok (.iaload, 1) := by decide +kernel
theorem dX12_costOf_52 : decode cX12_costOf 52 = .ok (.iadd, 1) := by decide +kernel
theorem dX12_costOf_53 : decode cX12_costOf 53 = .ok (.iaload, 1) := by decide +kernel
theorem dX12_costOf_54 : decode cX12_costOf 54 = .ok (.iadd, 1) := by decide +kernel
theorem dX12_costOf_55 : decode cX12_costOf 55 = .ok (.istore_n 2, 1) := by decide +kernel
theorem dX12_costOf_56 : decode cX12_costOf 56 = .ok (.iinc 3 1, 3) := by decide +kernel
theorem dX12_costOf_59 : decode cX12_costOf 59 = .ok (.goto (-55), 3) := by decide +kernel
theorem dX12_costOf_62 : decode cX12_costOf 62 = .ok (.iload_n 2, 1) := by decide +kernel
theorem dX12_costOf_63 : decode cX12_costOf 63 = .ok (.ireturn, 1) := by decide +kernel
theorem dX12_count_0 : decode cX12_count 0 = .ok (.aload_n 0, 1) := by decide +kernel
theorem dX12_count_1 : decode cX12_count 1 = .ok (.iconst 0, 1) := by decide +kernel
theorem dX12_count_2 : decode cX12_count 2 = .ok (.putfield 163, 3) := by decide +kernel
theorem dX12_count_5 : decode cX12_count 5 = .ok (.iconst 0, 1) := by decide +kernel
theorem dX12_count_6 : decode cX12_count 6 = .ok (.istore_n 2, 1) := by decide +kernel
theorem dX12_count_7 : decode cX12_count 7 = .ok (.iload_n 1, 1) := by decide +kernel
theorem dX12_count_8 : decode cX12_count 8 = .ok (.tableswitch 211 0 11 #[64, 71, 78, 85, 92, 100, 107, 114, 121, 126, 131, 141], 64) := by decide +kernel
theorem dX12_count_72 : decode cX12_count 72 = .ok (.aload_n 0, 1) := by decide +kernel
theorem dX12_count_73 : decode cX12_count 73 = .ok (.getfield 13, 3) := by decide +kernel
theorem dX12_count_76 : decode cX12_count 76 = .ok (.iconst 0, 1) := by decide +kernel
theorem dX12_count_77 : decode cX12_count 77 = .ok (.iaload, 1) := by decide +kernel
theorem dX12_count_78 : decode cX12_count 78 = .ok (.ireturn, 1) := by decide +kernel
theorem dX12_count_79 : decode cX12_count 79 = .ok (.aload_n 0, 1) := by decide +kernel
theorem dX12_count_80 : decode cX12_count 80 = .ok (.getfield 13, 3) := by decide +kernel
theorem dX12_count_83 : decode cX12_count 83 = .ok (.iconst 1, 1) := by decide +kernel
theorem dX12_count_84 : decode cX12_count 84 = .ok (.iaload, 1) := by decide +kernel
theorem dX12_count_85 : decode cX12_count 85 = .ok (.ireturn, 1) := by decide +kernel
theorem dX12_count_86 : decode cX12_count 86 = .ok (.aload_n 0, 1) := by decide +kernel
theorem dX12_count_87 : decode cX12_count 87 = .ok (.getfield 13, 3) := by decide +kernel
theorem dX12_count_90 : decode cX12_count 90 = .ok (.iconst 2, 1) := by decide +kernel
theorem dX12_count_91 : decode cX12_count 91 = .ok (.iaload, 1) := by decide +kernel
theorem dX12_count_92 : decode cX12_count 92 = .ok (.ireturn, 1) := by decide +kernel
theorem dX12_count_93 : decode cX12_count 93 = .ok (.aload_n 0, 1) := by decide +kernel
theorem dX12_count_94 : decode cX12_count 94 = .ok (.getfield 13, 3) := by decide +kernel
theorem dX12_count_97 : decode cX12_count 97 = .ok (.iconst 3, 1) := by decide +kernel
theorem dX12_count_98 : decode cX12_count 98 = .ok (.iaload, 1) := by decide +kernel
theorem dX12_count_99 : decode cX12_count 99 = .ok (.ireturn, 1) := by decide +kernel
theorem dX12_count_100 : decode cX12_count 100 = .ok (.aload_n 0, 1) := by decide +kernel
theorem dX12_count_101 : decode cX12_count 101 = .ok (.getfield 13, 3) := by decide +kernel
theorem dX12_count_104 : decode cX12_count 104 = .ok (.bipush 6, 2) := by decide +kernel
theorem dX12_count_106 : decode cX12_count 106 = .ok (.iaload, 1) := by decide +kernel
theorem dX12_count_107 : decode cX12_count 107 = .ok (.ireturn, 1) := by decide +kernel
theorem dX12_count_108 : decode cX12_count 108 = .ok (.aload_n 0, 1) := by decide +kernel
theorem dX12_count_109 : decode cX12_count 109 = .ok (.getfield 81, 3) := by decide +kernel
theorem dX12_count_112 : decode cX12_count 112 = .ok (.iconst 0, 1) := by decide +kernel
theorem dX12_count_113 : decode cX12_count 113 = .ok (.iaload, 1) := by decide +kernel
theorem dX12_count_114 : decode cX12_count 114 = .ok (.ireturn, 1) := by decide +kernel
theorem dX12_count_115 : decode cX12_count 115 = .ok (.aload_n 0, 1) := by decide +kernel
theorem dX12_count_116 : decode cX12_count 116 = .ok (.getfield 84, 3) := by decide +kernel
theorem dX12_count_119 : decode cX12_count 119 = .ok (.iconst 0, 1) := by decide +kernel
theorem dX12_count_120 : decode cX12_count 120 = .ok (.iaload, 1) := by decide +kernel
theorem dX12_count_121 : decode cX12_count 121 = .ok (.ireturn, 1) := by decide +kernel
theorem dX12_count_122 : decode cX12_count 122 = .ok (.aload_n 0, 1) := by decide +kernel
theorem dX12_count_123 : decode cX12_count 123 = .ok (.getfield 108, 3) := by decide +kernel
theorem dX12_count_126 : decode cX12_count 126 = .ok (.iconst 0, 1) := by decide +kernel
theorem dX12_count_127 : decode cX12_count 127 = .ok (.iaload, 1) := by decide +kernel
theorem dX12_count_128 : decode cX12_count 128 = .ok (.ireturn, 1) := by decide +kernel
theorem dX12_count_129 : decode cX12_count 129 = .ok (.aload_n 0, 1) := by decide +kernel
theorem dX12_count_130 : decode cX12_count 130 = .ok (.getfield 325, 3) := by decide +kernel
theorem dX12_count_133 : decode cX12_count 133 = .ok (.ireturn, 1) := by decide +kernel
theorem dX12_count_134 : decode cX12_count 134 = .ok (.aload_n 0, 1) := by decide +kernel
theorem dX12_count_135 : decode cX12_count 135 = .ok (.invokevirtual 467, 3) := by decide +kernel
theorem dX12_count_138 : decode cX12_count 138 = .ok (.ireturn, 1) := by decide +kernel
theorem dX12_count_139 : decode cX12_count 139 = .ok (.aload_n 0, 1) := by decide +kernel
theorem dX12_count_140 : decode cX12_count 140 = .ok (.getfield 93, 3) := by decide +kernel
theorem dX12_count_143 : decode cX12_count 143 = .ok (.iconst 0, 1) := by decide +kernel
theorem dX12_count_144 : decode cX12_count 144 = .ok (.iaload, 1) := by decide +kernel
theorem dX12_count_145 : decode cX12_count 145 = .ok (.invokestatic 485, 3) := by decide +kernel
theorem dX12_count_148 : decode cX12_count 148 = .ok (.ireturn, 1) := by decide +kernel
theorem dX12_count_149 : decode cX12_count 149 = .ok (.iconst 0, 1) := by decide +kernel
theorem dX12_count_150 : decode cX12_count 150 = .ok (.istore_n 3, 1) := by decide +kernel
theorem dX12_count_151 : decode cX12_count 151 = .ok (.iload_n 3, 1) := by decide +kernel
theorem dX12_count_152 : decode cX12_count 152 = .ok (.aload_n 0, 1) := by decide +kernel
theorem dX12_count_153 : decode cX12_count 153 = .ok (.getfield 13, 3) := by decide +kernel
theorem dX12_count_156 : decode cX12_count 156 = .ok (.iconst 0, 1) := by decide +kernel
theorem dX12_count_157 : decode cX12_count 157 = .ok (.iaload, 1) := by decide +kernel
theorem dX12_count_158 : decode cX12_count 158 = .ok (.if_icmp .ge 18, 3) := by decide +kernel
theorem dX12_count_161 : decode cX12_count 161 = .ok (.iload_n 2, 1) := by decide +kernel
theorem dX12_count_162 : decode cX12_count 162 = .ok (.aload_n 0, 1) := by decide +kernel
theorem dX12_count_163 : decode cX12_count 163 = .ok (.getfield 96, 3) := by decide +kernel
theorem dX12_count_166 : decode cX12_count 166 = .ok (.iload_n 3, 1) := by decide +kernel
theorem dX12_count_167 : decode cX12_count 167 = .ok (.iaload, 1) := by decide +kernel
theorem dX12_count_168 : decode cX12_count 168 = .ok (.iadd, 1) := by decide +kernel
theorem dX12_count_169 : decode cX12_count 169 = .ok (.istore_n 2, 1) := by decide +kernel
theorem dX12_count_170 : decode cX12_count 170 = .ok (.iinc 3 1, 3) := by decide +kernel
theorem dX12_count_173 : decode cX12_count 173 = .ok (.goto (-22), 3) := by decide +kernel
theorem dX12_count_176 : decode cX12_count 176 = .ok (.iconst 0, 1) := by decide +kernel
theorem dX12_count_177 : decode cX12_count 177 = .ok (.istore_n 3, 1) := by decide +kernel
theorem dX12_count_178 : decode cX12_count 178 = .ok (.iload_n 3, 1) := by decide +kernel
theorem dX12_count_179 : decode cX12_count 179 = .ok (.aload_n 0, 1) := by decide +kernel
theorem dX12_count_180 : decode cX12_count 180 = .ok (.getfield 13, 3) := by decide +kernel
theorem dX12_count_183 : decode cX12_count 183 = .ok (.iconst 3, 1) := by decide +kernel
theorem dX12_count_184 : decode cX12_count 184 = .ok (.iaload, 1) := by decide +kernel
theorem dX12_count_185 : decode cX12_count 185 = .ok (.if_icmp .ge 18, 3) := by decide +kernel
theorem dX12_count_188 : decode cX12_count 188 = .ok (.iload_n 2, 1) := by decide +kernel
theorem dX12_count_189 : decode cX12_count 189 = .ok (.aload_n 0, 1) := by decide +kernel
theorem dX12_count_190 : decode cX12_count 190 = .ok (.getfield 99, 3) := by decide +kernel
theorem dX12_count_193 : decode cX12_count 193 = .ok (.iload_n 3, 1) := by decide +kernel
theorem dX12_count_194 : decode cX12_count 194 = .ok (.iaload, 1) := by decide +kernel
theorem dX12_count_195 : decode cX12_count 195 = .ok (.iadd, 1) := by decide +kernel
theorem dX12_count_196 : decode cX12_count 196 = .ok (.istore_n 2, 1) := by decide +kernel
theorem dX12_count_197 : decode cX12_count 197 = .ok (.iinc 3 1, 3) := by decide +kernel
theorem dX12_count_200 : decode cX12_count 200 = .ok (.goto (-22), 3) := by decide +kernel
theorem dX12_count_203 : decode cX12_count 203 = .ok (.iload_n 2, 1) := by decide +kernel
theorem dX12_count_204 : decode cX12_count 204 = .ok (.aload_n 0, 1) := by decide +kernel
theorem dX12_count_205 : decode cX12_count 205 = .ok (.getfield 84, 3) := by decide +kernel
theorem dX12_count_208 : decode cX12_count 208 = .ok (.iconst 0, 1) := by decide +kernel
theorem dX12_count_209 : decode cX12_count 209 = .ok (.iaload, 1) := by decide +kernel
theorem dX12_count_210 : decode cX12_count 210 = .ok (.iadd, 1) := by decide +kernel
theorem dX12_count_211 : decode cX12_count 211 = .ok (.aload_n 0, 1) := by decide +kernel
theorem dX12_count_212 : decode cX12_count 212 = .ok (.getfield 90, 3) := by decide +kernel
theorem dX12_count_215 : decode cX12_count 215 = .ok (.iconst 0, 1) := by decide +kernel
theorem dX12_count_216 : decode cX12_count 216 = .ok (.iaload, 1) := by decide +kernel
theorem dX12_count_217 : decode cX12_count 217 = .ok (.iadd, 1) := by decide +kernel
theorem dX12_count_218 : decode cX12_count 218 = .ok (.ireturn, 1) := by decide +kernel
theorem dX12_count_219 : decode cX12_count 219 = .ok (.iconst (-1), 1) := by decide +kernel
theorem dX12_count_220 : decode cX12_count 220 = .ok (.ireturn, 1) := by decide +kernel
theorem dX12_crackOf_0 : decode cX12_crackOf 0 = .ok (.aload_n 0, 1) := by decide +kernel
theorem dX12_crackOf_1 : decode cX12_crackOf 1 = .ok (.iload_n 1, 1) := by decide +kernel
theorem dX12_crackOf_2 : decode cX12_crackOf 2 = .ok (.invokevirtual 387, 3) := by decide +kernel
theorem dX12_crackOf_5 : decode cX12_crackOf 5 = .ok (.aload_n 0, 1) := by decide +kernel
theorem dX12_crackOf_6 : decode cX12_crackOf 6 = .ok (.getfield 117, 3) := by decide +kernel
theorem dX12_crackOf_9 : decode cX12_crackOf 9 = .ok (.iconst 5, 1) := by decide +kernel
theorem dX12_crackOf_10 : decode cX12_crackOf 10 = .ok (.aload_n 0, 1) := by decide +kernel
theorem dX12_crackOf_11 : decode cX12_crackOf 11 = .ok (.getfield 81, 3) := by decide +kernel
theorem dX12_crackOf_14 : decode cX12_crackOf 14 = .ok (.iconst 0, 1) := by decide +kernel
theorem dX12_crackOf_15 : decode cX12_crackOf 15 = .ok (.iaload, 1) := by decide +kernel
theorem dX12_crackOf_16 : decode cX12_crackOf 16 = .ok (.iload_n 2, 1) := by decide +kernel
theorem dX12_crackOf_17 : decode cX12_crackOf 17 = .ok (.iadd, 1) := by decide +kernel
theorem dX12_crackOf_18 : decode cX12_crackOf 18 = .ok (.i2l, 1) := by decide +kernel
theorem dX12_crackOf_19 : decode cX12_crackOf 19 = .ok (.lastore, 1) := by decide +kernel
theorem dX12_crackOf_20 : decode cX12_crackOf 20 = .ok (.aload_n 0, 1) := by decide +kernel
theorem dX12_crackOf_21 : decode cX12_crackOf 21 = .ok (.iconst 1, 1) := by decide +kernel
theorem dX12_crackOf_22 : decode cX12_crackOf 22 = .ok (.bipush 100, 2) := by decide +kernel
theorem dX12_crackOf_24 : decode cX12_crackOf 24 = .ok (.iconst 0, 1) := by decide +kernel
theorem dX12_crackOf_25 : decode cX12_crackOf 25 = .ok (.invokevirtual 399, 3) := by decide +kernel
theorem dX12_crackOf_28 : decode cX12_crackOf 28 = .ok (.ireturn, 1) := by decide +kernel
theorem dX12_cracks_0 : decode cX12_cracks 0 = .ok (.aload_n 0, 1) := by decide +kernel
theorem dX12_cracks_1 : decode cX12_cracks 1 = .ok (.iconst 0, 1) := by decide +kernel
theorem dX12_cracks_2 : decode cX12_cracks 2 = .ok (.putfield 163, 3) := by decide +kernel
theorem dX12_cracks_5 : decode cX12_cracks 5 = .ok (.aload_n 0, 1) := by decide +kernel
theorem dX12_cracks_6 : decode cX12_cracks 6 = .ok (.iload_n 1, 1) := by decide +kernel
theorem dX12_cracks_7 : decode cX12_cracks 7 = .ok (.invokevirtual 335, 3) := by decide +kernel
theorem dX12_cracks_10 : decode cX12_cracks 10 = .ok (.ifCond .eq 12, 3) := by decide +kernel
theorem dX12_cracks_13 : decode cX12_cracks 13 = .ok (.aload_n 0, 1) := by decide +kernel
theorem dX12_cracks_14 : decode cX12_cracks 14 = .ok (.iload_n 1, 1) := by decide +kernel
theorem dX12_cracks_15 : decode cX12_cracks 15 = .ok (.iconst 0, 1) := by decide +kernel
theorem dX12_cracks_16 : decode cX12_cracks 16 = .ok (.invokevirtual 411, 3) := by decide +kernel
theorem dX12_cracks_19 : decode cX12_cracks 19 = .ok (.goto 4, 3) := by decide +kernel
theorem dX12_cracks_22 : decode cX12_cracks 22 = .ok (.iconst (-1), 1) := by decide +kernel
theorem dX12_cracks_23 : decode cX12_cracks 23 = .ok (.ireturn, 1) := by decide +kernel
theorem dX12_draw_0 : decode cX12_draw 0 = .ok (.aload_n 0, 1) := by decide +kernel
theorem dX12_draw_1 : decode cX12_draw 1 = .ok (.getfield 87, 3) := by decide +kernel
theorem dX12_draw_4 : decode cX12_draw 4 = .ok (.iconst 0, 1) := by decide +kernel
theorem dX12_draw_5 : decode cX12_draw 5 = .ok (.aload_n 0, 1) := by decide +kernel
theorem dX12_draw_6 : decode cX12_draw 6 = .ok (.getfield 87, 3) := by decide +kernel
theorem dX12_draw_9 : decode cX12_draw 9 = .ok (.iconst 0, 1) := by decide +kernel
theorem dX12_draw_10 : decode cX12_draw 10 = .ok (.iaload, 1) := by decide +kernel
theorem dX12_draw_11 : decode cX12_draw 11 = .ok (.ldc_w 417, 3) := by decide +kernel
theorem dX12_draw_14 : decode cX12_draw 14 = .ok (.imul, 1) := by decide +kernel
theorem dX12_draw_15 : decode cX12_draw 15 = .ok (.sipush 12345, 3) := by decide +kernel
theorem dX12_draw_18 : decode cX12_draw 18 = .ok (.iadd, 1) := by decide +kernel
theorem dX12_draw_19 : decode cX12_draw 19 = .ok (.ldc_w 420, 3) := by decide +kernel
theorem dX12_draw_22 : decode cX12_draw 22 = .ok (.iand, 1) := by decide +kernel
theorem dX12_draw_23 : decode cX12_draw 23 = .ok (.iastore, 1) := by decide +kernel
theorem dX12_draw_24 : decode cX12_draw 24 = .ok (.aload_n 0, 1) := by decide +kernel
theorem dX12_draw_25 : decode cX12_draw 25 = .ok (.getfield 87, 3) := by decide +kernel
theorem dX12_draw_28 : decode cX12_draw 28 = .ok (.iconst 0, 1) := by decide +kernel
theorem dX12_draw_29 : decode cX12_draw 29 = .ok (.iaload, 1) := by decide +kernel
theorem dX12_draw_30 : decode cX12_draw 30 = .ok (.bipush 16, 2) := by decide +kernel
theorem dX12_draw_32 : decode cX12_draw 32 = .ok (.ishr, 1) := by decide +kernel
theorem dX12_draw_33 : decode cX12_draw 33 = .ok (.bipush 100, 2) := by decide +kernel
theorem dX12_draw_35 : decode cX12_draw 35 = .ok (.irem, 1) := by decide +kernel
theorem dX12_draw_36 : decode cX12_draw 36 = .ok (.ireturn, 1) := by decide +kernel
theorem dX12_due_0 : decode cX12_due 0 = .ok (.aload_n 0, 1) := by decide +kernel
theorem dX12_due_1 : decode cX12_due 1 = .ok (.iconst 0, 1) := by decide +kernel
theorem dX12_due_2 : decode cX12_due 2 = .ok (.putfield 163, 3) := by decide +kernel
theorem dX12_due_5 : decode cX12_due 5 = .ok (.aload_n 0, 1) := by decide +kernel
theorem dX12_due_6 : decode cX12_due 6 = .ok (.iload_n 1, 1) := by decide +kernel
theorem dX12_due_7 : decode cX12_due 7 = .ok (.iload_n 2, 1) := by decide +kernel
theorem dX12_due_8 : decode cX12_due 8 = .ok (.invokevirtual 344, 3) := by decide +kernel
theorem dX12_due_11 : decode cX12_due 11 = .ok (.ifCond .eq 24, 3) := by decide +kernel
theorem dX12_due_14 : decode cX12_due 14 = .ok (.aload_n 0, 1) := by decide +kernel
theorem dX12_due_15 : decode cX12_due 15 = .ok (.iload_n 3, 1) := by decide +kernel
theorem dX12_due_16 : decode cX12_due 16 = .ok (.invokevirtual 335, 3) := by decide +kernel
theorem dX12_due_19 : decode cX12_due 19 = .ok (.ifCond .eq 16, 3) := by decide +kernel
theorem dX12_due_22 : decode cX12_due 22 = .ok (.aload_n 0, 1) := by decide +kernel
theorem dX12_due_23 : decode cX12_due 23 = .ok (.iconst 3, 1) := by decide +kernel
theorem dX12_due_24 : decode cX12_due 24 = .ok (.iload_n 1, 1) := by decide +kernel
theorem dX12_due_25 : decode cX12_due 25 = .ok (.imul, 1) := by decide +kernel
theorem dX12_due_26 : decode cX12_due 26 = .ok (.iload_n 2, 1) := by decide +kernel
theorem dX12_due_27 : decode cX12_due 27 = .ok (.iadd, 1) := by decide +kernel
theorem dX12_due_28 : decode cX12_due 28 = .ok (.iload_n 3, 1) := by decide +kernel
theorem dX12_due_29 : decode cX12_due 29 = .ok (.invokevirtual 405, 3) := by decide +kernel
theorem dX12_due_32 : decode cX12_due 32 = .ok (.goto 4, 3) := by decide +kernel
theorem dX12_due_35 : decode cX12_due 35 = .ok (.iconst (-1), 1) := by decide +kernel
theorem dX12_due_36 : decode cX12_due 36 = .ok (.ireturn, 1) := by decide +kernel
theorem dX12_dueOf_0 : decode cX12_dueOf 0 = .ok (.aload_n 0, 1) := by decide +kernel
theorem dX12_dueOf_1 : decode cX12_dueOf 1 = .ok (.getfield 38, 3) := by decide +kernel
theorem dX12_dueOf_4 : decode cX12_dueOf 4 = .ok (.iload_n 2, 1) := by decide +kernel
theorem dX12_dueOf_5 : decode cX12_dueOf 5 = .ok (.iaload, 1) := by decide +kernel
theorem dX12_dueOf_6 : decode cX12_dueOf 6 = .ok (.iconst (-1), 1) := by decide +kernel
theorem dX12_dueOf_7 : decode cX12_dueOf 7 = .ok (.if_icmp .ne 5, 3) := by decide +kernel
theorem dX12_dueOf_10 : decode cX12_dueOf 10 = .ok (.iconst 0, 1) := by decide +kernel
theorem dX12_dueOf_11 : decode cX12_dueOf 11 = .ok (.ireturn, 1) := by decide +kernel
theorem dX12_dueOf_12 : decode cX12_dueOf 12 = .ok (.aload_n 0, 1) := by decide +kernel
theorem dX12_dueOf_13 : decode cX12_dueOf 13 = .ok (.iload_n 2, 1) := by decide +kernel
theorem dX12_dueOf_14 : decode cX12_dueOf 14 = .ok (.invokevirtual 387, 3) := by decide +kernel
theorem dX12_dueOf_17 : decode cX12_dueOf 17 = .ok (.aload_n 0, 1) := by decide +kernel
