theorem dX12_sign_72 : decode cX12_sign 72 = .ok (.goto 4, 3) := by decide +kernel
theorem dX12_sign_75 : decode cX12_sign 75 = .ok (.iconst 5, 1) := by decide +kernel
theorem dX12_sign_76 : decode cX12_sign 76 = .ok (.putfield 182, 3) := by decide +kernel
theorem dX12_sign_79 : decode cX12_sign 79 = .ok (.aload_n 0, 1) := by decide +kernel
theorem dX12_sign_80 : decode cX12_sign 80 = .ok (.iload_n 1, 1) := by decide +kernel
theorem dX12_sign_81 : decode cX12_sign 81 = .ok (.putfield 192, 3) := by decide +kernel
theorem dX12_sign_84 : decode cX12_sign 84 = .ok (.iload_n 1, 1) := by decide +kernel
theorem dX12_sign_85 : decode cX12_sign 85 = .ok (.bipush 60, 2) := by decide +kernel
theorem dX12_sign_87 : decode cX12_sign 87 = .ok (.if_icmp .ne 19, 3) := by decide +kernel
theorem dX12_sign_90 : decode cX12_sign 90 = .ok (.aload_n 0, 1) := by decide +kernel
theorem dX12_sign_91 : decode cX12_sign 91 = .ok (.invokevirtual 175, 3) := by decide +kernel
theorem dX12_sign_94 : decode cX12_sign 94 = .ok (.bipush 61, 2) := by decide +kernel
theorem dX12_sign_96 : decode cX12_sign 96 = .ok (.if_icmp .ne 10, 3) := by decide +kernel
theorem dX12_sign_99 : decode cX12_sign 99 = .ok (.aload_n 0, 1) := by decide +kernel
theorem dX12_sign_100 : decode cX12_sign 100 = .ok (.sipush 256, 3) := by decide +kernel
theorem dX12_sign_103 : decode cX12_sign 103 = .ok (.putfield 192, 3) := by decide +kernel
theorem dX12_sign_106 : decode cX12_sign 106 = .ok (.iload_n 1, 1) := by decide +kernel
theorem dX12_sign_107 : decode cX12_sign 107 = .ok (.bipush 60, 2) := by decide +kernel
theorem dX12_sign_109 : decode cX12_sign 109 = .ok (.if_icmp .ne 19, 3) := by decide +kernel
theorem dX12_sign_112 : decode cX12_sign 112 = .ok (.aload_n 0, 1) := by decide +kernel
theorem dX12_sign_113 : decode cX12_sign 113 = .ok (.invokevirtual 175, 3) := by decide +kernel
theorem dX12_sign_116 : decode cX12_sign 116 = .ok (.bipush 62, 2) := by decide +kernel
theorem dX12_sign_118 : decode cX12_sign 118 = .ok (.if_icmp .ne 10, 3) := by decide +kernel
theorem dX12_sign_121 : decode cX12_sign 121 = .ok (.aload_n 0, 1) := by decide +kernel
theorem dX12_sign_122 : decode cX12_sign 122 = .ok (.sipush 257, 3) := by decide +kernel
theorem dX12_sign_125 : decode cX12_sign 125 = .ok (.putfield 192, 3) := by decide +kernel
theorem dX12_sign_128 : decode cX12_sign 128 = .ok (.iload_n 1, 1) := by decide +kernel
theorem dX12_sign_129 : decode cX12_sign 129 = .ok (.bipush 62, 2) := by decide +kernel
theorem dX12_sign_131 : decode cX12_sign 131 = .ok (.if_icmp .ne 19, 3) := by decide +kernel
theorem dX12_sign_134 : decode cX12_sign 134 = .ok (.aload_n 0, 1) := by decide +kernel
theorem dX12_sign_135 : decode cX12_sign 135 = .ok (.invokevirtual 175, 3) := by decide +kernel
theorem dX12_sign_138 : decode cX12_sign 138 = .ok (.bipush 61, 2) := by decide +kernel
theorem dX12_sign_140 : decode cX12_sign 140 = .ok (.if_icmp .ne 10, 3) := by decide +kernel
theorem dX12_sign_143 : decode cX12_sign 143 = .ok (.aload_n 0, 1) := by decide +kernel
theorem dX12_sign_144 : decode cX12_sign 144 = .ok (.sipush 258, 3) := by decide +kernel
theorem dX12_sign_147 : decode cX12_sign 147 = .ok (.putfield 192, 3) := by decide +kernel
theorem dX12_sign_150 : decode cX12_sign 150 = .ok (.aload_n 0, 1) := by decide +kernel
theorem dX12_sign_151 : decode cX12_sign 151 = .ok (.getfield 192, 3) := by decide +kernel
theorem dX12_sign_154 : decode cX12_sign 154 = .ok (.sipush 256, 3) := by decide +kernel
theorem dX12_sign_157 : decode cX12_sign 157 = .ok (.if_icmp .lt 13, 3) := by decide +kernel
theorem dX12_sign_160 : decode cX12_sign 160 = .ok (.aload_n 0, 1) := by decide +kernel
theorem dX12_sign_161 : decode cX12_sign 161 = .ok (.dup, 1) := by decide +kernel
theorem dX12_sign_162 : decode cX12_sign 162 = .ok (.getfield 169, 3) := by decide +kernel
theorem dX12_sign_165 : decode cX12_sign 165 = .ok (.iconst 1, 1) := by decide +kernel
theorem dX12_sign_166 : decode cX12_sign 166 = .ok (.iadd, 1) := by decide +kernel
theorem dX12_sign_167 : decode cX12_sign 167 = .ok (.putfield 169, 3) := by decide +kernel
theorem dX12_sign_170 : decode cX12_sign 170 = .ok (.return_, 1) := by decide +kernel
theorem dX12_sings_0 : decode cX12_sings 0 = .ok (.aload_n 0, 1) := by decide +kernel
theorem dX12_sings_1 : decode cX12_sings 1 = .ok (.iconst 0, 1) := by decide +kernel
theorem dX12_sings_2 : decode cX12_sings 2 = .ok (.putfield 163, 3) := by decide +kernel
theorem dX12_sings_5 : decode cX12_sings 5 = .ok (.aload_n 0, 1) := by decide +kernel
theorem dX12_sings_6 : decode cX12_sings 6 = .ok (.iload_n 1, 1) := by decide +kernel
theorem dX12_sings_7 : decode cX12_sings 7 = .ok (.iload_n 2, 1) := by decide +kernel
theorem dX12_sings_8 : decode cX12_sings 8 = .ok (.invokevirtual 344, 3) := by decide +kernel
theorem dX12_sings_11 : decode cX12_sings 11 = .ok (.ifCond .ne 5, 3) := by decide +kernel
theorem dX12_sings_14 : decode cX12_sings 14 = .ok (.iconst (-1), 1) := by decide +kernel
theorem dX12_sings_15 : decode cX12_sings 15 = .ok (.ireturn, 1) := by decide +kernel
theorem dX12_sings_16 : decode cX12_sings 16 = .ok (.aload_n 0, 1) := by decide +kernel
theorem dX12_sings_17 : decode cX12_sings 17 = .ok (.getfield 105, 3) := by decide +kernel
theorem dX12_sings_20 : decode cX12_sings 20 = .ok (.iconst 3, 1) := by decide +kernel
theorem dX12_sings_21 : decode cX12_sings 21 = .ok (.iload_n 1, 1) := by decide +kernel
theorem dX12_sings_22 : decode cX12_sings 22 = .ok (.imul, 1) := by decide +kernel
theorem dX12_sings_23 : decode cX12_sings 23 = .ok (.iload_n 2, 1) := by decide +kernel
theorem dX12_sings_24 : decode cX12_sings 24 = .ok (.iadd, 1) := by decide +kernel
theorem dX12_sings_25 : decode cX12_sings 25 = .ok (.iaload, 1) := by decide +kernel
theorem dX12_sings_26 : decode cX12_sings 26 = .ok (.istore_n 3, 1) := by decide +kernel
theorem dX12_sings_27 : decode cX12_sings 27 = .ok (.iload_n 3, 1) := by decide +kernel
theorem dX12_sings_28 : decode cX12_sings 28 = .ok (.iconst (-1), 1) := by decide +kernel
theorem dX12_sings_29 : decode cX12_sings 29 = .ok (.if_icmp .ne 8, 3) := by decide +kernel
theorem dX12_sings_32 : decode cX12_sings 32 = .ok (.bipush (-2), 2) := by decide +kernel
theorem dX12_sings_34 : decode cX12_sings 34 = .ok (.goto 4, 3) := by decide +kernel
theorem dX12_sings_37 : decode cX12_sings 37 = .ok (.iload_n 3, 1) := by decide +kernel
theorem dX12_sings_38 : decode cX12_sings 38 = .ok (.ireturn, 1) := by decide +kernel
theorem dX12_singsIn_0 : decode cX12_singsIn 0 = .ok (.iconst 3, 1) := by decide +kernel
theorem dX12_singsIn_1 : decode cX12_singsIn 1 = .ok (.iload_n 1, 1) := by decide +kernel
theorem dX12_singsIn_2 : decode cX12_singsIn 2 = .ok (.imul, 1) := by decide +kernel
theorem dX12_singsIn_3 : decode cX12_singsIn 3 = .ok (.istore_n 3, 1) := by decide +kernel
theorem dX12_singsIn_4 : decode cX12_singsIn 4 = .ok (.iload_n 3, 1) := by decide +kernel
theorem dX12_singsIn_5 : decode cX12_singsIn 5 = .ok (.iconst 3, 1) := by decide +kernel
theorem dX12_singsIn_6 : decode cX12_singsIn 6 = .ok (.iload_n 1, 1) := by decide +kernel
theorem dX12_singsIn_7 : decode cX12_singsIn 7 = .ok (.imul, 1) := by decide +kernel
theorem dX12_singsIn_8 : decode cX12_singsIn 8 = .ok (.aload_n 0, 1) := by decide +kernel
theorem dX12_singsIn_9 : decode cX12_singsIn 9 = .ok (.getfield 50, 3) := by decide +kernel
theorem dX12_singsIn_12 : decode cX12_singsIn 12 = .ok (.iload_n 1, 1) := by decide +kernel
theorem dX12_singsIn_13 : decode cX12_singsIn 13 = .ok (.iaload, 1) := by decide +kernel
theorem dX12_singsIn_14 : decode cX12_singsIn 14 = .ok (.iadd, 1) := by decide +kernel
theorem dX12_singsIn_15 : decode cX12_singsIn 15 = .ok (.if_icmp .ge 21, 3) := by decide +kernel
theorem dX12_singsIn_18 : decode cX12_singsIn 18 = .ok (.aload_n 0, 1) := by decide +kernel
theorem dX12_singsIn_19 : decode cX12_singsIn 19 = .ok (.getfield 105, 3) := by decide +kernel
theorem dX12_singsIn_22 : decode cX12_singsIn 22 = .ok (.iload_n 3, 1) := by decide +kernel
theorem dX12_singsIn_23 : decode cX12_singsIn 23 = .ok (.iaload, 1) := by decide +kernel
theorem dX12_singsIn_24 : decode cX12_singsIn 24 = .ok (.iload_n 2, 1) := by decide +kernel
theorem dX12_singsIn_25 : decode cX12_singsIn 25 = .ok (.if_icmp .ne 5, 3) := by decide +kernel
theorem dX12_singsIn_28 : decode cX12_singsIn 28 = .ok (.iconst 1, 1) := by decide +kernel
theorem dX12_singsIn_29 : decode cX12_singsIn 29 = .ok (.ireturn, 1) := by decide +kernel
theorem dX12_singsIn_30 : decode cX12_singsIn 30 = .ok (.iinc 3 1, 3) := by decide +kernel
theorem dX12_singsIn_33 : decode cX12_singsIn 33 = .ok (.goto (-29), 3) := by decide +kernel
theorem dX12_singsIn_36 : decode cX12_singsIn 36 = .ok (.iconst 0, 1) := by decide +kernel
theorem dX12_singsIn_37 : decode cX12_singsIn 37 = .ok (.ireturn, 1) := by decide +kernel
theorem dX12_sold_0 : decode cX12_sold 0 = .ok (.aload_n 0, 1) := by decide +kernel
theorem dX12_sold_1 : decode cX12_sold 1 = .ok (.iconst 0, 1) := by decide +kernel
theorem dX12_sold_2 : decode cX12_sold 2 = .ok (.putfield 163, 3) := by decide +kernel
theorem dX12_sold_5 : decode cX12_sold 5 = .ok (.aload_n 0, 1) := by decide +kernel
theorem dX12_sold_6 : decode cX12_sold 6 = .ok (.iload_n 1, 1) := by decide +kernel
theorem dX12_sold_7 : decode cX12_sold 7 = .ok (.invokevirtual 461, 3) := by decide +kernel
theorem dX12_sold_10 : decode cX12_sold 10 = .ok (.ifCond .eq 28, 3) := by decide +kernel
theorem dX12_sold_13 : decode cX12_sold 13 = .ok (.aload_n 0, 1) := by decide +kernel
theorem dX12_sold_14 : decode cX12_sold 14 = .ok (.iload_n 2, 1) := by decide +kernel
theorem dX12_sold_15 : decode cX12_sold 15 = .ok (.invokevirtual 332, 3) := by decide +kernel
theorem dX12_sold_18 : decode cX12_sold 18 = .ok (.ifCond .eq 20, 3) := by decide +kernel
theorem dX12_sold_21 : decode cX12_sold 21 = .ok (.iload_n 1, 1) := by decide +kernel
theorem dX12_sold_22 : decode cX12_sold 22 = .ok (.iload_n 2, 1) := by decide +kernel
theorem dX12_sold_23 : decode cX12_sold 23 = .ok (.ishr, 1) := by decide +kernel
theorem dX12_sold_24 : decode cX12_sold 24 = .ok (.iconst 1, 1) := by decide +kernel
theorem dX12_sold_25 : decode cX12_sold 25 = .ok (.iand, 1) := by decide +kernel
theorem dX12_sold_26 : decode cX12_sold 26 = .ok (.ifCond .eq 12, 3) := by decide +kernel
theorem dX12_sold_29 : decode cX12_sold 29 = .ok (.iload_n 3, 1) := by decide +kernel
theorem dX12_sold_30 : decode cX12_sold 30 = .ok (.ifCond .lt 8, 3) := by decide +kernel
theorem dX12_sold_33 : decode cX12_sold 33 = .ok (.iload_n 3, 1) := by decide +kernel
theorem dX12_sold_34 : decode cX12_sold 34 = .ok (.iconst 1, 1) := by decide +kernel
theorem dX12_sold_35 : decode cX12_sold 35 = .ok (.if_icmp .le 5, 3) := by decide +kernel
theorem dX12_sold_38 : decode cX12_sold 38 = .ok (.iconst (-1), 1) := by decide +kernel
theorem dX12_sold_39 : decode cX12_sold 39 = .ok (.ireturn, 1) := by decide +kernel
theorem dX12_sold_40 : decode cX12_sold 40 = .ok (.aload_n 0, 1) := by decide +kernel
theorem dX12_sold_41 : decode cX12_sold 41 = .ok (.iload_n 1, 1) := by decide +kernel
theorem dX12_sold_42 : decode cX12_sold 42 = .ok (.iload_n 2, 1) := by decide +kernel
theorem dX12_sold_43 : decode cX12_sold 43 = .ok (.invokevirtual 464, 3) := by decide +kernel
theorem dX12_sold_46 : decode cX12_sold 46 = .ok (.pop, 1) := by decide +kernel
theorem dX12_sold_47 : decode cX12_sold 47 = .ok (.iload_n 3, 1) := by decide +kernel
theorem dX12_sold_48 : decode cX12_sold 48 = .ok (.iconst 1, 1) := by decide +kernel
theorem dX12_sold_49 : decode cX12_sold 49 = .ok (.if_icmp .ne 10, 3) := by decide +kernel
theorem dX12_sold_52 : decode cX12_sold 52 = .ok (.aload_n 0, 1) := by decide +kernel
theorem dX12_sold_53 : decode cX12_sold 53 = .ok (.getfield 458, 3) := by decide +kernel
theorem dX12_sold_56 : decode cX12_sold 56 = .ok (.goto 20, 3) := by decide +kernel
theorem dX12_sold_59 : decode cX12_sold 59 = .ok (.aload_n 0, 1) := by decide +kernel
theorem dX12_sold_60 : decode cX12_sold 60 = .ok (.getfield 455, 3) := by decide +kernel
theorem dX12_sold_63 : decode cX12_sold 63 = .ok (.iconst (-1), 1) := by decide +kernel
theorem dX12_sold_64 : decode cX12_sold 64 = .ok (.if_icmp .ne 8, 3) := by decide +kernel
theorem dX12_sold_67 : decode cX12_sold 67 = .ok (.bipush (-2), 2) := by decide +kernel
theorem dX12_sold_69 : decode cX12_sold 69 = .ok (.goto 7, 3) := by decide +kernel
theorem dX12_sold_72 : decode cX12_sold 72 = .ok (.aload_n 0, 1) := by decide +kernel
theorem dX12_sold_73 : decode cX12_sold 73 = .ok (.getfield 455, 3) := by decide +kernel
theorem dX12_sold_76 : decode cX12_sold 76 = .ok (.ireturn, 1) := by decide +kernel
theorem dX12_sounds_0 : decode cX12_sounds 0 = .ok (.aload_n 0, 1) := by decide +kernel
theorem dX12_sounds_1 : decode cX12_sounds 1 = .ok (.iconst 0, 1) := by decide +kernel
theorem dX12_sounds_2 : decode cX12_sounds 2 = .ok (.putfield 163, 3) := by decide +kernel
theorem dX12_sounds_5 : decode cX12_sounds 5 = .ok (.aload_n 0, 1) := by decide +kernel
theorem dX12_sounds_6 : decode cX12_sounds 6 = .ok (.iload_n 1, 1) := by decide +kernel
theorem dX12_sounds_7 : decode cX12_sounds 7 = .ok (.iload_n 2, 1) := by decide +kernel
theorem dX12_sounds_8 : decode cX12_sounds 8 = .ok (.invokevirtual 344, 3) := by decide +kernel
theorem dX12_sounds_11 : decode cX12_sounds 11 = .ok (.ifCond .eq 24, 3) := by decide +kernel
theorem dX12_sounds_14 : decode cX12_sounds 14 = .ok (.aload_n 0, 1) := by decide +kernel
theorem dX12_sounds_15 : decode cX12_sounds 15 = .ok (.iload_n 3, 1) := by decide +kernel
theorem dX12_sounds_16 : decode cX12_sounds 16 = .ok (.invokevirtual 335, 3) := by decide +kernel
theorem dX12_sounds_19 : decode cX12_sounds 19 = .ok (.ifCond .eq 16, 3) := by decide +kernel
theorem dX12_sounds_22 : decode cX12_sounds 22 = .ok (.aload_n 0, 1) := by decide +kernel
theorem dX12_sounds_23 : decode cX12_sounds 23 = .ok (.iconst 3, 1) := by decide +kernel
theorem dX12_sounds_24 : decode cX12_sounds 24 = .ok (.iload_n 1, 1) := by decide +kernel
theorem dX12_sounds_25 : decode cX12_sounds 25 = .ok (.imul, 1) := by decide +kernel
theorem dX12_sounds_26 : decode cX12_sounds 26 = .ok (.iload_n 2, 1) := by decide +kernel
theorem dX12_sounds_27 : decode cX12_sounds 27 = .ok (.iadd, 1) := by decide +kernel
theorem dX12_sounds_28 : decode cX12_sounds 28 = .ok (.iload_n 3, 1) := by decide +kernel
theorem dX12_sounds_29 : decode cX12_sounds 29 = .ok (.invokevirtual 390, 3) := by decide +kernel
theorem dX12_sounds_32 : decode cX12_sounds 32 = .ok (.goto 4, 3) := by decide +kernel
theorem dX12_sounds_35 : decode cX12_sounds 35 = .ok (.iconst (-1), 1) := by decide +kernel
theorem dX12_sounds_36 : decode cX12_sounds 36 = .ok (.ireturn, 1) := by decide +kernel
theorem dX12_soundsOf_0 : decode cX12_soundsOf 0 = .ok (.iconst 0, 1) := by decide +kernel
theorem dX12_soundsOf_1 : decode cX12_soundsOf 1 = .ok (.istore_n 3, 1) := by decide +kernel
theorem dX12_soundsOf_2 : decode cX12_soundsOf 2 = .ok (.iconst 0, 1) := by decide +kernel
theorem dX12_soundsOf_3 : decode cX12_soundsOf 3 = .ok (.istore 4, 2) := by decide +kernel
theorem dX12_soundsOf_5 : decode cX12_soundsOf 5 = .ok (.iload 4, 2) := by decide +kernel
theorem dX12_soundsOf_7 : decode cX12_soundsOf 7 = .ok (.aload_n 0, 1) := by decide +kernel
theorem dX12_soundsOf_8 : decode cX12_soundsOf 8 = .ok (.getfield 53, 3) := by decide +kernel
theorem dX12_soundsOf_11 : decode cX12_soundsOf 11 = .ok (.iload_n 1, 1) := by decide +kernel
theorem dX12_soundsOf_12 : decode cX12_soundsOf 12 = .ok (.iaload, 1) := by decide +kernel
theorem dX12_soundsOf_13 : decode cX12_soundsOf 13 = .ok (.if_icmp .ge 28, 3) := by decide +kernel
theorem dX12_soundsOf_16 : decode cX12_soundsOf 16 = .ok (.iload_n 3, 1) := by decide +kernel
theorem dX12_soundsOf_17 : decode cX12_soundsOf 17 = .ok (.aload_n 0, 1) := by decide +kernel
theorem dX12_soundsOf_18 : decode cX12_soundsOf 18 = .ok (.iload_n 1, 1) := by decide +kernel
theorem dX12_soundsOf_19 : decode cX12_soundsOf 19 = .ok (.iload_n 2, 1) := by decide +kernel
theorem dX12_soundsOf_20 : decode cX12_soundsOf 20 = .ok (.iload 4, 2) := by decide +kernel
theorem dX12_soundsOf_22 : decode cX12_soundsOf 22 = .ok (.invokevirtual 381, 3) := by decide +kernel
theorem dX12_soundsOf_25 : decode cX12_soundsOf 25 = .ok (.ifCond .eq 7, 3) := by decide +kernel
theorem dX12_soundsOf_28 : decode cX12_soundsOf 28 = .ok (.iconst 1, 1) := by decide +kernel
theorem dX12_soundsOf_29 : decode cX12_soundsOf 29 = .ok (.goto 4, 3) := by decide +kernel
theorem dX12_soundsOf_32 : decode cX12_soundsOf 32 = .ok (.iconst 0, 1) := by decide +kernel
theorem dX12_soundsOf_33 : decode cX12_soundsOf 33 = .ok (.iadd, 1) := by decide +kernel
theorem dX12_soundsOf_34 : decode cX12_soundsOf 34 = .ok (.istore_n 3, 1) := by decide +kernel
theorem dX12_soundsOf_35 : decode cX12_soundsOf 35 = .ok (.iinc 4 1, 3) := by decide +kernel
theorem dX12_soundsOf_38 : decode cX12_soundsOf 38 = .ok (.goto (-33), 3) := by decide +kernel
theorem dX12_soundsOf_41 : decode cX12_soundsOf 41 = .ok (.iload_n 3, 1) := by decide +kernel
theorem dX12_soundsOf_42 : decode cX12_soundsOf 42 = .ok (.ireturn, 1) := by decide +kernel
theorem dX12_starts_0 : decode cX12_starts 0 = .ok (.iconst 0, 1) := by decide +kernel
theorem dX12_starts_1 : decode cX12_starts 1 = .ok (.istore_n 1, 1) := by decide +kernel
theorem dX12_starts_2 : decode cX12_starts 2 = .ok (.iload_n 1, 1) := by decide +kernel
theorem dX12_starts_3 : decode cX12_starts 3 = .ok (.iconst 3, 1) := by decide +kernel
theorem dX12_starts_4 : decode cX12_starts 4 = .ok (.if_icmp .ge 16, 3) := by decide +kernel
theorem dX12_starts_7 : decode cX12_starts 7 = .ok (.aload_n 0, 1) := by decide +kernel
theorem dX12_starts_8 : decode cX12_starts 8 = .ok (.getfield 136, 3) := by decide +kernel
theorem dX12_starts_11 : decode cX12_starts 11 = .ok (.iload_n 1, 1) := by decide +kernel
theorem dX12_starts_12 : decode cX12_starts 12 = .ok (.iconst 0, 1) := by decide +kernel
theorem dX12_starts_13 : decode cX12_starts 13 = .ok (.iastore, 1) := by decide +kernel
theorem dX12_starts_14 : decode cX12_starts 14 = .ok (.iinc 1 1, 3) := by decide +kernel
theorem dX12_starts_17 : decode cX12_starts 17 = .ok (.goto (-15), 3) := by decide +kernel
theorem dX12_starts_20 : decode cX12_starts 20 = .ok (.return_, 1) := by decide +kernel
theorem dX12_strike_0 : decode cX12_strike 0 = .ok (.aload_n 0, 1) := by decide +kernel
theorem dX12_strike_1 : decode cX12_strike 1 = .ok (.iconst 0, 1) := by decide +kernel
theorem dX12_strike_2 : decode cX12_strike 2 = .ok (.putfield 163, 3) := by decide +kernel
theorem dX12_strike_5 : decode cX12_strike 5 = .ok (.iload_n 1, 1) := by decide +kernel
theorem dX12_strike_6 : decode cX12_strike 6 = .ok (.ifCond .lt 20, 3) := by decide +kernel
theorem dX12_strike_9 : decode cX12_strike 9 = .ok (.iload_n 1, 1) := by decide +kernel
theorem dX12_strike_10 : decode cX12_strike 10 = .ok (.aload_n 0, 1) := by decide +kernel
theorem dX12_strike_11 : decode cX12_strike 11 = .ok (.getfield 325, 3) := by decide +kernel
theorem dX12_strike_14 : decode cX12_strike 14 = .ok (.if_icmp .ge 12, 3) := by decide +kernel
theorem dX12_strike_17 : decode cX12_strike 17 = .ok (.aload_n 0, 1) := by decide +kernel
theorem dX12_strike_18 : decode cX12_strike 18 = .ok (.getfield 325, 3) := by decide +kernel
theorem dX12_strike_21 : decode cX12_strike 21 = .ok (.bipush 24, 2) := by decide +kernel
theorem dX12_strike_23 : decode cX12_strike 23 = .ok (.if_icmp .ne 5, 3) := by decide +kernel
theorem dX12_strike_26 : decode cX12_strike 26 = .ok (.iconst (-1), 1) := by decide +kernel
theorem dX12_strike_27 : decode cX12_strike 27 = .ok (.ireturn, 1) := by decide +kernel
theorem dX12_strike_28 : decode cX12_strike 28 = .ok (.aload_n 0, 1) := by decide +kernel
theorem dX12_strike_29 : decode cX12_strike 29 = .ok (.getfield 148, 3) := by decide +kernel
theorem dX12_strike_32 : decode cX12_strike 32 = .ok (.aload_n 0, 1) := by decide +kernel
theorem dX12_strike_33 : decode cX12_strike 33 = .ok (.getfield 325, 3) := by decide +kernel
theorem dX12_strike_36 : decode cX12_strike 36 = .ok (.iload_n 1, 1) := by decide +kernel
theorem dX12_strike_37 : decode cX12_strike 37 = .ok (.iastore, 1) := by decide +kernel
theorem dX12_strike_38 : decode cX12_strike 38 = .ok (.aload_n 0, 1) := by decide +kernel
theorem dX12_strike_39 : decode cX12_strike 39 = .ok (.dup, 1) := by decide +kernel
theorem dX12_strike_40 : decode cX12_strike 40 = .ok (.getfield 325, 3) := by decide +kernel
theorem dX12_strike_43 : decode cX12_strike 43 = .ok (.iconst 1, 1) := by decide +kernel
theorem dX12_strike_44 : decode cX12_strike 44 = .ok (.iadd, 1) := by decide +kernel
theorem dX12_strike_45 : decode cX12_strike 45 = .ok (.putfield 325, 3) := by decide +kernel
theorem dX12_strike_48 : decode cX12_strike 48 = .ok (.aload_n 0, 1) := by decide +kernel
theorem dX12_strike_49 : decode cX12_strike 49 = .ok (.getfield 325, 3) := by decide +kernel
theorem dX12_strike_52 : decode cX12_strike 52 = .ok (.iconst 1, 1) := by decide +kernel
theorem dX12_strike_53 : decode cX12_strike 53 = .ok (.isub, 1) := by decide +kernel
theorem dX12_strike_54 : decode cX12_strike 54 = .ok (.ireturn, 1) := by decide +kernel
theorem dX12_strikes_0 : decode cX12_strikes 0 = .ok (.iconst 0, 1) := by decide +kernel
theorem dX12_strikes_1 : decode cX12_strikes 1 = .ok (.istore_n 1, 1) := by decide +kernel
theorem dX12_strikes_2 : decode cX12_strikes 2 = .ok (.iload_n 1, 1) := by decide +kernel
theorem dX12_strikes_3 : decode cX12_strikes 3 = .ok (.aload_n 0, 1) := by decide +kernel
theorem dX12_strikes_4 : decode cX12_strikes 4 = .ok (.invokevirtual 467, 3) := by decide +kernel
theorem dX12_strikes_7 : decode cX12_strikes 7 = .ok (.if_icmp .ge 16, 3) := by decide +kernel
theorem dX12_strikes_10 : decode cX12_strikes 10 = .ok (.aload_n 0, 1) := by decide +kernel
theorem dX12_strikes_11 : decode cX12_strikes 11 = .ok (.getfield 151, 3) := by decide +kernel
theorem dX12_strikes_14 : decode cX12_strikes 14 = .ok (.iload_n 1, 1) := by decide +kernel
theorem dX12_strikes_15 : decode cX12_strikes 15 = .ok (.iconst 0, 1) := by decide +kernel
theorem dX12_strikes_16 : decode cX12_strikes 16 = .ok (.bastore, 1) := by decide +kernel
theorem dX12_strikes_17 : decode cX12_strikes 17 = .ok (.iinc 1 1, 3) := by decide +kernel
theorem dX12_strikes_20 : decode cX12_strikes 20 = .ok (.goto (-18), 3) := by decide +kernel
theorem dX12_strikes_23 : decode cX12_strikes 23 = .ok (.aload_n 0, 1) := by decide +kernel
theorem dX12_strikes_24 : decode cX12_strikes 24 = .ok (.invokevirtual 467, 3) := by decide +kernel
theorem dX12_strikes_27 : decode cX12_strikes 27 = .ok (.iconst 1, 1) := by decide +kernel
theorem dX12_strikes_28 : decode cX12_strikes 28 = .ok (.isub, 1) := by decide +kernel
theorem dX12_strikes_29 : decode cX12_strikes 29 = .ok (.istore_n 1, 1) := by decide +kernel
theorem dX12_strikes_30 : decode cX12_strikes 30 = .ok (.iload_n 1, 1) := by decide +kernel
theorem dX12_strikes_31 : decode cX12_strikes 31 = .ok (.ifCond .lt 40, 3) := by decide +kernel
theorem dX12_strikes_34 : decode cX12_strikes 34 = .ok (.aload_n 0, 1) := by decide +kernel
theorem dX12_strikes_35 : decode cX12_strikes 35 = .ok (.getfield 151, 3) := by decide +kernel
theorem dX12_strikes_38 : decode cX12_strikes 38 = .ok (.iload_n 1, 1) := by decide +kernel
theorem dX12_strikes_39 : decode cX12_strikes 39 = .ok (.baload, 1) := by decide +kernel
theorem dX12_strikes_40 : decode cX12_strikes 40 = .ok (.ifCond .ne 25, 3) := by decide +kernel
theorem dX12_strikes_43 : decode cX12_strikes 43 = .ok (.aload_n 0, 1) := by decide +kernel
theorem dX12_strikes_44 : decode cX12_strikes 44 = .ok (.getfield 148, 3) := by decide +kernel
theorem dX12_strikes_47 : decode cX12_strikes 47 = .ok (.iload_n 1, 1) := by decide +kernel
theorem dX12_strikes_48 : decode cX12_strikes 48 = .ok (.iaload, 1) := by decide +kernel
theorem dX12_strikes_49 : decode cX12_strikes 49 = .ok (.iconst (-1), 1) := by decide +kernel
theorem dX12_strikes_50 : decode cX12_strikes 50 = .ok (.if_icmp .eq 15, 3) := by decide +kernel
theorem dX12_strikes_53 : decode cX12_strikes 53 = .ok (.aload_n 0, 1) := by decide +kernel
theorem dX12_strikes_54 : decode cX12_strikes 54 = .ok (.getfield 151, 3) := by decide +kernel
theorem dX12_strikes_57 : decode cX12_strikes 57 = .ok (.aload_n 0, 1) := by decide +kernel
theorem dX12_strikes_58 : decode cX12_strikes 58 = .ok (.getfield 148, 3) := by decide +kernel
theorem dX12_strikes_61 : decode cX12_strikes 61 = .ok (.iload_n 1, 1) := by decide +kernel
theorem dX12_strikes_62 : decode cX12_strikes 62 = .ok (.iaload, 1) := by decide +kernel
theorem dX12_strikes_63 : decode cX12_strikes 63 = .ok (.iconst 1, 1) := by decide +kernel
theorem dX12_strikes_64 : decode cX12_strikes 64 = .ok (.bastore, 1) := by decide +kernel
theorem dX12_strikes_65 : decode cX12_strikes 65 = .ok (.iinc 1 (-1), 3) := by decide +kernel
theorem dX12_strikes_68 : decode cX12_strikes 68 = .ok (.goto (-38), 3) := by decide +kernel
theorem dX12_strikes_71 : decode cX12_strikes 71 = .ok (.return_, 1) := by decide +kernel
theorem dX12_sum_0 : decode cX12_sum 0 = .ok (.aload_n 0, 1) := by decide +kernel
theorem dX12_sum_1 : decode cX12_sum 1 = .ok (.invokevirtual 306, 3) := by decide +kernel
theorem dX12_sum_4 : decode cX12_sum 4 = .ok (.aload_n 0, 1) := by decide +kernel
theorem dX12_sum_5 : decode cX12_sum 5 = .ok (.bipush 43, 2) := by decide +kernel
theorem dX12_sum_7 : decode cX12_sum 7 = .ok (.invokevirtual 270, 3) := by decide +kernel
theorem dX12_sum_10 : decode cX12_sum 10 = .ok (.ifCond .ne 12, 3) := by decide +kernel
theorem dX12_sum_13 : decode cX12_sum 13 = .ok (.aload_n 0, 1) := by decide +kernel
theorem dX12_sum_14 : decode cX12_sum 14 = .ok (.bipush 45, 2) := by decide +kernel
theorem dX12_sum_16 : decode cX12_sum 16 = .ok (.invokevirtual 270, 3) := by decide +kernel
theorem dX12_sum_19 : decode cX12_sum 19 = .ok (.ifCond .eq 29, 3) := by decide +kernel
theorem dX12_sum_22 : decode cX12_sum 22 = .ok (.aload_n 0, 1) := by decide +kernel
theorem dX12_sum_23 : decode cX12_sum 23 = .ok (.getfield 192, 3) := by decide +kernel
theorem dX12_sum_26 : decode cX12_sum 26 = .ok (.istore_n 1, 1) := by decide +kernel
theorem dX12_sum_27 : decode cX12_sum 27 = .ok (.aload_n 0, 1) := by decide +kernel
theorem dX12_sum_28 : decode cX12_sum 28 = .ok (.invokevirtual 294, 3) := by decide +kernel
theorem dX12_sum_31 : decode cX12_sum 31 = .ok (.aload_n 0, 1) := by decide +kernel
theorem dX12_sum_32 : decode cX12_sum 32 = .ok (.invokevirtual 237, 3) := by decide +kernel
theorem dX12_sum_35 : decode cX12_sum 35 = .ok (.aload_n 0, 1) := by decide +kernel
theorem dX12_sum_36 : decode cX12_sum 36 = .ok (.invokevirtual 306, 3) := by decide +kernel
theorem dX12_sum_39 : decode cX12_sum 39 = .ok (.aload_n 0, 1) := by decide +kernel
theorem dX12_sum_40 : decode cX12_sum 40 = .ok (.iconst 2, 1) := by decide +kernel
theorem dX12_sum_41 : decode cX12_sum 41 = .ok (.iload_n 1, 1) := by decide +kernel
theorem dX12_sum_42 : decode cX12_sum 42 = .ok (.invokevirtual 297, 3) := by decide +kernel
theorem dX12_sum_45 : decode cX12_sum 45 = .ok (.goto (-41), 3) := by decide +kernel
theorem dX12_sum_48 : decode cX12_sum 48 = .ok (.return_, 1) := by decide +kernel
theorem dX12_sumOf_0 : decode cX12_sumOf 0 = .ok (.aload_n 0, 1) := by decide +kernel
theorem dX12_sumOf_1 : decode cX12_sumOf 1 = .ok (.getfield 65, 3) := by decide +kernel
theorem dX12_sumOf_4 : decode cX12_sumOf 4 = .ok (.iload_n 1, 1) := by decide +kernel
theorem dX12_sumOf_5 : decode cX12_sumOf 5 = .ok (.aload_n 0, 1) := by decide +kernel
theorem dX12_sumOf_6 : decode cX12_sumOf 6 = .ok (.bipush 6, 2) := by decide +kernel
theorem dX12_sumOf_8 : decode cX12_sumOf 8 = .ok (.invokevirtual 233, 3) := by decide +kernel
theorem dX12_sumOf_11 : decode cX12_sumOf 11 = .ok (.iastore, 1) := by decide +kernel
theorem dX12_sumOf_12 : decode cX12_sumOf 12 = .ok (.aload_n 0, 1) := by decide +kernel
theorem dX12_sumOf_13 : decode cX12_sumOf 13 = .ok (.invokevirtual 276, 3) := by decide +kernel
theorem dX12_sumOf_16 : decode cX12_sumOf 16 = .ok (.aload_n 0, 1) := by decide +kernel
theorem dX12_sumOf_17 : decode cX12_sumOf 17 = .ok (.getfield 68, 3) := by decide +kernel
theorem dX12_sumOf_20 : decode cX12_sumOf 20 = .ok (.iload_n 1, 1) := by decide +kernel
theorem dX12_sumOf_21 : decode cX12_sumOf 21 = .ok (.aload_n 0, 1) := by decide +kernel
theorem dX12_sumOf_22 : decode cX12_sumOf 22 = .ok (.bipush 6, 2) := by decide +kernel
theorem dX12_sumOf_24 : decode cX12_sumOf 24 = .ok (.invokevirtual 233, 3) := by decide +kernel
theorem dX12_sumOf_27 : decode cX12_sumOf 27 = .ok (.iastore, 1) := by decide +kernel
theorem dX12_sumOf_28 : decode cX12_sumOf 28 = .ok (.return_, 1) := by decide +kernel
theorem dX12_sunday_0 : decode cX12_sunday 0 = .ok (.aload_n 0, 1) := by decide +kernel
theorem dX12_sunday_1 : decode cX12_sunday 1 = .ok (.iconst 0, 1) := by decide +kernel
theorem dX12_sunday_2 : decode cX12_sunday 2 = .ok (.putfield 163, 3) := by decide +kernel
theorem dX12_sunday_5 : decode cX12_sunday 5 = .ok (.iconst 0, 1) := by decide +kernel
theorem dX12_sunday_6 : decode cX12_sunday 6 = .ok (.istore_n 1, 1) := by decide +kernel
theorem dX12_sunday_7 : decode cX12_sunday 7 = .ok (.iconst 0, 1) := by decide +kernel
theorem dX12_sunday_8 : decode cX12_sunday 8 = .ok (.istore_n 2, 1) := by decide +kernel
theorem dX12_sunday_9 : decode cX12_sunday 9 = .ok (.iload_n 2, 1) := by decide +kernel
theorem dX12_sunday_10 : decode cX12_sunday 10 = .ok (.bipush 12, 2) := by decide +kernel
theorem dX12_sunday_12 : decode cX12_sunday 12 = .ok (.if_icmp .ge 64, 3) := by decide +kernel
theorem dX12_sunday_15 : decode cX12_sunday 15 = .ok (.aload_n 0, 1) := by decide +kernel
theorem dX12_sunday_16 : decode cX12_sunday 16 = .ok (.getfield 105, 3) := by decide +kernel
theorem dX12_sunday_19 : decode cX12_sunday 19 = .ok (.iload_n 2, 1) := by decide +kernel
theorem dX12_sunday_20 : decode cX12_sunday 20 = .ok (.iaload, 1) := by decide +kernel
theorem dX12_sunday_21 : decode cX12_sunday 21 = .ok (.istore_n 3, 1) := by decide +kernel
theorem dX12_sunday_22 : decode cX12_sunday 22 = .ok (.aload_n 0, 1) := by decide +kernel
theorem dX12_sunday_23 : decode cX12_sunday 23 = .ok (.getfield 105, 3) := by decide +kernel
theorem dX12_sunday_26 : decode cX12_sunday 26 = .ok (.iload_n 2, 1) := by decide +kernel
theorem dX12_sunday_27 : decode cX12_sunday 27 = .ok (.iconst (-1), 1) := by decide +kernel
theorem dX12_sunday_28 : decode cX12_sunday 28 = .ok (.iastore, 1) := by decide +kernel
theorem dX12_sunday_29 : decode cX12_sunday 29 = .ok (.iload_n 3, 1) := by decide +kernel
theorem dX12_sunday_30 : decode cX12_sunday 30 = .ok (.iconst (-1), 1) := by decide +kernel
theorem dX12_sunday_31 : decode cX12_sunday 31 = .ok (.if_icmp .ne 6, 3) := by decide +kernel
theorem dX12_sunday_34 : decode cX12_sunday 34 = .ok (.goto 36, 3) := by decide +kernel
theorem dX12_sunday_37 : decode cX12_sunday 37 = .ok (.iload_n 1, 1) := by decide +kernel
theorem dX12_sunday_38 : decode cX12_sunday 38 = .ok (.aload_n 0, 1) := by decide +kernel
theorem dX12_sunday_39 : decode cX12_sunday 39 = .ok (.iload_n 2, 1) := by decide +kernel
theorem dX12_sunday_40 : decode cX12_sunday 40 = .ok (.iload_n 3, 1) := by decide +kernel
theorem dX12_sunday_41 : decode cX12_sunday 41 = .ok (.invokevirtual 390, 3) := by decide +kernel
theorem dX12_sunday_44 : decode cX12_sunday 44 = .ok (.iadd, 1) := by decide +kernel
theorem dX12_sunday_45 : decode cX12_sunday 45 = .ok (.istore_n 1, 1) := by decide +kernel
theorem dX12_sunday_46 : decode cX12_sunday 46 = .ok (.aload_n 0, 1) := by decide +kernel
theorem dX12_sunday_47 : decode cX12_sunday 47 = .ok (.getfield 38, 3) := by decide +kernel
theorem dX12_sunday_50 : decode cX12_sunday 50 = .ok (.iload_n 3, 1) := by decide +kernel
theorem dX12_sunday_51 : decode cX12_sunday 51 = .ok (.iaload, 1) := by decide +kernel
theorem dX12_sunday_52 : decode cX12_sunday 52 = .ok (.iconst (-1), 1) := by decide +kernel
theorem dX12_sunday_53 : decode cX12_sunday 53 = .ok (.if_icmp .eq 17, 3) := by decide +kernel
theorem dX12_sunday_56 : decode cX12_sunday 56 = .ok (.aload_n 0, 1) := by decide +kernel
theorem dX12_sunday_57 : decode cX12_sunday 57 = .ok (.getfield 102, 3) := by decide +kernel
theorem dX12_sunday_60 : decode cX12_sunday 60 = .ok (.iload_n 3, 1) := by decide +kernel
theorem dX12_sunday_61 : decode cX12_sunday 61 = .ok (.dup2, 1) := by decide +kernel
theorem dX12_sunday_62 : decode cX12_sunday 62 = .ok (.iaload, 1) := by decide +kernel
theorem dX12_sunday_63 : decode cX12_sunday 63 = .ok (.aload_n 0, 1) := by decide +kernel
theorem dX12_sunday_64 : decode cX12_sunday 64 = .ok (.iload_n 2, 1) := by decide +kernel
theorem dX12_sunday_65 : decode cX12_sunday 65 = .ok (.invokevirtual 393, 3) := by decide +kernel
theorem dX12_sunday_68 : decode cX12_sunday 68 = .ok (.iadd, 1) := by decide +kernel
theorem dX12_sunday_69 : decode cX12_sunday 69 = .ok (.iastore, 1) := by decide +kernel
theorem dX12_sunday_70 : decode cX12_sunday 70 = .ok (.iinc 2 1, 3) := by decide +kernel
theorem dX12_sunday_73 : decode cX12_sunday 73 = .ok (.goto (-64), 3) := by decide +kernel
theorem dX12_sunday_76 : decode cX12_sunday 76 = .ok (.aload_n 0, 1) := by decide +kernel
theorem dX12_sunday_77 : decode cX12_sunday 77 = .ok (.getfield 108, 3) := by decide +kernel
theorem dX12_sunday_80 : decode cX12_sunday 80 = .ok (.iconst 0, 1) := by decide +kernel
theorem dX12_sunday_81 : decode cX12_sunday 81 = .ok (.iconst 0, 1) := by decide +kernel
theorem dX12_sunday_82 : decode cX12_sunday 82 = .ok (.iastore, 1) := by decide +kernel
theorem dX12_sunday_83 : decode cX12_sunday 83 = .ok (.aload_n 0, 1) := by decide +kernel
theorem dX12_sunday_84 : decode cX12_sunday 84 = .ok (.getfield 93, 3) := by decide +kernel
theorem dX12_sunday_87 : decode cX12_sunday 87 = .ok (.iconst 0, 1) := by decide +kernel
theorem dX12_sunday_88 : decode cX12_sunday 88 = .ok (.iaload, 1) := by decide +kernel
theorem dX12_sunday_89 : decode cX12_sunday 89 = .ok (.istore_n 2, 1) := by decide +kernel
theorem dX12_sunday_90 : decode cX12_sunday 90 = .ok (.iconst 0, 1) := by decide +kernel
theorem dX12_sunday_91 : decode cX12_sunday 91 = .ok (.istore_n 3, 1) := by decide +kernel
theorem dX12_sunday_92 : decode cX12_sunday 92 = .ok (.iload_n 3, 1) := by decide +kernel
theorem dX12_sunday_93 : decode cX12_sunday 93 = .ok (.aload_n 0, 1) := by decide +kernel
theorem dX12_sunday_94 : decode cX12_sunday 94 = .ok (.getfield 13, 3) := by decide +kernel
theorem dX12_sunday_97 : decode cX12_sunday 97 = .ok (.iconst 1, 1) := by decide +kernel
theorem dX12_sunday_98 : decode cX12_sunday 98 = .ok (.iaload, 1) := by decide +kernel
theorem dX12_sunday_99 : decode cX12_sunday 99 = .ok (.if_icmp .ge 45, 3) := by decide +kernel
theorem dX12_sunday_102 : decode cX12_sunday 102 = .ok (.aload_n 0, 1) := by decide +kernel
theorem dX12_sunday_103 : decode cX12_sunday 103 = .ok (.getfield 34, 3) := by decide +kernel
theorem dX12_sunday_106 : decode cX12_sunday 106 = .ok (.iload_n 3, 1) := by decide +kernel
theorem dX12_sunday_107 : decode cX12_sunday 107 = .ok (.baload, 1) := by decide +kernel
theorem dX12_sunday_108 : decode cX12_sunday 108 = .ok (.ifCond .eq 30, 3) := by decide +kernel
theorem dX12_sunday_111 : decode cX12_sunday 111 = .ok (.aload_n 0, 1) := by decide +kernel
theorem dX12_sunday_112 : decode cX12_sunday 112 = .ok (.iload_n 3, 1) := by decide +kernel
theorem dX12_sunday_113 : decode cX12_sunday 113 = .ok (.invokevirtual 338, 3) := by decide +kernel
theorem dX12_sunday_116 : decode cX12_sunday 116 = .ok (.ifCond .ne 22, 3) := by decide +kernel
theorem dX12_sunday_119 : decode cX12_sunday 119 = .ok (.aload_n 0, 1) := by decide +kernel
theorem dX12_sunday_120 : decode cX12_sunday 120 = .ok (.invokevirtual 421, 3) := by decide +kernel
theorem dX12_sunday_123 : decode cX12_sunday 123 = .ok (.aload_n 0, 1) := by decide +kernel
theorem dX12_sunday_124 : decode cX12_sunday 124 = .ok (.iload_n 3, 1) := by decide +kernel
theorem dX12_sunday_125 : decode cX12_sunday 125 = .ok (.iconst 0, 1) := by decide +kernel
theorem dX12_sunday_126 : decode cX12_sunday 126 = .ok (.invokevirtual 411, 3) := by decide +kernel
theorem dX12_sunday_129 : decode cX12_sunday 129 = .ok (.if_icmp .ge 9, 3) := by decide +kernel
theorem dX12_sunday_132 : decode cX12_sunday 132 = .ok (.iload_n 2, 1) := by decide +kernel
theorem dX12_sunday_133 : decode cX12_sunday 133 = .ok (.iconst 1, 1) := by decide +kernel
theorem dX12_sunday_134 : decode cX12_sunday 134 = .ok (.iload_n 3, 1) := by decide +kernel
theorem dX12_sunday_135 : decode cX12_sunday 135 = .ok (.ishl, 1) := by decide +kernel
theorem dX12_sunday_136 : decode cX12_sunday 136 = .ok (.ior, 1) := by decide +kernel
theorem dX12_sunday_137 : decode cX12_sunday 137 = .ok (.istore_n 2, 1) := by decide +kernel
theorem dX12_sunday_138 : decode cX12_sunday 138 = .ok (.iinc 3 1, 3) := by decide +kernel
theorem dX12_sunday_141 : decode cX12_sunday 141 = .ok (.goto (-49), 3) := by decide +kernel
theorem dX12_sunday_144 : decode cX12_sunday 144 = .ok (.aload_n 0, 1) := by decide +kernel
theorem dX12_sunday_145 : decode cX12_sunday 145 = .ok (.getfield 93, 3) := by decide +kernel
theorem dX12_sunday_148 : decode cX12_sunday 148 = .ok (.iconst 0, 1) := by decide +kernel
theorem dX12_sunday_149 : decode cX12_sunday 149 = .ok (.iload_n 2, 1) := by decide +kernel
theorem dX12_sunday_150 : decode cX12_sunday 150 = .ok (.iastore, 1) := by decide +kernel
theorem dX12_sunday_151 : decode cX12_sunday 151 = .ok (.aload_n 0, 1) := by decide +kernel
theorem dX12_sunday_152 : decode cX12_sunday 152 = .ok (.getfield 81, 3) := by decide +kernel
theorem dX12_sunday_155 : decode cX12_sunday 155 = .ok (.iconst 0, 1) := by decide +kernel
theorem dX12_sunday_156 : decode cX12_sunday 156 = .ok (.dup2, 1) := by decide +kernel
theorem dX12_sunday_157 : decode cX12_sunday 157 = .ok (.iaload, 1) := by decide +kernel
theorem dX12_sunday_158 : decode cX12_sunday 158 = .ok (.iconst 1, 1) := by decide +kernel
theorem dX12_sunday_159 : decode cX12_sunday 159 = .ok (.iadd, 1) := by decide +kernel
theorem dX12_sunday_160 : decode cX12_sunday 160 = .ok (.iastore, 1) := by decide +kernel
theorem dX12_sunday_161 : decode cX12_sunday 161 = .ok (.iload_n 1, 1) := by decide +kernel
theorem dX12_sunday_162 : decode cX12_sunday 162 = .ok (.ireturn, 1) := by decide +kernel
theorem dX12_tavern_0 : decode cX12_tavern 0 = .ok (.aload_n 0, 1) := by decide +kernel
theorem dX12_tavern_1 : decode cX12_tavern 1 = .ok (.iconst 0, 1) := by decide +kernel
theorem dX12_tavern_2 : decode cX12_tavern 2 = .ok (.putfield 163, 3) := by decide +kernel
theorem dX12_tavern_5 : decode cX12_tavern 5 = .ok (.aload_n 0, 1) := by decide +kernel
theorem dX12_tavern_6 : decode cX12_tavern 6 = .ok (.iload_n 1, 1) := by decide +kernel
theorem dX12_tavern_7 : decode cX12_tavern 7 = .ok (.invokevirtual 341, 3) := by decide +kernel
theorem dX12_tavern_10 : decode cX12_tavern 10 = .ok (.ifCond .ne 5, 3) := by decide +kernel
theorem dX12_tavern_13 : decode cX12_tavern 13 = .ok (.iconst (-1), 1) := by decide +kernel
theorem dX12_tavern_14 : decode cX12_tavern 14 = .ok (.ireturn, 1) := by decide +kernel
theorem dX12_tavern_15 : decode cX12_tavern 15 = .ok (.iconst 0, 1) := by decide +kernel
theorem dX12_tavern_16 : decode cX12_tavern 16 = .ok (.istore_n 3, 1) := by decide +kernel
theorem dX12_tavern_17 : decode cX12_tavern 17 = .ok (.iconst 0, 1) := by decide +kernel
theorem dX12_tavern_18 : decode cX12_tavern 18 = .ok (.istore 4, 2) := by decide +kernel
theorem dX12_tavern_20 : decode cX12_tavern 20 = .ok (.iload 4, 2) := by decide +kernel
theorem dX12_tavern_22 : decode cX12_tavern 22 = .ok (.aload_n 0, 1) := by decide +kernel
theorem dX12_tavern_23 : decode cX12_tavern 23 = .ok (.getfield 13, 3) := by decide +kernel
theorem dX12_tavern_26 : decode cX12_tavern 26 = .ok (.iconst 1, 1) := by decide +kernel
theorem dX12_tavern_27 : decode cX12_tavern 27 = .ok (.iaload, 1) := by decide +kernel
theorem dX12_tavern_28 : decode cX12_tavern 28 = .ok (.if_icmp .ge 34, 3) := by decide +kernel
theorem dX12_tavern_31 : decode cX12_tavern 31 = .ok (.iload_n 3, 1) := by decide +kernel
theorem dX12_tavern_32 : decode cX12_tavern 32 = .ok (.aload_n 0, 1) := by decide +kernel
theorem dX12_tavern_33 : decode cX12_tavern 33 = .ok (.getfield 38, 3) := by decide +kernel
theorem dX12_tavern_36 : decode cX12_tavern 36 = .ok (.iload 4, 2) := by decide +kernel
theorem dX12_tavern_38 : decode cX12_tavern 38 = .ok (.iaload, 1) := by decide +kernel
theorem dX12_tavern_39 : decode cX12_tavern 39 = .ok (.iload_n 1, 1) := by decide +kernel
theorem dX12_tavern_40 : decode cX12_tavern 40 = .ok (.if_icmp .ne 13, 3) := by decide +kernel
theorem dX12_tavern_43 : decode cX12_tavern 43 = .ok (.aload_n 0, 1) := by decide +kernel
theorem dX12_tavern_44 : decode cX12_tavern 44 = .ok (.getfield 102, 3) := by decide +kernel
theorem dX12_tavern_47 : decode cX12_tavern 47 = .ok (.iload 4, 2) := by decide +kernel
theorem dX12_tavern_49 : decode cX12_tavern 49 = .ok (.iaload, 1) := by decide +kernel
theorem dX12_tavern_50 : decode cX12_tavern 50 = .ok (.goto 4, 3) := by decide +kernel
theorem dX12_tavern_53 : decode cX12_tavern 53 = .ok (.iconst 0, 1) := by decide +kernel
theorem dX12_tavern_54 : decode cX12_tavern 54 = .ok (.iadd, 1) := by decide +kernel
theorem dX12_tavern_55 : decode cX12_tavern 55 = .ok (.istore_n 3, 1) := by decide +kernel
theorem dX12_tavern_56 : decode cX12_tavern 56 = .ok (.iinc 4 1, 3) := by decide +kernel
theorem dX12_tavern_59 : decode cX12_tavern 59 = .ok (.goto (-39), 3) := by decide +kernel
theorem dX12_tavern_62 : decode cX12_tavern 62 = .ok (.iload_n 2, 1) := by decide +kernel
theorem dX12_tavern_63 : decode cX12_tavern 63 = .ok (.ifCond .ne 12, 3) := by decide +kernel
theorem dX12_tavern_66 : decode cX12_tavern 66 = .ok (.aload_n 0, 1) := by decide +kernel
theorem dX12_tavern_67 : decode cX12_tavern 67 = .ok (.getfield 19, 3) := by decide +kernel
theorem dX12_tavern_70 : decode cX12_tavern 70 = .ok (.iload_n 1, 1) := by decide +kernel
theorem dX12_tavern_71 : decode cX12_tavern 71 = .ok (.iaload, 1) := by decide +kernel
theorem dX12_tavern_72 : decode cX12_tavern 72 = .ok (.goto 27, 3) := by decide +kernel
theorem dX12_tavern_75 : decode cX12_tavern 75 = .ok (.iload_n 2, 1) := by decide +kernel
theorem dX12_tavern_76 : decode cX12_tavern 76 = .ok (.iconst 1, 1) := by decide +kernel
theorem dX12_tavern_77 : decode cX12_tavern 77 = .ok (.if_icmp .ne 12, 3) := by decide +kernel
theorem dX12_tavern_80 : decode cX12_tavern 80 = .ok (.aload_n 0, 1) := by decide +kernel
theorem dX12_tavern_81 : decode cX12_tavern 81 = .ok (.getfield 96, 3) := by decide +kernel
theorem dX12_tavern_84 : decode cX12_tavern 84 = .ok (.iload_n 1, 1) := by decide +kernel
theorem dX12_tavern_85 : decode cX12_tavern 85 = .ok (.iaload, 1) := by decide +kernel
theorem dX12_tavern_86 : decode cX12_tavern 86 = .ok (.goto 13, 3) := by decide +kernel
theorem dX12_tavern_89 : decode cX12_tavern 89 = .ok (.iload_n 2, 1) := by decide +kernel
theorem dX12_tavern_90 : decode cX12_tavern 90 = .ok (.iconst 2, 1) := by decide +kernel
theorem dX12_tavern_91 : decode cX12_tavern 91 = .ok (.if_icmp .ne 7, 3) := by decide +kernel
theorem dX12_tavern_94 : decode cX12_tavern 94 = .ok (.iload_n 3, 1) := by decide +kernel
theorem dX12_tavern_95 : decode cX12_tavern 95 = .ok (.goto 4, 3) := by decide +kernel
theorem dX12_tavern_98 : decode cX12_tavern 98 = .ok (.iconst (-1), 1) := by decide +kernel
theorem dX12_tavern_99 : decode cX12_tavern 99 = .ok (.ireturn, 1) := by decide +kernel
theorem dX12_tavernAhead_0 : decode cX12_tavernAhead 0 = .ok (.aload_n 0, 1) := by decide +kernel
theorem dX12_tavernAhead_1 : decode cX12_tavernAhead 1 = .ok (.getfield 217, 3) := by decide +kernel
theorem dX12_tavernAhead_4 : decode cX12_tavernAhead 4 = .ok (.ifCond .eq 5, 3) := by decide +kernel
theorem dX12_tavernAhead_7 : decode cX12_tavernAhead 7 = .ok (.iconst 0, 1) := by decide +kernel
theorem dX12_tavernAhead_8 : decode cX12_tavernAhead 8 = .ok (.ireturn, 1) := by decide +kernel
theorem dX12_tavernAhead_9 : decode cX12_tavernAhead 9 = .ok (.aload_n 0, 1) := by decide +kernel
theorem dX12_tavernAhead_10 : decode cX12_tavernAhead 10 = .ok (.getfield 16, 3) := by decide +kernel
theorem dX12_tavernAhead_13 : decode cX12_tavernAhead 13 = .ok (.iconst 3, 1) := by decide +kernel
theorem dX12_tavernAhead_14 : decode cX12_tavernAhead 14 = .ok (.aload_n 0, 1) := by decide +kernel
theorem dX12_tavernAhead_15 : decode cX12_tavernAhead 15 = .ok (.iconst 0, 1) := by decide +kernel
theorem dX12_tavernAhead_16 : decode cX12_tavernAhead 16 = .ok (.invokevirtual 233, 3) := by decide +kernel
theorem dX12_tavernAhead_19 : decode cX12_tavernAhead 19 = .ok (.aload_n 0, 1) := by decide +kernel
theorem dX12_tavernAhead_20 : decode cX12_tavernAhead 20 = .ok (.getfield 192, 3) := by decide +kernel
theorem dX12_tavernAhead_23 : decode cX12_tavernAhead 23 = .ok (.invokestatic 229, 3) := by decide +kernel
theorem dX12_tavernAhead_26 : decode cX12_tavernAhead 26 = .ok (.istore_n 1, 1) := by decide +kernel
theorem dX12_tavernAhead_27 : decode cX12_tavernAhead 27 = .ok (.aload_n 0, 1) := by decide +kernel
theorem dX12_tavernAhead_28 : decode cX12_tavernAhead 28 = .ok (.getfield 182, 3) := by decide +kernel
theorem dX12_tavernAhead_31 : decode cX12_tavernAhead 31 = .ok (.iconst 1, 1) := by decide +kernel
theorem dX12_tavernAhead_32 : decode cX12_tavernAhead 32 = .ok (.if_icmp .eq 11, 3) := by decide +kernel
theorem dX12_tavernAhead_35 : decode cX12_tavernAhead 35 = .ok (.aload_n 0, 1) := by decide +kernel
theorem dX12_tavernAhead_36 : decode cX12_tavernAhead 36 = .ok (.iconst 1, 1) := by decide +kernel
theorem dX12_tavernAhead_37 : decode cX12_tavernAhead 37 = .ok (.invokevirtual 226, 3) := by decide +kernel
theorem dX12_tavernAhead_40 : decode cX12_tavernAhead 40 = .ok (.goto 13, 3) := by decide +kernel
theorem dX12_tavernAhead_43 : decode cX12_tavernAhead 43 = .ok (.iload_n 1, 1) := by decide +kernel
theorem dX12_tavernAhead_44 : decode cX12_tavernAhead 44 = .ok (.iconst (-1), 1) := by decide +kernel
theorem dX12_tavernAhead_45 : decode cX12_tavernAhead 45 = .ok (.if_icmp .ne 8, 3) := by decide +kernel
theorem dX12_tavernAhead_48 : decode cX12_tavernAhead 48 = .ok (.aload_n 0, 1) := by decide +kernel
theorem dX12_tavernAhead_49 : decode cX12_tavernAhead 49 = .ok (.iconst 4, 1) := by decide +kernel
theorem dX12_tavernAhead_50 : decode cX12_tavernAhead 50 = .ok (.invokevirtual 226, 3) := by decide +kernel
theorem dX12_tavernAhead_53 : decode cX12_tavernAhead 53 = .ok (.aload_n 0, 1) := by decide +kernel
theorem dX12_tavernAhead_54 : decode cX12_tavernAhead 54 = .ok (.invokevirtual 237, 3) := by decide +kernel
theorem dX12_tavernAhead_57 : decode cX12_tavernAhead 57 = .ok (.iload_n 1, 1) := by decide +kernel
theorem dX12_tavernAhead_58 : decode cX12_tavernAhead 58 = .ok (.ireturn, 1) := by decide +kernel
theorem dX12_text_0 : decode cX12_text 0 = .ok (.aload_n 0, 1) := by decide +kernel
theorem dX12_text_1 : decode cX12_text 1 = .ok (.iconst 0, 1) := by decide +kernel
theorem dX12_text_2 : decode cX12_text 2 = .ok (.putfield 163, 3) := by decide +kernel
theorem dX12_text_5 : decode cX12_text 5 = .ok (.iload_n 1, 1) := by decide +kernel
theorem dX12_text_6 : decode cX12_text 6 = .ok (.ifCond .lt 11, 3) := by decide +kernel
theorem dX12_text_9 : decode cX12_text 9 = .ok (.iload_n 1, 1) := by decide +kernel
theorem dX12_text_10 : decode cX12_text 10 = .ok (.aload_n 0, 1) := by decide +kernel
theorem dX12_text_11 : decode cX12_text 11 = .ok (.getfield 166, 3) := by decide +kernel
theorem dX12_text_14 : decode cX12_text 14 = .ok (.if_icmp .le 6, 3) := by decide +kernel
theorem dX12_text_17 : decode cX12_text 17 = .ok (.bipush (-2), 2) := by decide +kernel
theorem dX12_text_19 : decode cX12_text 19 = .ok (.ireturn, 1) := by decide +kernel
theorem dX12_text_20 : decode cX12_text 20 = .ok (.aload_n 0, 1) := by decide +kernel
theorem dX12_text_21 : decode cX12_text 21 = .ok (.iload_n 1, 1) := by decide +kernel
theorem dX12_text_22 : decode cX12_text 22 = .ok (.putfield 172, 3) := by decide +kernel
theorem dX12_text_25 : decode cX12_text 25 = .ok (.aload_n 0, 1) := by decide +kernel
theorem dX12_text_26 : decode cX12_text 26 = .ok (.iconst 0, 1) := by decide +kernel
theorem dX12_text_27 : decode cX12_text 27 = .ok (.putfield 166, 3) := by decide +kernel
theorem dX12_text_30 : decode cX12_text 30 = .ok (.aload_n 0, 1) := by decide +kernel
theorem dX12_text_31 : decode cX12_text 31 = .ok (.iconst 0, 1) := by decide +kernel
theorem dX12_text_32 : decode cX12_text 32 = .ok (.putfield 169, 3) := by decide +kernel
theorem dX12_text_35 : decode cX12_text 35 = .ok (.aload_n 0, 1) := by decide +kernel
theorem dX12_text_36 : decode cX12_text 36 = .ok (.iconst 0, 1) := by decide +kernel
theorem dX12_text_37 : decode cX12_text 37 = .ok (.putfield 217, 3) := by decide +kernel
theorem dX12_text_40 : decode cX12_text 40 = .ok (.aload_n 0, 1) := by decide +kernel
theorem dX12_text_41 : decode cX12_text 41 = .ok (.iconst (-1), 1) := by decide +kernel
theorem dX12_text_42 : decode cX12_text 42 = .ok (.putfield 220, 3) := by decide +kernel
theorem dX12_text_45 : decode cX12_text 45 = .ok (.iconst 0, 1) := by decide +kernel
theorem dX12_text_46 : decode cX12_text 46 = .ok (.istore_n 2, 1) := by decide +kernel
theorem dX12_text_47 : decode cX12_text 47 = .ok (.iload_n 2, 1) := by decide +kernel
theorem dX12_text_48 : decode cX12_text 48 = .ok (.bipush 7, 2) := by decide +kernel
theorem dX12_text_50 : decode cX12_text 50 = .ok (.if_icmp .ge 15, 3) := by decide +kernel
theorem dX12_text_53 : decode cX12_text 53 = .ok (.aload_n 0, 1) := by decide +kernel
theorem dX12_text_54 : decode cX12_text 54 = .ok (.iload_n 2, 1) := by decide +kernel
theorem dX12_text_55 : decode cX12_text 55 = .ok (.iconst 0, 1) := by decide +kernel
theorem dX12_text_56 : decode cX12_text 56 = .ok (.invokevirtual 254, 3) := by decide +kernel
theorem dX12_text_59 : decode cX12_text 59 = .ok (.iinc 2 1, 3) := by decide +kernel
theorem dX12_text_62 : decode cX12_text 62 = .ok (.goto (-15), 3) := by decide +kernel
theorem dX12_text_65 : decode cX12_text 65 = .ok (.iconst 5, 1) := by decide +kernel
theorem dX12_text_66 : decode cX12_text 66 = .ok (.istore_n 2, 1) := by decide +kernel
theorem dX12_text_67 : decode cX12_text 67 = .ok (.iload_n 2, 1) := by decide +kernel
theorem dX12_text_68 : decode cX12_text 68 = .ok (.bipush 10, 2) := by decide +kernel
theorem dX12_text_70 : decode cX12_text 70 = .ok (.if_icmp .ge 23, 3) := by decide +kernel
theorem dX12_text_73 : decode cX12_text 73 = .ok (.aload_n 0, 1) := by decide +kernel
theorem dX12_text_74 : decode cX12_text 74 = .ok (.getfield 65, 3) := by decide +kernel
theorem dX12_text_77 : decode cX12_text 77 = .ok (.iload_n 2, 1) := by decide +kernel
theorem dX12_text_78 : decode cX12_text 78 = .ok (.iconst 0, 1) := by decide +kernel
theorem dX12_text_79 : decode cX12_text 79 = .ok (.iastore, 1) := by decide +kernel
theorem dX12_text_80 : decode cX12_text 80 = .ok (.aload_n 0, 1) := by decide +kernel
theorem dX12_text_81 : decode cX12_text 81 = .ok (.getfield 68, 3) := by decide +kernel
theorem dX12_text_84 : decode cX12_text 84 = .ok (.iload_n 2, 1) := by decide +kernel
theorem dX12_text_85 : decode cX12_text 85 = .ok (.iconst 0, 1) := by decide +kernel
theorem dX12_text_86 : decode cX12_text 86 = .ok (.iastore, 1) := by decide +kernel
theorem dX12_text_87 : decode cX12_text 87 = .ok (.iinc 2 1, 3) := by decide +kernel
theorem dX12_text_90 : decode cX12_text 90 = .ok (.goto (-23), 3) := by decide +kernel
theorem dX12_text_93 : decode cX12_text 93 = .ok (.aload_n 0, 1) := by decide +kernel
theorem dX12_text_94 : decode cX12_text 94 = .ok (.iconst 0, 1) := by decide +kernel
theorem dX12_text_95 : decode cX12_text 95 = .ok (.putfield 243, 3) := by decide +kernel
theorem dX12_text_98 : decode cX12_text 98 = .ok (.aload_n 0, 1) := by decide +kernel
theorem dX12_text_99 : decode cX12_text 99 = .ok (.iconst 0, 1) := by decide +kernel
theorem dX12_text_100 : decode cX12_text 100 = .ok (.putfield 273, 3) := by decide +kernel
theorem dX12_text_103 : decode cX12_text 103 = .ok (.aload_n 0, 1) := by decide +kernel
theorem dX12_text_104 : decode cX12_text 104 = .ok (.iconst 0, 1) := by decide +kernel
theorem dX12_text_105 : decode cX12_text 105 = .ok (.putfield 312, 3) := by decide +kernel
theorem dX12_text_108 : decode cX12_text 108 = .ok (.aload_n 0, 1) := by decide +kernel
theorem dX12_text_109 : decode cX12_text 109 = .ok (.iconst 0, 1) := by decide +kernel
theorem dX12_text_110 : decode cX12_text 110 = .ok (.putfield 288, 3) := by decide +kernel
theorem dX12_text_113 : decode cX12_text 113 = .ok (.aload_n 0, 1) := by decide +kernel
theorem dX12_text_114 : decode cX12_text 114 = .ok (.invokevirtual 223, 3) := by decide +kernel
theorem dX12_text_117 : decode cX12_text 117 = .ok (.aload_n 0, 1) := by decide +kernel
theorem dX12_text_118 : decode cX12_text 118 = .ok (.getfield 217, 3) := by decide +kernel
theorem dX12_text_121 : decode cX12_text 121 = .ok (.ifCond .ne 18, 3) := by decide +kernel
theorem dX12_text_124 : decode cX12_text 124 = .ok (.aload_n 0, 1) := by decide +kernel
theorem dX12_text_125 : decode cX12_text 125 = .ok (.getfield 182, 3) := by decide +kernel
theorem dX12_text_128 : decode cX12_text 128 = .ok (.iconst 4, 1) := by decide +kernel
theorem dX12_text_129 : decode cX12_text 129 = .ok (.if_icmp .eq 10, 3) := by decide +kernel
theorem dX12_text_132 : decode cX12_text 132 = .ok (.aload_n 0, 1) := by decide +kernel
theorem dX12_text_133 : decode cX12_text 133 = .ok (.invokevirtual 315, 3) := by decide +kernel
theorem dX12_text_136 : decode cX12_text 136 = .ok (.goto (-19), 3) := by decide +kernel
theorem dX12_text_139 : decode cX12_text 139 = .ok (.aload_n 0, 1) := by decide +kernel
theorem dX12_text_140 : decode cX12_text 140 = .ok (.aload_n 0, 1) := by decide +kernel
theorem dX12_text_141 : decode cX12_text 141 = .ok (.getfield 217, 3) := by decide +kernel
theorem dX12_text_144 : decode cX12_text 144 = .ok (.putfield 318, 3) := by decide +kernel
theorem dX12_text_147 : decode cX12_text 147 = .ok (.aload_n 0, 1) := by decide +kernel
theorem dX12_text_148 : decode cX12_text 148 = .ok (.aload_n 0, 1) := by decide +kernel
theorem dX12_text_149 : decode cX12_text 149 = .ok (.getfield 220, 3) := by decide +kernel
theorem dX12_text_152 : decode cX12_text 152 = .ok (.putfield 77, 3) := by decide +kernel
theorem dX12_text_155 : decode cX12_text 155 = .ok (.aload_n 0, 1) := by decide +kernel
theorem dX12_text_156 : decode cX12_text 156 = .ok (.getfield 217, 3) := by decide +kernel
theorem dX12_text_159 : decode cX12_text 159 = .ok (.ifCond .eq 5, 3) := by decide +kernel
theorem dX12_text_162 : decode cX12_text 162 = .ok (.iconst (-1), 1) := by decide +kernel
theorem dX12_text_163 : decode cX12_text 163 = .ok (.ireturn, 1) := by decide +kernel
theorem dX12_text_164 : decode cX12_text 164 = .ok (.aload_n 0, 1) := by decide +kernel
theorem dX12_text_165 : decode cX12_text 165 = .ok (.getfield 13, 3) := by decide +kernel
theorem dX12_text_168 : decode cX12_text 168 = .ok (.invokestatic 321, 3) := by decide +kernel
theorem dX12_text_171 : decode cX12_text 171 = .ok (.aload_n 0, 1) := by decide +kernel
theorem dX12_text_172 : decode cX12_text 172 = .ok (.getfield 16, 3) := by decide +kernel
theorem dX12_text_175 : decode cX12_text 175 = .ok (.invokestatic 321, 3) := by decide +kernel
theorem dX12_text_178 : decode cX12_text 178 = .ok (.aload_n 0, 1) := by decide +kernel
theorem dX12_text_179 : decode cX12_text 179 = .ok (.getfield 19, 3) := by decide +kernel
theorem dX12_text_182 : decode cX12_text 182 = .ok (.invokestatic 321, 3) := by decide +kernel
theorem dX12_text_185 : decode cX12_text 185 = .ok (.aload_n 0, 1) := by decide +kernel
theorem dX12_text_186 : decode cX12_text 186 = .ok (.getfield 22, 3) := by decide +kernel
theorem dX12_text_189 : decode cX12_text 189 = .ok (.invokestatic 321, 3) := by decide +kernel
theorem dX12_text_192 : decode cX12_text 192 = .ok (.aload_n 0, 1) := by decide +kernel
theorem dX12_text_193 : decode cX12_text 193 = .ok (.getfield 25, 3) := by decide +kernel
theorem dX12_text_196 : decode cX12_text 196 = .ok (.invokestatic 321, 3) := by decide +kernel
theorem dX12_text_199 : decode cX12_text 199 = .ok (.aload_n 0, 1) := by decide +kernel
theorem dX12_text_200 : decode cX12_text 200 = .ok (.getfield 28, 3) := by decide +kernel
theorem dX12_text_203 : decode cX12_text 203 = .ok (.invokestatic 321, 3) := by decide +kernel
theorem dX12_text_206 : decode cX12_text 206 = .ok (.aload_n 0, 1) := by decide +kernel
theorem dX12_text_207 : decode cX12_text 207 = .ok (.getfield 31, 3) := by decide +kernel
theorem dX12_text_210 : decode cX12_text 210 = .ok (.invokestatic 321, 3) := by decide +kernel
theorem dX12_text_213 : decode cX12_text 213 = .ok (.iconst 0, 1) := by decide +kernel
theorem dX12_text_214 : decode cX12_text 214 = .ok (.istore_n 2, 1) := by decide +kernel
theorem dX12_text_215 : decode cX12_text 215 = .ok (.iload_n 2, 1) := by decide +kernel
theorem dX12_text_216 : decode cX12_text 216 = .ok (.bipush 6, 2) := by decide +kernel
theorem dX12_text_218 : decode cX12_text 218 = .ok (.if_icmp .ge 24, 3) := by decide +kernel
theorem dX12_text_221 : decode cX12_text 221 = .ok (.aload_n 0, 1) := by decide +kernel
theorem dX12_text_222 : decode cX12_text 222 = .ok (.getfield 34, 3) := by decide +kernel
theorem dX12_text_225 : decode cX12_text 225 = .ok (.iload_n 2, 1) := by decide +kernel
theorem dX12_text_226 : decode cX12_text 226 = .ok (.aload_n 0, 1) := by decide +kernel
theorem dX12_text_227 : decode cX12_text 227 = .ok (.getfield 34, 3) := by decide +kernel
theorem dX12_text_230 : decode cX12_text 230 = .ok (.bipush 6, 2) := by decide +kernel
theorem dX12_text_232 : decode cX12_text 232 = .ok (.iload_n 2, 1) := by decide +kernel
theorem dX12_text_233 : decode cX12_text 233 = .ok (.iadd, 1) := by decide +kernel
theorem dX12_text_234 : decode cX12_text 234 = .ok (.baload, 1) := by decide +kernel
theorem dX12_text_235 : decode cX12_text 235 = .ok (.bastore, 1) := by decide +kernel
theorem dX12_text_236 : decode cX12_text 236 = .ok (.iinc 2 1, 3) := by decide +kernel
theorem dX12_text_239 : decode cX12_text 239 = .ok (.goto (-24), 3) := by decide +kernel
theorem dX12_text_242 : decode cX12_text 242 = .ok (.aload_n 0, 1) := by decide +kernel
theorem dX12_text_243 : decode cX12_text 243 = .ok (.getfield 38, 3) := by decide +kernel
theorem dX12_text_246 : decode cX12_text 246 = .ok (.invokestatic 321, 3) := by decide +kernel
theorem dX12_text_249 : decode cX12_text 249 = .ok (.aload_n 0, 1) := by decide +kernel
theorem dX12_text_250 : decode cX12_text 250 = .ok (.getfield 41, 3) := by decide +kernel
theorem dX12_text_253 : decode cX12_text 253 = .ok (.invokestatic 321, 3) := by decide +kernel
theorem dX12_text_256 : decode cX12_text 256 = .ok (.aload_n 0, 1) := by decide +kernel
theorem dX12_text_257 : decode cX12_text 257 = .ok (.getfield 44, 3) := by decide +kernel
theorem dX12_text_260 : decode cX12_text 260 = .ok (.invokestatic 321, 3) := by decide +kernel
theorem dX12_text_263 : decode cX12_text 263 = .ok (.aload_n 0, 1) := by decide +kernel
theorem dX12_text_264 : decode cX12_text 264 = .ok (.getfield 47, 3) := by decide +kernel
theorem dX12_text_267 : decode cX12_text 267 = .ok (.invokestatic 321, 3) := by decide +kernel
theorem dX12_text_270 : decode cX12_text 270 = .ok (.aload_n 0, 1) := by decide +kernel
theorem dX12_text_271 : decode cX12_text 271 = .ok (.getfield 50, 3) := by decide +kernel
theorem dX12_text_274 : decode cX12_text 274 = .ok (.invokestatic 321, 3) := by decide +kernel
theorem dX12_text_277 : decode cX12_text 277 = .ok (.aload_n 0, 1) := by decide +kernel
theorem dX12_text_278 : decode cX12_text 278 = .ok (.getfield 53, 3) := by decide +kernel
theorem dX12_text_281 : decode cX12_text 281 = .ok (.invokestatic 321, 3) := by decide +kernel
theorem dX12_text_284 : decode cX12_text 284 = .ok (.aload_n 0, 1) := by decide +kernel
theorem dX12_text_285 : decode cX12_text 285 = .ok (.getfield 56, 3) := by decide +kernel
theorem dX12_text_288 : decode cX12_text 288 = .ok (.invokestatic 321, 3) := by decide +kernel
theorem dX12_text_291 : decode cX12_text 291 = .ok (.aload_n 0, 1) := by decide +kernel
theorem dX12_text_292 : decode cX12_text 292 = .ok (.getfield 59, 3) := by decide +kernel
theorem dX12_text_295 : decode cX12_text 295 = .ok (.invokestatic 321, 3) := by decide +kernel
theorem dX12_text_298 : decode cX12_text 298 = .ok (.aload_n 0, 1) := by decide +kernel
theorem dX12_text_299 : decode cX12_text 299 = .ok (.getfield 62, 3) := by decide +kernel
theorem dX12_text_302 : decode cX12_text 302 = .ok (.invokestatic 321, 3) := by decide +kernel
theorem dX12_text_305 : decode cX12_text 305 = .ok (.aload_n 0, 1) := by decide +kernel
theorem dX12_text_306 : decode cX12_text 306 = .ok (.getfield 65, 3) := by decide +kernel
theorem dX12_text_309 : decode cX12_text 309 = .ok (.invokestatic 321, 3) := by decide +kernel
theorem dX12_text_312 : decode cX12_text 312 = .ok (.aload_n 0, 1) := by decide +kernel
theorem dX12_text_313 : decode cX12_text 313 = .ok (.getfield 68, 3) := by decide +kernel
theorem dX12_text_316 : decode cX12_text 316 = .ok (.invokestatic 321, 3) := by decide +kernel
theorem dX12_text_319 : decode cX12_text 319 = .ok (.aload_n 0, 1) := by decide +kernel
theorem dX12_text_320 : decode cX12_text 320 = .ok (.getfield 71, 3) := by decide +kernel
theorem dX12_text_323 : decode cX12_text 323 = .ok (.invokestatic 321, 3) := by decide +kernel
theorem dX12_text_326 : decode cX12_text 326 = .ok (.aload_n 0, 1) := by decide +kernel
theorem dX12_text_327 : decode cX12_text 327 = .ok (.getfield 74, 3) := by decide +kernel
theorem dX12_text_330 : decode cX12_text 330 = .ok (.invokestatic 321, 3) := by decide +kernel
theorem dX12_text_333 : decode cX12_text 333 = .ok (.aload_n 0, 1) := by decide +kernel
theorem dX12_text_334 : decode cX12_text 334 = .ok (.iconst 0, 1) := by decide +kernel
theorem dX12_text_335 : decode cX12_text 335 = .ok (.putfield 325, 3) := by decide +kernel
theorem dX12_text_338 : decode cX12_text 338 = .ok (.aload_n 0, 1) := by decide +kernel
theorem dX12_text_339 : decode cX12_text 339 = .ok (.iconst (-1), 1) := by decide +kernel
theorem dX12_text_340 : decode cX12_text 340 = .ok (.putfield 142, 3) := by decide +kernel
theorem dX12_text_343 : decode cX12_text 343 = .ok (.aload_n 0, 1) := by decide +kernel
theorem dX12_text_344 : decode cX12_text 344 = .ok (.iconst 0, 1) := by decide +kernel
theorem dX12_text_345 : decode cX12_text 345 = .ok (.putfield 328, 3) := by decide +kernel
theorem dX12_text_348 : decode cX12_text 348 = .ok (.aload_n 0, 1) := by decide +kernel
theorem dX12_text_349 : decode cX12_text 349 = .ok (.invokevirtual 160, 3) := by decide +kernel
theorem dX12_text_352 : decode cX12_text 352 = .ok (.aload_n 0, 1) := by decide +kernel
theorem dX12_text_353 : decode cX12_text 353 = .ok (.getfield 273, 3) := by decide +kernel
theorem dX12_text_356 : decode cX12_text 356 = .ok (.ireturn, 1) := by decide +kernel
theorem dX12_thieves_0 : decode cX12_thieves 0 = .ok (.aload_n 0, 1) := by decide +kernel
theorem dX12_thieves_1 : decode cX12_thieves 1 = .ok (.iconst 0, 1) := by decide +kernel
theorem dX12_thieves_2 : decode cX12_thieves 2 = .ok (.putfield 163, 3) := by decide +kernel
theorem dX12_thieves_5 : decode cX12_thieves 5 = .ok (.aload_n 0, 1) := by decide +kernel
theorem dX12_thieves_6 : decode cX12_thieves 6 = .ok (.invokevirtual 473, 3) := by decide +kernel
theorem dX12_thieves_9 : decode cX12_thieves 9 = .ok (.iconst 0, 1) := by decide +kernel
theorem dX12_thieves_10 : decode cX12_thieves 10 = .ok (.istore_n 1, 1) := by decide +kernel
theorem dX12_thieves_11 : decode cX12_thieves 11 = .ok (.iconst 0, 1) := by decide +kernel
theorem dX12_thieves_12 : decode cX12_thieves 12 = .ok (.istore_n 2, 1) := by decide +kernel
theorem dX12_thieves_13 : decode cX12_thieves 13 = .ok (.iload_n 2, 1) := by decide +kernel
theorem dX12_thieves_14 : decode cX12_thieves 14 = .ok (.aload_n 0, 1) := by decide +kernel
theorem dX12_thieves_15 : decode cX12_thieves 15 = .ok (.getfield 13, 3) := by decide +kernel
theorem dX12_thieves_18 : decode cX12_thieves 18 = .ok (.iconst 1, 1) := by decide +kernel
theorem dX12_thieves_19 : decode cX12_thieves 19 = .ok (.iaload, 1) := by decide +kernel
theorem dX12_thieves_20 : decode cX12_thieves 20 = .ok (.if_icmp .ge 27, 3) := by decide +kernel
theorem dX12_thieves_23 : decode cX12_thieves 23 = .ok (.iload_n 1, 1) := by decide +kernel
theorem dX12_thieves_24 : decode cX12_thieves 24 = .ok (.aload_n 0, 1) := by decide +kernel
theorem dX12_thieves_25 : decode cX12_thieves 25 = .ok (.iload_n 2, 1) := by decide +kernel
theorem dX12_thieves_26 : decode cX12_thieves 26 = .ok (.invokevirtual 476, 3) := by decide +kernel
theorem dX12_thieves_29 : decode cX12_thieves 29 = .ok (.ifCond .eq 9, 3) := by decide +kernel
theorem dX12_thieves_32 : decode cX12_thieves 32 = .ok (.iconst 1, 1) := by decide +kernel
theorem dX12_thieves_33 : decode cX12_thieves 33 = .ok (.iload_n 2, 1) := by decide +kernel
theorem dX12_thieves_34 : decode cX12_thieves 34 = .ok (.ishl, 1) := by decide +kernel
theorem dX12_thieves_35 : decode cX12_thieves 35 = .ok (.goto 4, 3) := by decide +kernel
theorem dX12_thieves_38 : decode cX12_thieves 38 = .ok (.iconst 0, 1) := by decide +kernel
theorem dX12_thieves_39 : decode cX12_thieves 39 = .ok (.ior, 1) := by decide +kernel
theorem dX12_thieves_40 : decode cX12_thieves 40 = .ok (.istore_n 1, 1) := by decide +kernel
theorem dX12_thieves_41 : decode cX12_thieves 41 = .ok (.iinc 2 1, 3) := by decide +kernel
theorem dX12_thieves_44 : decode cX12_thieves 44 = .ok (.goto (-31), 3) := by decide +kernel
theorem dX12_thieves_47 : decode cX12_thieves 47 = .ok (.iload_n 1, 1) := by decide +kernel
theorem dX12_thieves_48 : decode cX12_thieves 48 = .ok (.ireturn, 1) := by decide +kernel
theorem dX12_token_0 : decode cX12_token 0 = .ok (.aload_n 0, 1) := by decide +kernel
theorem dX12_token_1 : decode cX12_token 1 = .ok (.invokevirtual 175, 3) := by decide +kernel
theorem dX12_token_4 : decode cX12_token 4 = .ok (.bipush 10, 2) := by decide +kernel
theorem dX12_token_6 : decode cX12_token 6 = .ok (.if_icmp .eq 12, 3) := by decide +kernel
theorem dX12_token_9 : decode cX12_token 9 = .ok (.aload_n 0, 1) := by decide +kernel
theorem dX12_token_10 : decode cX12_token 10 = .ok (.invokevirtual 175, 3) := by decide +kernel
theorem dX12_token_13 : decode cX12_token 13 = .ok (.bipush 32, 2) := by decide +kernel
theorem dX12_token_15 : decode cX12_token 15 = .ok (.if_icmp .ne 16, 3) := by decide +kernel
theorem dX12_token_18 : decode cX12_token 18 = .ok (.aload_n 0, 1) := by decide +kernel
theorem dX12_token_19 : decode cX12_token 19 = .ok (.dup, 1) := by decide +kernel
theorem dX12_token_20 : decode cX12_token 20 = .ok (.getfield 169, 3) := by decide +kernel
theorem dX12_token_23 : decode cX12_token 23 = .ok (.iconst 1, 1) := by decide +kernel
theorem dX12_token_24 : decode cX12_token 24 = .ok (.iadd, 1) := by decide +kernel
theorem dX12_token_25 : decode cX12_token 25 = .ok (.putfield 169, 3) := by decide +kernel
theorem dX12_token_28 : decode cX12_token 28 = .ok (.goto (-28), 3) := by decide +kernel
theorem dX12_token_31 : decode cX12_token 31 = .ok (.aload_n 0, 1) := by decide +kernel
theorem dX12_token_32 : decode cX12_token 32 = .ok (.aload_n 0, 1) := by decide +kernel
theorem dX12_token_33 : decode cX12_token 33 = .ok (.getfield 169, 3) := by decide +kernel
theorem dX12_token_36 : decode cX12_token 36 = .ok (.putfield 179, 3) := by decide +kernel
theorem dX12_token_39 : decode cX12_token 39 = .ok (.aload_n 0, 1) := by decide +kernel
theorem dX12_token_40 : decode cX12_token 40 = .ok (.invokevirtual 175, 3) := by decide +kernel
theorem dX12_token_43 : decode cX12_token 43 = .ok (.istore_n 1, 1) := by decide +kernel
theorem dX12_token_44 : decode cX12_token 44 = .ok (.iload_n 1, 1) := by decide +kernel
theorem dX12_token_45 : decode cX12_token 45 = .ok (.iconst (-1), 1) := by decide +kernel
theorem dX12_token_46 : decode cX12_token 46 = .ok (.if_icmp .ne 11, 3) := by decide +kernel
theorem dX12_token_49 : decode cX12_token 49 = .ok (.aload_n 0, 1) := by decide +kernel
theorem dX12_token_50 : decode cX12_token 50 = .ok (.iconst 4, 1) := by decide +kernel
theorem dX12_token_51 : decode cX12_token 51 = .ok (.putfield 182, 3) := by decide +kernel
theorem dX12_token_54 : decode cX12_token 54 = .ok (.goto 171, 3) := by decide +kernel
theorem dX12_token_57 : decode cX12_token 57 = .ok (.iload_n 1, 1) := by decide +kernel
theorem dX12_token_58 : decode cX12_token 58 = .ok (.invokestatic 185, 3) := by decide +kernel
theorem dX12_token_61 : decode cX12_token 61 = .ok (.ifCond .eq 84, 3) := by decide +kernel
theorem dX12_token_64 : decode cX12_token 64 = .ok (.aload_n 0, 1) := by decide +kernel
theorem dX12_token_65 : decode cX12_token 65 = .ok (.invokevirtual 175, 3) := by decide +kernel
theorem dX12_token_68 : decode cX12_token 68 = .ok (.invokestatic 185, 3) := by decide +kernel
theorem dX12_token_71 : decode cX12_token 71 = .ok (.ifCond .eq 16, 3) := by decide +kernel
theorem dX12_token_74 : decode cX12_token 74 = .ok (.aload_n 0, 1) := by decide +kernel
theorem dX12_token_75 : decode cX12_token 75 = .ok (.dup, 1) := by decide +kernel
theorem dX12_token_76 : decode cX12_token 76 = .ok (.getfield 169, 3) := by decide +kernel
theorem dX12_token_79 : decode cX12_token 79 = .ok (.iconst 1, 1) := by decide +kernel
theorem dX12_token_80 : decode cX12_token 80 = .ok (.iadd, 1) := by decide +kernel
theorem dX12_token_81 : decode cX12_token 81 = .ok (.putfield 169, 3) := by decide +kernel
theorem dX12_token_84 : decode cX12_token 84 = .ok (.goto (-20), 3) := by decide +kernel
theorem dX12_token_87 : decode cX12_token 87 = .ok (.aload_n 0, 1) := by decide +kernel
theorem dX12_token_88 : decode cX12_token 88 = .ok (.aload_n 0, 1) := by decide +kernel
theorem dX12_token_89 : decode cX12_token 89 = .ok (.invokevirtual 189, 3) := by decide +kernel
theorem dX12_token_92 : decode cX12_token 92 = .ok (.putfield 192, 3) := by decide +kernel
theorem dX12_token_95 : decode cX12_token 95 = .ok (.aload_n 0, 1) := by decide +kernel
theorem dX12_token_96 : decode cX12_token 96 = .ok (.aload_n 0, 1) := by decide +kernel
theorem dX12_token_97 : decode cX12_token 97 = .ok (.getfield 192, 3) := by decide +kernel
theorem dX12_token_100 : decode cX12_token 100 = .ok (.iconst (-1), 1) := by decide +kernel
theorem dX12_token_101 : decode cX12_token 101 = .ok (.if_icmp .eq 7, 3) := by decide +kernel
theorem dX12_token_104 : decode cX12_token 104 = .ok (.iconst 0, 1) := by decide +kernel
theorem dX12_token_105 : decode cX12_token 105 = .ok (.goto 22, 3) := by decide +kernel
theorem dX12_token_108 : decode cX12_token 108 = .ok (.aload_n 0, 1) := by decide +kernel
theorem dX12_token_109 : decode cX12_token 109 = .ok (.getfield 169, 3) := by decide +kernel
theorem dX12_token_112 : decode cX12_token 112 = .ok (.aload_n 0, 1) := by decide +kernel
theorem dX12_token_113 : decode cX12_token 113 = .ok (.getfield 179, 3) := by decide +kernel
theorem dX12_token_116 : decode cX12_token 116 = .ok (.isub, 1) := by decide +kernel
theorem dX12_token_117 : decode cX12_token 117 = .ok (.bipush 6, 2) := by decide +kernel
theorem dX12_token_119 : decode cX12_token 119 = .ok (.if_icmp .le 7, 3) := by decide +kernel
theorem dX12_token_122 : decode cX12_token 122 = .ok (.iconst 5, 1) := by decide +kernel
theorem dX12_token_123 : decode cX12_token 123 = .ok (.goto 4, 3) := by decide +kernel
theorem dX12_token_126 : decode cX12_token 126 = .ok (.iconst 1, 1) := by decide +kernel
theorem dX12_token_127 : decode cX12_token 127 = .ok (.putfield 182, 3) := by decide +kernel
theorem dX12_token_130 : decode cX12_token 130 = .ok (.aload_n 0, 1) := by decide +kernel
theorem dX12_token_131 : decode cX12_token 131 = .ok (.getfield 182, 3) := by decide +kernel
theorem dX12_token_134 : decode cX12_token 134 = .ok (.iconst 1, 1) := by decide +kernel
theorem dX12_token_135 : decode cX12_token 135 = .ok (.if_icmp .ne 90, 3) := by decide +kernel
theorem dX12_token_138 : decode cX12_token 138 = .ok (.aload_n 0, 1) := by decide +kernel
theorem dX12_token_139 : decode cX12_token 139 = .ok (.invokevirtual 195, 3) := by decide +kernel
theorem dX12_token_142 : decode cX12_token 142 = .ok (.goto 83, 3) := by decide +kernel
theorem dX12_token_145 : decode cX12_token 145 = .ok (.iload_n 1, 1) := by decide +kernel
theorem dX12_token_146 : decode cX12_token 146 = .ok (.invokestatic 198, 3) := by decide +kernel
theorem dX12_token_149 : decode cX12_token 149 = .ok (.ifCond .eq 71, 3) := by decide +kernel
theorem dX12_token_152 : decode cX12_token 152 = .ok (.aload_n 0, 1) := by decide +kernel
theorem dX12_token_153 : decode cX12_token 153 = .ok (.iconst 2, 1) := by decide +kernel
theorem dX12_token_154 : decode cX12_token 154 = .ok (.putfield 182, 3) := by decide +kernel
theorem dX12_token_157 : decode cX12_token 157 = .ok (.aload_n 0, 1) := by decide +kernel
theorem dX12_token_158 : decode cX12_token 158 = .ok (.iconst 0, 1) := by decide +kernel
theorem dX12_token_159 : decode cX12_token 159 = .ok (.putfield 192, 3) := by decide +kernel
theorem dX12_token_162 : decode cX12_token 162 = .ok (.aload_n 0, 1) := by decide +kernel
theorem dX12_token_163 : decode cX12_token 163 = .ok (.invokevirtual 175, 3) := by decide +kernel
theorem dX12_token_166 : decode cX12_token 166 = .ok (.invokestatic 198, 3) := by decide +kernel
theorem dX12_token_169 : decode cX12_token 169 = .ok (.ifCond .eq 56, 3) := by decide +kernel
theorem dX12_token_172 : decode cX12_token 172 = .ok (.aload_n 0, 1) := by decide +kernel
theorem dX12_token_173 : decode cX12_token 173 = .ok (.aload_n 0, 1) := by decide +kernel
theorem dX12_token_174 : decode cX12_token 174 = .ok (.getfield 192, 3) := by decide +kernel
theorem dX12_token_177 : decode cX12_token 177 = .ok (.ldc 201, 2) := by decide +kernel
theorem dX12_token_179 : decode cX12_token 179 = .ok (.if_icmp .le 10, 3) := by decide +kernel
theorem dX12_token_182 : decode cX12_token 182 = .ok (.aload_n 0, 1) := by decide +kernel
theorem dX12_token_183 : decode cX12_token 183 = .ok (.getfield 192, 3) := by decide +kernel
theorem dX12_token_186 : decode cX12_token 186 = .ok (.goto 18, 3) := by decide +kernel
theorem dX12_token_189 : decode cX12_token 189 = .ok (.bipush 10, 2) := by decide +kernel
theorem dX12_token_191 : decode cX12_token 191 = .ok (.aload_n 0, 1) := by decide +kernel
theorem dX12_token_192 : decode cX12_token 192 = .ok (.getfield 192, 3) := by decide +kernel
theorem dX12_token_195 : decode cX12_token 195 = .ok (.imul, 1) := by decide +kernel
theorem dX12_token_196 : decode cX12_token 196 = .ok (.aload_n 0, 1) := by decide +kernel
theorem dX12_token_197 : decode cX12_token 197 = .ok (.invokevirtual 175, 3) := by decide +kernel
theorem dX12_token_200 : decode cX12_token 200 = .ok (.iadd, 1) := by decide +kernel
theorem dX12_token_201 : decode cX12_token 201 = .ok (.bipush 48, 2) := by decide +kernel
theorem dX12_token_203 : decode cX12_token 203 = .ok (.isub, 1) := by decide +kernel
theorem dX12_token_204 : decode cX12_token 204 = .ok (.putfield 192, 3) := by decide +kernel
theorem dX12_token_207 : decode cX12_token 207 = .ok (.aload_n 0, 1) := by decide +kernel
theorem dX12_token_208 : decode cX12_token 208 = .ok (.dup, 1) := by decide +kernel
theorem dX12_token_209 : decode cX12_token 209 = .ok (.getfield 169, 3) := by decide +kernel
theorem dX12_token_212 : decode cX12_token 212 = .ok (.iconst 1, 1) := by decide +kernel
theorem dX12_token_213 : decode cX12_token 213 = .ok (.iadd, 1) := by decide +kernel
theorem dX12_token_214 : decode cX12_token 214 = .ok (.putfield 169, 3) := by decide +kernel
theorem dX12_token_217 : decode cX12_token 217 = .ok (.goto (-55), 3) := by decide +kernel
theorem dX12_token_220 : decode cX12_token 220 = .ok (.aload_n 0, 1) := by decide +kernel
theorem dX12_token_221 : decode cX12_token 221 = .ok (.iload_n 1, 1) := by decide +kernel
theorem dX12_token_222 : decode cX12_token 222 = .ok (.invokevirtual 202, 3) := by decide +kernel
theorem dX12_token_225 : decode cX12_token 225 = .ok (.return_, 1) := by decide +kernel
theorem dX12_tries_0 : decode cX12_tries 0 = .ok (.iload_n 3, 1) := by decide +kernel
theorem dX12_tries_1 : decode cX12_tries 1 = .ok (.istore 5, 2) := by decide +kernel
theorem dX12_tries_3 : decode cX12_tries 3 = .ok (.iload 5, 2) := by decide +kernel
theorem dX12_tries_5 : decode cX12_tries 5 = .ok (.iload_n 2, 1) := by decide +kernel
theorem dX12_tries_6 : decode cX12_tries 6 = .ok (.if_icmp .gt 119, 3) := by decide +kernel
theorem dX12_tries_9 : decode cX12_tries 9 = .ok (.iload 4, 2) := by decide +kernel
theorem dX12_tries_11 : decode cX12_tries 11 = .ok (.aload_n 0, 1) := by decide +kernel
theorem dX12_tries_12 : decode cX12_tries 12 = .ok (.getfield 124, 3) := by decide +kernel
theorem dX12_tries_15 : decode cX12_tries 15 = .ok (.sipush 1000, 3) := by decide +kernel
theorem dX12_tries_18 : decode cX12_tries 18 = .ok (.iload_n 1, 1) := by decide +kernel
theorem dX12_tries_19 : decode cX12_tries 19 = .ok (.iconst 1, 1) := by decide +kernel
theorem dX12_tries_20 : decode cX12_tries 20 = .ok (.iadd, 1) := by decide +kernel
theorem dX12_tries_21 : decode cX12_tries 21 = .ok (.imul, 1) := by decide +kernel
theorem dX12_tries_22 : decode cX12_tries 22 = .ok (.iload 5, 2) := by decide +kernel
theorem dX12_tries_24 : decode cX12_tries 24 = .ok (.iadd, 1) := by decide +kernel
theorem dX12_tries_25 : decode cX12_tries 25 = .ok (.iload_n 3, 1) := by decide +kernel
theorem dX12_tries_26 : decode cX12_tries 26 = .ok (.isub, 1) := by decide +kernel
theorem dX12_tries_27 : decode cX12_tries 27 = .ok (.iaload, 1) := by decide +kernel
theorem dX12_tries_28 : decode cX12_tries 28 = .ok (.iadd, 1) := by decide +kernel
theorem dX12_tries_29 : decode cX12_tries 29 = .ok (.istore 6, 2) := by decide +kernel
theorem dX12_tries_31 : decode cX12_tries 31 = .ok (.iload_n 3, 1) := by decide +kernel
theorem dX12_tries_32 : decode cX12_tries 32 = .ok (.aload_n 0, 1) := by decide +kernel
theorem dX12_tries_33 : decode cX12_tries 33 = .ok (.getfield 127, 3) := by decide +kernel
theorem dX12_tries_36 : decode cX12_tries 36 = .ok (.sipush 1000, 3) := by decide +kernel
theorem dX12_tries_39 : decode cX12_tries 39 = .ok (.iload_n 1, 1) := by decide +kernel
theorem dX12_tries_40 : decode cX12_tries 40 = .ok (.iconst 1, 1) := by decide +kernel
theorem dX12_tries_41 : decode cX12_tries 41 = .ok (.iadd, 1) := by decide +kernel
theorem dX12_tries_42 : decode cX12_tries 42 = .ok (.imul, 1) := by decide +kernel
theorem dX12_tries_43 : decode cX12_tries 43 = .ok (.iload 5, 2) := by decide +kernel
theorem dX12_tries_45 : decode cX12_tries 45 = .ok (.iadd, 1) := by decide +kernel
theorem dX12_tries_46 : decode cX12_tries 46 = .ok (.iload_n 3, 1) := by decide +kernel
theorem dX12_tries_47 : decode cX12_tries 47 = .ok (.isub, 1) := by decide +kernel
theorem dX12_tries_48 : decode cX12_tries 48 = .ok (.iaload, 1) := by decide +kernel
theorem dX12_tries_49 : decode cX12_tries 49 = .ok (.iadd, 1) := by decide +kernel
theorem dX12_tries_50 : decode cX12_tries 50 = .ok (.istore 7, 2) := by decide +kernel
theorem dX12_tries_52 : decode cX12_tries 52 = .ok (.sipush 1000, 3) := by decide +kernel
theorem dX12_tries_55 : decode cX12_tries 55 = .ok (.iload_n 1, 1) := by decide +kernel
theorem dX12_tries_56 : decode cX12_tries 56 = .ok (.imul, 1) := by decide +kernel
theorem dX12_tries_57 : decode cX12_tries 57 = .ok (.iload 5, 2) := by decide +kernel
theorem dX12_tries_59 : decode cX12_tries 59 = .ok (.iadd, 1) := by decide +kernel
theorem dX12_tries_60 : decode cX12_tries 60 = .ok (.istore 8, 2) := by decide +kernel
theorem dX12_tries_62 : decode cX12_tries 62 = .ok (.iload 6, 2) := by decide +kernel
theorem dX12_tries_64 : decode cX12_tries 64 = .ok (.aload_n 0, 1) := by decide +kernel
theorem dX12_tries_65 : decode cX12_tries 65 = .ok (.getfield 124, 3) := by decide +kernel
theorem dX12_tries_68 : decode cX12_tries 68 = .ok (.iload 8, 2) := by decide +kernel
theorem dX12_tries_70 : decode cX12_tries 70 = .ok (.iaload, 1) := by decide +kernel
theorem dX12_tries_71 : decode cX12_tries 71 = .ok (.if_icmp .lt 48, 3) := by decide +kernel
theorem dX12_tries_74 : decode cX12_tries 74 = .ok (.iload 6, 2) := by decide +kernel
theorem dX12_tries_76 : decode cX12_tries 76 = .ok (.aload_n 0, 1) := by decide +kernel
theorem dX12_tries_77 : decode cX12_tries 77 = .ok (.getfield 124, 3) := by decide +kernel
theorem dX12_tries_80 : decode cX12_tries 80 = .ok (.iload 8, 2) := by decide +kernel
theorem dX12_tries_82 : decode cX12_tries 82 = .ok (.iaload, 1) := by decide +kernel
theorem dX12_tries_83 : decode cX12_tries 83 = .ok (.if_icmp .ne 18, 3) := by decide +kernel
theorem dX12_tries_86 : decode cX12_tries 86 = .ok (.iload 7, 2) := by decide +kernel
theorem dX12_tries_88 : decode cX12_tries 88 = .ok (.aload_n 0, 1) := by decide +kernel
theorem dX12_tries_89 : decode cX12_tries 89 = .ok (.getfield 127, 3) := by decide +kernel
theorem dX12_tries_92 : decode cX12_tries 92 = .ok (.iload 8, 2) := by decide +kernel
theorem dX12_tries_94 : decode cX12_tries 94 = .ok (.iaload, 1) := by decide +kernel
theorem dX12_tries_95 : decode cX12_tries 95 = .ok (.if_icmp .lt 6, 3) := by decide +kernel
theorem dX12_tries_98 : decode cX12_tries 98 = .ok (.goto 21, 3) := by decide +kernel
theorem dX12_tries_101 : decode cX12_tries 101 = .ok (.aload_n 0, 1) := by decide +kernel
theorem dX12_tries_102 : decode cX12_tries 102 = .ok (.getfield 124, 3) := by decide +kernel
theorem dX12_tries_105 : decode cX12_tries 105 = .ok (.iload 8, 2) := by decide +kernel
theorem dX12_tries_107 : decode cX12_tries 107 = .ok (.iload 6, 2) := by decide +kernel
theorem dX12_tries_109 : decode cX12_tries 109 = .ok (.iastore, 1) := by decide +kernel
theorem dX12_tries_110 : decode cX12_tries 110 = .ok (.aload_n 0, 1) := by decide +kernel
theorem dX12_tries_111 : decode cX12_tries 111 = .ok (.getfield 127, 3) := by decide +kernel
theorem dX12_tries_114 : decode cX12_tries 114 = .ok (.iload 8, 2) := by decide +kernel
theorem dX12_tries_116 : decode cX12_tries 116 = .ok (.iload 7, 2) := by decide +kernel
theorem dX12_tries_118 : decode cX12_tries 118 = .ok (.iastore, 1) := by decide +kernel
theorem dX12_tries_119 : decode cX12_tries 119 = .ok (.iinc 5 1, 3) := by decide +kernel
theorem dX12_tries_122 : decode cX12_tries 122 = .ok (.goto (-119), 3) := by decide +kernel
theorem dX12_tries_125 : decode cX12_tries 125 = .ok (.return_, 1) := by decide +kernel
theorem dX12_undo_0 : decode cX12_undo 0 = .ok (.aload_n 0, 1) := by decide +kernel
theorem dX12_undo_1 : decode cX12_undo 1 = .ok (.iconst 0, 1) := by decide +kernel
theorem dX12_undo_2 : decode cX12_undo 2 = .ok (.putfield 163, 3) := by decide +kernel
theorem dX12_undo_5 : decode cX12_undo 5 = .ok (.aload_n 0, 1) := by decide +kernel
theorem dX12_undo_6 : decode cX12_undo 6 = .ok (.getfield 108, 3) := by decide +kernel
theorem dX12_undo_9 : decode cX12_undo 9 = .ok (.iconst 0, 1) := by decide +kernel
theorem dX12_undo_10 : decode cX12_undo 10 = .ok (.iaload, 1) := by decide +kernel
theorem dX12_undo_11 : decode cX12_undo 11 = .ok (.ifCond .ne 5, 3) := by decide +kernel
theorem dX12_undo_14 : decode cX12_undo 14 = .ok (.iconst (-1), 1) := by decide +kernel
theorem dX12_undo_15 : decode cX12_undo 15 = .ok (.ireturn, 1) := by decide +kernel
theorem dX12_undo_16 : decode cX12_undo 16 = .ok (.aload_n 0, 1) := by decide +kernel
theorem dX12_undo_17 : decode cX12_undo 17 = .ok (.getfield 111, 3) := by decide +kernel
theorem dX12_undo_20 : decode cX12_undo 20 = .ok (.aload_n 0, 1) := by decide +kernel
theorem dX12_undo_21 : decode cX12_undo 21 = .ok (.getfield 108, 3) := by decide +kernel
theorem dX12_undo_24 : decode cX12_undo 24 = .ok (.iconst 0, 1) := by decide +kernel
theorem dX12_undo_25 : decode cX12_undo 25 = .ok (.iaload, 1) := by decide +kernel
theorem dX12_undo_26 : decode cX12_undo 26 = .ok (.iconst 1, 1) := by decide +kernel
theorem dX12_undo_27 : decode cX12_undo 27 = .ok (.isub, 1) := by decide +kernel
theorem dX12_undo_28 : decode cX12_undo 28 = .ok (.iaload, 1) := by decide +kernel
theorem dX12_undo_29 : decode cX12_undo 29 = .ok (.istore_n 1, 1) := by decide +kernel
theorem dX12_undo_30 : decode cX12_undo 30 = .ok (.aload_n 0, 1) := by decide +kernel
theorem dX12_undo_31 : decode cX12_undo 31 = .ok (.getfield 114, 3) := by decide +kernel
theorem dX12_undo_34 : decode cX12_undo 34 = .ok (.aload_n 0, 1) := by decide +kernel
theorem dX12_undo_35 : decode cX12_undo 35 = .ok (.getfield 108, 3) := by decide +kernel
theorem dX12_undo_38 : decode cX12_undo 38 = .ok (.iconst 0, 1) := by decide +kernel
theorem dX12_undo_39 : decode cX12_undo 39 = .ok (.iaload, 1) := by decide +kernel
theorem dX12_undo_40 : decode cX12_undo 40 = .ok (.iconst 1, 1) := by decide +kernel
theorem dX12_undo_41 : decode cX12_undo 41 = .ok (.isub, 1) := by decide +kernel
theorem dX12_undo_42 : decode cX12_undo 42 = .ok (.iaload, 1) := by decide +kernel
theorem dX12_undo_43 : decode cX12_undo 43 = .ok (.istore_n 2, 1) := by decide +kernel
theorem dX12_undo_44 : decode cX12_undo 44 = .ok (.aload_n 0, 1) := by decide +kernel
theorem dX12_undo_45 : decode cX12_undo 45 = .ok (.getfield 38, 3) := by decide +kernel
theorem dX12_undo_48 : decode cX12_undo 48 = .ok (.aload_n 0, 1) := by decide +kernel
theorem dX12_undo_49 : decode cX12_undo 49 = .ok (.getfield 105, 3) := by decide +kernel
theorem dX12_undo_52 : decode cX12_undo 52 = .ok (.iload_n 1, 1) := by decide +kernel
theorem dX12_undo_53 : decode cX12_undo 53 = .ok (.iaload, 1) := by decide +kernel
theorem dX12_undo_54 : decode cX12_undo 54 = .ok (.iaload, 1) := by decide +kernel
theorem dX12_undo_55 : decode cX12_undo 55 = .ok (.iconst (-1), 1) := by decide +kernel
theorem dX12_undo_56 : decode cX12_undo 56 = .ok (.if_icmp .eq 26, 3) := by decide +kernel
theorem dX12_undo_59 : decode cX12_undo 59 = .ok (.aload_n 0, 1) := by decide +kernel
theorem dX12_undo_60 : decode cX12_undo 60 = .ok (.getfield 96, 3) := by decide +kernel
theorem dX12_undo_63 : decode cX12_undo 63 = .ok (.aload_n 0, 1) := by decide +kernel
theorem dX12_undo_64 : decode cX12_undo 64 = .ok (.getfield 38, 3) := by decide +kernel
theorem dX12_undo_67 : decode cX12_undo 67 = .ok (.aload_n 0, 1) := by decide +kernel
theorem dX12_undo_68 : decode cX12_undo 68 = .ok (.getfield 105, 3) := by decide +kernel
theorem dX12_undo_71 : decode cX12_undo 71 = .ok (.iload_n 1, 1) := by decide +kernel
theorem dX12_undo_72 : decode cX12_undo 72 = .ok (.iaload, 1) := by decide +kernel
theorem dX12_undo_73 : decode cX12_undo 73 = .ok (.iaload, 1) := by decide +kernel
theorem dX12_undo_74 : decode cX12_undo 74 = .ok (.iaload, 1) := by decide +kernel
theorem dX12_undo_75 : decode cX12_undo 75 = .ok (.iload_n 2, 1) := by decide +kernel
theorem dX12_undo_76 : decode cX12_undo 76 = .ok (.if_icmp .ge 6, 3) := by decide +kernel
theorem dX12_undo_79 : decode cX12_undo 79 = .ok (.bipush (-2), 2) := by decide +kernel
theorem dX12_undo_81 : decode cX12_undo 81 = .ok (.ireturn, 1) := by decide +kernel
theorem dX12_undo_82 : decode cX12_undo 82 = .ok (.aload_n 0, 1) := by decide +kernel
theorem dX12_undo_83 : decode cX12_undo 83 = .ok (.getfield 108, 3) := by decide +kernel
theorem dX12_undo_86 : decode cX12_undo 86 = .ok (.iconst 0, 1) := by decide +kernel
theorem dX12_undo_87 : decode cX12_undo 87 = .ok (.dup2, 1) := by decide +kernel
theorem dX12_undo_88 : decode cX12_undo 88 = .ok (.iaload, 1) := by decide +kernel
theorem dX12_undo_89 : decode cX12_undo 89 = .ok (.iconst 1, 1) := by decide +kernel
theorem dX12_undo_90 : decode cX12_undo 90 = .ok (.isub, 1) := by decide +kernel
theorem dX12_undo_91 : decode cX12_undo 91 = .ok (.iastore, 1) := by decide +kernel
theorem dX12_undo_92 : decode cX12_undo 92 = .ok (.aload_n 0, 1) := by decide +kernel
theorem dX12_undo_93 : decode cX12_undo 93 = .ok (.getfield 84, 3) := by decide +kernel
theorem dX12_undo_96 : decode cX12_undo 96 = .ok (.iconst 0, 1) := by decide +kernel
theorem dX12_undo_97 : decode cX12_undo 97 = .ok (.dup2, 1) := by decide +kernel
theorem dX12_undo_98 : decode cX12_undo 98 = .ok (.iaload, 1) := by decide +kernel
theorem dX12_undo_99 : decode cX12_undo 99 = .ok (.iload_n 2, 1) := by decide +kernel
theorem dX12_undo_100 : decode cX12_undo 100 = .ok (.iadd, 1) := by decide +kernel
theorem dX12_undo_101 : decode cX12_undo 101 = .ok (.iastore, 1) := by decide +kernel
theorem dX12_undo_102 : decode cX12_undo 102 = .ok (.aload_n 0, 1) := by decide +kernel
theorem dX12_undo_103 : decode cX12_undo 103 = .ok (.getfield 38, 3) := by decide +kernel
theorem dX12_undo_106 : decode cX12_undo 106 = .ok (.aload_n 0, 1) := by decide +kernel
theorem dX12_undo_107 : decode cX12_undo 107 = .ok (.getfield 105, 3) := by decide +kernel
theorem dX12_undo_110 : decode cX12_undo 110 = .ok (.iload_n 1, 1) := by decide +kernel
theorem dX12_undo_111 : decode cX12_undo 111 = .ok (.iaload, 1) := by decide +kernel
theorem dX12_undo_112 : decode cX12_undo 112 = .ok (.iaload, 1) := by decide +kernel
theorem dX12_undo_113 : decode cX12_undo 113 = .ok (.iconst (-1), 1) := by decide +kernel
theorem dX12_undo_114 : decode cX12_undo 114 = .ok (.if_icmp .eq 23, 3) := by decide +kernel
theorem dX12_undo_117 : decode cX12_undo 117 = .ok (.aload_n 0, 1) := by decide +kernel
theorem dX12_undo_118 : decode cX12_undo 118 = .ok (.getfield 96, 3) := by decide +kernel
theorem dX12_undo_121 : decode cX12_undo 121 = .ok (.aload_n 0, 1) := by decide +kernel
theorem dX12_undo_122 : decode cX12_undo 122 = .ok (.getfield 38, 3) := by decide +kernel
theorem dX12_undo_125 : decode cX12_undo 125 = .ok (.aload_n 0, 1) := by decide +kernel
theorem dX12_undo_126 : decode cX12_undo 126 = .ok (.getfield 105, 3) := by decide +kernel
theorem dX12_undo_129 : decode cX12_undo 129 = .ok (.iload_n 1, 1) := by decide +kernel
theorem dX12_undo_130 : decode cX12_undo 130 = .ok (.iaload, 1) := by decide +kernel
theorem dX12_undo_131 : decode cX12_undo 131 = .ok (.iaload, 1) := by decide +kernel
theorem dX12_undo_132 : decode cX12_undo 132 = .ok (.dup2, 1) := by decide +kernel
theorem dX12_undo_133 : decode cX12_undo 133 = .ok (.iaload, 1) := by decide +kernel
theorem dX12_undo_134 : decode cX12_undo 134 = .ok (.iload_n 2, 1) := by decide +kernel
theorem dX12_undo_135 : decode cX12_undo 135 = .ok (.isub, 1) := by decide +kernel
theorem dX12_undo_136 : decode cX12_undo 136 = .ok (.iastore, 1) := by decide +kernel
theorem dX12_undo_137 : decode cX12_undo 137 = .ok (.aload_n 0, 1) := by decide +kernel
theorem dX12_undo_138 : decode cX12_undo 138 = .ok (.getfield 105, 3) := by decide +kernel
theorem dX12_undo_141 : decode cX12_undo 141 = .ok (.iload_n 1, 1) := by decide +kernel
theorem dX12_undo_142 : decode cX12_undo 142 = .ok (.iconst (-1), 1) := by decide +kernel
theorem dX12_undo_143 : decode cX12_undo 143 = .ok (.iastore, 1) := by decide +kernel
theorem dX12_undo_144 : decode cX12_undo 144 = .ok (.aload_n 0, 1) := by decide +kernel
theorem dX12_undo_145 : decode cX12_undo 145 = .ok (.getfield 108, 3) := by decide +kernel
theorem dX12_undo_148 : decode cX12_undo 148 = .ok (.iconst 0, 1) := by decide +kernel
theorem dX12_undo_149 : decode cX12_undo 149 = .ok (.iaload, 1) := by decide +kernel
theorem dX12_undo_150 : decode cX12_undo 150 = .ok (.ireturn, 1) := by decide +kernel
theorem dX12_verse_0 : decode cX12_verse 0 = .ok (.aload_n 0, 1) := by decide +kernel
theorem dX12_verse_1 : decode cX12_verse 1 = .ok (.iconst 0, 1) := by decide +kernel
theorem dX12_verse_2 : decode cX12_verse 2 = .ok (.putfield 163, 3) := by decide +kernel
theorem dX12_verse_5 : decode cX12_verse 5 = .ok (.aload_n 0, 1) := by decide +kernel
theorem dX12_verse_6 : decode cX12_verse 6 = .ok (.iload_n 1, 1) := by decide +kernel
theorem dX12_verse_7 : decode cX12_verse 7 = .ok (.invokevirtual 332, 3) := by decide +kernel
theorem dX12_verse_10 : decode cX12_verse 10 = .ok (.ifCond .ne 5, 3) := by decide +kernel
theorem dX12_verse_13 : decode cX12_verse 13 = .ok (.iconst (-1), 1) := by decide +kernel
theorem dX12_verse_14 : decode cX12_verse 14 = .ok (.ireturn, 1) := by decide +kernel
theorem dX12_verse_15 : decode cX12_verse 15 = .ok (.iload_n 2, 1) := by decide +kernel
theorem dX12_verse_16 : decode cX12_verse 16 = .ok (.ifCond .ne 12, 3) := by decide +kernel
theorem dX12_verse_19 : decode cX12_verse 19 = .ok (.aload_n 0, 1) := by decide +kernel
theorem dX12_verse_20 : decode cX12_verse 20 = .ok (.getfield 50, 3) := by decide +kernel
theorem dX12_verse_23 : decode cX12_verse 23 = .ok (.iload_n 1, 1) := by decide +kernel
theorem dX12_verse_24 : decode cX12_verse 24 = .ok (.iaload, 1) := by decide +kernel
theorem dX12_verse_25 : decode cX12_verse 25 = .ok (.goto 30, 3) := by decide +kernel
theorem dX12_verse_28 : decode cX12_verse 28 = .ok (.aload_n 0, 1) := by decide +kernel
theorem dX12_verse_29 : decode cX12_verse 29 = .ok (.iload_n 1, 1) := by decide +kernel
theorem dX12_verse_30 : decode cX12_verse 30 = .ok (.iload_n 2, 1) := by decide +kernel
theorem dX12_verse_31 : decode cX12_verse 31 = .ok (.iconst 1, 1) := by decide +kernel
theorem dX12_verse_32 : decode cX12_verse 32 = .ok (.isub, 1) := by decide +kernel
theorem dX12_verse_33 : decode cX12_verse 33 = .ok (.invokevirtual 344, 3) := by decide +kernel
theorem dX12_verse_36 : decode cX12_verse 36 = .ok (.ifCond .eq 18, 3) := by decide +kernel
theorem dX12_verse_39 : decode cX12_verse 39 = .ok (.aload_n 0, 1) := by decide +kernel
theorem dX12_verse_40 : decode cX12_verse 40 = .ok (.getfield 53, 3) := by decide +kernel
theorem dX12_verse_43 : decode cX12_verse 43 = .ok (.iconst 3, 1) := by decide +kernel
theorem dX12_verse_44 : decode cX12_verse 44 = .ok (.iload_n 1, 1) := by decide +kernel
theorem dX12_verse_45 : decode cX12_verse 45 = .ok (.imul, 1) := by decide +kernel
theorem dX12_verse_46 : decode cX12_verse 46 = .ok (.iload_n 2, 1) := by decide +kernel
theorem dX12_verse_47 : decode cX12_verse 47 = .ok (.iadd, 1) := by decide +kernel
theorem dX12_verse_48 : decode cX12_verse 48 = .ok (.iconst 1, 1) := by decide +kernel
theorem dX12_verse_49 : decode cX12_verse 49 = .ok (.isub, 1) := by decide +kernel
theorem dX12_verse_50 : decode cX12_verse 50 = .ok (.iaload, 1) := by decide +kernel
theorem dX12_verse_51 : decode cX12_verse 51 = .ok (.goto 4, 3) := by decide +kernel
theorem dX12_verse_54 : decode cX12_verse 54 = .ok (.iconst (-1), 1) := by decide +kernel
theorem dX12_verse_55 : decode cX12_verse 55 = .ok (.ireturn, 1) := by decide +kernel
theorem dX12_verseLine_0 : decode cX12_verseLine 0 = .ok (.aload_n 0, 1) := by decide +kernel
theorem dX12_verseLine_1 : decode cX12_verseLine 1 = .ok (.getfield 47, 3) := by decide +kernel
theorem dX12_verseLine_4 : decode cX12_verseLine 4 = .ok (.iload_n 1, 1) := by decide +kernel
theorem dX12_verseLine_5 : decode cX12_verseLine 5 = .ok (.aload_n 0, 1) := by decide +kernel
theorem dX12_verseLine_6 : decode cX12_verseLine 6 = .ok (.aload_n 0, 1) := by decide +kernel
theorem dX12_verseLine_7 : decode cX12_verseLine 7 = .ok (.getfield 47, 3) := by decide +kernel
theorem dX12_verseLine_10 : decode cX12_verseLine 10 = .ok (.iconst 4, 1) := by decide +kernel
theorem dX12_verseLine_11 : decode cX12_verseLine 11 = .ok (.aload_n 0, 1) := by decide +kernel
theorem dX12_verseLine_12 : decode cX12_verseLine 12 = .ok (.iconst 2, 1) := by decide +kernel
theorem dX12_verseLine_13 : decode cX12_verseLine 13 = .ok (.invokevirtual 233, 3) := by decide +kernel
theorem dX12_verseLine_16 : decode cX12_verseLine 16 = .ok (.invokevirtual 246, 3) := by decide +kernel
theorem dX12_verseLine_19 : decode cX12_verseLine 19 = .ok (.iastore, 1) := by decide +kernel
theorem dX12_verseLine_20 : decode cX12_verseLine 20 = .ok (.aload_n 0, 1) := by decide +kernel
theorem dX12_verseLine_21 : decode cX12_verseLine 21 = .ok (.getfield 50, 3) := by decide +kernel
theorem dX12_verseLine_24 : decode cX12_verseLine 24 = .ok (.iload_n 1, 1) := by decide +kernel
theorem dX12_verseLine_25 : decode cX12_verseLine 25 = .ok (.iconst 0, 1) := by decide +kernel
theorem dX12_verseLine_26 : decode cX12_verseLine 26 = .ok (.iastore, 1) := by decide +kernel
theorem dX12_verseLine_27 : decode cX12_verseLine 27 = .ok (.aload_n 0, 1) := by decide +kernel
theorem dX12_verseLine_28 : decode cX12_verseLine 28 = .ok (.getfield 217, 3) := by decide +kernel
theorem dX12_verseLine_31 : decode cX12_verseLine 31 = .ok (.ifCond .ne 17, 3) := by decide +kernel
theorem dX12_verseLine_34 : decode cX12_verseLine 34 = .ok (.aload_n 0, 1) := by decide +kernel
theorem dX12_verseLine_35 : decode cX12_verseLine 35 = .ok (.bipush 7, 2) := by decide +kernel
theorem dX12_verseLine_37 : decode cX12_verseLine 37 = .ok (.invokevirtual 279, 3) := by decide +kernel
theorem dX12_verseLine_40 : decode cX12_verseLine 40 = .ok (.ifCond .ne 8, 3) := by decide +kernel
theorem dX12_verseLine_43 : decode cX12_verseLine 43 = .ok (.aload_n 0, 1) := by decide +kernel
theorem dX12_verseLine_44 : decode cX12_verseLine 44 = .ok (.iconst 1, 1) := by decide +kernel
theorem dX12_verseLine_45 : decode cX12_verseLine 45 = .ok (.invokevirtual 226, 3) := by decide +kernel
theorem dX12_verseLine_48 : decode cX12_verseLine 48 = .ok (.aload_n 0, 1) := by decide +kernel
theorem dX12_verseLine_49 : decode cX12_verseLine 49 = .ok (.bipush 7, 2) := by decide +kernel
theorem dX12_verseLine_51 : decode cX12_verseLine 51 = .ok (.invokevirtual 279, 3) := by decide +kernel
theorem dX12_verseLine_54 : decode cX12_verseLine 54 = .ok (.ifCond .eq 57, 3) := by decide +kernel
theorem dX12_verseLine_57 : decode cX12_verseLine 57 = .ok (.aload_n 0, 1) := by decide +kernel
theorem dX12_verseLine_58 : decode cX12_verseLine 58 = .ok (.getfield 50, 3) := by decide +kernel
theorem dX12_verseLine_61 : decode cX12_verseLine 61 = .ok (.iload_n 1, 1) := by decide +kernel
theorem dX12_verseLine_62 : decode cX12_verseLine 62 = .ok (.iaload, 1) := by decide +kernel
theorem dX12_verseLine_63 : decode cX12_verseLine 63 = .ok (.iconst 3, 1) := by decide +kernel
theorem dX12_verseLine_64 : decode cX12_verseLine 64 = .ok (.if_icmp .ne 8, 3) := by decide +kernel
theorem dX12_verseLine_67 : decode cX12_verseLine 67 = .ok (.aload_n 0, 1) := by decide +kernel
theorem dX12_verseLine_68 : decode cX12_verseLine 68 = .ok (.iconst 2, 1) := by decide +kernel
theorem dX12_verseLine_69 : decode cX12_verseLine 69 = .ok (.invokevirtual 226, 3) := by decide +kernel
theorem dX12_verseLine_72 : decode cX12_verseLine 72 = .ok (.aload_n 0, 1) := by decide +kernel
theorem dX12_verseLine_73 : decode cX12_verseLine 73 = .ok (.getfield 217, 3) := by decide +kernel
theorem dX12_verseLine_76 : decode cX12_verseLine 76 = .ok (.ifCond .eq 4, 3) := by decide +kernel
theorem dX12_verseLine_79 : decode cX12_verseLine 79 = .ok (.return_, 1) := by decide +kernel
theorem dX12_verseLine_80 : decode cX12_verseLine 80 = .ok (.aload_n 0, 1) := by decide +kernel
theorem dX12_verseLine_81 : decode cX12_verseLine 81 = .ok (.invokevirtual 237, 3) := by decide +kernel
theorem dX12_verseLine_84 : decode cX12_verseLine 84 = .ok (.aload_n 0, 1) := by decide +kernel
theorem dX12_verseLine_85 : decode cX12_verseLine 85 = .ok (.iconst 3, 1) := by decide +kernel
theorem dX12_verseLine_86 : decode cX12_verseLine 86 = .ok (.iload_n 1, 1) := by decide +kernel
theorem dX12_verseLine_87 : decode cX12_verseLine 87 = .ok (.imul, 1) := by decide +kernel
theorem dX12_verseLine_88 : decode cX12_verseLine 88 = .ok (.aload_n 0, 1) := by decide +kernel
theorem dX12_verseLine_89 : decode cX12_verseLine 89 = .ok (.getfield 50, 3) := by decide +kernel
theorem dX12_verseLine_92 : decode cX12_verseLine 92 = .ok (.iload_n 1, 1) := by decide +kernel
theorem dX12_verseLine_93 : decode cX12_verseLine 93 = .ok (.iaload, 1) := by decide +kernel
theorem dX12_verseLine_94 : decode cX12_verseLine 94 = .ok (.iadd, 1) := by decide +kernel
theorem dX12_verseLine_95 : decode cX12_verseLine 95 = .ok (.invokevirtual 285, 3) := by decide +kernel
theorem dX12_verseLine_98 : decode cX12_verseLine 98 = .ok (.aload_n 0, 1) := by decide +kernel
theorem dX12_verseLine_99 : decode cX12_verseLine 99 = .ok (.getfield 50, 3) := by decide +kernel
theorem dX12_verseLine_102 : decode cX12_verseLine 102 = .ok (.iload_n 1, 1) := by decide +kernel
theorem dX12_verseLine_103 : decode cX12_verseLine 103 = .ok (.dup2, 1) := by decide +kernel
theorem dX12_verseLine_104 : decode cX12_verseLine 104 = .ok (.iaload, 1) := by decide +kernel
theorem dX12_verseLine_105 : decode cX12_verseLine 105 = .ok (.iconst 1, 1) := by decide +kernel
theorem dX12_verseLine_106 : decode cX12_verseLine 106 = .ok (.iadd, 1) := by decide +kernel
theorem dX12_verseLine_107 : decode cX12_verseLine 107 = .ok (.iastore, 1) := by decide +kernel
theorem dX12_verseLine_108 : decode cX12_verseLine 108 = .ok (.goto (-60), 3) := by decide +kernel
theorem dX12_verseLine_111 : decode cX12_verseLine 111 = .ok (.aload_n 0, 1) := by decide +kernel
theorem dX12_verseLine_112 : decode cX12_verseLine 112 = .ok (.iconst 2, 1) := by decide +kernel
theorem dX12_verseLine_113 : decode cX12_verseLine 113 = .ok (.aload_n 0, 1) := by decide +kernel
theorem dX12_verseLine_114 : decode cX12_verseLine 114 = .ok (.iconst 2, 1) := by decide +kernel
theorem dX12_verseLine_115 : decode cX12_verseLine 115 = .ok (.invokevirtual 233, 3) := by decide +kernel
theorem dX12_verseLine_118 : decode cX12_verseLine 118 = .ok (.iconst 1, 1) := by decide +kernel
theorem dX12_verseLine_119 : decode cX12_verseLine 119 = .ok (.iadd, 1) := by decide +kernel
theorem dX12_verseLine_120 : decode cX12_verseLine 120 = .ok (.invokevirtual 254, 3) := by decide +kernel
theorem dX12_verseLine_123 : decode cX12_verseLine 123 = .ok (.return_, 1) := by decide +kernel
theorem dX12_voiceLine_0 : decode cX12_voiceLine 0 = .ok (.aload_n 0, 1) := by decide +kernel
theorem dX12_voiceLine_1 : decode cX12_voiceLine 1 = .ok (.getfield 25, 3) := by decide +kernel
theorem dX12_voiceLine_4 : decode cX12_voiceLine 4 = .ok (.iload_n 1, 1) := by decide +kernel
theorem dX12_voiceLine_5 : decode cX12_voiceLine 5 = .ok (.aload_n 0, 1) := by decide +kernel
theorem dX12_voiceLine_6 : decode cX12_voiceLine 6 = .ok (.aload_n 0, 1) := by decide +kernel
theorem dX12_voiceLine_7 : decode cX12_voiceLine 7 = .ok (.getfield 25, 3) := by decide +kernel
theorem dX12_voiceLine_10 : decode cX12_voiceLine 10 = .ok (.bipush 6, 2) := by decide +kernel
theorem dX12_voiceLine_12 : decode cX12_voiceLine 12 = .ok (.aload_n 0, 1) := by decide +kernel
theorem dX12_voiceLine_13 : decode cX12_voiceLine 13 = .ok (.iconst 1, 1) := by decide +kernel
theorem dX12_voiceLine_14 : decode cX12_voiceLine 14 = .ok (.invokevirtual 233, 3) := by decide +kernel
theorem dX12_voiceLine_17 : decode cX12_voiceLine 17 = .ok (.invokevirtual 246, 3) := by decide +kernel
theorem dX12_voiceLine_20 : decode cX12_voiceLine 20 = .ok (.iastore, 1) := by decide +kernel
theorem dX12_voiceLine_21 : decode cX12_voiceLine 21 = .ok (.aload_n 0, 1) := by decide +kernel
theorem dX12_voiceLine_22 : decode cX12_voiceLine 22 = .ok (.getfield 28, 3) := by decide +kernel
theorem dX12_voiceLine_25 : decode cX12_voiceLine 25 = .ok (.iload_n 1, 1) := by decide +kernel
theorem dX12_voiceLine_26 : decode cX12_voiceLine 26 = .ok (.aload_n 0, 1) := by decide +kernel
theorem dX12_voiceLine_27 : decode cX12_voiceLine 27 = .ok (.iconst 1, 1) := by decide +kernel
theorem dX12_voiceLine_28 : decode cX12_voiceLine 28 = .ok (.bipush 40, 2) := by decide +kernel
theorem dX12_voiceLine_30 : decode cX12_voiceLine 30 = .ok (.invokevirtual 250, 3) := by decide +kernel
theorem dX12_voiceLine_33 : decode cX12_voiceLine 33 = .ok (.iastore, 1) := by decide +kernel
theorem dX12_voiceLine_34 : decode cX12_voiceLine 34 = .ok (.aload_n 0, 1) := by decide +kernel
theorem dX12_voiceLine_35 : decode cX12_voiceLine 35 = .ok (.getfield 31, 3) := by decide +kernel
theorem dX12_voiceLine_38 : decode cX12_voiceLine 38 = .ok (.iload_n 1, 1) := by decide +kernel
theorem dX12_voiceLine_39 : decode cX12_voiceLine 39 = .ok (.aload_n 0, 1) := by decide +kernel
theorem dX12_voiceLine_40 : decode cX12_voiceLine 40 = .ok (.aload_n 0, 1) := by decide +kernel
theorem dX12_voiceLine_41 : decode cX12_voiceLine 41 = .ok (.getfield 28, 3) := by decide +kernel
theorem dX12_voiceLine_44 : decode cX12_voiceLine 44 = .ok (.iload_n 1, 1) := by decide +kernel
theorem dX12_voiceLine_45 : decode cX12_voiceLine 45 = .ok (.iaload, 1) := by decide +kernel
theorem dX12_voiceLine_46 : decode cX12_voiceLine 46 = .ok (.bipush 40, 2) := by decide +kernel
theorem dX12_voiceLine_48 : decode cX12_voiceLine 48 = .ok (.invokevirtual 250, 3) := by decide +kernel
theorem dX12_voiceLine_51 : decode cX12_voiceLine 51 = .ok (.iastore, 1) := by decide +kernel
theorem dX12_voiceLine_52 : decode cX12_voiceLine 52 = .ok (.aload_n 0, 1) := by decide +kernel
theorem dX12_voiceLine_53 : decode cX12_voiceLine 53 = .ok (.getfield 34, 3) := by decide +kernel
theorem dX12_voiceLine_56 : decode cX12_voiceLine 56 = .ok (.iload_n 1, 1) := by decide +kernel
theorem dX12_voiceLine_57 : decode cX12_voiceLine 57 = .ok (.aload_n 0, 1) := by decide +kernel
theorem dX12_voiceLine_58 : decode cX12_voiceLine 58 = .ok (.bipush 8, 2) := by decide +kernel
theorem dX12_voiceLine_60 : decode cX12_voiceLine 60 = .ok (.invokevirtual 279, 3) := by decide +kernel
theorem dX12_voiceLine_63 : decode cX12_voiceLine 63 = .ok (.bastore, 1) := by decide +kernel
theorem dX12_voiceLine_64 : decode cX12_voiceLine 64 = .ok (.aload_n 0, 1) := by decide +kernel
theorem dX12_voiceLine_65 : decode cX12_voiceLine 65 = .ok (.getfield 34, 3) := by decide +kernel
theorem dX12_voiceLine_68 : decode cX12_voiceLine 68 = .ok (.iload_n 1, 1) := by decide +kernel
theorem dX12_voiceLine_69 : decode cX12_voiceLine 69 = .ok (.baload, 1) := by decide +kernel
theorem dX12_voiceLine_70 : decode cX12_voiceLine 70 = .ok (.ifCond .eq 7, 3) := by decide +kernel
theorem dX12_voiceLine_73 : decode cX12_voiceLine 73 = .ok (.aload_n 0, 1) := by decide +kernel
theorem dX12_voiceLine_74 : decode cX12_voiceLine 74 = .ok (.invokevirtual 223, 3) := by decide +kernel
theorem dX12_voiceLine_77 : decode cX12_voiceLine 77 = .ok (.aload_n 0, 1) := by decide +kernel
theorem dX12_voiceLine_78 : decode cX12_voiceLine 78 = .ok (.getfield 38, 3) := by decide +kernel
theorem dX12_voiceLine_81 : decode cX12_voiceLine 81 = .ok (.iload_n 1, 1) := by decide +kernel
theorem dX12_voiceLine_82 : decode cX12_voiceLine 82 = .ok (.iconst (-1), 1) := by decide +kernel
theorem dX12_voiceLine_83 : decode cX12_voiceLine 83 = .ok (.iastore, 1) := by decide +kernel
theorem dX12_voiceLine_84 : decode cX12_voiceLine 84 = .ok (.aload_n 0, 1) := by decide +kernel
theorem dX12_voiceLine_85 : decode cX12_voiceLine 85 = .ok (.getfield 41, 3) := by decide +kernel
theorem dX12_voiceLine_88 : decode cX12_voiceLine 88 = .ok (.iload_n 1, 1) := by decide +kernel
theorem dX12_voiceLine_89 : decode cX12_voiceLine 89 = .ok (.iconst 0, 1) := by decide +kernel
theorem dX12_voiceLine_90 : decode cX12_voiceLine 90 = .ok (.iastore, 1) := by decide +kernel
theorem dX12_voiceLine_91 : decode cX12_voiceLine 91 = .ok (.aload_n 0, 1) := by decide +kernel
theorem dX12_voiceLine_92 : decode cX12_voiceLine 92 = .ok (.getfield 44, 3) := by decide +kernel
theorem dX12_voiceLine_95 : decode cX12_voiceLine 95 = .ok (.iload_n 1, 1) := by decide +kernel
theorem dX12_voiceLine_96 : decode cX12_voiceLine 96 = .ok (.iconst 1, 1) := by decide +kernel
theorem dX12_voiceLine_97 : decode cX12_voiceLine 97 = .ok (.iastore, 1) := by decide +kernel
theorem dX12_voiceLine_98 : decode cX12_voiceLine 98 = .ok (.aload_n 0, 1) := by decide +kernel
theorem dX12_voiceLine_99 : decode cX12_voiceLine 99 = .ok (.bipush 9, 2) := by decide +kernel
theorem dX12_voiceLine_101 : decode cX12_voiceLine 101 = .ok (.invokevirtual 279, 3) := by decide +kernel
theorem dX12_voiceLine_104 : decode cX12_voiceLine 104 = .ok (.ifCond .eq 30, 3) := by decide +kernel
theorem dX12_voiceLine_107 : decode cX12_voiceLine 107 = .ok (.aload_n 0, 1) := by decide +kernel
theorem dX12_voiceLine_108 : decode cX12_voiceLine 108 = .ok (.invokevirtual 223, 3) := by decide +kernel
theorem dX12_voiceLine_111 : decode cX12_voiceLine 111 = .ok (.aload_n 0, 1) := by decide +kernel
theorem dX12_voiceLine_112 : decode cX12_voiceLine 112 = .ok (.getfield 38, 3) := by decide +kernel
theorem dX12_voiceLine_115 : decode cX12_voiceLine 115 = .ok (.iload_n 1, 1) := by decide +kernel
theorem dX12_voiceLine_116 : decode cX12_voiceLine 116 = .ok (.aload_n 0, 1) := by decide +kernel
theorem dX12_voiceLine_117 : decode cX12_voiceLine 117 = .ok (.invokevirtual 282, 3) := by decide +kernel
theorem dX12_voiceLine_120 : decode cX12_voiceLine 120 = .ok (.iastore, 1) := by decide +kernel
theorem dX12_voiceLine_121 : decode cX12_voiceLine 121 = .ok (.aload_n 0, 1) := by decide +kernel
theorem dX12_voiceLine_122 : decode cX12_voiceLine 122 = .ok (.getfield 41, 3) := by decide +kernel
theorem dX12_voiceLine_125 : decode cX12_voiceLine 125 = .ok (.iload_n 1, 1) := by decide +kernel
theorem dX12_voiceLine_126 : decode cX12_voiceLine 126 = .ok (.aload_n 0, 1) := by decide +kernel
theorem dX12_voiceLine_127 : decode cX12_voiceLine 127 = .ok (.iconst 0, 1) := by decide +kernel
theorem dX12_voiceLine_128 : decode cX12_voiceLine 128 = .ok (.bipush 99, 2) := by decide +kernel
theorem dX12_voiceLine_130 : decode cX12_voiceLine 130 = .ok (.invokevirtual 250, 3) := by decide +kernel
theorem dX12_voiceLine_133 : decode cX12_voiceLine 133 = .ok (.iastore, 1) := by decide +kernel
theorem dX12_voiceLine_134 : decode cX12_voiceLine 134 = .ok (.aload_n 0, 1) := by decide +kernel
theorem dX12_voiceLine_135 : decode cX12_voiceLine 135 = .ok (.bipush 10, 2) := by decide +kernel
theorem dX12_voiceLine_137 : decode cX12_voiceLine 137 = .ok (.invokevirtual 279, 3) := by decide +kernel
theorem dX12_voiceLine_140 : decode cX12_voiceLine 140 = .ok (.ifCond .eq 20, 3) := by decide +kernel
theorem dX12_voiceLine_143 : decode cX12_voiceLine 143 = .ok (.aload_n 0, 1) := by decide +kernel
theorem dX12_voiceLine_144 : decode cX12_voiceLine 144 = .ok (.invokevirtual 223, 3) := by decide +kernel
theorem dX12_voiceLine_147 : decode cX12_voiceLine 147 = .ok (.aload_n 0, 1) := by decide +kernel
theorem dX12_voiceLine_148 : decode cX12_voiceLine 148 = .ok (.getfield 44, 3) := by decide +kernel
theorem dX12_voiceLine_151 : decode cX12_voiceLine 151 = .ok (.iload_n 1, 1) := by decide +kernel
theorem dX12_voiceLine_152 : decode cX12_voiceLine 152 = .ok (.aload_n 0, 1) := by decide +kernel
theorem dX12_voiceLine_153 : decode cX12_voiceLine 153 = .ok (.iconst 1, 1) := by decide +kernel
theorem dX12_voiceLine_154 : decode cX12_voiceLine 154 = .ok (.bipush 99, 2) := by decide +kernel
theorem dX12_voiceLine_156 : decode cX12_voiceLine 156 = .ok (.invokevirtual 250, 3) := by decide +kernel
theorem dX12_voiceLine_159 : decode cX12_voiceLine 159 = .ok (.iastore, 1) := by decide +kernel
theorem dX12_voiceLine_160 : decode cX12_voiceLine 160 = .ok (.aload_n 0, 1) := by decide +kernel
theorem dX12_voiceLine_161 : decode cX12_voiceLine 161 = .ok (.iconst 1, 1) := by decide +kernel
theorem dX12_voiceLine_162 : decode cX12_voiceLine 162 = .ok (.aload_n 0, 1) := by decide +kernel
theorem dX12_voiceLine_163 : decode cX12_voiceLine 163 = .ok (.iconst 1, 1) := by decide +kernel
theorem dX12_voiceLine_164 : decode cX12_voiceLine 164 = .ok (.invokevirtual 233, 3) := by decide +kernel
theorem dX12_voiceLine_167 : decode cX12_voiceLine 167 = .ok (.iconst 1, 1) := by decide +kernel
theorem dX12_voiceLine_168 : decode cX12_voiceLine 168 = .ok (.iadd, 1) := by decide +kernel
theorem dX12_voiceLine_169 : decode cX12_voiceLine 169 = .ok (.invokevirtual 254, 3) := by decide +kernel
theorem dX12_voiceLine_172 : decode cX12_voiceLine 172 = .ok (.return_, 1) := by decide +kernel
theorem dX12_whole_0 : decode cX12_whole 0 = .ok (.aload_n 0, 1) := by decide +kernel
theorem dX12_whole_1 : decode cX12_whole 1 = .ok (.iconst 0, 1) := by decide +kernel
theorem dX12_whole_2 : decode cX12_whole 2 = .ok (.putfield 163, 3) := by decide +kernel
theorem dX12_whole_5 : decode cX12_whole 5 = .ok (.aload_n 0, 1) := by decide +kernel
theorem dX12_whole_6 : decode cX12_whole 6 = .ok (.iload_n 1, 1) := by decide +kernel
theorem dX12_whole_7 : decode cX12_whole 7 = .ok (.invokevirtual 335, 3) := by decide +kernel
theorem dX12_whole_10 : decode cX12_whole 10 = .ok (.ifCond .eq 22, 3) := by decide +kernel
theorem dX12_whole_13 : decode cX12_whole 13 = .ok (.iload_n 2, 1) := by decide +kernel
theorem dX12_whole_14 : decode cX12_whole 14 = .ok (.ifCond .lt 18, 3) := by decide +kernel
theorem dX12_whole_17 : decode cX12_whole 17 = .ok (.iload_n 2, 1) := by decide +kernel
theorem dX12_whole_18 : decode cX12_whole 18 = .ok (.bipush 9, 2) := by decide +kernel
theorem dX12_whole_20 : decode cX12_whole 20 = .ok (.if_icmp .gt 12, 3) := by decide +kernel
theorem dX12_whole_23 : decode cX12_whole 23 = .ok (.iload_n 3, 1) := by decide +kernel
theorem dX12_whole_24 : decode cX12_whole 24 = .ok (.ifCond .lt 8, 3) := by decide +kernel
theorem dX12_whole_27 : decode cX12_whole 27 = .ok (.iload_n 3, 1) := by decide +kernel
theorem dX12_whole_28 : decode cX12_whole 28 = .ok (.iconst 1, 1) := by decide +kernel
theorem dX12_whole_29 : decode cX12_whole 29 = .ok (.if_icmp .le 7, 3) := by decide +kernel
theorem dX12_whole_32 : decode cX12_whole 32 = .ok (.ldc2_w 504, 3) := by decide +kernel
theorem dX12_whole_35 : decode cX12_whole 35 = .ok (.lreturn, 1) := by decide +kernel
theorem dX12_whole_36 : decode cX12_whole 36 = .ok (.aload_n 0, 1) := by decide +kernel
theorem dX12_whole_37 : decode cX12_whole 37 = .ok (.iload_n 1, 1) := by decide +kernel
theorem dX12_whole_38 : decode cX12_whole 38 = .ok (.invokevirtual 338, 3) := by decide +kernel
theorem dX12_whole_41 : decode cX12_whole 41 = .ok (.ifCond .eq 6, 3) := by decide +kernel
theorem dX12_whole_44 : decode cX12_whole 44 = .ok (.iload_n 3, 1) := by decide +kernel
theorem dX12_whole_45 : decode cX12_whole 45 = .ok (.i2l, 1) := by decide +kernel
theorem dX12_whole_46 : decode cX12_whole 46 = .ok (.lreturn, 1) := by decide +kernel
theorem dX12_whole_47 : decode cX12_whole 47 = .ok (.aload_n 0, 1) := by decide +kernel
theorem dX12_whole_48 : decode cX12_whole 48 = .ok (.getfield 34, 3) := by decide +kernel
theorem dX12_whole_51 : decode cX12_whole 51 = .ok (.iload_n 1, 1) := by decide +kernel
theorem dX12_whole_52 : decode cX12_whole 52 = .ok (.baload, 1) := by decide +kernel
theorem dX12_whole_53 : decode cX12_whole 53 = .ok (.ifCond .ne 5, 3) := by decide +kernel
theorem dX12_whole_56 : decode cX12_whole 56 = .ok (.lconst 1, 1) := by decide +kernel
theorem dX12_whole_57 : decode cX12_whole 57 = .ok (.lreturn, 1) := by decide +kernel
theorem dX12_whole_58 : decode cX12_whole 58 = .ok (.lconst 1, 1) := by decide +kernel
theorem dX12_whole_59 : decode cX12_whole 59 = .ok (.lstore 4, 2) := by decide +kernel
theorem dX12_whole_61 : decode cX12_whole 61 = .ok (.lconst 1, 1) := by decide +kernel
theorem dX12_whole_62 : decode cX12_whole 62 = .ok (.lstore 6, 2) := by decide +kernel
theorem dX12_whole_64 : decode cX12_whole 64 = .ok (.iconst 0, 1) := by decide +kernel
theorem dX12_whole_65 : decode cX12_whole 65 = .ok (.istore 8, 2) := by decide +kernel
theorem dX12_whole_67 : decode cX12_whole 67 = .ok (.iload 8, 2) := by decide +kernel
theorem dX12_whole_69 : decode cX12_whole 69 = .ok (.iload_n 2, 1) := by decide +kernel
theorem dX12_whole_70 : decode cX12_whole 70 = .ok (.if_icmp .ge 33, 3) := by decide +kernel
theorem dX12_whole_73 : decode cX12_whole 73 = .ok (.lload 4, 2) := by decide +kernel
theorem dX12_whole_75 : decode cX12_whole 75 = .ok (.bipush 100, 2) := by decide +kernel
theorem dX12_whole_77 : decode cX12_whole 77 = .ok (.aload_n 0, 1) := by decide +kernel
theorem dX12_whole_78 : decode cX12_whole 78 = .ok (.iload_n 1, 1) := by decide +kernel
theorem dX12_whole_79 : decode cX12_whole 79 = .ok (.iload 8, 2) := by decide +kernel
theorem dX12_whole_81 : decode cX12_whole 81 = .ok (.invokevirtual 411, 3) := by decide +kernel
theorem dX12_whole_84 : decode cX12_whole 84 = .ok (.isub, 1) := by decide +kernel
theorem dX12_whole_85 : decode cX12_whole 85 = .ok (.i2l, 1) := by decide +kernel
theorem dX12_whole_86 : decode cX12_whole 86 = .ok (.lmul, 1) := by decide +kernel
theorem dX12_whole_87 : decode cX12_whole 87 = .ok (.lstore 4, 2) := by decide +kernel
theorem dX12_whole_89 : decode cX12_whole 89 = .ok (.lload 6, 2) := by decide +kernel
theorem dX12_whole_91 : decode cX12_whole 91 = .ok (.ldc2_w 506, 3) := by decide +kernel
theorem dX12_whole_94 : decode cX12_whole 94 = .ok (.lmul, 1) := by decide +kernel
theorem dX12_whole_95 : decode cX12_whole 95 = .ok (.lstore 6, 2) := by decide +kernel
theorem dX12_whole_97 : decode cX12_whole 97 = .ok (.iinc 8 1, 3) := by decide +kernel
theorem dX12_whole_100 : decode cX12_whole 100 = .ok (.goto (-33), 3) := by decide +kernel
theorem dX12_whole_103 : decode cX12_whole 103 = .ok (.lload 4, 2) := by decide +kernel
theorem dX12_whole_105 : decode cX12_whole 105 = .ok (.lload 6, 2) := by decide +kernel
theorem dX12_whole_107 : decode cX12_whole 107 = .ok (.invokestatic 482, 3) := by decide +kernel
theorem dX12_whole_110 : decode cX12_whole 110 = .ok (.lstore 8, 2) := by decide +kernel
theorem dX12_whole_112 : decode cX12_whole 112 = .ok (.iload_n 3, 1) := by decide +kernel
theorem dX12_whole_113 : decode cX12_whole 113 = .ok (.ifCond .ne 11, 3) := by decide +kernel
theorem dX12_whole_116 : decode cX12_whole 116 = .ok (.lload 4, 2) := by decide +kernel
theorem dX12_whole_118 : decode cX12_whole 118 = .ok (.lload 8, 2) := by decide +kernel
theorem dX12_whole_120 : decode cX12_whole 120 = .ok (.ldiv, 1) := by decide +kernel
