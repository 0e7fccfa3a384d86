set_option maxRecDepth 20000 in
theorem xw_oc : Cond.code Lib.objectInit ⟨#[0xb1]⟩ 1 none ∈ xgt := wm_1 35 rfl rfl
set_option maxRecDepth 20000 in
theorem xw_0 : Cond.methodLink RX11 3 Lib.objectInit ∈ xgt := wm_1 33 rfl rfl
set_option maxRecDepth 20000 in
theorem xw_1 : Cond.instanceMethod Lib.objectInit ∈ xgt := wm_1 34 rfl rfl
set_option maxRecDepth 20000 in
theorem xw_2 : Cond.arrayClass .byte ∈ xgt := wm_1 61 rfl rfl
set_option maxRecDepth 20000 in
theorem xw_3 : Cond.fieldLink RX11 9 (TX11 0).1 (TX11 0).2.1 (TX11 0).2.2.1 ∈ xgt := wm_3 76 rfl rfl
set_option maxRecDepth 20000 in
theorem xw_4 : Cond.classLink RX11 13 RX4 ∈ xgt := wm_1 36 rfl rfl
set_option maxRecDepth 20000 in
theorem xw_5 : Cond.instantiable RX4 19 ∈ xgt := wm_1 37 rfl rfl
set_option maxRecDepth 20000 in
theorem xw_6 : Cond.initialized RX4 ∈ xgt := wm_1 2 rfl rfl
set_option maxRecDepth 20000 in
theorem xw_7 : Cond.instanceMethod yX4_init ∈ xgt := wm_1 39 rfl rfl
set_option maxRecDepth 20000 in
theorem xw_8 : Cond.fieldLink RX11 16 (TX11 1).1 (TX11 1).2.1 (TX11 1).2.2.1 ∈ xgt := wm_3 77 rfl rfl
set_option maxRecDepth 20000 in
theorem xw_9 : Cond.fieldLink RX11 20 (TX11 2).1 (TX11 2).2.1 (TX11 2).2.2.1 ∈ xgt := wm_3 78 rfl rfl
set_option maxRecDepth 20000 in
theorem xw_10 : Cond.classLink RX11 23 RX8 ∈ xgt := wm_1 215 rfl rfl
set_option maxRecDepth 20000 in
theorem xw_11 : Cond.instantiable RX8 4 ∈ xgt := wm_1 216 rfl rfl
set_option maxRecDepth 20000 in
theorem xw_12 : Cond.initialized RX8 ∈ xgt := wm_1 5 rfl rfl
set_option maxRecDepth 20000 in
theorem xw_13 : Cond.classLink RX11 25 RX9 ∈ xgt := wm_1 217 rfl rfl
set_option maxRecDepth 20000 in
theorem xw_14 : Cond.instantiable RX9 9 ∈ xgt := wm_1 218 rfl rfl
set_option maxRecDepth 20000 in
theorem xw_15 : Cond.initialized RX9 ∈ xgt := wm_1 6 rfl rfl
set_option maxRecDepth 20000 in
theorem xw_16 : Cond.instanceMethod yX9_init ∈ xgt := wm_1 220 rfl rfl
set_option maxRecDepth 20000 in
theorem xw_17 : Cond.methodLink RX11 27 yX9_init ∈ xgt := wm_1 219 rfl rfl
set_option maxRecDepth 20000 in
theorem xw_18 : Cond.instanceMethod yX8_init ∈ xgt := wm_2 72 rfl rfl
set_option maxRecDepth 20000 in
theorem xw_19 : Cond.methodLink RX11 30 yX8_init ∈ xgt := wm_2 71 rfl rfl
set_option maxRecDepth 20000 in
theorem xw_20 : Cond.fieldLink RX11 33 (TX11 3).1 (TX11 3).2.1 (TX11 3).2.2.1 ∈ xgt := wm_3 79 rfl rfl
set_option maxRecDepth 20000 in
theorem xw_21 : Cond.classLink RX11 37 RX10 ∈ xgt := wm_2 89 rfl rfl
set_option maxRecDepth 20000 in
theorem xw_22 : Cond.instantiable RX10 13 ∈ xgt := wm_2 90 rfl rfl
set_option maxRecDepth 20000 in
theorem xw_23 : Cond.initialized RX10 ∈ xgt := wm_1 11 rfl rfl
set_option maxRecDepth 20000 in
theorem xw_24 : Cond.instanceMethod yX10_init ∈ xgt := wm_2 92 rfl rfl
set_option maxRecDepth 20000 in
theorem xw_25 : Cond.fieldLink RX11 40 (TX11 4).1 (TX11 4).2.1 (TX11 4).2.2.1 ∈ xgt := wm_3 80 rfl rfl
set_option maxRecDepth 20000 in
theorem xw_26 : Cond.fieldLink RX11 44 (TX11 5).1 (TX11 5).2.1 (TX11 5).2.2.1 ∈ xgt := wm_3 81 rfl rfl
set_option maxRecDepth 20000 in
theorem xw_27 : Cond.classLink RX11 47 RX3 ∈ xgt := wm_2 151 rfl rfl
set_option maxRecDepth 20000 in
theorem xw_28 : Cond.instantiable RX3 2 ∈ xgt := wm_2 152 rfl rfl
set_option maxRecDepth 20000 in
theorem xw_29 : Cond.initialized RX3 ∈ xgt := wm_1 12 rfl rfl
set_option maxRecDepth 20000 in
theorem xw_30 : Cond.instanceMethod yX3_init ∈ xgt := wm_2 154 rfl rfl
set_option maxRecDepth 20000 in
theorem xw_31 : Cond.fieldLink RX11 50 (TX11 6).1 (TX11 6).2.1 (TX11 6).2.2.1 ∈ xgt := wm_3 82 rfl rfl
set_option maxRecDepth 20000 in
theorem xw_32 : Cond.classLink RX11 54 RX5 ∈ xgt := wm_2 165 rfl rfl
set_option maxRecDepth 20000 in
theorem xw_33 : Cond.instantiable RX5 6 ∈ xgt := wm_2 166 rfl rfl
set_option maxRecDepth 20000 in
theorem xw_34 : Cond.initialized RX5 ∈ xgt := wm_1 13 rfl rfl
set_option maxRecDepth 20000 in
theorem xw_35 : Cond.instanceMethod yX5_init ∈ xgt := wm_2 168 rfl rfl
set_option maxRecDepth 20000 in
theorem xw_36 : Cond.methodLink RX11 56 yX5_init ∈ xgt := wm_2 167 rfl rfl
set_option maxRecDepth 20000 in
theorem xw_37 : Cond.fieldLink RX11 59 (TX11 7).1 (TX11 7).2.1 (TX11 7).2.2.1 ∈ xgt := wm_3 83 rfl rfl
set_option maxRecDepth 20000 in
theorem xw_38 : Cond.classLink RX11 63 RX1 ∈ xgt := wm_2 191 rfl rfl
set_option maxRecDepth 20000 in
theorem xw_39 : Cond.instantiable RX1 11 ∈ xgt := wm_2 192 rfl rfl
set_option maxRecDepth 20000 in
theorem xw_40 : Cond.initialized RX1 ∈ xgt := wm_1 14 rfl rfl
set_option maxRecDepth 20000 in
theorem xw_41 : Cond.instanceMethod yX1_init ∈ xgt := wm_2 194 rfl rfl
set_option maxRecDepth 20000 in
theorem xw_42 : Cond.methodLink RX11 65 yX1_init ∈ xgt := wm_2 193 rfl rfl
set_option maxRecDepth 20000 in
theorem xw_43 : Cond.fieldLink RX11 68 (TX11 8).1 (TX11 8).2.1 (TX11 8).2.2.1 ∈ xgt := wm_3 84 rfl rfl
set_option maxRecDepth 20000 in
theorem xw_44 : Cond.classLink RX11 72 RX7 ∈ xgt := wm_2 235 rfl rfl
set_option maxRecDepth 20000 in
theorem xw_45 : Cond.instantiable RX7 6 ∈ xgt := wm_2 236 rfl rfl
set_option maxRecDepth 20000 in
theorem xw_46 : Cond.initialized RX7 ∈ xgt := wm_1 15 rfl rfl
set_option maxRecDepth 20000 in
theorem xw_47 : Cond.instanceMethod yX7_init ∈ xgt := wm_2 238 rfl rfl
set_option maxRecDepth 20000 in
theorem xw_48 : Cond.methodLink RX11 74 yX7_init ∈ xgt := wm_2 237 rfl rfl
set_option maxRecDepth 20000 in
theorem xw_49 : Cond.fieldLink RX11 75 (TX11 9).1 (TX11 9).2.1 (TX11 9).2.2.1 ∈ xgt := wm_3 85 rfl rfl
set_option maxRecDepth 20000 in
theorem xw_50 : Cond.classLink RX11 79 RX0 ∈ xgt := wm_3 23 rfl rfl
set_option maxRecDepth 20000 in
theorem xw_51 : Cond.instantiable RX0 10 ∈ xgt := wm_3 24 rfl rfl
set_option maxRecDepth 20000 in
theorem xw_52 : Cond.initialized RX0 ∈ xgt := wm_1 16 rfl rfl
set_option maxRecDepth 20000 in
theorem xw_53 : Cond.instanceMethod yX0_init ∈ xgt := wm_3 26 rfl rfl
set_option maxRecDepth 20000 in
theorem xw_54 : Cond.methodLink RX11 81 yX0_init ∈ xgt := wm_3 25 rfl rfl
set_option maxRecDepth 20000 in
theorem xw_55 : Cond.fieldLink RX11 82 (TX11 10).1 (TX11 10).2.1 (TX11 10).2.2.1 ∈ xgt := wm_3 86 rfl rfl
set_option maxRecDepth 20000 in
theorem xw_56 : Cond.fieldLink RX11 86 (TX11 11).1 (TX11 11).2.1 (TX11 11).2.2.1 ∈ xgt := wm_3 87 rfl rfl
set_option maxRecDepth 20000 in
theorem xw_57 : Cond.fieldLink RX11 90 (TX11 12).1 (TX11 12).2.1 (TX11 12).2.2.1 ∈ xgt := wm_3 88 rfl rfl
set_option maxRecDepth 20000 in
theorem xw_58 : Cond.fieldLink RX11 93 (TX11 13).1 (TX11 13).2.1 (TX11 13).2.2.1 ∈ xgt := wm_3 89 rfl rfl
set_option maxRecDepth 20000 in
theorem xw_59 : Cond.fieldLink RX11 96 (TX11 14).1 (TX11 14).2.1 (TX11 14).2.2.1 ∈ xgt := wm_3 90 rfl rfl
set_option maxRecDepth 20000 in
theorem xw_60 : Cond.instanceMethod yX10_begin ∈ xgt := wm_3 63 rfl rfl
set_option maxRecDepth 20000 in
theorem xw_61 : Cond.selects yX10_begin.cls yX10_begin yX10_begin ∈ xgt := wm_3 64 rfl rfl
set_option maxRecDepth 20000 in
theorem xw_62 : Cond.methodLink RX11 100 yX10_begin ∈ xgt := wm_3 62 rfl rfl
set_option maxRecDepth 20000 in
theorem xw_63 : Cond.code yX11_init cX11_init 1 none ∈ xgt := wm_1 32 rfl rfl
set_option maxRecDepth 20000 in
theorem xw_64 : Cond.initialized RX11 ∈ xgt := wm_1 1 rfl rfl
set_option maxRecDepth 20000 in
theorem xw_65 : Cond.instanceMethod yX10_take ∈ xgt := wm_5 204 rfl rfl
set_option maxRecDepth 20000 in
theorem xw_66 : Cond.selects yX10_take.cls yX10_take yX10_take ∈ xgt := wm_5 205 rfl rfl
set_option maxRecDepth 20000 in
theorem xw_67 : Cond.methodLink RX11 354 yX10_take ∈ xgt := wm_5 203 rfl rfl
set_option maxRecDepth 20000 in
theorem xw_68 : Cond.fieldLink RX11 124 (TX1 10).1 (TX1 10).2.1 (TX1 10).2.2.1 ∈ xgt := wm_2 211 rfl rfl
set_option maxRecDepth 20000 in
theorem xw_69 : Cond.fieldLink RX11 227 (TX10 7).1 (TX10 7).2.1 (TX10 7).2.2.1 ∈ xgt := wm_2 112 rfl rfl
set_option maxRecDepth 20000 in
theorem xw_70 : Cond.code yX11_back cX11_back 1 (some .int) ∈ xgt := wm_5 210 rfl rfl
set_option maxRecDepth 20000 in
theorem xw_71 : Cond.fieldLink RX11 139 (TX4 2).1 (TX4 2).2.1 (TX4 2).2.2.1 ∈ xgt := wm_1 118 rfl rfl
set_option maxRecDepth 20000 in
theorem xw_72 : Cond.instanceMethod yX6_holds ∈ xgt := wm_4 76 rfl rfl
set_option maxRecDepth 20000 in
theorem xw_73 : Cond.selects yX6_holds.cls yX6_holds yX6_holds ∈ xgt := wm_4 77 rfl rfl
set_option maxRecDepth 20000 in
theorem xw_74 : Cond.methodLink RX11 145 yX6_holds ∈ xgt := wm_4 75 rfl rfl
set_option maxRecDepth 20000 in
theorem xw_75 : Cond.fieldLink RX11 192 (TX4 11).1 (TX4 11).2.1 (TX4 11).2.2.1 ∈ xgt := wm_1 153 rfl rfl
set_option maxRecDepth 20000 in
theorem xw_76 : Cond.methodLink RX11 202 yX11_slotOf ∈ xgt := wm_4 92 rfl rfl
set_option maxRecDepth 20000 in
theorem xw_77 : Cond.static yX11_slotOf ∈ xgt := wm_3 227 rfl rfl
set_option maxRecDepth 20000 in
theorem xw_78 : Cond.fieldLink RX11 233 (TX10 3).1 (TX10 3).2.1 (TX10 3).2.2.1 ∈ xgt := wm_2 103 rfl rfl
set_option maxRecDepth 20000 in
theorem xw_79 : Cond.instanceMethod yX5_soundBits ∈ xgt := wm_4 111 rfl rfl
set_option maxRecDepth 20000 in
theorem xw_80 : Cond.selects yX5_soundBits.cls yX5_soundBits yX5_soundBits ∈ xgt := wm_4 112 rfl rfl
set_option maxRecDepth 20000 in
theorem xw_81 : Cond.methodLink RX11 213 yX5_soundBits ∈ xgt := wm_4 187 rfl rfl
set_option maxRecDepth 20000 in
theorem xw_82 : Cond.code yX11_bar cX11_bar 7 (some .int) ∈ xgt := wm_4 235 rfl rfl
set_option maxRecDepth 20000 in
theorem xw_83 : Cond.instanceMethod yX1_weigh ∈ xgt := wm_5 27 rfl rfl
set_option maxRecDepth 20000 in
theorem xw_84 : Cond.selects yX1_weigh.cls yX1_weigh yX1_weigh ∈ xgt := wm_5 28 rfl rfl
set_option maxRecDepth 20000 in
theorem xw_85 : Cond.methodLink RX11 267 yX1_weigh ∈ xgt := wm_5 26 rfl rfl
set_option maxRecDepth 20000 in
theorem xw_86 : Cond.instanceMethod yX1_mostNotes ∈ xgt := wm_5 58 rfl rfl
set_option maxRecDepth 20000 in
theorem xw_87 : Cond.selects yX1_mostNotes.cls yX1_mostNotes yX1_mostNotes ∈ xgt := wm_5 59 rfl rfl
set_option maxRecDepth 20000 in
theorem xw_88 : Cond.methodLink RX11 270 yX1_mostNotes ∈ xgt := wm_5 57 rfl rfl
set_option maxRecDepth 20000 in
theorem xw_89 : Cond.instanceMethod yX1_crownsFor ∈ xgt := wm_5 62 rfl rfl
set_option maxRecDepth 20000 in
theorem xw_90 : Cond.selects yX1_crownsFor.cls yX1_crownsFor yX1_crownsFor ∈ xgt := wm_5 63 rfl rfl
set_option maxRecDepth 20000 in
theorem xw_91 : Cond.methodLink RX11 273 yX1_crownsFor ∈ xgt := wm_5 61 rfl rfl
set_option maxRecDepth 20000 in
theorem xw_92 : Cond.code yX11_best cX11_best 4 (some .int) ∈ xgt := wm_5 25 rfl rfl
set_option maxRecDepth 20000 in
theorem xw_93 : Cond.fieldLink RX11 142 (TX4 3).1 (TX4 3).2.1 (TX4 3).2.2.1 ∈ xgt := wm_1 122 rfl rfl
set_option maxRecDepth 20000 in
theorem xw_94 : Cond.fieldLink RX11 221 (TX10 2).1 (TX10 2).2.1 (TX10 2).2.2.1 ∈ xgt := wm_2 101 rfl rfl
set_option maxRecDepth 20000 in
theorem xw_95 : Cond.instanceMethod yX5_bidFor ∈ xgt := wm_4 194 rfl rfl
set_option maxRecDepth 20000 in
theorem xw_96 : Cond.selects yX5_bidFor.cls yX5_bidFor yX5_bidFor ∈ xgt := wm_4 195 rfl rfl
set_option maxRecDepth 20000 in
theorem xw_97 : Cond.methodLink RX11 224 yX5_bidFor ∈ xgt := wm_4 193 rfl rfl
set_option maxRecDepth 20000 in
theorem xw_98 : Cond.code yX11_bids cX11_bids 3 (some .int) ∈ xgt := wm_4 192 rfl rfl
set_option maxRecDepth 20000 in
theorem xw_99 : Cond.instanceMethod yX4_hasPart ∈ xgt := wm_4 88 rfl rfl
set_option maxRecDepth 20000 in
theorem xw_100 : Cond.selects yX4_hasPart.cls yX4_hasPart yX4_hasPart ∈ xgt := wm_4 89 rfl rfl
set_option maxRecDepth 20000 in
theorem xw_101 : Cond.methodLink RX11 195 yX4_hasPart ∈ xgt := wm_4 87 rfl rfl
set_option maxRecDepth 20000 in
theorem xw_102 : Cond.instanceMethod yX1_choose ∈ xgt := wm_5 70 rfl rfl
set_option maxRecDepth 20000 in
theorem xw_103 : Cond.selects yX1_choose.cls yX1_choose yX1_choose ∈ xgt := wm_5 71 rfl rfl
set_option maxRecDepth 20000 in
theorem xw_104 : Cond.methodLink RX11 276 yX1_choose ∈ xgt := wm_5 69 rfl rfl
set_option maxRecDepth 20000 in
theorem xw_105 : Cond.fieldLink RX11 279 (TX1 7).1 (TX1 7).2.1 (TX1 7).2.2.1 ∈ xgt := wm_2 207 rfl rfl
set_option maxRecDepth 20000 in
theorem xw_106 : Cond.code yX11_chosen cX11_chosen 5 (some .int) ∈ xgt := wm_5 68 rfl rfl
set_option maxRecDepth 20000 in
theorem xw_107 : Cond.fieldLink RX11 136 (TX4 1).1 (TX4 1).2.1 (TX4 1).2.2.1 ∈ xgt := wm_1 112 rfl rfl
set_option maxRecDepth 20000 in
theorem xw_108 : Cond.fieldLink RX11 292 (TX6 1).1 (TX6 1).2.1 (TX6 1).2.2.1 ∈ xgt := wm_1 55 rfl rfl
set_option maxRecDepth 20000 in
theorem xw_109 : Cond.fieldLink RX11 163 (TX4 8).1 (TX4 8).2.1 (TX4 8).2.2.1 ∈ xgt := wm_1 141 rfl rfl
set_option maxRecDepth 20000 in
theorem xw_110 : Cond.fieldLink RX11 169 (TX10 1).1 (TX10 1).2.1 (TX10 1).2.2.1 ∈ xgt := wm_2 98 rfl rfl
set_option maxRecDepth 20000 in
theorem xw_111 : Cond.code yX11_claimsOn cX11_claimsOn 4 (some .int) ∈ xgt := wm_4 82 rfl rfl
set_option maxRecDepth 20000 in
theorem xw_112 : Cond.fieldLink RX11 127 (TX4 0).1 (TX4 0).2.1 (TX4 0).2.2.1 ∈ xgt := wm_1 108 rfl rfl
set_option maxRecDepth 20000 in
theorem xw_113 : Cond.fieldLink RX11 357 (TX4 15).1 (TX4 15).2.1 (TX4 15).2.2.1 ∈ xgt := wm_1 167 rfl rfl
set_option maxRecDepth 20000 in
theorem xw_114 : Cond.fieldLink RX11 361 (TX2 4).1 (TX2 4).2.1 (TX2 4).2.2.1 ∈ xgt := wm_1 78 rfl rfl
set_option maxRecDepth 20000 in
theorem xw_115 : Cond.fieldLink RX11 239 (TX10 8).1 (TX10 8).2.1 (TX10 8).2.2.1 ∈ xgt := wm_2 114 rfl rfl
set_option maxRecDepth 20000 in
theorem xw_116 : Cond.fieldLink RX11 246 (TX10 6).1 (TX10 6).2.1 (TX10 6).2.2.1 ∈ xgt := wm_2 109 rfl rfl
set_option maxRecDepth 20000 in
theorem xw_117 : Cond.fieldLink RX11 121 (TX3 1).1 (TX3 1).2.1 (TX3 1).2.2.1 ∈ xgt := wm_2 159 rfl rfl
set_option maxRecDepth 20000 in
theorem xw_118 : Cond.instanceMethod yX11_knownCount ∈ xgt := wm_5 123 rfl rfl
set_option maxRecDepth 20000 in
theorem xw_119 : Cond.selects yX11_knownCount.cls yX11_knownCount yX11_knownCount ∈ xgt := ws_3 (q := (yX11_knownCount, 15)) 9 rfl rfl
set_option maxRecDepth 20000 in
theorem xw_120 : Cond.methodLink RX11 302 yX11_knownCount ∈ xgt := wm_5 121 rfl rfl
set_option maxRecDepth 20000 in
theorem xw_121 : Cond.fieldLink RX11 325 (TX10 10).1 (TX10 10).2.1 (TX10 10).2.2.1 ∈ xgt := wm_2 120 rfl rfl
set_option maxRecDepth 20000 in
theorem xw_122 : Cond.methodLink RX11 216 yJ6_bitCount_0f7a4 ∈ xgt := wm_4 188 rfl rfl
set_option maxRecDepth 20000 in
theorem xw_123 : Cond.static yJ6_bitCount_0f7a4 ∈ xgt := wm_4 124 rfl rfl
set_option maxRecDepth 20000 in
theorem xw_124 : Cond.instanceMethod yX10_allCoin ∈ xgt := wm_5 216 rfl rfl
set_option maxRecDepth 20000 in
theorem xw_125 : Cond.selects yX10_allCoin.cls yX10_allCoin yX10_allCoin ∈ xgt := wm_5 217 rfl rfl
set_option maxRecDepth 20000 in
theorem xw_126 : Cond.methodLink RX11 364 yX10_allCoin ∈ xgt := wm_5 215 rfl rfl
set_option maxRecDepth 20000 in
theorem xw_127 : Cond.code yX11_count cX11_count 2 (some .int) ∈ xgt := wm_5 214 rfl rfl
set_option maxRecDepth 20000 in
theorem xw_128 : Cond.instanceMethod yX4_isBoy ∈ xgt := wm_5 11 rfl rfl
set_option maxRecDepth 20000 in
theorem xw_129 : Cond.selects yX4_isBoy.cls yX4_isBoy yX4_isBoy ∈ xgt := wm_5 12 rfl rfl
set_option maxRecDepth 20000 in
theorem xw_130 : Cond.methodLink RX11 175 yX4_isBoy ∈ xgt := wm_5 10 rfl rfl
set_option maxRecDepth 20000 in
theorem xw_131 : Cond.instanceMethod yX10_isCracked ∈ xgt := wm_4 115 rfl rfl
set_option maxRecDepth 20000 in
theorem xw_132 : Cond.selects yX10_isCracked.cls yX10_isCracked yX10_isCracked ∈ xgt := wm_4 116 rfl rfl
set_option maxRecDepth 20000 in
theorem xw_133 : Cond.methodLink RX11 172 yX10_isCracked ∈ xgt := wm_4 211 rfl rfl
set_option maxRecDepth 20000 in
theorem xw_134 : Cond.instanceMethod yX10_nextNumber ∈ xgt := wm_5 15 rfl rfl
set_option maxRecDepth 20000 in
theorem xw_135 : Cond.selects yX10_nextNumber.cls yX10_nextNumber yX10_nextNumber ∈ xgt := wm_5 16 rfl rfl
set_option maxRecDepth 20000 in
theorem xw_136 : Cond.methodLink RX11 370 yX10_nextNumber ∈ xgt := wm_5 14 rfl rfl
set_option maxRecDepth 20000 in
theorem xw_137 : Cond.instanceMethod yX5_crackFor ∈ xgt := wm_4 204 rfl rfl
set_option maxRecDepth 20000 in
theorem xw_138 : Cond.selects yX5_crackFor.cls yX5_crackFor yX5_crackFor ∈ xgt := wm_4 205 rfl rfl
set_option maxRecDepth 20000 in
theorem xw_139 : Cond.methodLink RX11 230 yX5_crackFor ∈ xgt := wm_4 203 rfl rfl
set_option maxRecDepth 20000 in
theorem xw_140 : Cond.code yX11_crackBoys cX11_crackBoys 3 none ∈ xgt := wm_5 9 rfl rfl
set_option maxRecDepth 20000 in
theorem xw_141 : Cond.code yX11_cracks cX11_cracks 2 (some .int) ∈ xgt := wm_4 202 rfl rfl
set_option maxRecDepth 20000 in
theorem xw_142 : Cond.instanceMethod yX5_dueFor ∈ xgt := wm_4 106 rfl rfl
set_option maxRecDepth 20000 in
theorem xw_143 : Cond.selects yX5_dueFor.cls yX5_dueFor yX5_dueFor ∈ xgt := wm_4 107 rfl rfl
set_option maxRecDepth 20000 in
theorem xw_144 : Cond.methodLink RX11 209 yX5_dueFor ∈ xgt := wm_4 105 rfl rfl
set_option maxRecDepth 20000 in
theorem xw_145 : Cond.code yX11_due cX11_due 4 (some .int) ∈ xgt := wm_4 104 rfl rfl
set_option maxRecDepth 20000 in
theorem xw_146 : Cond.instanceMethod yX4_hasVerses ∈ xgt := wm_5 83 rfl rfl
set_option maxRecDepth 20000 in
theorem xw_147 : Cond.selects yX4_hasVerses.cls yX4_hasVerses yX4_hasVerses ∈ xgt := wm_5 84 rfl rfl
set_option maxRecDepth 20000 in
theorem xw_148 : Cond.methodLink RX11 280 yX4_hasVerses ∈ xgt := wm_5 82 rfl rfl
set_option maxRecDepth 20000 in
theorem xw_149 : Cond.instanceMethod yX7_hold ∈ xgt := wm_5 87 rfl rfl
set_option maxRecDepth 20000 in
theorem xw_150 : Cond.selects yX7_hold.cls yX7_hold yX7_hold ∈ xgt := wm_5 88 rfl rfl
set_option maxRecDepth 20000 in
theorem xw_151 : Cond.methodLink RX11 283 yX7_hold ∈ xgt := wm_5 86 rfl rfl
set_option maxRecDepth 20000 in
theorem xw_152 : Cond.fieldLink RX11 293 (TX7 5).1 (TX7 5).2.1 (TX7 5).2.2.1 ∈ xgt := wm_3 9 rfl rfl
set_option maxRecDepth 20000 in
theorem xw_153 : Cond.code yX11_easter cX11_easter 4 (some .int) ∈ xgt := wm_5 100 rfl rfl
set_option maxRecDepth 20000 in
theorem xw_154 : Cond.instanceMethod yX11_isRound ∈ xgt := wm_5 158 rfl rfl
set_option maxRecDepth 20000 in
theorem xw_155 : Cond.selects yX11_isRound.cls yX11_isRound yX11_isRound ∈ xgt := ws_3 (q := (yX11_isRound, 15)) 11 rfl rfl
set_option maxRecDepth 20000 in
theorem xw_156 : Cond.methodLink RX11 331 yX11_isRound ∈ xgt := wm_5 156 rfl rfl
set_option maxRecDepth 20000 in
theorem xw_157 : Cond.instanceMethod yX0_fewestGaps ∈ xgt := wm_5 161 rfl rfl
set_option maxRecDepth 20000 in
theorem xw_158 : Cond.selects yX0_fewestGaps.cls yX0_fewestGaps yX0_fewestGaps ∈ xgt := wm_5 162 rfl rfl
set_option maxRecDepth 20000 in
theorem xw_159 : Cond.methodLink RX11 335 yX0_fewestGaps ∈ xgt := wm_5 160 rfl rfl
set_option maxRecDepth 20000 in
theorem xw_160 : Cond.fieldLink RX11 338 (TX0 5).1 (TX0 5).2.1 (TX0 5).2.2.1 ∈ xgt := wm_3 36 rfl rfl
set_option maxRecDepth 20000 in
theorem xw_161 : Cond.code yX11_entry cX11_entry 7 (some .int) ∈ xgt := wm_5 180 rfl rfl
set_option maxRecDepth 20000 in
theorem xw_162 : Cond.code yX11_fault cX11_fault 2 (some .int) ∈ xgt := wm_4 65 rfl rfl
set_option maxRecDepth 20000 in
theorem xw_163 : Cond.instanceMethod yX11_tapeNumber ∈ xgt := wm_3 128 rfl rfl
set_option maxRecDepth 20000 in
theorem xw_164 : Cond.selects yX11_tapeNumber.cls yX11_tapeNumber yX11_tapeNumber ∈ xgt := ws_1 (q := (yX11_tapeNumber, 15)) 1 rfl rfl
set_option maxRecDepth 20000 in
theorem xw_165 : Cond.methodLink RX11 104 yX11_tapeNumber ∈ xgt := wm_3 126 rfl rfl
set_option maxRecDepth 20000 in
theorem xw_166 : Cond.code yX11_feed cX11_feed 6 (some .int) ∈ xgt := wm_3 125 rfl rfl
set_option maxRecDepth 20000 in
theorem xw_167 : Cond.instanceMethod yX3_pitches ∈ xgt := wm_5 126 rfl rfl
set_option maxRecDepth 20000 in
theorem xw_168 : Cond.selects yX3_pitches.cls yX3_pitches yX3_pitches ∈ xgt := wm_5 127 rfl rfl
set_option maxRecDepth 20000 in
theorem xw_169 : Cond.methodLink RX11 306 yX3_pitches ∈ xgt := wm_5 125 rfl rfl
set_option maxRecDepth 20000 in
theorem xw_170 : Cond.instanceMethod yX11_reachOf ∈ xgt := wm_5 150 rfl rfl
set_option maxRecDepth 20000 in
theorem xw_171 : Cond.selects yX11_reachOf.cls yX11_reachOf yX11_reachOf ∈ xgt := ws_3 (q := (yX11_reachOf, 15)) 10 rfl rfl
set_option maxRecDepth 20000 in
theorem xw_172 : Cond.methodLink RX11 328 yX11_reachOf ∈ xgt := wm_5 148 rfl rfl
set_option maxRecDepth 20000 in
theorem xw_173 : Cond.constantLong RX11 313 (lN 18446744073709551615) ∈ xgt := wm_5 135 rfl rfl
set_option maxRecDepth 20000 in
theorem xw_174 : Cond.code yX11_gang cX11_gang 7 (some .int) ∈ xgt := wm_5 147 rfl rfl
set_option maxRecDepth 20000 in
theorem xw_175 : Cond.instanceMethod yX3_add ∈ xgt := wm_5 106 rfl rfl
set_option maxRecDepth 20000 in
theorem xw_176 : Cond.selects yX3_add.cls yX3_add yX3_add ∈ xgt := wm_5 107 rfl rfl
set_option maxRecDepth 20000 in
theorem xw_177 : Cond.methodLink RX11 296 yX3_add ∈ xgt := wm_5 105 rfl rfl
set_option maxRecDepth 20000 in
theorem xw_178 : Cond.code yX11_hum cX11_hum 2 (some .int) ∈ xgt := wm_5 104 rfl rfl
set_option maxRecDepth 20000 in
theorem xw_179 : Cond.code yX11_isRound cX11_isRound 5 (some .boolean) ∈ xgt := wm_5 159 rfl rfl
set_option maxRecDepth 20000 in
theorem xw_180 : Cond.code yX11_keep cX11_keep 1 (some .int) ∈ xgt := wm_5 202 rfl rfl
set_option maxRecDepth 20000 in
theorem xw_181 : Cond.fieldLink RX11 299 (TX10 11).1 (TX10 11).2.1 (TX10 11).2.2.1 ∈ xgt := wm_2 122 rfl rfl
set_option maxRecDepth 20000 in
theorem xw_182 : Cond.code yX11_known cX11_known 2 (some .boolean) ∈ xgt := wm_5 116 rfl rfl
set_option maxRecDepth 20000 in
theorem xw_183 : Cond.code yX11_knownCount cX11_knownCount 1 (some .int) ∈ xgt := wm_5 124 rfl rfl
set_option maxRecDepth 20000 in
theorem xw_184 : Cond.code yX11_leastTerm cX11_leastTerm 12 (some .long) ∈ xgt := wm_5 143 rfl rfl
set_option maxRecDepth 20000 in
theorem xw_185 : Cond.instanceMethod yX6_find ∈ xgt := wm_3 198 rfl rfl
set_option maxRecDepth 20000 in
theorem xw_186 : Cond.selects yX6_find.cls yX6_find yX6_find ∈ xgt := wm_3 199 rfl rfl
set_option maxRecDepth 20000 in
theorem xw_187 : Cond.methodLink RX11 131 yX6_find ∈ xgt := wm_4 70 rfl rfl
set_option maxRecDepth 20000 in
theorem xw_188 : Cond.code yX11_named cX11_named 3 (some .int) ∈ xgt := wm_4 69 rfl rfl
set_option maxRecDepth 20000 in
theorem xw_189 : Cond.instanceMethod yX11_thieves ∈ xgt := wm_5 118 rfl rfl
set_option maxRecDepth 20000 in
theorem xw_190 : Cond.selects yX11_thieves.cls yX11_thieves yX11_thieves ∈ xgt := wm_5 119 rfl rfl
set_option maxRecDepth 20000 in
theorem xw_191 : Cond.methodLink RX11 315 yX11_thieves ∈ xgt := wm_5 140 rfl rfl
set_option maxRecDepth 20000 in
theorem xw_192 : Cond.fieldLink RX11 318 (TX4 10).1 (TX4 10).2.1 (TX4 10).2.2.1 ∈ xgt := wm_1 148 rfl rfl
set_option maxRecDepth 20000 in
theorem xw_193 : Cond.methodLink RX11 321 yX11_leastTerm ∈ xgt := wm_5 141 rfl rfl
set_option maxRecDepth 20000 in
theorem xw_194 : Cond.static yX11_leastTerm ∈ xgt := wm_5 142 rfl rfl
set_option maxRecDepth 20000 in
theorem xw_195 : Cond.code yX11_odds cX11_odds 6 (some .int) ∈ xgt := wm_5 139 rfl rfl
set_option maxRecDepth 20000 in
theorem xw_196 : Cond.fieldLink RX11 186 (TX10 0).1 (TX10 0).2.1 (TX10 0).2.2.1 ∈ xgt := wm_2 96 rfl rfl
set_option maxRecDepth 20000 in
theorem xw_197 : Cond.methodLink RX11 344 yJ9_min_7cf53 ∈ xgt := wm_5 189 rfl rfl
set_option maxRecDepth 20000 in
theorem xw_198 : Cond.static yJ9_min_7cf53 ∈ xgt := wm_3 152 rfl rfl
set_option maxRecDepth 20000 in
theorem xw_199 : Cond.fieldLink RX11 349 (TX10 9).1 (TX10 9).2.1 (TX10 9).2.2.1 ∈ xgt := wm_2 116 rfl rfl
set_option maxRecDepth 20000 in
theorem xw_200 : Cond.code yX11_pay cX11_pay 5 (some .int) ∈ xgt := wm_5 193 rfl rfl
set_option maxRecDepth 20000 in
theorem xw_201 : Cond.fieldLink RX11 199 (TX4 12).1 (TX4 12).2.1 (TX4 12).2.2.1 ∈ xgt := wm_1 158 rfl rfl
set_option maxRecDepth 20000 in
theorem xw_202 : Cond.instanceMethod yX4_pitchAt ∈ xgt := wm_4 98 rfl rfl
set_option maxRecDepth 20000 in
theorem xw_203 : Cond.selects yX4_pitchAt.cls yX4_pitchAt yX4_pitchAt ∈ xgt := wm_4 99 rfl rfl
set_option maxRecDepth 20000 in
theorem xw_204 : Cond.methodLink RX11 206 yX4_pitchAt ∈ xgt := wm_4 97 rfl rfl
set_option maxRecDepth 20000 in
theorem xw_205 : Cond.code yX11_pitch cX11_pitch 5 (some .int) ∈ xgt := wm_4 96 rfl rfl
set_option maxRecDepth 20000 in
theorem xw_206 : Cond.instanceMethod yX4_reach ∈ xgt := wm_5 131 rfl rfl
set_option maxRecDepth 20000 in
theorem xw_207 : Cond.selects yX4_reach.cls yX4_reach yX4_reach ∈ xgt := wm_5 132 rfl rfl
set_option maxRecDepth 20000 in
theorem xw_208 : Cond.methodLink RX11 310 yX4_reach ∈ xgt := wm_5 130 rfl rfl
set_option maxRecDepth 20000 in
theorem xw_209 : Cond.code yX11_reachOf cX11_reachOf 5 (some .long) ∈ xgt := wm_5 151 rfl rfl
set_option maxRecDepth 20000 in
theorem xw_210 : Cond.instanceMethod yX11_singsIn ∈ xgt := wm_4 214 rfl rfl
set_option maxRecDepth 20000 in
theorem xw_211 : Cond.selects yX11_singsIn.cls yX11_singsIn yX11_singsIn ∈ xgt := ws_2 (q := (yX11_singsIn, 15)) 15 rfl rfl
set_option maxRecDepth 20000 in
theorem xw_212 : Cond.methodLink RX11 236 yX11_singsIn ∈ xgt := wm_4 212 rfl rfl
set_option maxRecDepth 20000 in
theorem xw_213 : Cond.instanceMethod yX10_enlist ∈ xgt := wm_4 217 rfl rfl
set_option maxRecDepth 20000 in
theorem xw_214 : Cond.selects yX10_enlist.cls yX10_enlist yX10_enlist ∈ xgt := wm_4 218 rfl rfl
set_option maxRecDepth 20000 in
theorem xw_215 : Cond.methodLink RX11 242 yX10_enlist ∈ xgt := wm_4 216 rfl rfl
set_option maxRecDepth 20000 in
theorem xw_216 : Cond.code yX11_redeem cX11_redeem 6 (some .int) ∈ xgt := wm_4 210 rfl rfl
set_option maxRecDepth 20000 in
theorem xw_217 : Cond.code yX11_round cX11_round 5 (some .int) ∈ xgt := wm_5 155 rfl rfl
set_option maxRecDepth 20000 in
theorem xw_218 : Cond.instanceMethod yX11_shareOf ∈ xgt := wm_5 187 rfl rfl
set_option maxRecDepth 20000 in
theorem xw_219 : Cond.selects yX11_shareOf.cls yX11_shareOf yX11_shareOf ∈ xgt := ws_3 (q := (yX11_shareOf, 15)) 13 rfl rfl
set_option maxRecDepth 20000 in
theorem xw_220 : Cond.methodLink RX11 341 yX11_shareOf ∈ xgt := wm_5 185 rfl rfl
set_option maxRecDepth 20000 in
theorem xw_221 : Cond.code yX11_run cX11_run 3 (some .int) ∈ xgt := wm_5 184 rfl rfl
set_option maxRecDepth 20000 in
theorem xw_222 : Cond.code yX11_shareOf cX11_shareOf 7 (some .int) ∈ xgt := wm_5 188 rfl rfl
set_option maxRecDepth 20000 in
theorem xw_223 : Cond.instanceMethod yX4_restsIn ∈ xgt := wm_4 134 rfl rfl
set_option maxRecDepth 20000 in
theorem xw_224 : Cond.selects yX4_restsIn.cls yX4_restsIn yX4_restsIn ∈ xgt := wm_4 135 rfl rfl
set_option maxRecDepth 20000 in
theorem xw_225 : Cond.methodLink RX11 367 yX4_restsIn ∈ xgt := wm_5 4 rfl rfl
set_option maxRecDepth 20000 in
theorem xw_226 : Cond.code yX11_singPart cX11_singPart 3 (some .int) ∈ xgt := wm_5 3 rfl rfl
set_option maxRecDepth 20000 in
theorem xw_227 : Cond.code yX11_sings cX11_sings 4 (some .int) ∈ xgt := wm_4 231 rfl rfl
set_option maxRecDepth 20000 in
theorem xw_228 : Cond.code yX11_singsIn cX11_singsIn 4 (some .boolean) ∈ xgt := wm_4 215 rfl rfl
set_option maxRecDepth 20000 in
theorem xw_229 : Cond.code yX11_slotOf cX11_slotOf 2 (some .int) ∈ xgt := wm_3 228 rfl rfl
set_option maxRecDepth 20000 in
theorem xw_230 : Cond.fieldLink RX11 286 (TX7 4).1 (TX7 4).2.1 (TX7 4).2.2.1 ∈ xgt := wm_3 7 rfl rfl
set_option maxRecDepth 20000 in
theorem xw_231 : Cond.fieldLink RX11 289 (TX7 3).1 (TX7 3).2.1 (TX7 3).2.2.1 ∈ xgt := wm_3 5 rfl rfl
set_option maxRecDepth 20000 in
theorem xw_232 : Cond.code yX11_sold cX11_sold 4 (some .int) ∈ xgt := wm_5 81 rfl rfl
set_option maxRecDepth 20000 in
theorem xw_233 : Cond.code yX11_sounds cX11_sounds 4 (some .int) ∈ xgt := wm_4 186 rfl rfl
set_option maxRecDepth 20000 in
theorem xw_234 : Cond.code yX11_strike cX11_strike 2 (some .int) ∈ xgt := wm_5 112 rfl rfl
set_option maxRecDepth 20000 in
theorem xw_235 : Cond.fieldLink RX11 249 (TX10 4).1 (TX10 4).2.1 (TX10 4).2.2.1 ∈ xgt := wm_2 105 rfl rfl
set_option maxRecDepth 20000 in
theorem xw_236 : Cond.instanceMethod yX11_singPart ∈ xgt := wm_5 2 rfl rfl
set_option maxRecDepth 20000 in
theorem xw_237 : Cond.selects yX11_singPart.cls yX11_singPart yX11_singPart ∈ xgt := ws_3 (q := (yX11_singPart, 15)) 0 rfl rfl
set_option maxRecDepth 20000 in
theorem xw_238 : Cond.methodLink RX11 258 yX11_singPart ∈ xgt := wm_5 0 rfl rfl
set_option maxRecDepth 20000 in
theorem xw_239 : Cond.instanceMethod yX10_dismissAll ∈ xgt := wm_3 73 rfl rfl
set_option maxRecDepth 20000 in
theorem xw_240 : Cond.selects yX10_dismissAll.cls yX10_dismissAll yX10_dismissAll ∈ xgt := wm_3 74 rfl rfl
set_option maxRecDepth 20000 in
theorem xw_241 : Cond.methodLink RX11 261 yX10_dismissAll ∈ xgt := wm_5 5 rfl rfl
set_option maxRecDepth 20000 in
theorem xw_242 : Cond.instanceMethod yX11_crackBoys ∈ xgt := wm_5 8 rfl rfl
set_option maxRecDepth 20000 in
theorem xw_243 : Cond.selects yX11_crackBoys.cls yX11_crackBoys yX11_crackBoys ∈ xgt := ws_3 (q := (yX11_crackBoys, 15)) 1 rfl rfl
set_option maxRecDepth 20000 in
theorem xw_244 : Cond.methodLink RX11 264 yX11_crackBoys ∈ xgt := wm_5 6 rfl rfl
set_option maxRecDepth 20000 in
theorem xw_245 : Cond.code yX11_sunday cX11_sunday 3 (some .int) ∈ xgt := wm_4 239 rfl rfl
set_option maxRecDepth 20000 in
theorem xw_246 : Cond.code yX11_tapeNumber cX11_tapeNumber 3 none ∈ xgt := wm_3 129 rfl rfl
set_option maxRecDepth 20000 in
theorem xw_247 : Cond.fieldLink RX11 183 (TX4 4).1 (TX4 4).2.1 (TX4 4).2.2.1 ∈ xgt := wm_1 127 rfl rfl
set_option maxRecDepth 20000 in
theorem xw_248 : Cond.instanceMethod yX11_claimsOn ∈ xgt := wm_4 81 rfl rfl
set_option maxRecDepth 20000 in
theorem xw_249 : Cond.selects yX11_claimsOn.cls yX11_claimsOn yX11_claimsOn ∈ xgt := ws_2 (q := (yX11_claimsOn, 15)) 7 rfl rfl
set_option maxRecDepth 20000 in
theorem xw_250 : Cond.methodLink RX11 189 yX11_claimsOn ∈ xgt := wm_4 79 rfl rfl
set_option maxRecDepth 20000 in
theorem xw_251 : Cond.code yX11_tavern cX11_tavern 3 (some .int) ∈ xgt := wm_4 74 rfl rfl
set_option maxRecDepth 20000 in
theorem xw_252 : Cond.instanceMethod yX8_tell ∈ xgt := wm_3 135 rfl rfl
set_option maxRecDepth 20000 in
theorem xw_253 : Cond.selects yX8_tell.cls yX8_tell yX8_tell ∈ xgt := wm_3 136 rfl rfl
set_option maxRecDepth 20000 in
theorem xw_254 : Cond.methodLink RX11 108 yX8_tell ∈ xgt := wm_3 134 rfl rfl
set_option maxRecDepth 20000 in
theorem xw_255 : Cond.fieldLink RX11 112 (TX8 0).1 (TX8 0).2.1 (TX8 0).2.2.1 ∈ xgt := wm_2 76 rfl rfl
set_option maxRecDepth 20000 in
theorem xw_256 : Cond.fieldLink RX11 116 (TX9 7).1 (TX9 7).2.1 (TX9 7).2.2.1 ∈ xgt := wm_2 49 rfl rfl
set_option maxRecDepth 20000 in
theorem xw_257 : Cond.fieldLink RX11 117 (TX9 8).1 (TX9 8).2.1 (TX9 8).2.2.1 ∈ xgt := wm_2 51 rfl rfl
set_option maxRecDepth 20000 in
theorem xw_258 : Cond.instanceMethod yX4_take ∈ xgt := wm_4 48 rfl rfl
set_option maxRecDepth 20000 in
theorem xw_259 : Cond.selects yX4_take.cls yX4_take yX4_take ∈ xgt := wm_4 49 rfl rfl
set_option maxRecDepth 20000 in
theorem xw_260 : Cond.methodLink RX11 118 yX4_take ∈ xgt := wm_4 47 rfl rfl
set_option maxRecDepth 20000 in
theorem xw_261 : Cond.code yX11_text cX11_text 3 (some .int) ∈ xgt := wm_3 133 rfl rfl
set_option maxRecDepth 20000 in
theorem xw_262 : Cond.code yX11_thieves cX11_thieves 5 (some .int) ∈ xgt := wm_5 120 rfl rfl
set_option maxRecDepth 20000 in
theorem xw_263 : Cond.fieldLink RX11 252 (TX10 5).1 (TX10 5).2.1 (TX10 5).2.2.1 ∈ xgt := wm_2 107 rfl rfl
set_option maxRecDepth 20000 in
theorem xw_264 : Cond.instanceMethod yX10_dismiss ∈ xgt := wm_4 225 rfl rfl
set_option maxRecDepth 20000 in
theorem xw_265 : Cond.selects yX10_dismiss.cls yX10_dismiss yX10_dismiss ∈ xgt := wm_4 226 rfl rfl
set_option maxRecDepth 20000 in
theorem xw_266 : Cond.methodLink RX11 255 yX10_dismiss ∈ xgt := wm_4 224 rfl rfl
set_option maxRecDepth 20000 in
theorem xw_267 : Cond.code yX11_undo cX11_undo 3 (some .int) ∈ xgt := wm_4 223 rfl rfl
set_option maxRecDepth 20000 in
theorem xw_268 : Cond.code yX11_verse cX11_verse 3 (some .int) ∈ xgt := wm_4 86 rfl rfl
set_option maxRecDepth 20000 in
theorem xw_269 : Cond.constantLong RX11 352 (lN 100) ∈ xgt := wm_5 198 rfl rfl
set_option maxRecDepth 20000 in
theorem xw_270 : Cond.code yX11_whole cX11_whole 9 (some .long) ∈ xgt := wm_5 197 rfl rfl
set_option maxRecDepth 20000 in
theorem xw_271 : Cond.methodLink RX0 3 Lib.objectInit ∈ xgt := wm_3 28 rfl rfl
set_option maxRecDepth 20000 in
theorem xw_272 : Cond.arrayClass .int ∈ xgt := wm_1 62 rfl rfl
set_option maxRecDepth 20000 in
theorem xw_273 : Cond.fieldLink RX0 9 (TX0 3).1 (TX0 3).2.1 (TX0 3).2.2.1 ∈ xgt := wm_3 33 rfl rfl
set_option maxRecDepth 20000 in
theorem xw_274 : Cond.fieldLink RX0 15 (TX0 4).1 (TX0 4).2.1 (TX0 4).2.2.1 ∈ xgt := wm_3 34 rfl rfl
set_option maxRecDepth 20000 in
theorem xw_275 : Cond.fieldLink RX0 18 (TX0 5).1 (TX0 5).2.1 (TX0 5).2.2.1 ∈ xgt := wm_3 35 rfl rfl
set_option maxRecDepth 20000 in
theorem xw_276 : Cond.fieldLink RX0 21 (TX0 6).1 (TX0 6).2.1 (TX0 6).2.2.1 ∈ xgt := wm_3 37 rfl rfl
set_option maxRecDepth 20000 in
theorem xw_277 : Cond.fieldLink RX0 25 (TX0 7).1 (TX0 7).2.1 (TX0 7).2.2.1 ∈ xgt := wm_3 38 rfl rfl
set_option maxRecDepth 20000 in
theorem xw_278 : Cond.fieldLink RX0 28 (TX0 8).1 (TX0 8).2.1 (TX0 8).2.2.1 ∈ xgt := wm_3 39 rfl rfl
set_option maxRecDepth 20000 in
theorem xw_279 : Cond.constant RX0 31 (nI 1000000) ∈ xgt := wm_3 29 rfl rfl
set_option maxRecDepth 20000 in
theorem xw_280 : Cond.fieldLink RX0 32 (TX0 9).1 (TX0 9).2.1 (TX0 9).2.2.1 ∈ xgt := wm_3 40 rfl rfl
set_option maxRecDepth 20000 in
theorem xw_281 : Cond.fieldLink RX0 35 (TX0 0).1 (TX0 0).2.1 (TX0 0).2.2.1 ∈ xgt := wm_3 30 rfl rfl
set_option maxRecDepth 20000 in
theorem xw_282 : Cond.fieldLink RX0 39 (TX0 1).1 (TX0 1).2.1 (TX0 1).2.2.1 ∈ xgt := wm_3 31 rfl rfl
set_option maxRecDepth 20000 in
theorem xw_283 : Cond.fieldLink RX0 43 (TX0 2).1 (TX0 2).2.1 (TX0 2).2.2.1 ∈ xgt := wm_3 32 rfl rfl
set_option maxRecDepth 20000 in
theorem xw_284 : Cond.code yX0_init cX0_init 4 none ∈ xgt := wm_3 27 rfl rfl
set_option maxRecDepth 20000 in
theorem xw_285 : Cond.fieldLink RX0 47 (TX4 1).1 (TX4 1).2.1 (TX4 1).2.2.1 ∈ xgt := wm_1 110 rfl rfl
set_option maxRecDepth 20000 in
theorem xw_286 : Cond.fieldLink RX0 53 (TX6 1).1 (TX6 1).2.1 (TX6 1).2.2.1 ∈ xgt := wm_1 51 rfl rfl
set_option maxRecDepth 20000 in
theorem xw_287 : Cond.fieldLink RX0 58 (TX10 10).1 (TX10 10).2.1 (TX10 10).2.2.1 ∈ xgt := wm_2 118 rfl rfl
set_option maxRecDepth 20000 in
theorem xw_288 : Cond.methodLink RX0 63 yJ6_bitCount_0f7a4 ∈ xgt := wm_5 164 rfl rfl
set_option maxRecDepth 20000 in
theorem xw_289 : Cond.fieldLink RX0 69 (TX4 12).1 (TX4 12).2.1 (TX4 12).2.2.1 ∈ xgt := wm_1 155 rfl rfl
set_option maxRecDepth 20000 in
theorem xw_290 : Cond.methodLink RX0 72 yX5_soundBits ∈ xgt := wm_5 165 rfl rfl
set_option maxRecDepth 20000 in
theorem xw_291 : Cond.instanceMethod yX0_fill ∈ xgt := wm_5 168 rfl rfl
set_option maxRecDepth 20000 in
theorem xw_292 : Cond.selects yX0_fill.cls yX0_fill yX0_fill ∈ xgt := ws_3 (q := (yX0_fill, 10)) 12 rfl rfl
set_option maxRecDepth 20000 in
theorem xw_293 : Cond.methodLink RX0 78 yX0_fill ∈ xgt := wm_5 166 rfl rfl
set_option maxRecDepth 20000 in
theorem xw_294 : Cond.code yX0_fewestGaps cX0_fewestGaps 5 (some .int) ∈ xgt := wm_5 163 rfl rfl
set_option maxRecDepth 20000 in
theorem xw_295 : Cond.methodLink RX0 82 yJ13_bitCount_95d88 ∈ xgt := wm_5 170 rfl rfl
set_option maxRecDepth 20000 in
theorem xw_296 : Cond.static yJ13_bitCount_95d88 ∈ xgt := wm_5 171 rfl rfl
set_option maxRecDepth 20000 in
theorem xw_297 : Cond.methodLink RX0 87 arraycopyName ∈ xgt := wm_5 176 rfl rfl
set_option maxRecDepth 20000 in
theorem xw_298 : Cond.native arraycopyName ∈ xgt := wm_3 71 rfl rfl
set_option maxRecDepth 20000 in
theorem xw_299 : Cond.static arraycopyName ∈ xgt := wm_3 70 rfl rfl
set_option maxRecDepth 20000 in
theorem xw_300 : Cond.initialized "java/lang/System" ∈ xgt := wm_1 18 rfl rfl
set_option maxRecDepth 20000 in
theorem xw_301 : Cond.code yX0_fill cX0_fill 6 none ∈ xgt := wm_5 169 rfl rfl
set_option maxRecDepth 20000 in
theorem xw_302 : Cond.methodLink RX1 5 Lib.objectInit ∈ xgt := wm_2 196 rfl rfl
set_option maxRecDepth 20000 in
theorem xw_303 : Cond.fieldLink RX1 11 (TX1 3).1 (TX1 3).2.1 (TX1 3).2.2.1 ∈ xgt := wm_2 202 rfl rfl
set_option maxRecDepth 20000 in
theorem xw_304 : Cond.fieldLink RX1 15 (TX1 4).1 (TX1 4).2.1 (TX1 4).2.2.1 ∈ xgt := wm_2 203 rfl rfl
set_option maxRecDepth 20000 in
theorem xw_305 : Cond.fieldLink RX1 18 (TX1 5).1 (TX1 5).2.1 (TX1 5).2.2.1 ∈ xgt := wm_2 204 rfl rfl
set_option maxRecDepth 20000 in
theorem xw_306 : Cond.classLink RX1 21 "[[I" ∈ xgt := wm_2 197 rfl rfl
set_option maxRecDepth 20000 in
theorem xw_307 : Cond.fieldLink RX1 23 (TX1 6).1 (TX1 6).2.1 (TX1 6).2.2.1 ∈ xgt := wm_2 205 rfl rfl
set_option maxRecDepth 20000 in
theorem xw_308 : Cond.fieldLink RX1 26 (TX1 7).1 (TX1 7).2.1 (TX1 7).2.2.1 ∈ xgt := wm_2 206 rfl rfl
set_option maxRecDepth 20000 in
theorem xw_309 : Cond.fieldLink RX1 29 (TX1 8).1 (TX1 8).2.1 (TX1 8).2.2.1 ∈ xgt := wm_2 208 rfl rfl
set_option maxRecDepth 20000 in
theorem xw_310 : Cond.fieldLink RX1 33 (TX1 9).1 (TX1 9).2.1 (TX1 9).2.2.1 ∈ xgt := wm_2 209 rfl rfl
set_option maxRecDepth 20000 in
theorem xw_311 : Cond.fieldLink RX1 36 (TX1 10).1 (TX1 10).2.1 (TX1 10).2.2.1 ∈ xgt := wm_2 210 rfl rfl
set_option maxRecDepth 20000 in
theorem xw_312 : Cond.fieldLink RX1 40 (TX1 0).1 (TX1 0).2.1 (TX1 0).2.2.1 ∈ xgt := wm_2 199 rfl rfl
set_option maxRecDepth 20000 in
theorem xw_313 : Cond.fieldLink RX1 44 (TX1 1).1 (TX1 1).2.1 (TX1 1).2.2.1 ∈ xgt := wm_2 200 rfl rfl
set_option maxRecDepth 20000 in
theorem xw_314 : Cond.fieldLink RX1 48 (TX1 2).1 (TX1 2).2.1 (TX1 2).2.2.1 ∈ xgt := wm_2 201 rfl rfl
set_option maxRecDepth 20000 in
theorem xw_315 : Cond.code yX1_init cX1_init 4 none ∈ xgt := wm_2 195 rfl rfl
set_option maxRecDepth 20000 in
theorem xw_316 : Cond.methodLink RX1 84 yX1_mostNotes ∈ xgt := wm_5 73 rfl rfl
set_option maxRecDepth 20000 in
theorem xw_317 : Cond.fieldLink RX1 52 (TX4 2).1 (TX4 2).2.1 (TX4 2).2.2.1 ∈ xgt := wm_1 116 rfl rfl
set_option maxRecDepth 20000 in
theorem xw_318 : Cond.fieldLink RX1 58 (TX6 1).1 (TX6 1).2.1 (TX6 1).2.2.1 ∈ xgt := wm_1 54 rfl rfl
set_option maxRecDepth 20000 in
theorem xw_319 : Cond.instanceMethod yX1_rowsOf ∈ xgt := wm_5 46 rfl rfl
set_option maxRecDepth 20000 in
theorem xw_320 : Cond.selects yX1_rowsOf.cls yX1_rowsOf yX1_rowsOf ∈ xgt := ws_3 (q := (yX1_rowsOf, 11)) 4 rfl rfl
set_option maxRecDepth 20000 in
theorem xw_321 : Cond.methodLink RX1 88 yX1_rowsOf ∈ xgt := wm_5 44 rfl rfl
set_option maxRecDepth 20000 in
theorem xw_322 : Cond.instanceMethod yX1_fits ∈ xgt := wm_5 50 rfl rfl
set_option maxRecDepth 20000 in
theorem xw_323 : Cond.selects yX1_fits.cls yX1_fits yX1_fits ∈ xgt := ws_3 (q := (yX1_fits, 11)) 5 rfl rfl
set_option maxRecDepth 20000 in
theorem xw_324 : Cond.methodLink RX1 91 yX1_fits ∈ xgt := wm_5 48 rfl rfl
set_option maxRecDepth 20000 in
theorem xw_325 : Cond.instanceMethod yX1_isBest ∈ xgt := wm_5 76 rfl rfl
set_option maxRecDepth 20000 in
theorem xw_326 : Cond.selects yX1_isBest.cls yX1_isBest yX1_isBest ∈ xgt := ws_3 (q := (yX1_isBest, 11)) 7 rfl rfl
set_option maxRecDepth 20000 in
theorem xw_327 : Cond.methodLink RX1 95 yX1_isBest ∈ xgt := wm_5 74 rfl rfl
set_option maxRecDepth 20000 in
theorem xw_328 : Cond.code yX1_choose cX1_choose 7 none ∈ xgt := wm_5 72 rfl rfl
set_option maxRecDepth 20000 in
theorem xw_329 : Cond.code yX1_crownsFor cX1_crownsFor 2 (some .int) ∈ xgt := wm_5 64 rfl rfl
set_option maxRecDepth 20000 in
theorem xw_330 : Cond.fieldLink RX1 102 (TX4 1).1 (TX4 1).2.1 (TX4 1).2.2.1 ∈ xgt := wm_1 113 rfl rfl
set_option maxRecDepth 20000 in
theorem xw_331 : Cond.fieldLink RX1 124 (TX10 10).1 (TX10 10).2.1 (TX10 10).2.2.1 ∈ xgt := wm_2 119 rfl rfl
set_option maxRecDepth 20000 in
theorem xw_332 : Cond.fieldLink RX1 70 (TX4 11).1 (TX4 11).2.1 (TX4 11).2.2.1 ∈ xgt := wm_1 151 rfl rfl
set_option maxRecDepth 20000 in
theorem xw_333 : Cond.code yX1_fits cX1_fits 9 (some .boolean) ∈ xgt := wm_5 51 rfl rfl
set_option maxRecDepth 20000 in
theorem xw_334 : Cond.code yX1_isBest cX1_isBest 3 (some .boolean) ∈ xgt := wm_5 77 rfl rfl
set_option maxRecDepth 20000 in
theorem xw_335 : Cond.constant RX1 63 (nI 1000000) ∈ xgt := wm_5 30 rfl rfl
set_option maxRecDepth 20000 in
theorem xw_336 : Cond.methodLink RX1 64 yJ7_fill_53178 ∈ xgt := wm_5 31 rfl rfl
set_option maxRecDepth 20000 in
theorem xw_337 : Cond.static yJ7_fill_53178 ∈ xgt := wm_3 67 rfl rfl
set_option maxRecDepth 20000 in
theorem xw_338 : Cond.methodLink RX1 119 yJ9_min_7cf53 ∈ xgt := wm_5 56 rfl rfl
set_option maxRecDepth 20000 in
theorem xw_339 : Cond.code yX1_joinRest cX1_joinRest 6 none ∈ xgt := wm_5 55 rfl rfl
set_option maxRecDepth 20000 in
theorem xw_340 : Cond.code yX1_mostNotes cX1_mostNotes 3 (some .int) ∈ xgt := wm_5 60 rfl rfl
set_option maxRecDepth 20000 in
theorem xw_341 : Cond.code yX1_rowsOf cX1_rowsOf 4 (some .int) ∈ xgt := wm_5 47 rfl rfl
set_option maxRecDepth 20000 in
theorem xw_342 : Cond.instanceMethod yX1_weighPart ∈ xgt := wm_5 34 rfl rfl
set_option maxRecDepth 20000 in
theorem xw_343 : Cond.selects yX1_weighPart.cls yX1_weighPart yX1_weighPart ∈ xgt := ws_3 (q := (yX1_weighPart, 11)) 2 rfl rfl
set_option maxRecDepth 20000 in
theorem xw_344 : Cond.methodLink RX1 73 yX1_weighPart ∈ xgt := wm_5 32 rfl rfl
set_option maxRecDepth 20000 in
theorem xw_345 : Cond.instanceMethod yX1_weighRows ∈ xgt := wm_5 42 rfl rfl
set_option maxRecDepth 20000 in
theorem xw_346 : Cond.selects yX1_weighRows.cls yX1_weighRows yX1_weighRows ∈ xgt := ws_3 (q := (yX1_weighRows, 11)) 3 rfl rfl
set_option maxRecDepth 20000 in
theorem xw_347 : Cond.methodLink RX1 77 yX1_weighRows ∈ xgt := wm_5 40 rfl rfl
set_option maxRecDepth 20000 in
theorem xw_348 : Cond.instanceMethod yX1_joinRest ∈ xgt := wm_5 54 rfl rfl
set_option maxRecDepth 20000 in
theorem xw_349 : Cond.selects yX1_joinRest.cls yX1_joinRest yX1_joinRest ∈ xgt := ws_3 (q := (yX1_joinRest, 11)) 6 rfl rfl
set_option maxRecDepth 20000 in
theorem xw_350 : Cond.methodLink RX1 81 yX1_joinRest ∈ xgt := wm_5 52 rfl rfl
set_option maxRecDepth 20000 in
theorem xw_351 : Cond.code yX1_weigh cX1_weigh 4 none ∈ xgt := wm_5 29 rfl rfl
set_option maxRecDepth 20000 in
theorem xw_352 : Cond.methodLink RX1 105 yX5_soundBits ∈ xgt := wm_5 37 rfl rfl
set_option maxRecDepth 20000 in
theorem xw_353 : Cond.methodLink RX1 110 yJ6_bitCount_0f7a4 ∈ xgt := wm_5 38 rfl rfl
set_option maxRecDepth 20000 in
theorem xw_354 : Cond.methodLink RX1 115 yX5_dueFor ∈ xgt := wm_5 39 rfl rfl
set_option maxRecDepth 20000 in
theorem xw_355 : Cond.code yX1_weighPart cX1_weighPart 5 none ∈ xgt := wm_5 35 rfl rfl
set_option maxRecDepth 20000 in
theorem xw_356 : Cond.code yX1_weighRows cX1_weighRows 4 none ∈ xgt := wm_5 43 rfl rfl
set_option maxRecDepth 20000 in
theorem xw_357 : Cond.methodLink RX2 3 Lib.objectInit ∈ xgt := wm_1 68 rfl rfl
set_option maxRecDepth 20000 in
theorem xw_358 : Cond.fieldLink RX2 9 (TX2 0).1 (TX2 0).2.1 (TX2 0).2.2.1 ∈ xgt := wm_1 69 rfl rfl
set_option maxRecDepth 20000 in
theorem xw_359 : Cond.fieldLink RX2 15 (TX2 1).1 (TX2 1).2.1 (TX2 1).2.2.1 ∈ xgt := wm_1 71 rfl rfl
set_option maxRecDepth 20000 in
theorem xw_360 : Cond.fieldLink RX2 18 (TX2 2).1 (TX2 2).2.1 (TX2 2).2.2.1 ∈ xgt := wm_1 73 rfl rfl
set_option maxRecDepth 20000 in
theorem xw_361 : Cond.fieldLink RX2 21 (TX2 3).1 (TX2 3).2.1 (TX2 3).2.2.1 ∈ xgt := wm_1 75 rfl rfl
set_option maxRecDepth 20000 in
theorem xw_362 : Cond.fieldLink RX2 24 (TX2 4).1 (TX2 4).2.1 (TX2 4).2.2.1 ∈ xgt := wm_1 77 rfl rfl
set_option maxRecDepth 20000 in
theorem xw_363 : Cond.fieldLink RX2 28 (TX2 5).1 (TX2 5).2.1 (TX2 5).2.2.1 ∈ xgt := wm_1 79 rfl rfl
set_option maxRecDepth 20000 in
theorem xw_364 : Cond.fieldLink RX2 31 (TX2 6).1 (TX2 6).2.1 (TX2 6).2.2.1 ∈ xgt := wm_1 80 rfl rfl
set_option maxRecDepth 20000 in
theorem xw_365 : Cond.fieldLink RX2 34 (TX2 7).1 (TX2 7).2.1 (TX2 7).2.2.1 ∈ xgt := wm_1 81 rfl rfl
set_option maxRecDepth 20000 in
theorem xw_366 : Cond.fieldLink RX2 37 (TX2 8).1 (TX2 8).2.1 (TX2 8).2.2.1 ∈ xgt := wm_1 82 rfl rfl
set_option maxRecDepth 20000 in
theorem xw_367 : Cond.fieldLink RX2 40 (TX2 9).1 (TX2 9).2.1 (TX2 9).2.2.1 ∈ xgt := wm_1 83 rfl rfl
set_option maxRecDepth 20000 in
theorem xw_368 : Cond.code yX2_init cX2_init 1 none ∈ xgt := wm_1 67 rfl rfl
set_option maxRecDepth 20000 in
theorem xw_369 : Cond.initialized RX2 ∈ xgt := wm_1 4 rfl rfl
set_option maxRecDepth 20000 in
theorem xw_370 : Cond.methodLink RX2 44 yJ7_fill_53178 ∈ xgt := wm_3 146 rfl rfl
set_option maxRecDepth 20000 in
theorem xw_371 : Cond.code yX2_clear cX2_clear 1 none ∈ xgt := wm_3 145 rfl rfl
set_option maxRecDepth 20000 in
theorem xw_372 : Cond.code yX2_hold cX2_hold 2 (some .boolean) ∈ xgt := wm_4 8 rfl rfl
set_option maxRecDepth 20000 in
theorem xw_373 : Cond.instanceMethod yX9_fail ∈ xgt := wm_3 193 rfl rfl
set_option maxRecDepth 20000 in
theorem xw_374 : Cond.selects yX9_fail.cls yX9_fail yX9_fail ∈ xgt := wm_3 194 rfl rfl
set_option maxRecDepth 20000 in
theorem xw_375 : Cond.methodLink RX2 79 yX9_fail ∈ xgt := wm_4 9 rfl rfl
set_option maxRecDepth 20000 in
theorem xw_376 : Cond.code yX2_isRoom cX2_isRoom 2 (some .boolean) ∈ xgt := wm_4 20 rfl rfl
set_option maxRecDepth 20000 in
theorem xw_377 : Cond.code yX2_isTold cX2_isTold 2 (some .boolean) ∈ xgt := wm_4 46 rfl rfl
set_option maxRecDepth 20000 in
theorem xw_378 : Cond.code yX2_levelOf cX2_levelOf 1 (some .int) ∈ xgt := wm_4 16 rfl rfl
set_option maxRecDepth 20000 in
theorem xw_379 : Cond.code yX2_put cX2_put 3 (some .boolean) ∈ xgt := wm_4 24 rfl rfl
set_option maxRecDepth 20000 in
theorem xw_380 : Cond.fieldLink RX2 72 (TX9 4).1 (TX9 4).2.1 (TX9 4).2.2.1 ∈ xgt := wm_2 43 rfl rfl
set_option maxRecDepth 20000 in
theorem xw_381 : Cond.instanceMethod yX2_settle ∈ xgt := wm_4 31 rfl rfl
set_option maxRecDepth 20000 in
theorem xw_382 : Cond.selects yX2_settle.cls yX2_settle yX2_settle ∈ xgt := ws_2 (q := (yX2_settle, 10)) 4 rfl rfl
set_option maxRecDepth 20000 in
theorem xw_383 : Cond.methodLink RX2 68 yX2_settle ∈ xgt := wm_4 29 rfl rfl
set_option maxRecDepth 20000 in
theorem xw_384 : Cond.methodLink RX2 96 yX2_levelOf ∈ xgt := wm_4 14 rfl rfl
set_option maxRecDepth 20000 in
theorem xw_385 : Cond.static yX2_levelOf ∈ xgt := wm_4 15 rfl rfl
set_option maxRecDepth 20000 in
theorem xw_386 : Cond.instanceMethod yX2_topLevel ∈ xgt := wm_4 12 rfl rfl
set_option maxRecDepth 20000 in
theorem xw_387 : Cond.selects yX2_topLevel.cls yX2_topLevel yX2_topLevel ∈ xgt := ws_2 (q := (yX2_topLevel, 10)) 0 rfl rfl
set_option maxRecDepth 20000 in
theorem xw_388 : Cond.methodLink RX2 82 yX2_topLevel ∈ xgt := wm_4 10 rfl rfl
set_option maxRecDepth 20000 in
theorem xw_389 : Cond.instanceMethod yX2_isRoom ∈ xgt := wm_4 19 rfl rfl
set_option maxRecDepth 20000 in
theorem xw_390 : Cond.selects yX2_isRoom.cls yX2_isRoom yX2_isRoom ∈ xgt := ws_2 (q := (yX2_isRoom, 10)) 1 rfl rfl
set_option maxRecDepth 20000 in
theorem xw_391 : Cond.methodLink RX2 86 yX2_isRoom ∈ xgt := wm_4 17 rfl rfl
set_option maxRecDepth 20000 in
theorem xw_392 : Cond.instanceMethod yX2_hold ∈ xgt := wm_4 7 rfl rfl
set_option maxRecDepth 20000 in
theorem xw_393 : Cond.selects yX2_hold.cls yX2_hold yX2_hold ∈ xgt := ws_1 (q := (yX2_hold, 10)) 15 rfl rfl
set_option maxRecDepth 20000 in
theorem xw_394 : Cond.methodLink RX2 75 yX2_hold ∈ xgt := wm_4 5 rfl rfl
set_option maxRecDepth 20000 in
theorem xw_395 : Cond.code yX2_readSign cX2_readSign 4 (some .boolean) ∈ xgt := wm_4 28 rfl rfl
set_option maxRecDepth 20000 in
theorem xw_396 : Cond.fieldLink RX2 89 (TX9 6).1 (TX9 6).2.1 (TX9 6).2.2.1 ∈ xgt := wm_2 46 rfl rfl
set_option maxRecDepth 20000 in
theorem xw_397 : Cond.instanceMethod yX2_put ∈ xgt := wm_4 23 rfl rfl
set_option maxRecDepth 20000 in
theorem xw_398 : Cond.selects yX2_put.cls yX2_put yX2_put ∈ xgt := ws_2 (q := (yX2_put, 10)) 2 rfl rfl
set_option maxRecDepth 20000 in
theorem xw_399 : Cond.methodLink RX2 92 yX2_put ∈ xgt := wm_4 21 rfl rfl
set_option maxRecDepth 20000 in
theorem xw_400 : Cond.code yX2_readValue cX2_readValue 3 (some .boolean) ∈ xgt := wm_4 4 rfl rfl
set_option maxRecDepth 20000 in
theorem xw_401 : Cond.code yX2_settle cX2_settle 3 none ∈ xgt := wm_4 32 rfl rfl
set_option maxRecDepth 20000 in
theorem xw_402 : Cond.methodLink RX2 50 arraycopyName ∈ xgt := wm_4 61 rfl rfl
set_option maxRecDepth 20000 in
theorem xw_403 : Cond.code yX2_take cX2_take 2 none ∈ xgt := wm_4 60 rfl rfl
set_option maxRecDepth 20000 in
theorem xw_404 : Cond.instanceMethod yX2_readValue ∈ xgt := wm_4 3 rfl rfl
set_option maxRecDepth 20000 in
theorem xw_405 : Cond.selects yX2_readValue.cls yX2_readValue yX2_readValue ∈ xgt := ws_1 (q := (yX2_readValue, 10)) 14 rfl rfl
set_option maxRecDepth 20000 in
theorem xw_406 : Cond.methodLink RX2 56 yX2_readValue ∈ xgt := wm_4 1 rfl rfl
set_option maxRecDepth 20000 in
theorem xw_407 : Cond.instanceMethod yX2_readSign ∈ xgt := wm_4 27 rfl rfl
set_option maxRecDepth 20000 in
theorem xw_408 : Cond.selects yX2_readSign.cls yX2_readSign yX2_readSign ∈ xgt := ws_2 (q := (yX2_readSign, 10)) 3 rfl rfl
set_option maxRecDepth 20000 in
theorem xw_409 : Cond.methodLink RX2 60 yX2_readSign ∈ xgt := wm_4 25 rfl rfl
set_option maxRecDepth 20000 in
theorem xw_410 : Cond.instanceMethod yX9_next ∈ xgt := wm_3 155 rfl rfl
set_option maxRecDepth 20000 in
theorem xw_411 : Cond.selects yX9_next.cls yX9_next yX9_next ∈ xgt := wm_3 156 rfl rfl
set_option maxRecDepth 20000 in
theorem xw_412 : Cond.methodLink RX2 63 yX9_next ∈ xgt := wm_4 33 rfl rfl
set_option maxRecDepth 20000 in
theorem xw_413 : Cond.code yX2_tell cX2_tell 5 none ∈ xgt := wm_4 0 rfl rfl
set_option maxRecDepth 20000 in
theorem xw_414 : Cond.code yX2_topLevel cX2_topLevel 1 (some .int) ∈ xgt := wm_4 13 rfl rfl
set_option maxRecDepth 20000 in
theorem xw_415 : Cond.methodLink RX3 3 Lib.objectInit ∈ xgt := wm_2 156 rfl rfl
set_option maxRecDepth 20000 in
theorem xw_416 : Cond.fieldLink RX3 9 (TX3 0).1 (TX3 0).2.1 (TX3 0).2.2.1 ∈ xgt := wm_2 157 rfl rfl
set_option maxRecDepth 20000 in
theorem xw_417 : Cond.fieldLink RX3 15 (TX3 1).1 (TX3 1).2.1 (TX3 1).2.2.1 ∈ xgt := wm_2 158 rfl rfl
set_option maxRecDepth 20000 in
theorem xw_418 : Cond.code yX3_init cX3_init 1 none ∈ xgt := wm_2 155 rfl rfl
set_option maxRecDepth 20000 in
theorem xw_419 : Cond.code yX3_add cX3_add 2 (some .int) ∈ xgt := wm_5 108 rfl rfl
set_option maxRecDepth 20000 in
theorem xw_420 : Cond.methodLink RX3 19 yJ9_min_7cf53 ∈ xgt := wm_5 129 rfl rfl
set_option maxRecDepth 20000 in
theorem xw_421 : Cond.code yX3_pitches cX3_pitches 6 (some .long) ∈ xgt := wm_5 128 rfl rfl
set_option maxRecDepth 20000 in
theorem xw_422 : Cond.methodLink RX4 3 Lib.objectInit ∈ xgt := wm_1 41 rfl rfl
set_option maxRecDepth 20000 in
theorem xw_423 : Cond.classLink RX4 9 RX6 ∈ xgt := wm_1 42 rfl rfl
set_option maxRecDepth 20000 in
theorem xw_424 : Cond.instantiable RX6 2 ∈ xgt := wm_1 43 rfl rfl
set_option maxRecDepth 20000 in
theorem xw_425 : Cond.initialized RX6 ∈ xgt := wm_1 3 rfl rfl
set_option maxRecDepth 20000 in
theorem xw_426 : Cond.instanceMethod yX6_init ∈ xgt := wm_1 45 rfl rfl
set_option maxRecDepth 20000 in
theorem xw_427 : Cond.methodLink RX4 11 yX6_init ∈ xgt := wm_1 44 rfl rfl
set_option maxRecDepth 20000 in
theorem xw_428 : Cond.fieldLink RX4 14 (TX4 0).1 (TX4 0).2.1 (TX4 0).2.2.1 ∈ xgt := wm_1 105 rfl rfl
set_option maxRecDepth 20000 in
theorem xw_429 : Cond.fieldLink RX4 20 (TX4 1).1 (TX4 1).2.1 (TX4 1).2.2.1 ∈ xgt := wm_1 109 rfl rfl
set_option maxRecDepth 20000 in
theorem xw_430 : Cond.fieldLink RX4 23 (TX4 2).1 (TX4 2).2.1 (TX4 2).2.2.1 ∈ xgt := wm_1 114 rfl rfl
set_option maxRecDepth 20000 in
theorem xw_431 : Cond.fieldLink RX4 26 (TX4 3).1 (TX4 3).2.1 (TX4 3).2.2.1 ∈ xgt := wm_1 119 rfl rfl
set_option maxRecDepth 20000 in
theorem xw_432 : Cond.fieldLink RX4 29 (TX4 4).1 (TX4 4).2.1 (TX4 4).2.2.1 ∈ xgt := wm_1 124 rfl rfl
set_option maxRecDepth 20000 in
theorem xw_433 : Cond.fieldLink RX4 33 (TX4 5).1 (TX4 5).2.1 (TX4 5).2.2.1 ∈ xgt := wm_1 128 rfl rfl
set_option maxRecDepth 20000 in
theorem xw_434 : Cond.fieldLink RX4 36 (TX4 6).1 (TX4 6).2.1 (TX4 6).2.2.1 ∈ xgt := wm_1 131 rfl rfl
set_option maxRecDepth 20000 in
theorem xw_435 : Cond.fieldLink RX4 39 (TX4 7).1 (TX4 7).2.1 (TX4 7).2.2.1 ∈ xgt := wm_1 134 rfl rfl
set_option maxRecDepth 20000 in
theorem xw_436 : Cond.fieldLink RX4 42 (TX4 8).1 (TX4 8).2.1 (TX4 8).2.2.1 ∈ xgt := wm_1 138 rfl rfl
set_option maxRecDepth 20000 in
theorem xw_437 : Cond.fieldLink RX4 45 (TX4 9).1 (TX4 9).2.1 (TX4 9).2.2.1 ∈ xgt := wm_1 142 rfl rfl
set_option maxRecDepth 20000 in
theorem xw_438 : Cond.fieldLink RX4 48 (TX4 10).1 (TX4 10).2.1 (TX4 10).2.2.1 ∈ xgt := wm_1 146 rfl rfl
set_option maxRecDepth 20000 in
theorem xw_439 : Cond.fieldLink RX4 51 (TX4 11).1 (TX4 11).2.1 (TX4 11).2.2.1 ∈ xgt := wm_1 149 rfl rfl
set_option maxRecDepth 20000 in
theorem xw_440 : Cond.fieldLink RX4 54 (TX4 12).1 (TX4 12).2.1 (TX4 12).2.2.1 ∈ xgt := wm_1 154 rfl rfl
set_option maxRecDepth 20000 in
theorem xw_441 : Cond.fieldLink RX4 57 (TX4 13).1 (TX4 13).2.1 (TX4 13).2.2.1 ∈ xgt := wm_1 159 rfl rfl
set_option maxRecDepth 20000 in
theorem xw_442 : Cond.fieldLink RX4 60 (TX4 14).1 (TX4 14).2.1 (TX4 14).2.2.1 ∈ xgt := wm_1 161 rfl rfl
set_option maxRecDepth 20000 in
theorem xw_443 : Cond.classLink RX4 63 RX2 ∈ xgt := wm_1 63 rfl rfl
set_option maxRecDepth 20000 in
theorem xw_444 : Cond.instantiable RX2 10 ∈ xgt := wm_1 64 rfl rfl
set_option maxRecDepth 20000 in
theorem xw_445 : Cond.instanceMethod yX2_init ∈ xgt := wm_1 66 rfl rfl
set_option maxRecDepth 20000 in
theorem xw_446 : Cond.fieldLink RX4 66 (TX4 15).1 (TX4 15).2.1 (TX4 15).2.2.1 ∈ xgt := wm_1 164 rfl rfl
set_option maxRecDepth 20000 in
theorem xw_447 : Cond.fieldLink RX4 70 (TX4 16).1 (TX4 16).2.1 (TX4 16).2.2.1 ∈ xgt := wm_1 168 rfl rfl
set_option maxRecDepth 20000 in
theorem xw_448 : Cond.fieldLink RX4 74 (TX4 17).1 (TX4 17).2.1 (TX4 17).2.2.1 ∈ xgt := wm_1 170 rfl rfl
set_option maxRecDepth 20000 in
theorem xw_449 : Cond.fieldLink RX4 77 (TX4 18).1 (TX4 18).2.1 (TX4 18).2.2.1 ∈ xgt := wm_1 173 rfl rfl
set_option maxRecDepth 20000 in
theorem xw_450 : Cond.code yX4_init cX4_init 1 none ∈ xgt := wm_1 40 rfl rfl
set_option maxRecDepth 20000 in
theorem xw_451 : Cond.fieldLink RX4 80 (TX6 1).1 (TX6 1).2.1 (TX6 1).2.2.1 ∈ xgt := wm_1 50 rfl rfl
set_option maxRecDepth 20000 in
theorem xw_452 : Cond.instanceMethod yX2_clear ∈ xgt := wm_3 143 rfl rfl
set_option maxRecDepth 20000 in
theorem xw_453 : Cond.selects yX2_clear.cls yX2_clear yX2_clear ∈ xgt := wm_3 144 rfl rfl
set_option maxRecDepth 20000 in
theorem xw_454 : Cond.methodLink RX4 83 yX2_clear ∈ xgt := wm_3 142 rfl rfl
set_option maxRecDepth 20000 in
theorem xw_455 : Cond.code yX4_clear cX4_clear 1 none ∈ xgt := wm_3 141 rfl rfl
set_option maxRecDepth 20000 in
theorem xw_456 : Cond.methodLink RX4 99 yX6_holds ∈ xgt := wm_4 91 rfl rfl
set_option maxRecDepth 20000 in
theorem xw_457 : Cond.code yX4_hasPart cX4_hasPart 3 (some .boolean) ∈ xgt := wm_4 90 rfl rfl
set_option maxRecDepth 20000 in
theorem xw_458 : Cond.code yX4_hasVerses cX4_hasVerses 2 (some .boolean) ∈ xgt := wm_5 85 rfl rfl
set_option maxRecDepth 20000 in
theorem xw_459 : Cond.methodLink RX4 103 yX4_pitchAt ∈ xgt := wm_4 122 rfl rfl
set_option maxRecDepth 20000 in
theorem xw_460 : Cond.methodLink RX4 107 yJ9_max_7cf53 ∈ xgt := wm_4 141 rfl rfl
set_option maxRecDepth 20000 in
theorem xw_461 : Cond.static yJ9_max_7cf53 ∈ xgt := wm_4 142 rfl rfl
set_option maxRecDepth 20000 in
theorem xw_462 : Cond.code yX4_highestIn cX4_highestIn 4 (some .int) ∈ xgt := wm_4 140 rfl rfl
set_option maxRecDepth 20000 in
theorem xw_463 : Cond.code yX4_isBoy cX4_isBoy 2 (some .boolean) ∈ xgt := wm_5 13 rfl rfl
set_option maxRecDepth 20000 in
theorem xw_464 : Cond.code yX4_pitchAt cX4_pitchAt 3 (some .int) ∈ xgt := wm_4 100 rfl rfl
set_option maxRecDepth 20000 in
theorem xw_465 : Cond.constantLong RX4 112 (lN 2) ∈ xgt := wm_5 134 rfl rfl
set_option maxRecDepth 20000 in
theorem xw_466 : Cond.code yX4_reach cX4_reach 2 (some .long) ∈ xgt := wm_5 133 rfl rfl
set_option maxRecDepth 20000 in
theorem xw_467 : Cond.code yX4_reachedBars cX4_reachedBars 6 (some .int) ∈ xgt := wm_4 121 rfl rfl
set_option maxRecDepth 20000 in
theorem xw_468 : Cond.code yX4_restsIn cX4_restsIn 4 (some .int) ∈ xgt := wm_4 136 rfl rfl
set_option maxRecDepth 20000 in
theorem xw_469 : Cond.instanceMethod yX6_take ∈ xgt := wm_4 52 rfl rfl
set_option maxRecDepth 20000 in
theorem xw_470 : Cond.selects yX6_take.cls yX6_take yX6_take ∈ xgt := wm_4 53 rfl rfl
set_option maxRecDepth 20000 in
theorem xw_471 : Cond.methodLink RX4 86 yX6_take ∈ xgt := wm_4 51 rfl rfl
set_option maxRecDepth 20000 in
theorem xw_472 : Cond.methodLink RX4 90 arraycopyName ∈ xgt := wm_4 56 rfl rfl
set_option maxRecDepth 20000 in
theorem xw_473 : Cond.instanceMethod yX2_take ∈ xgt := wm_4 58 rfl rfl
set_option maxRecDepth 20000 in
theorem xw_474 : Cond.selects yX2_take.cls yX2_take yX2_take ∈ xgt := wm_4 59 rfl rfl
set_option maxRecDepth 20000 in
theorem xw_475 : Cond.methodLink RX4 96 yX2_take ∈ xgt := wm_4 57 rfl rfl
set_option maxRecDepth 20000 in
theorem xw_476 : Cond.code yX4_take cX4_take 2 none ∈ xgt := wm_4 50 rfl rfl
set_option maxRecDepth 20000 in
theorem xw_477 : Cond.methodLink RX5 3 Lib.objectInit ∈ xgt := wm_2 170 rfl rfl
set_option maxRecDepth 20000 in
theorem xw_478 : Cond.arrayClass .long ∈ xgt := wm_2 190 rfl rfl
set_option maxRecDepth 20000 in
theorem xw_479 : Cond.fieldLink RX5 9 (TX5 2).1 (TX5 2).2.1 (TX5 2).2.2.1 ∈ xgt := wm_2 173 rfl rfl
set_option maxRecDepth 20000 in
theorem xw_480 : Cond.fieldLink RX5 15 (TX5 3).1 (TX5 3).2.1 (TX5 3).2.2.1 ∈ xgt := wm_2 174 rfl rfl
set_option maxRecDepth 20000 in
theorem xw_481 : Cond.fieldLink RX5 18 (TX5 4).1 (TX5 4).2.1 (TX5 4).2.2.1 ∈ xgt := wm_2 175 rfl rfl
set_option maxRecDepth 20000 in
theorem xw_482 : Cond.fieldLink RX5 22 (TX5 5).1 (TX5 5).2.1 (TX5 5).2.2.1 ∈ xgt := wm_2 176 rfl rfl
set_option maxRecDepth 20000 in
theorem xw_483 : Cond.fieldLink RX5 26 (TX5 0).1 (TX5 0).2.1 (TX5 0).2.2.1 ∈ xgt := wm_2 171 rfl rfl
set_option maxRecDepth 20000 in
theorem xw_484 : Cond.fieldLink RX5 30 (TX5 1).1 (TX5 1).2.1 (TX5 1).2.2.1 ∈ xgt := wm_2 172 rfl rfl
set_option maxRecDepth 20000 in
theorem xw_485 : Cond.code yX5_init cX5_init 3 none ∈ xgt := wm_2 169 rfl rfl
set_option maxRecDepth 20000 in
theorem xw_486 : Cond.instanceMethod yX5_push ∈ xgt := wm_4 159 rfl rfl
set_option maxRecDepth 20000 in
theorem xw_487 : Cond.selects yX5_push.cls yX5_push yX5_push ∈ xgt := ws_2 (q := (yX5_push, 6)) 12 rfl rfl
set_option maxRecDepth 20000 in
theorem xw_488 : Cond.methodLink RX5 140 yX5_push ∈ xgt := wm_4 157 rfl rfl
set_option maxRecDepth 20000 in
theorem xw_489 : Cond.instanceMethod yX5_pop ∈ xgt := wm_4 165 rfl rfl
set_option maxRecDepth 20000 in
theorem xw_490 : Cond.selects yX5_pop.cls yX5_pop yX5_pop ∈ xgt := ws_2 (q := (yX5_pop, 6)) 13 rfl rfl
set_option maxRecDepth 20000 in
theorem xw_491 : Cond.methodLink RX5 131 yX5_pop ∈ xgt := wm_4 163 rfl rfl
set_option maxRecDepth 20000 in
theorem xw_492 : Cond.instanceMethod yX5_scale ∈ xgt := wm_4 169 rfl rfl
set_option maxRecDepth 20000 in
theorem xw_493 : Cond.selects yX5_scale.cls yX5_scale yX5_scale ∈ xgt := ws_2 (q := (yX5_scale, 6)) 14 rfl rfl
set_option maxRecDepth 20000 in
theorem xw_494 : Cond.methodLink RX5 144 yX5_scale ∈ xgt := wm_4 167 rfl rfl
set_option maxRecDepth 20000 in
theorem xw_495 : Cond.methodLink RX5 148 yX5_join ∈ xgt := wm_4 174 rfl rfl
set_option maxRecDepth 20000 in
theorem xw_496 : Cond.static yX5_join ∈ xgt := wm_4 175 rfl rfl
set_option maxRecDepth 20000 in
theorem xw_497 : Cond.code yX5_apply cX5_apply 7 none ∈ xgt := wm_4 156 rfl rfl
set_option maxRecDepth 20000 in
theorem xw_498 : Cond.fieldLink RX5 81 (TX4 11).1 (TX4 11).2.1 (TX4 11).2.2.1 ∈ xgt := wm_1 150 rfl rfl
set_option maxRecDepth 20000 in
theorem xw_499 : Cond.fieldLink RX5 95 (TX4 12).1 (TX4 12).2.1 (TX4 12).2.2.1 ∈ xgt := wm_1 156 rfl rfl
