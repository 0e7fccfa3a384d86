set_option maxRecDepth 20000 in
theorem xw_1000 : Cond.instanceMethod yX12_isCracked ∈ xgt := wm_7 207 rfl rfl
set_option maxRecDepth 20000 in
theorem xw_1001 : Cond.selects yX12_isCracked.cls yX12_isCracked yX12_isCracked ∈ xgt := ws_5 (q := (yX12_isCracked, 69)) 14 rfl rfl
set_option maxRecDepth 20000 in
theorem xw_1002 : Cond.methodLink RX12 338 yX12_isCracked ∈ xgt := wm_7 205 rfl rfl
set_option maxRecDepth 20000 in
theorem xw_1003 : Cond.instanceMethod yX12_reaches ∈ xgt := wm_8 15 rfl rfl
set_option maxRecDepth 20000 in
theorem xw_1004 : Cond.selects yX12_reaches.cls yX12_reaches yX12_reaches ∈ xgt := ws_6 (q := (yX12_reaches, 69)) 6 rfl rfl
set_option maxRecDepth 20000 in
theorem xw_1005 : Cond.methodLink RX12 378 yX12_reaches ∈ xgt := wm_8 13 rfl rfl
set_option maxRecDepth 20000 in
theorem xw_1006 : Cond.code yX12_isGang cX12_isGang 5 (some .boolean) ∈ xgt := wm_8 210 rfl rfl
set_option maxRecDepth 20000 in
theorem xw_1007 : Cond.code yX12_isHummed cX12_isHummed 2 (some .boolean) ∈ xgt := wm_8 191 rfl rfl
set_option maxRecDepth 20000 in
theorem xw_1008 : Cond.code yX12_isPart cX12_isPart 3 (some .boolean) ∈ xgt := wm_7 228 rfl rfl
set_option maxRecDepth 20000 in
theorem xw_1009 : Cond.code yX12_isRound cX12_isRound 2 (some .boolean) ∈ xgt := wm_8 217 rfl rfl
set_option maxRecDepth 20000 in
theorem xw_1010 : Cond.code yX12_isSign cX12_isSign 2 (some .boolean) ∈ xgt := wm_7 181 rfl rfl
set_option maxRecDepth 20000 in
theorem xw_1011 : Cond.code yX12_isSmall cX12_isSmall 1 (some .boolean) ∈ xgt := wm_7 71 rfl rfl
set_option maxRecDepth 20000 in
theorem xw_1012 : Cond.code yX12_isSounded cX12_isSounded 4 (some .boolean) ∈ xgt := wm_8 12 rfl rfl
set_option maxRecDepth 20000 in
theorem xw_1013 : Cond.code yX12_isTavern cX12_isTavern 2 (some .boolean) ∈ xgt := wm_7 216 rfl rfl
set_option maxRecDepth 20000 in
theorem xw_1014 : Cond.code yX12_isThief cX12_isThief 3 (some .boolean) ∈ xgt := wm_8 187 rfl rfl
set_option maxRecDepth 20000 in
theorem xw_1015 : Cond.code yX12_isVerse cX12_isVerse 2 (some .boolean) ∈ xgt := wm_7 224 rfl rfl
set_option maxRecDepth 20000 in
theorem xw_1016 : Cond.code yX12_isVoice cX12_isVoice 2 (some .boolean) ∈ xgt := wm_7 204 rfl rfl
set_option maxRecDepth 20000 in
theorem xw_1017 : Cond.code yX12_isWord cX12_isWord 2 (some .boolean) ∈ xgt := wm_7 125 rfl rfl
set_option maxRecDepth 20000 in
theorem xw_1018 : Cond.code yX12_keep cX12_keep 1 (some .int) ∈ xgt := wm_9 7 rfl rfl
set_option maxRecDepth 20000 in
theorem xw_1019 : Cond.fieldLink RX12 288 (TX12 36).1 (TX12 36).2.1 (TX12 36).2.2.1 ∈ xgt := wm_6 116 rfl rfl
set_option maxRecDepth 20000 in
theorem xw_1020 : Cond.code yX12_knot cX12_knot 1 none ∈ xgt := wm_7 161 rfl rfl
set_option maxRecDepth 20000 in
theorem xw_1021 : Cond.code yX12_known cX12_known 2 (some .boolean) ∈ xgt := wm_8 171 rfl rfl
set_option maxRecDepth 20000 in
theorem xw_1022 : Cond.code yX12_knownMany cX12_knownMany 1 (some .int) ∈ xgt := wm_8 183 rfl rfl
set_option maxRecDepth 20000 in
theorem xw_1023 : Cond.fieldLink RX12 243 (TX12 24).1 (TX12 24).2.1 (TX12 24).2.2.1 ∈ xgt := wm_6 104 rfl rfl
set_option maxRecDepth 20000 in
theorem xw_1024 : Cond.instanceMethod yX12_sumOf ∈ xgt := wm_7 144 rfl rfl
set_option maxRecDepth 20000 in
theorem xw_1025 : Cond.selects yX12_sumOf.cls yX12_sumOf yX12_sumOf ∈ xgt := ws_5 (q := (yX12_sumOf, 69)) 2 rfl rfl
set_option maxRecDepth 20000 in
theorem xw_1026 : Cond.methodLink RX12 264 yX12_sumOf ∈ xgt := wm_7 142 rfl rfl
set_option maxRecDepth 20000 in
theorem xw_1027 : Cond.code yX12_lawLine cX12_lawLine 2 none ∈ xgt := wm_7 185 rfl rfl
set_option maxRecDepth 20000 in
theorem xw_1028 : Cond.instanceMethod yX12_layDues ∈ xgt := wm_8 110 rfl rfl
set_option maxRecDepth 20000 in
theorem xw_1029 : Cond.selects yX12_layDues.cls yX12_layDues yX12_layDues ∈ xgt := ws_7 (q := (yX12_layDues, 69)) 1 rfl rfl
set_option maxRecDepth 20000 in
theorem xw_1030 : Cond.methodLink RX12 424 yX12_layDues ∈ xgt := wm_8 108 rfl rfl
set_option maxRecDepth 20000 in
theorem xw_1031 : Cond.instanceMethod yX12_tries ∈ xgt := wm_8 130 rfl rfl
set_option maxRecDepth 20000 in
theorem xw_1032 : Cond.selects yX12_tries.cls yX12_tries yX12_tries ∈ xgt := ws_7 (q := (yX12_tries, 69)) 6 rfl rfl
set_option maxRecDepth 20000 in
theorem xw_1033 : Cond.methodLink RX12 439 yX12_tries ∈ xgt := wm_8 128 rfl rfl
set_option maxRecDepth 20000 in
theorem xw_1034 : Cond.code yX12_layBest cX12_layBest 4 none ∈ xgt := wm_8 107 rfl rfl
set_option maxRecDepth 20000 in
theorem xw_1035 : Cond.code yX12_layDues cX12_layDues 3 none ∈ xgt := wm_8 111 rfl rfl
set_option maxRecDepth 20000 in
theorem xw_1036 : Cond.instanceMethod yX12_isFull ∈ xgt := wm_7 101 rfl rfl
set_option maxRecDepth 20000 in
theorem xw_1037 : Cond.selects yX12_isFull.cls yX12_isFull yX12_isFull ∈ xgt := ws_4 (q := (yX12_isFull, 69)) 8 rfl rfl
set_option maxRecDepth 20000 in
theorem xw_1038 : Cond.methodLink RX12 240 yX12_isFull ∈ xgt := wm_7 99 rfl rfl
set_option maxRecDepth 20000 in
theorem xw_1039 : Cond.instanceMethod yX12_fresh ∈ xgt := wm_7 109 rfl rfl
set_option maxRecDepth 20000 in
theorem xw_1040 : Cond.selects yX12_fresh.cls yX12_fresh yX12_fresh ∈ xgt := ws_4 (q := (yX12_fresh, 69)) 10 rfl rfl
set_option maxRecDepth 20000 in
theorem xw_1041 : Cond.methodLink RX12 246 yX12_fresh ∈ xgt := wm_7 107 rfl rfl
set_option maxRecDepth 20000 in
theorem xw_1042 : Cond.instanceMethod yX12_numeral ∈ xgt := wm_7 116 rfl rfl
set_option maxRecDepth 20000 in
theorem xw_1043 : Cond.selects yX12_numeral.cls yX12_numeral yX12_numeral ∈ xgt := ws_4 (q := (yX12_numeral, 69)) 11 rfl rfl
set_option maxRecDepth 20000 in
theorem xw_1044 : Cond.methodLink RX12 250 yX12_numeral ∈ xgt := wm_7 114 rfl rfl
set_option maxRecDepth 20000 in
theorem xw_1045 : Cond.instanceMethod yX12_reads ∈ xgt := wm_7 59 rfl rfl
set_option maxRecDepth 20000 in
theorem xw_1046 : Cond.selects yX12_reads.cls yX12_reads yX12_reads ∈ xgt := ws_4 (q := (yX12_reads, 69)) 0 rfl rfl
set_option maxRecDepth 20000 in
theorem xw_1047 : Cond.methodLink RX12 254 yX12_reads ∈ xgt := wm_7 57 rfl rfl
set_option maxRecDepth 20000 in
theorem xw_1048 : Cond.instanceMethod yX12_voiceLine ∈ xgt := wm_7 120 rfl rfl
set_option maxRecDepth 20000 in
theorem xw_1049 : Cond.selects yX12_voiceLine.cls yX12_voiceLine yX12_voiceLine ∈ xgt := ws_4 (q := (yX12_voiceLine, 69)) 12 rfl rfl
set_option maxRecDepth 20000 in
theorem xw_1050 : Cond.methodLink RX12 258 yX12_voiceLine ∈ xgt := wm_7 118 rfl rfl
set_option maxRecDepth 20000 in
theorem xw_1051 : Cond.instanceMethod yX12_verseLine ∈ xgt := wm_7 136 rfl rfl
set_option maxRecDepth 20000 in
theorem xw_1052 : Cond.selects yX12_verseLine.cls yX12_verseLine yX12_verseLine ∈ xgt := ws_5 (q := (yX12_verseLine, 69)) 0 rfl rfl
set_option maxRecDepth 20000 in
theorem xw_1053 : Cond.methodLink RX12 261 yX12_verseLine ∈ xgt := wm_7 134 rfl rfl
set_option maxRecDepth 20000 in
theorem xw_1054 : Cond.constant RX12 201 (nI 99999) ∈ xgt := wm_7 86 rfl rfl
set_option maxRecDepth 20000 in
theorem xw_1055 : Cond.instanceMethod yX12_lawLine ∈ xgt := wm_7 184 rfl rfl
set_option maxRecDepth 20000 in
theorem xw_1056 : Cond.selects yX12_lawLine.cls yX12_lawLine yX12_lawLine ∈ xgt := ws_5 (q := (yX12_lawLine, 69)) 12 rfl rfl
set_option maxRecDepth 20000 in
theorem xw_1057 : Cond.methodLink RX12 267 yX12_lawLine ∈ xgt := wm_7 182 rfl rfl
set_option maxRecDepth 20000 in
theorem xw_1058 : Cond.instanceMethod yX12_isSign ∈ xgt := wm_7 180 rfl rfl
set_option maxRecDepth 20000 in
theorem xw_1059 : Cond.selects yX12_isSign.cls yX12_isSign yX12_isSign ∈ xgt := ws_5 (q := (yX12_isSign, 69)) 11 rfl rfl
set_option maxRecDepth 20000 in
theorem xw_1060 : Cond.methodLink RX12 270 yX12_isSign ∈ xgt := wm_7 178 rfl rfl
set_option maxRecDepth 20000 in
theorem xw_1061 : Cond.fieldLink RX12 273 (TX12 25).1 (TX12 25).2.1 (TX12 25).2.2.1 ∈ xgt := wm_6 105 rfl rfl
set_option maxRecDepth 20000 in
theorem xw_1062 : Cond.code yX12_line cX12_line 4 none ∈ xgt := wm_7 94 rfl rfl
set_option maxRecDepth 20000 in
theorem xw_1063 : Cond.code yX12_look cX12_look 3 (some .int) ∈ xgt := wm_7 200 rfl rfl
set_option maxRecDepth 20000 in
theorem xw_1064 : Cond.code yX12_mayBe cX12_mayBe 4 (some .boolean) ∈ xgt := wm_8 119 rfl rfl
set_option maxRecDepth 20000 in
theorem xw_1065 : Cond.fieldLink RX12 179 (TX12 28).1 (TX12 28).2.1 (TX12 28).2.2.1 ∈ xgt := wm_6 108 rfl rfl
set_option maxRecDepth 20000 in
theorem xw_1066 : Cond.code yX12_name cX12_name 2 none ∈ xgt := wm_7 82 rfl rfl
set_option maxRecDepth 20000 in
theorem xw_1067 : Cond.code yX12_named cX12_named 3 (some .int) ∈ xgt := wm_7 196 rfl rfl
set_option maxRecDepth 20000 in
theorem xw_1068 : Cond.instanceMethod yX12_sum ∈ xgt := wm_7 168 rfl rfl
set_option maxRecDepth 20000 in
theorem xw_1069 : Cond.selects yX12_sum.cls yX12_sum yX12_sum ∈ xgt := ws_5 (q := (yX12_sum, 69)) 8 rfl rfl
set_option maxRecDepth 20000 in
theorem xw_1070 : Cond.methodLink RX12 303 yX12_sum ∈ xgt := wm_7 166 rfl rfl
set_option maxRecDepth 20000 in
theorem xw_1071 : Cond.code yX12_negation cX12_negation 2 none ∈ xgt := wm_7 157 rfl rfl
set_option maxRecDepth 20000 in
theorem xw_1072 : Cond.code yX12_numeral cX12_numeral 4 (some .int) ∈ xgt := wm_7 117 rfl rfl
set_option maxRecDepth 20000 in
theorem xw_1073 : Cond.instanceMethod yX12_thieves ∈ xgt := wm_8 173 rfl rfl
set_option maxRecDepth 20000 in
theorem xw_1074 : Cond.selects yX12_thieves.cls yX12_thieves yX12_thieves ∈ xgt := wm_8 174 rfl rfl
set_option maxRecDepth 20000 in
theorem xw_1075 : Cond.methodLink RX12 479 yX12_thieves ∈ xgt := wm_8 196 rfl rfl
set_option maxRecDepth 20000 in
theorem xw_1076 : Cond.methodLink RX12 482 yX12_common ∈ xgt := wm_8 197 rfl rfl
set_option maxRecDepth 20000 in
theorem xw_1077 : Cond.static yX12_common ∈ xgt := wm_8 198 rfl rfl
set_option maxRecDepth 20000 in
theorem xw_1078 : Cond.code yX12_odds cX12_odds 6 (some .int) ∈ xgt := wm_8 195 rfl rfl
set_option maxRecDepth 20000 in
theorem xw_1079 : Cond.code yX12_partLine cX12_partLine 3 none ∈ xgt := wm_7 141 rfl rfl
set_option maxRecDepth 20000 in
theorem xw_1080 : Cond.instanceMethod yX12_isTavern ∈ xgt := wm_7 215 rfl rfl
set_option maxRecDepth 20000 in
theorem xw_1081 : Cond.selects yX12_isTavern.cls yX12_isTavern yX12_isTavern ∈ xgt := ws_5 (q := (yX12_isTavern, 69)) 15 rfl rfl
set_option maxRecDepth 20000 in
theorem xw_1082 : Cond.methodLink RX12 341 yX12_isTavern ∈ xgt := wm_7 213 rfl rfl
set_option maxRecDepth 20000 in
theorem xw_1083 : Cond.code yX12_pay cX12_pay 5 (some .int) ∈ xgt := wm_8 237 rfl rfl
set_option maxRecDepth 20000 in
theorem xw_1084 : Cond.code yX12_pitch cX12_pitch 4 (some .int) ∈ xgt := wm_7 232 rfl rfl
set_option maxRecDepth 20000 in
theorem xw_1085 : Cond.fieldLink RX12 312 (TX12 35).1 (TX12 35).2.1 (TX12 35).2.2.1 ∈ xgt := wm_6 115 rfl rfl
set_option maxRecDepth 20000 in
theorem xw_1086 : Cond.instanceMethod yX12_expression ∈ xgt := wm_7 148 rfl rfl
set_option maxRecDepth 20000 in
theorem xw_1087 : Cond.selects yX12_expression.cls yX12_expression yX12_expression ∈ xgt := ws_5 (q := (yX12_expression, 69)) 3 rfl rfl
set_option maxRecDepth 20000 in
theorem xw_1088 : Cond.methodLink RX12 276 yX12_expression ∈ xgt := wm_7 146 rfl rfl
set_option maxRecDepth 20000 in
theorem xw_1089 : Cond.code yX12_primary cX12_primary 2 none ∈ xgt := wm_7 177 rfl rfl
set_option maxRecDepth 20000 in
theorem xw_1090 : Cond.instanceMethod yX12_primary ∈ xgt := wm_7 176 rfl rfl
set_option maxRecDepth 20000 in
theorem xw_1091 : Cond.selects yX12_primary.cls yX12_primary yX12_primary ∈ xgt := ws_5 (q := (yX12_primary, 69)) 10 rfl rfl
set_option maxRecDepth 20000 in
theorem xw_1092 : Cond.methodLink RX12 309 yX12_primary ∈ xgt := wm_7 174 rfl rfl
set_option maxRecDepth 20000 in
theorem xw_1093 : Cond.code yX12_product cX12_product 2 none ∈ xgt := wm_7 173 rfl rfl
set_option maxRecDepth 20000 in
theorem xw_1094 : Cond.code yX12_puts cX12_puts 3 none ∈ xgt := wm_7 165 rfl rfl
set_option maxRecDepth 20000 in
theorem xw_1095 : Cond.code yX12_reaches cX12_reaches 3 (some .boolean) ∈ xgt := wm_8 16 rfl rfl
set_option maxRecDepth 20000 in
theorem xw_1096 : Cond.code yX12_reads cX12_reads 3 none ∈ xgt := wm_7 60 rfl rfl
set_option maxRecDepth 20000 in
theorem xw_1097 : Cond.instanceMethod yX12_singsIn ∈ xgt := wm_8 73 rfl rfl
set_option maxRecDepth 20000 in
theorem xw_1098 : Cond.selects yX12_singsIn.cls yX12_singsIn yX12_singsIn ∈ xgt := ws_6 (q := (yX12_singsIn, 69)) 14 rfl rfl
set_option maxRecDepth 20000 in
theorem xw_1099 : Cond.methodLink RX12 414 yX12_singsIn ∈ xgt := wm_8 71 rfl rfl
set_option maxRecDepth 20000 in
theorem xw_1100 : Cond.code yX12_redeem cX12_redeem 6 (some .int) ∈ xgt := wm_8 70 rfl rfl
set_option maxRecDepth 20000 in
theorem xw_1101 : Cond.code yX12_restsOf cX12_restsOf 4 (some .int) ∈ xgt := wm_8 20 rfl rfl
set_option maxRecDepth 20000 in
theorem xw_1102 : Cond.code yX12_round cX12_round 5 (some .int) ∈ xgt := wm_8 214 rfl rfl
set_option maxRecDepth 20000 in
theorem xw_1103 : Cond.code yX12_rows cX12_rows 10 none ∈ xgt := wm_8 221 rfl rfl
set_option maxRecDepth 20000 in
theorem xw_1104 : Cond.instanceMethod yX12_hasOf ∈ xgt := wm_8 232 rfl rfl
set_option maxRecDepth 20000 in
theorem xw_1105 : Cond.selects yX12_hasOf.cls yX12_hasOf yX12_hasOf ∈ xgt := ws_8 (q := (yX12_hasOf, 69)) 1 rfl rfl
set_option maxRecDepth 20000 in
theorem xw_1106 : Cond.methodLink RX12 501 yX12_hasOf ∈ xgt := wm_8 230 rfl rfl
set_option maxRecDepth 20000 in
theorem xw_1107 : Cond.code yX12_run cX12_run 3 (some .int) ∈ xgt := wm_8 229 rfl rfl
set_option maxRecDepth 20000 in
theorem xw_1108 : Cond.fieldLink RX12 455 (TX12 59).1 (TX12 59).2.1 (TX12 59).2.2.1 ∈ xgt := wm_6 139 rfl rfl
set_option maxRecDepth 20000 in
theorem xw_1109 : Cond.fieldLink RX12 458 (TX12 60).1 (TX12 60).2.1 (TX12 60).2.2.1 ∈ xgt := wm_6 140 rfl rfl
set_option maxRecDepth 20000 in
theorem xw_1110 : Cond.code yX12_sells cX12_sells 8 (some .int) ∈ xgt := wm_8 155 rfl rfl
set_option maxRecDepth 20000 in
theorem xw_1111 : Cond.instanceMethod yX12_here ∈ xgt := wm_7 67 rfl rfl
set_option maxRecDepth 20000 in
theorem xw_1112 : Cond.selects yX12_here.cls yX12_here yX12_here ∈ xgt := ws_4 (q := (yX12_here, 69)) 2 rfl rfl
set_option maxRecDepth 20000 in
theorem xw_1113 : Cond.methodLink RX12 175 yX12_here ∈ xgt := wm_7 65 rfl rfl
set_option maxRecDepth 20000 in
theorem xw_1114 : Cond.code yX12_sign cX12_sign 2 none ∈ xgt := wm_7 90 rfl rfl
set_option maxRecDepth 20000 in
theorem xw_1115 : Cond.code yX12_sings cX12_sings 4 (some .int) ∈ xgt := wm_8 82 rfl rfl
set_option maxRecDepth 20000 in
theorem xw_1116 : Cond.code yX12_singsIn cX12_singsIn 4 (some .boolean) ∈ xgt := wm_8 74 rfl rfl
set_option maxRecDepth 20000 in
theorem xw_1117 : Cond.code yX12_sold cX12_sold 4 (some .int) ∈ xgt := wm_8 147 rfl rfl
set_option maxRecDepth 20000 in
theorem xw_1118 : Cond.code yX12_sounds cX12_sounds 4 (some .int) ∈ xgt := wm_8 49 rfl rfl
set_option maxRecDepth 20000 in
theorem xw_1119 : Cond.code yX12_soundsOf cX12_soundsOf 5 (some .int) ∈ xgt := wm_8 8 rfl rfl
set_option maxRecDepth 20000 in
theorem xw_1120 : Cond.code yX12_starts cX12_starts 2 none ∈ xgt := wm_8 115 rfl rfl
set_option maxRecDepth 20000 in
theorem xw_1121 : Cond.code yX12_strike cX12_strike 2 (some .int) ∈ xgt := wm_8 167 rfl rfl
set_option maxRecDepth 20000 in
theorem xw_1122 : Cond.code yX12_strikes cX12_strikes 2 none ∈ xgt := wm_8 179 rfl rfl
set_option maxRecDepth 20000 in
theorem xw_1123 : Cond.instanceMethod yX12_product ∈ xgt := wm_7 172 rfl rfl
set_option maxRecDepth 20000 in
theorem xw_1124 : Cond.selects yX12_product.cls yX12_product yX12_product ∈ xgt := ws_5 (q := (yX12_product, 69)) 9 rfl rfl
set_option maxRecDepth 20000 in
theorem xw_1125 : Cond.methodLink RX12 306 yX12_product ∈ xgt := wm_7 170 rfl rfl
set_option maxRecDepth 20000 in
theorem xw_1126 : Cond.code yX12_sum cX12_sum 2 none ∈ xgt := wm_7 169 rfl rfl
set_option maxRecDepth 20000 in
theorem xw_1127 : Cond.code yX12_sumOf cX12_sumOf 2 none ∈ xgt := wm_7 145 rfl rfl
set_option maxRecDepth 20000 in
theorem xw_1128 : Cond.instanceMethod yX12_draw ∈ xgt := wm_8 93 rfl rfl
set_option maxRecDepth 20000 in
theorem xw_1129 : Cond.selects yX12_draw.cls yX12_draw yX12_draw ∈ xgt := ws_6 (q := (yX12_draw, 69)) 15 rfl rfl
set_option maxRecDepth 20000 in
theorem xw_1130 : Cond.methodLink RX12 421 yX12_draw ∈ xgt := wm_8 91 rfl rfl
set_option maxRecDepth 20000 in
theorem xw_1131 : Cond.code yX12_sunday cX12_sunday 4 (some .int) ∈ xgt := wm_8 90 rfl rfl
set_option maxRecDepth 20000 in
theorem xw_1132 : Cond.code yX12_tavern cX12_tavern 5 (some .int) ∈ xgt := wm_7 212 rfl rfl
set_option maxRecDepth 20000 in
theorem xw_1133 : Cond.code yX12_tavernAhead cX12_tavernAhead 2 (some .int) ∈ xgt := wm_7 129 rfl rfl
set_option maxRecDepth 20000 in
theorem xw_1134 : Cond.fieldLink RX12 220 (TX12 32).1 (TX12 32).2.1 (TX12 32).2.2.1 ∈ xgt := wm_6 112 rfl rfl
set_option maxRecDepth 20000 in
theorem xw_1135 : Cond.instanceMethod yX12_line ∈ xgt := wm_7 93 rfl rfl
set_option maxRecDepth 20000 in
theorem xw_1136 : Cond.selects yX12_line.cls yX12_line yX12_line ∈ xgt := ws_4 (q := (yX12_line, 69)) 6 rfl rfl
set_option maxRecDepth 20000 in
theorem xw_1137 : Cond.methodLink RX12 315 yX12_line ∈ xgt := wm_7 91 rfl rfl
set_option maxRecDepth 20000 in
theorem xw_1138 : Cond.methodLink RX12 321 yX12_half ∈ xgt := wm_7 186 rfl rfl
set_option maxRecDepth 20000 in
theorem xw_1139 : Cond.static yX12_half ∈ xgt := wm_7 187 rfl rfl
set_option maxRecDepth 20000 in
theorem xw_1140 : Cond.code yX12_text cX12_text 3 (some .int) ∈ xgt := wm_7 56 rfl rfl
set_option maxRecDepth 20000 in
theorem xw_1141 : Cond.instanceMethod yX12_isThief ∈ xgt := wm_8 186 rfl rfl
set_option maxRecDepth 20000 in
theorem xw_1142 : Cond.selects yX12_isThief.cls yX12_isThief yX12_isThief ∈ xgt := ws_7 (q := (yX12_isThief, 69)) 13 rfl rfl
set_option maxRecDepth 20000 in
theorem xw_1143 : Cond.methodLink RX12 476 yX12_isThief ∈ xgt := wm_8 184 rfl rfl
set_option maxRecDepth 20000 in
theorem xw_1144 : Cond.code yX12_thieves cX12_thieves 3 (some .int) ∈ xgt := wm_8 175 rfl rfl
set_option maxRecDepth 20000 in
theorem xw_1145 : Cond.methodLink RX12 185 yX12_isSmall ∈ xgt := wm_7 69 rfl rfl
set_option maxRecDepth 20000 in
theorem xw_1146 : Cond.static yX12_isSmall ∈ xgt := wm_7 70 rfl rfl
set_option maxRecDepth 20000 in
theorem xw_1147 : Cond.instanceMethod yX12_word ∈ xgt := wm_7 74 rfl rfl
set_option maxRecDepth 20000 in
theorem xw_1148 : Cond.selects yX12_word.cls yX12_word yX12_word ∈ xgt := ws_4 (q := (yX12_word, 69)) 3 rfl rfl
set_option maxRecDepth 20000 in
theorem xw_1149 : Cond.methodLink RX12 189 yX12_word ∈ xgt := wm_7 72 rfl rfl
set_option maxRecDepth 20000 in
theorem xw_1150 : Cond.instanceMethod yX12_name ∈ xgt := wm_7 81 rfl rfl
set_option maxRecDepth 20000 in
theorem xw_1151 : Cond.selects yX12_name.cls yX12_name yX12_name ∈ xgt := ws_4 (q := (yX12_name, 69)) 4 rfl rfl
set_option maxRecDepth 20000 in
theorem xw_1152 : Cond.methodLink RX12 195 yX12_name ∈ xgt := wm_7 79 rfl rfl
set_option maxRecDepth 20000 in
theorem xw_1153 : Cond.methodLink RX12 198 yX12_isDigit ∈ xgt := wm_7 83 rfl rfl
set_option maxRecDepth 20000 in
theorem xw_1154 : Cond.static yX12_isDigit ∈ xgt := wm_7 84 rfl rfl
set_option maxRecDepth 20000 in
theorem xw_1155 : Cond.instanceMethod yX12_sign ∈ xgt := wm_7 89 rfl rfl
set_option maxRecDepth 20000 in
theorem xw_1156 : Cond.selects yX12_sign.cls yX12_sign yX12_sign ∈ xgt := ws_4 (q := (yX12_sign, 69)) 5 rfl rfl
set_option maxRecDepth 20000 in
theorem xw_1157 : Cond.methodLink RX12 202 yX12_sign ∈ xgt := wm_7 87 rfl rfl
set_option maxRecDepth 20000 in
theorem xw_1158 : Cond.code yX12_token cX12_token 2 none ∈ xgt := wm_7 64 rfl rfl
set_option maxRecDepth 20000 in
theorem xw_1159 : Cond.code yX12_tries cX12_tries 9 none ∈ xgt := wm_8 131 rfl rfl
set_option maxRecDepth 20000 in
theorem xw_1160 : Cond.code yX12_undo cX12_undo 3 (some .int) ∈ xgt := wm_8 78 rfl rfl
set_option maxRecDepth 20000 in
theorem xw_1161 : Cond.code yX12_verse cX12_verse 3 (some .int) ∈ xgt := wm_7 220 rfl rfl
set_option maxRecDepth 20000 in
theorem xw_1162 : Cond.instanceMethod yX12_partLine ∈ xgt := wm_7 140 rfl rfl
set_option maxRecDepth 20000 in
theorem xw_1163 : Cond.selects yX12_partLine.cls yX12_partLine yX12_partLine ∈ xgt := ws_5 (q := (yX12_partLine, 69)) 1 rfl rfl
set_option maxRecDepth 20000 in
theorem xw_1164 : Cond.methodLink RX12 285 yX12_partLine ∈ xgt := wm_7 138 rfl rfl
set_option maxRecDepth 20000 in
theorem xw_1165 : Cond.code yX12_verseLine cX12_verseLine 2 none ∈ xgt := wm_7 137 rfl rfl
set_option maxRecDepth 20000 in
theorem xw_1166 : Cond.instanceMethod yX12_tavernAhead ∈ xgt := wm_7 128 rfl rfl
set_option maxRecDepth 20000 in
theorem xw_1167 : Cond.selects yX12_tavernAhead.cls yX12_tavernAhead yX12_tavernAhead ∈ xgt := ws_4 (q := (yX12_tavernAhead, 69)) 14 rfl rfl
set_option maxRecDepth 20000 in
theorem xw_1168 : Cond.methodLink RX12 282 yX12_tavernAhead ∈ xgt := wm_7 126 rfl rfl
set_option maxRecDepth 20000 in
theorem xw_1169 : Cond.code yX12_voiceLine cX12_voiceLine 2 none ∈ xgt := wm_7 121 rfl rfl
set_option maxRecDepth 20000 in
theorem xw_1170 : Cond.constantLong RX12 504 (lN 18446744073709551615) ∈ xgt := wm_9 2 rfl rfl
set_option maxRecDepth 20000 in
theorem xw_1171 : Cond.constantLong RX12 506 (lN 100) ∈ xgt := wm_9 3 rfl rfl
set_option maxRecDepth 20000 in
theorem xw_1172 : Cond.code yX12_whole cX12_whole 10 (some .long) ∈ xgt := wm_9 1 rfl rfl
set_option maxRecDepth 20000 in
theorem xw_1173 : Cond.instanceMethod yX12_goes ∈ xgt := wm_8 32 rfl rfl
set_option maxRecDepth 20000 in
theorem xw_1174 : Cond.selects yX12_goes.cls yX12_goes yX12_goes ∈ xgt := ws_6 (q := (yX12_goes, 69)) 10 rfl rfl
set_option maxRecDepth 20000 in
theorem xw_1175 : Cond.methodLink RX12 368 yX12_goes ∈ xgt := wm_8 30 rfl rfl
set_option maxRecDepth 20000 in
theorem xw_1176 : Cond.methodLink RX12 371 yJ9_min_f86c9 ∈ xgt := wm_8 44 rfl rfl
set_option maxRecDepth 20000 in
theorem xw_1177 : Cond.code yX12_within cX12_within 4 (some .int) ∈ xgt := wm_8 29 rfl rfl
set_option maxRecDepth 20000 in
theorem xw_1178 : Cond.methodLink RX12 208 yJ0_length_8abf5 ∈ xgt := wm_7 77 rfl rfl
set_option maxRecDepth 20000 in
theorem xw_1179 : Cond.methodLink RX12 213 yJ0_charAt_5068e ∈ xgt := wm_7 78 rfl rfl
set_option maxRecDepth 20000 in
theorem xw_1180 : Cond.code yX12_word cX12_word 4 (some .int) ∈ xgt := wm_7 75 rfl rfl
set_option maxRecDepth 20000 in
theorem xw_1181 : Cond.methodLink RX12 351 yX12_is ∈ xgt := wm_8 38 rfl rfl
set_option maxRecDepth 20000 in
theorem xw_1182 : Cond.static yX12_is ∈ xgt := wm_8 39 rfl rfl
set_option maxRecDepth 20000 in
theorem xw_1183 : Cond.methodLink RX12 355 yJ9_abs_067f4 ∈ xgt := wm_8 41 rfl rfl
set_option maxRecDepth 20000 in
theorem xw_1184 : Cond.constantLong RX12 361 (lN 1000000000000) ∈ xgt := wm_8 42 rfl rfl
set_option maxRecDepth 20000 in
theorem xw_1185 : Cond.constantLong RX12 363 (lN 18446743073709551616) ∈ xgt := wm_8 43 rfl rfl
set_option maxRecDepth 20000 in
theorem xw_1186 : Cond.code yX12_works cX12_works 8 (some .boolean) ∈ xgt := wm_8 37 rfl rfl
set_option maxRecDepth 20000 in
theorem xw_1187 : Cond.code yX12_wrong cX12_wrong 2 none ∈ xgt := wm_7 98 rfl rfl
set_option maxRecDepth 20000 in
theorem xw_1188 : Cond.constant RJ6 265 (nI 1431655765) ∈ xgt := wm_4 126 rfl rfl
set_option maxRecDepth 20000 in
theorem xw_1189 : Cond.constant RJ6 266 (nI 858993459) ∈ xgt := wm_4 127 rfl rfl
set_option maxRecDepth 20000 in
theorem xw_1190 : Cond.constant RJ6 267 (nI 252645135) ∈ xgt := wm_4 128 rfl rfl
set_option maxRecDepth 20000 in
theorem xw_1191 : Cond.code yJ6_bitCount_0f7a4 cJ6_bitCount_0f7a4 1 (some .int) ∈ xgt := wm_4 125 rfl rfl
set_option maxRecDepth 20000 in
theorem xw_1192 : Cond.initialized RJ6 ∈ xgt := wm_1 26 rfl rfl
set_option maxRecDepth 20000 in
theorem xw_1193 : Cond.constantLong RJ13 314 (lN 6148914691236517205) ∈ xgt := wm_5 173 rfl rfl
set_option maxRecDepth 20000 in
theorem xw_1194 : Cond.constantLong RJ13 316 (lN 3689348814741910323) ∈ xgt := wm_5 174 rfl rfl
set_option maxRecDepth 20000 in
theorem xw_1195 : Cond.constantLong RJ13 318 (lN 1085102592571150095) ∈ xgt := wm_5 175 rfl rfl
set_option maxRecDepth 20000 in
theorem xw_1196 : Cond.code yJ13_bitCount_95d88 cJ13_bitCount_95d88 2 (some .int) ∈ xgt := wm_5 172 rfl rfl
set_option maxRecDepth 20000 in
theorem xw_1197 : Cond.initialized RJ13 ∈ xgt := wm_1 27 rfl rfl
set_option maxRecDepth 20000 in
theorem xw_1198 : Cond.code yJ9_abs_067f4 cJ9_abs_067f4 2 (some .long) ∈ xgt := wm_4 173 rfl rfl
set_option maxRecDepth 20000 in
theorem xw_1199 : Cond.initialized RJ9 ∈ xgt := wm_1 20 rfl rfl
set_option maxRecDepth 20000 in
theorem xw_1200 : Cond.code yJ9_max_7cf53 cJ9_max_7cf53 2 (some .int) ∈ xgt := wm_4 143 rfl rfl
set_option maxRecDepth 20000 in
theorem xw_1201 : Cond.code yJ9_max_f86c9 cJ9_max_f86c9 4 (some .long) ∈ xgt := wm_4 182 rfl rfl
set_option maxRecDepth 20000 in
theorem xw_1202 : Cond.code yJ9_min_7cf53 cJ9_min_7cf53 2 (some .int) ∈ xgt := wm_3 153 rfl rfl
set_option maxRecDepth 20000 in
theorem xw_1203 : Cond.code yJ9_min_f86c9 cJ9_min_f86c9 4 (some .long) ∈ xgt := wm_4 179 rfl rfl
set_option maxRecDepth 20000 in
theorem xw_1204 : Cond.instanceMethod yJ0_isLatin1_aae02 ∈ xgt := wm_2 3 rfl rfl
set_option maxRecDepth 20000 in
theorem xw_1205 : Cond.selects yJ0_isLatin1_aae02.cls yJ0_isLatin1_aae02 yJ0_isLatin1_aae02 ∈ xgt := wm_2 4 rfl rfl
set_option maxRecDepth 20000 in
theorem xw_1206 : Cond.methodLink RJ0 492 yJ0_isLatin1_aae02 ∈ xgt := wm_2 2 rfl rfl
set_option maxRecDepth 20000 in
theorem xw_1207 : Cond.fieldLink RJ0 9 "java/lang/String" "value" "[B" ∈ xgt := wm_9 38 rfl rfl
set_option maxRecDepth 20000 in
theorem xw_1208 : Cond.methodLink RJ0 495 yJ1_charAt_3b067 ∈ xgt := wm_2 6 rfl rfl
set_option maxRecDepth 20000 in
theorem xw_1209 : Cond.static yJ1_charAt_3b067 ∈ xgt := wm_2 7 rfl rfl
set_option maxRecDepth 20000 in
theorem xw_1210 : Cond.code yJ0_charAt_5068e cJ0_charAt_5068e 2 (some .char) ∈ xgt := wm_2 1 rfl rfl
set_option maxRecDepth 20000 in
theorem xw_1211 : Cond.initialized RJ0 ∈ xgt := wm_1 7 rfl rfl
set_option maxRecDepth 20000 in
theorem xw_1212 : Cond.fieldLink RJ0 1053 "jdk/internal/util/Preconditions" "SIOOBE_FORMATTER" "Ljava/util/function/BiFunction;" ∈ xgt := wm_2 12 rfl rfl
set_option maxRecDepth 20000 in
theorem xw_1213 : Cond.methodLink RJ0 1059 yJ3_checkIndex_8e157 ∈ xgt := wm_2 14 rfl rfl
set_option maxRecDepth 20000 in
theorem xw_1214 : Cond.static yJ3_checkIndex_8e157 ∈ xgt := wm_2 15 rfl rfl
set_option maxRecDepth 20000 in
theorem xw_1215 : Cond.code yJ0_checkIndex_df160 cJ0_checkIndex_df160 2 none ∈ xgt := wm_2 11 rfl rfl
set_option maxRecDepth 20000 in
theorem xw_1216 : Cond.fieldLink RJ0 38 "java/lang/String" "COMPACT_STRINGS" "Z" ∈ xgt := wm_1 236 rfl rfl
set_option maxRecDepth 20000 in
theorem xw_1217 : Cond.fieldLink RJ0 15 "java/lang/String" "coder" "B" ∈ xgt := wm_9 39 rfl rfl
set_option maxRecDepth 20000 in
theorem xw_1218 : Cond.code yJ0_coder_7d493 cJ0_coder_7d493 1 (some .byte) ∈ xgt := wm_1 235 rfl rfl
set_option maxRecDepth 20000 in
theorem xw_1219 : Cond.code yJ0_isLatin1_aae02 cJ0_isLatin1_aae02 1 (some .boolean) ∈ xgt := wm_2 5 rfl rfl
set_option maxRecDepth 20000 in
theorem xw_1220 : Cond.instanceMethod yJ0_coder_7d493 ∈ xgt := wm_1 233 rfl rfl
set_option maxRecDepth 20000 in
theorem xw_1221 : Cond.selects yJ0_coder_7d493.cls yJ0_coder_7d493 yJ0_coder_7d493 ∈ xgt := wm_1 234 rfl rfl
set_option maxRecDepth 20000 in
theorem xw_1222 : Cond.methodLink RJ0 335 yJ0_coder_7d493 ∈ xgt := wm_1 232 rfl rfl
set_option maxRecDepth 20000 in
theorem xw_1223 : Cond.code yJ0_length_8abf5 cJ0_length_8abf5 1 (some .int) ∈ xgt := wm_1 231 rfl rfl
set_option maxRecDepth 20000 in
theorem xw_1224 : Cond.methodLink RJ1 9 yJ0_checkIndex_df160 ∈ xgt := wm_2 9 rfl rfl
set_option maxRecDepth 20000 in
theorem xw_1225 : Cond.static yJ0_checkIndex_df160 ∈ xgt := wm_2 10 rfl rfl
set_option maxRecDepth 20000 in
theorem xw_1226 : Cond.code yJ1_charAt_3b067 cJ1_charAt_3b067 2 (some .char) ∈ xgt := wm_2 8 rfl rfl
set_option maxRecDepth 20000 in
theorem xw_1227 : Cond.initialized RJ1 ∈ xgt := wm_1 8 rfl rfl
set_option maxRecDepth 20000 in
theorem xw_1228 : Cond.code yJ7_fill_53178 cJ7_fill_53178 4 none ∈ xgt := wm_3 68 rfl rfl
set_option maxRecDepth 20000 in
theorem xw_1229 : Cond.initialized RJ7 ∈ xgt := wm_1 17 rfl rfl
set_option maxRecDepth 20000 in
theorem xw_1230 : Cond.code yJ3_checkIndex_8e157 cJ3_checkIndex_8e157 3 (some .int) ∈ xgt := wm_2 16 rfl rfl
set_option maxRecDepth 20000 in
theorem xw_1231 : Cond.initialized RJ3 ∈ xgt := wm_1 9 rfl rfl
set_option maxRecDepth 20000 in
theorem xw_1232 : Cond.classLink RL 8 RX11 ∈ xgt := wm_1 28 rfl rfl
set_option maxRecDepth 20000 in
theorem xw_1233 : Cond.instantiable RX11 15 ∈ xgt := wm_1 29 rfl rfl
set_option maxRecDepth 20000 in
theorem xw_1234 : Cond.instanceMethod yX11_init ∈ xgt := wm_1 31 rfl rfl
set_option maxRecDepth 20000 in
theorem xw_1235 : Cond.methodLink RL 17 yX11_init ∈ xgt := wm_1 30 rfl rfl
set_option maxRecDepth 20000 in
theorem xw_1236 : Cond.classLink RL 18 RX12 ∈ xgt := wm_6 70 rfl rfl
set_option maxRecDepth 20000 in
theorem xw_1237 : Cond.instantiable RX12 69 ∈ xgt := wm_6 71 rfl rfl
set_option maxRecDepth 20000 in
theorem xw_1238 : Cond.instanceMethod yX12_init ∈ xgt := wm_6 73 rfl rfl
set_option maxRecDepth 20000 in
theorem xw_1239 : Cond.methodLink RL 20 yX12_init ∈ xgt := wm_6 72 rfl rfl
set_option maxRecDepth 20000 in
theorem xw_1240 : Cond.instanceMethod yX11_feed ∈ xgt := wm_3 123 rfl rfl
set_option maxRecDepth 20000 in
theorem xw_1241 : Cond.selects yX11_feed.cls yX11_feed yX11_feed ∈ xgt := wm_3 124 rfl rfl
set_option maxRecDepth 20000 in
theorem xw_1242 : Cond.methodLink RL 21 yX11_feed ∈ xgt := wm_3 122 rfl rfl
set_option maxRecDepth 20000 in
theorem xw_1243 : Cond.instanceMethod yX12_feed ∈ xgt := wm_7 50 rfl rfl
set_option maxRecDepth 20000 in
theorem xw_1244 : Cond.selects yX12_feed.cls yX12_feed yX12_feed ∈ xgt := wm_7 51 rfl rfl
set_option maxRecDepth 20000 in
theorem xw_1245 : Cond.methodLink RL 25 yX12_feed ∈ xgt := wm_7 49 rfl rfl
set_option maxRecDepth 20000 in
theorem xw_1246 : Cond.instanceMethod yX11_text ∈ xgt := wm_3 131 rfl rfl
set_option maxRecDepth 20000 in
theorem xw_1247 : Cond.selects yX11_text.cls yX11_text yX11_text ∈ xgt := wm_3 132 rfl rfl
set_option maxRecDepth 20000 in
theorem xw_1248 : Cond.methodLink RL 26 yX11_text ∈ xgt := wm_3 130 rfl rfl
set_option maxRecDepth 20000 in
theorem xw_1249 : Cond.instanceMethod yX12_text ∈ xgt := wm_7 54 rfl rfl
set_option maxRecDepth 20000 in
theorem xw_1250 : Cond.selects yX12_text.cls yX12_text yX12_text ∈ xgt := wm_7 55 rfl rfl
set_option maxRecDepth 20000 in
theorem xw_1251 : Cond.methodLink RL 30 yX12_text ∈ xgt := wm_7 53 rfl rfl
set_option maxRecDepth 20000 in
theorem xw_1252 : Cond.instanceMethod yX11_fault ∈ xgt := wm_4 63 rfl rfl
set_option maxRecDepth 20000 in
theorem xw_1253 : Cond.selects yX11_fault.cls yX11_fault yX11_fault ∈ xgt := wm_4 64 rfl rfl
set_option maxRecDepth 20000 in
theorem xw_1254 : Cond.methodLink RL 31 yX11_fault ∈ xgt := wm_4 62 rfl rfl
set_option maxRecDepth 20000 in
theorem xw_1255 : Cond.instanceMethod yX12_fault ∈ xgt := wm_7 190 rfl rfl
set_option maxRecDepth 20000 in
theorem xw_1256 : Cond.selects yX12_fault.cls yX12_fault yX12_fault ∈ xgt := wm_7 191 rfl rfl
set_option maxRecDepth 20000 in
theorem xw_1257 : Cond.methodLink RL 34 yX12_fault ∈ xgt := wm_7 189 rfl rfl
set_option maxRecDepth 20000 in
theorem xw_1258 : Cond.instanceMethod yX11_named ∈ xgt := wm_4 67 rfl rfl
set_option maxRecDepth 20000 in
theorem xw_1259 : Cond.selects yX11_named.cls yX11_named yX11_named ∈ xgt := wm_4 68 rfl rfl
set_option maxRecDepth 20000 in
theorem xw_1260 : Cond.methodLink RL 35 yX11_named ∈ xgt := wm_4 66 rfl rfl
set_option maxRecDepth 20000 in
theorem xw_1261 : Cond.instanceMethod yX12_named ∈ xgt := wm_7 194 rfl rfl
set_option maxRecDepth 20000 in
theorem xw_1262 : Cond.selects yX12_named.cls yX12_named yX12_named ∈ xgt := wm_7 195 rfl rfl
set_option maxRecDepth 20000 in
theorem xw_1263 : Cond.methodLink RL 38 yX12_named ∈ xgt := wm_7 193 rfl rfl
set_option maxRecDepth 20000 in
theorem xw_1264 : Cond.instanceMethod yX12_look ∈ xgt := wm_7 198 rfl rfl
set_option maxRecDepth 20000 in
theorem xw_1265 : Cond.selects yX12_look.cls yX12_look yX12_look ∈ xgt := wm_7 199 rfl rfl
set_option maxRecDepth 20000 in
theorem xw_1266 : Cond.methodLink RL 44 yX12_look ∈ xgt := wm_7 197 rfl rfl
set_option maxRecDepth 20000 in
theorem xw_1267 : Cond.instanceMethod yX11_tavern ∈ xgt := wm_4 72 rfl rfl
set_option maxRecDepth 20000 in
theorem xw_1268 : Cond.selects yX11_tavern.cls yX11_tavern yX11_tavern ∈ xgt := wm_4 73 rfl rfl
set_option maxRecDepth 20000 in
theorem xw_1269 : Cond.methodLink RL 45 yX11_tavern ∈ xgt := wm_4 71 rfl rfl
set_option maxRecDepth 20000 in
theorem xw_1270 : Cond.instanceMethod yX12_tavern ∈ xgt := wm_7 210 rfl rfl
set_option maxRecDepth 20000 in
theorem xw_1271 : Cond.selects yX12_tavern.cls yX12_tavern yX12_tavern ∈ xgt := wm_7 211 rfl rfl
set_option maxRecDepth 20000 in
theorem xw_1272 : Cond.methodLink RL 48 yX12_tavern ∈ xgt := wm_7 209 rfl rfl
set_option maxRecDepth 20000 in
theorem xw_1273 : Cond.instanceMethod yX11_verse ∈ xgt := wm_4 84 rfl rfl
set_option maxRecDepth 20000 in
theorem xw_1274 : Cond.selects yX11_verse.cls yX11_verse yX11_verse ∈ xgt := wm_4 85 rfl rfl
set_option maxRecDepth 20000 in
theorem xw_1275 : Cond.methodLink RL 49 yX11_verse ∈ xgt := wm_4 83 rfl rfl
set_option maxRecDepth 20000 in
theorem xw_1276 : Cond.instanceMethod yX12_verse ∈ xgt := wm_7 218 rfl rfl
set_option maxRecDepth 20000 in
theorem xw_1277 : Cond.selects yX12_verse.cls yX12_verse yX12_verse ∈ xgt := wm_7 219 rfl rfl
set_option maxRecDepth 20000 in
theorem xw_1278 : Cond.methodLink RL 52 yX12_verse ∈ xgt := wm_7 217 rfl rfl
set_option maxRecDepth 20000 in
theorem xw_1279 : Cond.instanceMethod yX11_pitch ∈ xgt := wm_4 94 rfl rfl
set_option maxRecDepth 20000 in
theorem xw_1280 : Cond.selects yX11_pitch.cls yX11_pitch yX11_pitch ∈ xgt := wm_4 95 rfl rfl
set_option maxRecDepth 20000 in
theorem xw_1281 : Cond.methodLink RL 53 yX11_pitch ∈ xgt := wm_4 93 rfl rfl
set_option maxRecDepth 20000 in
theorem xw_1282 : Cond.instanceMethod yX12_pitch ∈ xgt := wm_7 230 rfl rfl
set_option maxRecDepth 20000 in
theorem xw_1283 : Cond.selects yX12_pitch.cls yX12_pitch yX12_pitch ∈ xgt := wm_7 231 rfl rfl
set_option maxRecDepth 20000 in
theorem xw_1284 : Cond.methodLink RL 57 yX12_pitch ∈ xgt := wm_7 229 rfl rfl
set_option maxRecDepth 20000 in
theorem xw_1285 : Cond.instanceMethod yX11_due ∈ xgt := wm_4 102 rfl rfl
set_option maxRecDepth 20000 in
theorem xw_1286 : Cond.selects yX11_due.cls yX11_due yX11_due ∈ xgt := wm_4 103 rfl rfl
set_option maxRecDepth 20000 in
theorem xw_1287 : Cond.methodLink RL 58 yX11_due ∈ xgt := wm_4 101 rfl rfl
set_option maxRecDepth 20000 in
theorem xw_1288 : Cond.instanceMethod yX12_due ∈ xgt := wm_7 234 rfl rfl
set_option maxRecDepth 20000 in
theorem xw_1289 : Cond.selects yX12_due.cls yX12_due yX12_due ∈ xgt := wm_7 235 rfl rfl
set_option maxRecDepth 20000 in
theorem xw_1290 : Cond.methodLink RL 61 yX12_due ∈ xgt := wm_7 233 rfl rfl
set_option maxRecDepth 20000 in
theorem xw_1291 : Cond.instanceMethod yX11_sounds ∈ xgt := wm_4 184 rfl rfl
set_option maxRecDepth 20000 in
theorem xw_1292 : Cond.selects yX11_sounds.cls yX11_sounds yX11_sounds ∈ xgt := wm_4 185 rfl rfl
set_option maxRecDepth 20000 in
theorem xw_1293 : Cond.methodLink RL 62 yX11_sounds ∈ xgt := wm_4 183 rfl rfl
set_option maxRecDepth 20000 in
theorem xw_1294 : Cond.instanceMethod yX12_sounds ∈ xgt := wm_8 47 rfl rfl
set_option maxRecDepth 20000 in
theorem xw_1295 : Cond.selects yX12_sounds.cls yX12_sounds yX12_sounds ∈ xgt := wm_8 48 rfl rfl
set_option maxRecDepth 20000 in
theorem xw_1296 : Cond.methodLink RL 65 yX12_sounds ∈ xgt := wm_8 46 rfl rfl
set_option maxRecDepth 20000 in
theorem xw_1297 : Cond.instanceMethod yX11_bids ∈ xgt := wm_4 190 rfl rfl
set_option maxRecDepth 20000 in
theorem xw_1298 : Cond.selects yX11_bids.cls yX11_bids yX11_bids ∈ xgt := wm_4 191 rfl rfl
set_option maxRecDepth 20000 in
theorem xw_1299 : Cond.methodLink RL 66 yX11_bids ∈ xgt := wm_4 189 rfl rfl
set_option maxRecDepth 20000 in
theorem xw_1300 : Cond.instanceMethod yX12_bids ∈ xgt := wm_8 51 rfl rfl
set_option maxRecDepth 20000 in
theorem xw_1301 : Cond.selects yX12_bids.cls yX12_bids yX12_bids ∈ xgt := wm_8 52 rfl rfl
set_option maxRecDepth 20000 in
theorem xw_1302 : Cond.methodLink RL 69 yX12_bids ∈ xgt := wm_8 50 rfl rfl
set_option maxRecDepth 20000 in
theorem xw_1303 : Cond.instanceMethod yX11_cracks ∈ xgt := wm_4 200 rfl rfl
set_option maxRecDepth 20000 in
theorem xw_1304 : Cond.selects yX11_cracks.cls yX11_cracks yX11_cracks ∈ xgt := wm_4 201 rfl rfl
set_option maxRecDepth 20000 in
theorem xw_1305 : Cond.methodLink RL 70 yX11_cracks ∈ xgt := wm_4 199 rfl rfl
set_option maxRecDepth 20000 in
theorem xw_1306 : Cond.instanceMethod yX12_cracks ∈ xgt := wm_8 60 rfl rfl
set_option maxRecDepth 20000 in
theorem xw_1307 : Cond.selects yX12_cracks.cls yX12_cracks yX12_cracks ∈ xgt := wm_8 61 rfl rfl
set_option maxRecDepth 20000 in
theorem xw_1308 : Cond.methodLink RL 73 yX12_cracks ∈ xgt := wm_8 59 rfl rfl
set_option maxRecDepth 20000 in
theorem xw_1309 : Cond.instanceMethod yX11_redeem ∈ xgt := wm_4 208 rfl rfl
set_option maxRecDepth 20000 in
theorem xw_1310 : Cond.selects yX11_redeem.cls yX11_redeem yX11_redeem ∈ xgt := wm_4 209 rfl rfl
set_option maxRecDepth 20000 in
theorem xw_1311 : Cond.methodLink RL 74 yX11_redeem ∈ xgt := wm_4 207 rfl rfl
set_option maxRecDepth 20000 in
theorem xw_1312 : Cond.instanceMethod yX12_redeem ∈ xgt := wm_8 68 rfl rfl
set_option maxRecDepth 20000 in
theorem xw_1313 : Cond.selects yX12_redeem.cls yX12_redeem yX12_redeem ∈ xgt := wm_8 69 rfl rfl
set_option maxRecDepth 20000 in
theorem xw_1314 : Cond.methodLink RL 77 yX12_redeem ∈ xgt := wm_8 67 rfl rfl
set_option maxRecDepth 20000 in
theorem xw_1315 : Cond.instanceMethod yX11_undo ∈ xgt := wm_4 221 rfl rfl
set_option maxRecDepth 20000 in
theorem xw_1316 : Cond.selects yX11_undo.cls yX11_undo yX11_undo ∈ xgt := wm_4 222 rfl rfl
set_option maxRecDepth 20000 in
theorem xw_1317 : Cond.methodLink RL 78 yX11_undo ∈ xgt := wm_4 220 rfl rfl
set_option maxRecDepth 20000 in
theorem xw_1318 : Cond.instanceMethod yX12_undo ∈ xgt := wm_8 76 rfl rfl
set_option maxRecDepth 20000 in
theorem xw_1319 : Cond.selects yX12_undo.cls yX12_undo yX12_undo ∈ xgt := wm_8 77 rfl rfl
set_option maxRecDepth 20000 in
theorem xw_1320 : Cond.methodLink RL 82 yX12_undo ∈ xgt := wm_8 75 rfl rfl
set_option maxRecDepth 20000 in
theorem xw_1321 : Cond.instanceMethod yX11_sings ∈ xgt := wm_4 229 rfl rfl
set_option maxRecDepth 20000 in
theorem xw_1322 : Cond.selects yX11_sings.cls yX11_sings yX11_sings ∈ xgt := wm_4 230 rfl rfl
set_option maxRecDepth 20000 in
theorem xw_1323 : Cond.methodLink RL 83 yX11_sings ∈ xgt := wm_4 228 rfl rfl
set_option maxRecDepth 20000 in
theorem xw_1324 : Cond.instanceMethod yX12_sings ∈ xgt := wm_8 80 rfl rfl
set_option maxRecDepth 20000 in
theorem xw_1325 : Cond.selects yX12_sings.cls yX12_sings yX12_sings ∈ xgt := wm_8 81 rfl rfl
set_option maxRecDepth 20000 in
theorem xw_1326 : Cond.methodLink RL 86 yX12_sings ∈ xgt := wm_8 79 rfl rfl
set_option maxRecDepth 20000 in
theorem xw_1327 : Cond.instanceMethod yX11_bar ∈ xgt := wm_4 233 rfl rfl
set_option maxRecDepth 20000 in
theorem xw_1328 : Cond.selects yX11_bar.cls yX11_bar yX11_bar ∈ xgt := wm_4 234 rfl rfl
set_option maxRecDepth 20000 in
theorem xw_1329 : Cond.methodLink RL 87 yX11_bar ∈ xgt := wm_4 232 rfl rfl
set_option maxRecDepth 20000 in
theorem xw_1330 : Cond.instanceMethod yX12_bar ∈ xgt := wm_8 84 rfl rfl
set_option maxRecDepth 20000 in
theorem xw_1331 : Cond.selects yX12_bar.cls yX12_bar yX12_bar ∈ xgt := wm_8 85 rfl rfl
set_option maxRecDepth 20000 in
theorem xw_1332 : Cond.methodLink RL 90 yX12_bar ∈ xgt := wm_8 83 rfl rfl
set_option maxRecDepth 20000 in
theorem xw_1333 : Cond.instanceMethod yX11_sunday ∈ xgt := wm_4 237 rfl rfl
set_option maxRecDepth 20000 in
theorem xw_1334 : Cond.selects yX11_sunday.cls yX11_sunday yX11_sunday ∈ xgt := wm_4 238 rfl rfl
set_option maxRecDepth 20000 in
theorem xw_1335 : Cond.methodLink RL 91 yX11_sunday ∈ xgt := wm_4 236 rfl rfl
set_option maxRecDepth 20000 in
theorem xw_1336 : Cond.instanceMethod yX12_sunday ∈ xgt := wm_8 88 rfl rfl
set_option maxRecDepth 20000 in
theorem xw_1337 : Cond.selects yX12_sunday.cls yX12_sunday yX12_sunday ∈ xgt := wm_8 89 rfl rfl
set_option maxRecDepth 20000 in
theorem xw_1338 : Cond.methodLink RL 94 yX12_sunday ∈ xgt := wm_8 87 rfl rfl
set_option maxRecDepth 20000 in
theorem xw_1339 : Cond.instanceMethod yX11_best ∈ xgt := wm_5 23 rfl rfl
set_option maxRecDepth 20000 in
theorem xw_1340 : Cond.selects yX11_best.cls yX11_best yX11_best ∈ xgt := wm_5 24 rfl rfl
set_option maxRecDepth 20000 in
theorem xw_1341 : Cond.methodLink RL 95 yX11_best ∈ xgt := wm_5 22 rfl rfl
set_option maxRecDepth 20000 in
theorem xw_1342 : Cond.instanceMethod yX12_best ∈ xgt := wm_8 98 rfl rfl
set_option maxRecDepth 20000 in
theorem xw_1343 : Cond.selects yX12_best.cls yX12_best yX12_best ∈ xgt := wm_8 99 rfl rfl
set_option maxRecDepth 20000 in
theorem xw_1344 : Cond.methodLink RL 98 yX12_best ∈ xgt := wm_8 97 rfl rfl
set_option maxRecDepth 20000 in
theorem xw_1345 : Cond.instanceMethod yX11_chosen ∈ xgt := wm_5 66 rfl rfl
set_option maxRecDepth 20000 in
theorem xw_1346 : Cond.selects yX11_chosen.cls yX11_chosen yX11_chosen ∈ xgt := wm_5 67 rfl rfl
set_option maxRecDepth 20000 in
theorem xw_1347 : Cond.methodLink RL 99 yX11_chosen ∈ xgt := wm_5 65 rfl rfl
set_option maxRecDepth 20000 in
theorem xw_1348 : Cond.instanceMethod yX12_chosen ∈ xgt := wm_8 137 rfl rfl
set_option maxRecDepth 20000 in
theorem xw_1349 : Cond.selects yX12_chosen.cls yX12_chosen yX12_chosen ∈ xgt := wm_8 138 rfl rfl
set_option maxRecDepth 20000 in
theorem xw_1350 : Cond.methodLink RL 102 yX12_chosen ∈ xgt := wm_8 136 rfl rfl
set_option maxRecDepth 20000 in
theorem xw_1351 : Cond.instanceMethod yX11_sold ∈ xgt := wm_5 79 rfl rfl
set_option maxRecDepth 20000 in
theorem xw_1352 : Cond.selects yX11_sold.cls yX11_sold yX11_sold ∈ xgt := wm_5 80 rfl rfl
set_option maxRecDepth 20000 in
theorem xw_1353 : Cond.methodLink RL 103 yX11_sold ∈ xgt := wm_5 78 rfl rfl
set_option maxRecDepth 20000 in
theorem xw_1354 : Cond.instanceMethod yX12_sold ∈ xgt := wm_8 145 rfl rfl
set_option maxRecDepth 20000 in
theorem xw_1355 : Cond.selects yX12_sold.cls yX12_sold yX12_sold ∈ xgt := wm_8 146 rfl rfl
set_option maxRecDepth 20000 in
theorem xw_1356 : Cond.methodLink RL 106 yX12_sold ∈ xgt := wm_8 144 rfl rfl
set_option maxRecDepth 20000 in
theorem xw_1357 : Cond.instanceMethod yX11_easter ∈ xgt := wm_5 98 rfl rfl
set_option maxRecDepth 20000 in
theorem xw_1358 : Cond.selects yX11_easter.cls yX11_easter yX11_easter ∈ xgt := wm_5 99 rfl rfl
set_option maxRecDepth 20000 in
theorem xw_1359 : Cond.methodLink RL 107 yX11_easter ∈ xgt := wm_5 97 rfl rfl
set_option maxRecDepth 20000 in
theorem xw_1360 : Cond.instanceMethod yX12_easter ∈ xgt := wm_8 157 rfl rfl
set_option maxRecDepth 20000 in
theorem xw_1361 : Cond.selects yX12_easter.cls yX12_easter yX12_easter ∈ xgt := wm_8 158 rfl rfl
set_option maxRecDepth 20000 in
theorem xw_1362 : Cond.methodLink RL 110 yX12_easter ∈ xgt := wm_8 156 rfl rfl
set_option maxRecDepth 20000 in
theorem xw_1363 : Cond.instanceMethod yX11_hum ∈ xgt := wm_5 102 rfl rfl
set_option maxRecDepth 20000 in
theorem xw_1364 : Cond.selects yX11_hum.cls yX11_hum yX11_hum ∈ xgt := wm_5 103 rfl rfl
set_option maxRecDepth 20000 in
theorem xw_1365 : Cond.methodLink RL 111 yX11_hum ∈ xgt := wm_5 101 rfl rfl
set_option maxRecDepth 20000 in
theorem xw_1366 : Cond.instanceMethod yX12_hum ∈ xgt := wm_8 161 rfl rfl
set_option maxRecDepth 20000 in
theorem xw_1367 : Cond.selects yX12_hum.cls yX12_hum yX12_hum ∈ xgt := wm_8 162 rfl rfl
set_option maxRecDepth 20000 in
theorem xw_1368 : Cond.methodLink RL 114 yX12_hum ∈ xgt := wm_8 160 rfl rfl
set_option maxRecDepth 20000 in
theorem xw_1369 : Cond.instanceMethod yX11_strike ∈ xgt := wm_5 110 rfl rfl
set_option maxRecDepth 20000 in
theorem xw_1370 : Cond.selects yX11_strike.cls yX11_strike yX11_strike ∈ xgt := wm_5 111 rfl rfl
set_option maxRecDepth 20000 in
theorem xw_1371 : Cond.methodLink RL 115 yX11_strike ∈ xgt := wm_5 109 rfl rfl
set_option maxRecDepth 20000 in
theorem xw_1372 : Cond.instanceMethod yX12_strike ∈ xgt := wm_8 165 rfl rfl
set_option maxRecDepth 20000 in
theorem xw_1373 : Cond.selects yX12_strike.cls yX12_strike yX12_strike ∈ xgt := wm_8 166 rfl rfl
set_option maxRecDepth 20000 in
theorem xw_1374 : Cond.methodLink RL 118 yX12_strike ∈ xgt := wm_8 164 rfl rfl
set_option maxRecDepth 20000 in
theorem xw_1375 : Cond.instanceMethod yX11_known ∈ xgt := wm_5 114 rfl rfl
set_option maxRecDepth 20000 in
theorem xw_1376 : Cond.selects yX11_known.cls yX11_known yX11_known ∈ xgt := wm_5 115 rfl rfl
set_option maxRecDepth 20000 in
theorem xw_1377 : Cond.methodLink RL 119 yX11_known ∈ xgt := wm_5 113 rfl rfl
set_option maxRecDepth 20000 in
theorem xw_1378 : Cond.instanceMethod yX12_known ∈ xgt := wm_8 169 rfl rfl
set_option maxRecDepth 20000 in
theorem xw_1379 : Cond.selects yX12_known.cls yX12_known yX12_known ∈ xgt := wm_8 170 rfl rfl
set_option maxRecDepth 20000 in
theorem xw_1380 : Cond.methodLink RL 123 yX12_known ∈ xgt := wm_8 168 rfl rfl
set_option maxRecDepth 20000 in
theorem xw_1381 : Cond.methodLink RL 124 yX11_thieves ∈ xgt := wm_5 117 rfl rfl
set_option maxRecDepth 20000 in
theorem xw_1382 : Cond.methodLink RL 127 yX12_thieves ∈ xgt := wm_8 172 rfl rfl
set_option maxRecDepth 20000 in
theorem xw_1383 : Cond.instanceMethod yX11_odds ∈ xgt := wm_5 137 rfl rfl
set_option maxRecDepth 20000 in
theorem xw_1384 : Cond.selects yX11_odds.cls yX11_odds yX11_odds ∈ xgt := wm_5 138 rfl rfl
set_option maxRecDepth 20000 in
theorem xw_1385 : Cond.methodLink RL 128 yX11_odds ∈ xgt := wm_5 136 rfl rfl
set_option maxRecDepth 20000 in
theorem xw_1386 : Cond.instanceMethod yX12_odds ∈ xgt := wm_8 193 rfl rfl
set_option maxRecDepth 20000 in
theorem xw_1387 : Cond.selects yX12_odds.cls yX12_odds yX12_odds ∈ xgt := wm_8 194 rfl rfl
set_option maxRecDepth 20000 in
theorem xw_1388 : Cond.methodLink RL 131 yX12_odds ∈ xgt := wm_8 192 rfl rfl
set_option maxRecDepth 20000 in
theorem xw_1389 : Cond.instanceMethod yX11_gang ∈ xgt := wm_5 145 rfl rfl
set_option maxRecDepth 20000 in
theorem xw_1390 : Cond.selects yX11_gang.cls yX11_gang yX11_gang ∈ xgt := wm_5 146 rfl rfl
set_option maxRecDepth 20000 in
theorem xw_1391 : Cond.methodLink RL 132 yX11_gang ∈ xgt := wm_5 144 rfl rfl
set_option maxRecDepth 20000 in
theorem xw_1392 : Cond.instanceMethod yX12_gang ∈ xgt := wm_8 201 rfl rfl
set_option maxRecDepth 20000 in
theorem xw_1393 : Cond.selects yX12_gang.cls yX12_gang yX12_gang ∈ xgt := wm_8 202 rfl rfl
set_option maxRecDepth 20000 in
theorem xw_1394 : Cond.methodLink RL 135 yX12_gang ∈ xgt := wm_8 200 rfl rfl
set_option maxRecDepth 20000 in
theorem xw_1395 : Cond.instanceMethod yX11_round ∈ xgt := wm_5 153 rfl rfl
set_option maxRecDepth 20000 in
theorem xw_1396 : Cond.selects yX11_round.cls yX11_round yX11_round ∈ xgt := wm_5 154 rfl rfl
set_option maxRecDepth 20000 in
theorem xw_1397 : Cond.methodLink RL 136 yX11_round ∈ xgt := wm_5 152 rfl rfl
set_option maxRecDepth 20000 in
theorem xw_1398 : Cond.instanceMethod yX12_round ∈ xgt := wm_8 212 rfl rfl
set_option maxRecDepth 20000 in
theorem xw_1399 : Cond.selects yX12_round.cls yX12_round yX12_round ∈ xgt := wm_8 213 rfl rfl
set_option maxRecDepth 20000 in
theorem xw_1400 : Cond.methodLink RL 140 yX12_round ∈ xgt := wm_8 211 rfl rfl
set_option maxRecDepth 20000 in
theorem xw_1401 : Cond.instanceMethod yX11_entry ∈ xgt := wm_5 178 rfl rfl
set_option maxRecDepth 20000 in
theorem xw_1402 : Cond.selects yX11_entry.cls yX11_entry yX11_entry ∈ xgt := wm_5 179 rfl rfl
set_option maxRecDepth 20000 in
theorem xw_1403 : Cond.methodLink RL 141 yX11_entry ∈ xgt := wm_5 177 rfl rfl
set_option maxRecDepth 20000 in
theorem xw_1404 : Cond.instanceMethod yX12_entry ∈ xgt := wm_8 223 rfl rfl
set_option maxRecDepth 20000 in
theorem xw_1405 : Cond.selects yX12_entry.cls yX12_entry yX12_entry ∈ xgt := wm_8 224 rfl rfl
set_option maxRecDepth 20000 in
theorem xw_1406 : Cond.methodLink RL 144 yX12_entry ∈ xgt := wm_8 222 rfl rfl
set_option maxRecDepth 20000 in
theorem xw_1407 : Cond.instanceMethod yX11_run ∈ xgt := wm_5 182 rfl rfl
set_option maxRecDepth 20000 in
theorem xw_1408 : Cond.selects yX11_run.cls yX11_run yX11_run ∈ xgt := wm_5 183 rfl rfl
set_option maxRecDepth 20000 in
theorem xw_1409 : Cond.methodLink RL 145 yX11_run ∈ xgt := wm_5 181 rfl rfl
set_option maxRecDepth 20000 in
theorem xw_1410 : Cond.instanceMethod yX12_run ∈ xgt := wm_8 227 rfl rfl
set_option maxRecDepth 20000 in
theorem xw_1411 : Cond.selects yX12_run.cls yX12_run yX12_run ∈ xgt := wm_8 228 rfl rfl
set_option maxRecDepth 20000 in
theorem xw_1412 : Cond.methodLink RL 148 yX12_run ∈ xgt := wm_8 226 rfl rfl
set_option maxRecDepth 20000 in
theorem xw_1413 : Cond.instanceMethod yX11_pay ∈ xgt := wm_5 191 rfl rfl
set_option maxRecDepth 20000 in
theorem xw_1414 : Cond.selects yX11_pay.cls yX11_pay yX11_pay ∈ xgt := wm_5 192 rfl rfl
set_option maxRecDepth 20000 in
theorem xw_1415 : Cond.methodLink RL 149 yX11_pay ∈ xgt := wm_5 190 rfl rfl
set_option maxRecDepth 20000 in
theorem xw_1416 : Cond.instanceMethod yX12_pay ∈ xgt := wm_8 235 rfl rfl
set_option maxRecDepth 20000 in
theorem xw_1417 : Cond.selects yX12_pay.cls yX12_pay yX12_pay ∈ xgt := wm_8 236 rfl rfl
set_option maxRecDepth 20000 in
theorem xw_1418 : Cond.methodLink RL 152 yX12_pay ∈ xgt := wm_8 234 rfl rfl
set_option maxRecDepth 20000 in
theorem xw_1419 : Cond.instanceMethod yX11_whole ∈ xgt := wm_5 195 rfl rfl
set_option maxRecDepth 20000 in
theorem xw_1420 : Cond.selects yX11_whole.cls yX11_whole yX11_whole ∈ xgt := wm_5 196 rfl rfl
set_option maxRecDepth 20000 in
theorem xw_1421 : Cond.methodLink RL 153 yX11_whole ∈ xgt := wm_5 194 rfl rfl
set_option maxRecDepth 20000 in
theorem xw_1422 : Cond.instanceMethod yX12_whole ∈ xgt := wm_8 239 rfl rfl
set_option maxRecDepth 20000 in
theorem xw_1423 : Cond.selects yX12_whole.cls yX12_whole yX12_whole ∈ xgt := wm_9 0 rfl rfl
set_option maxRecDepth 20000 in
theorem xw_1424 : Cond.methodLink RL 157 yX12_whole ∈ xgt := wm_8 238 rfl rfl
set_option maxRecDepth 20000 in
theorem xw_1425 : Cond.instanceMethod yX11_keep ∈ xgt := wm_5 200 rfl rfl
set_option maxRecDepth 20000 in
theorem xw_1426 : Cond.selects yX11_keep.cls yX11_keep yX11_keep ∈ xgt := wm_5 201 rfl rfl
set_option maxRecDepth 20000 in
theorem xw_1427 : Cond.methodLink RL 158 yX11_keep ∈ xgt := wm_5 199 rfl rfl
set_option maxRecDepth 20000 in
theorem xw_1428 : Cond.instanceMethod yX12_keep ∈ xgt := wm_9 5 rfl rfl
set_option maxRecDepth 20000 in
theorem xw_1429 : Cond.selects yX12_keep.cls yX12_keep yX12_keep ∈ xgt := wm_9 6 rfl rfl
set_option maxRecDepth 20000 in
theorem xw_1430 : Cond.methodLink RL 161 yX12_keep ∈ xgt := wm_9 4 rfl rfl
set_option maxRecDepth 20000 in
theorem xw_1431 : Cond.instanceMethod yX11_back ∈ xgt := wm_5 208 rfl rfl
set_option maxRecDepth 20000 in
theorem xw_1432 : Cond.selects yX11_back.cls yX11_back yX11_back ∈ xgt := wm_5 209 rfl rfl
set_option maxRecDepth 20000 in
theorem xw_1433 : Cond.methodLink RL 162 yX11_back ∈ xgt := wm_5 207 rfl rfl
set_option maxRecDepth 20000 in
theorem xw_1434 : Cond.instanceMethod yX12_back ∈ xgt := wm_9 13 rfl rfl
set_option maxRecDepth 20000 in
theorem xw_1435 : Cond.selects yX12_back.cls yX12_back yX12_back ∈ xgt := wm_9 14 rfl rfl
set_option maxRecDepth 20000 in
theorem xw_1436 : Cond.methodLink RL 165 yX12_back ∈ xgt := wm_9 12 rfl rfl
set_option maxRecDepth 20000 in
theorem xw_1437 : Cond.instanceMethod yX11_count ∈ xgt := wm_5 212 rfl rfl
set_option maxRecDepth 20000 in
theorem xw_1438 : Cond.selects yX11_count.cls yX11_count yX11_count ∈ xgt := wm_5 213 rfl rfl
set_option maxRecDepth 20000 in
theorem xw_1439 : Cond.methodLink RL 166 yX11_count ∈ xgt := wm_5 211 rfl rfl
set_option maxRecDepth 20000 in
theorem xw_1440 : Cond.instanceMethod yX12_count ∈ xgt := wm_9 17 rfl rfl
set_option maxRecDepth 20000 in
theorem xw_1441 : Cond.selects yX12_count.cls yX12_count yX12_count ∈ xgt := wm_9 18 rfl rfl
set_option maxRecDepth 20000 in
theorem xw_1442 : Cond.methodLink RL 169 yX12_count ∈ xgt := wm_9 16 rfl rfl
