section
set_option maxRecDepth 100000 in
set_option maxHeartbeats 4000000 in
theorem xo_256 : ∀ q ∈ xk_256, xok xmt xm_256 q.1 q.2 := by
  refine xcns ?_ <| xcns ?_ <| xcns ?_ <| xcns ?_ <| xcns ?_ <| xcns ?_ <| xcns ?_ <| xcns ?_ <| xcns ?_ <| xcns ?_ <| xcns ?_ <| xcns ?_ <| xcns ?_ <| xcns ?_ <| xcns ?_ <| xcns ?_ <| xcns ?_ <| xcns ?_ <| xcns ?_ <| xcns ?_ <| xcns ?_ <| xcns ?_ <| xcns ?_ <| xcns ?_ <| xcns ?_ <| xcns ?_ <| xcns ?_ <| xcns ?_ <| xcns ?_ <| xcns ?_ <| xcns ?_ <| xcns ?_ <| xcns ?_ <| xcns ?_ <| xcns ?_ <| xcns ?_ <| xcns ?_ <| xcns ?_ <| xcns ?_ <| xcns ?_ <| xcns ?_ <| xcns ?_ <| xcns ?_ <| xcns ?_ <| xcns ?_ <| xcns ?_ <| xcns ?_ <| xcns ?_ <| xcns ?_ <| xnl
  · exact (⟨by decide, xr_lloadn dJ13_bitCount_95d88_0 rfl⟩)
  · exact (⟨by decide, xr_lloadn dJ13_bitCount_95d88_1 rfl⟩)
  · exact (xr_iconst dJ13_bitCount_95d88_2 (by decide +kernel))
  · exact (fun x y => xr_lushr dJ13_bitCount_95d88_3 x y)
  · exact (xr_ldc2 dJ13_bitCount_95d88_4 xw_1193)
  · exact (fun x y => xr_gland dJ13_bitCount_95d88_7 x y)
  · exact (fun x y => xr_lsub dJ13_bitCount_95d88_8 x y)
  · exact (⟨by decide, xr_lstoren dJ13_bitCount_95d88_9 rfl⟩)
  · exact (⟨by decide, xr_lloadn dJ13_bitCount_95d88_10 rfl⟩)
  · exact (xr_ldc2 dJ13_bitCount_95d88_11 xw_1194)
  · exact (fun x y => xr_gland dJ13_bitCount_95d88_14 x y)
  · exact (⟨by decide, xr_lloadn dJ13_bitCount_95d88_15 rfl⟩)
  · exact (xr_iconst dJ13_bitCount_95d88_16 (by decide +kernel))
  · exact (fun x y => xr_lushr dJ13_bitCount_95d88_17 x y)
  · exact (xr_ldc2 dJ13_bitCount_95d88_18 xw_1194)
  · exact (fun x y => xr_gland dJ13_bitCount_95d88_21 x y)
  · exact (fun x y => xr_ladd dJ13_bitCount_95d88_22 x y)
  · exact (⟨by decide, xr_lstoren dJ13_bitCount_95d88_23 rfl⟩)
  · exact (⟨by decide, xr_lloadn dJ13_bitCount_95d88_24 rfl⟩)
  · exact (⟨by decide, xr_lloadn dJ13_bitCount_95d88_25 rfl⟩)
  · exact (xr_iconst dJ13_bitCount_95d88_26 (by decide +kernel))
  · exact (fun x y => xr_lushr dJ13_bitCount_95d88_27 x y)
  · exact (fun x y => xr_ladd dJ13_bitCount_95d88_28 x y)
  · exact (xr_ldc2 dJ13_bitCount_95d88_29 xw_1195)
  · exact (fun x y => xr_gland dJ13_bitCount_95d88_32 x y)
  · exact (⟨by decide, xr_lstoren dJ13_bitCount_95d88_33 rfl⟩)
  · exact (⟨by decide, xr_lloadn dJ13_bitCount_95d88_34 rfl⟩)
  · exact (⟨by decide, xr_lloadn dJ13_bitCount_95d88_35 rfl⟩)
  · exact (xr_bipush dJ13_bitCount_95d88_36 (by decide +kernel))
  · exact (fun x y => xr_lushr dJ13_bitCount_95d88_38 x y)
  · exact (fun x y => xr_ladd dJ13_bitCount_95d88_39 x y)
  · exact (⟨by decide, xr_lstoren dJ13_bitCount_95d88_40 rfl⟩)
  · exact (⟨by decide, xr_lloadn dJ13_bitCount_95d88_41 rfl⟩)
  · exact (⟨by decide, xr_lloadn dJ13_bitCount_95d88_42 rfl⟩)
  · exact (xr_bipush dJ13_bitCount_95d88_43 (by decide +kernel))
  · exact (fun x y => xr_lushr dJ13_bitCount_95d88_45 x y)
  · exact (fun x y => xr_ladd dJ13_bitCount_95d88_46 x y)
  · exact (⟨by decide, xr_lstoren dJ13_bitCount_95d88_47 rfl⟩)
  · exact (⟨by decide, xr_lloadn dJ13_bitCount_95d88_48 rfl⟩)
  · exact (⟨by decide, xr_lloadn dJ13_bitCount_95d88_49 rfl⟩)
  · exact (xr_bipush dJ13_bitCount_95d88_50 (by decide +kernel))
  · exact (fun x y => xr_lushr dJ13_bitCount_95d88_52 x y)
  · exact (fun x y => xr_ladd dJ13_bitCount_95d88_53 x y)
  · exact (⟨by decide, xr_lstoren dJ13_bitCount_95d88_54 rfl⟩)
  · exact (⟨by decide, xr_lloadn dJ13_bitCount_95d88_55 rfl⟩)
  · exact (fun x => xr_l2i dJ13_bitCount_95d88_56 x)
  · exact (xr_bipush dJ13_bitCount_95d88_57 (by decide +kernel))
  · exact (fun x y h => xr_iand dJ13_bitCount_95d88_59 x y)
  · exact (⟨dJ13_bitCount_95d88_60, .int, rfl, rfl, Or.inl rfl⟩)
theorem xmo_256 : xMok xmt xm_256 := ⟨xw_1196, xw_1197, ⟨by decide, by decide, by decide +kernel⟩, by decide +kernel, rfl, xo_256⟩
set_option maxRecDepth 100000 in
set_option maxHeartbeats 4000000 in
theorem xo_257 : ∀ q ∈ xk_257, xok xmt xm_257 q.1 q.2 := by
  refine xcns ?_ <| xcns ?_ <| xcns ?_ <| xcns ?_ <| xcns ?_ <| xcns ?_ <| xcns ?_ <| xcns ?_ <| xcns ?_ <| xcns ?_ <| xcns ?_ <| xcns ?_ <| xnl
  · exact (⟨by decide, xr_aloadn dJ0_charAt_5068e_0 rfl⟩)
  · exact (⟨rfl, _, rfl, ⟨492, dJ0_charAt_5068e_1, xw_1206, xw_1204, xw_1205⟩, rfl⟩)
  · exact (xr_ifeq dJ0_charAt_5068e_4 (by decide))
  · exact (⟨by decide, xr_aloadn dJ0_charAt_5068e_7 rfl⟩)
  · exact (xr_strf_value dJ0_charAt_5068e_8 xw_1207)
  · exact (⟨by decide, xr_iloadn dJ0_charAt_5068e_11 rfl⟩)
  · exact (⟨rfl, _, rfl, ⟨495, dJ0_charAt_5068e_12, xw_1208, xw_1209⟩⟩)
  · exact (⟨dJ0_charAt_5068e_15, .char, rfl, Or.inl ⟨rfl, rfl⟩⟩)
  · exact (⟨by decide, xr_aloadn dJ0_charAt_5068e_16 rfl⟩)
  · exact (xr_strf_value dJ0_charAt_5068e_17 xw_1207)
  · exact (⟨by decide, xr_iloadn dJ0_charAt_5068e_20 rfl⟩)
  · exact (⟨dJ0_charAt_5068e_24, .char, rfl, Or.inl ⟨rfl, rfl⟩⟩)
theorem xmo_257 : xMok xmt xm_257 := ⟨xw_1210, xw_1211, ⟨by decide, by decide, by decide +kernel⟩, by decide +kernel, rfl, xo_257⟩
set_option maxRecDepth 100000 in
set_option maxHeartbeats 4000000 in
theorem xo_258 : ∀ q ∈ xk_258, xok xmt xm_258 q.1 q.2 := by
  refine xcns ?_ <| xcns ?_ <| xcns ?_ <| xcns ?_ <| xcns ?_ <| xcns ?_ <| xnl
  · exact (⟨by decide, xr_iloadn dJ0_checkIndex_df160_0 rfl⟩)
  · exact (⟨by decide, xr_iloadn dJ0_checkIndex_df160_1 rfl⟩)
  · exact (xr_sioobe dJ0_checkIndex_df160_2 xw_1212)
  · exact (⟨rfl, _, rfl, ⟨1059, dJ0_checkIndex_df160_5, xw_1213, xw_1214⟩⟩)
  · exact (fun v h => xr_pop dJ0_checkIndex_df160_8 v h)
  · exact (⟨dJ0_checkIndex_df160_9, rfl⟩)
theorem xmo_258 : xMok xmt xm_258 := ⟨xw_1215, xw_1211, ⟨by decide, by decide, by decide +kernel⟩, by decide +kernel, rfl, xo_258⟩
set_option maxRecDepth 100000 in
set_option maxHeartbeats 4000000 in
theorem xo_259 : ∀ q ∈ xk_259, xok xmt xm_259 q.1 q.2 := by
  refine xcns ?_ <| xcns ?_ <| xcns ?_ <| xcns ?_ <| xcns ?_ <| xcns ?_ <| xcns ?_ <| xnl
  · exact (xr_compact dJ0_coder_7d493_0 xw_1216)
  · exact (xr_ifeq dJ0_coder_7d493_3 (by decide))
  · exact (⟨by decide, xr_aloadn dJ0_coder_7d493_6 rfl⟩)
  · exact (xr_strf_coder dJ0_coder_7d493_7 xw_1217)
  · exact (xr_goto dJ0_coder_7d493_10 (by decide))
  · exact (xr_iconst dJ0_coder_7d493_13 (by decide +kernel))
  · exact (⟨dJ0_coder_7d493_14, .byte, rfl, Or.inr ⟨rfl, rfl⟩⟩)
theorem xmo_259 : xMok xmt xm_259 := ⟨xw_1218, xw_1211, ⟨by decide, by decide, by decide +kernel⟩, by decide +kernel, rfl, xo_259⟩
set_option maxRecDepth 100000 in
set_option maxHeartbeats 4000000 in
theorem xo_260 : ∀ q ∈ xk_260, xok xmt xm_260 q.1 q.2 := by
  refine xcns ?_ <| xcns ?_ <| xcns ?_ <| xcns ?_ <| xcns ?_ <| xcns ?_ <| xcns ?_ <| xcns ?_ <| xcns ?_ <| xnl
  · exact (xr_compact dJ0_isLatin1_aae02_0 xw_1216)
  · exact (xr_ifeq dJ0_isLatin1_aae02_3 (by decide))
  · exact (⟨by decide, xr_aloadn dJ0_isLatin1_aae02_6 rfl⟩)
  · exact (xr_strf_coder dJ0_isLatin1_aae02_7 xw_1217)
  · exact (xr_ifne dJ0_isLatin1_aae02_10 (by decide))
  · exact (xr_iconst dJ0_isLatin1_aae02_13 (by decide +kernel))
  · exact (xr_goto dJ0_isLatin1_aae02_14 (by decide))
  · exact (xr_iconst dJ0_isLatin1_aae02_17 (by decide +kernel))
  · exact (⟨dJ0_isLatin1_aae02_18, .boolean, rfl, rfl, Or.inr rfl⟩)
theorem xmo_260 : xMok xmt xm_260 := ⟨xw_1219, xw_1211, ⟨by decide, by decide, by decide +kernel⟩, by decide +kernel, rfl, xo_260⟩
set_option maxRecDepth 100000 in
set_option maxHeartbeats 4000000 in
theorem xo_261 : ∀ q ∈ xk_261, xok xmt xm_261 q.1 q.2 := by
  refine xcns ?_ <| xcns ?_ <| xcns ?_ <| xcns ?_ <| xcns ?_ <| xcns ?_ <| xcns ?_ <| xnl
  · exact (⟨by decide, xr_aloadn dJ0_length_8abf5_0 rfl⟩)
  · exact (xr_strf_value dJ0_length_8abf5_1 xw_1207)
  · exact (⟨xr_alen dJ0_length_8abf5_4, xr_strl dJ0_length_8abf5_4⟩)
  · exact (⟨by decide, xr_aloadn dJ0_length_8abf5_5 rfl⟩)
  · exact (⟨rfl, _, rfl, ⟨335, dJ0_length_8abf5_6, xw_1222, xw_1220, xw_1221⟩, rfl⟩)
  · exact (fun x y h => xr_ishr dJ0_length_8abf5_9 x y)
  · exact (⟨dJ0_length_8abf5_10, .int, rfl, rfl, Or.inl rfl⟩)
theorem xmo_261 : xMok xmt xm_261 := ⟨xw_1223, xw_1211, ⟨by decide, by decide, by decide +kernel⟩, by decide +kernel, rfl, xo_261⟩
set_option maxRecDepth 100000 in
set_option maxHeartbeats 4000000 in
theorem xo_262 : ∀ q ∈ xk_262, xok xmt xm_262 q.1 q.2 := by
  refine xcns ?_ <| xcns ?_ <| xcns ?_ <| xcns ?_ <| xcns ?_ <| xcns ?_ <| xcns ?_ <| xcns ?_ <| xcns ?_ <| xcns ?_ <| xcns ?_ <| xnl
  · exact (⟨by decide, xr_iloadn dJ1_charAt_3b067_0 rfl⟩)
  · exact (⟨by decide, xr_aloadn dJ1_charAt_3b067_1 rfl⟩)
  · exact (⟨xr_alen dJ1_charAt_3b067_2, xr_strl dJ1_charAt_3b067_2⟩)
  · exact (⟨rfl, _, rfl, ⟨9, dJ1_charAt_3b067_3, xw_1224, xw_1225⟩⟩)
  · exact (⟨by decide, xr_aloadn dJ1_charAt_3b067_6 rfl⟩)
  · exact (⟨by decide, xr_iloadn dJ1_charAt_3b067_7 rfl⟩)
  · exact (xr_strb dJ1_charAt_3b067_8)
  · exact (xr_sipush dJ1_charAt_3b067_9 (by decide +kernel))
  · exact (fun x y h => xr_iand dJ1_charAt_3b067_12 x y)
  · exact (fun x => xr_i2c dJ1_charAt_3b067_13 x)
  · exact (⟨dJ1_charAt_3b067_14, .char, rfl, Or.inl ⟨rfl, rfl⟩⟩)
theorem xmo_262 : xMok xmt xm_262 := ⟨xw_1226, xw_1227, ⟨by decide, by decide, by decide +kernel⟩, by decide +kernel, rfl, xo_262⟩
set_option maxRecDepth 100000 in
set_option maxHeartbeats 4000000 in
theorem xo_263 : ∀ q ∈ xk_263, xok xmt xm_263 q.1 q.2 := by
  refine xcns ?_ <| xcns ?_ <| xcns ?_ <| xcns ?_ <| xcns ?_ <| xcns ?_ <| xcns ?_ <| xcns ?_ <| xcns ?_ <| xcns ?_ <| xcns ?_ <| xcns ?_ <| xcns ?_ <| xcns ?_ <| xcns ?_ <| xnl
  · exact (xr_iconst dJ7_fill_53178_0 (by decide +kernel))
  · exact (⟨by decide, xr_istoren dJ7_fill_53178_1 rfl⟩)
  · exact (⟨by decide, xr_aloadn dJ7_fill_53178_2 rfl⟩)
  · exact (⟨xr_alen dJ7_fill_53178_3, xr_strl dJ7_fill_53178_3⟩)
  · exact (⟨by decide, xr_istoren dJ7_fill_53178_4 rfl⟩)
  · exact (⟨by decide, xr_iloadn dJ7_fill_53178_5 rfl⟩)
  · exact (⟨by decide, xr_iloadn dJ7_fill_53178_6 rfl⟩)
  · exact (xr_icmpge dJ7_fill_53178_7 (by decide))
  · exact (⟨by decide, xr_aloadn dJ7_fill_53178_10 rfl⟩)
  · exact (⟨by decide, xr_iloadn dJ7_fill_53178_11 rfl⟩)
  · exact (⟨by decide, xr_iloadn dJ7_fill_53178_12 rfl⟩)
  · exact (xr_iast dJ7_fill_53178_13)
  · exact (xr_iinc dJ7_fill_53178_14 (by decide +kernel))
  · exact (xr_goto dJ7_fill_53178_17 (by decide))
  · exact (⟨dJ7_fill_53178_20, rfl⟩)
theorem xmo_263 : xMok xmt xm_263 := ⟨xw_1228, xw_1229, ⟨by decide, by decide, by decide +kernel⟩, by decide +kernel, rfl, xo_263⟩
set_option maxRecDepth 100000 in
set_option maxHeartbeats 4000000 in
theorem xo_264 : ∀ q ∈ xk_264, xok xmt xm_264 q.1 q.2 := by
  refine xcns ?_ <| xcns ?_ <| xcns ?_ <| xcns ?_ <| xcns ?_ <| xcns ?_ <| xcns ?_ <| xcns ?_ <| xcns ?_ <| xcns ?_ <| xnl
  · exact (⟨by decide, xr_iloadn dJ3_checkIndex_8e157_0 rfl⟩)
  · exact (xr_iflt dJ3_checkIndex_8e157_1 (by decide))
  · exact (⟨by decide, xr_iloadn dJ3_checkIndex_8e157_4 rfl⟩)
  · exact (⟨by decide, xr_iloadn dJ3_checkIndex_8e157_5 rfl⟩)
  · exact (xr_icmplt dJ3_checkIndex_8e157_6 (by decide))
  · exact (⟨by decide, xr_aloadn dJ3_checkIndex_8e157_9 rfl⟩)
  · exact (⟨by decide, xr_iloadn dJ3_checkIndex_8e157_10 rfl⟩)
  · exact (⟨by decide, xr_iloadn dJ3_checkIndex_8e157_11 rfl⟩)
  · exact (⟨by decide, xr_iloadn dJ3_checkIndex_8e157_16 rfl⟩)
  · exact (⟨dJ3_checkIndex_8e157_17, .int, rfl, rfl, Or.inl rfl⟩)
theorem xmo_264 : xMok xmt xm_264 := ⟨xw_1230, xw_1231, ⟨by decide, by decide, by decide +kernel⟩, by decide +kernel, rfl, xo_264⟩
set_option maxRecDepth 100000 in
set_option maxHeartbeats 4000000 in
theorem xo_L0 : ∀ q ∈ xk_L0, xok xmt xm_L0 q.1 q.2 := by
  refine xcns ?_ <| xcns ?_ <| xcns ?_ <| xcns ?_ <| xcns ?_ <| xcns ?_ <| xcns ?_ <| xcns ?_ <| xcns ?_ <| xcns ?_ <| xcns ?_ <| xcns ?_ <| xcns ?_ <| xnl
  · exact (xr_new dL_law_0 (show vwCl[11]? = some (RX11, TX11, 15) from rfl) xin_X11 tyX11_ok xw_1232 xw_1233 xw_64 _ (by decide +kernel))
  · exact (fun v h => xr_dup dL_law_3 v h)
  · exact (⟨rfl, _, rfl, ⟨17, dL_law_4, rfl, rfl, xw_1234, Or.inl xw_1235⟩⟩)
  · exact (⟨by decide, xr_astoren dL_law_7 rfl⟩)
  · exact (xr_new dL_law_8 (show vwCl[12]? = some (RX12, TX12, 69) from rfl) xin_X12 tyX12_ok xw_1236 xw_1237 xw_819 _ (by decide +kernel))
  · exact (fun v h => xr_dup dL_law_11 v h)
  · exact (⟨rfl, _, rfl, ⟨20, dL_law_12, rfl, rfl, xw_1238, Or.inl xw_1239⟩⟩)
  · exact (⟨by decide, xr_astoren dL_law_15 rfl⟩)
  · exact (xr_iconst dL_law_16 (by decide +kernel))
  · exact (⟨by decide, xr_newa dL_law_17 rfl xw_478⟩)
  · exact (⟨by decide, xr_astoren dL_law_19 rfl⟩)
  · exact (xr_iconst dL_law_20 (by decide +kernel))
  · exact (⟨by decide, xr_istore dL_law_21⟩)
def xkp_L1_0 : List (Nat × xOp) := [(23, (2, 25, 0, 4, [])), (25, (2, 26, 1, 0, [])), (26, (42, 27, 0, 0, [])), (27, (0, 29, 6, 0, [])), (29, (5, 30, 1, 0, [])), (30, (13, 33, 1428, 4, [])), (33, (2, 34, 1, 0, [])), (34, (2, 36, 0, 4, [])), (36, (43, 37, 0, 0, [])), (37, (0, 39, 63, 0, [])), (39, (5, 40, 3, 0, [])), (40, (15, 0, 1422, 0, [(0, 196), (1, 269), (2, 294), (3, 319), (4, 356), (5, 396), (6, 433), (7, 470), (8, 519), (9, 568), (10, 617), (11, 654), (12, 679), (13, 728), (14, 741), (15, 778), (16, 815), (17, 828), (18, 865), (19, 914), (20, 963), (21, 988), (22, 1013), (23, 1038), (24, 1063), (25, 1076), (26, 1113), (27, 1126), (28, 1187), (29, 1260), (30, 1297), (31, 1322), (32, 1371), (33, 1384), (34, 1397)])), (196, (2, 197, 1, 1, [])), (197, (2, 198, 1, 0, [])), (198, (2, 200, 0, 4, [])), (200, (0, 201, 1, 0, [])), (201, (5, 202, 0, 0, [])), (202, (43, 203, 0, 0, [])), (203, (2, 204, 1, 0, [])), (204, (2, 206, 0, 4, [])), (206, (0, 207, 2, 0, [])), (207, (5, 208, 0, 0, [])), (208, (43, 209, 0, 0, [])), (209, (2, 210, 1, 0, [])), (210, (2, 212, 0, 4, [])), (212, (0, 213, 3, 0, [])), (213, (5, 214, 0, 0, [])), (214, (43, 215, 0, 0, [])), (215, (2, 216, 1, 0, [])), (216, (2, 218, 0, 4, [])), (218, (0, 219, 4, 0, [])), (219, (5, 220, 0, 0, [])), (220, (43, 221, 0, 0, [])), (221, (2, 222, 1, 0, [])), (222, (2, 224, 0, 4, [])), (224, (0, 225, 5, 0, [])), (225, (5, 226, 0, 0, [])), (226, (43, 227, 0, 0, [])), (227, (28, 230, 14, 11, [])), (230, (10, 231, 0, 0, [])), (231, (2, 232, 1, 2, [])), (232, (2, 233, 1, 0, [])), (233, (2, 235, 0, 4, [])), (235, (0, 236, 1, 0, [])), (236, (5, 237, 0, 0, [])), (237, (43, 238, 0, 0, [])), (238, (2, 239, 1, 0, [])), (239, (2, 241, 0, 4, [])), (241, (0, 242, 2, 0, [])), (242, (5, 243, 0, 0, [])), (243, (43, 244, 0, 0, [])), (244, (2, 245, 1, 0, [])), (245, (2, 247, 0, 4, [])), (247, (0, 248, 3, 0, [])), (248, (5, 249, 0, 0, [])), (249, (43, 250, 0, 0, [])), (250, (2, 251, 1, 0, [])), (251, (2, 253, 0, 4, [])), (253, (0, 254, 4, 0, [])), (254, (5, 255, 0, 0, [])), (255, (43, 256, 0, 0, [])), (256, (2, 257, 1, 0, [])), (257, (2, 259, 0, 4, [])), (259, (0, 260, 5, 0, [])), (260, (5, 261, 0, 0, [])), (261, (43, 262, 0, 0, [])), (262, (28, 265, 167, 12, [])), (265, (10, 266, 0, 0, [])), (266, (14, 1422, 0, 0, [])), (269, (2, 270, 1, 1, [])), (270, (2, 271, 1, 0, [])), (271, (2, 273, 0, 4, [])), (273, (0, 274, 1, 0, [])), (274, (5, 275, 0, 0, [])), (275, (43, 276, 0, 0, [])), (276, (28, 279, 41, 11, [])), (279, (10, 280, 0, 0, [])), (280, (2, 281, 1, 2, [])), (281, (2, 282, 1, 0, [])), (282, (2, 284, 0, 4, [])), (284, (0, 285, 1, 0, [])), (285, (5, 286, 0, 0, [])), (286, (43, 287, 0, 0, [])), (287, (28, 290, 242, 12, [])), (290, (10, 291, 0, 0, [])), (291, (14, 1422, 0, 0, [])), (294, (2, 295, 1, 1, [])), (295, (2, 296, 1, 0, [])), (296, (2, 298, 0, 4, [])), (298, (0, 299, 1, 0, [])), (299, (5, 300, 0, 0, [])), (300, (43, 301, 0, 0, [])), (301, (28, 304, 13, 11, [])), (304, (10, 305, 0, 0, [])), (305, (2, 306, 1, 2, [])), (306, (2, 307, 1, 0, [])), (307, (2, 309, 0, 4, [])), (309, (0, 310, 1, 0, [])), (310, (5, 311, 0, 0, [])), (311, (43, 312, 0, 0, [])), (312, (28, 315, 166, 12, [])), (315, (10, 316, 0, 0, [])), (316, (14, 1422, 0, 0, [])), (319, (2, 320, 1, 1, [])), (320, (2, 321, 1, 0, [])), (321, (2, 323, 0, 4, [])), (323, (0, 324, 1, 0, [])), (324, (5, 325, 0, 0, [])), (325, (43, 326, 0, 0, [])), (326, (2, 327, 1, 0, [])), (327, (2, 329, 0, 4, [])), (329, (0, 330, 2, 0, [])), (330, (5, 331, 0, 0, [])), (331, (43, 332, 0, 0, [])), (332, (28, 335, 22, 11, [])), (335, (10, 336, 0, 0, [])), (336, (2, 337, 1, 2, [])), (337, (2, 338, 1, 0, [])), (338, (2, 340, 0, 4, [])), (340, (0, 341, 1, 0, []))]
set_option maxRecDepth 100000 in
set_option maxHeartbeats 4000000 in
theorem xop_L1_0 : ∀ q ∈ xkp_L1_0, xok xmt xm_L1 q.1 q.2 := by
  refine xcns ?_ <| xcns ?_ <| xcns ?_ <| xcns ?_ <| xcns ?_ <| xcns ?_ <| xcns ?_ <| xcns ?_ <| xcns ?_ <| xcns ?_ <| xcns ?_ <| xcns ?_ <| xcns ?_ <| xcns ?_ <| xcns ?_ <| xcns ?_ <| xcns ?_ <| xcns ?_ <| xcns ?_ <| xcns ?_ <| xcns ?_ <| xcns ?_ <| xcns ?_ <| xcns ?_ <| xcns ?_ <| xcns ?_ <| xcns ?_ <| xcns ?_ <| xcns ?_ <| xcns ?_ <| xcns ?_ <| xcns ?_ <| xcns ?_ <| xcns ?_ <| xcns ?_ <| xcns ?_ <| xcns ?_ <| xcns ?_ <| xcns ?_ <| xcns ?_ <| xcns ?_ <| xcns ?_ <| xcns ?_ <| xcns ?_ <| xcns ?_ <| xcns ?_ <| xcns ?_ <| xcns ?_ <| xcns ?_ <| xcns ?_ <| xcns ?_ <| xcns ?_ <| xcns ?_ <| xcns ?_ <| xcns ?_ <| xcns ?_ <| xcns ?_ <| xcns ?_ <| xcns ?_ <| xcns ?_ <| xcns ?_ <| xcns ?_ <| xcns ?_ <| xcns ?_ <| xcns ?_ <| xcns ?_ <| xcns ?_ <| xcns ?_ <| xcns ?_ <| xcns ?_ <| xcns ?_ <| xcns ?_ <| xcns ?_ <| xcns ?_ <| xcns ?_ <| xcns ?_ <| xcns ?_ <| xcns ?_ <| xcns ?_ <| xcns ?_ <| xcns ?_ <| xcns ?_ <| xcns ?_ <| xcns ?_ <| xcns ?_ <| xcns ?_ <| xcns ?_ <| xcns ?_ <| xcns ?_ <| xcns ?_ <| xcns ?_ <| xcns ?_ <| xcns ?_ <| xcns ?_ <| xcns ?_ <| xcns ?_ <| xcns ?_ <| xcns ?_ <| xcns ?_ <| xcns ?_ <| xcns ?_ <| xcns ?_ <| xcns ?_ <| xcns ?_ <| xcns ?_ <| xcns ?_ <| xcns ?_ <| xcns ?_ <| xcns ?_ <| xcns ?_ <| xcns ?_ <| xcns ?_ <| xcns ?_ <| xcns ?_ <| xcns ?_ <| xcns ?_ <| xcns ?_ <| xcns ?_ <| xcns ?_ <| xcns ?_ <| xnl
  · exact (⟨by decide, xr_iload dL_law_23⟩)
  · exact (⟨by decide, xr_aloadn dL_law_25 rfl⟩)
  · exact (xr_slen dL_law_26)
  · exact (xr_bipush dL_law_27 (by decide +kernel))
  · exact (fun x y h => xr_isub dL_law_29 x y)
  · exact (xr_icmpgt dL_law_30 (by decide))
  · exact (⟨by decide, xr_aloadn dL_law_33 rfl⟩)
  · exact (⟨by decide, xr_iload dL_law_34⟩)
  · exact (xr_sld dL_law_36)
  · exact (xr_bipush dL_law_37 (by decide +kernel))
  · exact (fun x y h => xr_iand dL_law_39 x y)
  · exact (xr_table dL_law_40 (by decide) (by decide) (by decide))
  · exact (⟨by decide, xr_aloadn dL_law_196 rfl⟩)
  · exact (⟨by decide, xr_aloadn dL_law_197 rfl⟩)
  · exact (⟨by decide, xr_iload dL_law_198⟩)
  · exact (xr_iconst dL_law_200 (by decide +kernel))
  · exact (fun x y h => xr_iadd dL_law_201 x y)
  · exact (xr_sld dL_law_202)
  · exact (⟨by decide, xr_aloadn dL_law_203 rfl⟩)
  · exact (⟨by decide, xr_iload dL_law_204⟩)
  · exact (xr_iconst dL_law_206 (by decide +kernel))
  · exact (fun x y h => xr_iadd dL_law_207 x y)
  · exact (xr_sld dL_law_208)
  · exact (⟨by decide, xr_aloadn dL_law_209 rfl⟩)
  · exact (⟨by decide, xr_iload dL_law_210⟩)
  · exact (xr_iconst dL_law_212 (by decide +kernel))
  · exact (fun x y h => xr_iadd dL_law_213 x y)
  · exact (xr_sld dL_law_214)
  · exact (⟨by decide, xr_aloadn dL_law_215 rfl⟩)
  · exact (⟨by decide, xr_iload dL_law_216⟩)
  · exact (xr_iconst dL_law_218 (by decide +kernel))
  · exact (fun x y h => xr_iadd dL_law_219 x y)
  · exact (xr_sld dL_law_220)
  · exact (⟨by decide, xr_aloadn dL_law_221 rfl⟩)
  · exact (⟨by decide, xr_iload dL_law_222⟩)
  · exact (xr_iconst dL_law_224 (by decide +kernel))
  · exact (fun x y h => xr_iadd dL_law_225 x y)
  · exact (xr_sld dL_law_226)
  · exact (⟨rfl, _, rfl, ⟨21, dL_law_227, xw_1242, xw_1240, xw_1241⟩, _, rfl, rfl⟩)
  · exact (fun v h => xr_pop dL_law_230 v h)
  · exact (⟨by decide, xr_aloadn dL_law_231 rfl⟩)
  · exact (⟨by decide, xr_aloadn dL_law_232 rfl⟩)
  · exact (⟨by decide, xr_iload dL_law_233⟩)
  · exact (xr_iconst dL_law_235 (by decide +kernel))
  · exact (fun x y h => xr_iadd dL_law_236 x y)
  · exact (xr_sld dL_law_237)
  · exact (⟨by decide, xr_aloadn dL_law_238 rfl⟩)
  · exact (⟨by decide, xr_iload dL_law_239⟩)
  · exact (xr_iconst dL_law_241 (by decide +kernel))
  · exact (fun x y h => xr_iadd dL_law_242 x y)
  · exact (xr_sld dL_law_243)
  · exact (⟨by decide, xr_aloadn dL_law_244 rfl⟩)
  · exact (⟨by decide, xr_iload dL_law_245⟩)
  · exact (xr_iconst dL_law_247 (by decide +kernel))
  · exact (fun x y h => xr_iadd dL_law_248 x y)
  · exact (xr_sld dL_law_249)
  · exact (⟨by decide, xr_aloadn dL_law_250 rfl⟩)
  · exact (⟨by decide, xr_iload dL_law_251⟩)
  · exact (xr_iconst dL_law_253 (by decide +kernel))
  · exact (fun x y h => xr_iadd dL_law_254 x y)
  · exact (xr_sld dL_law_255)
  · exact (⟨by decide, xr_aloadn dL_law_256 rfl⟩)
  · exact (⟨by decide, xr_iload dL_law_257⟩)
  · exact (xr_iconst dL_law_259 (by decide +kernel))
  · exact (fun x y h => xr_iadd dL_law_260 x y)
  · exact (xr_sld dL_law_261)
  · exact (⟨rfl, _, rfl, ⟨25, dL_law_262, xw_1245, xw_1243, xw_1244⟩, _, rfl, rfl⟩)
  · exact (fun v h => xr_pop dL_law_265 v h)
  · exact (xr_goto dL_law_266 (by decide))
  · exact (⟨by decide, xr_aloadn dL_law_269 rfl⟩)
  · exact (⟨by decide, xr_aloadn dL_law_270 rfl⟩)
  · exact (⟨by decide, xr_iload dL_law_271⟩)
  · exact (xr_iconst dL_law_273 (by decide +kernel))
  · exact (fun x y h => xr_iadd dL_law_274 x y)
  · exact (xr_sld dL_law_275)
  · exact (⟨rfl, _, rfl, ⟨26, dL_law_276, xw_1248, xw_1246, xw_1247⟩, _, rfl, rfl⟩)
  · exact (fun v h => xr_pop dL_law_279 v h)
  · exact (⟨by decide, xr_aloadn dL_law_280 rfl⟩)
  · exact (⟨by decide, xr_aloadn dL_law_281 rfl⟩)
  · exact (⟨by decide, xr_iload dL_law_282⟩)
  · exact (xr_iconst dL_law_284 (by decide +kernel))
  · exact (fun x y h => xr_iadd dL_law_285 x y)
  · exact (xr_sld dL_law_286)
  · exact (⟨rfl, _, rfl, ⟨30, dL_law_287, xw_1251, xw_1249, xw_1250⟩, _, rfl, rfl⟩)
  · exact (fun v h => xr_pop dL_law_290 v h)
  · exact (xr_goto dL_law_291 (by decide))
  · exact (⟨by decide, xr_aloadn dL_law_294 rfl⟩)
  · exact (⟨by decide, xr_aloadn dL_law_295 rfl⟩)
  · exact (⟨by decide, xr_iload dL_law_296⟩)
  · exact (xr_iconst dL_law_298 (by decide +kernel))
  · exact (fun x y h => xr_iadd dL_law_299 x y)
  · exact (xr_sld dL_law_300)
  · exact (⟨rfl, _, rfl, ⟨31, dL_law_301, xw_1254, xw_1252, xw_1253⟩, _, rfl, rfl⟩)
  · exact (fun v h => xr_pop dL_law_304 v h)
  · exact (⟨by decide, xr_aloadn dL_law_305 rfl⟩)
  · exact (⟨by decide, xr_aloadn dL_law_306 rfl⟩)
  · exact (⟨by decide, xr_iload dL_law_307⟩)
  · exact (xr_iconst dL_law_309 (by decide +kernel))
  · exact (fun x y h => xr_iadd dL_law_310 x y)
  · exact (xr_sld dL_law_311)
  · exact (⟨rfl, _, rfl, ⟨34, dL_law_312, xw_1257, xw_1255, xw_1256⟩, _, rfl, rfl⟩)
  · exact (fun v h => xr_pop dL_law_315 v h)
  · exact (xr_goto dL_law_316 (by decide))
  · exact (⟨by decide, xr_aloadn dL_law_319 rfl⟩)
  · exact (⟨by decide, xr_aloadn dL_law_320 rfl⟩)
  · exact (⟨by decide, xr_iload dL_law_321⟩)
  · exact (xr_iconst dL_law_323 (by decide +kernel))
  · exact (fun x y h => xr_iadd dL_law_324 x y)
  · exact (xr_sld dL_law_325)
  · exact (⟨by decide, xr_aloadn dL_law_326 rfl⟩)
  · exact (⟨by decide, xr_iload dL_law_327⟩)
  · exact (xr_iconst dL_law_329 (by decide +kernel))
  · exact (fun x y h => xr_iadd dL_law_330 x y)
  · exact (xr_sld dL_law_331)
  · exact (⟨rfl, _, rfl, ⟨35, dL_law_332, xw_1260, xw_1258, xw_1259⟩, _, rfl, rfl⟩)
  · exact (fun v h => xr_pop dL_law_335 v h)
  · exact (⟨by decide, xr_aloadn dL_law_336 rfl⟩)
  · exact (⟨by decide, xr_aloadn dL_law_337 rfl⟩)
  · exact (⟨by decide, xr_iload dL_law_338⟩)
  · exact (xr_iconst dL_law_340 (by decide +kernel))
def xkp_L1_1 : List (Nat × xOp) := [(341, (5, 342, 0, 0, [])), (342, (43, 343, 0, 0, [])), (343, (2, 344, 1, 0, [])), (344, (2, 346, 0, 4, [])), (346, (0, 347, 2, 0, [])), (347, (5, 348, 0, 0, [])), (348, (43, 349, 0, 0, [])), (349, (28, 352, 210, 12, [])), (352, (10, 353, 0, 0, [])), (353, (14, 1422, 0, 0, [])), (356, (2, 357, 1, 1, [])), (357, (2, 358, 1, 0, [])), (358, (2, 360, 0, 4, [])), (360, (0, 361, 1, 0, [])), (361, (5, 362, 0, 0, [])), (362, (43, 363, 0, 0, [])), (363, (2, 364, 1, 0, [])), (364, (2, 366, 0, 4, [])), (366, (0, 367, 2, 0, [])), (367, (5, 368, 0, 0, [])), (368, (43, 369, 0, 0, [])), (369, (2, 370, 1, 3, [])), (370, (50, 373, 0, 0, [])), (373, (3, 375, 0, 5, [])), (375, (2, 376, 1, 2, [])), (376, (2, 377, 1, 0, [])), (377, (2, 379, 0, 4, [])), (379, (0, 380, 1, 0, [])), (380, (5, 381, 0, 0, [])), (381, (43, 382, 0, 0, [])), (382, (2, 383, 1, 0, [])), (383, (2, 385, 0, 4, [])), (385, (0, 386, 2, 0, [])), (386, (5, 387, 0, 0, [])), (387, (43, 388, 0, 0, [])), (388, (28, 391, 207, 12, [])), (391, (3, 393, 0, 6, [])), (393, (14, 1422, 0, 0, [])), (396, (2, 397, 1, 1, [])), (397, (2, 398, 1, 0, [])), (398, (2, 400, 0, 4, [])), (400, (0, 401, 1, 0, [])), (401, (5, 402, 0, 0, [])), (402, (43, 403, 0, 0, [])), (403, (2, 404, 1, 0, [])), (404, (2, 406, 0, 4, [])), (406, (0, 407, 2, 0, [])), (407, (5, 408, 0, 0, [])), (408, (43, 409, 0, 0, [])), (409, (28, 412, 40, 11, [])), (412, (10, 413, 0, 0, [])), (413, (2, 414, 1, 2, [])), (414, (2, 415, 1, 0, [])), (415, (2, 417, 0, 4, [])), (417, (0, 418, 1, 0, [])), (418, (5, 419, 0, 0, [])), (419, (43, 420, 0, 0, [])), (420, (2, 421, 1, 0, [])), (421, (2, 423, 0, 4, [])), (423, (0, 424, 2, 0, [])), (424, (5, 425, 0, 0, [])), (425, (43, 426, 0, 0, [])), (426, (28, 429, 240, 12, [])), (429, (10, 430, 0, 0, [])), (430, (14, 1422, 0, 0, [])), (433, (2, 434, 1, 1, [])), (434, (2, 435, 1, 0, [])), (435, (2, 437, 0, 4, [])), (437, (0, 438, 1, 0, [])), (438, (5, 439, 0, 0, [])), (439, (43, 440, 0, 0, [])), (440, (2, 441, 1, 0, [])), (441, (2, 443, 0, 4, [])), (443, (0, 444, 2, 0, [])), (444, (5, 445, 0, 0, [])), (445, (43, 446, 0, 0, [])), (446, (28, 449, 44, 11, [])), (449, (10, 450, 0, 0, [])), (450, (2, 451, 1, 2, [])), (451, (2, 452, 1, 0, [])), (452, (2, 454, 0, 4, [])), (454, (0, 455, 1, 0, [])), (455, (5, 456, 0, 0, [])), (456, (43, 457, 0, 0, [])), (457, (2, 458, 1, 0, [])), (458, (2, 460, 0, 4, [])), (460, (0, 461, 2, 0, [])), (461, (5, 462, 0, 0, [])), (462, (43, 463, 0, 0, [])), (463, (28, 466, 247, 12, [])), (466, (10, 467, 0, 0, [])), (467, (14, 1422, 0, 0, [])), (470, (2, 471, 1, 1, [])), (471, (2, 472, 1, 0, [])), (472, (2, 474, 0, 4, [])), (474, (0, 475, 1, 0, [])), (475, (5, 476, 0, 0, [])), (476, (43, 477, 0, 0, [])), (477, (2, 478, 1, 0, [])), (478, (2, 480, 0, 4, [])), (480, (0, 481, 2, 0, [])), (481, (5, 482, 0, 0, [])), (482, (43, 483, 0, 0, [])), (483, (2, 484, 1, 0, [])), (484, (2, 486, 0, 4, [])), (486, (0, 487, 3, 0, [])), (487, (5, 488, 0, 0, [])), (488, (43, 489, 0, 0, [])), (489, (28, 492, 25, 11, [])), (492, (10, 493, 0, 0, [])), (493, (2, 494, 1, 2, [])), (494, (2, 495, 1, 0, [])), (495, (2, 497, 0, 4, [])), (497, (0, 498, 1, 0, [])), (498, (5, 499, 0, 0, [])), (499, (43, 500, 0, 0, [])), (500, (2, 501, 1, 0, [])), (501, (2, 503, 0, 4, [])), (503, (0, 504, 2, 0, [])), (504, (5, 505, 0, 0, []))]
set_option maxRecDepth 100000 in
set_option maxHeartbeats 4000000 in
theorem xop_L1_1 : ∀ q ∈ xkp_L1_1, xok xmt xm_L1 q.1 q.2 := by
  refine xcns ?_ <| xcns ?_ <| xcns ?_ <| xcns ?_ <| xcns ?_ <| xcns ?_ <| xcns ?_ <| xcns ?_ <| xcns ?_ <| xcns ?_ <| xcns ?_ <| xcns ?_ <| xcns ?_ <| xcns ?_ <| xcns ?_ <| xcns ?_ <| xcns ?_ <| xcns ?_ <| xcns ?_ <| xcns ?_ <| xcns ?_ <| xcns ?_ <| xcns ?_ <| xcns ?_ <| xcns ?_ <| xcns ?_ <| xcns ?_ <| xcns ?_ <| xcns ?_ <| xcns ?_ <| xcns ?_ <| xcns ?_ <| xcns ?_ <| xcns ?_ <| xcns ?_ <| xcns ?_ <| xcns ?_ <| xcns ?_ <| xcns ?_ <| xcns ?_ <| xcns ?_ <| xcns ?_ <| xcns ?_ <| xcns ?_ <| xcns ?_ <| xcns ?_ <| xcns ?_ <| xcns ?_ <| xcns ?_ <| xcns ?_ <| xcns ?_ <| xcns ?_ <| xcns ?_ <| xcns ?_ <| xcns ?_ <| xcns ?_ <| xcns ?_ <| xcns ?_ <| xcns ?_ <| xcns ?_ <| xcns ?_ <| xcns ?_ <| xcns ?_ <| xcns ?_ <| xcns ?_ <| xcns ?_ <| xcns ?_ <| xcns ?_ <| xcns ?_ <| xcns ?_ <| xcns ?_ <| xcns ?_ <| xcns ?_ <| xcns ?_ <| xcns ?_ <| xcns ?_ <| xcns ?_ <| xcns ?_ <| xcns ?_ <| xcns ?_ <| xcns ?_ <| xcns ?_ <| xcns ?_ <| xcns ?_ <| xcns ?_ <| xcns ?_ <| xcns ?_ <| xcns ?_ <| xcns ?_ <| xcns ?_ <| xcns ?_ <| xcns ?_ <| xcns ?_ <| xcns ?_ <| xcns ?_ <| xcns ?_ <| xcns ?_ <| xcns ?_ <| xcns ?_ <| xcns ?_ <| xcns ?_ <| xcns ?_ <| xcns ?_ <| xcns ?_ <| xcns ?_ <| xcns ?_ <| xcns ?_ <| xcns ?_ <| xcns ?_ <| xcns ?_ <| xcns ?_ <| xcns ?_ <| xcns ?_ <| xcns ?_ <| xcns ?_ <| xcns ?_ <| xcns ?_ <| xcns ?_ <| xcns ?_ <| xcns ?_ <| xnl
  · exact (fun x y h => xr_iadd dL_law_341 x y)
  · exact (xr_sld dL_law_342)
  · exact (⟨by decide, xr_aloadn dL_law_343 rfl⟩)
  · exact (⟨by decide, xr_iload dL_law_344⟩)
  · exact (xr_iconst dL_law_346 (by decide +kernel))
  · exact (fun x y h => xr_iadd dL_law_347 x y)
  · exact (xr_sld dL_law_348)
  · exact (⟨rfl, _, rfl, ⟨38, dL_law_349, xw_1263, xw_1261, xw_1262⟩, _, rfl, rfl⟩)
  · exact (fun v h => xr_pop dL_law_352 v h)
  · exact (xr_goto dL_law_353 (by decide))
  · exact (⟨by decide, xr_aloadn dL_law_356 rfl⟩)
  · exact (⟨by decide, xr_aloadn dL_law_357 rfl⟩)
  · exact (⟨by decide, xr_iload dL_law_358⟩)
  · exact (xr_iconst dL_law_360 (by decide +kernel))
  · exact (fun x y h => xr_iadd dL_law_361 x y)
  · exact (xr_sld dL_law_362)
  · exact (⟨by decide, xr_aloadn dL_law_363 rfl⟩)
  · exact (⟨by decide, xr_iload dL_law_364⟩)
  · exact (xr_iconst dL_law_366 (by decide +kernel))
  · exact (fun x y h => xr_iadd dL_law_367 x y)
  · exact (xr_sld dL_law_368)
  · exact (⟨by decide, xr_aloadn dL_law_369 rfl⟩)
  · exact (True.intro)
  · exact (⟨by decide, xr_istore dL_law_373⟩)
  · exact (⟨by decide, xr_aloadn dL_law_375 rfl⟩)
  · exact (⟨by decide, xr_aloadn dL_law_376 rfl⟩)
  · exact (⟨by decide, xr_iload dL_law_377⟩)
  · exact (xr_iconst dL_law_379 (by decide +kernel))
  · exact (fun x y h => xr_iadd dL_law_380 x y)
  · exact (xr_sld dL_law_381)
  · exact (⟨by decide, xr_aloadn dL_law_382 rfl⟩)
  · exact (⟨by decide, xr_iload dL_law_383⟩)
  · exact (xr_iconst dL_law_385 (by decide +kernel))
  · exact (fun x y h => xr_iadd dL_law_386 x y)
  · exact (xr_sld dL_law_387)
  · exact (⟨rfl, _, rfl, ⟨44, dL_law_388, xw_1266, xw_1264, xw_1265⟩, _, rfl, rfl⟩)
  · exact (⟨by decide, xr_istore dL_law_391⟩)
  · exact (xr_goto dL_law_393 (by decide))
  · exact (⟨by decide, xr_aloadn dL_law_396 rfl⟩)
  · exact (⟨by decide, xr_aloadn dL_law_397 rfl⟩)
  · exact (⟨by decide, xr_iload dL_law_398⟩)
  · exact (xr_iconst dL_law_400 (by decide +kernel))
  · exact (fun x y h => xr_iadd dL_law_401 x y)
  · exact (xr_sld dL_law_402)
  · exact (⟨by decide, xr_aloadn dL_law_403 rfl⟩)
  · exact (⟨by decide, xr_iload dL_law_404⟩)
  · exact (xr_iconst dL_law_406 (by decide +kernel))
  · exact (fun x y h => xr_iadd dL_law_407 x y)
  · exact (xr_sld dL_law_408)
  · exact (⟨rfl, _, rfl, ⟨45, dL_law_409, xw_1269, xw_1267, xw_1268⟩, _, rfl, rfl⟩)
  · exact (fun v h => xr_pop dL_law_412 v h)
  · exact (⟨by decide, xr_aloadn dL_law_413 rfl⟩)
  · exact (⟨by decide, xr_aloadn dL_law_414 rfl⟩)
  · exact (⟨by decide, xr_iload dL_law_415⟩)
  · exact (xr_iconst dL_law_417 (by decide +kernel))
  · exact (fun x y h => xr_iadd dL_law_418 x y)
  · exact (xr_sld dL_law_419)
  · exact (⟨by decide, xr_aloadn dL_law_420 rfl⟩)
  · exact (⟨by decide, xr_iload dL_law_421⟩)
  · exact (xr_iconst dL_law_423 (by decide +kernel))
  · exact (fun x y h => xr_iadd dL_law_424 x y)
  · exact (xr_sld dL_law_425)
  · exact (⟨rfl, _, rfl, ⟨48, dL_law_426, xw_1272, xw_1270, xw_1271⟩, _, rfl, rfl⟩)
  · exact (fun v h => xr_pop dL_law_429 v h)
  · exact (xr_goto dL_law_430 (by decide))
  · exact (⟨by decide, xr_aloadn dL_law_433 rfl⟩)
  · exact (⟨by decide, xr_aloadn dL_law_434 rfl⟩)
  · exact (⟨by decide, xr_iload dL_law_435⟩)
  · exact (xr_iconst dL_law_437 (by decide +kernel))
  · exact (fun x y h => xr_iadd dL_law_438 x y)
  · exact (xr_sld dL_law_439)
  · exact (⟨by decide, xr_aloadn dL_law_440 rfl⟩)
  · exact (⟨by decide, xr_iload dL_law_441⟩)
  · exact (xr_iconst dL_law_443 (by decide +kernel))
  · exact (fun x y h => xr_iadd dL_law_444 x y)
  · exact (xr_sld dL_law_445)
  · exact (⟨rfl, _, rfl, ⟨49, dL_law_446, xw_1275, xw_1273, xw_1274⟩, _, rfl, rfl⟩)
  · exact (fun v h => xr_pop dL_law_449 v h)
  · exact (⟨by decide, xr_aloadn dL_law_450 rfl⟩)
  · exact (⟨by decide, xr_aloadn dL_law_451 rfl⟩)
  · exact (⟨by decide, xr_iload dL_law_452⟩)
  · exact (xr_iconst dL_law_454 (by decide +kernel))
  · exact (fun x y h => xr_iadd dL_law_455 x y)
  · exact (xr_sld dL_law_456)
  · exact (⟨by decide, xr_aloadn dL_law_457 rfl⟩)
  · exact (⟨by decide, xr_iload dL_law_458⟩)
  · exact (xr_iconst dL_law_460 (by decide +kernel))
  · exact (fun x y h => xr_iadd dL_law_461 x y)
  · exact (xr_sld dL_law_462)
  · exact (⟨rfl, _, rfl, ⟨52, dL_law_463, xw_1278, xw_1276, xw_1277⟩, _, rfl, rfl⟩)
  · exact (fun v h => xr_pop dL_law_466 v h)
  · exact (xr_goto dL_law_467 (by decide))
  · exact (⟨by decide, xr_aloadn dL_law_470 rfl⟩)
  · exact (⟨by decide, xr_aloadn dL_law_471 rfl⟩)
  · exact (⟨by decide, xr_iload dL_law_472⟩)
  · exact (xr_iconst dL_law_474 (by decide +kernel))
  · exact (fun x y h => xr_iadd dL_law_475 x y)
  · exact (xr_sld dL_law_476)
  · exact (⟨by decide, xr_aloadn dL_law_477 rfl⟩)
  · exact (⟨by decide, xr_iload dL_law_478⟩)
  · exact (xr_iconst dL_law_480 (by decide +kernel))
  · exact (fun x y h => xr_iadd dL_law_481 x y)
  · exact (xr_sld dL_law_482)
  · exact (⟨by decide, xr_aloadn dL_law_483 rfl⟩)
  · exact (⟨by decide, xr_iload dL_law_484⟩)
  · exact (xr_iconst dL_law_486 (by decide +kernel))
  · exact (fun x y h => xr_iadd dL_law_487 x y)
  · exact (xr_sld dL_law_488)
  · exact (⟨rfl, _, rfl, ⟨53, dL_law_489, xw_1281, xw_1279, xw_1280⟩, _, rfl, rfl⟩)
  · exact (fun v h => xr_pop dL_law_492 v h)
  · exact (⟨by decide, xr_aloadn dL_law_493 rfl⟩)
  · exact (⟨by decide, xr_aloadn dL_law_494 rfl⟩)
  · exact (⟨by decide, xr_iload dL_law_495⟩)
  · exact (xr_iconst dL_law_497 (by decide +kernel))
  · exact (fun x y h => xr_iadd dL_law_498 x y)
  · exact (xr_sld dL_law_499)
  · exact (⟨by decide, xr_aloadn dL_law_500 rfl⟩)
  · exact (⟨by decide, xr_iload dL_law_501⟩)
  · exact (xr_iconst dL_law_503 (by decide +kernel))
  · exact (fun x y h => xr_iadd dL_law_504 x y)
def xkp_L1_2 : List (Nat × xOp) := [(505, (43, 506, 0, 0, [])), (506, (2, 507, 1, 0, [])), (507, (2, 509, 0, 4, [])), (509, (0, 510, 3, 0, [])), (510, (5, 511, 0, 0, [])), (511, (43, 512, 0, 0, [])), (512, (28, 515, 216, 12, [])), (515, (10, 516, 0, 0, [])), (516, (14, 1422, 0, 0, [])), (519, (2, 520, 1, 1, [])), (520, (2, 521, 1, 0, [])), (521, (2, 523, 0, 4, [])), (523, (0, 524, 1, 0, [])), (524, (5, 525, 0, 0, [])), (525, (43, 526, 0, 0, [])), (526, (2, 527, 1, 0, [])), (527, (2, 529, 0, 4, [])), (529, (0, 530, 2, 0, [])), (530, (5, 531, 0, 0, [])), (531, (43, 532, 0, 0, [])), (532, (2, 533, 1, 0, [])), (533, (2, 535, 0, 4, [])), (535, (0, 536, 3, 0, [])), (536, (5, 537, 0, 0, [])), (537, (43, 538, 0, 0, [])), (538, (28, 541, 10, 11, [])), (541, (10, 542, 0, 0, [])), (542, (2, 543, 1, 2, [])), (543, (2, 544, 1, 0, [])), (544, (2, 546, 0, 4, [])), (546, (0, 547, 1, 0, [])), (547, (5, 548, 0, 0, [])), (548, (43, 549, 0, 0, [])), (549, (2, 550, 1, 0, [])), (550, (2, 552, 0, 4, [])), (552, (0, 553, 2, 0, [])), (553, (5, 554, 0, 0, [])), (554, (43, 555, 0, 0, [])), (555, (2, 556, 1, 0, [])), (556, (2, 558, 0, 4, [])), (558, (0, 559, 3, 0, [])), (559, (5, 560, 0, 0, [])), (560, (43, 561, 0, 0, [])), (561, (28, 564, 161, 12, [])), (564, (10, 565, 0, 0, [])), (565, (14, 1422, 0, 0, [])), (568, (2, 569, 1, 1, [])), (569, (2, 570, 1, 0, [])), (570, (2, 572, 0, 4, [])), (572, (0, 573, 1, 0, [])), (573, (5, 574, 0, 0, [])), (574, (43, 575, 0, 0, [])), (575, (2, 576, 1, 0, [])), (576, (2, 578, 0, 4, [])), (578, (0, 579, 2, 0, [])), (579, (5, 580, 0, 0, [])), (580, (43, 581, 0, 0, [])), (581, (2, 582, 1, 0, [])), (582, (2, 584, 0, 4, [])), (584, (0, 585, 3, 0, [])), (585, (5, 586, 0, 0, [])), (586, (43, 587, 0, 0, [])), (587, (28, 590, 36, 11, [])), (590, (10, 591, 0, 0, [])), (591, (2, 592, 1, 2, [])), (592, (2, 593, 1, 0, [])), (593, (2, 595, 0, 4, [])), (595, (0, 596, 1, 0, [])), (596, (5, 597, 0, 0, [])), (597, (43, 598, 0, 0, [])), (598, (2, 599, 1, 0, [])), (599, (2, 601, 0, 4, [])), (601, (0, 602, 2, 0, [])), (602, (5, 603, 0, 0, [])), (603, (43, 604, 0, 0, [])), (604, (2, 605, 1, 0, [])), (605, (2, 607, 0, 4, [])), (607, (0, 608, 3, 0, [])), (608, (5, 609, 0, 0, [])), (609, (43, 610, 0, 0, [])), (610, (28, 613, 232, 12, [])), (613, (10, 614, 0, 0, [])), (614, (14, 1422, 0, 0, [])), (617, (2, 618, 1, 1, [])), (618, (2, 619, 1, 0, [])), (619, (2, 621, 0, 4, [])), (621, (0, 622, 1, 0, [])), (622, (5, 623, 0, 0, [])), (623, (43, 624, 0, 0, [])), (624, (2, 625, 1, 0, [])), (625, (2, 627, 0, 4, [])), (627, (0, 628, 2, 0, [])), (628, (5, 629, 0, 0, [])), (629, (43, 630, 0, 0, [])), (630, (28, 633, 4, 11, [])), (633, (10, 634, 0, 0, [])), (634, (2, 635, 1, 2, [])), (635, (2, 636, 1, 0, [])), (636, (2, 638, 0, 4, [])), (638, (0, 639, 1, 0, [])), (639, (5, 640, 0, 0, [])), (640, (43, 641, 0, 0, [])), (641, (2, 642, 1, 0, [])), (642, (2, 644, 0, 4, [])), (644, (0, 645, 2, 0, [])), (645, (5, 646, 0, 0, [])), (646, (43, 647, 0, 0, [])), (647, (28, 650, 149, 12, [])), (650, (10, 651, 0, 0, [])), (651, (14, 1422, 0, 0, [])), (654, (2, 655, 1, 1, [])), (655, (2, 656, 1, 0, [])), (656, (2, 658, 0, 4, [])), (658, (0, 659, 1, 0, [])), (659, (5, 660, 0, 0, [])), (660, (43, 661, 0, 0, [])), (661, (28, 664, 9, 11, [])), (664, (10, 665, 0, 0, [])), (665, (2, 666, 1, 2, [])), (666, (2, 667, 1, 0, []))]
set_option maxRecDepth 100000 in
set_option maxHeartbeats 4000000 in
theorem xop_L1_2 : ∀ q ∈ xkp_L1_2, xok xmt xm_L1 q.1 q.2 := by
  refine xcns ?_ <| xcns ?_ <| xcns ?_ <| xcns ?_ <| xcns ?_ <| xcns ?_ <| xcns ?_ <| xcns ?_ <| xcns ?_ <| xcns ?_ <| xcns ?_ <| xcns ?_ <| xcns ?_ <| xcns ?_ <| xcns ?_ <| xcns ?_ <| xcns ?_ <| xcns ?_ <| xcns ?_ <| xcns ?_ <| xcns ?_ <| xcns ?_ <| xcns ?_ <| xcns ?_ <| xcns ?_ <| xcns ?_ <| xcns ?_ <| xcns ?_ <| xcns ?_ <| xcns ?_ <| xcns ?_ <| xcns ?_ <| xcns ?_ <| xcns ?_ <| xcns ?_ <| xcns ?_ <| xcns ?_ <| xcns ?_ <| xcns ?_ <| xcns ?_ <| xcns ?_ <| xcns ?_ <| xcns ?_ <| xcns ?_ <| xcns ?_ <| xcns ?_ <| xcns ?_ <| xcns ?_ <| xcns ?_ <| xcns ?_ <| xcns ?_ <| xcns ?_ <| xcns ?_ <| xcns ?_ <| xcns ?_ <| xcns ?_ <| xcns ?_ <| xcns ?_ <| xcns ?_ <| xcns ?_ <| xcns ?_ <| xcns ?_ <| xcns ?_ <| xcns ?_ <| xcns ?_ <| xcns ?_ <| xcns ?_ <| xcns ?_ <| xcns ?_ <| xcns ?_ <| xcns ?_ <| xcns ?_ <| xcns ?_ <| xcns ?_ <| xcns ?_ <| xcns ?_ <| xcns ?_ <| xcns ?_ <| xcns ?_ <| xcns ?_ <| xcns ?_ <| xcns ?_ <| xcns ?_ <| xcns ?_ <| xcns ?_ <| xcns ?_ <| xcns ?_ <| xcns ?_ <| xcns ?_ <| xcns ?_ <| xcns ?_ <| xcns ?_ <| xcns ?_ <| xcns ?_ <| xcns ?_ <| xcns ?_ <| xcns ?_ <| xcns ?_ <| xcns ?_ <| xcns ?_ <| xcns ?_ <| xcns ?_ <| xcns ?_ <| xcns ?_ <| xcns ?_ <| xcns ?_ <| xcns ?_ <| xcns ?_ <| xcns ?_ <| xcns ?_ <| xcns ?_ <| xcns ?_ <| xcns ?_ <| xcns ?_ <| xcns ?_ <| xcns ?_ <| xcns ?_ <| xcns ?_ <| xcns ?_ <| xcns ?_ <| xnl
  · exact (xr_sld dL_law_505)
  · exact (⟨by decide, xr_aloadn dL_law_506 rfl⟩)
  · exact (⟨by decide, xr_iload dL_law_507⟩)
  · exact (xr_iconst dL_law_509 (by decide +kernel))
  · exact (fun x y h => xr_iadd dL_law_510 x y)
  · exact (xr_sld dL_law_511)
  · exact (⟨rfl, _, rfl, ⟨57, dL_law_512, xw_1284, xw_1282, xw_1283⟩, _, rfl, rfl⟩)
  · exact (fun v h => xr_pop dL_law_515 v h)
  · exact (xr_goto dL_law_516 (by decide))
  · exact (⟨by decide, xr_aloadn dL_law_519 rfl⟩)
  · exact (⟨by decide, xr_aloadn dL_law_520 rfl⟩)
  · exact (⟨by decide, xr_iload dL_law_521⟩)
  · exact (xr_iconst dL_law_523 (by decide +kernel))
  · exact (fun x y h => xr_iadd dL_law_524 x y)
  · exact (xr_sld dL_law_525)
  · exact (⟨by decide, xr_aloadn dL_law_526 rfl⟩)
  · exact (⟨by decide, xr_iload dL_law_527⟩)
  · exact (xr_iconst dL_law_529 (by decide +kernel))
  · exact (fun x y h => xr_iadd dL_law_530 x y)
  · exact (xr_sld dL_law_531)
  · exact (⟨by decide, xr_aloadn dL_law_532 rfl⟩)
  · exact (⟨by decide, xr_iload dL_law_533⟩)
  · exact (xr_iconst dL_law_535 (by decide +kernel))
  · exact (fun x y h => xr_iadd dL_law_536 x y)
  · exact (xr_sld dL_law_537)
  · exact (⟨rfl, _, rfl, ⟨58, dL_law_538, xw_1287, xw_1285, xw_1286⟩, _, rfl, rfl⟩)
  · exact (fun v h => xr_pop dL_law_541 v h)
  · exact (⟨by decide, xr_aloadn dL_law_542 rfl⟩)
  · exact (⟨by decide, xr_aloadn dL_law_543 rfl⟩)
  · exact (⟨by decide, xr_iload dL_law_544⟩)
  · exact (xr_iconst dL_law_546 (by decide +kernel))
  · exact (fun x y h => xr_iadd dL_law_547 x y)
  · exact (xr_sld dL_law_548)
  · exact (⟨by decide, xr_aloadn dL_law_549 rfl⟩)
  · exact (⟨by decide, xr_iload dL_law_550⟩)
  · exact (xr_iconst dL_law_552 (by decide +kernel))
  · exact (fun x y h => xr_iadd dL_law_553 x y)
  · exact (xr_sld dL_law_554)
  · exact (⟨by decide, xr_aloadn dL_law_555 rfl⟩)
  · exact (⟨by decide, xr_iload dL_law_556⟩)
  · exact (xr_iconst dL_law_558 (by decide +kernel))
  · exact (fun x y h => xr_iadd dL_law_559 x y)
  · exact (xr_sld dL_law_560)
  · exact (⟨rfl, _, rfl, ⟨61, dL_law_561, xw_1290, xw_1288, xw_1289⟩, _, rfl, rfl⟩)
  · exact (fun v h => xr_pop dL_law_564 v h)
  · exact (xr_goto dL_law_565 (by decide))
  · exact (⟨by decide, xr_aloadn dL_law_568 rfl⟩)
  · exact (⟨by decide, xr_aloadn dL_law_569 rfl⟩)
  · exact (⟨by decide, xr_iload dL_law_570⟩)
  · exact (xr_iconst dL_law_572 (by decide +kernel))
  · exact (fun x y h => xr_iadd dL_law_573 x y)
  · exact (xr_sld dL_law_574)
  · exact (⟨by decide, xr_aloadn dL_law_575 rfl⟩)
  · exact (⟨by decide, xr_iload dL_law_576⟩)
  · exact (xr_iconst dL_law_578 (by decide +kernel))
  · exact (fun x y h => xr_iadd dL_law_579 x y)
  · exact (xr_sld dL_law_580)
  · exact (⟨by decide, xr_aloadn dL_law_581 rfl⟩)
  · exact (⟨by decide, xr_iload dL_law_582⟩)
  · exact (xr_iconst dL_law_584 (by decide +kernel))
  · exact (fun x y h => xr_iadd dL_law_585 x y)
  · exact (xr_sld dL_law_586)
  · exact (⟨rfl, _, rfl, ⟨62, dL_law_587, xw_1293, xw_1291, xw_1292⟩, _, rfl, rfl⟩)
  · exact (fun v h => xr_pop dL_law_590 v h)
  · exact (⟨by decide, xr_aloadn dL_law_591 rfl⟩)
  · exact (⟨by decide, xr_aloadn dL_law_592 rfl⟩)
  · exact (⟨by decide, xr_iload dL_law_593⟩)
  · exact (xr_iconst dL_law_595 (by decide +kernel))
  · exact (fun x y h => xr_iadd dL_law_596 x y)
  · exact (xr_sld dL_law_597)
  · exact (⟨by decide, xr_aloadn dL_law_598 rfl⟩)
  · exact (⟨by decide, xr_iload dL_law_599⟩)
  · exact (xr_iconst dL_law_601 (by decide +kernel))
  · exact (fun x y h => xr_iadd dL_law_602 x y)
  · exact (xr_sld dL_law_603)
  · exact (⟨by decide, xr_aloadn dL_law_604 rfl⟩)
  · exact (⟨by decide, xr_iload dL_law_605⟩)
  · exact (xr_iconst dL_law_607 (by decide +kernel))
  · exact (fun x y h => xr_iadd dL_law_608 x y)
  · exact (xr_sld dL_law_609)
  · exact (⟨rfl, _, rfl, ⟨65, dL_law_610, xw_1296, xw_1294, xw_1295⟩, _, rfl, rfl⟩)
  · exact (fun v h => xr_pop dL_law_613 v h)
  · exact (xr_goto dL_law_614 (by decide))
  · exact (⟨by decide, xr_aloadn dL_law_617 rfl⟩)
  · exact (⟨by decide, xr_aloadn dL_law_618 rfl⟩)
  · exact (⟨by decide, xr_iload dL_law_619⟩)
  · exact (xr_iconst dL_law_621 (by decide +kernel))
  · exact (fun x y h => xr_iadd dL_law_622 x y)
  · exact (xr_sld dL_law_623)
  · exact (⟨by decide, xr_aloadn dL_law_624 rfl⟩)
  · exact (⟨by decide, xr_iload dL_law_625⟩)
  · exact (xr_iconst dL_law_627 (by decide +kernel))
  · exact (fun x y h => xr_iadd dL_law_628 x y)
  · exact (xr_sld dL_law_629)
  · exact (⟨rfl, _, rfl, ⟨66, dL_law_630, xw_1299, xw_1297, xw_1298⟩, _, rfl, rfl⟩)
  · exact (fun v h => xr_pop dL_law_633 v h)
  · exact (⟨by decide, xr_aloadn dL_law_634 rfl⟩)
  · exact (⟨by decide, xr_aloadn dL_law_635 rfl⟩)
  · exact (⟨by decide, xr_iload dL_law_636⟩)
  · exact (xr_iconst dL_law_638 (by decide +kernel))
  · exact (fun x y h => xr_iadd dL_law_639 x y)
  · exact (xr_sld dL_law_640)
  · exact (⟨by decide, xr_aloadn dL_law_641 rfl⟩)
  · exact (⟨by decide, xr_iload dL_law_642⟩)
  · exact (xr_iconst dL_law_644 (by decide +kernel))
  · exact (fun x y h => xr_iadd dL_law_645 x y)
  · exact (xr_sld dL_law_646)
  · exact (⟨rfl, _, rfl, ⟨69, dL_law_647, xw_1302, xw_1300, xw_1301⟩, _, rfl, rfl⟩)
  · exact (fun v h => xr_pop dL_law_650 v h)
  · exact (xr_goto dL_law_651 (by decide))
  · exact (⟨by decide, xr_aloadn dL_law_654 rfl⟩)
  · exact (⟨by decide, xr_aloadn dL_law_655 rfl⟩)
  · exact (⟨by decide, xr_iload dL_law_656⟩)
  · exact (xr_iconst dL_law_658 (by decide +kernel))
  · exact (fun x y h => xr_iadd dL_law_659 x y)
  · exact (xr_sld dL_law_660)
  · exact (⟨rfl, _, rfl, ⟨70, dL_law_661, xw_1305, xw_1303, xw_1304⟩, _, rfl, rfl⟩)
  · exact (fun v h => xr_pop dL_law_664 v h)
  · exact (⟨by decide, xr_aloadn dL_law_665 rfl⟩)
  · exact (⟨by decide, xr_aloadn dL_law_666 rfl⟩)
def xkp_L1_3 : List (Nat × xOp) := [(667, (2, 669, 0, 4, [])), (669, (0, 670, 1, 0, [])), (670, (5, 671, 0, 0, [])), (671, (43, 672, 0, 0, [])), (672, (28, 675, 159, 12, [])), (675, (10, 676, 0, 0, [])), (676, (14, 1422, 0, 0, [])), (679, (2, 680, 1, 1, [])), (680, (2, 681, 1, 0, [])), (681, (2, 683, 0, 4, [])), (683, (0, 684, 1, 0, [])), (684, (5, 685, 0, 0, [])), (685, (43, 686, 0, 0, [])), (686, (2, 687, 1, 0, [])), (687, (2, 689, 0, 4, [])), (689, (0, 690, 2, 0, [])), (690, (5, 691, 0, 0, [])), (691, (43, 692, 0, 0, [])), (692, (2, 693, 1, 0, [])), (693, (2, 695, 0, 4, [])), (695, (0, 696, 3, 0, [])), (696, (5, 697, 0, 0, [])), (697, (43, 698, 0, 0, [])), (698, (28, 701, 27, 11, [])), (701, (10, 702, 0, 0, [])), (702, (2, 703, 1, 2, [])), (703, (2, 704, 1, 0, [])), (704, (2, 706, 0, 4, [])), (706, (0, 707, 1, 0, [])), (707, (5, 708, 0, 0, [])), (708, (43, 709, 0, 0, [])), (709, (2, 710, 1, 0, [])), (710, (2, 712, 0, 4, [])), (712, (0, 713, 2, 0, [])), (713, (5, 714, 0, 0, [])), (714, (43, 715, 0, 0, [])), (715, (2, 716, 1, 0, [])), (716, (2, 718, 0, 4, [])), (718, (0, 719, 3, 0, [])), (719, (5, 720, 0, 0, [])), (720, (43, 721, 0, 0, [])), (721, (28, 724, 222, 12, [])), (724, (10, 725, 0, 0, [])), (725, (14, 1422, 0, 0, [])), (728, (2, 729, 1, 1, [])), (729, (28, 732, 43, 11, [])), (732, (10, 733, 0, 0, [])), (733, (2, 734, 1, 2, [])), (734, (28, 737, 246, 12, [])), (737, (10, 738, 0, 0, [])), (738, (14, 1422, 0, 0, [])), (741, (2, 742, 1, 1, [])), (742, (2, 743, 1, 0, [])), (743, (2, 745, 0, 4, [])), (745, (0, 746, 1, 0, [])), (746, (5, 747, 0, 0, [])), (747, (43, 748, 0, 0, [])), (748, (2, 749, 1, 0, [])), (749, (2, 751, 0, 4, [])), (751, (0, 752, 2, 0, [])), (752, (5, 753, 0, 0, [])), (753, (43, 754, 0, 0, [])), (754, (28, 757, 32, 11, [])), (757, (10, 758, 0, 0, [])), (758, (2, 759, 1, 2, [])), (759, (2, 760, 1, 0, [])), (760, (2, 762, 0, 4, [])), (762, (0, 763, 1, 0, [])), (763, (5, 764, 0, 0, [])), (764, (43, 765, 0, 0, [])), (765, (2, 766, 1, 0, [])), (766, (2, 768, 0, 4, [])), (768, (0, 769, 2, 0, [])), (769, (5, 770, 0, 0, [])), (770, (43, 771, 0, 0, [])), (771, (28, 774, 229, 12, [])), (774, (10, 775, 0, 0, [])), (775, (14, 1422, 0, 0, [])), (778, (2, 779, 1, 1, [])), (779, (2, 780, 1, 0, [])), (780, (2, 782, 0, 4, [])), (782, (0, 783, 1, 0, [])), (783, (5, 784, 0, 0, [])), (784, (43, 785, 0, 0, [])), (785, (2, 786, 1, 0, [])), (786, (2, 788, 0, 4, [])), (788, (0, 789, 2, 0, [])), (789, (5, 790, 0, 0, [])), (790, (43, 791, 0, 0, [])), (791, (28, 794, 2, 11, [])), (794, (10, 795, 0, 0, [])), (795, (2, 796, 1, 2, [])), (796, (2, 797, 1, 0, [])), (797, (2, 799, 0, 4, [])), (799, (0, 800, 1, 0, [])), (800, (5, 801, 0, 0, [])), (801, (43, 802, 0, 0, [])), (802, (2, 803, 1, 0, [])), (803, (2, 805, 0, 4, [])), (805, (0, 806, 2, 0, [])), (806, (5, 807, 0, 0, [])), (807, (43, 808, 0, 0, [])), (808, (28, 811, 145, 12, [])), (811, (10, 812, 0, 0, [])), (812, (14, 1422, 0, 0, [])), (815, (2, 816, 1, 1, [])), (816, (28, 819, 38, 11, [])), (819, (10, 820, 0, 0, [])), (820, (2, 821, 1, 2, [])), (821, (28, 824, 239, 12, [])), (824, (10, 825, 0, 0, [])), (825, (14, 1422, 0, 0, [])), (828, (2, 829, 1, 1, [])), (829, (2, 830, 1, 0, [])), (830, (2, 832, 0, 4, [])), (832, (0, 833, 1, 0, [])), (833, (5, 834, 0, 0, [])), (834, (43, 835, 0, 0, [])), (835, (2, 836, 1, 0, [])), (836, (2, 838, 0, 4, []))]
set_option maxRecDepth 100000 in
set_option maxHeartbeats 4000000 in
theorem xop_L1_3 : ∀ q ∈ xkp_L1_3, xok xmt xm_L1 q.1 q.2 := by
  refine xcns ?_ <| xcns ?_ <| xcns ?_ <| xcns ?_ <| xcns ?_ <| xcns ?_ <| xcns ?_ <| xcns ?_ <| xcns ?_ <| xcns ?_ <| xcns ?_ <| xcns ?_ <| xcns ?_ <| xcns ?_ <| xcns ?_ <| xcns ?_ <| xcns ?_ <| xcns ?_ <| xcns ?_ <| xcns ?_ <| xcns ?_ <| xcns ?_ <| xcns ?_ <| xcns ?_ <| xcns ?_ <| xcns ?_ <| xcns ?_ <| xcns ?_ <| xcns ?_ <| xcns ?_ <| xcns ?_ <| xcns ?_ <| xcns ?_ <| xcns ?_ <| xcns ?_ <| xcns ?_ <| xcns ?_ <| xcns ?_ <| xcns ?_ <| xcns ?_ <| xcns ?_ <| xcns ?_ <| xcns ?_ <| xcns ?_ <| xcns ?_ <| xcns ?_ <| xcns ?_ <| xcns ?_ <| xcns ?_ <| xcns ?_ <| xcns ?_ <| xcns ?_ <| xcns ?_ <| xcns ?_ <| xcns ?_ <| xcns ?_ <| xcns ?_ <| xcns ?_ <| xcns ?_ <| xcns ?_ <| xcns ?_ <| xcns ?_ <| xcns ?_ <| xcns ?_ <| xcns ?_ <| xcns ?_ <| xcns ?_ <| xcns ?_ <| xcns ?_ <| xcns ?_ <| xcns ?_ <| xcns ?_ <| xcns ?_ <| xcns ?_ <| xcns ?_ <| xcns ?_ <| xcns ?_ <| xcns ?_ <| xcns ?_ <| xcns ?_ <| xcns ?_ <| xcns ?_ <| xcns ?_ <| xcns ?_ <| xcns ?_ <| xcns ?_ <| xcns ?_ <| xcns ?_ <| xcns ?_ <| xcns ?_ <| xcns ?_ <| xcns ?_ <| xcns ?_ <| xcns ?_ <| xcns ?_ <| xcns ?_ <| xcns ?_ <| xcns ?_ <| xcns ?_ <| xcns ?_ <| xcns ?_ <| xcns ?_ <| xcns ?_ <| xcns ?_ <| xcns ?_ <| xcns ?_ <| xcns ?_ <| xcns ?_ <| xcns ?_ <| xcns ?_ <| xcns ?_ <| xcns ?_ <| xcns ?_ <| xcns ?_ <| xcns ?_ <| xcns ?_ <| xcns ?_ <| xcns ?_ <| xcns ?_ <| xcns ?_ <| xnl
  · exact (⟨by decide, xr_iload dL_law_667⟩)
  · exact (xr_iconst dL_law_669 (by decide +kernel))
  · exact (fun x y h => xr_iadd dL_law_670 x y)
  · exact (xr_sld dL_law_671)
  · exact (⟨rfl, _, rfl, ⟨73, dL_law_672, xw_1308, xw_1306, xw_1307⟩, _, rfl, rfl⟩)
  · exact (fun v h => xr_pop dL_law_675 v h)
  · exact (xr_goto dL_law_676 (by decide))
  · exact (⟨by decide, xr_aloadn dL_law_679 rfl⟩)
  · exact (⟨by decide, xr_aloadn dL_law_680 rfl⟩)
  · exact (⟨by decide, xr_iload dL_law_681⟩)
  · exact (xr_iconst dL_law_683 (by decide +kernel))
  · exact (fun x y h => xr_iadd dL_law_684 x y)
  · exact (xr_sld dL_law_685)
  · exact (⟨by decide, xr_aloadn dL_law_686 rfl⟩)
  · exact (⟨by decide, xr_iload dL_law_687⟩)
  · exact (xr_iconst dL_law_689 (by decide +kernel))
  · exact (fun x y h => xr_iadd dL_law_690 x y)
  · exact (xr_sld dL_law_691)
  · exact (⟨by decide, xr_aloadn dL_law_692 rfl⟩)
  · exact (⟨by decide, xr_iload dL_law_693⟩)
  · exact (xr_iconst dL_law_695 (by decide +kernel))
  · exact (fun x y h => xr_iadd dL_law_696 x y)
  · exact (xr_sld dL_law_697)
  · exact (⟨rfl, _, rfl, ⟨74, dL_law_698, xw_1311, xw_1309, xw_1310⟩, _, rfl, rfl⟩)
  · exact (fun v h => xr_pop dL_law_701 v h)
  · exact (⟨by decide, xr_aloadn dL_law_702 rfl⟩)
  · exact (⟨by decide, xr_aloadn dL_law_703 rfl⟩)
  · exact (⟨by decide, xr_iload dL_law_704⟩)
  · exact (xr_iconst dL_law_706 (by decide +kernel))
  · exact (fun x y h => xr_iadd dL_law_707 x y)
  · exact (xr_sld dL_law_708)
  · exact (⟨by decide, xr_aloadn dL_law_709 rfl⟩)
  · exact (⟨by decide, xr_iload dL_law_710⟩)
  · exact (xr_iconst dL_law_712 (by decide +kernel))
  · exact (fun x y h => xr_iadd dL_law_713 x y)
  · exact (xr_sld dL_law_714)
  · exact (⟨by decide, xr_aloadn dL_law_715 rfl⟩)
  · exact (⟨by decide, xr_iload dL_law_716⟩)
  · exact (xr_iconst dL_law_718 (by decide +kernel))
  · exact (fun x y h => xr_iadd dL_law_719 x y)
  · exact (xr_sld dL_law_720)
  · exact (⟨rfl, _, rfl, ⟨77, dL_law_721, xw_1314, xw_1312, xw_1313⟩, _, rfl, rfl⟩)
  · exact (fun v h => xr_pop dL_law_724 v h)
  · exact (xr_goto dL_law_725 (by decide))
  · exact (⟨by decide, xr_aloadn dL_law_728 rfl⟩)
  · exact (⟨rfl, _, rfl, ⟨78, dL_law_729, xw_1317, xw_1315, xw_1316⟩, _, rfl, rfl⟩)
  · exact (fun v h => xr_pop dL_law_732 v h)
  · exact (⟨by decide, xr_aloadn dL_law_733 rfl⟩)
  · exact (⟨rfl, _, rfl, ⟨82, dL_law_734, xw_1320, xw_1318, xw_1319⟩, _, rfl, rfl⟩)
  · exact (fun v h => xr_pop dL_law_737 v h)
  · exact (xr_goto dL_law_738 (by decide))
  · exact (⟨by decide, xr_aloadn dL_law_741 rfl⟩)
  · exact (⟨by decide, xr_aloadn dL_law_742 rfl⟩)
  · exact (⟨by decide, xr_iload dL_law_743⟩)
  · exact (xr_iconst dL_law_745 (by decide +kernel))
  · exact (fun x y h => xr_iadd dL_law_746 x y)
  · exact (xr_sld dL_law_747)
  · exact (⟨by decide, xr_aloadn dL_law_748 rfl⟩)
  · exact (⟨by decide, xr_iload dL_law_749⟩)
  · exact (xr_iconst dL_law_751 (by decide +kernel))
  · exact (fun x y h => xr_iadd dL_law_752 x y)
  · exact (xr_sld dL_law_753)
  · exact (⟨rfl, _, rfl, ⟨83, dL_law_754, xw_1323, xw_1321, xw_1322⟩, _, rfl, rfl⟩)
  · exact (fun v h => xr_pop dL_law_757 v h)
  · exact (⟨by decide, xr_aloadn dL_law_758 rfl⟩)
  · exact (⟨by decide, xr_aloadn dL_law_759 rfl⟩)
  · exact (⟨by decide, xr_iload dL_law_760⟩)
  · exact (xr_iconst dL_law_762 (by decide +kernel))
  · exact (fun x y h => xr_iadd dL_law_763 x y)
  · exact (xr_sld dL_law_764)
  · exact (⟨by decide, xr_aloadn dL_law_765 rfl⟩)
  · exact (⟨by decide, xr_iload dL_law_766⟩)
  · exact (xr_iconst dL_law_768 (by decide +kernel))
  · exact (fun x y h => xr_iadd dL_law_769 x y)
  · exact (xr_sld dL_law_770)
  · exact (⟨rfl, _, rfl, ⟨86, dL_law_771, xw_1326, xw_1324, xw_1325⟩, _, rfl, rfl⟩)
  · exact (fun v h => xr_pop dL_law_774 v h)
  · exact (xr_goto dL_law_775 (by decide))
  · exact (⟨by decide, xr_aloadn dL_law_778 rfl⟩)
  · exact (⟨by decide, xr_aloadn dL_law_779 rfl⟩)
  · exact (⟨by decide, xr_iload dL_law_780⟩)
  · exact (xr_iconst dL_law_782 (by decide +kernel))
  · exact (fun x y h => xr_iadd dL_law_783 x y)
  · exact (xr_sld dL_law_784)
  · exact (⟨by decide, xr_aloadn dL_law_785 rfl⟩)
  · exact (⟨by decide, xr_iload dL_law_786⟩)
  · exact (xr_iconst dL_law_788 (by decide +kernel))
  · exact (fun x y h => xr_iadd dL_law_789 x y)
  · exact (xr_sld dL_law_790)
  · exact (⟨rfl, _, rfl, ⟨87, dL_law_791, xw_1329, xw_1327, xw_1328⟩, _, rfl, rfl⟩)
  · exact (fun v h => xr_pop dL_law_794 v h)
  · exact (⟨by decide, xr_aloadn dL_law_795 rfl⟩)
  · exact (⟨by decide, xr_aloadn dL_law_796 rfl⟩)
  · exact (⟨by decide, xr_iload dL_law_797⟩)
  · exact (xr_iconst dL_law_799 (by decide +kernel))
  · exact (fun x y h => xr_iadd dL_law_800 x y)
  · exact (xr_sld dL_law_801)
  · exact (⟨by decide, xr_aloadn dL_law_802 rfl⟩)
  · exact (⟨by decide, xr_iload dL_law_803⟩)
  · exact (xr_iconst dL_law_805 (by decide +kernel))
  · exact (fun x y h => xr_iadd dL_law_806 x y)
  · exact (xr_sld dL_law_807)
  · exact (⟨rfl, _, rfl, ⟨90, dL_law_808, xw_1332, xw_1330, xw_1331⟩, _, rfl, rfl⟩)
  · exact (fun v h => xr_pop dL_law_811 v h)
  · exact (xr_goto dL_law_812 (by decide))
  · exact (⟨by decide, xr_aloadn dL_law_815 rfl⟩)
  · exact (⟨rfl, _, rfl, ⟨91, dL_law_816, xw_1335, xw_1333, xw_1334⟩, _, rfl, rfl⟩)
  · exact (fun v h => xr_pop dL_law_819 v h)
  · exact (⟨by decide, xr_aloadn dL_law_820 rfl⟩)
  · exact (⟨rfl, _, rfl, ⟨94, dL_law_821, xw_1338, xw_1336, xw_1337⟩, _, rfl, rfl⟩)
  · exact (fun v h => xr_pop dL_law_824 v h)
  · exact (xr_goto dL_law_825 (by decide))
  · exact (⟨by decide, xr_aloadn dL_law_828 rfl⟩)
  · exact (⟨by decide, xr_aloadn dL_law_829 rfl⟩)
  · exact (⟨by decide, xr_iload dL_law_830⟩)
  · exact (xr_iconst dL_law_832 (by decide +kernel))
  · exact (fun x y h => xr_iadd dL_law_833 x y)
  · exact (xr_sld dL_law_834)
  · exact (⟨by decide, xr_aloadn dL_law_835 rfl⟩)
  · exact (⟨by decide, xr_iload dL_law_836⟩)
def xkp_L1_4 : List (Nat × xOp) := [(838, (0, 839, 2, 0, [])), (839, (5, 840, 0, 0, [])), (840, (43, 841, 0, 0, [])), (841, (28, 844, 3, 11, [])), (844, (10, 845, 0, 0, [])), (845, (2, 846, 1, 2, [])), (846, (2, 847, 1, 0, [])), (847, (2, 849, 0, 4, [])), (849, (0, 850, 1, 0, [])), (850, (5, 851, 0, 0, [])), (851, (43, 852, 0, 0, [])), (852, (2, 853, 1, 0, [])), (853, (2, 855, 0, 4, [])), (855, (0, 856, 2, 0, [])), (856, (5, 857, 0, 0, [])), (857, (43, 858, 0, 0, [])), (858, (28, 861, 147, 12, [])), (861, (10, 862, 0, 0, [])), (862, (14, 1422, 0, 0, [])), (865, (2, 866, 1, 1, [])), (866, (2, 867, 1, 0, [])), (867, (2, 869, 0, 4, [])), (869, (0, 870, 1, 0, [])), (870, (5, 871, 0, 0, [])), (871, (43, 872, 0, 0, [])), (872, (2, 873, 1, 0, [])), (873, (2, 875, 0, 4, [])), (875, (0, 876, 2, 0, [])), (876, (5, 877, 0, 0, [])), (877, (43, 878, 0, 0, [])), (878, (2, 879, 1, 0, [])), (879, (2, 881, 0, 4, [])), (881, (0, 882, 3, 0, [])), (882, (5, 883, 0, 0, [])), (883, (43, 884, 0, 0, [])), (884, (28, 887, 5, 11, [])), (887, (10, 888, 0, 0, [])), (888, (2, 889, 1, 2, [])), (889, (2, 890, 1, 0, [])), (890, (2, 892, 0, 4, [])), (892, (0, 893, 1, 0, [])), (893, (5, 894, 0, 0, [])), (894, (43, 895, 0, 0, [])), (895, (2, 896, 1, 0, [])), (896, (2, 898, 0, 4, [])), (898, (0, 899, 2, 0, [])), (899, (5, 900, 0, 0, [])), (900, (43, 901, 0, 0, [])), (901, (2, 902, 1, 0, [])), (902, (2, 904, 0, 4, [])), (904, (0, 905, 3, 0, [])), (905, (5, 906, 0, 0, [])), (906, (43, 907, 0, 0, [])), (907, (28, 910, 152, 12, [])), (910, (10, 911, 0, 0, [])), (911, (14, 1422, 0, 0, [])), (914, (2, 915, 1, 1, [])), (915, (2, 916, 1, 0, [])), (916, (2, 918, 0, 4, [])), (918, (0, 919, 1, 0, [])), (919, (5, 920, 0, 0, [])), (920, (43, 921, 0, 0, [])), (921, (2, 922, 1, 0, [])), (922, (2, 924, 0, 4, [])), (924, (0, 925, 2, 0, [])), (925, (5, 926, 0, 0, [])), (926, (43, 927, 0, 0, [])), (927, (2, 928, 1, 0, [])), (928, (2, 930, 0, 4, [])), (930, (0, 931, 3, 0, [])), (931, (5, 932, 0, 0, [])), (932, (43, 933, 0, 0, [])), (933, (28, 936, 35, 11, [])), (936, (10, 937, 0, 0, [])), (937, (2, 938, 1, 2, [])), (938, (2, 939, 1, 0, [])), (939, (2, 941, 0, 4, [])), (941, (0, 942, 1, 0, [])), (942, (5, 943, 0, 0, [])), (943, (43, 944, 0, 0, [])), (944, (2, 945, 1, 0, [])), (945, (2, 947, 0, 4, [])), (947, (0, 948, 2, 0, [])), (948, (5, 949, 0, 0, [])), (949, (43, 950, 0, 0, [])), (950, (2, 951, 1, 0, [])), (951, (2, 953, 0, 4, [])), (953, (0, 954, 3, 0, [])), (954, (5, 955, 0, 0, [])), (955, (43, 956, 0, 0, [])), (956, (28, 959, 231, 12, [])), (959, (10, 960, 0, 0, [])), (960, (14, 1422, 0, 0, [])), (963, (2, 964, 1, 1, [])), (964, (2, 965, 1, 0, [])), (965, (2, 967, 0, 4, [])), (967, (0, 968, 1, 0, [])), (968, (5, 969, 0, 0, [])), (969, (43, 970, 0, 0, [])), (970, (28, 973, 11, 11, [])), (973, (10, 974, 0, 0, [])), (974, (2, 975, 1, 2, [])), (975, (2, 976, 1, 0, [])), (976, (2, 978, 0, 4, [])), (978, (0, 979, 1, 0, [])), (979, (5, 980, 0, 0, [])), (980, (43, 981, 0, 0, [])), (981, (28, 984, 163, 12, [])), (984, (10, 985, 0, 0, [])), (985, (14, 1422, 0, 0, [])), (988, (2, 989, 1, 1, [])), (989, (2, 990, 1, 0, [])), (990, (2, 992, 0, 4, [])), (992, (0, 993, 1, 0, [])), (993, (5, 994, 0, 0, [])), (994, (43, 995, 0, 0, [])), (995, (28, 998, 16, 11, [])), (998, (10, 999, 0, 0, [])), (999, (2, 1000, 1, 2, [])), (1000, (2, 1001, 1, 0, []))]
set_option maxRecDepth 100000 in
set_option maxHeartbeats 4000000 in
theorem xop_L1_4 : ∀ q ∈ xkp_L1_4, xok xmt xm_L1 q.1 q.2 := by
  refine xcns ?_ <| xcns ?_ <| xcns ?_ <| xcns ?_ <| xcns ?_ <| xcns ?_ <| xcns ?_ <| xcns ?_ <| xcns ?_ <| xcns ?_ <| xcns ?_ <| xcns ?_ <| xcns ?_ <| xcns ?_ <| xcns ?_ <| xcns ?_ <| xcns ?_ <| xcns ?_ <| xcns ?_ <| xcns ?_ <| xcns ?_ <| xcns ?_ <| xcns ?_ <| xcns ?_ <| xcns ?_ <| xcns ?_ <| xcns ?_ <| xcns ?_ <| xcns ?_ <| xcns ?_ <| xcns ?_ <| xcns ?_ <| xcns ?_ <| xcns ?_ <| xcns ?_ <| xcns ?_ <| xcns ?_ <| xcns ?_ <| xcns ?_ <| xcns ?_ <| xcns ?_ <| xcns ?_ <| xcns ?_ <| xcns ?_ <| xcns ?_ <| xcns ?_ <| xcns ?_ <| xcns ?_ <| xcns ?_ <| xcns ?_ <| xcns ?_ <| xcns ?_ <| xcns ?_ <| xcns ?_ <| xcns ?_ <| xcns ?_ <| xcns ?_ <| xcns ?_ <| xcns ?_ <| xcns ?_ <| xcns ?_ <| xcns ?_ <| xcns ?_ <| xcns ?_ <| xcns ?_ <| xcns ?_ <| xcns ?_ <| xcns ?_ <| xcns ?_ <| xcns ?_ <| xcns ?_ <| xcns ?_ <| xcns ?_ <| xcns ?_ <| xcns ?_ <| xcns ?_ <| xcns ?_ <| xcns ?_ <| xcns ?_ <| xcns ?_ <| xcns ?_ <| xcns ?_ <| xcns ?_ <| xcns ?_ <| xcns ?_ <| xcns ?_ <| xcns ?_ <| xcns ?_ <| xcns ?_ <| xcns ?_ <| xcns ?_ <| xcns ?_ <| xcns ?_ <| xcns ?_ <| xcns ?_ <| xcns ?_ <| xcns ?_ <| xcns ?_ <| xcns ?_ <| xcns ?_ <| xcns ?_ <| xcns ?_ <| xcns ?_ <| xcns ?_ <| xcns ?_ <| xcns ?_ <| xcns ?_ <| xcns ?_ <| xcns ?_ <| xcns ?_ <| xcns ?_ <| xcns ?_ <| xcns ?_ <| xcns ?_ <| xcns ?_ <| xcns ?_ <| xcns ?_ <| xcns ?_ <| xcns ?_ <| xcns ?_ <| xnl
  · exact (xr_iconst dL_law_838 (by decide +kernel))
  · exact (fun x y h => xr_iadd dL_law_839 x y)
  · exact (xr_sld dL_law_840)
  · exact (⟨rfl, _, rfl, ⟨95, dL_law_841, xw_1341, xw_1339, xw_1340⟩, _, rfl, rfl⟩)
  · exact (fun v h => xr_pop dL_law_844 v h)
  · exact (⟨by decide, xr_aloadn dL_law_845 rfl⟩)
  · exact (⟨by decide, xr_aloadn dL_law_846 rfl⟩)
  · exact (⟨by decide, xr_iload dL_law_847⟩)
  · exact (xr_iconst dL_law_849 (by decide +kernel))
  · exact (fun x y h => xr_iadd dL_law_850 x y)
  · exact (xr_sld dL_law_851)
  · exact (⟨by decide, xr_aloadn dL_law_852 rfl⟩)
  · exact (⟨by decide, xr_iload dL_law_853⟩)
  · exact (xr_iconst dL_law_855 (by decide +kernel))
  · exact (fun x y h => xr_iadd dL_law_856 x y)
  · exact (xr_sld dL_law_857)
  · exact (⟨rfl, _, rfl, ⟨98, dL_law_858, xw_1344, xw_1342, xw_1343⟩, _, rfl, rfl⟩)
  · exact (fun v h => xr_pop dL_law_861 v h)
  · exact (xr_goto dL_law_862 (by decide))
  · exact (⟨by decide, xr_aloadn dL_law_865 rfl⟩)
  · exact (⟨by decide, xr_aloadn dL_law_866 rfl⟩)
  · exact (⟨by decide, xr_iload dL_law_867⟩)
  · exact (xr_iconst dL_law_869 (by decide +kernel))
  · exact (fun x y h => xr_iadd dL_law_870 x y)
  · exact (xr_sld dL_law_871)
  · exact (⟨by decide, xr_aloadn dL_law_872 rfl⟩)
  · exact (⟨by decide, xr_iload dL_law_873⟩)
  · exact (xr_iconst dL_law_875 (by decide +kernel))
  · exact (fun x y h => xr_iadd dL_law_876 x y)
  · exact (xr_sld dL_law_877)
  · exact (⟨by decide, xr_aloadn dL_law_878 rfl⟩)
  · exact (⟨by decide, xr_iload dL_law_879⟩)
  · exact (xr_iconst dL_law_881 (by decide +kernel))
  · exact (fun x y h => xr_iadd dL_law_882 x y)
  · exact (xr_sld dL_law_883)
  · exact (⟨rfl, _, rfl, ⟨99, dL_law_884, xw_1347, xw_1345, xw_1346⟩, _, rfl, rfl⟩)
  · exact (fun v h => xr_pop dL_law_887 v h)
  · exact (⟨by decide, xr_aloadn dL_law_888 rfl⟩)
  · exact (⟨by decide, xr_aloadn dL_law_889 rfl⟩)
  · exact (⟨by decide, xr_iload dL_law_890⟩)
  · exact (xr_iconst dL_law_892 (by decide +kernel))
  · exact (fun x y h => xr_iadd dL_law_893 x y)
  · exact (xr_sld dL_law_894)
  · exact (⟨by decide, xr_aloadn dL_law_895 rfl⟩)
  · exact (⟨by decide, xr_iload dL_law_896⟩)
  · exact (xr_iconst dL_law_898 (by decide +kernel))
  · exact (fun x y h => xr_iadd dL_law_899 x y)
  · exact (xr_sld dL_law_900)
  · exact (⟨by decide, xr_aloadn dL_law_901 rfl⟩)
  · exact (⟨by decide, xr_iload dL_law_902⟩)
  · exact (xr_iconst dL_law_904 (by decide +kernel))
  · exact (fun x y h => xr_iadd dL_law_905 x y)
  · exact (xr_sld dL_law_906)
  · exact (⟨rfl, _, rfl, ⟨102, dL_law_907, xw_1350, xw_1348, xw_1349⟩, _, rfl, rfl⟩)
  · exact (fun v h => xr_pop dL_law_910 v h)
  · exact (xr_goto dL_law_911 (by decide))
  · exact (⟨by decide, xr_aloadn dL_law_914 rfl⟩)
  · exact (⟨by decide, xr_aloadn dL_law_915 rfl⟩)
  · exact (⟨by decide, xr_iload dL_law_916⟩)
  · exact (xr_iconst dL_law_918 (by decide +kernel))
  · exact (fun x y h => xr_iadd dL_law_919 x y)
  · exact (xr_sld dL_law_920)
  · exact (⟨by decide, xr_aloadn dL_law_921 rfl⟩)
  · exact (⟨by decide, xr_iload dL_law_922⟩)
  · exact (xr_iconst dL_law_924 (by decide +kernel))
  · exact (fun x y h => xr_iadd dL_law_925 x y)
  · exact (xr_sld dL_law_926)
  · exact (⟨by decide, xr_aloadn dL_law_927 rfl⟩)
  · exact (⟨by decide, xr_iload dL_law_928⟩)
  · exact (xr_iconst dL_law_930 (by decide +kernel))
  · exact (fun x y h => xr_iadd dL_law_931 x y)
  · exact (xr_sld dL_law_932)
  · exact (⟨rfl, _, rfl, ⟨103, dL_law_933, xw_1353, xw_1351, xw_1352⟩, _, rfl, rfl⟩)
  · exact (fun v h => xr_pop dL_law_936 v h)
  · exact (⟨by decide, xr_aloadn dL_law_937 rfl⟩)
  · exact (⟨by decide, xr_aloadn dL_law_938 rfl⟩)
  · exact (⟨by decide, xr_iload dL_law_939⟩)
  · exact (xr_iconst dL_law_941 (by decide +kernel))
  · exact (fun x y h => xr_iadd dL_law_942 x y)
  · exact (xr_sld dL_law_943)
  · exact (⟨by decide, xr_aloadn dL_law_944 rfl⟩)
  · exact (⟨by decide, xr_iload dL_law_945⟩)
  · exact (xr_iconst dL_law_947 (by decide +kernel))
  · exact (fun x y h => xr_iadd dL_law_948 x y)
  · exact (xr_sld dL_law_949)
  · exact (⟨by decide, xr_aloadn dL_law_950 rfl⟩)
  · exact (⟨by decide, xr_iload dL_law_951⟩)
  · exact (xr_iconst dL_law_953 (by decide +kernel))
  · exact (fun x y h => xr_iadd dL_law_954 x y)
  · exact (xr_sld dL_law_955)
  · exact (⟨rfl, _, rfl, ⟨106, dL_law_956, xw_1356, xw_1354, xw_1355⟩, _, rfl, rfl⟩)
  · exact (fun v h => xr_pop dL_law_959 v h)
  · exact (xr_goto dL_law_960 (by decide))
  · exact (⟨by decide, xr_aloadn dL_law_963 rfl⟩)
  · exact (⟨by decide, xr_aloadn dL_law_964 rfl⟩)
  · exact (⟨by decide, xr_iload dL_law_965⟩)
  · exact (xr_iconst dL_law_967 (by decide +kernel))
  · exact (fun x y h => xr_iadd dL_law_968 x y)
  · exact (xr_sld dL_law_969)
  · exact (⟨rfl, _, rfl, ⟨107, dL_law_970, xw_1359, xw_1357, xw_1358⟩, _, rfl, rfl⟩)
  · exact (fun v h => xr_pop dL_law_973 v h)
  · exact (⟨by decide, xr_aloadn dL_law_974 rfl⟩)
  · exact (⟨by decide, xr_aloadn dL_law_975 rfl⟩)
  · exact (⟨by decide, xr_iload dL_law_976⟩)
  · exact (xr_iconst dL_law_978 (by decide +kernel))
  · exact (fun x y h => xr_iadd dL_law_979 x y)
  · exact (xr_sld dL_law_980)
  · exact (⟨rfl, _, rfl, ⟨110, dL_law_981, xw_1362, xw_1360, xw_1361⟩, _, rfl, rfl⟩)
  · exact (fun v h => xr_pop dL_law_984 v h)
  · exact (xr_goto dL_law_985 (by decide))
  · exact (⟨by decide, xr_aloadn dL_law_988 rfl⟩)
  · exact (⟨by decide, xr_aloadn dL_law_989 rfl⟩)
  · exact (⟨by decide, xr_iload dL_law_990⟩)
  · exact (xr_iconst dL_law_992 (by decide +kernel))
  · exact (fun x y h => xr_iadd dL_law_993 x y)
  · exact (xr_sld dL_law_994)
  · exact (⟨rfl, _, rfl, ⟨111, dL_law_995, xw_1365, xw_1363, xw_1364⟩, _, rfl, rfl⟩)
  · exact (fun v h => xr_pop dL_law_998 v h)
  · exact (⟨by decide, xr_aloadn dL_law_999 rfl⟩)
  · exact (⟨by decide, xr_aloadn dL_law_1000 rfl⟩)
def xkp_L1_5 : List (Nat × xOp) := [(1001, (2, 1003, 0, 4, [])), (1003, (0, 1004, 1, 0, [])), (1004, (5, 1005, 0, 0, [])), (1005, (43, 1006, 0, 0, [])), (1006, (28, 1009, 180, 12, [])), (1009, (10, 1010, 0, 0, [])), (1010, (14, 1422, 0, 0, [])), (1013, (2, 1014, 1, 1, [])), (1014, (2, 1015, 1, 0, [])), (1015, (2, 1017, 0, 4, [])), (1017, (0, 1018, 1, 0, [])), (1018, (5, 1019, 0, 0, [])), (1019, (43, 1020, 0, 0, [])), (1020, (28, 1023, 37, 11, [])), (1023, (10, 1024, 0, 0, [])), (1024, (2, 1025, 1, 2, [])), (1025, (2, 1026, 1, 0, [])), (1026, (2, 1028, 0, 4, [])), (1028, (0, 1029, 1, 0, [])), (1029, (5, 1030, 0, 0, [])), (1030, (43, 1031, 0, 0, [])), (1031, (28, 1034, 235, 12, [])), (1034, (10, 1035, 0, 0, [])), (1035, (14, 1422, 0, 0, [])), (1038, (2, 1039, 1, 1, [])), (1039, (2, 1040, 1, 0, [])), (1040, (2, 1042, 0, 4, [])), (1042, (0, 1043, 1, 0, [])), (1043, (5, 1044, 0, 0, [])), (1044, (43, 1045, 0, 0, [])), (1045, (28, 1048, 19, 11, [])), (1048, (10, 1049, 0, 0, [])), (1049, (2, 1050, 1, 2, [])), (1050, (2, 1051, 1, 0, [])), (1051, (2, 1053, 0, 4, [])), (1053, (0, 1054, 1, 0, [])), (1054, (5, 1055, 0, 0, [])), (1055, (43, 1056, 0, 0, [])), (1056, (28, 1059, 201, 12, [])), (1059, (10, 1060, 0, 0, [])), (1060, (14, 1422, 0, 0, [])), (1063, (2, 1064, 1, 1, [])), (1064, (28, 1067, 42, 11, [])), (1067, (10, 1068, 0, 0, [])), (1068, (2, 1069, 1, 2, [])), (1069, (28, 1072, 243, 12, [])), (1072, (10, 1073, 0, 0, [])), (1073, (14, 1422, 0, 0, [])), (1076, (2, 1077, 1, 1, [])), (1077, (2, 1078, 1, 0, [])), (1078, (2, 1080, 0, 4, [])), (1080, (0, 1081, 1, 0, [])), (1081, (5, 1082, 0, 0, [])), (1082, (43, 1083, 0, 0, [])), (1083, (2, 1084, 1, 0, [])), (1084, (2, 1086, 0, 4, [])), (1086, (0, 1087, 2, 0, [])), (1087, (5, 1088, 0, 0, [])), (1088, (43, 1089, 0, 0, [])), (1089, (28, 1092, 23, 11, [])), (1092, (10, 1093, 0, 0, [])), (1093, (2, 1094, 1, 2, [])), (1094, (2, 1095, 1, 0, [])), (1095, (2, 1097, 0, 4, [])), (1097, (0, 1098, 1, 0, [])), (1098, (5, 1099, 0, 0, [])), (1099, (43, 1100, 0, 0, [])), (1100, (2, 1101, 1, 0, [])), (1101, (2, 1103, 0, 4, [])), (1103, (0, 1104, 2, 0, [])), (1104, (5, 1105, 0, 0, [])), (1105, (43, 1106, 0, 0, [])), (1106, (28, 1109, 213, 12, [])), (1109, (10, 1110, 0, 0, [])), (1110, (14, 1422, 0, 0, [])), (1113, (2, 1114, 1, 1, [])), (1114, (28, 1117, 15, 11, [])), (1117, (10, 1118, 0, 0, [])), (1118, (2, 1119, 1, 2, [])), (1119, (28, 1122, 172, 12, [])), (1122, (10, 1123, 0, 0, [])), (1123, (14, 1422, 0, 0, [])), (1126, (2, 1127, 1, 1, [])), (1127, (2, 1128, 1, 0, [])), (1128, (2, 1130, 0, 4, [])), (1130, (0, 1131, 1, 0, [])), (1131, (5, 1132, 0, 0, [])), (1132, (43, 1133, 0, 0, [])), (1133, (2, 1134, 1, 0, [])), (1134, (2, 1136, 0, 4, [])), (1136, (0, 1137, 2, 0, [])), (1137, (5, 1138, 0, 0, [])), (1138, (43, 1139, 0, 0, [])), (1139, (2, 1140, 1, 0, [])), (1140, (2, 1142, 0, 4, [])), (1142, (0, 1143, 3, 0, [])), (1143, (5, 1144, 0, 0, [])), (1144, (43, 1145, 0, 0, [])), (1145, (2, 1146, 1, 0, [])), (1146, (2, 1148, 0, 4, [])), (1148, (0, 1149, 4, 0, [])), (1149, (5, 1150, 0, 0, [])), (1150, (43, 1151, 0, 0, [])), (1151, (28, 1154, 28, 11, [])), (1154, (10, 1155, 0, 0, [])), (1155, (2, 1156, 1, 2, [])), (1156, (2, 1157, 1, 0, [])), (1157, (2, 1159, 0, 4, [])), (1159, (0, 1160, 1, 0, [])), (1160, (5, 1161, 0, 0, [])), (1161, (43, 1162, 0, 0, [])), (1162, (2, 1163, 1, 0, [])), (1163, (2, 1165, 0, 4, [])), (1165, (0, 1166, 2, 0, [])), (1166, (5, 1167, 0, 0, [])), (1167, (43, 1168, 0, 0, [])), (1168, (2, 1169, 1, 0, [])), (1169, (2, 1171, 0, 4, [])), (1171, (0, 1172, 3, 0, [])), (1172, (5, 1173, 0, 0, []))]
set_option maxRecDepth 100000 in
set_option maxHeartbeats 4000000 in
theorem xop_L1_5 : ∀ q ∈ xkp_L1_5, xok xmt xm_L1 q.1 q.2 := by
  refine xcns ?_ <| xcns ?_ <| xcns ?_ <| xcns ?_ <| xcns ?_ <| xcns ?_ <| xcns ?_ <| xcns ?_ <| xcns ?_ <| xcns ?_ <| xcns ?_ <| xcns ?_ <| xcns ?_ <| xcns ?_ <| xcns ?_ <| xcns ?_ <| xcns ?_ <| xcns ?_ <| xcns ?_ <| xcns ?_ <| xcns ?_ <| xcns ?_ <| xcns ?_ <| xcns ?_ <| xcns ?_ <| xcns ?_ <| xcns ?_ <| xcns ?_ <| xcns ?_ <| xcns ?_ <| xcns ?_ <| xcns ?_ <| xcns ?_ <| xcns ?_ <| xcns ?_ <| xcns ?_ <| xcns ?_ <| xcns ?_ <| xcns ?_ <| xcns ?_ <| xcns ?_ <| xcns ?_ <| xcns ?_ <| xcns ?_ <| xcns ?_ <| xcns ?_ <| xcns ?_ <| xcns ?_ <| xcns ?_ <| xcns ?_ <| xcns ?_ <| xcns ?_ <| xcns ?_ <| xcns ?_ <| xcns ?_ <| xcns ?_ <| xcns ?_ <| xcns ?_ <| xcns ?_ <| xcns ?_ <| xcns ?_ <| xcns ?_ <| xcns ?_ <| xcns ?_ <| xcns ?_ <| xcns ?_ <| xcns ?_ <| xcns ?_ <| xcns ?_ <| xcns ?_ <| xcns ?_ <| xcns ?_ <| xcns ?_ <| xcns ?_ <| xcns ?_ <| xcns ?_ <| xcns ?_ <| xcns ?_ <| xcns ?_ <| xcns ?_ <| xcns ?_ <| xcns ?_ <| xcns ?_ <| xcns ?_ <| xcns ?_ <| xcns ?_ <| xcns ?_ <| xcns ?_ <| xcns ?_ <| xcns ?_ <| xcns ?_ <| xcns ?_ <| xcns ?_ <| xcns ?_ <| xcns ?_ <| xcns ?_ <| xcns ?_ <| xcns ?_ <| xcns ?_ <| xcns ?_ <| xcns ?_ <| xcns ?_ <| xcns ?_ <| xcns ?_ <| xcns ?_ <| xcns ?_ <| xcns ?_ <| xcns ?_ <| xcns ?_ <| xcns ?_ <| xcns ?_ <| xcns ?_ <| xcns ?_ <| xcns ?_ <| xcns ?_ <| xcns ?_ <| xcns ?_ <| xcns ?_ <| xcns ?_ <| xcns ?_ <| xnl
  · exact (⟨by decide, xr_iload dL_law_1001⟩)
  · exact (xr_iconst dL_law_1003 (by decide +kernel))
  · exact (fun x y h => xr_iadd dL_law_1004 x y)
  · exact (xr_sld dL_law_1005)
  · exact (⟨rfl, _, rfl, ⟨114, dL_law_1006, xw_1368, xw_1366, xw_1367⟩, _, rfl, rfl⟩)
  · exact (fun v h => xr_pop dL_law_1009 v h)
  · exact (xr_goto dL_law_1010 (by decide))
  · exact (⟨by decide, xr_aloadn dL_law_1013 rfl⟩)
  · exact (⟨by decide, xr_aloadn dL_law_1014 rfl⟩)
  · exact (⟨by decide, xr_iload dL_law_1015⟩)
  · exact (xr_iconst dL_law_1017 (by decide +kernel))
  · exact (fun x y h => xr_iadd dL_law_1018 x y)
  · exact (xr_sld dL_law_1019)
  · exact (⟨rfl, _, rfl, ⟨115, dL_law_1020, xw_1371, xw_1369, xw_1370⟩, _, rfl, rfl⟩)
  · exact (fun v h => xr_pop dL_law_1023 v h)
  · exact (⟨by decide, xr_aloadn dL_law_1024 rfl⟩)
  · exact (⟨by decide, xr_aloadn dL_law_1025 rfl⟩)
  · exact (⟨by decide, xr_iload dL_law_1026⟩)
  · exact (xr_iconst dL_law_1028 (by decide +kernel))
  · exact (fun x y h => xr_iadd dL_law_1029 x y)
  · exact (xr_sld dL_law_1030)
  · exact (⟨rfl, _, rfl, ⟨118, dL_law_1031, xw_1374, xw_1372, xw_1373⟩, _, rfl, rfl⟩)
  · exact (fun v h => xr_pop dL_law_1034 v h)
  · exact (xr_goto dL_law_1035 (by decide))
  · exact (⟨by decide, xr_aloadn dL_law_1038 rfl⟩)
  · exact (⟨by decide, xr_aloadn dL_law_1039 rfl⟩)
  · exact (⟨by decide, xr_iload dL_law_1040⟩)
  · exact (xr_iconst dL_law_1042 (by decide +kernel))
  · exact (fun x y h => xr_iadd dL_law_1043 x y)
  · exact (xr_sld dL_law_1044)
  · exact (⟨rfl, _, rfl, ⟨119, dL_law_1045, xw_1377, xw_1375, xw_1376⟩, _, rfl, rfl⟩)
  · exact (fun v h => xr_pop dL_law_1048 v h)
  · exact (⟨by decide, xr_aloadn dL_law_1049 rfl⟩)
  · exact (⟨by decide, xr_aloadn dL_law_1050 rfl⟩)
  · exact (⟨by decide, xr_iload dL_law_1051⟩)
  · exact (xr_iconst dL_law_1053 (by decide +kernel))
  · exact (fun x y h => xr_iadd dL_law_1054 x y)
  · exact (xr_sld dL_law_1055)
  · exact (⟨rfl, _, rfl, ⟨123, dL_law_1056, xw_1380, xw_1378, xw_1379⟩, _, rfl, rfl⟩)
  · exact (fun v h => xr_pop dL_law_1059 v h)
  · exact (xr_goto dL_law_1060 (by decide))
  · exact (⟨by decide, xr_aloadn dL_law_1063 rfl⟩)
  · exact (⟨rfl, _, rfl, ⟨124, dL_law_1064, xw_1381, xw_189, xw_190⟩, _, rfl, rfl⟩)
  · exact (fun v h => xr_pop dL_law_1067 v h)
  · exact (⟨by decide, xr_aloadn dL_law_1068 rfl⟩)
  · exact (⟨rfl, _, rfl, ⟨127, dL_law_1069, xw_1382, xw_1073, xw_1074⟩, _, rfl, rfl⟩)
  · exact (fun v h => xr_pop dL_law_1072 v h)
  · exact (xr_goto dL_law_1073 (by decide))
  · exact (⟨by decide, xr_aloadn dL_law_1076 rfl⟩)
  · exact (⟨by decide, xr_aloadn dL_law_1077 rfl⟩)
  · exact (⟨by decide, xr_iload dL_law_1078⟩)
  · exact (xr_iconst dL_law_1080 (by decide +kernel))
  · exact (fun x y h => xr_iadd dL_law_1081 x y)
  · exact (xr_sld dL_law_1082)
  · exact (⟨by decide, xr_aloadn dL_law_1083 rfl⟩)
  · exact (⟨by decide, xr_iload dL_law_1084⟩)
  · exact (xr_iconst dL_law_1086 (by decide +kernel))
  · exact (fun x y h => xr_iadd dL_law_1087 x y)
  · exact (xr_sld dL_law_1088)
  · exact (⟨rfl, _, rfl, ⟨128, dL_law_1089, xw_1385, xw_1383, xw_1384⟩, _, rfl, rfl⟩)
  · exact (fun v h => xr_pop dL_law_1092 v h)
  · exact (⟨by decide, xr_aloadn dL_law_1093 rfl⟩)
  · exact (⟨by decide, xr_aloadn dL_law_1094 rfl⟩)
  · exact (⟨by decide, xr_iload dL_law_1095⟩)
  · exact (xr_iconst dL_law_1097 (by decide +kernel))
  · exact (fun x y h => xr_iadd dL_law_1098 x y)
  · exact (xr_sld dL_law_1099)
  · exact (⟨by decide, xr_aloadn dL_law_1100 rfl⟩)
  · exact (⟨by decide, xr_iload dL_law_1101⟩)
  · exact (xr_iconst dL_law_1103 (by decide +kernel))
  · exact (fun x y h => xr_iadd dL_law_1104 x y)
  · exact (xr_sld dL_law_1105)
  · exact (⟨rfl, _, rfl, ⟨131, dL_law_1106, xw_1388, xw_1386, xw_1387⟩, _, rfl, rfl⟩)
  · exact (fun v h => xr_pop dL_law_1109 v h)
  · exact (xr_goto dL_law_1110 (by decide))
  · exact (⟨by decide, xr_aloadn dL_law_1113 rfl⟩)
  · exact (⟨rfl, _, rfl, ⟨132, dL_law_1114, xw_1391, xw_1389, xw_1390⟩, _, rfl, rfl⟩)
  · exact (fun v h => xr_pop dL_law_1117 v h)
  · exact (⟨by decide, xr_aloadn dL_law_1118 rfl⟩)
  · exact (⟨rfl, _, rfl, ⟨135, dL_law_1119, xw_1394, xw_1392, xw_1393⟩, _, rfl, rfl⟩)
  · exact (fun v h => xr_pop dL_law_1122 v h)
  · exact (xr_goto dL_law_1123 (by decide))
  · exact (⟨by decide, xr_aloadn dL_law_1126 rfl⟩)
  · exact (⟨by decide, xr_aloadn dL_law_1127 rfl⟩)
  · exact (⟨by decide, xr_iload dL_law_1128⟩)
  · exact (xr_iconst dL_law_1130 (by decide +kernel))
  · exact (fun x y h => xr_iadd dL_law_1131 x y)
  · exact (xr_sld dL_law_1132)
  · exact (⟨by decide, xr_aloadn dL_law_1133 rfl⟩)
  · exact (⟨by decide, xr_iload dL_law_1134⟩)
  · exact (xr_iconst dL_law_1136 (by decide +kernel))
  · exact (fun x y h => xr_iadd dL_law_1137 x y)
  · exact (xr_sld dL_law_1138)
  · exact (⟨by decide, xr_aloadn dL_law_1139 rfl⟩)
  · exact (⟨by decide, xr_iload dL_law_1140⟩)
  · exact (xr_iconst dL_law_1142 (by decide +kernel))
  · exact (fun x y h => xr_iadd dL_law_1143 x y)
  · exact (xr_sld dL_law_1144)
  · exact (⟨by decide, xr_aloadn dL_law_1145 rfl⟩)
  · exact (⟨by decide, xr_iload dL_law_1146⟩)
  · exact (xr_iconst dL_law_1148 (by decide +kernel))
  · exact (fun x y h => xr_iadd dL_law_1149 x y)
  · exact (xr_sld dL_law_1150)
  · exact (⟨rfl, _, rfl, ⟨136, dL_law_1151, xw_1397, xw_1395, xw_1396⟩, _, rfl, rfl⟩)
  · exact (fun v h => xr_pop dL_law_1154 v h)
  · exact (⟨by decide, xr_aloadn dL_law_1155 rfl⟩)
  · exact (⟨by decide, xr_aloadn dL_law_1156 rfl⟩)
  · exact (⟨by decide, xr_iload dL_law_1157⟩)
  · exact (xr_iconst dL_law_1159 (by decide +kernel))
  · exact (fun x y h => xr_iadd dL_law_1160 x y)
  · exact (xr_sld dL_law_1161)
  · exact (⟨by decide, xr_aloadn dL_law_1162 rfl⟩)
  · exact (⟨by decide, xr_iload dL_law_1163⟩)
  · exact (xr_iconst dL_law_1165 (by decide +kernel))
  · exact (fun x y h => xr_iadd dL_law_1166 x y)
  · exact (xr_sld dL_law_1167)
  · exact (⟨by decide, xr_aloadn dL_law_1168 rfl⟩)
  · exact (⟨by decide, xr_iload dL_law_1169⟩)
  · exact (xr_iconst dL_law_1171 (by decide +kernel))
  · exact (fun x y h => xr_iadd dL_law_1172 x y)
def xkp_L1_6 : List (Nat × xOp) := [(1173, (43, 1174, 0, 0, [])), (1174, (2, 1175, 1, 0, [])), (1175, (2, 1177, 0, 4, [])), (1177, (0, 1178, 4, 0, [])), (1178, (5, 1179, 0, 0, [])), (1179, (43, 1180, 0, 0, [])), (1180, (28, 1183, 224, 12, [])), (1183, (10, 1184, 0, 0, [])), (1184, (14, 1422, 0, 0, [])), (1187, (2, 1188, 1, 1, [])), (1188, (2, 1189, 1, 0, [])), (1189, (2, 1191, 0, 4, [])), (1191, (0, 1192, 1, 0, [])), (1192, (5, 1193, 0, 0, [])), (1193, (43, 1194, 0, 0, [])), (1194, (2, 1195, 1, 0, [])), (1195, (2, 1197, 0, 4, [])), (1197, (0, 1198, 2, 0, [])), (1198, (5, 1199, 0, 0, [])), (1199, (43, 1200, 0, 0, [])), (1200, (2, 1201, 1, 0, [])), (1201, (2, 1203, 0, 4, [])), (1203, (0, 1204, 3, 0, [])), (1204, (5, 1205, 0, 0, [])), (1205, (43, 1206, 0, 0, [])), (1206, (2, 1207, 1, 0, [])), (1207, (2, 1209, 0, 4, [])), (1209, (0, 1210, 4, 0, [])), (1210, (5, 1211, 0, 0, [])), (1211, (43, 1212, 0, 0, [])), (1212, (2, 1213, 1, 0, [])), (1213, (2, 1215, 0, 4, [])), (1215, (0, 1216, 5, 0, [])), (1216, (5, 1217, 0, 0, [])), (1217, (43, 1218, 0, 0, [])), (1218, (28, 1221, 12, 11, [])), (1221, (2, 1222, 1, 2, [])), (1222, (2, 1223, 1, 0, [])), (1223, (2, 1225, 0, 4, [])), (1225, (0, 1226, 1, 0, [])), (1226, (5, 1227, 0, 0, [])), (1227, (43, 1228, 0, 0, [])), (1228, (2, 1229, 1, 0, [])), (1229, (2, 1231, 0, 4, [])), (1231, (0, 1232, 2, 0, [])), (1232, (5, 1233, 0, 0, [])), (1233, (43, 1234, 0, 0, [])), (1234, (2, 1235, 1, 0, [])), (1235, (2, 1237, 0, 4, [])), (1237, (0, 1238, 3, 0, [])), (1238, (5, 1239, 0, 0, [])), (1239, (43, 1240, 0, 0, [])), (1240, (2, 1241, 1, 0, [])), (1241, (2, 1243, 0, 4, [])), (1243, (0, 1244, 4, 0, [])), (1244, (5, 1245, 0, 0, [])), (1245, (43, 1246, 0, 0, [])), (1246, (2, 1247, 1, 0, [])), (1247, (2, 1249, 0, 4, [])), (1249, (0, 1250, 5, 0, [])), (1250, (5, 1251, 0, 0, [])), (1251, (43, 1252, 0, 0, [])), (1252, (28, 1255, 164, 12, [])), (1255, (13, 1258, 1422, 0, [])), (1258, (0, 1259, 0, 0, [])), (1259, (30, 1260, 0, 3, [])), (1260, (2, 1261, 1, 1, [])), (1261, (2, 1262, 1, 0, [])), (1262, (2, 1264, 0, 4, [])), (1264, (0, 1265, 1, 0, [])), (1265, (5, 1266, 0, 0, [])), (1266, (43, 1267, 0, 0, [])), (1267, (2, 1268, 1, 0, [])), (1268, (2, 1270, 0, 4, [])), (1270, (0, 1271, 2, 0, [])), (1271, (5, 1272, 0, 0, [])), (1272, (43, 1273, 0, 0, [])), (1273, (28, 1276, 29, 11, [])), (1276, (10, 1277, 0, 0, [])), (1277, (2, 1278, 1, 2, [])), (1278, (2, 1279, 1, 0, [])), (1279, (2, 1281, 0, 4, [])), (1281, (0, 1282, 1, 0, [])), (1282, (5, 1283, 0, 0, [])), (1283, (43, 1284, 0, 0, [])), (1284, (2, 1285, 1, 0, [])), (1285, (2, 1287, 0, 4, [])), (1287, (0, 1288, 2, 0, [])), (1288, (5, 1289, 0, 0, [])), (1289, (43, 1290, 0, 0, [])), (1290, (28, 1293, 226, 12, [])), (1293, (10, 1294, 0, 0, [])), (1294, (14, 1422, 0, 0, [])), (1297, (2, 1298, 1, 1, [])), (1298, (2, 1299, 1, 0, [])), (1299, (2, 1301, 0, 4, [])), (1301, (0, 1302, 1, 0, [])), (1302, (5, 1303, 0, 0, [])), (1303, (43, 1304, 0, 0, [])), (1304, (28, 1307, 24, 11, [])), (1307, (10, 1308, 0, 0, [])), (1308, (2, 1309, 1, 2, [])), (1309, (2, 1310, 1, 0, [])), (1310, (2, 1312, 0, 4, [])), (1312, (0, 1313, 1, 0, [])), (1313, (5, 1314, 0, 0, [])), (1314, (43, 1315, 0, 0, [])), (1315, (28, 1318, 215, 12, [])), (1318, (10, 1319, 0, 0, [])), (1319, (14, 1422, 0, 0, [])), (1322, (2, 1323, 1, 1, [])), (1323, (2, 1324, 1, 0, [])), (1324, (2, 1326, 0, 4, [])), (1326, (0, 1327, 1, 0, [])), (1327, (5, 1328, 0, 0, [])), (1328, (43, 1329, 0, 0, [])), (1329, (2, 1330, 1, 0, [])), (1330, (2, 1332, 0, 4, [])), (1332, (0, 1333, 2, 0, [])), (1333, (5, 1334, 0, 0, []))]
set_option maxRecDepth 100000 in
set_option maxHeartbeats 4000000 in
theorem xop_L1_6 : ∀ q ∈ xkp_L1_6, xok xmt xm_L1 q.1 q.2 := by
  refine xcns ?_ <| xcns ?_ <| xcns ?_ <| xcns ?_ <| xcns ?_ <| xcns ?_ <| xcns ?_ <| xcns ?_ <| xcns ?_ <| xcns ?_ <| xcns ?_ <| xcns ?_ <| xcns ?_ <| xcns ?_ <| xcns ?_ <| xcns ?_ <| xcns ?_ <| xcns ?_ <| xcns ?_ <| xcns ?_ <| xcns ?_ <| xcns ?_ <| xcns ?_ <| xcns ?_ <| xcns ?_ <| xcns ?_ <| xcns ?_ <| xcns ?_ <| xcns ?_ <| xcns ?_ <| xcns ?_ <| xcns ?_ <| xcns ?_ <| xcns ?_ <| xcns ?_ <| xcns ?_ <| xcns ?_ <| xcns ?_ <| xcns ?_ <| xcns ?_ <| xcns ?_ <| xcns ?_ <| xcns ?_ <| xcns ?_ <| xcns ?_ <| xcns ?_ <| xcns ?_ <| xcns ?_ <| xcns ?_ <| xcns ?_ <| xcns ?_ <| xcns ?_ <| xcns ?_ <| xcns ?_ <| xcns ?_ <| xcns ?_ <| xcns ?_ <| xcns ?_ <| xcns ?_ <| xcns ?_ <| xcns ?_ <| xcns ?_ <| xcns ?_ <| xcns ?_ <| xcns ?_ <| xcns ?_ <| xcns ?_ <| xcns ?_ <| xcns ?_ <| xcns ?_ <| xcns ?_ <| xcns ?_ <| xcns ?_ <| xcns ?_ <| xcns ?_ <| xcns ?_ <| xcns ?_ <| xcns ?_ <| xcns ?_ <| xcns ?_ <| xcns ?_ <| xcns ?_ <| xcns ?_ <| xcns ?_ <| xcns ?_ <| xcns ?_ <| xcns ?_ <| xcns ?_ <| xcns ?_ <| xcns ?_ <| xcns ?_ <| xcns ?_ <| xcns ?_ <| xcns ?_ <| xcns ?_ <| xcns ?_ <| xcns ?_ <| xcns ?_ <| xcns ?_ <| xcns ?_ <| xcns ?_ <| xcns ?_ <| xcns ?_ <| xcns ?_ <| xcns ?_ <| xcns ?_ <| xcns ?_ <| xcns ?_ <| xcns ?_ <| xcns ?_ <| xcns ?_ <| xcns ?_ <| xcns ?_ <| xcns ?_ <| xcns ?_ <| xcns ?_ <| xcns ?_ <| xcns ?_ <| xcns ?_ <| xcns ?_ <| xnl
  · exact (xr_sld dL_law_1173)
  · exact (⟨by decide, xr_aloadn dL_law_1174 rfl⟩)
  · exact (⟨by decide, xr_iload dL_law_1175⟩)
  · exact (xr_iconst dL_law_1177 (by decide +kernel))
  · exact (fun x y h => xr_iadd dL_law_1178 x y)
  · exact (xr_sld dL_law_1179)
  · exact (⟨rfl, _, rfl, ⟨140, dL_law_1180, xw_1400, xw_1398, xw_1399⟩, _, rfl, rfl⟩)
  · exact (fun v h => xr_pop dL_law_1183 v h)
  · exact (xr_goto dL_law_1184 (by decide))
  · exact (⟨by decide, xr_aloadn dL_law_1187 rfl⟩)
  · exact (⟨by decide, xr_aloadn dL_law_1188 rfl⟩)
  · exact (⟨by decide, xr_iload dL_law_1189⟩)
  · exact (xr_iconst dL_law_1191 (by decide +kernel))
  · exact (fun x y h => xr_iadd dL_law_1192 x y)
  · exact (xr_sld dL_law_1193)
  · exact (⟨by decide, xr_aloadn dL_law_1194 rfl⟩)
  · exact (⟨by decide, xr_iload dL_law_1195⟩)
  · exact (xr_iconst dL_law_1197 (by decide +kernel))
  · exact (fun x y h => xr_iadd dL_law_1198 x y)
  · exact (xr_sld dL_law_1199)
  · exact (⟨by decide, xr_aloadn dL_law_1200 rfl⟩)
  · exact (⟨by decide, xr_iload dL_law_1201⟩)
  · exact (xr_iconst dL_law_1203 (by decide +kernel))
  · exact (fun x y h => xr_iadd dL_law_1204 x y)
  · exact (xr_sld dL_law_1205)
  · exact (⟨by decide, xr_aloadn dL_law_1206 rfl⟩)
  · exact (⟨by decide, xr_iload dL_law_1207⟩)
  · exact (xr_iconst dL_law_1209 (by decide +kernel))
  · exact (fun x y h => xr_iadd dL_law_1210 x y)
  · exact (xr_sld dL_law_1211)
  · exact (⟨by decide, xr_aloadn dL_law_1212 rfl⟩)
  · exact (⟨by decide, xr_iload dL_law_1213⟩)
  · exact (xr_iconst dL_law_1215 (by decide +kernel))
  · exact (fun x y h => xr_iadd dL_law_1216 x y)
  · exact (xr_sld dL_law_1217)
  · exact (⟨rfl, _, rfl, ⟨141, dL_law_1218, xw_1403, xw_1401, xw_1402⟩, _, rfl, rfl⟩)
  · exact (⟨by decide, xr_aloadn dL_law_1221 rfl⟩)
  · exact (⟨by decide, xr_aloadn dL_law_1222 rfl⟩)
  · exact (⟨by decide, xr_iload dL_law_1223⟩)
  · exact (xr_iconst dL_law_1225 (by decide +kernel))
  · exact (fun x y h => xr_iadd dL_law_1226 x y)
  · exact (xr_sld dL_law_1227)
  · exact (⟨by decide, xr_aloadn dL_law_1228 rfl⟩)
  · exact (⟨by decide, xr_iload dL_law_1229⟩)
  · exact (xr_iconst dL_law_1231 (by decide +kernel))
  · exact (fun x y h => xr_iadd dL_law_1232 x y)
  · exact (xr_sld dL_law_1233)
  · exact (⟨by decide, xr_aloadn dL_law_1234 rfl⟩)
  · exact (⟨by decide, xr_iload dL_law_1235⟩)
  · exact (xr_iconst dL_law_1237 (by decide +kernel))
  · exact (fun x y h => xr_iadd dL_law_1238 x y)
  · exact (xr_sld dL_law_1239)
  · exact (⟨by decide, xr_aloadn dL_law_1240 rfl⟩)
  · exact (⟨by decide, xr_iload dL_law_1241⟩)
  · exact (xr_iconst dL_law_1243 (by decide +kernel))
  · exact (fun x y h => xr_iadd dL_law_1244 x y)
  · exact (xr_sld dL_law_1245)
  · exact (⟨by decide, xr_aloadn dL_law_1246 rfl⟩)
  · exact (⟨by decide, xr_iload dL_law_1247⟩)
  · exact (xr_iconst dL_law_1249 (by decide +kernel))
  · exact (fun x y h => xr_iadd dL_law_1250 x y)
  · exact (xr_sld dL_law_1251)
  · exact (⟨rfl, _, rfl, ⟨144, dL_law_1252, xw_1406, xw_1404, xw_1405⟩, _, rfl, rfl⟩)
  · exact (xr_icmpeq dL_law_1255 (by decide))
  · exact (xr_iconst dL_law_1258 (by decide +kernel))
  · exact (⟨dL_law_1259, .boolean, rfl, rfl, Or.inr rfl⟩)
  · exact (⟨by decide, xr_aloadn dL_law_1260 rfl⟩)
  · exact (⟨by decide, xr_aloadn dL_law_1261 rfl⟩)
  · exact (⟨by decide, xr_iload dL_law_1262⟩)
  · exact (xr_iconst dL_law_1264 (by decide +kernel))
  · exact (fun x y h => xr_iadd dL_law_1265 x y)
  · exact (xr_sld dL_law_1266)
  · exact (⟨by decide, xr_aloadn dL_law_1267 rfl⟩)
  · exact (⟨by decide, xr_iload dL_law_1268⟩)
  · exact (xr_iconst dL_law_1270 (by decide +kernel))
  · exact (fun x y h => xr_iadd dL_law_1271 x y)
  · exact (xr_sld dL_law_1272)
  · exact (⟨rfl, _, rfl, ⟨145, dL_law_1273, xw_1409, xw_1407, xw_1408⟩, _, rfl, rfl⟩)
  · exact (fun v h => xr_pop dL_law_1276 v h)
  · exact (⟨by decide, xr_aloadn dL_law_1277 rfl⟩)
  · exact (⟨by decide, xr_aloadn dL_law_1278 rfl⟩)
  · exact (⟨by decide, xr_iload dL_law_1279⟩)
  · exact (xr_iconst dL_law_1281 (by decide +kernel))
  · exact (fun x y h => xr_iadd dL_law_1282 x y)
  · exact (xr_sld dL_law_1283)
  · exact (⟨by decide, xr_aloadn dL_law_1284 rfl⟩)
  · exact (⟨by decide, xr_iload dL_law_1285⟩)
  · exact (xr_iconst dL_law_1287 (by decide +kernel))
  · exact (fun x y h => xr_iadd dL_law_1288 x y)
  · exact (xr_sld dL_law_1289)
  · exact (⟨rfl, _, rfl, ⟨148, dL_law_1290, xw_1412, xw_1410, xw_1411⟩, _, rfl, rfl⟩)
  · exact (fun v h => xr_pop dL_law_1293 v h)
  · exact (xr_goto dL_law_1294 (by decide))
  · exact (⟨by decide, xr_aloadn dL_law_1297 rfl⟩)
  · exact (⟨by decide, xr_aloadn dL_law_1298 rfl⟩)
  · exact (⟨by decide, xr_iload dL_law_1299⟩)
  · exact (xr_iconst dL_law_1301 (by decide +kernel))
  · exact (fun x y h => xr_iadd dL_law_1302 x y)
  · exact (xr_sld dL_law_1303)
  · exact (⟨rfl, _, rfl, ⟨149, dL_law_1304, xw_1415, xw_1413, xw_1414⟩, _, rfl, rfl⟩)
  · exact (fun v h => xr_pop dL_law_1307 v h)
  · exact (⟨by decide, xr_aloadn dL_law_1308 rfl⟩)
  · exact (⟨by decide, xr_aloadn dL_law_1309 rfl⟩)
  · exact (⟨by decide, xr_iload dL_law_1310⟩)
  · exact (xr_iconst dL_law_1312 (by decide +kernel))
  · exact (fun x y h => xr_iadd dL_law_1313 x y)
  · exact (xr_sld dL_law_1314)
  · exact (⟨rfl, _, rfl, ⟨152, dL_law_1315, xw_1418, xw_1416, xw_1417⟩, _, rfl, rfl⟩)
  · exact (fun v h => xr_pop dL_law_1318 v h)
  · exact (xr_goto dL_law_1319 (by decide))
  · exact (⟨by decide, xr_aloadn dL_law_1322 rfl⟩)
  · exact (⟨by decide, xr_aloadn dL_law_1323 rfl⟩)
  · exact (⟨by decide, xr_iload dL_law_1324⟩)
  · exact (xr_iconst dL_law_1326 (by decide +kernel))
  · exact (fun x y h => xr_iadd dL_law_1327 x y)
  · exact (xr_sld dL_law_1328)
  · exact (⟨by decide, xr_aloadn dL_law_1329 rfl⟩)
  · exact (⟨by decide, xr_iload dL_law_1330⟩)
  · exact (xr_iconst dL_law_1332 (by decide +kernel))
  · exact (fun x y h => xr_iadd dL_law_1333 x y)
def xkp_L1_7 : List (Nat × xOp) := [(1334, (43, 1335, 0, 0, [])), (1335, (2, 1336, 1, 0, [])), (1336, (2, 1338, 0, 4, [])), (1338, (0, 1339, 3, 0, [])), (1339, (5, 1340, 0, 0, [])), (1340, (43, 1341, 0, 0, [])), (1341, (28, 1344, 45, 11, [])), (1344, (69, 1345, 0, 0, [])), (1345, (2, 1346, 1, 2, [])), (1346, (2, 1347, 1, 0, [])), (1347, (2, 1349, 0, 4, [])), (1349, (0, 1350, 1, 0, [])), (1350, (5, 1351, 0, 0, [])), (1351, (43, 1352, 0, 0, [])), (1352, (2, 1353, 1, 0, [])), (1353, (2, 1355, 0, 4, [])), (1355, (0, 1356, 2, 0, [])), (1356, (5, 1357, 0, 0, [])), (1357, (43, 1358, 0, 0, [])), (1358, (2, 1359, 1, 0, [])), (1359, (2, 1361, 0, 4, [])), (1361, (0, 1362, 3, 0, [])), (1362, (5, 1363, 0, 0, [])), (1363, (43, 1364, 0, 0, [])), (1364, (28, 1367, 250, 12, [])), (1367, (69, 1368, 0, 0, [])), (1368, (14, 1422, 0, 0, [])), (1371, (2, 1372, 1, 1, [])), (1372, (28, 1375, 18, 11, [])), (1375, (10, 1376, 0, 0, [])), (1376, (2, 1377, 1, 2, [])), (1377, (28, 1380, 199, 12, [])), (1380, (10, 1381, 0, 0, [])), (1381, (14, 1422, 0, 0, [])), (1384, (2, 1385, 1, 1, [])), (1385, (28, 1388, 1, 11, [])), (1388, (10, 1389, 0, 0, [])), (1389, (2, 1390, 1, 2, [])), (1390, (28, 1393, 144, 12, [])), (1393, (10, 1394, 0, 0, [])), (1394, (14, 1422, 0, 0, [])), (1397, (2, 1398, 1, 1, [])), (1398, (2, 1399, 1, 0, [])), (1399, (2, 1401, 0, 4, [])), (1401, (0, 1402, 1, 0, [])), (1402, (5, 1403, 0, 0, [])), (1403, (43, 1404, 0, 0, [])), (1404, (28, 1407, 7, 11, [])), (1407, (10, 1408, 0, 0, [])), (1408, (2, 1409, 1, 2, [])), (1409, (2, 1410, 1, 0, [])), (1410, (2, 1412, 0, 4, [])), (1412, (0, 1413, 1, 0, [])), (1413, (5, 1414, 0, 0, [])), (1414, (43, 1415, 0, 0, [])), (1415, (28, 1418, 157, 12, [])), (1418, (10, 1419, 0, 0, [])), (1419, (14, 1422, 0, 0, [])), (1422, (4, 1425, 4, 6, [])), (1425, (14, 23, 0, 0, [])), (1428, (0, 1429, 1, 0, [])), (1429, (30, 0, 0, 3, []))]
set_option maxRecDepth 100000 in
set_option maxHeartbeats 4000000 in
theorem xop_L1_7 : ∀ q ∈ xkp_L1_7, xok xmt xm_L1 q.1 q.2 := by
  refine xcns ?_ <| xcns ?_ <| xcns ?_ <| xcns ?_ <| xcns ?_ <| xcns ?_ <| xcns ?_ <| xcns ?_ <| xcns ?_ <| xcns ?_ <| xcns ?_ <| xcns ?_ <| xcns ?_ <| xcns ?_ <| xcns ?_ <| xcns ?_ <| xcns ?_ <| xcns ?_ <| xcns ?_ <| xcns ?_ <| xcns ?_ <| xcns ?_ <| xcns ?_ <| xcns ?_ <| xcns ?_ <| xcns ?_ <| xcns ?_ <| xcns ?_ <| xcns ?_ <| xcns ?_ <| xcns ?_ <| xcns ?_ <| xcns ?_ <| xcns ?_ <| xcns ?_ <| xcns ?_ <| xcns ?_ <| xcns ?_ <| xcns ?_ <| xcns ?_ <| xcns ?_ <| xcns ?_ <| xcns ?_ <| xcns ?_ <| xcns ?_ <| xcns ?_ <| xcns ?_ <| xcns ?_ <| xcns ?_ <| xcns ?_ <| xcns ?_ <| xcns ?_ <| xcns ?_ <| xcns ?_ <| xcns ?_ <| xcns ?_ <| xcns ?_ <| xcns ?_ <| xcns ?_ <| xcns ?_ <| xcns ?_ <| xcns ?_ <| xnl
  · exact (xr_sld dL_law_1334)
  · exact (⟨by decide, xr_aloadn dL_law_1335 rfl⟩)
  · exact (⟨by decide, xr_iload dL_law_1336⟩)
  · exact (xr_iconst dL_law_1338 (by decide +kernel))
  · exact (fun x y h => xr_iadd dL_law_1339 x y)
  · exact (xr_sld dL_law_1340)
  · exact (⟨rfl, _, rfl, ⟨153, dL_law_1341, xw_1421, xw_1419, xw_1420⟩, _, rfl, rfl⟩)
  · exact (fun v h => xr_pop2 dL_law_1344 v h)
  · exact (⟨by decide, xr_aloadn dL_law_1345 rfl⟩)
  · exact (⟨by decide, xr_aloadn dL_law_1346 rfl⟩)
  · exact (⟨by decide, xr_iload dL_law_1347⟩)
  · exact (xr_iconst dL_law_1349 (by decide +kernel))
  · exact (fun x y h => xr_iadd dL_law_1350 x y)
  · exact (xr_sld dL_law_1351)
  · exact (⟨by decide, xr_aloadn dL_law_1352 rfl⟩)
  · exact (⟨by decide, xr_iload dL_law_1353⟩)
  · exact (xr_iconst dL_law_1355 (by decide +kernel))
  · exact (fun x y h => xr_iadd dL_law_1356 x y)
  · exact (xr_sld dL_law_1357)
  · exact (⟨by decide, xr_aloadn dL_law_1358 rfl⟩)
  · exact (⟨by decide, xr_iload dL_law_1359⟩)
  · exact (xr_iconst dL_law_1361 (by decide +kernel))
  · exact (fun x y h => xr_iadd dL_law_1362 x y)
  · exact (xr_sld dL_law_1363)
  · exact (⟨rfl, _, rfl, ⟨157, dL_law_1364, xw_1424, xw_1422, xw_1423⟩, _, rfl, rfl⟩)
  · exact (fun v h => xr_pop2 dL_law_1367 v h)
  · exact (xr_goto dL_law_1368 (by decide))
  · exact (⟨by decide, xr_aloadn dL_law_1371 rfl⟩)
  · exact (⟨rfl, _, rfl, ⟨158, dL_law_1372, xw_1427, xw_1425, xw_1426⟩, _, rfl, rfl⟩)
  · exact (fun v h => xr_pop dL_law_1375 v h)
  · exact (⟨by decide, xr_aloadn dL_law_1376 rfl⟩)
  · exact (⟨rfl, _, rfl, ⟨161, dL_law_1377, xw_1430, xw_1428, xw_1429⟩, _, rfl, rfl⟩)
  · exact (fun v h => xr_pop dL_law_1380 v h)
  · exact (xr_goto dL_law_1381 (by decide))
  · exact (⟨by decide, xr_aloadn dL_law_1384 rfl⟩)
  · exact (⟨rfl, _, rfl, ⟨162, dL_law_1385, xw_1433, xw_1431, xw_1432⟩, _, rfl, rfl⟩)
  · exact (fun v h => xr_pop dL_law_1388 v h)
  · exact (⟨by decide, xr_aloadn dL_law_1389 rfl⟩)
  · exact (⟨rfl, _, rfl, ⟨165, dL_law_1390, xw_1436, xw_1434, xw_1435⟩, _, rfl, rfl⟩)
  · exact (fun v h => xr_pop dL_law_1393 v h)
  · exact (xr_goto dL_law_1394 (by decide))
  · exact (⟨by decide, xr_aloadn dL_law_1397 rfl⟩)
  · exact (⟨by decide, xr_aloadn dL_law_1398 rfl⟩)
  · exact (⟨by decide, xr_iload dL_law_1399⟩)
  · exact (xr_iconst dL_law_1401 (by decide +kernel))
  · exact (fun x y h => xr_iadd dL_law_1402 x y)
  · exact (xr_sld dL_law_1403)
  · exact (⟨rfl, _, rfl, ⟨166, dL_law_1404, xw_1439, xw_1437, xw_1438⟩, _, rfl, rfl⟩)
  · exact (fun v h => xr_pop dL_law_1407 v h)
  · exact (⟨by decide, xr_aloadn dL_law_1408 rfl⟩)
  · exact (⟨by decide, xr_aloadn dL_law_1409 rfl⟩)
  · exact (⟨by decide, xr_iload dL_law_1410⟩)
  · exact (xr_iconst dL_law_1412 (by decide +kernel))
  · exact (fun x y h => xr_iadd dL_law_1413 x y)
  · exact (xr_sld dL_law_1414)
  · exact (⟨rfl, _, rfl, ⟨169, dL_law_1415, xw_1442, xw_1440, xw_1441⟩, _, rfl, rfl⟩)
  · exact (fun v h => xr_pop dL_law_1418 v h)
  · exact (xr_goto dL_law_1419 (by decide))
  · exact (xr_iinc dL_law_1422 (by decide +kernel))
  · exact (xr_goto dL_law_1425 (by decide))
  · exact (xr_iconst dL_law_1428 (by decide +kernel))
  · exact (⟨dL_law_1429, .boolean, rfl, rfl, Or.inr rfl⟩)
set_option maxRecDepth 1000000 in
theorem xoe_L1 : xk_L1 = xkp_L1_0 ++ (xkp_L1_1 ++ (xkp_L1_2 ++ (xkp_L1_3 ++ (xkp_L1_4 ++ (xkp_L1_5 ++ (xkp_L1_6 ++ (xkp_L1_7))))))) := rfl
theorem xo_L1 : ∀ q ∈ xk_L1, xok xmt xm_L1 q.1 q.2 := by
  rw [xoe_L1]
  exact List.forall_mem_append.mpr ⟨xop_L1_0, List.forall_mem_append.mpr ⟨xop_L1_1, List.forall_mem_append.mpr ⟨xop_L1_2, List.forall_mem_append.mpr ⟨xop_L1_3, List.forall_mem_append.mpr ⟨xop_L1_4, List.forall_mem_append.mpr ⟨xop_L1_5, List.forall_mem_append.mpr ⟨xop_L1_6, xop_L1_7⟩⟩⟩⟩⟩⟩⟩
end
section
set_option maxRecDepth 100000 in
theorem xmt_all : ∀ M ∈ xmt, xMok xmt M := xcns xmo_0 <| xcns xmo_1 <| xcns xmo_2 <| xcns xmo_3 <| xcns xmo_4 <| xcns xmo_5 <| xcns xmo_6 <| xcns xmo_7 <| xcns xmo_8 <| xcns xmo_9 <| xcns xmo_10 <| xcns xmo_11 <| xcns xmo_12 <| xcns xmo_13 <| xcns xmo_14 <| xcns xmo_15 <| xcns xmo_16 <| xcns xmo_17 <| xcns xmo_18 <| xcns xmo_19 <| xcns xmo_20 <| xcns xmo_21 <| xcns xmo_22 <| xcns xmo_23 <| xcns xmo_24 <| xcns xmo_25 <| xcns xmo_26 <| xcns xmo_27 <| xcns xmo_28 <| xcns xmo_29 <| xcns xmo_30 <| xcns xmo_31 <| xcns xmo_32 <| xcns xmo_33 <| xcns xmo_34 <| xcns xmo_35 <| xcns xmo_36 <| xcns xmo_37 <| xcns xmo_38 <| xcns xmo_39 <| xcns xmo_40 <| xcns xmo_41 <| xcns xmo_42 <| xcns xmo_43 <| xcns xmo_44 <| xcns xmo_45 <| xcns xmo_46 <| xcns xmo_47 <| xcns xmo_48 <| xcns xmo_49 <| xcns xmo_50 <| xcns xmo_51 <| xcns xmo_52 <| xcns xmo_53 <| xcns xmo_54 <| xcns xmo_55 <| xcns xmo_56 <| xcns xmo_57 <| xcns xmo_58 <| xcns xmo_59 <| xcns xmo_60 <| xcns xmo_61 <| xcns xmo_62 <| xcns xmo_63 <| xcns xmo_64 <| xcns xmo_65 <| xcns xmo_66 <| xcns xmo_67 <| xcns xmo_68 <| xcns xmo_69 <| xcns xmo_70 <| xcns xmo_71 <| xcns xmo_72 <| xcns xmo_73 <| xcns xmo_74 <| xcns xmo_75 <| xcns xmo_76 <| xcns xmo_77 <| xcns xmo_78 <| xcns xmo_79 <| xcns xmo_80 <| xcns xmo_81 <| xcns xmo_82 <| xcns xmo_83 <| xcns xmo_84 <| xcns xmo_85 <| xcns xmo_86 <| xcns xmo_87 <| xcns xmo_88 <| xcns xmo_89 <| xcns xmo_90 <| xcns xmo_91 <| xcns xmo_92 <| xcns xmo_93 <| xcns xmo_94 <| xcns xmo_95 <| xcns xmo_96 <| xcns xmo_97 <| xcns xmo_98 <| xcns xmo_99 <| xcns xmo_100 <| xcns xmo_101 <| xcns xmo_102 <| xcns xmo_103 <| xcns xmo_104 <| xcns xmo_105 <| xcns xmo_106 <| xcns xmo_107 <| xcns xmo_108 <| xcns xmo_109 <| xcns xmo_110 <| xcns xmo_111 <| xcns xmo_112 <| xcns xmo_113 <| xcns xmo_114 <| xcns xmo_115 <| xcns xmo_116 <| xcns xmo_117 <| xcns xmo_118 <| xcns xmo_119 <| xcns xmo_120 <| xcns xmo_121 <| xcns xmo_122 <| xcns xmo_123 <| xcns xmo_124 <| xcns xmo_125 <| xcns xmo_126 <| xcns xmo_127 <| xcns xmo_128 <| xcns xmo_129 <| xcns xmo_130 <| xcns xmo_131 <| xcns xmo_132 <| xcns xmo_133 <| xcns xmo_134 <| xcns xmo_135 <| xcns xmo_136 <| xcns xmo_137 <| xcns xmo_138 <| xcns xmo_139 <| xcns xmo_140 <| xcns xmo_141 <| xcns xmo_142 <| xcns xmo_143 <| xcns xmo_144 <| xcns xmo_145 <| xcns xmo_146 <| xcns xmo_147 <| xcns xmo_148 <| xcns xmo_149 <| xcns xmo_150 <| xcns xmo_151 <| xcns xmo_152 <| xcns xmo_153 <| xcns xmo_154 <| xcns xmo_155 <| xcns xmo_156 <| xcns xmo_157 <| xcns xmo_158 <| xcns xmo_159 <| xcns xmo_160 <| xcns xmo_161 <| xcns xmo_162 <| xcns xmo_163 <| xcns xmo_164 <| xcns xmo_165 <| xcns xmo_166 <| xcns xmo_167 <| xcns xmo_168 <| xcns xmo_169 <| xcns xmo_170 <| xcns xmo_171 <| xcns xmo_172 <| xcns xmo_173 <| xcns xmo_174 <| xcns xmo_175 <| xcns xmo_176 <| xcns xmo_177 <| xcns xmo_178 <| xcns xmo_179 <| xcns xmo_180 <| xcns xmo_181 <| xcns xmo_182 <| xcns xmo_183 <| xcns xmo_184 <| xcns xmo_185 <| xcns xmo_186 <| xcns xmo_187 <| xcns xmo_188 <| xcns xmo_189 <| xcns xmo_190 <| xcns xmo_191 <| xcns xmo_192 <| xcns xmo_193 <| xcns xmo_194 <| xcns xmo_195 <| xcns xmo_196 <| xcns xmo_197 <| xcns xmo_198 <| xcns xmo_199 <| xcns xmo_200 <| xcns xmo_201 <| xcns xmo_202 <| xcns xmo_203 <| xcns xmo_204 <| xcns xmo_205 <| xcns xmo_206 <| xcns xmo_207 <| xcns xmo_208 <| xcns xmo_209 <| xcns xmo_210 <| xcns xmo_211 <| xcns xmo_212 <| xcns xmo_213 <| xcns xmo_214 <| xcns xmo_215 <| xcns xmo_216 <| xcns xmo_217 <| xcns xmo_218 <| xcns xmo_219 <| xcns xmo_220 <| xcns xmo_221 <| xcns xmo_222 <| xcns xmo_223 <| xcns xmo_224 <| xcns xmo_225 <| xcns xmo_226 <| xcns xmo_227 <| xcns xmo_228 <| xcns xmo_229 <| xcns xmo_230 <| xcns xmo_231 <| xcns xmo_232 <| xcns xmo_233 <| xcns xmo_234 <| xcns xmo_235 <| xcns xmo_236 <| xcns xmo_237 <| xcns xmo_238 <| xcns xmo_239 <| xcns xmo_240 <| xcns xmo_241 <| xcns xmo_242 <| xcns xmo_243 <| xcns xmo_244 <| xcns xmo_245 <| xcns xmo_246 <| xcns xmo_247 <| xcns xmo_248 <| xcns xmo_249 <| xcns xmo_250 <| xcns xmo_251 <| xcns xmo_252 <| xcns xmo_253 <| xcns xmo_254 <| xcns xmo_255 <| xcns xmo_256 <| xcns xmo_257 <| xcns xmo_258 <| xcns xmo_259 <| xcns xmo_260 <| xcns xmo_261 <| xcns xmo_262 <| xcns xmo_263 <| xcns xmo_264 <| xnl
theorem xmt_ok : ∀ (mi : Nat) (M : xM), xmt[mi]? = some M → xMok xmt M := fun _ M h => xmt_all M (List.mem_of_getElem? h)
end
section
def xK0 : xH := [.inr (11, [(1, 1), (1, 2), (1, 28), (1, 54), (1, 57), (1, 64), (1, 71), (1, 73), (1, 76), (1, 87), (1, 91), (0, 0), (0, 0), (0, 4294967295), (0, 0)]), .inl (1, List.replicate 800 (0, 0)), .inr (4, [(1, 3), (1, 5), (1, 7), (1, 9), (1, 11), (1, 12), (1, 13), (1, 14), (1, 15), (1, 16), (1, 17), (1, 18), (1, 19), (1, 20), (1, 21), (1, 22), (0, 0), (0, 0), (0, 0)]), .inr (6, [(1, 4), (0, 0)]), .inl (0, [(0, 0), (0, 0), (0, 0)]), .inr (6, [(1, 6), (0, 0)]), .inl (0, List.replicate 6 (0, 0)), .inr (6, [(1, 8), (0, 0)]), .inl (0, List.replicate 4 (0, 0)), .inr (6, [(1, 10), (0, 0)]), .inl (0, [(0, 0), (0, 0), (0, 0)]), .inl (0, [(0, 0), (0, 0), (0, 0)]), .inl (0, [(0, 0), (0, 0), (0, 0)]), .inl (0, List.replicate 6 (0, 0)), .inl (0, List.replicate 6 (0, 0)), .inl (0, List.replicate 6 (0, 0)), .inl (0, List.replicate 6 (0, 0)), .inl (0, List.replicate 6 (0, 0)), .inl (0, List.replicate 4 (0, 0)), .inl (0, List.replicate 12 (0, 0)), .inl (0, List.replicate 96 (0, 0)), .inl (0, [(0, 0), (0, 0), (0, 0)]), .inr (2, [(1, 23), (1, 24), (1, 25), (1, 26), (0, 0), (1, 27), (0, 0), (0, 0), (0, 0), (0, 1)]), .inl (0, List.replicate 64 (0, 0)), .inl (0, List.replicate 64 (0, 0)), .inl (0, List.replicate 5 (0, 0)), .inl (0, List.replicate 5 (0, 0)), .inl (0, List.replicate 72 (0, 0)), .inr (4, [(1, 29), (1, 31), (1, 33), (1, 35), (1, 37), (1, 38), (1, 39), (1, 40), (1, 41), (1, 42), (1, 43), (1, 44), (1, 45), (1, 46), (1, 47), (1, 48), (0, 0), (0, 0), (0, 0)]), .inr (6, [(1, 30), (0, 0)]), .inl (0, [(0, 0), (0, 0), (0, 0)]), .inr (6, [(1, 32), (0, 0)]), .inl (0, List.replicate 6 (0, 0)), .inr (6, [(1, 34), (0, 0)]), .inl (0, List.replicate 4 (0, 0)), .inr (6, [(1, 36), (0, 0)]), .inl (0, [(0, 0), (0, 0), (0, 0)]), .inl (0, [(0, 0), (0, 0), (0, 0)]), .inl (0, [(0, 0), (0, 0), (0, 0)]), .inl (0, List.replicate 6 (0, 0)), .inl (0, List.replicate 6 (0, 0)), .inl (0, List.replicate 6 (0, 0)), .inl (0, List.replicate 6 (0, 0)), .inl (0, List.replicate 6 (0, 0)), .inl (0, List.replicate 4 (0, 0)), .inl (0, List.replicate 12 (0, 0)), .inl (0, List.replicate 96 (0, 0)), .inl (0, [(0, 0), (0, 0), (0, 0)]), .inr (2, [(1, 49), (1, 50), (1, 51), (1, 52), (0, 0), (1, 53), (0, 0), (0, 0), (0, 0), (0, 1)]), .inl (0, List.replicate 64 (0, 0)), .inl (0, List.replicate 64 (0, 0)), .inl (0, List.replicate 5 (0, 0)), .inl (0, List.replicate 5 (0, 0)), .inl (0, List.replicate 72 (0, 0)), .inr (8, [(1, 55), (1, 28), (0, 0), (0, 0)]), .inr (9, [(1, 1), (1, 56), (0, 0), (0, 0), (0, 0), (0, 0), (0, 0), (0, 0), (0, 4294967295)]), .inl (0, [(0, 672863822), (0, 754224288), (0, 744049824), (0, 68523584), (0, 559500448), (0, 642945024), (0, 404455424), (0, 83656704), (0, 538687488), (0, 507661312), (0, 538529792), (0, 156401664), (0, 119573856), (0, 522190848), (0, 48365568), (0, 486146048), (0, 139546624), (0, 605688832), (0, 486151776), (0, 609866336), (0, 278110208), (0, 777169920), (0, 538530400)]), .inr (10, [(1, 58), (1, 59), (1, 60), (1, 61), (1, 62), (1, 63), (0, 0), (0, 0), (0, 0), (0, 0), (0, 0), (0, 4294967295), (0, 0)]), .inl (0, [(0, 0), (0, 0), (0, 0)]), .inl (0, List.replicate 6 (0, 0)), .inl (0, [(0, 0), (0, 0), (0, 0)]), .inl (0, List.replicate 12 (0, 4294967295)), .inl (0, List.replicate 12 (0, 0)), .inl (0, List.replicate 12 (0, 0)), .inr (10, [(1, 65), (1, 66), (1, 67), (1, 68), (1, 69), (1, 70), (0, 0), (0, 0), (0, 0), (0, 0), (0, 0), (0, 4294967295), (0, 0)]), .inl (0, [(0, 0), (0, 0), (0, 0)]), .inl (0, List.replicate 6 (0, 0)), .inl (0, [(0, 0), (0, 0), (0, 0)]), .inl (0, List.replicate 12 (0, 0)), .inl (0, List.replicate 12 (0, 0)), .inl (0, List.replicate 12 (0, 0)), .inr (3, [(1, 72), (0, 0)]), .inl (0, List.replicate 24 (0, 0)), .inr (5, [(1, 2), (1, 57), (1, 74), (1, 75), (0, 0), (0, 0)]), .inl (2, List.replicate 7 (4, 0)), .inl (2, List.replicate 64 (4, 0)), .inr (1, [(1, 2), (1, 57), (1, 73), (1, 77), (1, 78), (1, 79), (1, 80), (1, 86), (0, 0), (0, 0), (0, 0)]), .inl (0, List.replicate 72 (0, 0)), .inl (0, List.replicate 72 (0, 0)), .inl (0, List.replicate 25 (0, 0)), .inl (4, [(1, 81), (1, 82), (1, 83), (1, 84), (1, 85)]), .inl (0, List.replicate 97 (0, 0)), .inl (0, List.replicate 97 (0, 0)), .inl (0, List.replicate 97 (0, 0)), .inl (0, List.replicate 97 (0, 0)), .inl (0, List.replicate 97 (0, 0)), .inl (0, List.replicate 12 (0, 0)), .inr (7, [(1, 2), (1, 57), (1, 73), (1, 88), (1, 89), (1, 90)]), .inl (0, List.replicate 4 (0, 0)), .inl (0, List.replicate 4 (0, 0)), .inl (0, [(0, 0), (0, 0), (0, 0)]), .inr (0, [(1, 2), (1, 57), (1, 73), (1, 92), (1, 93), (1, 94), (0, 0), (0, 0), (0, 0), (0, 1000000)]), .inl (0, List.replicate 6 (0, 0)), .inl (0, List.replicate 4 (0, 0)), .inl (0, List.replicate 4 (0, 0)), .inr (12, [(0, 0), (1, 96), (0, 0), (1, 97), (1, 98), (1, 99), (1, 100), (1, 101), (1, 102), (1, 103), (1, 104), (1, 105), (1, 106), (1, 107), (1, 108), (1, 109), (1, 110), (1, 111), (1, 112), (1, 113), (1, 114), (1, 115), (1, 116), (1, 117), (0, 0), (0, 0), (0, 0), (0, 0), (0, 0), (0, 0), (0, 0), (0, 0), (0, 0), (0, 0), (0, 4294967295), (0, 0), (0, 0), (1, 118), (1, 119), (1, 120), (1, 121), (1, 122), (1, 123), (1, 124), (1, 125), (1, 126), (1, 127), (1, 128), (1, 129), (0, 0), (1, 130), (1, 131), (0, 0), (1, 132), (1, 133), (1, 134), (1, 135), (1, 136), (1, 137), (0, 0), (0, 0), (0, 0), (0, 4294967295), (1, 138), (1, 139), (1, 140), (1, 141), (1, 142), (0, 0)]), .inl (0, List.replicate 800 (0, 0)), .inl (0, List.replicate 14 (0, 0)), .inl (0, List.replicate 6 (0, 0)), .inl (0, List.replicate 6 (0, 0)), .inl (0, List.replicate 6 (0, 0)), .inl (0, List.replicate 12 (0, 0)), .inl (0, List.replicate 12 (0, 0)), .inl (0, List.replicate 12 (0, 0)), .inl (3, List.replicate 12 (0, 0)), .inl (0, List.replicate 12 (0, 4294967295)), .inl (0, List.replicate 12 (0, 0)), .inl (0, List.replicate 12 (0, 0)), .inl (0, List.replicate 8 (0, 0)), .inl (0, List.replicate 8 (0, 0)), .inl (0, List.replicate 24 (0, 0)), .inl (0, List.replicate 192 (0, 0)), .inl (0, List.replicate 6 (0, 0)), .inl (0, List.replicate 6 (0, 0)), .inl (0, List.replicate 10 (0, 0)), .inl (0, List.replicate 10 (0, 0)), .inl (0, List.replicate 128 (0, 0)), .inl (0, List.replicate 128 (0, 0)), .inl (0, [(0, 0), (0, 0)]), .inl (0, [(0, 0), (0, 0)]), .inl (0, [(0, 0), (0, 0)]), .inl (0, [(0, 0), (0, 0)]), .inl (0, [(0, 0), (0, 0)]), .inl (0, List.replicate 6 (0, 0)), .inl (0, List.replicate 6 (0, 0)), .inl (0, List.replicate 12 (0, 0)), .inl (0, [(0, 4294967295), (0, 4294967295), (0, 4294967295), (0, 4294967295), (0, 4294967295), (0, 4294967295), (0, 4294967295), (0, 4294967295), (0, 4294967295), (0, 4294967295), (0, 4294967295), (0, 4294967295), (0, 0), (0, 0), (0, 0), (0, 0), (0, 0), (0, 0), (0, 0), (0, 0), (0, 0), (0, 0), (0, 0), (0, 0)]), .inl (0, [(0, 0), (0, 0)]), .inl (0, List.replicate 24 (0, 0)), .inl (0, List.replicate 24 (0, 0)), .inl (2, List.replicate 7 (4, 0)), .inl (2, List.replicate 64 (4, 0)), .inl (0, List.replicate 5000 (0, 0)), .inl (0, List.replicate 5000 (0, 0)), .inl (0, List.replicate 72 (0, 0)), .inl (0, List.replicate 72 (0, 0)), .inl (0, [(0, 0), (0, 0), (0, 0)]), .inl (0, [(0, 0), (0, 0), (0, 0)]), .inl (0, List.replicate 24 (0, 0)), .inl (0, List.replicate 24 (0, 0)), .inl (3, List.replicate 24 (0, 0)), .inl (0, List.replicate 4 (0, 0)), .inl (0, List.replicate 4 (0, 0)), .inl (2, [(4, 0)])]
def xlv0 : xL := [(4, (0, 0)), (3, (1, 143)), (2, (1, 95)), (1, (1, 0)), (0, (5, 50))]
def xnil (r : Option (List xR)) : Bool := match r with
  | some [] => true
  | _ => false
def xstp0 : xRec := fun pc lv st K ce sl κ => if Nat.beq pc 23 && (decide (lv = xlv0) && (decide (st = []) && (decide (K = xK0) && (Nat.beq ce 144 && (Nat.beq sl 14558 && decide (κ = ([], []))))))) then some [] else none
end
section
abbrev yV : Type := Nat × Int
abbrev yMem : Type := Nat → Nat → Int
abbrev yS : Type := (Nat × Nat × List Nat) ⊕ (Nat × List yV)
abbrev yL : Type := List (Nat × yV)
/-- the shape of the two objects at the law's loop: an array (type, length, its references), an object (class, fields; numbers as 0) -/
def ysh : List yS := [.inr (11, [(1, 1), (1, 2), (1, 28), (1, 54), (1, 57), (1, 64), (1, 71), (1, 73), (1, 76), (1, 87), (1, 91), (0, 0), (0, 0), (0, 0), (0, 0)]), .inl (1, 800, []), .inr (4, [(1, 3), (1, 5), (1, 7), (1, 9), (1, 11), (1, 12), (1, 13), (1, 14), (1, 15), (1, 16), (1, 17), (1, 18), (1, 19), (1, 20), (1, 21), (1, 22), (0, 0), (0, 0), (0, 0)]), .inr (6, [(1, 4), (0, 0)]), .inl (0, 3, []), .inr (6, [(1, 6), (0, 0)]), .inl (0, 6, []), .inr (6, [(1, 8), (0, 0)]), .inl (0, 4, []), .inr (6, [(1, 10), (0, 0)]), .inl (0, 3, []), .inl (0, 3, []), .inl (0, 3, []), .inl (0, 6, []), .inl (0, 6, []), .inl (0, 6, []), .inl (0, 6, []), .inl (0, 6, []), .inl (0, 4, []), .inl (0, 12, []), .inl (0, 96, []), .inl (0, 3, []), .inr (2, [(1, 23), (1, 24), (1, 25), (1, 26), (0, 0), (1, 27), (0, 0), (0, 0), (0, 0), (0, 0)]), .inl (0, 64, []), .inl (0, 64, []), .inl (0, 5, []), .inl (0, 5, []), .inl (0, 72, []), .inr (4, [(1, 29), (1, 31), (1, 33), (1, 35), (1, 37), (1, 38), (1, 39), (1, 40), (1, 41), (1, 42), (1, 43), (1, 44), (1, 45), (1, 46), (1, 47), (1, 48), (0, 0), (0, 0), (0, 0)]), .inr (6, [(1, 30), (0, 0)]), .inl (0, 3, []), .inr (6, [(1, 32), (0, 0)]), .inl (0, 6, []), .inr (6, [(1, 34), (0, 0)]), .inl (0, 4, []), .inr (6, [(1, 36), (0, 0)]), .inl (0, 3, []), .inl (0, 3, []), .inl (0, 3, []), .inl (0, 6, []), .inl (0, 6, []), .inl (0, 6, []), .inl (0, 6, []), .inl (0, 6, []), .inl (0, 4, []), .inl (0, 12, []), .inl (0, 96, []), .inl (0, 3, []), .inr (2, [(1, 49), (1, 50), (1, 51), (1, 52), (0, 0), (1, 53), (0, 0), (0, 0), (0, 0), (0, 0)]), .inl (0, 64, []), .inl (0, 64, []), .inl (0, 5, []), .inl (0, 5, []), .inl (0, 72, []), .inr (8, [(1, 55), (1, 28), (0, 0), (0, 0)]), .inr (9, [(1, 1), (1, 56), (0, 0), (0, 0), (0, 0), (0, 0), (0, 0), (0, 0), (0, 0)]), .inl (0, 23, []), .inr (10, [(1, 58), (1, 59), (1, 60), (1, 61), (1, 62), (1, 63), (0, 0), (0, 0), (0, 0), (0, 0), (0, 0), (0, 0), (0, 0)]), .inl (0, 3, []), .inl (0, 6, []), .inl (0, 3, []), .inl (0, 12, []), .inl (0, 12, []), .inl (0, 12, []), .inr (10, [(1, 65), (1, 66), (1, 67), (1, 68), (1, 69), (1, 70), (0, 0), (0, 0), (0, 0), (0, 0), (0, 0), (0, 0), (0, 0)]), .inl (0, 3, []), .inl (0, 6, []), .inl (0, 3, []), .inl (0, 12, []), .inl (0, 12, []), .inl (0, 12, []), .inr (3, [(1, 72), (0, 0)]), .inl (0, 24, []), .inr (5, [(1, 2), (1, 57), (1, 74), (1, 75), (0, 0), (0, 0)]), .inl (2, 7, []), .inl (2, 64, []), .inr (1, [(1, 2), (1, 57), (1, 73), (1, 77), (1, 78), (1, 79), (1, 80), (1, 86), (0, 0), (0, 0), (0, 0)]), .inl (0, 72, []), .inl (0, 72, []), .inl (0, 25, []), .inl (4, 5, [81, 82, 83, 84, 85]), .inl (0, 97, []), .inl (0, 97, []), .inl (0, 97, []), .inl (0, 97, []), .inl (0, 97, []), .inl (0, 12, []), .inr (7, [(1, 2), (1, 57), (1, 73), (1, 88), (1, 89), (1, 90)]), .inl (0, 4, []), .inl (0, 4, []), .inl (0, 3, []), .inr (0, [(1, 2), (1, 57), (1, 73), (1, 92), (1, 93), (1, 94), (0, 0), (0, 0), (0, 0), (0, 0)]), .inl (0, 6, []), .inl (0, 4, []), .inl (0, 4, []), .inr (12, [(0, 0), (1, 96), (0, 0), (1, 97), (1, 98), (1, 99), (1, 100), (1, 101), (1, 102), (1, 103), (1, 104), (1, 105), (1, 106), (1, 107), (1, 108), (1, 109), (1, 110), (1, 111), (1, 112), (1, 113), (1, 114), (1, 115), (1, 116), (1, 117), (0, 0), (0, 0), (0, 0), (0, 0), (0, 0), (0, 0), (0, 0), (0, 0), (0, 0), (0, 0), (0, 0), (0, 0), (0, 0), (1, 118), (1, 119), (1, 120), (1, 121), (1, 122), (1, 123), (1, 124), (1, 125), (1, 126), (1, 127), (1, 128), (1, 129), (0, 0), (1, 130), (1, 131), (0, 0), (1, 132), (1, 133), (1, 134), (1, 135), (1, 136), (1, 137), (0, 0), (0, 0), (0, 0), (0, 0), (1, 138), (1, 139), (1, 140), (1, 141), (1, 142), (0, 0)]), .inl (0, 800, []), .inl (0, 14, []), .inl (0, 6, []), .inl (0, 6, []), .inl (0, 6, []), .inl (0, 12, []), .inl (0, 12, []), .inl (0, 12, []), .inl (3, 12, []), .inl (0, 12, []), .inl (0, 12, []), .inl (0, 12, []), .inl (0, 8, []), .inl (0, 8, []), .inl (0, 24, []), .inl (0, 192, []), .inl (0, 6, []), .inl (0, 6, []), .inl (0, 10, []), .inl (0, 10, []), .inl (0, 128, []), .inl (0, 128, []), .inl (0, 2, []), .inl (0, 2, []), .inl (0, 2, []), .inl (0, 2, []), .inl (0, 2, []), .inl (0, 6, []), .inl (0, 6, []), .inl (0, 12, []), .inl (0, 24, []), .inl (0, 2, []), .inl (0, 24, []), .inl (0, 24, []), .inl (2, 7, []), .inl (2, 64, []), .inl (0, 5000, []), .inl (0, 5000, []), .inl (0, 72, []), .inl (0, 72, []), .inl (0, 3, []), .inl (0, 3, []), .inl (0, 24, []), .inl (0, 24, []), .inl (3, 24, []), .inl (0, 4, []), .inl (0, 4, []), .inl (2, 1, [])]
end
section
set_option maxRecDepth 1000000 in
theorem xpro : xnil (xeT xmt [] true 6000 xm_L0 xstp0 50 0 [(0, (5, 50))] [] [] 0 0 ([], [])) = true := by decide +kernel
end
section
/-! THE LOGIC: a method's frame over a memory of integers, whose shape is the one of the two objects at the law's loop. A value (tag, number): (0, x) int, (1, i) the cell i, (2, _) null, (4, x) long, (5, k) a constant text, (6, k) its bytes, (7, _) a reference that is passed on alone. Numbers stand for their remainders by 2^32 (2^64). -/
abbrev yE : Type := Nat × (Nat → Nat) × (Nat → ClassId) × va_G × Launch × (State → Prop)
abbrev yb (E : yE) : Nat := E.1
abbrev ysa (E : yE) : Nat → Nat := E.2.1
abbrev yda (E : yE) : Nat → ClassId := E.2.2.1
abbrev yD (E : yE) : va_G := E.2.2.2.1
abbrev yl (E : yE) : Launch := E.2.2.2.2.1
abbrev yEX (E : yE) : State → Prop := E.2.2.2.2.2
def iI (x : Int) : Int32 := Int32.ofInt x
def lI (x : Int) : Int64 := Int64.ofInt x
def w32 (x : Int) : Int := (iI x).toInt
def w64 (x : Int) : Int := (lI x).toInt
theorem iI_w (x : Int) : iI (w32 x) = iI x := Int32.ofInt_toInt _
theorem lI_w (x : Int) : lI (w64 x) = lI x := Int64.ofInt_toInt _
theorem iI_t (x : Int32) : iI x.toInt = x := Int32.ofInt_toInt _
theorem lI_t (x : Int64) : lI x.toInt = x := Int64.ofInt_toInt _
theorem w32_of {x : Int} (h1 : -2147483648 ≤ x) (h2 : x < 2147483648) : w32 x = x := Int32.toInt_ofInt_of_le (by simpa using h1) (by simpa using h2)
theorem w64_of {x : Int} (h1 : -9223372036854775808 ≤ x) (h2 : x < 9223372036854775808) : w64 x = x := Int64.toInt_ofInt_of_le (by simpa using h1) (by simpa using h2)
theorem w32_lo (x : Int) : -2147483648 ≤ w32 x := by have := Int32.le_toInt (iI x); simpa [w32] using this
theorem w32_hi (x : Int) : w32 x < 2147483648 := by have := Int32.toInt_lt (iI x); simpa [w32] using this
theorem w64_lo (x : Int) : -9223372036854775808 ≤ w64 x := by have := Int64.le_toInt (lI x); simpa [w64] using this
theorem w64_hi (x : Int) : w64 x < 9223372036854775808 := by have := Int64.toInt_lt (lI x); simpa [w64] using this
theorem w32_w (x : Int) : w32 (w32 x) = w32 x := w32_of (w32_lo x) (w32_hi x)
theorem iI_inj {x y : Int} : iI x = iI y ↔ w32 x = w32 y := Int32.toInt_inj.symm
theorem lI_inj {x y : Int} : lI x = lI y ↔ w64 x = w64 y := Int64.toInt_inj.symm
theorem iI_n (n : Nat) : iI (n : Int) = nI n := Int32.ofInt_eq_ofNat
/-- a constant -/
def cI (a : Nat) : Int := if Nat.blt a 2147483648 then (a : Int) else (a : Int) - 4294967296
def cL (a : Nat) : Int := if Nat.blt a 9223372036854775808 then (a : Int) else (a : Int) - 18446744073709551616
theorem iI_c (a : Nat) : iI (cI a) = nI a := by
  unfold cI
  split
  · exact iI_n a
  · have : iI ((a : Int) - 4294967296) = iI (a : Int) - iI 4294967296 := Int32.ofInt_sub _ _
    rw [this, iI_n, show iI 4294967296 = 0 by decide]
    exact Int32.sub_zero _
theorem lI_c (a : Nat) : lI (cL a) = lN a := by
  unfold cL
  split
  · exact Int64.ofInt_eq_ofNat
  · have : lI ((a : Int) - 18446744073709551616) = lI (a : Int) - lI 18446744073709551616 := Int64.ofInt_sub _ _
    rw [this, show lI 18446744073709551616 = 0 by decide]
    rw [Int64.sub_zero]
    exact Int64.ofInt_eq_ofNat
def ydv (E : yE) (v : yV) : Value := match v with
  | (0, x) => .int (iI x)
  | (1, i) => .ref (yb E + i.toNat)
  | (2, _) => .null
  | (5, k) => .ref (ysa E k.toNat)
  | (6, k) => .ref (ysa E (k.toNat + 1000))
  | (7, _) => if ysa E 98 = 0 then .null else .ref (ysa E 99)
  | (_, x) => .long (lI x)
def yfv (v : yV) (x : Int) : yV := match v with
  | (0, _) => (0, x)
  | (4, _) => (4, x)
  | v => v
def yfs (E : yE) : Nat → List yV → (Nat → Int) → List Value
  | _, [], _ => []
  | j, v :: r, f => ydv E (yfv v (f j)) :: yfs E (j + 1) r f
theorem yfs_get {E : yE} {f : Nat → Int} : ∀ (fs : List yV) (o k : Nat), (yfs E o fs f)[k]? = fs[k]?.map (fun v => ydv E (yfv v (f (o + k))))
  | [], o, k => by simp [yfs]
  | v :: r, o, 0 => by simp [yfs]
  | v :: r, o, k + 1 => by
    simp only [yfs, List.getElem?_cons_succ]
    rw [yfs_get r (o + 1) k, show o + 1 + k = o + (k + 1) by omega]
theorem yfs_len {E : yE} {f : Nat → Int} : ∀ (fs : List yV) (o : Nat), (yfs E o fs f).length = fs.length
  | [], o => rfl
  | v :: r, o => by simp [yfs, yfs_len r (o + 1)]
theorem yfs_ext {E : yE} {f g : Nat → Int} : ∀ (fs : List yV) (o : Nat), (∀ j, o ≤ j → f j = g j) → yfs E o fs f = yfs E o fs g
  | [], o, h => rfl
  | v :: r, o, h => by
    simp only [yfs]
    rw [h o (Nat.le_refl _), yfs_ext r (o + 1) (fun j hj => h j (by omega))]
theorem yfs_set {E : yE} {f : Nat → Int} {x : Int} : ∀ (fs : List yV) (o k : Nat) (v : yV), fs[k]? = some v → (yfs E o fs f).set k (ydv E (yfv v x)) = yfs E o fs (fun j => if j = o + k then x else f j)
  | [], o, k, v, h => by simp at h
  | w :: r, o, 0, v, h => by
    simp only [List.getElem?_cons_zero, Option.some.injEq] at h
    subst h
    simp only [yfs, List.set_cons_zero, Nat.add_zero, if_true]
    congr 1
    exact yfs_ext r (o + 1) (fun j hj => by rw [if_neg (by omega)])
  | w :: r, o, k + 1, v, h => by
    simp only [List.getElem?_cons_succ] at h
    simp only [yfs, List.set_cons_succ]
    rw [yfs_set r (o + 1) k v h, if_neg (by omega)]
    congr 1
    exact yfs_ext r (o + 1) (fun j hj => by rw [show o + 1 + k = o + (k + 1) by omega])
def yce (E : yE) (S : yS) (f : Nat → Int) : va_E := match S with
  | .inl (2, n, _) => .inl (yda E 2, n, .inr (.inl (fun j => lI (f j))))
  | .inl (4, n, rs) => .inl (yda E 4, n, .inr (.inr (.inr (.inr (fun j => (rs[j]?).map (fun q => yb E + q))))))
  | .inl (k, n, _) => .inl (yda E k, n, .inl (fun j => iI (f j)))
  | .inr (ci, fs) => .inr (ci, yfs E 0 fs f)
def ycx (E : yE) (mem : yMem) : Nat → List yS → va_W
  | _, [] => []
  | i, S :: r => (yb E + i, yce E S (mem i)) :: ycx E mem (i + 1) r
theorem ycx_get {E : yE} {mem : yMem} : ∀ (L : List yS) (o i : Nat), (ycx E mem o L)[i]? = L[i]?.map (fun S => (yb E + (o + i), yce E S (mem (o + i))))
  | [], o, i => by simp [ycx]
  | S :: r, o, 0 => by simp [ycx]
  | S :: r, o, i + 1 => by
    simp only [ycx, List.getElem?_cons_succ]
    rw [ycx_get r (o + 1) i, show o + 1 + i = o + (i + 1) by omega]
theorem ycx_ext {E : yE} {mem mem' : yMem} : ∀ (L : List yS) (o : Nat), (∀ c, o ≤ c → mem c = mem' c) → ycx E mem o L = ycx E mem' o L
  | [], o, h => rfl
  | S :: r, o, h => by
    simp only [ycx]
    rw [h o (Nat.le_refl _), ycx_ext r (o + 1) (fun j hj => h j (by omega))]
theorem ycx_set {E : yE} {mem : yMem} {f : Nat → Int} : ∀ (L : List yS) (o i : Nat) (S : yS), L[i]? = some S → (ycx E mem o L).set i (yb E + (o + i), yce E S f) = ycx E (fun c => if c = o + i then f else mem c) o L
  | [], o, i, S, h => by simp at h
  | T :: r, o, 0, S, h => by
    simp only [List.getElem?_cons_zero, Option.some.injEq] at h
    subst h
    simp only [ycx, List.set_cons_zero, Nat.add_zero, if_true]
    congr 1
    exact ycx_ext r (o + 1) (fun c hc => by rw [if_neg (by omega)])
  | T :: r, o, i + 1, S, h => by
    simp only [List.getElem?_cons_succ] at h
    simp only [ycx, List.set_cons_succ]
    rw [show o + (i + 1) = o + 1 + i by omega, ycx_set r (o + 1) i S h, if_neg (by omega)]
abbrev yW (E : yE) (mem : yMem) : va_W := ycx E mem 0 ysh
def yset (mem : yMem) (i n : Nat) (x : Int) : yMem := fun c j => if c = i then (if j = n then x else mem c j) else mem c j
def ycpy (mem : yMem) (ss sp dd dp n : Nat) : yMem := fun c j => if c = dd then (if dp ≤ j ∧ j < dp + n then mem ss (sp + (j - dp)) else mem c j) else mem c j
theorem yset_eq (mem : yMem) (i n : Nat) (x : Int) : (fun c => if c = 0 + i then (fun j => if j = n then x else mem i j) else mem c) = yset mem i n x := by
  funext c j
  simp only [yset, Nat.zero_add]
  by_cases h : c = i
  · subst h; simp
  · simp [h]
theorem ycpy_eq (mem : yMem) (ss sp dd dp n : Nat) : (fun c => if c = 0 + dd then va_cpy (mem ss) (mem dd) sp dp n else mem c) = ycpy mem ss sp dd dp n := by
  funext c j
  simp only [ycpy, Nat.zero_add]
  by_cases h : c = dd
  · subst h; simp [va_cpy]
  · simp [h]
theorem yW_at {E : yE} {mem : yMem} {i : Nat} {S : yS} (h : ysh[i]? = some S) : (yW E mem)[i]? = some (yb E + i, yce E S (mem i)) := by
  rw [ycx_get, h, Nat.zero_add]
  rfl
theorem yW_put {E : yE} {mem : yMem} {i : Nat} {S : yS} {f : Nat → Int} (h : ysh[i]? = some S) : (yW E mem).set i (yb E + i, yce E S f) = yW E (fun c => if c = 0 + i then f else mem c) := by
  have := ycx_set (E := E) (mem := mem) (f := f) ysh 0 i S h
  rw [Nat.zero_add] at this ⊢
  exact this
theorem yW_D {E : yE} {mem : yMem} {A : Nat → Prop} (h : ∀ i, i < ysh.length → A (yb E + i)) : va_D A (yW E mem) := by
  refine ⟨fun i j p q hi hj hpq => ?_, fun k q hk => ?_⟩
  · rw [ycx_get] at hi hj
    cases h1 : ysh[i]? with
    | none => rw [h1] at hi; cases hi
    | some x =>
      cases h2 : ysh[j]? with
      | none => rw [h2] at hj; cases hj
      | some y =>
        rw [h1] at hi; rw [h2] at hj
        cases hi; cases hj
        dsimp only at hpq
        omega
  · rw [ycx_get] at hk
    cases h1 : ysh[k]? with
    | none => rw [h1] at hk; cases hk
    | some x =>
      rw [h1] at hk
      cases hk
      have := (List.getElem?_eq_some_iff.mp h1).1
      rw [show yb E + (0 + k) = yb E + k by omega]
      exact h k this
/-! locals -/
def ykdb (k : Nat) (v : yV) : Bool := match k with
  | 0 => Nat.beq v.1 0
  | 1 => Nat.beq v.1 1 || (Nat.beq v.1 2 || (Nat.beq v.1 5 || (Nat.beq v.1 6 || Nat.beq v.1 7)))
  | _ => Nat.beq v.1 4
def ycat (v : yV) : Nat := match v with
  | (0, _) => 1
  | (1, _) => 1
  | (2, _) => 1
  | (5, _) => 1
  | (6, _) => 1
  | (7, _) => 1
  | _ => 2
theorem ycat_ok {E : yE} (v : yV) : (ydv E v).category = ycat v := by
  match v with
  | (0, _) | (1, _) | (2, _) | (3, _) | (4, _) | (5, _) | (6, _) => rfl
  | (7, _) =>
    simp only [ydv, ycat]
    split <;> rfl
  | (n + 8, _) => rfl
theorem yk0 {v : yV} (h : ykdb 0 v = true) : v = (0, v.2) := by
  obtain ⟨t, x⟩ := v
  have : t = 0 := Nat.eq_of_beq_eq_true h
  subst this
  rfl
theorem yk1 {E : yE} {v : yV} (h : ykdb 1 v = true) : xkd 1 (ydv E v) := by
  match v, h with
  | (1, _), _ => exact Or.inr ⟨_, rfl⟩
  | (2, _), _ => exact Or.inl rfl
  | (5, _), _ => exact Or.inr ⟨_, rfl⟩
  | (6, _), _ => exact Or.inr ⟨_, rfl⟩
  | (7, _), _ =>
    simp only [ydv]
    split
    · exact Or.inl rfl
    · exact Or.inr ⟨_, rfl⟩
  | (0, _), h | (3, _), h | (4, _), h => cases h
  | (n + 8, _), h => cases h
theorem yk2 {v : yV} (h : ykdb 2 v = true) : v = (4, v.2) := by
  obtain ⟨t, x⟩ := v
  have : t = 4 := Nat.eq_of_beq_eq_true h
  subst this
  rfl
theorem ykk {E : yE} {k : Nat} (hk : k < 3) {v : yV} (h : ykdb k v = true) : xkd k (ydv E v) := by
  match k, hk, h with
  | 0, _, h => rw [yk0 h]; exact ⟨_, rfl⟩
  | 1, _, h => exact yk1 h
  | 2, _, h => rw [yk2 h]; exact ⟨_, rfl⟩
def ylk : yL → Nat → Option yV
  | [], _ => none
  | q :: r, i => if Nat.beq q.1 i then some q.2 else ylk r i
theorem ylk_mem : ∀ {l : yL} {i : Nat} {v : yV}, ylk l i = some v → (i, v) ∈ l
  | q :: r, i, o, h => by
    simp only [ylk] at h
    split at h
    · next he =>
      cases h
      rw [Nat.beq_eq] at he
      subst he
      exact List.mem_cons_self
    · exact List.mem_cons_of_mem _ (ylk_mem h)
def yflb (k i : Nat) (q : Nat × yV) : Bool := match k with
  | 2 => !(Nat.beq q.1 i) && (!(Nat.beq q.1 (i + 1)) && !(Nat.beq (q.1 + 1) i && Nat.beq (ycat q.2) 2))
  | _ => !(Nat.beq q.1 i) && !(Nat.beq (q.1 + 1) i && Nat.beq (ycat q.2) 2)
def ydL (E : yE) (lv : yL) : List (Nat × Value) := lv.map (fun q => (q.1, ydv E q.2))
theorem yflb_ok {E : yE} (k i : Nat) (lv : yL) : (ydL E lv).filter (xfl k i) = ydL E (lv.filter (yflb k i)) := by
  unfold ydL
  rw [List.filter_map]
  congr 1
  apply List.filter_congr
  intro q _
  show xfl k i (q.1, ydv E q.2) = yflb k i q
  match k with
  | 0 | 1 => simp only [xfl, yflb, xbeq, ycat_ok]
  | 2 => simp only [xfl, yflb, xbeq, ycat_ok]
  | n + 3 => simp only [xfl, yflb, xbeq, ycat_ok]
def ysum : List yV → Nat
  | [] => 0
  | v :: r => ycat v + ysum r
theorem ysum_ok {E : yE} : ∀ st : List yV, ((st.map (ydv E)).map fun v => v.category).sum = ysum st
  | [] => rfl
  | v :: r => by
    simp only [List.map_cons, List.sum_cons, ysum, ycat_ok]
    rw [ysum_ok r]
theorem ysum_app (a : List yV) : ∀ c : List yV, ysum (c ++ a) = ysum c + ysum a
  | [] => by simp [ysum]
  | v :: r => by simp [ysum, ysum_app a r, Nat.add_assoc]
theorem ysum_rev : ∀ a : List yV, ysum a.reverse = ysum a
  | [] => rfl
  | v :: r => by
    rw [List.reverse_cons, ysum_app, ysum_rev r]
    simp [ysum, Nat.add_comm]
def yargs : Nat → List yV → yL
  | _, [] => []
  | i, v :: r => (i, v) :: yargs (i + ycat v) r
theorem ycat12 (v : yV) (i : Nat) : (if ycat v = 2 then i + 2 else i + 1) = i + ycat v := by
  match v with
  | (0, _) | (1, _) | (2, _) | (3, _) | (4, _) | (5, _) | (6, _) | (7, _) => rfl
  | (n + 8, _) => rfl
theorem yargs_ok {E : yE} : ∀ (vs : List yV) (i : Nat), lv_args i (vs.map (ydv E)) = ydL E (yargs i vs)
  | [], _ => rfl
  | v :: r, i => by
    simp only [List.map_cons, lv_args, yargs, ydL]
    rw [ycat_ok]
    congr 1
    rw [ycat12]
    exact yargs_ok r (i + ycat v)
theorem ylen_ok {E : yE} : ∀ vs : List yV, (lg_sl (vs.map (ydv E))).length = ysum vs
  | [] => rfl
  | v :: r => by
    have ih := ylen_ok (E := E) r
    simp only [lg_sl, List.map_cons, List.flatMap_cons, List.length_append, ysum] at ih ⊢
    rw [ih, ycat_ok]
    match v with
    | (0, _) | (1, _) | (2, _) | (3, _) | (4, _) | (5, _) | (6, _) | (7, _) => rfl
    | (n + 8, _) => rfl
/-! the judgements -/
def yR (d : Nat) : Room := { frames := d, cells := 0, slots := 0, locals := 64 * d }
def yCtx (E : yE) (M : xM) (p : Program) (s : State) (m : MethodId) (args : Array Value) (meth : Method) (c : Code) (A : Nat → Prop) : Prop := xCtx (yb E) (yda E) (yD E) M p s m args meth c A (yEX E) ∧ ∀ i, i < ysh.length → A (yb E + i)
def yG (E : yE) (R : Room) (M : xM) (pc : Nat) (lv : yL) (st : List yV) (mem : yMem) (ce sl : Nat) (Post : Option yV → yMem → Prop) : Prop :=
  ∀ (p : Program) (e : Env) (s : State) (m : MethodId) (args : Array Value) (below : List Frame) (meth : Method) (c : Code) (A : Nat → Prop) (Qc : Array Value → State → Outcome → State → Prop), yCtx E M p s m args meth c A → (∀ (r : Option yV) (mem' : yMem) (t : State), Post r mem' → va_P (yD E) vwCl (yW E mem') t.heap → va_F A s t → Qc args s (.returned (r.map (ydv E))) t) →
    ∀ (H : Heap) (locs : List Loc) (ls : Array Slot), lv_has ls (xMl M) (ydL E lv) → va_P (yD E) vwCl (yW E mem) H → va_S A s.heap H locs → W p (yl E) e R s m args below meth c H locs ce sl (MQ below Qc args s R.cells R.slots A) (F0 m pc ls (st.map (ydv E)))
def yPp (E : yE) (mem : yMem) (sz : Nat) (U : State) : Prop := U.heap.size = sz ∧ va_P (yD E) vwCl (yW E mem) U.heap ∧ va_K (yD E) vwCl (xtys (yda E)) U ∧ yEX E U
def yQp (E : yE) (sz : Nat) (Post : Option yV → yMem → Prop) : State → Outcome → State → Prop := fun u o t =>
  ∃ (r : Option yV) (mem' : yMem), Post r mem' ∧ o = .returned (r.map (ydv E)) ∧ va_P (yD E) vwCl (yW E mem') t.heap ∧ va_F (xA (yb E) ysh.length sz) u t
def yCon (E : yE) (d : Nat) (M : xM) (avs : List yV) (mem : yMem) (Post : Option yV → yMem → Prop) : Prop :=
  ∀ sz : Nat, yb E + ysh.length ≤ sz → Met (yl E) (xMy M) (xWs M) (yR d) (va_Pc (avs.map (ydv E)) (yPp E mem sz)) (fun _ => yQp E sz Post) 0 0 (xA (yb E) ysh.length sz)
def yEok (E : yE) : Prop := (yl E).stackTraces = false ∧ xEok (yb E) (ysa E) (yEX E)
/-- a method's contract out of the walk of its body -/
theorem yCon_of {E : yE} {d : Nat} {M : xM} (hM : xMok xmt M) {avs : List yV} {mem : yMem} {Post : Option yV → yMem → Prop} (hs : ysum avs ≤ xMl M) (h : yG E (yR d) M 0 (yargs 0 avs) [] mem 0 0 Post) : yCon E d M avs mem Post := by
  intro sz hb
  refine Met.ofW (cc := xMc M) (maxL := xMl M) (ret := xMr M) hM.2.2.2.1 rfl ?_
  intro p e s m args below meth c s₁ B hml hv
  obtain ⟨rfl, hsz, hP, hK, hEX⟩ := hv
  subst hsz
  have hts := atoms_spec (ws := xWs M) B.pre
  have hown : s.vm.findClass (xMy M).cls = some m.cls := findClass_of_methodNamed B.named
  have hC : xCtx (yb E) (yda E) (yD E) M p s m (avs.map (ydv E)).toArray meth c (xA (yb E) ysh.length s.heap.size) (yEX E) :=
    ⟨⟨B.exec, B.bytes, by rw [hM.2.2.2.2.1]; exact hown, fun w hw => hts w (List.mem_cons_of_mem _ hw)⟩, hml, hK, fun q h => Or.inr h, fun q h => by
      rcases h with h | h
      · exact h.1
      · omega, B.returns, B.notSynchronized, (fun h => (name_of_methodNamed B.named B.method).1.trans h), hEX, by omega⟩
  have hl := lv_entry (avs.map (ydv E)) (n := xMl M) (by rw [ylen_ok]; exact hs)
  rw [yargs_ok] at hl
  rw [lg_entry_eq]
  exact h p e s m _ below meth c _ (fun _ => yQp E s.heap.size Post) ⟨hC, fun i hi => Or.inl ⟨by omega, by omega⟩⟩ (fun r mem' t h1 h2 h3 => ⟨r, mem', h1, rfl, h2, h3⟩) _ [] _ hl hP va_S.rf
end
section
/-! ONE INSTRUCTION of a frame: what must hold, and what goes on -/
def ybin (o : Nat) (x y : Int) : Int := match o with
  | 0 => x + y
  | 1 => x - y
  | 2 => x * y
  | o => (fbin o (iI x) (iI y)).toInt
theorem ybin_ok (o : Nat) (x y : Int) : iI (ybin o x y) = fbin o (iI x) (iI y) := by
  match o with
  | 0 => exact Int32.ofInt_add x y
  | 1 => exact Int32.ofInt_sub x y
  | 2 => exact Int32.ofInt_mul x y
  | n + 3 => exact iI_t _
def ylbin (o : Nat) (x y : Int) : Int := match o with
  | 0 => x + y
  | 1 => x - y
  | 2 => x * y
  | o => (gbin o (lI x) (lI y)).toInt
theorem ylbin_ok (o : Nat) (x y : Int) : lI (ylbin o x y) = gbin o (lI x) (lI y) := by
  match o with
  | 0 => exact Int64.ofInt_add x y
  | 1 => exact Int64.ofInt_sub x y
  | 2 => exact Int64.ofInt_mul x y
  | n + 3 => exact lI_t _
def ycmp (x y : Int) : Int := if w64 y < w64 x then 1 else if w64 x = w64 y then 0 else -1
theorem ycmp_ok (x y : Int) : iI (ycmp x y) = lg_cmp (lI x) (lI y) := by
  unfold ycmp lg_cmp
  have e1 : (lI x > lI y) ↔ w64 y < w64 x := Int64.lt_iff_toInt_lt
  have e2 : (lI x = lI y) ↔ w64 x = w64 y := lI_inj
  by_cases h1 : w64 y < w64 x
  · rw [if_pos h1, if_pos (e1.mpr h1)]; rfl
  · rw [if_neg h1, if_neg (fun z => h1 (e1.mp z))]
    by_cases h2 : w64 x = w64 y
    · rw [if_pos h2, if_pos (e2.mpr h2)]; rfl
    · rw [if_neg h2, if_neg (fun z => h2 (e2.mp z))]; rfl
/-- comparing: 0 =, 1 not =, 2 <, 3 >=, 4 >, 5 <= -/
def ycp (c : Nat) (x y : Int) : Prop := match c with
  | 0 => w32 x = w32 y
  | 1 => ¬ w32 x = w32 y
  | 2 => w32 x < w32 y
  | 3 => w32 y ≤ w32 x
  | 4 => w32 y < w32 x
  | _ => w32 x ≤ w32 y
theorem ycp_ok (c : Nat) (x y : Int) : xcp c (iI x) (iI y) ↔ ycp c x y := by
  match c with
  | 0 => exact iI_inj
  | 1 => exact not_congr iI_inj
  | 2 => exact Int32.lt_iff_toInt_lt
  | 3 => exact Int32.le_iff_toInt_le
  | 4 => exact Int32.lt_iff_toInt_lt
  | n + 5 => exact Int32.le_iff_toInt_le
def yput (st : List yV) (r : Option yV) : List yV := match r with
  | some v => v :: st
  | none => st
def ycall (E : yE) (d mi n0 : Nat) (st : List yV) (mem : yMem) (k : List yV → yMem → Prop) : Prop := match xmt[mi]? with
  | none => False
  | some M' => xMn M' + n0 ≤ st.length ∧ ysum (st.drop (xMn M' + n0)) ≤ 8 ∧ ysum (st.take (xMn M' + n0)) ≤ xMl M' ∧ xMl M' ≤ 45 ∧ yCon E d M' (st.take (xMn M' + n0)).reverse mem (fun r mem' => k (yput (st.drop (xMn M' + n0)) r) mem')
theorem w32_01 {x : Int} (h : w32 x = 0 ∨ w32 x = 1) : iI x = iI 0 ∨ iI x = iI 1 := by
  rcases h with h | h
  · exact Or.inl (iI_inj.mpr (by rw [h]; decide))
  · exact Or.inr (iI_inj.mpr (by rw [h]; decide))
/-- may a field of this type hold it -/
def yfit (t : Nat) (v w : yV) : Prop := match t with
  | 0 => v.1 = 0 ∧ w.1 = 0
  | 2 => v.1 = 4 ∧ w.1 = 4
  | 3 => v.1 = 0 ∧ (w32 v.2 = 0 ∨ w32 v.2 = 1) ∧ w.1 = 0
  | _ => False
def ynok (t : Nat) (x : Int) : Prop := match t with
  | 0 => True
  | 1 => -128 ≤ w32 x ∧ w32 x ≤ 127
  | 3 => w32 x = 0 ∨ w32 x = 1
  | _ => False
def ystep (E : yE) (R : Room) (d : Nat) (M : xM) (op : xOp) (lv : yL) (st : List yV) (mem : yMem) (Post : Option yV → yMem → Prop) (k : Nat → yL → List yV → yMem → Prop) : Prop := match op.1 with
  | 0 => k op.2.1 lv ((0, cI op.2.2.1) :: st) mem
  | 1 => k op.2.1 lv ((4, cL op.2.2.1) :: st) mem
  | 2 => ∃ v, ylk lv op.2.2.2.1 = some v ∧ ykdb op.2.2.1 v = true ∧ k op.2.1 lv (v :: st) mem
  | 3 => match st with
    | v :: st' => ykdb op.2.2.1 v = true ∧ op.2.2.2.1 + xwd op.2.2.1 < xMl M ∧ k op.2.1 ((op.2.2.2.1, v) :: lv.filter (yflb op.2.2.1 op.2.2.2.1)) st' mem
    | _ => False
  | 4 => ∃ x, ylk lv op.2.2.1 = some (0, x) ∧ op.2.2.1 < xMl M ∧ k op.2.1 ((op.2.2.1, (0, x + cI op.2.2.2.1)) :: lv.filter (yflb 0 op.2.2.1)) st mem
  | 5 => match st with
    | (0, y) :: (0, x) :: st' => ((op.2.2.1 = 9 ∨ op.2.2.1 = 10) → ¬ w32 y = 0) ∧ k op.2.1 lv ((0, ybin op.2.2.1 x y) :: st') mem
    | _ => False
  | 6 => match st with
    | (0, x) :: st' => k op.2.1 lv ((0, (iI x).toInt8.toInt32.toInt) :: st') mem
    | _ => False
  | 8 => match st with
    | (4, y) :: (4, x) :: st' => k op.2.1 lv ((0, ycmp x y) :: st') mem
    | _ => False
  | 9 => match st with
    | v :: st' => ycat v = 1 ∧ k op.2.1 lv (v :: v :: st') mem
    | _ => False
  | 10 => match st with
    | v :: st' => ycat v = 1 ∧ k op.2.1 lv st' mem
    | _ => False
  | 11 => match st with
    | v :: w :: st' => ycat v = 1 ∧ ycat w = 1 ∧ k op.2.1 lv (v :: w :: v :: w :: st') mem
    | _ => False
  | 12 => match st with
    | (0, x) :: st' => (ycp op.2.2.2.1 x 0 → k op.2.2.1 lv st' mem) ∧ (¬ ycp op.2.2.2.1 x 0 → k op.2.1 lv st' mem)
    | _ => False
  | 13 => match st with
    | (0, y) :: (0, x) :: st' => (ycp op.2.2.2.1 x y → k op.2.2.1 lv st' mem) ∧ (¬ ycp op.2.2.2.1 x y → k op.2.1 lv st' mem)
    | _ => False
  | 14 => k op.2.1 lv st mem
  | 15 => match st with
    | (0, x) :: st' => (∀ q ∈ op.2.2.2.2, w32 x = cI q.1 → k q.2 lv st' mem) ∧ ((∀ q ∈ op.2.2.2.2, ¬ w32 x = cI q.1) → k op.2.2.1 lv st' mem) ∧ (∀ q ∈ op.2.2.2.2, q.1 < 4294967296)
    | _ => False
  | 16 => match st with
    | (1, i) :: st' => ∃ fs v, ysh[i.toNat]? = some (.inr (op.2.2.1, fs)) ∧ fs[op.2.2.2.1]? = some v ∧ k op.2.1 lv (yfv v (mem i.toNat op.2.2.2.1) :: st') mem
    | _ => False
  | 17 => match st, op.2.2.2.2 with
    | v :: (1, i) :: st', [q] => ∃ fs w, ysh[i.toNat]? = some (.inr (op.2.2.1, fs)) ∧ fs[op.2.2.2.1]? = some w ∧ yfit q.1 v w ∧ k op.2.1 lv st' (yset mem i.toNat op.2.2.2.1 v.2)
    | _, _ => False
  | 18 => match st with
    | (1, i) :: st' => ∃ t n rs, ysh[i.toNat]? = some (.inl (t, n, rs)) ∧ t < 5 ∧ k op.2.1 lv ((0, (n : Int)) :: st') mem
    | (6, i) :: st' => i.toNat < 3 ∧ k op.2.1 lv ((0, ((xlen.getD i.toNat 0 : Nat) : Int)) :: st') mem
    | _ => False
  | 19 => match st with
    | (0, j) :: (1, i) :: st' => ∃ n rs, ysh[i.toNat]? = some (.inl (op.2.2.1, n, rs)) ∧ 0 ≤ w32 j ∧ w32 j < (n : Int) ∧ k op.2.1 lv ((0, mem i.toNat (w32 j).toNat) :: st') mem
    | _ => False
  | 20 => match st with
    | (0, j) :: (1, i) :: st' => ∃ n rs q, ysh[i.toNat]? = some (.inl (4, n, rs)) ∧ 0 ≤ w32 j ∧ w32 j < (n : Int) ∧ rs[(w32 j).toNat]? = some q ∧ k op.2.1 lv ((1, (q : Int)) :: st') mem
    | _ => False
  | 21 => match st with
    | (0, x) :: (0, j) :: (1, i) :: st' => ∃ n rs, ysh[i.toNat]? = some (.inl (op.2.2.1, n, rs)) ∧ 0 ≤ w32 j ∧ w32 j < (n : Int) ∧ ynok op.2.2.1 x ∧ k op.2.1 lv st' (yset mem i.toNat (w32 j).toNat x)
    | _ => False
  | 26 => match st with
    | (0, n) :: (0, dp) :: (1, dd) :: (0, sp) :: (1, ss) :: st' => ysum st' ≤ 8 ∧ ∃ n0 r0 n1 r1, ysh[ss.toNat]? = some (.inl (0, n0, r0)) ∧ ysh[dd.toNat]? = some (.inl (0, n1, r1)) ∧ 0 ≤ w32 n ∧ 0 ≤ w32 sp ∧ 0 ≤ w32 dp ∧ w32 sp + w32 n ≤ (n0 : Int) ∧ w32 dp + w32 n ≤ (n1 : Int) ∧ k op.2.1 lv st' (ycpy mem ss.toNat (w32 sp).toNat dd.toNat (w32 dp).toNat (w32 n).toNat)
    | _ => False
  | 27 => ycall E d op.2.2.1 0 st mem (fun st' mem' => k op.2.1 lv st' mem')
  | 47 => ycall E d op.2.2.1 0 st mem (fun st' mem' => k op.2.1 lv st' mem')
  | 28 => (match xmt[op.2.2.1]? with
    | some M' => match st.drop (xMn M') with
      | (1, i) :: _ => ∃ fs, ysh[i.toNat]? = some (.inr (op.2.2.2.1, fs))
      | _ => False
    | none => False) ∧ ycall E d op.2.2.1 1 st mem (fun st' mem' => k op.2.1 lv st' mem')
  | 30 => match st with
    | [(0, x)] => (op.2.2.2.1 = 0 ∨ (op.2.2.2.1 = 3 ∧ (w32 x = 0 ∨ w32 x = 1))) ∧ Post (some (0, x)) mem
    | _ => False
  | 31 => match st with
    | [(4, x)] => Post (some (4, x)) mem
    | _ => False
  | 32 => match st with
    | [] => Post none mem
    | _ => False
  | 33 => k op.2.1 lv ((5, (op.2.2.1 : Int)) :: st) mem
  | 34 => k op.2.1 lv ((0, 1) :: st) mem
  | 35 => match st with
    | (5, i) :: st' => i.toNat < 3 ∧ k op.2.1 lv ((if op.2.2.1 = 0 then (6, i) else (0, 0)) :: st') mem
    | _ => False
  | 37 => match st with
    | (0, j) :: (6, i) :: st' => i.toNat < 3 ∧ 0 ≤ w32 j ∧ w32 j < ((xlen.getD i.toNat 0 : Nat) : Int) ∧ k op.2.1 lv ((0, (((xbyt.getD i.toNat []).getD (w32 j).toNat 0 : Nat) : Int)) :: st') mem
    | _ => False
  | 38 => match st with
    | (0, x) :: st' => 0 ≤ x ∧ x < 65536 ∧ k op.2.1 lv ((0, x) :: st') mem
    | _ => False
  | 39 => (match xmt[op.2.2.1]? with
    | some M' => match st.drop (xMn M') with
      | (5, i) :: _ => i.toNat < 3
      | _ => False
    | none => False) ∧ ycall E d op.2.2.1 1 st mem (fun st' mem' => k op.2.1 lv st' mem')
  | 40 => match st with
    | [(0, x)] => 0 ≤ x ∧ x < (if op.2.2.2.1 = 5 then 65536 else 128) ∧ Post (some (0, x)) mem
    | _ => False
  | 41 => k op.2.1 lv ((7, 0) :: st) mem
  | 60 => match st with
    | (4, y) :: (4, x) :: st' => k op.2.1 lv ((4, ylbin op.2.2.1 x y) :: st') mem
    | _ => False
  | 61 => match st with
    | (4, y) :: (4, x) :: st' => ¬ w64 y = 0 ∧ k op.2.1 lv ((4, ylbin op.2.2.1 x y) :: st') mem
    | _ => False
  | 62 => match st with
    | (0, y) :: (4, x) :: st' => k op.2.1 lv ((4, (lI x <<< ((iI y).toInt64 &&& 63)).toInt) :: st') mem
    | _ => False
  | 63 => match st with
    | (0, y) :: (4, x) :: st' => k op.2.1 lv ((4, ((lI x).toUInt64 >>> ((iI y).toInt64.toUInt64 &&& Int64.toUInt64 63)).toInt64.toInt) :: st') mem
    | _ => False
  | 64 => match st with
    | (4, x) :: st' => k op.2.1 lv ((4, -x) :: st') mem
    | _ => False
  | 65 => match st with
    | (0, x) :: st' => k op.2.1 lv ((4, w32 x) :: st') mem
    | _ => False
  | 66 => match st with
    | (4, x) :: st' => k op.2.1 lv ((0, x) :: st') mem
    | _ => False
  | 67 => match st with
    | (0, j) :: (1, i) :: st' => ∃ n rs, ysh[i.toNat]? = some (.inl (2, n, rs)) ∧ 0 ≤ w32 j ∧ w32 j < (n : Int) ∧ k op.2.1 lv ((4, mem i.toNat (w32 j).toNat) :: st') mem
    | _ => False
  | 68 => match st with
    | (4, x) :: (0, j) :: (1, i) :: st' => ∃ n rs, ysh[i.toNat]? = some (.inl (2, n, rs)) ∧ 0 ≤ w32 j ∧ w32 j < (n : Int) ∧ k op.2.1 lv st' (yset mem i.toNat (w32 j).toNat x)
    | _ => False
  | 69 => match st with
    | v :: st' => ycat v = 2 ∧ k op.2.1 lv st' mem
    | _ => False
  | 70 => match st with
    | (0, y) :: (0, x) :: st' => ysum st' ≤ 8 ∧ k op.2.1 lv ((0, if op.2.2.1 = 0 then (if w32 y < w32 x then y else x) else (if w32 x < w32 y then y else x)) :: st') mem
    | _ => False
  | 71 => match st with
    | (4, y) :: (4, x) :: st' => ysum st' ≤ 8 ∧ k op.2.1 lv ((4, if op.2.2.1 = 0 then (if w64 y < w64 x then y else x) else (if w64 y < w64 x then x else y)) :: st') mem
    | _ => False
  | 72 => match st with
    | (4, x) :: st' => ysum st' ≤ 8 ∧ k op.2.1 lv ((4, if 0 < w64 x then x else -x) :: st') mem
    | _ => False
  | _ => False
end
section
section YS
variable {E : yE} {R : Room} {d : Nat} {M : xM} {pc nx : Nat} {lv : yL} {st : List yV} {mem : yMem} {ce sl : Nat} {Post : Option yV → yMem → Prop}
theorem y_T {st0 st1 : List yV} (hT : xT (xMc M) (xMo M) pc nx (st0.map (ydv E)) (st1.map (ydv E))) (h : yG E R M nx lv (st1 ++ st) mem ce sl Post) : yG E R M pc lv (st0 ++ st) mem ce sl Post := by
  intro p e s m args below meth c A Qc hC hQ H locs ls hl hP hS
  have := h p e s m args below meth c A Qc hC hQ H locs ls hl hP hS
  rw [List.map_append] at this ⊢
  exact hT p (yl E) e R s m args below meth c H locs ce sl _ ls _ hC.1.1 this
theorem y_load {k i : Nat} {v : yV} (hk3 : k < 3) (hT : xLd (xMc M) (xMo M) pc nx k i) (hv : ylk lv i = some v) (hk : ykdb k v = true) (h : yG E R M nx lv (v :: st) mem ce sl Post) : yG E R M pc lv st mem ce sl Post := by
  intro p e s m args below meth c A Qc hC hQ H locs ls hl hP hS
  have := h p e s m args below meth c A Qc hC hQ H locs ls hl hP hS
  rw [List.map_cons] at this
  exact hT p (yl E) e R s m args below meth c H locs ce sl _ ls _ hC.1.1 _ (ykk hk3 hk) (hl.2.2 _ (List.mem_map.mpr ⟨(i, v), ylk_mem hv, rfl⟩)) this
theorem y_store {k i : Nat} {v : yV} (hk3 : k < 3) (hT : xSt (xMc M) (xMo M) pc nx k i) (hk : ykdb k v = true) (hi : i + xwd k < xMl M) (h : yG E R M nx ((i, v) :: lv.filter (yflb k i)) st mem ce sl Post) : yG E R M pc lv (v :: st) mem ce sl Post := by
  intro p e s m args below meth c A Qc hC hQ H locs ls hl hP hS
  rw [List.map_cons]
  refine hT p (yl E) e R s m args below meth c H locs ce sl _ ls _ hC.1.1 _ _ _ (ykk hk3 hk) hl hi (fun ls' hl' => ?_)
  rw [yflb_ok] at hl'
  exact h p e s m args below meth c A Qc hC hQ H locs ls' hl' hP hS
theorem y_iinc {i n : Nat} {x : Int} (hT : xIn (xMc M) (xMo M) pc nx i n) (hv : ylk lv i = some (0, x)) (hi : i < xMl M) (h : yG E R M nx ((i, (0, x + cI n)) :: lv.filter (yflb 0 i)) st mem ce sl Post) : yG E R M pc lv st mem ce sl Post := by
  intro p e s m args below meth c A Qc hC hQ H locs ls hl hP hS
  have hm : (i, ydv E (0, x)) ∈ ydL E lv := List.mem_map.mpr ⟨(i, (0, x)), ylk_mem hv, rfl⟩
  obtain ⟨k, hk⟩ := List.getElem?_of_mem hm
  refine hT p (yl E) e R s m args below meth c H locs ce sl _ ls _ hC.1.1 _ k _ (iI x) hl hk hi (fun ls' hl' => ?_)
  have e1 : iI x + nI n = iI (x + cI n) := by rw [← iI_c]; exact (Int32.ofInt_add x (cI n)).symm
  rw [yflb_ok, e1] at hl'
  exact h p e s m args below meth c A Qc hC hQ H locs ls' hl' hP hS
theorem y_fork {k tgt : Nat} {x y : Int} (hT : xB (xMc M) (xMo M) pc nx tgt k) (h1 : ycp k x y → yG E R M tgt lv st mem ce sl Post) (h2 : ¬ ycp k x y → yG E R M nx lv st mem ce sl Post) : yG E R M pc lv ((0, y) :: (0, x) :: st) mem ce sl Post := by
  intro p e s m args below meth c A Qc hC hQ H locs ls hl hP hS
  rw [List.map_cons, List.map_cons]
  refine hT p (yl E) e R s m args below meth c H locs ce sl _ ls _ hC.1.1 (iI x) (iI y) (fun hc => ?_) (fun hc => ?_)
  · exact h1 ((ycp_ok k x y).mp hc) p e s m args below meth c A Qc hC hQ H locs ls hl hP hS
  · exact h2 (fun z => hc ((ycp_ok k x y).mpr z)) p e s m args below meth c A Qc hC hQ H locs ls hl hP hS
theorem y_fork0 {k tgt : Nat} {x : Int} (hT : xB0 (xMc M) (xMo M) pc nx tgt k) (h1 : ycp k x 0 → yG E R M tgt lv st mem ce sl Post) (h2 : ¬ ycp k x 0 → yG E R M nx lv st mem ce sl Post) : yG E R M pc lv ((0, x) :: st) mem ce sl Post := by
  intro p e s m args below meth c A Qc hC hQ H locs ls hl hP hS
  rw [List.map_cons]
  have e0 : nI 0 = iI 0 := by decide
  refine hT p (yl E) e R s m args below meth c H locs ce sl _ ls _ hC.1.1 (iI x) (fun hc => ?_) (fun hc => ?_)
  · rw [e0] at hc
    exact h1 ((ycp_ok k x 0).mp hc) p e s m args below meth c A Qc hC hQ H locs ls hl hP hS
  · rw [e0] at hc
    exact h2 (fun z => hc ((ycp_ok k x 0).mpr z)) p e s m args below meth c A Qc hC hQ H locs ls hl hP hS
theorem w32_c {a : Nat} (h : a < 4294967296) : w32 (cI a) = cI a := by
  apply w32_of
  · unfold cI
    split
    · omega
    · next h2 => rw [Nat.blt_eq] at h2; omega
  · unfold cI
    split
    · next h2 => rw [Nat.blt_eq] at h2; omega
    · omega
theorem y_sw {dflt : Nat} {cs : List (Nat × Nat)} {x : Int} (hT : xSw (xMc M) (xMo M) pc dflt cs) (h1 : ∀ q ∈ cs, w32 x = cI q.1 → yG E R M q.2 lv st mem ce sl Post) (h2 : (∀ q ∈ cs, ¬ w32 x = cI q.1) → yG E R M dflt lv st mem ce sl Post) (h3 : ∀ q ∈ cs, q.1 < 4294967296) : yG E R M pc lv ((0, x) :: st) mem ce sl Post := by
  intro p e s m args below meth c A Qc hC hQ H locs ls hl hP hS
  rw [List.map_cons]
  have key : ∀ q ∈ cs, (iI x = nI q.1 ↔ w32 x = cI q.1) := fun q hq => by
    rw [← iI_c, iI_inj, w32_c (h3 q hq)]
  refine hT p (yl E) e R s m args below meth c H locs ce sl _ ls _ hC.1.1 (iI x) ?_
  by_cases hx : ∃ q ∈ cs, w32 x = cI q.1
  · obtain ⟨q, hq, e1⟩ := hx
    exact Or.inl ⟨q, hq, (key q hq).mpr e1, h1 q hq e1 p e s m args below meth c A Qc hC hQ H locs ls hl hP hS⟩
  · have hn : ∀ q ∈ cs, ¬ w32 x = cI q.1 := fun q hq z => hx ⟨q, hq, z⟩
    exact Or.inr ⟨fun q hq z => hn q hq ((key q hq).mp z), h2 hn p e s m args below meth c A Qc hC hQ H locs ls hl hP hS⟩
theorem y_getf {ci k i : Nat} {fs : List yV} {v : yV} (hT : xGf (xMc M) (xMo M) pc nx ci k) (hK : ysh[i]? = some (.inr (ci, fs))) (hv : fs[k]? = some v) {z : Int} (hz : z.toNat = i) (h : yG E R M nx lv (yfv v (mem i k) :: st) mem ce sl Post) : yG E R M pc lv ((1, z) :: st) mem ce sl Post := by
  intro p e s m args below meth c A Qc hC hQ H locs ls hl hP hS
  have := h p e s m args below meth c A Qc hC hQ H locs ls hl hP hS
  rw [List.map_cons] at this ⊢
  subst hz
  exact hT p (yl E) e R s m args below meth c H locs ce sl _ ls _ hC.1.1 (yD E) (xtys (yda E)) _ z.toNat (yb E + z.toNat) (yfs E 0 fs (mem z.toNat)) _ hC.1.2.2.1 hP (yW_at hK) (by rw [yfs_get, hv, Nat.zero_add]; rfl) this
theorem y_world {f : Nat → Int} {i : Nat} {S : yS} (hK : ysh[i]? = some S) {x : va_E} (hx : x = yce E S f) : (yW E mem).set i (yb E + i, x) = yW E (fun c => if c = 0 + i then f else mem c) := by
  rw [hx]
  exact yW_put hK
theorem y_putf {ci k i : Nat} {fs : List yV} {v w : yV} {ty : FieldType} {fin : Bool} (hT : xPf (xMc M) (xMo M) pc nx ci k ty fin) (hf : fin = true → (xMy M).name = "<init>") (hft : yfit (xtc ty) v w) (hw : fs[k]? = some w) (hK : ysh[i]? = some (.inr (ci, fs))) {z : Int} (hz : z.toNat = i) (h : yG E R M nx lv st (yset mem i k v.2) ce sl Post) : yG E R M pc lv (v :: (1, z) :: st) mem ce sl Post := by
  intro p e s m args below meth c A Qc hC hQ H locs ls hl hP hS
  rw [List.map_cons, List.map_cons]
  subst hz
  have hk : k < (yfs E 0 fs (mem z.toNat)).length := by rw [yfs_len]; exact (List.getElem?_eq_some_iff.mp hw).1
  have f12 : narrow ty (ydv E v) = ydv E v ∧ fits ty (ydv E v) = true ∧ yfv w v.2 = v := by
    obtain ⟨v1, v2⟩ := v
    obtain ⟨w1, w2⟩ := w
    cases ty with
    | int =>
      obtain ⟨h1, h2⟩ := hft
      dsimp only at h1 h2
      subst h1
      subst h2
      exact ⟨rfl, rfl, rfl⟩
    | long =>
      obtain ⟨h1, h2⟩ := hft
      dsimp only at h1 h2
      subst h1
      subst h2
      exact ⟨rfl, rfl, rfl⟩
    | boolean =>
      obtain ⟨h1, h3, h2⟩ := hft
      dsimp only at h1 h2 h3
      subst h1
      subst h2
      show narrow .boolean (.int (iI v2)) = .int (iI v2) ∧ fits .boolean (.int (iI v2)) = true ∧ _
      rcases w32_01 h3 with e | e <;> rw [e]
      · exact ⟨by decide +kernel, by decide +kernel, rfl⟩
      · exact ⟨by decide +kernel, by decide +kernel, rfl⟩
    | _ => exact hft.elim
  refine hT p (yl E) e R s m args below meth c H locs ce sl _ ls _ hC.1.1 (yD E) (xtys (yda E)) _ z.toNat (yb E + z.toNat) A s.heap (yfs E 0 fs (mem z.toNat)) _ hC.1.2.2.1 hP (yW_D hC.2) hS (yW_at hK) (fun q => hC.1.2.2.2.2.2.2.2.1 (hf q)) f12.1 f12.2.1 hk (fun H1 locs1 hP1 _ hS1 z1 => ?_)
  have e1 : (Sum.inr (ci, (yfs E 0 fs (mem z.toNat)).set k (ydv E v)) : va_E) = yce E (.inr (ci, fs)) (fun j => if j = k then v.2 else mem z.toNat j) := by
    show Sum.inr (ci, _) = Sum.inr (ci, yfs E 0 fs _)
    have := yfs_set (E := E) (f := mem z.toNat) (x := v.2) fs 0 k w hw
    rw [f12.2.2, Nat.zero_add] at this
    rw [this]
  rw [y_world hK e1, yset_eq] at hP1
  exact h p e s m args below meth c A Qc hC hQ H1 locs1 ls hl hP1 hS1
theorem yce_arr {t n : Nat} {rs : List Nat} {f : Nat → Int} (ht : t = 0 ∨ t = 1 ∨ t = 3) : yce E (.inl (t, n, rs)) f = .inl (yda E t, n, .inl (fun j => iI (f j))) := by
  rcases ht with rfl | rfl | rfl <;> rfl
theorem yce_any {t n : Nat} {rs : List Nat} {f : Nat → Int} : ∃ z, yce E (.inl (t, n, rs)) f = .inl (yda E t, n, z) := by
  match t with
  | 0 | 1 | 2 | 3 | 4 => exact ⟨_, rfl⟩
  | n + 5 => exact ⟨_, rfl⟩
theorem y_alen {t i n : Nat} {rs : List Nat} (hT : xAl (xMc M) (xMo M) pc nx) (ht : t < 5) (hK : ysh[i]? = some (.inl (t, n, rs))) {z : Int} (hz : z.toNat = i) (h : yG E R M nx lv ((0, (n : Int)) :: st) mem ce sl Post) : yG E R M pc lv ((1, z) :: st) mem ce sl Post := by
  intro p e s m args below meth c A Qc hC hQ H locs ls hl hP hS
  have := h p e s m args below meth c A Qc hC hQ H locs ls hl hP hS
  rw [List.map_cons] at this ⊢
  subst hz
  obtain ⟨y, hy⟩ := yce_any (E := E) (t := t) (n := n) (rs := rs) (f := mem z.toNat)
  have hg := yW_at (E := E) (mem := mem) hK
  rw [hy] at hg
  have e1 : ydv E (0, (n : Int)) = .int (nI n) := by show Value.int (iI _) = _; rw [iI_n]
  rw [e1] at this
  exact hT p (yl E) e R s m args below meth c H locs ce sl _ ls _ hC.1.1 (yD E) (xtys (yda E)) _ z.toNat (yb E + z.toNat) t (yda E t) (n, y) (xty t) hC.1.2.2.1 hP hg (xtys_get ht) this
theorem y_in {j : Int} {n : Nat} (h1 : 0 ≤ w32 j) (h2 : w32 j < (n : Int)) : vp_in (iI j) n ∧ (iI j).toNatClampNeg = (w32 j).toNat := by
  refine ⟨?_, rfl⟩
  rintro (h | h)
  · have : (iI j).toInt < 0 := by simpa using Int32.lt_iff_toInt_lt.mp h
    have h3 : w32 j < 0 := this
    omega
  · have h3 : n ≤ (w32 j).toNat := h
    omega
theorem y_read {t i n : Nat} {rs : List Nat} {j z : Int} (ht : t = 0 ∨ t = 1 ∨ t = 3) (hT : xRd (xMc M) (xMo M) pc nx (xty t)) (hK : ysh[i]? = some (.inl (t, n, rs))) (hz : z.toNat = i) (h1 : 0 ≤ w32 j) (h2 : w32 j < (n : Int)) (h : yG E R M nx lv ((0, mem i (w32 j).toNat) :: st) mem ce sl Post) : yG E R M pc lv ((0, j) :: (1, z) :: st) mem ce sl Post := by
  intro p e s m args below meth c A Qc hC hQ H locs ls hl hP hS
  have := h p e s m args below meth c A Qc hC hQ H locs ls hl hP hS
  rw [List.map_cons] at this
  rw [List.map_cons, List.map_cons]
  subst hz
  have hg := yW_at (E := E) (mem := mem) hK
  rw [yce_arr ht] at hg
  obtain ⟨g1, g2⟩ := y_in h1 h2
  refine hT p (yl E) e R s m args below meth c H locs ce sl _ ls _ hC.1.1 (yD E) (xtys (yda E)) _ z.toNat (yb E + z.toNat) t (yda E t) n _ (iI j) hC.1.2.2.1 hP hg (xtys_get (by omega)) g1 ?_
  rw [g2]
  exact this
theorem y_readr {i n q : Nat} {rs : List Nat} {j z : Int} (hT : xRr (xMc M) (xMo M) pc nx) (hK : ysh[i]? = some (.inl (4, n, rs))) (hz : z.toNat = i) (h1 : 0 ≤ w32 j) (h2 : w32 j < (n : Int)) (hq : rs[(w32 j).toNat]? = some q) (h : yG E R M nx lv ((1, (q : Int)) :: st) mem ce sl Post) : yG E R M pc lv ((0, j) :: (1, z) :: st) mem ce sl Post := by
  intro p e s m args below meth c A Qc hC hQ H locs ls hl hP hS
  have := h p e s m args below meth c A Qc hC hQ H locs ls hl hP hS
  rw [List.map_cons] at this
  rw [List.map_cons, List.map_cons]
  subst hz
  have hg := yW_at (E := E) (mem := mem) hK
  obtain ⟨g1, g2⟩ := y_in h1 h2
  refine hT p (yl E) e R s m args below meth c H locs ce sl _ ls _ hC.1.1 (yD E) (xtys (yda E)) _ z.toNat (yb E + z.toNat) 4 (yda E 4) n (fun j => (rs[j]?).map (fun q => yb E + q)) (iI j) hC.1.2.2.1 hP hg (xtys_get (by omega)) g1 ?_
  rw [g2, hq]
  exact this
theorem y_write {t i n : Nat} {rs : List Nat} {j x z : Int} (ht : t = 0 ∨ t = 1 ∨ t = 3) (hT : xWr (xMc M) (xMo M) pc nx (xty t)) (hK : ysh[i]? = some (.inl (t, n, rs))) (hz : z.toNat = i) (h1 : 0 ≤ w32 j) (h2 : w32 j < (n : Int)) (hx : vp_nar (xty t) (iI x) = iI x) (h : yG E R M nx lv st (yset mem i (w32 j).toNat x) ce sl Post) : yG E R M pc lv ((0, x) :: (0, j) :: (1, z) :: st) mem ce sl Post := by
  intro p e s m args below meth c A Qc hC hQ H locs ls hl hP hS
  rw [List.map_cons, List.map_cons, List.map_cons]
  subst hz
  have hg := yW_at (E := E) (mem := mem) hK
  rw [yce_arr ht] at hg
  obtain ⟨g1, g2⟩ := y_in h1 h2
  refine hT p (yl E) e R s m args below meth c H locs ce sl _ ls _ hC.1.1 (yD E) (xtys (yda E)) _ z.toNat (yb E + z.toNat) A s.heap t (yda E t) n _ (iI j) (iI x) hC.1.2.2.1 hP (yW_D hC.2) hS hg (xtys_get (by omega)) g1 (fun H1 locs1 hP1 _ hS1 z1 => ?_)
  have e1 : (Sum.inl (yda E t, n, Sum.inl (upd (fun j => iI (mem z.toNat j)) (iI j).toNatClampNeg (vp_nar (xty t) (iI x)))) : va_E) = yce E (.inl (t, n, rs)) (fun k => if k = (w32 j).toNat then x else mem z.toNat k) := by
    rw [yce_arr ht, hx, g2]
    congr 4
    funext k
    simp only [upd]
    split <;> rfl
  rw [y_world hK e1, yset_eq] at hP1
  exact h p e s m args below meth c A Qc hC hQ H1 locs1 ls hl hP1 hS1
theorem y_readl {i n : Nat} {rs : List Nat} {j z : Int} (hT : xRl (xMc M) (xMo M) pc nx) (hK : ysh[i]? = some (.inl (2, n, rs))) (hz : z.toNat = i) (h1 : 0 ≤ w32 j) (h2 : w32 j < (n : Int)) (h : yG E R M nx lv ((4, mem i (w32 j).toNat) :: st) mem ce sl Post) : yG E R M pc lv ((0, j) :: (1, z) :: st) mem ce sl Post := by
  intro p e s m args below meth c A Qc hC hQ H locs ls hl hP hS
  have := h p e s m args below meth c A Qc hC hQ H locs ls hl hP hS
  rw [List.map_cons] at this
  rw [List.map_cons, List.map_cons]
  subst hz
  have hg := yW_at (E := E) (mem := mem) hK
  obtain ⟨g1, g2⟩ := y_in h1 h2
  refine hT p (yl E) e R s m args below meth c H locs ce sl _ ls _ hC.1.1 (yD E) (xtys (yda E)) _ z.toNat (yb E + z.toNat) 2 (yda E 2) n (fun j => lI (mem z.toNat j)) (iI j) hC.1.2.2.1 hP hg (xtys_get (by omega)) g1 ?_
  rw [g2]
  exact this
theorem y_writel {i n : Nat} {rs : List Nat} {j x z : Int} (hT : xWl (xMc M) (xMo M) pc nx) (hK : ysh[i]? = some (.inl (2, n, rs))) (hz : z.toNat = i) (h1 : 0 ≤ w32 j) (h2 : w32 j < (n : Int)) (h : yG E R M nx lv st (yset mem i (w32 j).toNat x) ce sl Post) : yG E R M pc lv ((4, x) :: (0, j) :: (1, z) :: st) mem ce sl Post := by
  intro p e s m args below meth c A Qc hC hQ H locs ls hl hP hS
  rw [List.map_cons, List.map_cons, List.map_cons]
  subst hz
  have hg := yW_at (E := E) (mem := mem) hK
  obtain ⟨g1, g2⟩ := y_in h1 h2
  refine hT p (yl E) e R s m args below meth c H locs ce sl _ ls _ hC.1.1 (yD E) (xtys (yda E)) _ z.toNat (yb E + z.toNat) A s.heap 2 (yda E 2) n (fun j => lI (mem z.toNat j)) (iI j) (lI x) hC.1.2.2.1 hP (yW_D hC.2) hS hg (xtys_get (by omega)) g1 (fun H1 locs1 hP1 _ hS1 => ?_)
  have e1 : (Sum.inl (yda E 2, n, Sum.inr (Sum.inl (vp_updL (fun j => lI (mem z.toNat j)) (iI j).toNatClampNeg (lI x)))) : va_E) = yce E (.inl (2, n, rs)) (fun k => if k = (w32 j).toNat then x else mem z.toNat k) := by
    rw [g2]
    show Sum.inl (yda E 2, n, _) = Sum.inl (yda E 2, n, _)
    congr 5
    funext k
    simp only [vp_updL]
    split <;> rfl
  rw [y_world hK e1, yset_eq] at hP1
  exact h p e s m args below meth c A Qc hC hQ H1 locs1 ls hl hP1 hS1
end YS
end
section
section YC
variable {E : yE} {R : Room} {d : Nat} {M : xM} {pc nx : Nat} {lv : yL} {st : List yV} {mem : yMem} {ce sl : Nat} {Post : Option yV → yMem → Prop}
theorem y_nok {t : Nat} {x : Int} (h : ynok t x) : (t = 0 ∨ t = 1 ∨ t = 3) ∧ vp_nar (xty t) (iI x) = iI x := by
  match t, h with
  | 0, h => exact ⟨Or.inl rfl, rfl⟩
  | 1, h =>
    refine ⟨Or.inr (Or.inl rfl), ?_⟩
    obtain ⟨h1, h2⟩ := h
    show vp_nar .byte (iI x) = iI x
    rw [vp_nar_byte]
    apply Int32.toInt_inj.mp
    rw [Int8.toInt_toInt32, Int32.toInt_toInt8]
    exact Int.bmod_eq_of_le (by simp; exact h1) (by simp; exact Int.lt_of_le_of_lt h2 (by decide))
  | 3, h =>
    refine ⟨Or.inr (Or.inr rfl), ?_⟩
    have e : iI x = iI 0 ∨ iI x = iI 1 := by
      rcases h with h | h
      · exact Or.inl (iI_inj.mpr (by rw [h]; decide))
      · exact Or.inr (iI_inj.mpr (by rw [h]; decide))
    show vp_nar .boolean (iI x) = iI x
    rcases e with e | e <;> rw [e] <;> decide +kernel
  | 2, h => exact h.elim
  | n + 4, h => exact h.elim
theorem y_copy {s0 d0 n0 n1 : Nat} {r0 r1 : List Nat} {sp dp n zs zd : Int} (hT : xCp (xMc M) (xMo M) pc nx) (hKs : ysh[s0]? = some (.inl (0, n0, r0))) (hKd : ysh[d0]? = some (.inl (0, n1, r1))) (hzs : zs.toNat = s0) (hzd : zd.toNat = d0) (g0 : 0 ≤ w32 n) (g1 : 0 ≤ w32 sp) (g2 : 0 ≤ w32 dp) (h1 : w32 sp + w32 n ≤ (n0 : Int)) (h2 : w32 dp + w32 n ≤ (n1 : Int)) (hf : 1 ≤ R.frames) (hlo : ysum st + (nativeFrameWords "java/lang/System" "arraycopy" 5 + 11) ≤ R.locals)
    (h : yG E R M nx lv st (ycpy mem s0 (w32 sp).toNat d0 (w32 dp).toNat (w32 n).toNat) ce sl Post) : yG E R M pc lv ((0, n) :: (0, dp) :: (1, zd) :: (0, sp) :: (1, zs) :: st) mem ce sl Post := by
  intro p e s m args below meth c A Qc hC hQ H locs ls hl hP hS
  simp only [List.map_cons]
  subst hzs
  subst hzd
  have hg0 := yW_at (E := E) (mem := mem) hKs
  have hg1 := yW_at (E := E) (mem := mem) hKd
  rw [yce_arr (Or.inl rfl)] at hg0 hg1
  have nn : ∀ z : Int, 0 ≤ w32 z → ¬ iI z < 0 := fun z hz q => by
    have h3 : (iI z).toInt < 0 := by simpa using Int32.lt_iff_toInt_lt.mp q
    have h4 : w32 z < 0 := h3
    omega
  have cl : ∀ z : Int, (iI z).toNatClampNeg = (w32 z).toNat := fun z => rfl
  refine hT p (yl E) e R s m args below meth c H locs ce sl _ ls _ hC.1.1 (yD E) (xtys (yda E)) _ A s.heap zs.toNat zd.toNat (yb E + zs.toNat) (yb E + zd.toNat) 0 (yda E 0) n0 n1 _ _ (iI sp) (iI dp) (iI n) (by rw [hC.1.2.1, hl.1]) hC.1.2.2.1 hP (yW_D hC.2) hS hg0 hg1 rfl (nn sp g1) (nn dp g2) (nn n g0) (by rw [cl, cl]; omega) (by rw [cl, cl]; omega) hf (by rw [ysum_ok]; exact hlo) (fun H1 locs1 hP1 hS1 z1 => ?_)
  rw [cl, cl, cl] at hP1
  have e1 : (Sum.inl (yda E 0, n1, Sum.inl (va_cpy (fun j => iI (mem zs.toNat j)) (fun j => iI (mem zd.toNat j)) (w32 sp).toNat (w32 dp).toNat (w32 n).toNat)) : va_E) = yce E (.inl (0, n1, r1)) (va_cpy (mem zs.toNat) (mem zd.toNat) (w32 sp).toNat (w32 dp).toNat (w32 n).toNat) := by
    rw [yce_arr (Or.inl rfl)]
    congr 4
    funext k
    simp only [va_cpy]
    split <;> rfl
  rw [y_world hKd e1, ycpy_eq] at hP1
  exact h p e s m args below meth c A Qc hC hQ H1 locs1 ls hl hP1 hS1
theorem y_iret {x : Int} {ty : FieldType} (hd : decode (xMc M) pc = .ok (.ireturn, 1)) (hr : xMr M = some ty) (hn : narrow ty (.int (iI x)) = .int (iI x)) (h1 : ce ≤ R.cells) (h2 : sl ≤ R.slots) (h : Post (some (0, x)) mem) : yG E R M pc lv [(0, x)] mem ce sl Post := by
  intro p e s m args below meth c A Qc hC hQ H locs ls hl hP hS
  refine W.widen (k := R.cells) (n := R.slots) h1 h2 ?_
  rw [show [((0, x) : yV)].map (ydv E) = [.int (iI x)] from rfl]
  refine W.zret hC.1.1.1 hC.1.1.2.1 (by rw [hC.1.2.2.2.2.2.1]; exact hr) hn (fun t ht _ => ?_) hS.2.2 hd hC.1.2.2.2.2.2.2.1
  exact hQ _ _ t h (by rw [ht]; exact hP) (hS.F ht)
theorem y_lret {x : Int} (hd : decode (xMc M) pc = .ok (.lreturn, 1)) (hr : xMr M = some .long) (h1 : ce ≤ R.cells) (h2 : sl ≤ R.slots) (h : Post (some (4, x)) mem) : yG E R M pc lv [(4, x)] mem ce sl Post := by
  intro p e s m args below meth c A Qc hC hQ H locs ls hl hP hS
  refine W.widen (k := R.cells) (n := R.slots) h1 h2 ?_
  rw [show [((4, x) : yV)].map (ydv E) = [.long (lI x)] from rfl]
  refine W.lret hC.1.1.1 hC.1.1.2.1 (by rw [hC.1.2.2.2.2.2.1]; exact hr) (fun t ht _ => ?_) hS.2.2 hd hC.1.2.2.2.2.2.2.1
  exact hQ _ _ t h (by rw [ht]; exact hP) (hS.F ht)
theorem y_vret (hd : decode (xMc M) pc = .ok (.return_, 1)) (hr : xMr M = none) (h1 : ce ≤ R.cells) (h2 : sl ≤ R.slots) (h : Post none mem) : yG E R M pc lv [] mem ce sl Post := by
  intro p e s m args below meth c A Qc hC hQ H locs ls hl hP hS
  refine W.widen (k := R.cells) (n := R.slots) h1 h2 ?_
  exact W.vret hC.1.1.1 hC.1.1.2.1 (by rw [hC.1.2.2.2.2.2.1]; exact hr) (fun t ht _ => hQ _ _ t h (by rw [ht]; exact hP) (hS.F ht)) hS.2.2 hd hC.1.2.2.2.2.2.2.1
/-- behind a call -/
theorem y_call {rest : List yV} {Pc : Option yV → yMem → Prop}
    (hrun : ∀ (p : Program) (e : Env) (s : State) (m : MethodId) (args : Array Value) (below : List Frame) (meth : Method) (c : Code) (A : Nat → Prop), yCtx E M p s m args meth c A → ∀ (H : Heap) (locs : List Loc) (ls : Array Slot), lv_has ls (xMl M) (ydL E lv) → va_P (yD E) vwCl (yW E mem) H → va_S A s.heap H locs → va_Run p (yl E) e R s m args below meth c H locs ce sl 0 0 (F0 m pc ls (st.map (ydv E))) (rest.map (ydv E)) (yQp E H.size Pc) (xA (yb E) ysh.length H.size))
    (hall : ∀ r mem', Pc r mem' → yG E R M (pc + 3) lv (yput rest r) mem' ce sl Post) : yG E R M pc lv st mem ce sl Post := by
  intro p e s m args below meth c A Qc hC hQ H locs ls hl hP hS
  intro T hT X
  obtain ⟨v, st₀, t, T', L, h0, X', hL, e1, e2, ⟨r, mem', k1, k2, k3, k6⟩, stp⟩ := hrun p e s m args below meth c A hC H locs ls hl hP hS T hT X
  have ev : v = r.map (ydv E) := by injection k2
  have hsub : ∀ q, xA (yb E) ysh.length H.size q → A q := by
    rintro q (⟨a1, a2⟩ | a1)
    · have := hC.2 (q - yb E) (by omega)
      rwa [show yb E + (q - yb E) = q by omega] at this
    · exact hC.1.2.2.2.1 q (Nat.le_trans hS.1 a1)
  obtain ⟨f1, f2⟩ := k6
  rw [h0] at f1 f2
  have hS2 : va_S A s.heap T'.heap (locs ++ L) := ⟨by rw [e1]; exact Nat.le_trans hS.1 f1, fun q q1 q2 => by
    rw [e1, f2 q (Nat.lt_of_lt_of_le q1 hS.1) (fun z => q2 (hsub q z))]
    exact hS.2.1 q q1 q2, fun q hq => by
    rcases List.mem_append.mp hq with h | h
    · exact hS.2.2 q h
    · exact hsub _ (hL q h)⟩
  have W2 := hall r mem' k1 p e s m args below meth c A Qc hC hQ T'.heap (locs ++ L) ls hl (by rw [e1]; exact k3) hS2
  obtain ⟨t2, a1, b1⟩ := W2 T' rfl X'
  refine ⟨t2, stp t2 ?_, b1⟩
  have es : v.toList ++ rest.map (ydv E) = (yput rest r).map (ydv E) := by
    rw [ev]
    cases r <;> rfl
  rw [es]
  exact a1
theorem yPp_blind {avs : List Value} {sz : Nat} (hE : yEok E) : FrameBlind (va_Pc avs (yPp E mem sz)) := by
  rintro a U g mk ⟨h1, h2, h3, h4, h6⟩
  exact ⟨h1, h2, h3, va_K.moved (u := U) (U := U.calling g mk a) (Vm.Alike.refl U.vm) h4, hE.2.1 U g mk a h6⟩
theorem yPp_at {p : Program} {s : State} {m : MethodId} {args : Array Value} {meth : Method} {c : Code} {A : Nat → Prop} (hC : yCtx E M p s m args meth c A) (hE : yEok E) {H : Heap} {locs : List Loc} (hP : va_P (yD E) vwCl (yW E mem) H) (hS : va_S A s.heap H locs) (U : State) (hU : U.heap = H) (hW : s.WarmedH U.vm) : yPp E mem H.size U := by
  refine ⟨by rw [hU], by rw [hU]; exact hP, va_K.moved hW.alike hC.1.2.2.1, hE.2.2.1 s U hC.1.2.2.2.2.2.2.2.2.1 hW (fun q hq => ?_)⟩
  rw [hU]
  have hb := hC.1.2.2.2.2.2.2.2.2.2
  exact hS.2.1 q (by omega) (fun z => by have := hC.1.2.2.2.2.1 q z; omega)
theorem yP_size {H : Heap} (hP : va_P (yD E) vwCl (yW E mem) H) : yb E + ysh.length ≤ H.size := by
  have h0 : ysh.length = ysh.length - 1 + 1 := by decide +kernel
  have h1 : ∃ S, ysh[ysh.length - 1]? = some S := ⟨ysh[ysh.length - 1]'(by omega), List.getElem?_eq_getElem _⟩
  obtain ⟨S, hS⟩ := h1
  have h2 := (hP _ _ (yW_at (E := E) (mem := mem) hS)).lt
  dsimp only at h2
  omega
theorem y_room {M' : xM} (hm : xMl M' ≤ 45) (hR : d + 1 ≤ R.frames ∧ 64 * d + 64 ≤ R.locals) : (yR d).frames + 1 ≤ R.frames ∧ 8 + (xMl M' + 11) + (yR d).locals ≤ R.locals := by
  simp only [yR]
  omega
theorem y_runS (hE : yEok E) {M' : xM} (hM' : xMok xmt M') (hc : xcS M pc M') (hm : xMl M' ≤ 45) (hR : d + 1 ≤ R.frames ∧ 64 * d + 64 ≤ R.locals) (hcs : ce ≤ R.cells ∧ sl ≤ R.slots) {avs rest : List yV} (hst : st = avs.reverse ++ rest) (hn : avs.length = xMn M') (hrest : ysum rest ≤ 8) {Pc : Option yV → yMem → Prop} (hMet : yCon E d M' avs mem Pc)
    (p : Program) (e : Env) (s : State) (m : MethodId) (args : Array Value) (below : List Frame) (meth : Method) (c : Code) (A : Nat → Prop) (hC : yCtx E M p s m args meth c A) (H : Heap) (locs : List Loc) (ls : Array Slot) (hl : lv_has ls (xMl M) (ydL E lv)) (hP : va_P (yD E) vwCl (yW E mem) H) (hS : va_S A s.heap H locs) : va_Run p (yl E) e R s m args below meth c H locs ce sl 0 0 (F0 m pc ls (st.map (ydv E))) (rest.map (ydv E)) (yQp E H.size Pc) (xA (yb E) ysh.length H.size) := by
  obtain ⟨ix, hd, w1, w2⟩ := hc
  have r1 := y_room hm hR
  have hts := hC.1.1.2.2.2
  exact va_runS (As := avs.map (ydv E)) (n := xMn M') (bytes := xMc M') (maxL := xMl M') (ret := xMr M') ⟨hC.1.1.1, hC.1.1.2.1, hC.1.2.1, hC.1.1.2.2.1, hts⟩ (hMet H.size (yP_size hP)) ⟨callB_of (xMn M') hts (xgt_in' (xWs_in hM')) rfl rfl rfl (hts _ hM'.2.1) (hts _ w1) hM'.2.2.1 r1, hts _ w2⟩ ⟨yPp_blind hE, fun U hU hW => ⟨rfl, yPp_at hC hE hP hS U hU hW⟩⟩ rfl (by rw [List.length_map]; exact hn) hl.1 (by rw [hst, List.map_append, List.map_reverse]) (lv_room (by rw [ysum_ok]; exact hrest)) hd ⟨by omega, by omega⟩
theorem y_runSN (hE : yEok E) {M' : xM} (hM' : xMok xmt M') (hc : xcSN M pc M') (hm : xMl M' ≤ 45) (hR : d + 1 ≤ R.frames ∧ 64 * d + 64 ≤ R.locals) (hcs : ce ≤ R.cells ∧ sl ≤ R.slots) {avs rest : List yV} (hst : st = avs.reverse ++ rest) (hn : avs.length = xMn M') (hrest : ysum rest ≤ 8) {Pc : Option yV → yMem → Prop} (hMet : yCon E d M' avs mem Pc)
    (p : Program) (e : Env) (s : State) (m : MethodId) (args : Array Value) (below : List Frame) (meth : Method) (c : Code) (A : Nat → Prop) (hC : yCtx E M p s m args meth c A) (H : Heap) (locs : List Loc) (ls : Array Slot) (hl : lv_has ls (xMl M) (ydL E lv)) (hP : va_P (yD E) vwCl (yW E mem) H) (hS : va_S A s.heap H locs) : va_Run p (yl E) e R s m args below meth c H locs ce sl 0 0 (F0 m pc ls (st.map (ydv E))) (rest.map (ydv E)) (yQp E H.size Pc) (xA (yb E) ysh.length H.size) := by
  obtain ⟨ix, hd, host, w1, w2⟩ := hc
  have r1 := y_room hm hR
  have hts := hC.1.1.2.2.2
  exact va_runSN (As := avs.map (ydv E)) (n := xMn M') (bytes := xMc M') (maxL := xMl M') (ret := xMr M') (host := host) ⟨hC.1.1.1, hC.1.1.2.1, hC.1.2.1, hC.1.1.2.2.1, hts⟩ (hMet H.size (yP_size hP)) ⟨va_cnB (xMn M') hts (xgt_in' (xWs_in hM')) rfl rfl rfl ((hE.2.2.2 s hC.1.2.2.2.2.2.2.2.2.1).1 _ w1) (hts _ hM'.2.1) hM'.2.2.1 r1, hts _ w2, trivial⟩ ⟨yPp_blind hE, fun U hU hW => ⟨rfl, yPp_at hC hE hP hS U hU hW⟩⟩ rfl (by rw [List.length_map]; exact hn) hl.1 (by rw [hst, List.map_append, List.map_reverse]) (lv_room (by rw [ysum_ok]; exact hrest)) hd ⟨by omega, by omega⟩
theorem y_runV (hE : yEok E) {M' : xM} (hM' : xMok xmt M') (hc : xcV M pc M') (hm : xMl M' ≤ 45) (hR : d + 1 ≤ R.frames ∧ 64 * d + 64 ≤ R.locals) (hcs : ce ≤ R.cells ∧ sl ≤ R.slots) {avs rest : List yV} {z : Int} {ci : Nat} {fs : List yV} {q : vw_C} (hKi : ysh[z.toNat]? = some (.inr (ci, fs))) (hq : vwCl[ci]? = some q) (hqn : q.1 = (xMy M').cls) (hst : st = avs.reverse ++ (1, z) :: rest) (hn : avs.length = xMn M') (hrest : ysum rest ≤ 8) {Pc : Option yV → yMem → Prop} (hMet : yCon E d M' ((1, z) :: avs) mem Pc)
    (p : Program) (e : Env) (s : State) (m : MethodId) (args : Array Value) (below : List Frame) (meth : Method) (c : Code) (A : Nat → Prop) (hC : yCtx E M p s m args meth c A) (H : Heap) (locs : List Loc) (ls : Array Slot) (hl : lv_has ls (xMl M) (ydL E lv)) (hP : va_P (yD E) vwCl (yW E mem) H) (hS : va_S A s.heap H locs) : va_Run p (yl E) e R s m args below meth c H locs ce sl 0 0 (F0 m pc ls (st.map (ydv E))) (rest.map (ydv E)) (yQp E H.size Pc) (xA (yb E) ysh.length H.size) := by
  obtain ⟨ix, hd, w1, w2, w3⟩ := hc
  have r1 := y_room hm hR
  have hts := hC.1.1.2.2.2
  have hrc := va_recv hC.1.2.2.1 hP hq (yW_at hKi)
  rw [hqn] at hrc
  exact va_runV (As := avs.map (ydv E)) (b := yb E + z.toNat) (C := (xMy M').cls) (n := xMn M') (bytes := xMc M') (maxL := xMl M') (ret := xMr M') ⟨hC.1.1.1, hC.1.1.2.1, hC.1.2.1, hC.1.1.2.2.1, hts⟩ (hMet H.size (yP_size hP)) ⟨callB_of (xMn M') hts (xgt_in' (xWs_in hM')) rfl rfl rfl (hts _ hM'.2.1) (hts _ w1) hM'.2.2.1 r1, hts _ w2, hts _ w3⟩ ⟨yPp_blind hE, hrc, fun U hU hW => ⟨rfl, yPp_at hC hE hP hS U hU hW⟩⟩ rfl (by rw [List.length_map]; exact hn) hl.1 (by rw [hst, List.map_append, List.map_reverse]; rfl) (lv_room (by rw [ysum_ok]; exact hrest)) hd ⟨by omega, by omega⟩
theorem y_runVs (hE : yEok E) {M' : xM} (hM' : xMok xmt M') (hc : xcV M pc M') (hm : xMl M' ≤ 45) (hR : d + 1 ≤ R.frames ∧ 64 * d + 64 ≤ R.locals) (hcs : ce ≤ R.cells ∧ sl ≤ R.slots) {avs rest : List yV} {z : Int} (hk : z.toNat < 3) (hcls : (xMy M').cls = "java/lang/String") (hst : st = avs.reverse ++ (5, z) :: rest) (hn : avs.length = xMn M') (hrest : ysum rest ≤ 8) {Pc : Option yV → yMem → Prop} (hMet : yCon E d M' ((5, z) :: avs) mem Pc)
    (p : Program) (e : Env) (s : State) (m : MethodId) (args : Array Value) (below : List Frame) (meth : Method) (c : Code) (A : Nat → Prop) (hC : yCtx E M p s m args meth c A) (H : Heap) (locs : List Loc) (ls : Array Slot) (hl : lv_has ls (xMl M) (ydL E lv)) (hP : va_P (yD E) vwCl (yW E mem) H) (hS : va_S A s.heap H locs) : va_Run p (yl E) e R s m args below meth c H locs ce sl 0 0 (F0 m pc ls (st.map (ydv E))) (rest.map (ydv E)) (yQp E H.size Pc) (xA (yb E) ysh.length H.size) := by
  obtain ⟨ix, hd, w1, w2, w3⟩ := hc
  have r1 := y_room hm hR
  have hts := hC.1.1.2.2.2
  have hrc : ∃ cellB : Cell, H[ysa E z.toNat]? = some cellB ∧ cellB.vm.isStatics = false ∧ s.vm.findClass (xMy M').cls = some cellB.cls := by
    obtain ⟨cell, g1, g2, g3, -⟩ := (((hE.2.2.2 s hC.1.2.2.2.2.2.2.2.2.1).2.2.1 z.toNat hk).1.narrow hC.1.2.2.2.2.1).kept hS.2.1
    exact ⟨cell, g1, g2, by rw [hcls]; exact g3⟩
  exact va_runV (As := avs.map (ydv E)) (b := ysa E z.toNat) (C := (xMy M').cls) (n := xMn M') (bytes := xMc M') (maxL := xMl M') (ret := xMr M') ⟨hC.1.1.1, hC.1.1.2.1, hC.1.2.1, hC.1.1.2.2.1, hts⟩ (hMet H.size (yP_size hP)) ⟨callB_of (xMn M') hts (xgt_in' (xWs_in hM')) rfl rfl rfl (hts _ hM'.2.1) (hts _ w1) hM'.2.2.1 r1, hts _ w2, hts _ w3⟩ ⟨yPp_blind hE, hrc, fun U hU hW => ⟨rfl, yPp_at hC hE hP hS U hU hW⟩⟩ rfl (by rw [List.length_map]; exact hn) hl.1 (by rw [hst, List.map_append, List.map_reverse]; rfl) (lv_room (by rw [ysum_ok]; exact hrest)) hd ⟨by omega, by omega⟩
theorem y_split {n : Nat} {v : yV} {r : List yV} (h : st.drop n = v :: r) (hl : n + 1 ≤ st.length) : st = ((st.take n).reverse).reverse ++ v :: r ∧ st.drop (n + 1) = r ∧ (st.take (n + 1)).reverse = v :: (st.take n).reverse ∧ ((st.take n).reverse).length = n := by
  refine ⟨?_, ?_, ?_, ?_⟩
  · rw [List.reverse_reverse, ← h, List.take_append_drop]
  · rw [← List.drop_drop, h]
    rfl
  · have e : st.take (n + 1) = st.take n ++ [v] := by
      rw [List.take_add, h]
      rfl
    rw [e, List.reverse_append]
    rfl
  · rw [List.length_reverse, List.length_take]
    omega
end YC
end
section
section YM
variable {E : yE} {R : Room} {d : Nat} {M : xM} {pc : Nat} {lv : yL} {st : List yV} {mem : yMem} {ce sl : Nat} {Post : Option yV → yMem → Prop}
theorem y_ld {v : yV} (hs : ∀ (p : Program) (e : Env) (s : State) (m : MethodId) (args : Array Value) (below : List Frame) (meth : Method) (c : Code) (A : Nat → Prop) (Q : State → Prop), yCtx E M p s m args meth c A → ∀ (H : Heap) (locs : List Loc) (ls : Array Slot), va_S A s.heap H locs → W p (yl E) e R s m args below meth c H locs ce sl Q (F0 m d ls ((v :: st).map (ydv E))) → W p (yl E) e R s m args below meth c H locs ce sl Q (F0 m pc ls (st.map (ydv E)))) (h : yG E R M d lv (v :: st) mem ce sl Post) : yG E R M pc lv st mem ce sl Post := by
  intro p e s m args below meth c A Qc hC hQ H locs ls hl hP hS
  exact hs p e s m args below meth c A _ hC H locs ls hS (h p e s m args below meth c A Qc hC hQ H locs ls hl hP hS)
theorem y_callS (hE : yEok E) (hR : d + 1 ≤ R.frames ∧ 64 * d + 64 ≤ R.locals) (hcs : ce ≤ R.cells ∧ sl ≤ R.slots) {mi : Nat} {M' : xM} (hmi : xmt[mi]? = some M') (hc : xcS M pc M' ∨ xcSN M pc M') (h : ycall E d mi 0 st mem (fun st' mem' => yG E R M (pc + 3) lv st' mem' ce sl Post)) : yG E R M pc lv st mem ce sl Post := by
  unfold ycall at h
  rw [hmi] at h
  obtain ⟨h1, h2, h3, h4, h5⟩ := h
  rw [Nat.add_zero] at h1 h2 h3 h5
  have hst : st = ((st.take (xMn M')).reverse).reverse ++ st.drop (xMn M') := by rw [List.reverse_reverse, List.take_append_drop]
  have hlen : ((st.take (xMn M')).reverse).length = xMn M' := by rw [List.length_reverse, List.length_take, Nat.min_eq_left h1]
  rcases hc with hc | hc
  · exact y_call (y_runS hE (xmt_ok mi M' hmi) hc h4 hR hcs hst hlen h2 h5) (fun r mem' z => z)
  · exact y_call (y_runSN hE (xmt_ok mi M' hmi) hc h4 hR hcs hst hlen h2 h5) (fun r mem' z => z)
theorem y_callV (hE : yEok E) (hR : d + 1 ≤ R.frames ∧ 64 * d + 64 ≤ R.locals) (hcs : ce ≤ R.cells ∧ sl ≤ R.slots) {mi ci : Nat} {z : Int} {M' : xM} {r fs : List yV} {q : vw_C} (hmi : xmt[mi]? = some M') (hc : xcV M pc M') (hKi : ysh[z.toNat]? = some (.inr (ci, fs))) (hq : vwCl[ci]? = some q) (hqn : q.1 = (xMy M').cls) (hd : st.drop (xMn M') = (1, z) :: r) (h : ycall E d mi 1 st mem (fun st' mem' => yG E R M (pc + 3) lv st' mem' ce sl Post)) : yG E R M pc lv st mem ce sl Post := by
  unfold ycall at h
  rw [hmi] at h
  obtain ⟨h1, h2, h3, h4, h5⟩ := h
  obtain ⟨s1, s2, s3, s4⟩ := y_split hd h1
  rw [s2] at h2 h5
  rw [s3] at h5
  exact y_call (y_runV hE (xmt_ok mi M' hmi) hc h4 hR hcs hKi hq hqn s1 s4 h2 h5) (fun r mem' z => z)
theorem y_callVs (hE : yEok E) (hR : d + 1 ≤ R.frames ∧ 64 * d + 64 ≤ R.locals) (hcs : ce ≤ R.cells ∧ sl ≤ R.slots) {mi : Nat} {z : Int} {M' : xM} {r : List yV} (hmi : xmt[mi]? = some M') (hc : xcV M pc M') (hk : z.toNat < 3) (hcls : (xMy M').cls = "java/lang/String") (hd : st.drop (xMn M') = (5, z) :: r) (h : ycall E d mi 1 st mem (fun st' mem' => yG E R M (pc + 3) lv st' mem' ce sl Post)) : yG E R M pc lv st mem ce sl Post := by
  unfold ycall at h
  rw [hmi] at h
  obtain ⟨h1, h2, h3, h4, h5⟩ := h
  obtain ⟨s1, s2, s3, s4⟩ := y_split hd h1
  rw [s2] at h2 h5
  rw [s3] at h5
  exact y_call (y_runVs hE (xmt_ok mi M' hmi) hc h4 hR hcs hk hcls s1 s4 h2 h5) (fun r mem' z => z)
theorem y_char {x : Int} (h1 : 0 ≤ x) (h2 : x < 65536) : ((iI x).toUInt32 % 65536).toInt32 = iI x := by
  have e : iI x = nI x.toNat := by rw [← iI_n]; congr 1; omega
  rw [e, pk_char, pk_tn (by omega), Nat.mod_eq_of_lt (by omega)]
theorem y_math {nx : Nat} {st0 st1 : List yV} (hR : d + 1 ≤ R.frames ∧ 64 * d + 64 ≤ R.locals) (hcs : ce ≤ R.cells ∧ sl ≤ R.slots) (hT : xMth (xMc M) (xMo M) pc nx (st0.map (ydv E)) (st1.map (ydv E))) (hs : ysum st ≤ 8) (h : yG E R M nx lv (st1 ++ st) mem ce sl Post) : yG E R M pc lv (st0 ++ st) mem ce sl Post := by
  intro p e s m args below meth c A Qc hC hQ H locs ls hl hP hS
  have := h p e s m args below meth c A Qc hC hQ H locs ls hl hP hS
  rw [List.map_append] at this ⊢
  exact hT p (yl E) e R s m args below meth c H locs ce sl _ ls _ hC.1.1 (by rw [hC.1.2.1, hl.1]) (by omega) (by rw [ysum_ok]; omega) hcs.1 hcs.2 this
theorem y_nfw : nativeFrameWords "java/lang/System" "arraycopy" 5 + 11 ≤ 56 := by decide +kernel
set_option maxHeartbeats 4000000 in
/-- ONE INSTRUCTION is sound -/
theorem yst (hE : yEok E) (hR : d + 1 ≤ R.frames ∧ 64 * d + 64 ≤ R.locals) (hcs : ce ≤ R.cells ∧ sl ≤ R.slots) {op : xOp} (hok : xok xmt M pc op) (h : ystep E R d M op lv st mem Post (fun pc' lv' st' mem' => yG E R M pc' lv' st' mem' ce sl Post)) : yG E R M pc lv st mem ce sl Post := by
  obtain ⟨tg, nx, a, b, cs⟩ := op
  match tg, hok, h with
  | 0, hok, h => exact y_T (st0 := []) (st1 := [(0, cI a)]) (by rw [show ([((0, cI a) : yV)].map (ydv E)) = [.int (iI (cI a))] from rfl, iI_c]; exact hok) h
  | 1, hok, h => exact y_T (st0 := []) (st1 := [(4, cL a)]) (by rw [show ([((4, cL a) : yV)].map (ydv E)) = [.long (lI (cL a))] from rfl, lI_c]; exact hok) h
  | 2, hok, h =>
    obtain ⟨v, h1, h2, h3⟩ := h
    exact y_load hok.1 hok.2 h1 h2 h3
  | 3, hok, h =>
    match st, h with
    | v :: st', h => exact y_store hok.1 hok.2 h.1 h.2.1 h.2.2
  | 4, hok, h =>
    obtain ⟨x, h1, h2, h3⟩ := h
    exact y_iinc hok h1 h2 h3
  | 5, hok, h =>
    match st, h with
    | (0, y) :: (0, x) :: st', h =>
      refine y_T (st0 := [(0, y), (0, x)]) (st1 := [(0, ybin a x y)]) ?_ h.2
      have := hok (iI x) (iI y) (fun q z => h.1 q (by have := congrArg Int32.toInt z; exact this))
      rw [← ybin_ok] at this
      exact this
  | 6, hok, h =>
    match st, h with
    | (0, x) :: st', h =>
      refine y_T (st0 := [(0, x)]) (st1 := [(0, (iI x).toInt8.toInt32.toInt)]) ?_ h
      have := hok (iI x)
      rw [← iI_t (iI x).toInt8.toInt32] at this
      exact this
  | 8, hok, h =>
    match st, h with
    | (4, y) :: (4, x) :: st', h =>
      refine y_T (st0 := [(4, y), (4, x)]) (st1 := [(0, ycmp x y)]) ?_ h
      have := hok (lI x) (lI y)
      rw [← ycmp_ok] at this
      exact this
  | 9, hok, h =>
    match st, h with
    | v :: st', h => exact y_T (st0 := [v]) (st1 := [v, v]) (hok _ (by rw [ycat_ok]; exact h.1)) h.2
  | 10, hok, h =>
    match st, h with
    | v :: st', h => exact y_T (st0 := [v]) (st1 := []) (hok _ (by rw [ycat_ok]; exact h.1)) h.2
  | 11, hok, h =>
    match st, h with
    | v :: w :: st', h => exact y_T (st0 := [v, w]) (st1 := [v, w, v, w]) (hok _ _ (by rw [ycat_ok]; exact h.1) (by rw [ycat_ok]; exact h.2.1)) h.2.2
  | 12, hok, h =>
    match st, h with
    | (0, x) :: st', h => exact y_fork0 hok h.1 h.2
  | 13, hok, h =>
    match st, h with
    | (0, y) :: (0, x) :: st', h => exact y_fork hok h.1 h.2
  | 14, hok, h => exact y_T (st0 := []) (st1 := []) hok h
  | 15, hok, h =>
    match st, h with
    | (0, x) :: st', h => exact y_sw hok h.1 h.2.1 h.2.2
  | 16, hok, h =>
    match st, h with
    | (1, i) :: st', h =>
      obtain ⟨fs, v, h1, h2, h3⟩ := h
      exact y_getf hok h1 h2 rfl h3
  | 17, hok, h =>
    obtain ⟨ty, fin, z, h1, h2, h3⟩ := hok
    dsimp only at h1
    subst h1
    match st, h with
    | v :: (1, i) :: st', h =>
      obtain ⟨fs, w, g1, g2, g3, g4⟩ := h
      exact y_putf h2 h3 g3 g2 g1 rfl g4
  | 18, hok, h =>
    match st, h with
    | (1, i) :: st', h =>
      obtain ⟨t, n, rs, h1, h2, h3⟩ := h
      exact y_alen hok.1 h2 h1 rfl h3
    | (6, i) :: st', h =>
      intro p e s m args below meth c A Qc hC hQ H locs ls hl hP hS
      have := h.2 p e s m args below meth c A Qc hC hQ H locs ls hl hP hS
      rw [List.map_cons] at this ⊢
      rw [show ydv E (0, ((xlen.getD i.toNat 0 : Nat) : Int)) = .int (nI (xlen.getD i.toNat 0)) by show Value.int (iI _) = _; rw [iI_n]] at this
      exact hok.2 p (yl E) e R s m args below meth c H locs ce sl _ ls _ hC.1.1 (yb E) (ysa E) A (hE.2.2.2 s hC.1.2.2.2.2.2.2.2.2.1) hS hC.1.2.2.2.2.1 i.toNat h.1 this
  | 19, hok, h =>
    match st, h with
    | (0, j) :: (1, i) :: st', h =>
      obtain ⟨n, rs, h1, h2, h3, h4⟩ := h
      exact y_read hok.1 hok.2 h1 rfl h2 h3 h4
  | 20, hok, h =>
    match st, h with
    | (0, j) :: (1, i) :: st', h =>
      obtain ⟨n, rs, q, h1, h2, h3, h4, h5⟩ := h
      exact y_readr hok h1 rfl h2 h3 h4 h5
  | 21, hok, h =>
    match st, h with
    | (0, x) :: (0, j) :: (1, i) :: st', h =>
      obtain ⟨n, rs, h1, h2, h3, h4, h5⟩ := h
      obtain ⟨g1, g2⟩ := y_nok h4
      exact y_write g1 hok h1 rfl h2 h3 g2 h5
  | 26, hok, h =>
    match st, h with
    | (0, n) :: (0, dp) :: (1, dd) :: (0, sp) :: (1, ss) :: st', h =>
      obtain ⟨h0, n0, r0, n1, r1, h1, h2, h3, h4, h5, h6, h7, h8⟩ := h
      have := y_nfw
      exact y_copy hok h1 h2 rfl rfl h3 h4 h5 h6 h7 (by omega) (by omega) h8
  | 27, hok, h =>
    obtain ⟨e1, M', hmi, hc⟩ := hok
    dsimp only at e1 hmi
    subst e1
    exact y_callS hE hR hcs hmi (Or.inl hc) h
  | 47, hok, h =>
    obtain ⟨e1, M', hmi, hc⟩ := hok
    dsimp only at e1 hmi
    subst e1
    exact y_callS hE hR hcs hmi (Or.inr hc) h
  | 28, hok, h =>
    obtain ⟨e1, M', hmi, hc, q, hq, hqn⟩ := hok
    dsimp only at e1 hmi hq
    subst e1
    obtain ⟨g1, g2⟩ := h
    dsimp only at g1 g2
    rw [hmi] at g1
    dsimp only at g1
    split at g1
    · next i r hd =>
      obtain ⟨fs, g3⟩ := g1
      exact y_callV hE hR hcs hmi hc g3 hq hqn hd g2
    · exact g1.elim
  | 30, hok, h =>
    match st, h with
    | [(0, x)], h =>
      obtain ⟨hd, ty, h1, h2, h3⟩ := hok
      dsimp only at h2
      refine y_iret hd h1 ?_ hcs.1 hcs.2 h.2
      rcases h3 with rfl | rfl
      · rfl
      · rcases h.1 with h4 | ⟨h4, h5⟩
        · dsimp only at h4
          rw [h4] at h2
          exact absurd h2 (by decide)
        · rcases w32_01 h5 with e | e <;> rw [e] <;> decide +kernel
  | 31, hok, h =>
    match st, h with
    | [(4, x)], h => exact y_lret hok.1 hok.2 hcs.1 hcs.2 h
  | 32, hok, h =>
    match st, h with
    | [], h => exact y_vret hok.1 hok.2 hcs.1 hcs.2 h
  | 33, hok, h => exact y_ld (d := nx) (v := (5, (a : Int))) (fun p e s m args below meth c A Q hC H locs ls hS k => hok p (yl E) e R s m args below meth c H locs ce sl Q ls _ hC.1.1 (yb E) (ysa E) (hE.2.2.2 s hC.1.2.2.2.2.2.2.2.2.1) k) h
  | 34, hok, h =>
    refine y_ld (d := nx) (v := (0, 1)) (fun p e s m args below meth c A Q hC H locs ls hS k => ?_) h
    rw [List.map_cons, show ydv E (0, 1) = .int (nI 1) from congrArg Value.int (by decide)] at k
    exact hok p (yl E) e R s m args below meth c H locs ce sl Q ls _ hC.1.1 (yb E) (ysa E) A (hE.2.2.2 s hC.1.2.2.2.2.2.2.2.2.1) hS hC.1.2.2.2.2.1 k
  | 35, hok, h =>
    match st, h with
    | (5, i) :: st', h =>
      intro p e s m args below meth c A Qc hC hQ H locs ls hl hP hS
      have := h.2 p e s m args below meth c A Qc hC hQ H locs ls hl hP hS
      rw [List.map_cons] at this ⊢
      refine hok p (yl E) e R s m args below meth c H locs ce sl _ ls _ hC.1.1 (yb E) (ysa E) A (hE.2.2.2 s hC.1.2.2.2.2.2.2.2.2.1) hS hC.1.2.2.2.2.1 i.toNat h.1 ?_
      dsimp only at this ⊢
      by_cases ha : a = 0
      · rw [if_pos ha] at this ⊢
        exact this
      · rw [if_neg ha] at this ⊢
        exact this
  | 37, hok, h =>
    match st, h with
    | (0, j) :: (6, i) :: st', h =>
      obtain ⟨h1, h2, h3, h4⟩ := h
      intro p e s m args below meth c A Qc hC hQ H locs ls hl hP hS
      have := h4 p e s m args below meth c A Qc hC hQ H locs ls hl hP hS
      rw [List.map_cons] at this
      rw [List.map_cons, List.map_cons]
      have e1 : ydv E (0, j) = .int (nI (w32 j).toNat) := by
        show Value.int (iI j) = _
        rw [← iI_n, Int.toNat_of_nonneg h2, iI_w]
      have e2 : ydv E (0, (((xbyt.getD i.toNat []).getD (w32 j).toNat 0 : Nat) : Int)) = .int (nI ((xbyt.getD i.toNat []).getD (w32 j).toNat 0)) := by show Value.int (iI _) = _; rw [iI_n]
      rw [e2] at this
      rw [e1]
      have := w32_hi j
      exact hok p (yl E) e R s m args below meth c H locs ce sl _ ls _ hC.1.1 (yb E) (ysa E) A (hE.2.2.2 s hC.1.2.2.2.2.2.2.2.2.1) hS hC.1.2.2.2.2.1 i.toNat (w32 j).toNat h1 (by omega) (by omega) ‹_›
  | 38, hok, h =>
    match st, h with
    | (0, x) :: st', h =>
      refine y_T (st0 := [(0, x)]) (st1 := [(0, x)]) ?_ h.2.2
      have := hok (iI x)
      rw [y_char h.1 h.2.1] at this
      exact this
  | 39, hok, h =>
    obtain ⟨e1, M', hmi, hc, hq⟩ := hok
    dsimp only at e1 hmi
    subst e1
    obtain ⟨g1, g2⟩ := h
    dsimp only at g1 g2
    rw [hmi] at g1
    dsimp only at g1
    split at g1
    · next i r hd => exact y_callVs hE hR hcs hmi hc g1 hq hd g2
    · exact g1.elim
  | 40, hok, h =>
    match st, h with
    | [(0, x)], h =>
      obtain ⟨hd, ty, h1, h2⟩ := hok
      obtain ⟨g1, g2, g3⟩ := h
      dsimp only at h2 g2
      have e : iI x = nI x.toNat := by rw [← iI_n]; congr 1; omega
      rcases h2 with ⟨e1, e2⟩ | ⟨e1, e2⟩
      · rw [if_pos e1] at g2
        exact y_iret hd h1 (by rw [e2, e]; exact (pk_charN (by omega)).1) hcs.1 hcs.2 g3
      · rw [if_neg (by omega)] at g2
        exact y_iret hd h1 (by rw [e2, e]; exact xnarB (by omega)) hcs.1 hcs.2 g3
  | 41, hok, h => exact y_ld (d := nx) (v := (7, 0)) (fun p e s m args below meth c A Q hC H locs ls hS k => hok p (yl E) e R s m args below meth c H locs ce sl Q ls _ hC.1.1 (yb E) (ysa E) A (hE.2.2.2 s hC.1.2.2.2.2.2.2.2.2.1) hS hC.1.2.2.2.2.1 k) h
  | 60, hok, h =>
    match st, h with
    | (4, y) :: (4, x) :: st', h =>
      refine y_T (st0 := [(4, y), (4, x)]) (st1 := [(4, ylbin a x y)]) ?_ h
      have := hok (lI x) (lI y)
      rw [← ylbin_ok] at this
      exact this
  | 61, hok, h =>
    match st, h with
    | (4, y) :: (4, x) :: st', h =>
      refine y_T (st0 := [(4, y), (4, x)]) (st1 := [(4, ylbin a x y)]) ?_ h.2
      have := hok (lI x) (lI y) (fun z => h.1 (by have := congrArg Int64.toInt z; exact this))
      rw [← ylbin_ok] at this
      exact this
  | 62, hok, h =>
    match st, h with
    | (0, y) :: (4, x) :: st', h =>
      refine y_T (st0 := [(0, y), (4, x)]) (st1 := [(4, (lI x <<< ((iI y).toInt64 &&& 63)).toInt)]) ?_ h
      have := hok (lI x) (iI y)
      rw [← lI_t (lI x <<< ((iI y).toInt64 &&& 63))] at this
      exact this
  | 63, hok, h =>
    match st, h with
    | (0, y) :: (4, x) :: st', h =>
      refine y_T (st0 := [(0, y), (4, x)]) (st1 := [(4, ((lI x).toUInt64 >>> ((iI y).toInt64.toUInt64 &&& Int64.toUInt64 63)).toInt64.toInt)]) ?_ h
      have := hok (lI x) (iI y)
      rw [← lI_t ((lI x).toUInt64 >>> ((iI y).toInt64.toUInt64 &&& Int64.toUInt64 63)).toInt64] at this
      exact this
  | 64, hok, h =>
    match st, h with
    | (4, x) :: st', h =>
      refine y_T (st0 := [(4, x)]) (st1 := [(4, -x)]) ?_ h
      have := hok (lI x)
      rw [show -lI x = lI (-x) from (Int64.ofInt_neg x).symm] at this
      exact this
  | 65, hok, h =>
    match st, h with
    | (0, x) :: st', h =>
      refine y_T (st0 := [(0, x)]) (st1 := [(4, w32 x)]) ?_ h
      have := hok (iI x)
      have e : (iI x).toInt64 = lI (w32 x) := by
        apply Int64.toInt_inj.mp
        rw [Int32.toInt_toInt64]
        have b1 := w32_lo x
        have b2 := w32_hi x
        exact (w64_of (x := w32 x) (by omega) (by omega)).symm
      rw [e] at this
      exact this
  | 66, hok, h =>
    match st, h with
    | (4, x) :: st', h =>
      refine y_T (st0 := [(4, x)]) (st1 := [(0, x)]) ?_ h
      have := hok (lI x)
      rw [show (lI x).toInt32 = iI x from Int64.toInt32_ofInt] at this
      exact this
  | 67, hok, h =>
    match st, h with
    | (0, j) :: (1, i) :: st', h =>
      obtain ⟨n, rs, h1, h2, h3, h4⟩ := h
      exact y_readl hok h1 rfl h2 h3 h4
  | 68, hok, h =>
    match st, h with
    | (4, x) :: (0, j) :: (1, i) :: st', h =>
      obtain ⟨n, rs, h1, h2, h3, h4⟩ := h
      exact y_writel hok h1 rfl h2 h3 h4
  | 69, hok, h =>
    match st, h with
    | v :: st', h => exact y_T (st0 := [v]) (st1 := []) (hok _ (by rw [ycat_ok]; exact h.1)) h.2
  | 70, hok, h =>
    match st, h with
    | (0, y) :: (0, x) :: st', h =>
      refine y_math (st0 := [(0, y), (0, x)]) (st1 := [(0, if a = 0 then (if w32 y < w32 x then y else x) else (if w32 x < w32 y then y else x))]) hR hcs ?_ h.1 h.2
      have := hok (iI x) (iI y)
      have e1 : (iI y < iI x) ↔ w32 y < w32 x := Int32.lt_iff_toInt_lt
      have e2 : (iI x < iI y) ↔ w32 x < w32 y := Int32.lt_iff_toInt_lt
      have e3 : (if a = 0 then (if iI y < iI x then iI y else iI x) else (if iI x < iI y then iI y else iI x)) = iI (if a = 0 then (if w32 y < w32 x then y else x) else (if w32 x < w32 y then y else x)) := by
        simp only [e1, e2]
        split <;> split <;> rfl
      dsimp only at this
      rw [e3] at this
      exact this
  | 71, hok, h =>
    match st, h with
    | (4, y) :: (4, x) :: st', h =>
      refine y_math (st0 := [(4, y), (4, x)]) (st1 := [(4, if a = 0 then (if w64 y < w64 x then y else x) else (if w64 y < w64 x then x else y))]) hR hcs ?_ h.1 h.2
      have := hok (lI x) (lI y)
      have e1 : (lI y < lI x) ↔ w64 y < w64 x := Int64.lt_iff_toInt_lt
      have e3 : (if a = 0 then (if lI y < lI x then lI y else lI x) else (if lI y < lI x then lI x else lI y)) = lI (if a = 0 then (if w64 y < w64 x then y else x) else (if w64 y < w64 x then x else y)) := by
        simp only [e1]
        split <;> split <;> rfl
      dsimp only at this
      rw [e3] at this
      exact this
  | 72, hok, h =>
    match st, h with
    | (4, x) :: st', h =>
      refine y_math (st0 := [(4, x)]) (st1 := [(4, if 0 < w64 x then x else -x)]) hR hcs ?_ h.1 h.2
      have := hok (lI x)
      have e1 : (0 < lI x) ↔ 0 < w64 x := by
        rw [Int64.lt_iff_toInt_lt]
        simp [w64]
      have e3 : (if 0 < lI x then lI x else -lI x) = lI (if 0 < w64 x then x else -x) := by
        simp only [e1]
        split
        · rfl
        · exact (Int64.ofInt_neg x).symm
      rw [e3] at this
      exact this
end YM
end
section
/-- what every slot of the memory holds: of each cell the interval of all its slots, and of its first ones -/
def ygam : List ((Int × Int) × List (Int × Int)) := [((-2147483648, 2147483647), [(-2147483648, 2147483647), (-2147483648, 2147483647), (-2147483648, 2147483647), (-2147483648, 2147483647), (-2147483648, 2147483647), (-2147483648, 2147483647), (-2147483648, 2147483647), (-2147483648, 2147483647), (-2147483648, 2147483647), (-2147483648, 2147483647), (-2147483648, 2147483647), (0, 800), (-2147483648, 2147483647), (-2147483648, 2147483647), (0, 1)]), ((-128, 127), []), ((-2147483648, 2147483647), []), ((-2147483648, 2147483647), [(-2147483648, 2147483647), (0, 3)]), ((-2147483648, 2147483647), []), ((-2147483648, 2147483647), [(-2147483648, 2147483647), (0, 6)]), ((-2147483648, 2147483647), []), ((-2147483648, 2147483647), [(-2147483648, 2147483647), (0, 4)]), ((-2147483648, 2147483647), []), ((-2147483648, 2147483647), [(-2147483648, 2147483647), (0, 3)]), ((-2147483648, 2147483647), []), ((-2147483648, 2147483647), []), ((-2147483648, 2147483647), []), ((-2147483648, 2147483647), []), ((-2147483648, 2147483647), []), ((-1, 2), []), ((-2147483648, 2147483647), []), ((-2147483648, 2147483647), []), ((0, 3), []), ((0, 8), []), ((-2147483648, 2147483647), []), ((-2147483648, 2147483647), []), ((-2147483648, 2147483647), [(-2147483648, 2147483647), (-2147483648, 2147483647), (-2147483648, 2147483647), (-2147483648, 2147483647), (0, 64), (-2147483648, 2147483647), (0, 72), (0, 8), (0, 64), (0, 1)]), ((-2147483648, 2147483647), []), ((-2147483648, 2147483647), []), ((0, 64), []), ((0, 64), []), ((-2147483648, 2147483647), []), ((-2147483648, 2147483647), []), ((-2147483648, 2147483647), [(-2147483648, 2147483647), (0, 3)]), ((-2147483648, 2147483647), []), ((-2147483648, 2147483647), [(-2147483648, 2147483647), (0, 6)]), ((-2147483648, 2147483647), []), ((-2147483648, 2147483647), [(-2147483648, 2147483647), (0, 4)]), ((-2147483648, 2147483647), []), ((-2147483648, 2147483647), [(-2147483648, 2147483647), (0, 3)]), ((-2147483648, 2147483647), []), ((-2147483648, 2147483647), []), ((-2147483648, 2147483647), []), ((-2147483648, 2147483647), []), ((-2147483648, 2147483647), []), ((-1, 2), []), ((-2147483648, 2147483647), []), ((-2147483648, 2147483647), []), ((0, 3), []), ((0, 8), []), ((-2147483648, 2147483647), []), ((-2147483648, 2147483647), []), ((-2147483648, 2147483647), [(-2147483648, 2147483647), (-2147483648, 2147483647), (-2147483648, 2147483647), (-2147483648, 2147483647), (0, 64), (-2147483648, 2147483647), (0, 72), (0, 8), (0, 64), (0, 1)]), ((-2147483648, 2147483647), []), ((-2147483648, 2147483647), []), ((0, 64), []), ((0, 64), []), ((-2147483648, 2147483647), []), ((-2147483648, 2147483647), [(-2147483648, 2147483647), (-2147483648, 2147483647), (0, 1), (0, 1)]), ((-2147483648, 2147483647), [(-2147483648, 2147483647), (-2147483648, 2147483647), (0, 800), (0, 801), (-2147483648, 2147483647), (-2147483648, 2147483647), (-2147483648, 2147483647), (-2147483648, 2147483647), (-2147483648, 2147483647)]), ((-2147483648, 2147483647), []), ((-2147483648, 2147483647), [(-2147483648, 2147483647), (-2147483648, 2147483647), (-2147483648, 2147483647), (-2147483648, 2147483647), (-2147483648, 2147483647), (-2147483648, 2147483647), (0, 12), (-2147483648, 2147483647), (-2147483648, 2147483647), (-2147483648, 2147483647), (-2147483648, 2147483647), (-1, 24), (-2147483648, 2147483647)]), ((-2147483648, 2147483647), []), ((-2147483648, 2147483647), []), ((-2147483648, 2147483647), []), ((-1, 5), []), ((0, 11), []), ((-2147483648, 2147483647), []), ((-2147483648, 2147483647), [(-2147483648, 2147483647), (-2147483648, 2147483647), (-2147483648, 2147483647), (-2147483648, 2147483647), (-2147483648, 2147483647), (-2147483648, 2147483647), (0, 12), (-2147483648, 2147483647), (-2147483648, 2147483647), (-2147483648, 2147483647), (-2147483648, 2147483647), (-1, 24), (-2147483648, 2147483647)]), ((-2147483648, 2147483647), []), ((-2147483648, 2147483647), []), ((-2147483648, 2147483647), []), ((-1, 5), []), ((0, 11), []), ((-2147483648, 2147483647), []), ((-2147483648, 2147483647), [(-2147483648, 2147483647), (0, 24)]), ((-2147483648, 2147483647), []), ((-2147483648, 2147483647), [(-2147483648, 2147483647), (-2147483648, 2147483647), (-2147483648, 2147483647), (-2147483648, 2147483647), (0, 64), (0, 1)]), ((-2147483648, 2147483647), []), ((-2147483648, 2147483647), []), ((-2147483648, 2147483647), [(-2147483648, 2147483647), (-2147483648, 2147483647), (-2147483648, 2147483647), (-2147483648, 2147483647), (-2147483648, 2147483647), (-2147483648, 2147483647), (-2147483648, 2147483647), (-2147483648, 2147483647), (0, 24), (-2147483648, 2147483647), (0, 1)]), ((0, 8), []), ((-2147483648, 2147483647), []), ((-2147483648, 2147483647), []), ((-2147483648, 2147483647), []), ((-2147483648, 2147483647), []), ((-2147483648, 2147483647), []), ((-2147483648, 2147483647), []), ((-2147483648, 2147483647), []), ((-2147483648, 2147483647), []), ((-2147483648, 2147483647), []), ((-2147483648, 2147483647), []), ((-1, 2), []), ((-2147483648, 2147483647), []), ((-2147483648, 2147483647), []), ((-2147483648, 2147483647), [(-2147483648, 2147483647), (-2147483648, 2147483647), (-2147483648, 2147483647), (-2147483648, 2147483647), (-2147483648, 2147483647), (-2147483648, 2147483647), (0, 4), (-2147483648, 2147483647), (-2147483648, 2147483647), (-2147483648, 2147483647)]), ((-2147483648, 2147483647), []), ((-2147483648, 2147483647), []), ((-2147483648, 2147483647), []), ((-2147483648, 2147483647), [(-2147483648, 2147483647), (-2147483648, 2147483647), (0, 800), (-2147483648, 2147483647), (-2147483648, 2147483647), (-2147483648, 2147483647), (-2147483648, 2147483647), (-2147483648, 2147483647), (-2147483648, 2147483647), (-2147483648, 2147483647), (-2147483648, 2147483647), (-2147483648, 2147483647), (-2147483648, 2147483647), (-2147483648, 2147483647), (-2147483648, 2147483647), (-2147483648, 2147483647), (-2147483648, 2147483647), (-2147483648, 2147483647), (-2147483648, 2147483647), (-2147483648, 2147483647), (-2147483648, 2147483647), (-2147483648, 2147483647), (-2147483648, 2147483647), (-2147483648, 2147483647), (-2147483648, 2147483647), (-2147483648, 2147483647), (0, 800), (0, 802), (0, 802), (-2147483648, 2147483647), (-2147483648, 2147483647), (-2147483648, 2147483647), (-2147483648, 2147483647), (-2147483648, 2147483647), (-2147483648, 2147483647), (0, 8), (0, 64), (-2147483648, 2147483647), (-2147483648, 2147483647), (-2147483648, 2147483647), (-2147483648, 2147483647), (-2147483648, 2147483647), (-2147483648, 2147483647), (-2147483648, 2147483647), (-2147483648, 2147483647), (-2147483648, 2147483647), (-2147483648, 2147483647), (-2147483648, 2147483647), (-2147483648, 2147483647), (0, 1), (-2147483648, 2147483647), (-2147483648, 2147483647), (0, 64), (-2147483648, 2147483647), (-2147483648, 2147483647), (-2147483648, 2147483647), (-2147483648, 2147483647), (-2147483648, 2147483647), (-2147483648, 2147483647), (-1, 2), (-2147483648, 2147483647), (0, 24), (-1, 24), (-2147483648, 2147483647), (-2147483648, 2147483647), (-2147483648, 2147483647), (-2147483648, 2147483647), (-2147483648, 2147483647), (-2147483648, 2147483647)]), ((0, 255), []), ((-2147483648, 2147483647), [(0, 3), (0, 6), (0, 4), (0, 3), (-2147483648, 2147483647), (-2147483648, 2147483647), (0, 64), (0, 3), (0, 6), (0, 4), (0, 3), (-2147483648, 2147483647), (-2147483648, 2147483647), (0, 64)]), ((-2147483648, 2147483647), []), ((-2147483648, 2147483647), []), ((-2147483648, 2147483647), []), ((-2147483648, 2147483647), []), ((-2147483648, 2147483647), []), ((-2147483648, 2147483647), []), ((0, 1), []), ((-1, 2), []), ((0, 99), []), ((-2147483648, 2147483647), []), ((-2147483648, 2147483647), []), ((0, 3), []), ((0, 8), []), ((-2147483648, 2147483647), []), ((-2147483648, 2147483647), []), ((-2147483648, 2147483647), []), ((0, 64), []), ((0, 64), []), ((-2147483648, 2147483647), []), ((-2147483648, 2147483647), []), ((-2147483648, 2147483647), []), ((-2147483648, 2147483647), []), ((-2147483648, 2147483647), []), ((-2147483648, 2147483647), []), ((-2147483648, 2147483647), []), ((-2147483648, 2147483647), []), ((-2147483648, 2147483647), []), ((-2147483648, 2147483647), []), ((-1, 5), []), ((0, 12), []), ((0, 11), []), ((-2147483648, 2147483647), []), ((-2147483648, 2147483647), []), ((-2147483648, 2147483647), []), ((-2147483648, 2147483647), []), ((-2147483648, 2147483647), []), ((0, 999), []), ((0, 8), []), ((0, 6), []), ((-2147483648, 2147483647), []), ((-2147483648, 2147483647), []), ((-1, 23), []), ((0, 1), []), ((0, 5), []), ((-2147483648, 2147483647), []), ((-2147483648, 2147483647), [])]
end
