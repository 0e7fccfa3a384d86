section
set_option maxRecDepth 100000 in
set_option maxHeartbeats 4000000 in
theorem xo_256 : ∀ q ∈ xk_256, xok xmt xm_256 q.1 q.2 := by
  refine xcns ?_ <| xcns ?_ <| xcns ?_ <| xcns ?_ <| xcns ?_ <| xcns ?_ <| xcns ?_ <| xcns ?_ <| xcns ?_ <| xcns ?_ <| xcns ?_ <| xcns ?_ <| xcns ?_ <| xcns ?_ <| xcns ?_ <| xcns ?_ <| xcns ?_ <| xcns ?_ <| xcns ?_ <| xcns ?_ <| xcns ?_ <| xcns ?_ <| xcns ?_ <| xcns ?_ <| xcns ?_ <| xcns ?_ <| xcns ?_ <| xcns ?_ <| xcns ?_ <| xcns ?_ <| xcns ?_ <| xcns ?_ <| xcns ?_ <| xcns ?_ <| xcns ?_ <| xcns ?_ <| xcns ?_ <| xcns ?_ <| xcns ?_ <| xcns ?_ <| xcns ?_ <| xcns ?_ <| xcns ?_ <| xcns ?_ <| xcns ?_ <| xcns ?_ <| xcns ?_ <| xcns ?_ <| xcns ?_ <| xnl
  · exact (⟨by decide, xr_lloadn dJ13_bitCount_95d88_0 rfl⟩)
  · exact (⟨by decide, xr_lloadn dJ13_bitCount_95d88_1 rfl⟩)
  · exact (xr_iconst dJ13_bitCount_95d88_2 (by decide +kernel))
  · exact (fun x y => xr_lushr dJ13_bitCount_95d88_3 x y)
  · exact (xr_ldc2 dJ13_bitCount_95d88_4 xw_1193)
  · exact (fun x y => xr_gland dJ13_bitCount_95d88_7 x y)
  · exact (fun x y => xr_lsub dJ13_bitCount_95d88_8 x y)
  · exact (⟨by decide, xr_lstoren dJ13_bitCount_95d88_9 rfl⟩)
  · exact (⟨by decide, xr_lloadn dJ13_bitCount_95d88_10 rfl⟩)
  · exact (xr_ldc2 dJ13_bitCount_95d88_11 xw_1194)
  · exact (fun x y => xr_gland dJ13_bitCount_95d88_14 x y)
  · exact (⟨by decide, xr_lloadn dJ13_bitCount_95d88_15 rfl⟩)
  · exact (xr_iconst dJ13_bitCount_95d88_16 (by decide +kernel))
  · exact (fun x y => xr_lushr dJ13_bitCount_95d88_17 x y)
  · exact (xr_ldc2 dJ13_bitCount_95d88_18 xw_1194)
  · exact (fun x y => xr_gland dJ13_bitCount_95d88_21 x y)
  · exact (fun x y => xr_ladd dJ13_bitCount_95d88_22 x y)
  · exact (⟨by decide, xr_lstoren dJ13_bitCount_95d88_23 rfl⟩)
  · exact (⟨by decide, xr_lloadn dJ13_bitCount_95d88_24 rfl⟩)
  · exact (⟨by decide, xr_lloadn dJ13_bitCount_95d88_25 rfl⟩)
  · exact (xr_iconst dJ13_bitCount_95d88_26 (by decide +kernel))
  · exact (fun x y => xr_lushr dJ13_bitCount_95d88_27 x y)
  · exact (fun x y => xr_ladd dJ13_bitCount_95d88_28 x y)
  · exact (xr_ldc2 dJ13_bitCount_95d88_29 xw_1195)
  · exact (fun x y => xr_gland dJ13_bitCount_95d88_32 x y)
  · exact (⟨by decide, xr_lstoren dJ13_bitCount_95d88_33 rfl⟩)
  · exact (⟨by decide, xr_lloadn dJ13_bitCount_95d88_34 rfl⟩)
  · exact (⟨by decide, xr_lloadn dJ13_bitCount_95d88_35 rfl⟩)
  · exact (xr_bipush dJ13_bitCount_95d88_36 (by decide +kernel))
  · exact (fun x y => xr_lushr dJ13_bitCount_95d88_38 x y)
  · exact (fun x y => xr_ladd dJ13_bitCount_95d88_39 x y)
  · exact (⟨by decide, xr_lstoren dJ13_bitCount_95d88_40 rfl⟩)
  · exact (⟨by decide, xr_lloadn dJ13_bitCount_95d88_41 rfl⟩)
  · exact (⟨by decide, xr_lloadn dJ13_bitCount_95d88_42 rfl⟩)
  · exact (xr_bipush dJ13_bitCount_95d88_43 (by decide +kernel))
  · exact (fun x y => xr_lushr dJ13_bitCount_95d88_45 x y)
  · exact (fun x y => xr_ladd dJ13_bitCount_95d88_46 x y)
  · exact (⟨by decide, xr_lstoren dJ13_bitCount_95d88_47 rfl⟩)
  · exact (⟨by decide, xr_lloadn dJ13_bitCount_95d88_48 rfl⟩)
  · exact (⟨by decide, xr_lloadn dJ13_bitCount_95d88_49 rfl⟩)
  · exact (xr_bipush dJ13_bitCount_95d88_50 (by decide +kernel))
  · exact (fun x y => xr_lushr dJ13_bitCount_95d88_52 x y)
  · exact (fun x y => xr_ladd dJ13_bitCount_95d88_53 x y)
  · exact (⟨by decide, xr_lstoren dJ13_bitCount_95d88_54 rfl⟩)
  · exact (⟨by decide, xr_lloadn dJ13_bitCount_95d88_55 rfl⟩)
  · exact (fun x => xr_l2i dJ13_bitCount_95d88_56 x)
  · exact (xr_bipush dJ13_bitCount_95d88_57 (by decide +kernel))
  · exact (fun x y h => xr_iand dJ13_bitCount_95d88_59 x y)
  · exact (⟨dJ13_bitCount_95d88_60, .int, rfl, rfl, Or.inl rfl⟩)
theorem xmo_256 : xMok xmt xm_256 := ⟨xw_1196, xw_1197, ⟨by decide, by decide, by decide +kernel⟩, by decide +kernel, rfl, xo_256⟩
set_option maxRecDepth 100000 in
set_option maxHeartbeats 4000000 in
theorem xo_257 : ∀ q ∈ xk_257, xok xmt xm_257 q.1 q.2 := by
  refine xcns ?_ <| xcns ?_ <| xcns ?_ <| xcns ?_ <| xcns ?_ <| xcns ?_ <| xcns ?_ <| xcns ?_ <| xcns ?_ <| xcns ?_ <| xcns ?_ <| xcns ?_ <| xnl
  · exact (⟨by decide, xr_aloadn dJ0_charAt_5068e_0 rfl⟩)
  · exact (⟨rfl, _, rfl, ⟨492, dJ0_charAt_5068e_1, xw_1206, xw_1204, xw_1205⟩, rfl⟩)
  · exact (xr_ifeq dJ0_charAt_5068e_4 (by decide))
  · exact (⟨by decide, xr_aloadn dJ0_charAt_5068e_7 rfl⟩)
  · exact (xr_strf_value dJ0_charAt_5068e_8 xw_1207)
  · exact (⟨by decide, xr_iloadn dJ0_charAt_5068e_11 rfl⟩)
  · exact (⟨rfl, _, rfl, ⟨495, dJ0_charAt_5068e_12, xw_1208, xw_1209⟩⟩)
  · exact (⟨dJ0_charAt_5068e_15, .char, rfl, Or.inl ⟨rfl, rfl⟩⟩)
  · exact (⟨by decide, xr_aloadn dJ0_charAt_5068e_16 rfl⟩)
  · exact (xr_strf_value dJ0_charAt_5068e_17 xw_1207)
  · exact (⟨by decide, xr_iloadn dJ0_charAt_5068e_20 rfl⟩)
  · exact (⟨dJ0_charAt_5068e_24, .char, rfl, Or.inl ⟨rfl, rfl⟩⟩)
theorem xmo_257 : xMok xmt xm_257 := ⟨xw_1210, xw_1211, ⟨by decide, by decide, by decide +kernel⟩, by decide +kernel, rfl, xo_257⟩
set_option maxRecDepth 100000 in
set_option maxHeartbeats 4000000 in
theorem xo_258 : ∀ q ∈ xk_258, xok xmt xm_258 q.1 q.2 := by
  refine xcns ?_ <| xcns ?_ <| xcns ?_ <| xcns ?_ <| xcns ?_ <| xcns ?_ <| xnl
  · exact (⟨by decide, xr_iloadn dJ0_checkIndex_df160_0 rfl⟩)
  · exact (⟨by decide, xr_iloadn dJ0_checkIndex_df160_1 rfl⟩)
  · exact (xr_sioobe dJ0_checkIndex_df160_2 xw_1212)
  · exact (⟨rfl, _, rfl, ⟨1059, dJ0_checkIndex_df160_5, xw_1213, xw_1214⟩⟩)
  · exact (fun v h => xr_pop dJ0_checkIndex_df160_8 v h)
  · exact (⟨dJ0_checkIndex_df160_9, rfl⟩)
theorem xmo_258 : xMok xmt xm_258 := ⟨xw_1215, xw_1211, ⟨by decide, by decide, by decide +kernel⟩, by decide +kernel, rfl, xo_258⟩
set_option maxRecDepth 100000 in
set_option maxHeartbeats 4000000 in
theorem xo_259 : ∀ q ∈ xk_259, xok xmt xm_259 q.1 q.2 := by
  refine xcns ?_ <| xcns ?_ <| xcns ?_ <| xcns ?_ <| xcns ?_ <| xcns ?_ <| xcns ?_ <| xnl
  · exact (xr_compact dJ0_coder_7d493_0 xw_1216)
  · exact (xr_ifeq dJ0_coder_7d493_3 (by decide))
  · exact (⟨by decide, xr_aloadn dJ0_coder_7d493_6 rfl⟩)
  · exact (xr_strf_coder dJ0_coder_7d493_7 xw_1217)
  · exact (xr_goto dJ0_coder_7d493_10 (by decide))
  · exact (xr_iconst dJ0_coder_7d493_13 (by decide +kernel))
  · exact (⟨dJ0_coder_7d493_14, .byte, rfl, Or.inr ⟨rfl, rfl⟩⟩)
theorem xmo_259 : xMok xmt xm_259 := ⟨xw_1218, xw_1211, ⟨by decide, by decide, by decide +kernel⟩, by decide +kernel, rfl, xo_259⟩
set_option maxRecDepth 100000 in
set_option maxHeartbeats 4000000 in
theorem xo_260 : ∀ q ∈ xk_260, xok xmt xm_260 q.1 q.2 := by
  refine xcns ?_ <| xcns ?_ <| xcns ?_ <| xcns ?_ <| xcns ?_ <| xcns ?_ <| xcns ?_ <| xcns ?_ <| xcns ?_ <| xnl
  · exact (xr_compact dJ0_isLatin1_aae02_0 xw_1216)
  · exact (xr_ifeq dJ0_isLatin1_aae02_3 (by decide))
  · exact (⟨by decide, xr_aloadn dJ0_isLatin1_aae02_6 rfl⟩)
  · exact (xr_strf_coder dJ0_isLatin1_aae02_7 xw_1217)
  · exact (xr_ifne dJ0_isLatin1_aae02_10 (by decide))
  · exact (xr_iconst dJ0_isLatin1_aae02_13 (by decide +kernel))
  · exact (xr_goto dJ0_isLatin1_aae02_14 (by decide))
  · exact (xr_iconst dJ0_isLatin1_aae02_17 (by decide +kernel))
  · exact (⟨dJ0_isLatin1_aae02_18, .boolean, rfl, rfl, Or.inr rfl⟩)
theorem xmo_260 : xMok xmt xm_260 := ⟨xw_1219, xw_1211, ⟨by decide, by decide, by decide +kernel⟩, by decide +kernel, rfl, xo_260⟩
set_option maxRecDepth 100000 in
set_option maxHeartbeats 4000000 in
theorem xo_261 : ∀ q ∈ xk_261, xok xmt xm_261 q.1 q.2 := by
  refine xcns ?_ <| xcns ?_ <| xcns ?_ <| xcns ?_ <| xcns ?_ <| xcns ?_ <| xcns ?_ <| xnl
  · exact (⟨by decide, xr_aloadn dJ0_length_8abf5_0 rfl⟩)
  · exact (xr_strf_value dJ0_length_8abf5_1 xw_1207)
  · exact (⟨xr_alen dJ0_length_8abf5_4, xr_strl dJ0_length_8abf5_4⟩)
  · exact (⟨by decide, xr_aloadn dJ0_length_8abf5_5 rfl⟩)
  · exact (⟨rfl, _, rfl, ⟨335, dJ0_length_8abf5_6, xw_1222, xw_1220, xw_1221⟩, rfl⟩)
  · exact (fun x y h => xr_ishr dJ0_length_8abf5_9 x y)
  · exact (⟨dJ0_length_8abf5_10, .int, rfl, rfl, Or.inl rfl⟩)
theorem xmo_261 : xMok xmt xm_261 := ⟨xw_1223, xw_1211, ⟨by decide, by decide, by decide +kernel⟩, by decide +kernel, rfl, xo_261⟩
set_option maxRecDepth 100000 in
set_option maxHeartbeats 4000000 in
theorem xo_262 : ∀ q ∈ xk_262, xok xmt xm_262 q.1 q.2 := by
  refine xcns ?_ <| xcns ?_ <| xcns ?_ <| xcns ?_ <| xcns ?_ <| xcns ?_ <| xcns ?_ <| xcns ?_ <| xcns ?_ <| xcns ?_ <| xcns ?_ <| xnl
  · exact (⟨by decide, xr_iloadn dJ1_charAt_3b067_0 rfl⟩)
  · exact (⟨by decide, xr_aloadn dJ1_charAt_3b067_1 rfl⟩)
  · exact (⟨xr_alen dJ1_charAt_3b067_2, xr_strl dJ1_charAt_3b067_2⟩)
  · exact (⟨rfl, _, rfl, ⟨9, dJ1_charAt_3b067_3, xw_1224, xw_1225⟩⟩)
  · exact (⟨by decide, xr_aloadn dJ1_charAt_3b067_6 rfl⟩)
  · exact (⟨by decide, xr_iloadn dJ1_charAt_3b067_7 rfl⟩)
  · exact (xr_strb dJ1_charAt_3b067_8)
  · exact (xr_sipush dJ1_charAt_3b067_9 (by decide +kernel))
  · exact (fun x y h => xr_iand dJ1_charAt_3b067_12 x y)
  · exact (fun x => xr_i2c dJ1_charAt_3b067_13 x)
  · exact (⟨dJ1_charAt_3b067_14, .char, rfl, Or.inl ⟨rfl, rfl⟩⟩)
theorem xmo_262 : xMok xmt xm_262 := ⟨xw_1226, xw_1227, ⟨by decide, by decide, by decide +kernel⟩, by decide +kernel, rfl, xo_262⟩
set_option maxRecDepth 100000 in
set_option maxHeartbeats 4000000 in
theorem xo_263 : ∀ q ∈ xk_263, xok xmt xm_263 q.1 q.2 := by
  refine xcns ?_ <| xcns ?_ <| xcns ?_ <| xcns ?_ <| xcns ?_ <| xcns ?_ <| xcns ?_ <| xcns ?_ <| xcns ?_ <| xcns ?_ <| xcns ?_ <| xcns ?_ <| xcns ?_ <| xcns ?_ <| xcns ?_ <| xnl
  · exact (xr_iconst dJ7_fill_53178_0 (by decide +kernel))
  · exact (⟨by decide, xr_istoren dJ7_fill_53178_1 rfl⟩)
  · exact (⟨by decide, xr_aloadn dJ7_fill_53178_2 rfl⟩)
  · exact (⟨xr_alen dJ7_fill_53178_3, xr_strl dJ7_fill_53178_3⟩)
  · exact (⟨by decide, xr_istoren dJ7_fill_53178_4 rfl⟩)
  · exact (⟨by decide, xr_iloadn dJ7_fill_53178_5 rfl⟩)
  · exact (⟨by decide, xr_iloadn dJ7_fill_53178_6 rfl⟩)
  · exact (xr_icmpge dJ7_fill_53178_7 (by decide))
  · exact (⟨by decide, xr_aloadn dJ7_fill_53178_10 rfl⟩)
  · exact (⟨by decide, xr_iloadn dJ7_fill_53178_11 rfl⟩)
  · exact (⟨by decide, xr_iloadn dJ7_fill_53178_12 rfl⟩)
  · exact (xr_iast dJ7_fill_53178_13)
  · exact (xr_iinc dJ7_fill_53178_14 (by decide +kernel))
  · exact (xr_goto dJ7_fill_53178_17 (by decide))
  · exact (⟨dJ7_fill_53178_20, rfl⟩)
theorem xmo_263 : xMok xmt xm_263 := ⟨xw_1228, xw_1229, ⟨by decide, by decide, by decide +kernel⟩, by decide +kernel, rfl, xo_263⟩
set_option maxRecDepth 100000 in
set_option maxHeartbeats 4000000 in
theorem xo_264 : ∀ q ∈ xk_264, xok xmt xm_264 q.1 q.2 := by
  refine xcns ?_ <| xcns ?_ <| xcns ?_ <| xcns ?_ <| xcns ?_ <| xcns ?_ <| xcns ?_ <| xcns ?_ <| xcns ?_ <| xcns ?_ <| xnl
  · exact (⟨by decide, xr_iloadn dJ3_checkIndex_8e157_0 rfl⟩)
  · exact (xr_iflt dJ3_checkIndex_8e157_1 (by decide))
  · exact (⟨by decide, xr_iloadn dJ3_checkIndex_8e157_4 rfl⟩)
  · exact (⟨by decide, xr_iloadn dJ3_checkIndex_8e157_5 rfl⟩)
  · exact (xr_icmplt dJ3_checkIndex_8e157_6 (by decide))
  · exact (⟨by decide, xr_aloadn dJ3_checkIndex_8e157_9 rfl⟩)
  · exact (⟨by decide, xr_iloadn dJ3_checkIndex_8e157_10 rfl⟩)
  · exact (⟨by decide, xr_iloadn dJ3_checkIndex_8e157_11 rfl⟩)
  · exact (⟨by decide, xr_iloadn dJ3_checkIndex_8e157_16 rfl⟩)
  · exact (⟨dJ3_checkIndex_8e157_17, .int, rfl, rfl, Or.inl rfl⟩)
theorem xmo_264 : xMok xmt xm_264 := ⟨xw_1230, xw_1231, ⟨by decide, by decide, by decide +kernel⟩, by decide +kernel, rfl, xo_264⟩
set_option maxRecDepth 100000 in
set_option maxHeartbeats 4000000 in
theorem xo_265 : ∀ q ∈ xk_265, xok xmt xm_265 q.1 q.2 := by
  refine xcns ?_ <| xcns ?_ <| xcns ?_ <| xnl
  · exact (⟨by decide, xr_aloadn dX12_thrown_0 rfl⟩)
  · exact (xr_getf dX12_thrown_1 (show vwCl[12]? = some (RX12, TX12, 69) from rfl) (by decide) xin_X12 xw_821)
  · exact (⟨dX12_thrown_4, .int, rfl, rfl, Or.inl rfl⟩)
theorem xmo_265 : xMok xmt xm_265 := ⟨xv_27, xw_819, ⟨by decide, by decide, by decide +kernel⟩, by decide +kernel, rfl, xo_265⟩
set_option maxRecDepth 100000 in
set_option maxHeartbeats 4000000 in
theorem xo_L0 : ∀ q ∈ xk_L0, xok xmt xm_L0 q.1 q.2 := by
  refine xcns ?_ <| xcns ?_ <| xcns ?_ <| xcns ?_ <| xcns ?_ <| xcns ?_ <| xcns ?_ <| xcns ?_ <| xcns ?_ <| xcns ?_ <| xcns ?_ <| xcns ?_ <| xcns ?_ <| xnl
  · exact (xr_new dL_law_0 (show vwCl[11]? = some (RX11, TX11, 15) from rfl) xin_X11 tyX11_ok xw_1232 xw_1233 xw_64 _ (by decide +kernel))
  · exact (fun v h => xr_dup dL_law_3 v h)
  · exact (⟨rfl, _, rfl, ⟨17, dL_law_4, rfl, rfl, xw_1234, Or.inl xw_1235⟩⟩)
  · exact (⟨by decide, xr_astoren dL_law_7 rfl⟩)
  · exact (xr_new dL_law_8 (show vwCl[12]? = some (RX12, TX12, 69) from rfl) xin_X12 tyX12_ok xw_1236 xw_1237 xw_819 _ (by decide +kernel))
  · exact (fun v h => xr_dup dL_law_11 v h)
  · exact (⟨rfl, _, rfl, ⟨20, dL_law_12, rfl, rfl, xw_1238, Or.inl xw_1239⟩⟩)
  · exact (⟨by decide, xr_astoren dL_law_15 rfl⟩)
  · exact (xr_iconst dL_law_16 (by decide +kernel))
  · exact (⟨by decide, xr_newa dL_law_17 rfl xw_478⟩)
  · exact (⟨by decide, xr_astoren dL_law_19 rfl⟩)
  · exact (xr_iconst dL_law_20 (by decide +kernel))
  · exact (⟨by decide, xr_istore dL_law_21⟩)
def xkp_L1_0 : List (Nat × xOp) := [(23, (2, 25, 0, 4, [])), (25, (2, 26, 1, 0, [])), (26, (42, 27, 0, 0, [])), (27, (0, 29, 6, 0, [])), (29, (5, 30, 1, 0, [])), (30, (13, 33, 1456, 4, [])), (33, (2, 34, 1, 0, [])), (34, (2, 36, 0, 4, [])), (36, (43, 37, 0, 0, [])), (37, (0, 39, 63, 0, [])), (39, (5, 40, 3, 0, [])), (40, (15, 0, 1450, 0, [(0, 196), (1, 269), (2, 294), (3, 319), (4, 356), (5, 424), (6, 461), (7, 498), (8, 547), (9, 596), (10, 645), (11, 682), (12, 707), (13, 756), (14, 769), (15, 806), (16, 843), (17, 856), (18, 893), (19, 942), (20, 991), (21, 1016), (22, 1041), (23, 1066), (24, 1091), (25, 1104), (26, 1141), (27, 1154), (28, 1215), (29, 1288), (30, 1325), (31, 1350), (32, 1399), (33, 1412), (34, 1425)])), (196, (2, 197, 1, 1, [])), (197, (2, 198, 1, 0, [])), (198, (2, 200, 0, 4, [])), (200, (0, 201, 1, 0, [])), (201, (5, 202, 0, 0, [])), (202, (43, 203, 0, 0, [])), (203, (2, 204, 1, 0, [])), (204, (2, 206, 0, 4, [])), (206, (0, 207, 2, 0, [])), (207, (5, 208, 0, 0, [])), (208, (43, 209, 0, 0, [])), (209, (2, 210, 1, 0, [])), (210, (2, 212, 0, 4, [])), (212, (0, 213, 3, 0, [])), (213, (5, 214, 0, 0, [])), (214, (43, 215, 0, 0, [])), (215, (2, 216, 1, 0, [])), (216, (2, 218, 0, 4, [])), (218, (0, 219, 4, 0, [])), (219, (5, 220, 0, 0, [])), (220, (43, 221, 0, 0, [])), (221, (2, 222, 1, 0, [])), (222, (2, 224, 0, 4, [])), (224, (0, 225, 5, 0, [])), (225, (5, 226, 0, 0, [])), (226, (43, 227, 0, 0, [])), (227, (28, 230, 14, 11, [])), (230, (10, 231, 0, 0, [])), (231, (2, 232, 1, 2, [])), (232, (2, 233, 1, 0, [])), (233, (2, 235, 0, 4, [])), (235, (0, 236, 1, 0, [])), (236, (5, 237, 0, 0, [])), (237, (43, 238, 0, 0, [])), (238, (2, 239, 1, 0, [])), (239, (2, 241, 0, 4, [])), (241, (0, 242, 2, 0, [])), (242, (5, 243, 0, 0, [])), (243, (43, 244, 0, 0, [])), (244, (2, 245, 1, 0, [])), (245, (2, 247, 0, 4, [])), (247, (0, 248, 3, 0, [])), (248, (5, 249, 0, 0, [])), (249, (43, 250, 0, 0, [])), (250, (2, 251, 1, 0, [])), (251, (2, 253, 0, 4, [])), (253, (0, 254, 4, 0, [])), (254, (5, 255, 0, 0, [])), (255, (43, 256, 0, 0, [])), (256, (2, 257, 1, 0, [])), (257, (2, 259, 0, 4, [])), (259, (0, 260, 5, 0, [])), (260, (5, 261, 0, 0, [])), (261, (43, 262, 0, 0, [])), (262, (28, 265, 167, 12, [])), (265, (10, 266, 0, 0, [])), (266, (14, 1450, 0, 0, [])), (269, (2, 270, 1, 1, [])), (270, (2, 271, 1, 0, [])), (271, (2, 273, 0, 4, [])), (273, (0, 274, 1, 0, [])), (274, (5, 275, 0, 0, [])), (275, (43, 276, 0, 0, [])), (276, (28, 279, 41, 11, [])), (279, (10, 280, 0, 0, [])), (280, (2, 281, 1, 2, [])), (281, (2, 282, 1, 0, [])), (282, (2, 284, 0, 4, [])), (284, (0, 285, 1, 0, [])), (285, (5, 286, 0, 0, [])), (286, (43, 287, 0, 0, [])), (287, (28, 290, 242, 12, [])), (290, (10, 291, 0, 0, [])), (291, (14, 1450, 0, 0, [])), (294, (2, 295, 1, 1, [])), (295, (2, 296, 1, 0, [])), (296, (2, 298, 0, 4, [])), (298, (0, 299, 1, 0, [])), (299, (5, 300, 0, 0, [])), (300, (43, 301, 0, 0, [])), (301, (28, 304, 13, 11, [])), (304, (10, 305, 0, 0, [])), (305, (2, 306, 1, 2, [])), (306, (2, 307, 1, 0, [])), (307, (2, 309, 0, 4, [])), (309, (0, 310, 1, 0, [])), (310, (5, 311, 0, 0, [])), (311, (43, 312, 0, 0, [])), (312, (28, 315, 166, 12, [])), (315, (10, 316, 0, 0, [])), (316, (14, 1450, 0, 0, [])), (319, (2, 320, 1, 1, [])), (320, (2, 321, 1, 0, [])), (321, (2, 323, 0, 4, [])), (323, (0, 324, 1, 0, [])), (324, (5, 325, 0, 0, [])), (325, (43, 326, 0, 0, [])), (326, (2, 327, 1, 0, [])), (327, (2, 329, 0, 4, [])), (329, (0, 330, 2, 0, [])), (330, (5, 331, 0, 0, [])), (331, (43, 332, 0, 0, [])), (332, (28, 335, 22, 11, [])), (335, (10, 336, 0, 0, [])), (336, (2, 337, 1, 2, [])), (337, (2, 338, 1, 0, [])), (338, (2, 340, 0, 4, [])), (340, (0, 341, 1, 0, []))]
set_option maxRecDepth 100000 in
set_option maxHeartbeats 4000000 in
theorem xop_L1_0 : ∀ q ∈ xkp_L1_0, xok xmt xm_L1 q.1 q.2 := by
  refine xcns ?_ <| xcns ?_ <| xcns ?_ <| xcns ?_ <| xcns ?_ <| xcns ?_ <| xcns ?_ <| xcns ?_ <| xcns ?_ <| xcns ?_ <| xcns ?_ <| xcns ?_ <| xcns ?_ <| xcns ?_ <| xcns ?_ <| xcns ?_ <| xcns ?_ <| xcns ?_ <| xcns ?_ <| xcns ?_ <| xcns ?_ <| xcns ?_ <| xcns ?_ <| xcns ?_ <| xcns ?_ <| xcns ?_ <| xcns ?_ <| xcns ?_ <| xcns ?_ <| xcns ?_ <| xcns ?_ <| xcns ?_ <| xcns ?_ <| xcns ?_ <| xcns ?_ <| xcns ?_ <| xcns ?_ <| xcns ?_ <| xcns ?_ <| xcns ?_ <| xcns ?_ <| xcns ?_ <| xcns ?_ <| xcns ?_ <| xcns ?_ <| xcns ?_ <| xcns ?_ <| xcns ?_ <| xcns ?_ <| xcns ?_ <| xcns ?_ <| xcns ?_ <| xcns ?_ <| xcns ?_ <| xcns ?_ <| xcns ?_ <| xcns ?_ <| xcns ?_ <| xcns ?_ <| xcns ?_ <| xcns ?_ <| xcns ?_ <| xcns ?_ <| xcns ?_ <| xcns ?_ <| xcns ?_ <| xcns ?_ <| xcns ?_ <| xcns ?_ <| xcns ?_ <| xcns ?_ <| xcns ?_ <| xcns ?_ <| xcns ?_ <| xcns ?_ <| xcns ?_ <| xcns ?_ <| xcns ?_ <| xcns ?_ <| xcns ?_ <| xcns ?_ <| xcns ?_ <| xcns ?_ <| xcns ?_ <| xcns ?_ <| xcns ?_ <| xcns ?_ <| xcns ?_ <| xcns ?_ <| xcns ?_ <| xcns ?_ <| xcns ?_ <| xcns ?_ <| xcns ?_ <| xcns ?_ <| xcns ?_ <| xcns ?_ <| xcns ?_ <| xcns ?_ <| xcns ?_ <| xcns ?_ <| xcns ?_ <| xcns ?_ <| xcns ?_ <| xcns ?_ <| xcns ?_ <| xcns ?_ <| xcns ?_ <| xcns ?_ <| xcns ?_ <| xcns ?_ <| xcns ?_ <| xcns ?_ <| xcns ?_ <| xcns ?_ <| xcns ?_ <| xcns ?_ <| xcns ?_ <| xcns ?_ <| xcns ?_ <| xnl
  · exact (⟨by decide, xr_iload dL_law_23⟩)
  · exact (⟨by decide, xr_aloadn dL_law_25 rfl⟩)
  · exact (xr_slen dL_law_26)
  · exact (xr_bipush dL_law_27 (by decide +kernel))
  · exact (fun x y h => xr_isub dL_law_29 x y)
  · exact (xr_icmpgt dL_law_30 (by decide))
  · exact (⟨by decide, xr_aloadn dL_law_33 rfl⟩)
  · exact (⟨by decide, xr_iload dL_law_34⟩)
  · exact (xr_sld dL_law_36)
  · exact (xr_bipush dL_law_37 (by decide +kernel))
  · exact (fun x y h => xr_iand dL_law_39 x y)
  · exact (xr_table dL_law_40 (by decide) (by decide) (by decide))
  · exact (⟨by decide, xr_aloadn dL_law_196 rfl⟩)
  · exact (⟨by decide, xr_aloadn dL_law_197 rfl⟩)
  · exact (⟨by decide, xr_iload dL_law_198⟩)
  · exact (xr_iconst dL_law_200 (by decide +kernel))
  · exact (fun x y h => xr_iadd dL_law_201 x y)
  · exact (xr_sld dL_law_202)
  · exact (⟨by decide, xr_aloadn dL_law_203 rfl⟩)
  · exact (⟨by decide, xr_iload dL_law_204⟩)
  · exact (xr_iconst dL_law_206 (by decide +kernel))
  · exact (fun x y h => xr_iadd dL_law_207 x y)
  · exact (xr_sld dL_law_208)
  · exact (⟨by decide, xr_aloadn dL_law_209 rfl⟩)
  · exact (⟨by decide, xr_iload dL_law_210⟩)
  · exact (xr_iconst dL_law_212 (by decide +kernel))
  · exact (fun x y h => xr_iadd dL_law_213 x y)
  · exact (xr_sld dL_law_214)
  · exact (⟨by decide, xr_aloadn dL_law_215 rfl⟩)
  · exact (⟨by decide, xr_iload dL_law_216⟩)
  · exact (xr_iconst dL_law_218 (by decide +kernel))
  · exact (fun x y h => xr_iadd dL_law_219 x y)
  · exact (xr_sld dL_law_220)
  · exact (⟨by decide, xr_aloadn dL_law_221 rfl⟩)
  · exact (⟨by decide, xr_iload dL_law_222⟩)
  · exact (xr_iconst dL_law_224 (by decide +kernel))
  · exact (fun x y h => xr_iadd dL_law_225 x y)
  · exact (xr_sld dL_law_226)
  · exact (⟨rfl, _, rfl, ⟨21, dL_law_227, xw_1242, xw_1240, xw_1241⟩, _, rfl, rfl⟩)
  · exact (fun v h => xr_pop dL_law_230 v h)
  · exact (⟨by decide, xr_aloadn dL_law_231 rfl⟩)
  · exact (⟨by decide, xr_aloadn dL_law_232 rfl⟩)
  · exact (⟨by decide, xr_iload dL_law_233⟩)
  · exact (xr_iconst dL_law_235 (by decide +kernel))
  · exact (fun x y h => xr_iadd dL_law_236 x y)
  · exact (xr_sld dL_law_237)
  · exact (⟨by decide, xr_aloadn dL_law_238 rfl⟩)
  · exact (⟨by decide, xr_iload dL_law_239⟩)
  · exact (xr_iconst dL_law_241 (by decide +kernel))
  · exact (fun x y h => xr_iadd dL_law_242 x y)
  · exact (xr_sld dL_law_243)
  · exact (⟨by decide, xr_aloadn dL_law_244 rfl⟩)
  · exact (⟨by decide, xr_iload dL_law_245⟩)
  · exact (xr_iconst dL_law_247 (by decide +kernel))
  · exact (fun x y h => xr_iadd dL_law_248 x y)
  · exact (xr_sld dL_law_249)
  · exact (⟨by decide, xr_aloadn dL_law_250 rfl⟩)
  · exact (⟨by decide, xr_iload dL_law_251⟩)
  · exact (xr_iconst dL_law_253 (by decide +kernel))
  · exact (fun x y h => xr_iadd dL_law_254 x y)
  · exact (xr_sld dL_law_255)
  · exact (⟨by decide, xr_aloadn dL_law_256 rfl⟩)
  · exact (⟨by decide, xr_iload dL_law_257⟩)
  · exact (xr_iconst dL_law_259 (by decide +kernel))
  · exact (fun x y h => xr_iadd dL_law_260 x y)
  · exact (xr_sld dL_law_261)
  · exact (⟨rfl, _, rfl, ⟨25, dL_law_262, xw_1245, xw_1243, xw_1244⟩, _, rfl, rfl⟩)
  · exact (fun v h => xr_pop dL_law_265 v h)
  · exact (xr_goto dL_law_266 (by decide))
  · exact (⟨by decide, xr_aloadn dL_law_269 rfl⟩)
  · exact (⟨by decide, xr_aloadn dL_law_270 rfl⟩)
  · exact (⟨by decide, xr_iload dL_law_271⟩)
  · exact (xr_iconst dL_law_273 (by decide +kernel))
  · exact (fun x y h => xr_iadd dL_law_274 x y)
  · exact (xr_sld dL_law_275)
  · exact (⟨rfl, _, rfl, ⟨26, dL_law_276, xw_1248, xw_1246, xw_1247⟩, _, rfl, rfl⟩)
  · exact (fun v h => xr_pop dL_law_279 v h)
  · exact (⟨by decide, xr_aloadn dL_law_280 rfl⟩)
  · exact (⟨by decide, xr_aloadn dL_law_281 rfl⟩)
  · exact (⟨by decide, xr_iload dL_law_282⟩)
  · exact (xr_iconst dL_law_284 (by decide +kernel))
  · exact (fun x y h => xr_iadd dL_law_285 x y)
  · exact (xr_sld dL_law_286)
  · exact (⟨rfl, _, rfl, ⟨30, dL_law_287, xw_1251, xw_1249, xw_1250⟩, _, rfl, rfl⟩)
  · exact (fun v h => xr_pop dL_law_290 v h)
  · exact (xr_goto dL_law_291 (by decide))
  · exact (⟨by decide, xr_aloadn dL_law_294 rfl⟩)
  · exact (⟨by decide, xr_aloadn dL_law_295 rfl⟩)
  · exact (⟨by decide, xr_iload dL_law_296⟩)
  · exact (xr_iconst dL_law_298 (by decide +kernel))
  · exact (fun x y h => xr_iadd dL_law_299 x y)
  · exact (xr_sld dL_law_300)
  · exact (⟨rfl, _, rfl, ⟨31, dL_law_301, xw_1254, xw_1252, xw_1253⟩, _, rfl, rfl⟩)
  · exact (fun v h => xr_pop dL_law_304 v h)
  · exact (⟨by decide, xr_aloadn dL_law_305 rfl⟩)
  · exact (⟨by decide, xr_aloadn dL_law_306 rfl⟩)
  · exact (⟨by decide, xr_iload dL_law_307⟩)
  · exact (xr_iconst dL_law_309 (by decide +kernel))
  · exact (fun x y h => xr_iadd dL_law_310 x y)
  · exact (xr_sld dL_law_311)
  · exact (⟨rfl, _, rfl, ⟨34, dL_law_312, xw_1257, xw_1255, xw_1256⟩, _, rfl, rfl⟩)
  · exact (fun v h => xr_pop dL_law_315 v h)
  · exact (xr_goto dL_law_316 (by decide))
  · exact (⟨by decide, xr_aloadn dL_law_319 rfl⟩)
  · exact (⟨by decide, xr_aloadn dL_law_320 rfl⟩)
  · exact (⟨by decide, xr_iload dL_law_321⟩)
  · exact (xr_iconst dL_law_323 (by decide +kernel))
  · exact (fun x y h => xr_iadd dL_law_324 x y)
  · exact (xr_sld dL_law_325)
  · exact (⟨by decide, xr_aloadn dL_law_326 rfl⟩)
  · exact (⟨by decide, xr_iload dL_law_327⟩)
  · exact (xr_iconst dL_law_329 (by decide +kernel))
  · exact (fun x y h => xr_iadd dL_law_330 x y)
  · exact (xr_sld dL_law_331)
  · exact (⟨rfl, _, rfl, ⟨35, dL_law_332, xw_1260, xw_1258, xw_1259⟩, _, rfl, rfl⟩)
  · exact (fun v h => xr_pop dL_law_335 v h)
  · exact (⟨by decide, xr_aloadn dL_law_336 rfl⟩)
  · exact (⟨by decide, xr_aloadn dL_law_337 rfl⟩)
  · exact (⟨by decide, xr_iload dL_law_338⟩)
  · exact (xr_iconst dL_law_340 (by decide +kernel))
def xkp_L1_1 : List (Nat × xOp) := [(341, (5, 342, 0, 0, [])), (342, (43, 343, 0, 0, [])), (343, (2, 344, 1, 0, [])), (344, (2, 346, 0, 4, [])), (346, (0, 347, 2, 0, [])), (347, (5, 348, 0, 0, [])), (348, (43, 349, 0, 0, [])), (349, (28, 352, 210, 12, [])), (352, (10, 353, 0, 0, [])), (353, (14, 1450, 0, 0, [])), (356, (2, 357, 1, 1, [])), (357, (2, 358, 1, 0, [])), (358, (2, 360, 0, 4, [])), (360, (0, 361, 1, 0, [])), (361, (5, 362, 0, 0, [])), (362, (43, 363, 0, 0, [])), (363, (2, 364, 1, 0, [])), (364, (2, 366, 0, 4, [])), (366, (0, 367, 2, 0, [])), (367, (5, 368, 0, 0, [])), (368, (43, 369, 0, 0, [])), (369, (2, 370, 1, 3, [])), (370, (50, 373, 0, 0, [])), (373, (3, 375, 0, 5, [])), (375, (2, 376, 1, 2, [])), (376, (2, 377, 1, 0, [])), (377, (2, 379, 0, 4, [])), (379, (0, 380, 1, 0, [])), (380, (5, 381, 0, 0, [])), (381, (43, 382, 0, 0, [])), (382, (2, 383, 1, 0, [])), (383, (2, 385, 0, 4, [])), (385, (0, 386, 2, 0, [])), (386, (5, 387, 0, 0, [])), (387, (43, 388, 0, 0, [])), (388, (28, 391, 207, 12, [])), (391, (3, 393, 0, 6, [])), (393, (2, 394, 1, 2, [])), (394, (28, 397, 265, 12, [])), (397, (2, 399, 0, 5, [])), (399, (13, 402, 404, 0, [])), (402, (0, 403, 0, 0, [])), (403, (30, 404, 0, 3, [])), (404, (2, 406, 0, 5, [])), (406, (12, 409, 421, 1, [])), (409, (2, 410, 1, 3, [])), (410, (0, 411, 0, 0, [])), (411, (67, 412, 0, 0, [])), (412, (2, 414, 0, 6, [])), (414, (65, 415, 0, 0, [])), (415, (8, 416, 0, 0, [])), (416, (12, 419, 421, 0, [])), (419, (0, 420, 0, 0, [])), (420, (30, 421, 0, 3, [])), (421, (14, 1450, 0, 0, [])), (424, (2, 425, 1, 1, [])), (425, (2, 426, 1, 0, [])), (426, (2, 428, 0, 4, [])), (428, (0, 429, 1, 0, [])), (429, (5, 430, 0, 0, [])), (430, (43, 431, 0, 0, [])), (431, (2, 432, 1, 0, [])), (432, (2, 434, 0, 4, [])), (434, (0, 435, 2, 0, [])), (435, (5, 436, 0, 0, [])), (436, (43, 437, 0, 0, [])), (437, (28, 440, 40, 11, [])), (440, (10, 441, 0, 0, [])), (441, (2, 442, 1, 2, [])), (442, (2, 443, 1, 0, [])), (443, (2, 445, 0, 4, [])), (445, (0, 446, 1, 0, [])), (446, (5, 447, 0, 0, [])), (447, (43, 448, 0, 0, [])), (448, (2, 449, 1, 0, [])), (449, (2, 451, 0, 4, [])), (451, (0, 452, 2, 0, [])), (452, (5, 453, 0, 0, [])), (453, (43, 454, 0, 0, [])), (454, (28, 457, 240, 12, [])), (457, (10, 458, 0, 0, [])), (458, (14, 1450, 0, 0, [])), (461, (2, 462, 1, 1, [])), (462, (2, 463, 1, 0, [])), (463, (2, 465, 0, 4, [])), (465, (0, 466, 1, 0, [])), (466, (5, 467, 0, 0, [])), (467, (43, 468, 0, 0, [])), (468, (2, 469, 1, 0, [])), (469, (2, 471, 0, 4, [])), (471, (0, 472, 2, 0, [])), (472, (5, 473, 0, 0, [])), (473, (43, 474, 0, 0, [])), (474, (28, 477, 44, 11, [])), (477, (10, 478, 0, 0, [])), (478, (2, 479, 1, 2, [])), (479, (2, 480, 1, 0, [])), (480, (2, 482, 0, 4, [])), (482, (0, 483, 1, 0, [])), (483, (5, 484, 0, 0, [])), (484, (43, 485, 0, 0, [])), (485, (2, 486, 1, 0, [])), (486, (2, 488, 0, 4, [])), (488, (0, 489, 2, 0, [])), (489, (5, 490, 0, 0, [])), (490, (43, 491, 0, 0, [])), (491, (28, 494, 247, 12, [])), (494, (10, 495, 0, 0, [])), (495, (14, 1450, 0, 0, [])), (498, (2, 499, 1, 1, [])), (499, (2, 500, 1, 0, [])), (500, (2, 502, 0, 4, [])), (502, (0, 503, 1, 0, [])), (503, (5, 504, 0, 0, [])), (504, (43, 505, 0, 0, [])), (505, (2, 506, 1, 0, [])), (506, (2, 508, 0, 4, [])), (508, (0, 509, 2, 0, [])), (509, (5, 510, 0, 0, [])), (510, (43, 511, 0, 0, []))]
set_option maxRecDepth 100000 in
set_option maxHeartbeats 4000000 in
theorem xop_L1_1 : ∀ q ∈ xkp_L1_1, xok xmt xm_L1 q.1 q.2 := by
  refine xcns ?_ <| xcns ?_ <| xcns ?_ <| xcns ?_ <| xcns ?_ <| xcns ?_ <| xcns ?_ <| xcns ?_ <| xcns ?_ <| xcns ?_ <| xcns ?_ <| xcns ?_ <| xcns ?_ <| xcns ?_ <| xcns ?_ <| xcns ?_ <| xcns ?_ <| xcns ?_ <| xcns ?_ <| xcns ?_ <| xcns ?_ <| xcns ?_ <| xcns ?_ <| xcns ?_ <| xcns ?_ <| xcns ?_ <| xcns ?_ <| xcns ?_ <| xcns ?_ <| xcns ?_ <| xcns ?_ <| xcns ?_ <| xcns ?_ <| xcns ?_ <| xcns ?_ <| xcns ?_ <| xcns ?_ <| xcns ?_ <| xcns ?_ <| xcns ?_ <| xcns ?_ <| xcns ?_ <| xcns ?_ <| xcns ?_ <| xcns ?_ <| xcns ?_ <| xcns ?_ <| xcns ?_ <| xcns ?_ <| xcns ?_ <| xcns ?_ <| xcns ?_ <| xcns ?_ <| xcns ?_ <| xcns ?_ <| xcns ?_ <| xcns ?_ <| xcns ?_ <| xcns ?_ <| xcns ?_ <| xcns ?_ <| xcns ?_ <| xcns ?_ <| xcns ?_ <| xcns ?_ <| xcns ?_ <| xcns ?_ <| xcns ?_ <| xcns ?_ <| xcns ?_ <| xcns ?_ <| xcns ?_ <| xcns ?_ <| xcns ?_ <| xcns ?_ <| xcns ?_ <| xcns ?_ <| xcns ?_ <| xcns ?_ <| xcns ?_ <| xcns ?_ <| xcns ?_ <| xcns ?_ <| xcns ?_ <| xcns ?_ <| xcns ?_ <| xcns ?_ <| xcns ?_ <| xcns ?_ <| xcns ?_ <| xcns ?_ <| xcns ?_ <| xcns ?_ <| xcns ?_ <| xcns ?_ <| xcns ?_ <| xcns ?_ <| xcns ?_ <| xcns ?_ <| xcns ?_ <| xcns ?_ <| xcns ?_ <| xcns ?_ <| xcns ?_ <| xcns ?_ <| xcns ?_ <| xcns ?_ <| xcns ?_ <| xcns ?_ <| xcns ?_ <| xcns ?_ <| xcns ?_ <| xcns ?_ <| xcns ?_ <| xcns ?_ <| xcns ?_ <| xcns ?_ <| xcns ?_ <| xcns ?_ <| xcns ?_ <| xnl
  · exact (fun x y h => xr_iadd dL_law_341 x y)
  · exact (xr_sld dL_law_342)
  · exact (⟨by decide, xr_aloadn dL_law_343 rfl⟩)
  · exact (⟨by decide, xr_iload dL_law_344⟩)
  · exact (xr_iconst dL_law_346 (by decide +kernel))
  · exact (fun x y h => xr_iadd dL_law_347 x y)
  · exact (xr_sld dL_law_348)
  · exact (⟨rfl, _, rfl, ⟨38, dL_law_349, xw_1263, xw_1261, xw_1262⟩, _, rfl, rfl⟩)
  · exact (fun v h => xr_pop dL_law_352 v h)
  · exact (xr_goto dL_law_353 (by decide))
  · exact (⟨by decide, xr_aloadn dL_law_356 rfl⟩)
  · exact (⟨by decide, xr_aloadn dL_law_357 rfl⟩)
  · exact (⟨by decide, xr_iload dL_law_358⟩)
  · exact (xr_iconst dL_law_360 (by decide +kernel))
  · exact (fun x y h => xr_iadd dL_law_361 x y)
  · exact (xr_sld dL_law_362)
  · exact (⟨by decide, xr_aloadn dL_law_363 rfl⟩)
  · exact (⟨by decide, xr_iload dL_law_364⟩)
  · exact (xr_iconst dL_law_366 (by decide +kernel))
  · exact (fun x y h => xr_iadd dL_law_367 x y)
  · exact (xr_sld dL_law_368)
  · exact (⟨by decide, xr_aloadn dL_law_369 rfl⟩)
  · exact (True.intro)
  · exact (⟨by decide, xr_istore dL_law_373⟩)
  · exact (⟨by decide, xr_aloadn dL_law_375 rfl⟩)
  · exact (⟨by decide, xr_aloadn dL_law_376 rfl⟩)
  · exact (⟨by decide, xr_iload dL_law_377⟩)
  · exact (xr_iconst dL_law_379 (by decide +kernel))
  · exact (fun x y h => xr_iadd dL_law_380 x y)
  · exact (xr_sld dL_law_381)
  · exact (⟨by decide, xr_aloadn dL_law_382 rfl⟩)
  · exact (⟨by decide, xr_iload dL_law_383⟩)
  · exact (xr_iconst dL_law_385 (by decide +kernel))
  · exact (fun x y h => xr_iadd dL_law_386 x y)
  · exact (xr_sld dL_law_387)
  · exact (⟨rfl, _, rfl, ⟨44, dL_law_388, xw_1266, xw_1264, xw_1265⟩, _, rfl, rfl⟩)
  · exact (⟨by decide, xr_istore dL_law_391⟩)
  · exact (⟨by decide, xr_aloadn dL_law_393 rfl⟩)
  · exact (⟨rfl, _, rfl, ⟨45, dL_law_394, xv_30, xv_28, xv_29⟩, _, rfl, rfl⟩)
  · exact (⟨by decide, xr_iload dL_law_397⟩)
  · exact (xr_icmpeq dL_law_399 (by decide))
  · exact (xr_iconst dL_law_402 (by decide +kernel))
  · exact (⟨dL_law_403, .boolean, rfl, rfl, Or.inr rfl⟩)
  · exact (⟨by decide, xr_iload dL_law_404⟩)
  · exact (xr_ifne dL_law_406 (by decide))
  · exact (⟨by decide, xr_aloadn dL_law_409 rfl⟩)
  · exact (xr_iconst dL_law_410 (by decide +kernel))
  · exact (xr_lald dL_law_411)
  · exact (⟨by decide, xr_iload dL_law_412⟩)
  · exact (fun x => xr_i2l dL_law_414 x)
  · exact (fun x y => xr_lcmp dL_law_415 x y)
  · exact (xr_ifeq dL_law_416 (by decide))
  · exact (xr_iconst dL_law_419 (by decide +kernel))
  · exact (⟨dL_law_420, .boolean, rfl, rfl, Or.inr rfl⟩)
  · exact (xr_goto dL_law_421 (by decide))
  · exact (⟨by decide, xr_aloadn dL_law_424 rfl⟩)
  · exact (⟨by decide, xr_aloadn dL_law_425 rfl⟩)
  · exact (⟨by decide, xr_iload dL_law_426⟩)
  · exact (xr_iconst dL_law_428 (by decide +kernel))
  · exact (fun x y h => xr_iadd dL_law_429 x y)
  · exact (xr_sld dL_law_430)
  · exact (⟨by decide, xr_aloadn dL_law_431 rfl⟩)
  · exact (⟨by decide, xr_iload dL_law_432⟩)
  · exact (xr_iconst dL_law_434 (by decide +kernel))
  · exact (fun x y h => xr_iadd dL_law_435 x y)
  · exact (xr_sld dL_law_436)
  · exact (⟨rfl, _, rfl, ⟨49, dL_law_437, xw_1269, xw_1267, xw_1268⟩, _, rfl, rfl⟩)
  · exact (fun v h => xr_pop dL_law_440 v h)
  · exact (⟨by decide, xr_aloadn dL_law_441 rfl⟩)
  · exact (⟨by decide, xr_aloadn dL_law_442 rfl⟩)
  · exact (⟨by decide, xr_iload dL_law_443⟩)
  · exact (xr_iconst dL_law_445 (by decide +kernel))
  · exact (fun x y h => xr_iadd dL_law_446 x y)
  · exact (xr_sld dL_law_447)
  · exact (⟨by decide, xr_aloadn dL_law_448 rfl⟩)
  · exact (⟨by decide, xr_iload dL_law_449⟩)
  · exact (xr_iconst dL_law_451 (by decide +kernel))
  · exact (fun x y h => xr_iadd dL_law_452 x y)
  · exact (xr_sld dL_law_453)
  · exact (⟨rfl, _, rfl, ⟨52, dL_law_454, xw_1272, xw_1270, xw_1271⟩, _, rfl, rfl⟩)
  · exact (fun v h => xr_pop dL_law_457 v h)
  · exact (xr_goto dL_law_458 (by decide))
  · exact (⟨by decide, xr_aloadn dL_law_461 rfl⟩)
  · exact (⟨by decide, xr_aloadn dL_law_462 rfl⟩)
  · exact (⟨by decide, xr_iload dL_law_463⟩)
  · exact (xr_iconst dL_law_465 (by decide +kernel))
  · exact (fun x y h => xr_iadd dL_law_466 x y)
  · exact (xr_sld dL_law_467)
  · exact (⟨by decide, xr_aloadn dL_law_468 rfl⟩)
  · exact (⟨by decide, xr_iload dL_law_469⟩)
  · exact (xr_iconst dL_law_471 (by decide +kernel))
  · exact (fun x y h => xr_iadd dL_law_472 x y)
  · exact (xr_sld dL_law_473)
  · exact (⟨rfl, _, rfl, ⟨53, dL_law_474, xw_1275, xw_1273, xw_1274⟩, _, rfl, rfl⟩)
  · exact (fun v h => xr_pop dL_law_477 v h)
  · exact (⟨by decide, xr_aloadn dL_law_478 rfl⟩)
  · exact (⟨by decide, xr_aloadn dL_law_479 rfl⟩)
  · exact (⟨by decide, xr_iload dL_law_480⟩)
  · exact (xr_iconst dL_law_482 (by decide +kernel))
  · exact (fun x y h => xr_iadd dL_law_483 x y)
  · exact (xr_sld dL_law_484)
  · exact (⟨by decide, xr_aloadn dL_law_485 rfl⟩)
  · exact (⟨by decide, xr_iload dL_law_486⟩)
  · exact (xr_iconst dL_law_488 (by decide +kernel))
  · exact (fun x y h => xr_iadd dL_law_489 x y)
  · exact (xr_sld dL_law_490)
  · exact (⟨rfl, _, rfl, ⟨56, dL_law_491, xw_1278, xw_1276, xw_1277⟩, _, rfl, rfl⟩)
  · exact (fun v h => xr_pop dL_law_494 v h)
  · exact (xr_goto dL_law_495 (by decide))
  · exact (⟨by decide, xr_aloadn dL_law_498 rfl⟩)
  · exact (⟨by decide, xr_aloadn dL_law_499 rfl⟩)
  · exact (⟨by decide, xr_iload dL_law_500⟩)
  · exact (xr_iconst dL_law_502 (by decide +kernel))
  · exact (fun x y h => xr_iadd dL_law_503 x y)
  · exact (xr_sld dL_law_504)
  · exact (⟨by decide, xr_aloadn dL_law_505 rfl⟩)
  · exact (⟨by decide, xr_iload dL_law_506⟩)
  · exact (xr_iconst dL_law_508 (by decide +kernel))
  · exact (fun x y h => xr_iadd dL_law_509 x y)
  · exact (xr_sld dL_law_510)
def xkp_L1_2 : List (Nat × xOp) := [(511, (2, 512, 1, 0, [])), (512, (2, 514, 0, 4, [])), (514, (0, 515, 3, 0, [])), (515, (5, 516, 0, 0, [])), (516, (43, 517, 0, 0, [])), (517, (28, 520, 25, 11, [])), (520, (10, 521, 0, 0, [])), (521, (2, 522, 1, 2, [])), (522, (2, 523, 1, 0, [])), (523, (2, 525, 0, 4, [])), (525, (0, 526, 1, 0, [])), (526, (5, 527, 0, 0, [])), (527, (43, 528, 0, 0, [])), (528, (2, 529, 1, 0, [])), (529, (2, 531, 0, 4, [])), (531, (0, 532, 2, 0, [])), (532, (5, 533, 0, 0, [])), (533, (43, 534, 0, 0, [])), (534, (2, 535, 1, 0, [])), (535, (2, 537, 0, 4, [])), (537, (0, 538, 3, 0, [])), (538, (5, 539, 0, 0, [])), (539, (43, 540, 0, 0, [])), (540, (28, 543, 216, 12, [])), (543, (10, 544, 0, 0, [])), (544, (14, 1450, 0, 0, [])), (547, (2, 548, 1, 1, [])), (548, (2, 549, 1, 0, [])), (549, (2, 551, 0, 4, [])), (551, (0, 552, 1, 0, [])), (552, (5, 553, 0, 0, [])), (553, (43, 554, 0, 0, [])), (554, (2, 555, 1, 0, [])), (555, (2, 557, 0, 4, [])), (557, (0, 558, 2, 0, [])), (558, (5, 559, 0, 0, [])), (559, (43, 560, 0, 0, [])), (560, (2, 561, 1, 0, [])), (561, (2, 563, 0, 4, [])), (563, (0, 564, 3, 0, [])), (564, (5, 565, 0, 0, [])), (565, (43, 566, 0, 0, [])), (566, (28, 569, 10, 11, [])), (569, (10, 570, 0, 0, [])), (570, (2, 571, 1, 2, [])), (571, (2, 572, 1, 0, [])), (572, (2, 574, 0, 4, [])), (574, (0, 575, 1, 0, [])), (575, (5, 576, 0, 0, [])), (576, (43, 577, 0, 0, [])), (577, (2, 578, 1, 0, [])), (578, (2, 580, 0, 4, [])), (580, (0, 581, 2, 0, [])), (581, (5, 582, 0, 0, [])), (582, (43, 583, 0, 0, [])), (583, (2, 584, 1, 0, [])), (584, (2, 586, 0, 4, [])), (586, (0, 587, 3, 0, [])), (587, (5, 588, 0, 0, [])), (588, (43, 589, 0, 0, [])), (589, (28, 592, 161, 12, [])), (592, (10, 593, 0, 0, [])), (593, (14, 1450, 0, 0, [])), (596, (2, 597, 1, 1, [])), (597, (2, 598, 1, 0, [])), (598, (2, 600, 0, 4, [])), (600, (0, 601, 1, 0, [])), (601, (5, 602, 0, 0, [])), (602, (43, 603, 0, 0, [])), (603, (2, 604, 1, 0, [])), (604, (2, 606, 0, 4, [])), (606, (0, 607, 2, 0, [])), (607, (5, 608, 0, 0, [])), (608, (43, 609, 0, 0, [])), (609, (2, 610, 1, 0, [])), (610, (2, 612, 0, 4, [])), (612, (0, 613, 3, 0, [])), (613, (5, 614, 0, 0, [])), (614, (43, 615, 0, 0, [])), (615, (28, 618, 36, 11, [])), (618, (10, 619, 0, 0, [])), (619, (2, 620, 1, 2, [])), (620, (2, 621, 1, 0, [])), (621, (2, 623, 0, 4, [])), (623, (0, 624, 1, 0, [])), (624, (5, 625, 0, 0, [])), (625, (43, 626, 0, 0, [])), (626, (2, 627, 1, 0, [])), (627, (2, 629, 0, 4, [])), (629, (0, 630, 2, 0, [])), (630, (5, 631, 0, 0, [])), (631, (43, 632, 0, 0, [])), (632, (2, 633, 1, 0, [])), (633, (2, 635, 0, 4, [])), (635, (0, 636, 3, 0, [])), (636, (5, 637, 0, 0, [])), (637, (43, 638, 0, 0, [])), (638, (28, 641, 232, 12, [])), (641, (10, 642, 0, 0, [])), (642, (14, 1450, 0, 0, [])), (645, (2, 646, 1, 1, [])), (646, (2, 647, 1, 0, [])), (647, (2, 649, 0, 4, [])), (649, (0, 650, 1, 0, [])), (650, (5, 651, 0, 0, [])), (651, (43, 652, 0, 0, [])), (652, (2, 653, 1, 0, [])), (653, (2, 655, 0, 4, [])), (655, (0, 656, 2, 0, [])), (656, (5, 657, 0, 0, [])), (657, (43, 658, 0, 0, [])), (658, (28, 661, 4, 11, [])), (661, (10, 662, 0, 0, [])), (662, (2, 663, 1, 2, [])), (663, (2, 664, 1, 0, [])), (664, (2, 666, 0, 4, [])), (666, (0, 667, 1, 0, [])), (667, (5, 668, 0, 0, [])), (668, (43, 669, 0, 0, [])), (669, (2, 670, 1, 0, []))]
set_option maxRecDepth 100000 in
set_option maxHeartbeats 4000000 in
theorem xop_L1_2 : ∀ q ∈ xkp_L1_2, xok xmt xm_L1 q.1 q.2 := by
  refine xcns ?_ <| xcns ?_ <| xcns ?_ <| xcns ?_ <| xcns ?_ <| xcns ?_ <| xcns ?_ <| xcns ?_ <| xcns ?_ <| xcns ?_ <| xcns ?_ <| xcns ?_ <| xcns ?_ <| xcns ?_ <| xcns ?_ <| xcns ?_ <| xcns ?_ <| xcns ?_ <| xcns ?_ <| xcns ?_ <| xcns ?_ <| xcns ?_ <| xcns ?_ <| xcns ?_ <| xcns ?_ <| xcns ?_ <| xcns ?_ <| xcns ?_ <| xcns ?_ <| xcns ?_ <| xcns ?_ <| xcns ?_ <| xcns ?_ <| xcns ?_ <| xcns ?_ <| xcns ?_ <| xcns ?_ <| xcns ?_ <| xcns ?_ <| xcns ?_ <| xcns ?_ <| xcns ?_ <| xcns ?_ <| xcns ?_ <| xcns ?_ <| xcns ?_ <| xcns ?_ <| xcns ?_ <| xcns ?_ <| xcns ?_ <| xcns ?_ <| xcns ?_ <| xcns ?_ <| xcns ?_ <| xcns ?_ <| xcns ?_ <| xcns ?_ <| xcns ?_ <| xcns ?_ <| xcns ?_ <| xcns ?_ <| xcns ?_ <| xcns ?_ <| xcns ?_ <| xcns ?_ <| xcns ?_ <| xcns ?_ <| xcns ?_ <| xcns ?_ <| xcns ?_ <| xcns ?_ <| xcns ?_ <| xcns ?_ <| xcns ?_ <| xcns ?_ <| xcns ?_ <| xcns ?_ <| xcns ?_ <| xcns ?_ <| xcns ?_ <| xcns ?_ <| xcns ?_ <| xcns ?_ <| xcns ?_ <| xcns ?_ <| xcns ?_ <| xcns ?_ <| xcns ?_ <| xcns ?_ <| xcns ?_ <| xcns ?_ <| xcns ?_ <| xcns ?_ <| xcns ?_ <| xcns ?_ <| xcns ?_ <| xcns ?_ <| xcns ?_ <| xcns ?_ <| xcns ?_ <| xcns ?_ <| xcns ?_ <| xcns ?_ <| xcns ?_ <| xcns ?_ <| xcns ?_ <| xcns ?_ <| xcns ?_ <| xcns ?_ <| xcns ?_ <| xcns ?_ <| xcns ?_ <| xcns ?_ <| xcns ?_ <| xcns ?_ <| xcns ?_ <| xcns ?_ <| xcns ?_ <| xcns ?_ <| xcns ?_ <| xnl
  · exact (⟨by decide, xr_aloadn dL_law_511 rfl⟩)
  · exact (⟨by decide, xr_iload dL_law_512⟩)
  · exact (xr_iconst dL_law_514 (by decide +kernel))
  · exact (fun x y h => xr_iadd dL_law_515 x y)
  · exact (xr_sld dL_law_516)
  · exact (⟨rfl, _, rfl, ⟨57, dL_law_517, xw_1281, xw_1279, xw_1280⟩, _, rfl, rfl⟩)
  · exact (fun v h => xr_pop dL_law_520 v h)
  · exact (⟨by decide, xr_aloadn dL_law_521 rfl⟩)
  · exact (⟨by decide, xr_aloadn dL_law_522 rfl⟩)
  · exact (⟨by decide, xr_iload dL_law_523⟩)
  · exact (xr_iconst dL_law_525 (by decide +kernel))
  · exact (fun x y h => xr_iadd dL_law_526 x y)
  · exact (xr_sld dL_law_527)
  · exact (⟨by decide, xr_aloadn dL_law_528 rfl⟩)
  · exact (⟨by decide, xr_iload dL_law_529⟩)
  · exact (xr_iconst dL_law_531 (by decide +kernel))
  · exact (fun x y h => xr_iadd dL_law_532 x y)
  · exact (xr_sld dL_law_533)
  · exact (⟨by decide, xr_aloadn dL_law_534 rfl⟩)
  · exact (⟨by decide, xr_iload dL_law_535⟩)
  · exact (xr_iconst dL_law_537 (by decide +kernel))
  · exact (fun x y h => xr_iadd dL_law_538 x y)
  · exact (xr_sld dL_law_539)
  · exact (⟨rfl, _, rfl, ⟨61, dL_law_540, xw_1284, xw_1282, xw_1283⟩, _, rfl, rfl⟩)
  · exact (fun v h => xr_pop dL_law_543 v h)
  · exact (xr_goto dL_law_544 (by decide))
  · exact (⟨by decide, xr_aloadn dL_law_547 rfl⟩)
  · exact (⟨by decide, xr_aloadn dL_law_548 rfl⟩)
  · exact (⟨by decide, xr_iload dL_law_549⟩)
  · exact (xr_iconst dL_law_551 (by decide +kernel))
  · exact (fun x y h => xr_iadd dL_law_552 x y)
  · exact (xr_sld dL_law_553)
  · exact (⟨by decide, xr_aloadn dL_law_554 rfl⟩)
  · exact (⟨by decide, xr_iload dL_law_555⟩)
  · exact (xr_iconst dL_law_557 (by decide +kernel))
  · exact (fun x y h => xr_iadd dL_law_558 x y)
  · exact (xr_sld dL_law_559)
  · exact (⟨by decide, xr_aloadn dL_law_560 rfl⟩)
  · exact (⟨by decide, xr_iload dL_law_561⟩)
  · exact (xr_iconst dL_law_563 (by decide +kernel))
  · exact (fun x y h => xr_iadd dL_law_564 x y)
  · exact (xr_sld dL_law_565)
  · exact (⟨rfl, _, rfl, ⟨62, dL_law_566, xw_1287, xw_1285, xw_1286⟩, _, rfl, rfl⟩)
  · exact (fun v h => xr_pop dL_law_569 v h)
  · exact (⟨by decide, xr_aloadn dL_law_570 rfl⟩)
  · exact (⟨by decide, xr_aloadn dL_law_571 rfl⟩)
  · exact (⟨by decide, xr_iload dL_law_572⟩)
  · exact (xr_iconst dL_law_574 (by decide +kernel))
  · exact (fun x y h => xr_iadd dL_law_575 x y)
  · exact (xr_sld dL_law_576)
  · exact (⟨by decide, xr_aloadn dL_law_577 rfl⟩)
  · exact (⟨by decide, xr_iload dL_law_578⟩)
  · exact (xr_iconst dL_law_580 (by decide +kernel))
  · exact (fun x y h => xr_iadd dL_law_581 x y)
  · exact (xr_sld dL_law_582)
  · exact (⟨by decide, xr_aloadn dL_law_583 rfl⟩)
  · exact (⟨by decide, xr_iload dL_law_584⟩)
  · exact (xr_iconst dL_law_586 (by decide +kernel))
  · exact (fun x y h => xr_iadd dL_law_587 x y)
  · exact (xr_sld dL_law_588)
  · exact (⟨rfl, _, rfl, ⟨65, dL_law_589, xw_1290, xw_1288, xw_1289⟩, _, rfl, rfl⟩)
  · exact (fun v h => xr_pop dL_law_592 v h)
  · exact (xr_goto dL_law_593 (by decide))
  · exact (⟨by decide, xr_aloadn dL_law_596 rfl⟩)
  · exact (⟨by decide, xr_aloadn dL_law_597 rfl⟩)
  · exact (⟨by decide, xr_iload dL_law_598⟩)
  · exact (xr_iconst dL_law_600 (by decide +kernel))
  · exact (fun x y h => xr_iadd dL_law_601 x y)
  · exact (xr_sld dL_law_602)
  · exact (⟨by decide, xr_aloadn dL_law_603 rfl⟩)
  · exact (⟨by decide, xr_iload dL_law_604⟩)
  · exact (xr_iconst dL_law_606 (by decide +kernel))
  · exact (fun x y h => xr_iadd dL_law_607 x y)
  · exact (xr_sld dL_law_608)
  · exact (⟨by decide, xr_aloadn dL_law_609 rfl⟩)
  · exact (⟨by decide, xr_iload dL_law_610⟩)
  · exact (xr_iconst dL_law_612 (by decide +kernel))
  · exact (fun x y h => xr_iadd dL_law_613 x y)
  · exact (xr_sld dL_law_614)
  · exact (⟨rfl, _, rfl, ⟨66, dL_law_615, xw_1293, xw_1291, xw_1292⟩, _, rfl, rfl⟩)
  · exact (fun v h => xr_pop dL_law_618 v h)
  · exact (⟨by decide, xr_aloadn dL_law_619 rfl⟩)
  · exact (⟨by decide, xr_aloadn dL_law_620 rfl⟩)
  · exact (⟨by decide, xr_iload dL_law_621⟩)
  · exact (xr_iconst dL_law_623 (by decide +kernel))
  · exact (fun x y h => xr_iadd dL_law_624 x y)
  · exact (xr_sld dL_law_625)
  · exact (⟨by decide, xr_aloadn dL_law_626 rfl⟩)
  · exact (⟨by decide, xr_iload dL_law_627⟩)
  · exact (xr_iconst dL_law_629 (by decide +kernel))
  · exact (fun x y h => xr_iadd dL_law_630 x y)
  · exact (xr_sld dL_law_631)
  · exact (⟨by decide, xr_aloadn dL_law_632 rfl⟩)
  · exact (⟨by decide, xr_iload dL_law_633⟩)
  · exact (xr_iconst dL_law_635 (by decide +kernel))
  · exact (fun x y h => xr_iadd dL_law_636 x y)
  · exact (xr_sld dL_law_637)
  · exact (⟨rfl, _, rfl, ⟨69, dL_law_638, xw_1296, xw_1294, xw_1295⟩, _, rfl, rfl⟩)
  · exact (fun v h => xr_pop dL_law_641 v h)
  · exact (xr_goto dL_law_642 (by decide))
  · exact (⟨by decide, xr_aloadn dL_law_645 rfl⟩)
  · exact (⟨by decide, xr_aloadn dL_law_646 rfl⟩)
  · exact (⟨by decide, xr_iload dL_law_647⟩)
  · exact (xr_iconst dL_law_649 (by decide +kernel))
  · exact (fun x y h => xr_iadd dL_law_650 x y)
  · exact (xr_sld dL_law_651)
  · exact (⟨by decide, xr_aloadn dL_law_652 rfl⟩)
  · exact (⟨by decide, xr_iload dL_law_653⟩)
  · exact (xr_iconst dL_law_655 (by decide +kernel))
  · exact (fun x y h => xr_iadd dL_law_656 x y)
  · exact (xr_sld dL_law_657)
  · exact (⟨rfl, _, rfl, ⟨70, dL_law_658, xw_1299, xw_1297, xw_1298⟩, _, rfl, rfl⟩)
  · exact (fun v h => xr_pop dL_law_661 v h)
  · exact (⟨by decide, xr_aloadn dL_law_662 rfl⟩)
  · exact (⟨by decide, xr_aloadn dL_law_663 rfl⟩)
  · exact (⟨by decide, xr_iload dL_law_664⟩)
  · exact (xr_iconst dL_law_666 (by decide +kernel))
  · exact (fun x y h => xr_iadd dL_law_667 x y)
  · exact (xr_sld dL_law_668)
  · exact (⟨by decide, xr_aloadn dL_law_669 rfl⟩)
def xkp_L1_3 : List (Nat × xOp) := [(670, (2, 672, 0, 4, [])), (672, (0, 673, 2, 0, [])), (673, (5, 674, 0, 0, [])), (674, (43, 675, 0, 0, [])), (675, (28, 678, 149, 12, [])), (678, (10, 679, 0, 0, [])), (679, (14, 1450, 0, 0, [])), (682, (2, 683, 1, 1, [])), (683, (2, 684, 1, 0, [])), (684, (2, 686, 0, 4, [])), (686, (0, 687, 1, 0, [])), (687, (5, 688, 0, 0, [])), (688, (43, 689, 0, 0, [])), (689, (28, 692, 9, 11, [])), (692, (10, 693, 0, 0, [])), (693, (2, 694, 1, 2, [])), (694, (2, 695, 1, 0, [])), (695, (2, 697, 0, 4, [])), (697, (0, 698, 1, 0, [])), (698, (5, 699, 0, 0, [])), (699, (43, 700, 0, 0, [])), (700, (28, 703, 159, 12, [])), (703, (10, 704, 0, 0, [])), (704, (14, 1450, 0, 0, [])), (707, (2, 708, 1, 1, [])), (708, (2, 709, 1, 0, [])), (709, (2, 711, 0, 4, [])), (711, (0, 712, 1, 0, [])), (712, (5, 713, 0, 0, [])), (713, (43, 714, 0, 0, [])), (714, (2, 715, 1, 0, [])), (715, (2, 717, 0, 4, [])), (717, (0, 718, 2, 0, [])), (718, (5, 719, 0, 0, [])), (719, (43, 720, 0, 0, [])), (720, (2, 721, 1, 0, [])), (721, (2, 723, 0, 4, [])), (723, (0, 724, 3, 0, [])), (724, (5, 725, 0, 0, [])), (725, (43, 726, 0, 0, [])), (726, (28, 729, 27, 11, [])), (729, (10, 730, 0, 0, [])), (730, (2, 731, 1, 2, [])), (731, (2, 732, 1, 0, [])), (732, (2, 734, 0, 4, [])), (734, (0, 735, 1, 0, [])), (735, (5, 736, 0, 0, [])), (736, (43, 737, 0, 0, [])), (737, (2, 738, 1, 0, [])), (738, (2, 740, 0, 4, [])), (740, (0, 741, 2, 0, [])), (741, (5, 742, 0, 0, [])), (742, (43, 743, 0, 0, [])), (743, (2, 744, 1, 0, [])), (744, (2, 746, 0, 4, [])), (746, (0, 747, 3, 0, [])), (747, (5, 748, 0, 0, [])), (748, (43, 749, 0, 0, [])), (749, (28, 752, 222, 12, [])), (752, (10, 753, 0, 0, [])), (753, (14, 1450, 0, 0, [])), (756, (2, 757, 1, 1, [])), (757, (28, 760, 43, 11, [])), (760, (10, 761, 0, 0, [])), (761, (2, 762, 1, 2, [])), (762, (28, 765, 246, 12, [])), (765, (10, 766, 0, 0, [])), (766, (14, 1450, 0, 0, [])), (769, (2, 770, 1, 1, [])), (770, (2, 771, 1, 0, [])), (771, (2, 773, 0, 4, [])), (773, (0, 774, 1, 0, [])), (774, (5, 775, 0, 0, [])), (775, (43, 776, 0, 0, [])), (776, (2, 777, 1, 0, [])), (777, (2, 779, 0, 4, [])), (779, (0, 780, 2, 0, [])), (780, (5, 781, 0, 0, [])), (781, (43, 782, 0, 0, [])), (782, (28, 785, 32, 11, [])), (785, (10, 786, 0, 0, [])), (786, (2, 787, 1, 2, [])), (787, (2, 788, 1, 0, [])), (788, (2, 790, 0, 4, [])), (790, (0, 791, 1, 0, [])), (791, (5, 792, 0, 0, [])), (792, (43, 793, 0, 0, [])), (793, (2, 794, 1, 0, [])), (794, (2, 796, 0, 4, [])), (796, (0, 797, 2, 0, [])), (797, (5, 798, 0, 0, [])), (798, (43, 799, 0, 0, [])), (799, (28, 802, 229, 12, [])), (802, (10, 803, 0, 0, [])), (803, (14, 1450, 0, 0, [])), (806, (2, 807, 1, 1, [])), (807, (2, 808, 1, 0, [])), (808, (2, 810, 0, 4, [])), (810, (0, 811, 1, 0, [])), (811, (5, 812, 0, 0, [])), (812, (43, 813, 0, 0, [])), (813, (2, 814, 1, 0, [])), (814, (2, 816, 0, 4, [])), (816, (0, 817, 2, 0, [])), (817, (5, 818, 0, 0, [])), (818, (43, 819, 0, 0, [])), (819, (28, 822, 2, 11, [])), (822, (10, 823, 0, 0, [])), (823, (2, 824, 1, 2, [])), (824, (2, 825, 1, 0, [])), (825, (2, 827, 0, 4, [])), (827, (0, 828, 1, 0, [])), (828, (5, 829, 0, 0, [])), (829, (43, 830, 0, 0, [])), (830, (2, 831, 1, 0, [])), (831, (2, 833, 0, 4, [])), (833, (0, 834, 2, 0, [])), (834, (5, 835, 0, 0, [])), (835, (43, 836, 0, 0, [])), (836, (28, 839, 145, 12, []))]
set_option maxRecDepth 100000 in
set_option maxHeartbeats 4000000 in
theorem xop_L1_3 : ∀ q ∈ xkp_L1_3, xok xmt xm_L1 q.1 q.2 := by
  refine xcns ?_ <| xcns ?_ <| xcns ?_ <| xcns ?_ <| xcns ?_ <| xcns ?_ <| xcns ?_ <| xcns ?_ <| xcns ?_ <| xcns ?_ <| xcns ?_ <| xcns ?_ <| xcns ?_ <| xcns ?_ <| xcns ?_ <| xcns ?_ <| xcns ?_ <| xcns ?_ <| xcns ?_ <| xcns ?_ <| xcns ?_ <| xcns ?_ <| xcns ?_ <| xcns ?_ <| xcns ?_ <| xcns ?_ <| xcns ?_ <| xcns ?_ <| xcns ?_ <| xcns ?_ <| xcns ?_ <| xcns ?_ <| xcns ?_ <| xcns ?_ <| xcns ?_ <| xcns ?_ <| xcns ?_ <| xcns ?_ <| xcns ?_ <| xcns ?_ <| xcns ?_ <| xcns ?_ <| xcns ?_ <| xcns ?_ <| xcns ?_ <| xcns ?_ <| xcns ?_ <| xcns ?_ <| xcns ?_ <| xcns ?_ <| xcns ?_ <| xcns ?_ <| xcns ?_ <| xcns ?_ <| xcns ?_ <| xcns ?_ <| xcns ?_ <| xcns ?_ <| xcns ?_ <| xcns ?_ <| xcns ?_ <| xcns ?_ <| xcns ?_ <| xcns ?_ <| xcns ?_ <| xcns ?_ <| xcns ?_ <| xcns ?_ <| xcns ?_ <| xcns ?_ <| xcns ?_ <| xcns ?_ <| xcns ?_ <| xcns ?_ <| xcns ?_ <| xcns ?_ <| xcns ?_ <| xcns ?_ <| xcns ?_ <| xcns ?_ <| xcns ?_ <| xcns ?_ <| xcns ?_ <| xcns ?_ <| xcns ?_ <| xcns ?_ <| xcns ?_ <| xcns ?_ <| xcns ?_ <| xcns ?_ <| xcns ?_ <| xcns ?_ <| xcns ?_ <| xcns ?_ <| xcns ?_ <| xcns ?_ <| xcns ?_ <| xcns ?_ <| xcns ?_ <| xcns ?_ <| xcns ?_ <| xcns ?_ <| xcns ?_ <| xcns ?_ <| xcns ?_ <| xcns ?_ <| xcns ?_ <| xcns ?_ <| xcns ?_ <| xcns ?_ <| xcns ?_ <| xcns ?_ <| xcns ?_ <| xcns ?_ <| xcns ?_ <| xcns ?_ <| xcns ?_ <| xcns ?_ <| xcns ?_ <| xcns ?_ <| xnl
  · exact (⟨by decide, xr_iload dL_law_670⟩)
  · exact (xr_iconst dL_law_672 (by decide +kernel))
  · exact (fun x y h => xr_iadd dL_law_673 x y)
  · exact (xr_sld dL_law_674)
  · exact (⟨rfl, _, rfl, ⟨73, dL_law_675, xw_1302, xw_1300, xw_1301⟩, _, rfl, rfl⟩)
  · exact (fun v h => xr_pop dL_law_678 v h)
  · exact (xr_goto dL_law_679 (by decide))
  · exact (⟨by decide, xr_aloadn dL_law_682 rfl⟩)
  · exact (⟨by decide, xr_aloadn dL_law_683 rfl⟩)
  · exact (⟨by decide, xr_iload dL_law_684⟩)
  · exact (xr_iconst dL_law_686 (by decide +kernel))
  · exact (fun x y h => xr_iadd dL_law_687 x y)
  · exact (xr_sld dL_law_688)
  · exact (⟨rfl, _, rfl, ⟨74, dL_law_689, xw_1305, xw_1303, xw_1304⟩, _, rfl, rfl⟩)
  · exact (fun v h => xr_pop dL_law_692 v h)
  · exact (⟨by decide, xr_aloadn dL_law_693 rfl⟩)
  · exact (⟨by decide, xr_aloadn dL_law_694 rfl⟩)
  · exact (⟨by decide, xr_iload dL_law_695⟩)
  · exact (xr_iconst dL_law_697 (by decide +kernel))
  · exact (fun x y h => xr_iadd dL_law_698 x y)
  · exact (xr_sld dL_law_699)
  · exact (⟨rfl, _, rfl, ⟨77, dL_law_700, xw_1308, xw_1306, xw_1307⟩, _, rfl, rfl⟩)
  · exact (fun v h => xr_pop dL_law_703 v h)
  · exact (xr_goto dL_law_704 (by decide))
  · exact (⟨by decide, xr_aloadn dL_law_707 rfl⟩)
  · exact (⟨by decide, xr_aloadn dL_law_708 rfl⟩)
  · exact (⟨by decide, xr_iload dL_law_709⟩)
  · exact (xr_iconst dL_law_711 (by decide +kernel))
  · exact (fun x y h => xr_iadd dL_law_712 x y)
  · exact (xr_sld dL_law_713)
  · exact (⟨by decide, xr_aloadn dL_law_714 rfl⟩)
  · exact (⟨by decide, xr_iload dL_law_715⟩)
  · exact (xr_iconst dL_law_717 (by decide +kernel))
  · exact (fun x y h => xr_iadd dL_law_718 x y)
  · exact (xr_sld dL_law_719)
  · exact (⟨by decide, xr_aloadn dL_law_720 rfl⟩)
  · exact (⟨by decide, xr_iload dL_law_721⟩)
  · exact (xr_iconst dL_law_723 (by decide +kernel))
  · exact (fun x y h => xr_iadd dL_law_724 x y)
  · exact (xr_sld dL_law_725)
  · exact (⟨rfl, _, rfl, ⟨78, dL_law_726, xw_1311, xw_1309, xw_1310⟩, _, rfl, rfl⟩)
  · exact (fun v h => xr_pop dL_law_729 v h)
  · exact (⟨by decide, xr_aloadn dL_law_730 rfl⟩)
  · exact (⟨by decide, xr_aloadn dL_law_731 rfl⟩)
  · exact (⟨by decide, xr_iload dL_law_732⟩)
  · exact (xr_iconst dL_law_734 (by decide +kernel))
  · exact (fun x y h => xr_iadd dL_law_735 x y)
  · exact (xr_sld dL_law_736)
  · exact (⟨by decide, xr_aloadn dL_law_737 rfl⟩)
  · exact (⟨by decide, xr_iload dL_law_738⟩)
  · exact (xr_iconst dL_law_740 (by decide +kernel))
  · exact (fun x y h => xr_iadd dL_law_741 x y)
  · exact (xr_sld dL_law_742)
  · exact (⟨by decide, xr_aloadn dL_law_743 rfl⟩)
  · exact (⟨by decide, xr_iload dL_law_744⟩)
  · exact (xr_iconst dL_law_746 (by decide +kernel))
  · exact (fun x y h => xr_iadd dL_law_747 x y)
  · exact (xr_sld dL_law_748)
  · exact (⟨rfl, _, rfl, ⟨81, dL_law_749, xw_1314, xw_1312, xw_1313⟩, _, rfl, rfl⟩)
  · exact (fun v h => xr_pop dL_law_752 v h)
  · exact (xr_goto dL_law_753 (by decide))
  · exact (⟨by decide, xr_aloadn dL_law_756 rfl⟩)
  · exact (⟨rfl, _, rfl, ⟨82, dL_law_757, xw_1317, xw_1315, xw_1316⟩, _, rfl, rfl⟩)
  · exact (fun v h => xr_pop dL_law_760 v h)
  · exact (⟨by decide, xr_aloadn dL_law_761 rfl⟩)
  · exact (⟨rfl, _, rfl, ⟨85, dL_law_762, xw_1320, xw_1318, xw_1319⟩, _, rfl, rfl⟩)
  · exact (fun v h => xr_pop dL_law_765 v h)
  · exact (xr_goto dL_law_766 (by decide))
  · exact (⟨by decide, xr_aloadn dL_law_769 rfl⟩)
  · exact (⟨by decide, xr_aloadn dL_law_770 rfl⟩)
  · exact (⟨by decide, xr_iload dL_law_771⟩)
  · exact (xr_iconst dL_law_773 (by decide +kernel))
  · exact (fun x y h => xr_iadd dL_law_774 x y)
  · exact (xr_sld dL_law_775)
  · exact (⟨by decide, xr_aloadn dL_law_776 rfl⟩)
  · exact (⟨by decide, xr_iload dL_law_777⟩)
  · exact (xr_iconst dL_law_779 (by decide +kernel))
  · exact (fun x y h => xr_iadd dL_law_780 x y)
  · exact (xr_sld dL_law_781)
  · exact (⟨rfl, _, rfl, ⟨86, dL_law_782, xw_1323, xw_1321, xw_1322⟩, _, rfl, rfl⟩)
  · exact (fun v h => xr_pop dL_law_785 v h)
  · exact (⟨by decide, xr_aloadn dL_law_786 rfl⟩)
  · exact (⟨by decide, xr_aloadn dL_law_787 rfl⟩)
  · exact (⟨by decide, xr_iload dL_law_788⟩)
  · exact (xr_iconst dL_law_790 (by decide +kernel))
  · exact (fun x y h => xr_iadd dL_law_791 x y)
  · exact (xr_sld dL_law_792)
  · exact (⟨by decide, xr_aloadn dL_law_793 rfl⟩)
  · exact (⟨by decide, xr_iload dL_law_794⟩)
  · exact (xr_iconst dL_law_796 (by decide +kernel))
  · exact (fun x y h => xr_iadd dL_law_797 x y)
  · exact (xr_sld dL_law_798)
  · exact (⟨rfl, _, rfl, ⟨89, dL_law_799, xw_1326, xw_1324, xw_1325⟩, _, rfl, rfl⟩)
  · exact (fun v h => xr_pop dL_law_802 v h)
  · exact (xr_goto dL_law_803 (by decide))
  · exact (⟨by decide, xr_aloadn dL_law_806 rfl⟩)
  · exact (⟨by decide, xr_aloadn dL_law_807 rfl⟩)
  · exact (⟨by decide, xr_iload dL_law_808⟩)
  · exact (xr_iconst dL_law_810 (by decide +kernel))
  · exact (fun x y h => xr_iadd dL_law_811 x y)
  · exact (xr_sld dL_law_812)
  · exact (⟨by decide, xr_aloadn dL_law_813 rfl⟩)
  · exact (⟨by decide, xr_iload dL_law_814⟩)
  · exact (xr_iconst dL_law_816 (by decide +kernel))
  · exact (fun x y h => xr_iadd dL_law_817 x y)
  · exact (xr_sld dL_law_818)
  · exact (⟨rfl, _, rfl, ⟨90, dL_law_819, xw_1329, xw_1327, xw_1328⟩, _, rfl, rfl⟩)
  · exact (fun v h => xr_pop dL_law_822 v h)
  · exact (⟨by decide, xr_aloadn dL_law_823 rfl⟩)
  · exact (⟨by decide, xr_aloadn dL_law_824 rfl⟩)
  · exact (⟨by decide, xr_iload dL_law_825⟩)
  · exact (xr_iconst dL_law_827 (by decide +kernel))
  · exact (fun x y h => xr_iadd dL_law_828 x y)
  · exact (xr_sld dL_law_829)
  · exact (⟨by decide, xr_aloadn dL_law_830 rfl⟩)
  · exact (⟨by decide, xr_iload dL_law_831⟩)
  · exact (xr_iconst dL_law_833 (by decide +kernel))
  · exact (fun x y h => xr_iadd dL_law_834 x y)
  · exact (xr_sld dL_law_835)
  · exact (⟨rfl, _, rfl, ⟨93, dL_law_836, xw_1332, xw_1330, xw_1331⟩, _, rfl, rfl⟩)
def xkp_L1_4 : List (Nat × xOp) := [(839, (10, 840, 0, 0, [])), (840, (14, 1450, 0, 0, [])), (843, (2, 844, 1, 1, [])), (844, (28, 847, 38, 11, [])), (847, (10, 848, 0, 0, [])), (848, (2, 849, 1, 2, [])), (849, (28, 852, 239, 12, [])), (852, (10, 853, 0, 0, [])), (853, (14, 1450, 0, 0, [])), (856, (2, 857, 1, 1, [])), (857, (2, 858, 1, 0, [])), (858, (2, 860, 0, 4, [])), (860, (0, 861, 1, 0, [])), (861, (5, 862, 0, 0, [])), (862, (43, 863, 0, 0, [])), (863, (2, 864, 1, 0, [])), (864, (2, 866, 0, 4, [])), (866, (0, 867, 2, 0, [])), (867, (5, 868, 0, 0, [])), (868, (43, 869, 0, 0, [])), (869, (28, 872, 3, 11, [])), (872, (10, 873, 0, 0, [])), (873, (2, 874, 1, 2, [])), (874, (2, 875, 1, 0, [])), (875, (2, 877, 0, 4, [])), (877, (0, 878, 1, 0, [])), (878, (5, 879, 0, 0, [])), (879, (43, 880, 0, 0, [])), (880, (2, 881, 1, 0, [])), (881, (2, 883, 0, 4, [])), (883, (0, 884, 2, 0, [])), (884, (5, 885, 0, 0, [])), (885, (43, 886, 0, 0, [])), (886, (28, 889, 147, 12, [])), (889, (10, 890, 0, 0, [])), (890, (14, 1450, 0, 0, [])), (893, (2, 894, 1, 1, [])), (894, (2, 895, 1, 0, [])), (895, (2, 897, 0, 4, [])), (897, (0, 898, 1, 0, [])), (898, (5, 899, 0, 0, [])), (899, (43, 900, 0, 0, [])), (900, (2, 901, 1, 0, [])), (901, (2, 903, 0, 4, [])), (903, (0, 904, 2, 0, [])), (904, (5, 905, 0, 0, [])), (905, (43, 906, 0, 0, [])), (906, (2, 907, 1, 0, [])), (907, (2, 909, 0, 4, [])), (909, (0, 910, 3, 0, [])), (910, (5, 911, 0, 0, [])), (911, (43, 912, 0, 0, [])), (912, (28, 915, 5, 11, [])), (915, (10, 916, 0, 0, [])), (916, (2, 917, 1, 2, [])), (917, (2, 918, 1, 0, [])), (918, (2, 920, 0, 4, [])), (920, (0, 921, 1, 0, [])), (921, (5, 922, 0, 0, [])), (922, (43, 923, 0, 0, [])), (923, (2, 924, 1, 0, [])), (924, (2, 926, 0, 4, [])), (926, (0, 927, 2, 0, [])), (927, (5, 928, 0, 0, [])), (928, (43, 929, 0, 0, [])), (929, (2, 930, 1, 0, [])), (930, (2, 932, 0, 4, [])), (932, (0, 933, 3, 0, [])), (933, (5, 934, 0, 0, [])), (934, (43, 935, 0, 0, [])), (935, (28, 938, 152, 12, [])), (938, (10, 939, 0, 0, [])), (939, (14, 1450, 0, 0, [])), (942, (2, 943, 1, 1, [])), (943, (2, 944, 1, 0, [])), (944, (2, 946, 0, 4, [])), (946, (0, 947, 1, 0, [])), (947, (5, 948, 0, 0, [])), (948, (43, 949, 0, 0, [])), (949, (2, 950, 1, 0, [])), (950, (2, 952, 0, 4, [])), (952, (0, 953, 2, 0, [])), (953, (5, 954, 0, 0, [])), (954, (43, 955, 0, 0, [])), (955, (2, 956, 1, 0, [])), (956, (2, 958, 0, 4, [])), (958, (0, 959, 3, 0, [])), (959, (5, 960, 0, 0, [])), (960, (43, 961, 0, 0, [])), (961, (28, 964, 35, 11, [])), (964, (10, 965, 0, 0, [])), (965, (2, 966, 1, 2, [])), (966, (2, 967, 1, 0, [])), (967, (2, 969, 0, 4, [])), (969, (0, 970, 1, 0, [])), (970, (5, 971, 0, 0, [])), (971, (43, 972, 0, 0, [])), (972, (2, 973, 1, 0, [])), (973, (2, 975, 0, 4, [])), (975, (0, 976, 2, 0, [])), (976, (5, 977, 0, 0, [])), (977, (43, 978, 0, 0, [])), (978, (2, 979, 1, 0, [])), (979, (2, 981, 0, 4, [])), (981, (0, 982, 3, 0, [])), (982, (5, 983, 0, 0, [])), (983, (43, 984, 0, 0, [])), (984, (28, 987, 231, 12, [])), (987, (10, 988, 0, 0, [])), (988, (14, 1450, 0, 0, [])), (991, (2, 992, 1, 1, [])), (992, (2, 993, 1, 0, [])), (993, (2, 995, 0, 4, [])), (995, (0, 996, 1, 0, [])), (996, (5, 997, 0, 0, [])), (997, (43, 998, 0, 0, [])), (998, (28, 1001, 11, 11, [])), (1001, (10, 1002, 0, 0, [])), (1002, (2, 1003, 1, 2, [])), (1003, (2, 1004, 1, 0, []))]
set_option maxRecDepth 100000 in
set_option maxHeartbeats 4000000 in
theorem xop_L1_4 : ∀ q ∈ xkp_L1_4, xok xmt xm_L1 q.1 q.2 := by
  refine xcns ?_ <| xcns ?_ <| xcns ?_ <| xcns ?_ <| xcns ?_ <| xcns ?_ <| xcns ?_ <| xcns ?_ <| xcns ?_ <| xcns ?_ <| xcns ?_ <| xcns ?_ <| xcns ?_ <| xcns ?_ <| xcns ?_ <| xcns ?_ <| xcns ?_ <| xcns ?_ <| xcns ?_ <| xcns ?_ <| xcns ?_ <| xcns ?_ <| xcns ?_ <| xcns ?_ <| xcns ?_ <| xcns ?_ <| xcns ?_ <| xcns ?_ <| xcns ?_ <| xcns ?_ <| xcns ?_ <| xcns ?_ <| xcns ?_ <| xcns ?_ <| xcns ?_ <| xcns ?_ <| xcns ?_ <| xcns ?_ <| xcns ?_ <| xcns ?_ <| xcns ?_ <| xcns ?_ <| xcns ?_ <| xcns ?_ <| xcns ?_ <| xcns ?_ <| xcns ?_ <| xcns ?_ <| xcns ?_ <| xcns ?_ <| xcns ?_ <| xcns ?_ <| xcns ?_ <| xcns ?_ <| xcns ?_ <| xcns ?_ <| xcns ?_ <| xcns ?_ <| xcns ?_ <| xcns ?_ <| xcns ?_ <| xcns ?_ <| xcns ?_ <| xcns ?_ <| xcns ?_ <| xcns ?_ <| xcns ?_ <| xcns ?_ <| xcns ?_ <| xcns ?_ <| xcns ?_ <| xcns ?_ <| xcns ?_ <| xcns ?_ <| xcns ?_ <| xcns ?_ <| xcns ?_ <| xcns ?_ <| xcns ?_ <| xcns ?_ <| xcns ?_ <| xcns ?_ <| xcns ?_ <| xcns ?_ <| xcns ?_ <| xcns ?_ <| xcns ?_ <| xcns ?_ <| xcns ?_ <| xcns ?_ <| xcns ?_ <| xcns ?_ <| xcns ?_ <| xcns ?_ <| xcns ?_ <| xcns ?_ <| xcns ?_ <| xcns ?_ <| xcns ?_ <| xcns ?_ <| xcns ?_ <| xcns ?_ <| xcns ?_ <| xcns ?_ <| xcns ?_ <| xcns ?_ <| xcns ?_ <| xcns ?_ <| xcns ?_ <| xcns ?_ <| xcns ?_ <| xcns ?_ <| xcns ?_ <| xcns ?_ <| xcns ?_ <| xcns ?_ <| xcns ?_ <| xcns ?_ <| xcns ?_ <| xcns ?_ <| xnl
  · exact (fun v h => xr_pop dL_law_839 v h)
  · exact (xr_goto dL_law_840 (by decide))
  · exact (⟨by decide, xr_aloadn dL_law_843 rfl⟩)
  · exact (⟨rfl, _, rfl, ⟨94, dL_law_844, xw_1335, xw_1333, xw_1334⟩, _, rfl, rfl⟩)
  · exact (fun v h => xr_pop dL_law_847 v h)
  · exact (⟨by decide, xr_aloadn dL_law_848 rfl⟩)
  · exact (⟨rfl, _, rfl, ⟨97, dL_law_849, xw_1338, xw_1336, xw_1337⟩, _, rfl, rfl⟩)
  · exact (fun v h => xr_pop dL_law_852 v h)
  · exact (xr_goto dL_law_853 (by decide))
  · exact (⟨by decide, xr_aloadn dL_law_856 rfl⟩)
  · exact (⟨by decide, xr_aloadn dL_law_857 rfl⟩)
  · exact (⟨by decide, xr_iload dL_law_858⟩)
  · exact (xr_iconst dL_law_860 (by decide +kernel))
  · exact (fun x y h => xr_iadd dL_law_861 x y)
  · exact (xr_sld dL_law_862)
  · exact (⟨by decide, xr_aloadn dL_law_863 rfl⟩)
  · exact (⟨by decide, xr_iload dL_law_864⟩)
  · exact (xr_iconst dL_law_866 (by decide +kernel))
  · exact (fun x y h => xr_iadd dL_law_867 x y)
  · exact (xr_sld dL_law_868)
  · exact (⟨rfl, _, rfl, ⟨98, dL_law_869, xw_1341, xw_1339, xw_1340⟩, _, rfl, rfl⟩)
  · exact (fun v h => xr_pop dL_law_872 v h)
  · exact (⟨by decide, xr_aloadn dL_law_873 rfl⟩)
  · exact (⟨by decide, xr_aloadn dL_law_874 rfl⟩)
  · exact (⟨by decide, xr_iload dL_law_875⟩)
  · exact (xr_iconst dL_law_877 (by decide +kernel))
  · exact (fun x y h => xr_iadd dL_law_878 x y)
  · exact (xr_sld dL_law_879)
  · exact (⟨by decide, xr_aloadn dL_law_880 rfl⟩)
  · exact (⟨by decide, xr_iload dL_law_881⟩)
  · exact (xr_iconst dL_law_883 (by decide +kernel))
  · exact (fun x y h => xr_iadd dL_law_884 x y)
  · exact (xr_sld dL_law_885)
  · exact (⟨rfl, _, rfl, ⟨101, dL_law_886, xw_1344, xw_1342, xw_1343⟩, _, rfl, rfl⟩)
  · exact (fun v h => xr_pop dL_law_889 v h)
  · exact (xr_goto dL_law_890 (by decide))
  · exact (⟨by decide, xr_aloadn dL_law_893 rfl⟩)
  · exact (⟨by decide, xr_aloadn dL_law_894 rfl⟩)
  · exact (⟨by decide, xr_iload dL_law_895⟩)
  · exact (xr_iconst dL_law_897 (by decide +kernel))
  · exact (fun x y h => xr_iadd dL_law_898 x y)
  · exact (xr_sld dL_law_899)
  · exact (⟨by decide, xr_aloadn dL_law_900 rfl⟩)
  · exact (⟨by decide, xr_iload dL_law_901⟩)
  · exact (xr_iconst dL_law_903 (by decide +kernel))
  · exact (fun x y h => xr_iadd dL_law_904 x y)
  · exact (xr_sld dL_law_905)
  · exact (⟨by decide, xr_aloadn dL_law_906 rfl⟩)
  · exact (⟨by decide, xr_iload dL_law_907⟩)
  · exact (xr_iconst dL_law_909 (by decide +kernel))
  · exact (fun x y h => xr_iadd dL_law_910 x y)
  · exact (xr_sld dL_law_911)
  · exact (⟨rfl, _, rfl, ⟨102, dL_law_912, xw_1347, xw_1345, xw_1346⟩, _, rfl, rfl⟩)
  · exact (fun v h => xr_pop dL_law_915 v h)
  · exact (⟨by decide, xr_aloadn dL_law_916 rfl⟩)
  · exact (⟨by decide, xr_aloadn dL_law_917 rfl⟩)
  · exact (⟨by decide, xr_iload dL_law_918⟩)
  · exact (xr_iconst dL_law_920 (by decide +kernel))
  · exact (fun x y h => xr_iadd dL_law_921 x y)
  · exact (xr_sld dL_law_922)
  · exact (⟨by decide, xr_aloadn dL_law_923 rfl⟩)
  · exact (⟨by decide, xr_iload dL_law_924⟩)
  · exact (xr_iconst dL_law_926 (by decide +kernel))
  · exact (fun x y h => xr_iadd dL_law_927 x y)
  · exact (xr_sld dL_law_928)
  · exact (⟨by decide, xr_aloadn dL_law_929 rfl⟩)
  · exact (⟨by decide, xr_iload dL_law_930⟩)
  · exact (xr_iconst dL_law_932 (by decide +kernel))
  · exact (fun x y h => xr_iadd dL_law_933 x y)
  · exact (xr_sld dL_law_934)
  · exact (⟨rfl, _, rfl, ⟨105, dL_law_935, xw_1350, xw_1348, xw_1349⟩, _, rfl, rfl⟩)
  · exact (fun v h => xr_pop dL_law_938 v h)
  · exact (xr_goto dL_law_939 (by decide))
  · exact (⟨by decide, xr_aloadn dL_law_942 rfl⟩)
  · exact (⟨by decide, xr_aloadn dL_law_943 rfl⟩)
  · exact (⟨by decide, xr_iload dL_law_944⟩)
  · exact (xr_iconst dL_law_946 (by decide +kernel))
  · exact (fun x y h => xr_iadd dL_law_947 x y)
  · exact (xr_sld dL_law_948)
  · exact (⟨by decide, xr_aloadn dL_law_949 rfl⟩)
  · exact (⟨by decide, xr_iload dL_law_950⟩)
  · exact (xr_iconst dL_law_952 (by decide +kernel))
  · exact (fun x y h => xr_iadd dL_law_953 x y)
  · exact (xr_sld dL_law_954)
  · exact (⟨by decide, xr_aloadn dL_law_955 rfl⟩)
  · exact (⟨by decide, xr_iload dL_law_956⟩)
  · exact (xr_iconst dL_law_958 (by decide +kernel))
  · exact (fun x y h => xr_iadd dL_law_959 x y)
  · exact (xr_sld dL_law_960)
  · exact (⟨rfl, _, rfl, ⟨106, dL_law_961, xw_1353, xw_1351, xw_1352⟩, _, rfl, rfl⟩)
  · exact (fun v h => xr_pop dL_law_964 v h)
  · exact (⟨by decide, xr_aloadn dL_law_965 rfl⟩)
  · exact (⟨by decide, xr_aloadn dL_law_966 rfl⟩)
  · exact (⟨by decide, xr_iload dL_law_967⟩)
  · exact (xr_iconst dL_law_969 (by decide +kernel))
  · exact (fun x y h => xr_iadd dL_law_970 x y)
  · exact (xr_sld dL_law_971)
  · exact (⟨by decide, xr_aloadn dL_law_972 rfl⟩)
  · exact (⟨by decide, xr_iload dL_law_973⟩)
  · exact (xr_iconst dL_law_975 (by decide +kernel))
  · exact (fun x y h => xr_iadd dL_law_976 x y)
  · exact (xr_sld dL_law_977)
  · exact (⟨by decide, xr_aloadn dL_law_978 rfl⟩)
  · exact (⟨by decide, xr_iload dL_law_979⟩)
  · exact (xr_iconst dL_law_981 (by decide +kernel))
  · exact (fun x y h => xr_iadd dL_law_982 x y)
  · exact (xr_sld dL_law_983)
  · exact (⟨rfl, _, rfl, ⟨109, dL_law_984, xw_1356, xw_1354, xw_1355⟩, _, rfl, rfl⟩)
  · exact (fun v h => xr_pop dL_law_987 v h)
  · exact (xr_goto dL_law_988 (by decide))
  · exact (⟨by decide, xr_aloadn dL_law_991 rfl⟩)
  · exact (⟨by decide, xr_aloadn dL_law_992 rfl⟩)
  · exact (⟨by decide, xr_iload dL_law_993⟩)
  · exact (xr_iconst dL_law_995 (by decide +kernel))
  · exact (fun x y h => xr_iadd dL_law_996 x y)
  · exact (xr_sld dL_law_997)
  · exact (⟨rfl, _, rfl, ⟨110, dL_law_998, xw_1359, xw_1357, xw_1358⟩, _, rfl, rfl⟩)
  · exact (fun v h => xr_pop dL_law_1001 v h)
  · exact (⟨by decide, xr_aloadn dL_law_1002 rfl⟩)
  · exact (⟨by decide, xr_aloadn dL_law_1003 rfl⟩)
def xkp_L1_5 : List (Nat × xOp) := [(1004, (2, 1006, 0, 4, [])), (1006, (0, 1007, 1, 0, [])), (1007, (5, 1008, 0, 0, [])), (1008, (43, 1009, 0, 0, [])), (1009, (28, 1012, 163, 12, [])), (1012, (10, 1013, 0, 0, [])), (1013, (14, 1450, 0, 0, [])), (1016, (2, 1017, 1, 1, [])), (1017, (2, 1018, 1, 0, [])), (1018, (2, 1020, 0, 4, [])), (1020, (0, 1021, 1, 0, [])), (1021, (5, 1022, 0, 0, [])), (1022, (43, 1023, 0, 0, [])), (1023, (28, 1026, 16, 11, [])), (1026, (10, 1027, 0, 0, [])), (1027, (2, 1028, 1, 2, [])), (1028, (2, 1029, 1, 0, [])), (1029, (2, 1031, 0, 4, [])), (1031, (0, 1032, 1, 0, [])), (1032, (5, 1033, 0, 0, [])), (1033, (43, 1034, 0, 0, [])), (1034, (28, 1037, 180, 12, [])), (1037, (10, 1038, 0, 0, [])), (1038, (14, 1450, 0, 0, [])), (1041, (2, 1042, 1, 1, [])), (1042, (2, 1043, 1, 0, [])), (1043, (2, 1045, 0, 4, [])), (1045, (0, 1046, 1, 0, [])), (1046, (5, 1047, 0, 0, [])), (1047, (43, 1048, 0, 0, [])), (1048, (28, 1051, 37, 11, [])), (1051, (10, 1052, 0, 0, [])), (1052, (2, 1053, 1, 2, [])), (1053, (2, 1054, 1, 0, [])), (1054, (2, 1056, 0, 4, [])), (1056, (0, 1057, 1, 0, [])), (1057, (5, 1058, 0, 0, [])), (1058, (43, 1059, 0, 0, [])), (1059, (28, 1062, 235, 12, [])), (1062, (10, 1063, 0, 0, [])), (1063, (14, 1450, 0, 0, [])), (1066, (2, 1067, 1, 1, [])), (1067, (2, 1068, 1, 0, [])), (1068, (2, 1070, 0, 4, [])), (1070, (0, 1071, 1, 0, [])), (1071, (5, 1072, 0, 0, [])), (1072, (43, 1073, 0, 0, [])), (1073, (28, 1076, 19, 11, [])), (1076, (10, 1077, 0, 0, [])), (1077, (2, 1078, 1, 2, [])), (1078, (2, 1079, 1, 0, [])), (1079, (2, 1081, 0, 4, [])), (1081, (0, 1082, 1, 0, [])), (1082, (5, 1083, 0, 0, [])), (1083, (43, 1084, 0, 0, [])), (1084, (28, 1087, 201, 12, [])), (1087, (10, 1088, 0, 0, [])), (1088, (14, 1450, 0, 0, [])), (1091, (2, 1092, 1, 1, [])), (1092, (28, 1095, 42, 11, [])), (1095, (10, 1096, 0, 0, [])), (1096, (2, 1097, 1, 2, [])), (1097, (28, 1100, 243, 12, [])), (1100, (10, 1101, 0, 0, [])), (1101, (14, 1450, 0, 0, [])), (1104, (2, 1105, 1, 1, [])), (1105, (2, 1106, 1, 0, [])), (1106, (2, 1108, 0, 4, [])), (1108, (0, 1109, 1, 0, [])), (1109, (5, 1110, 0, 0, [])), (1110, (43, 1111, 0, 0, [])), (1111, (2, 1112, 1, 0, [])), (1112, (2, 1114, 0, 4, [])), (1114, (0, 1115, 2, 0, [])), (1115, (5, 1116, 0, 0, [])), (1116, (43, 1117, 0, 0, [])), (1117, (28, 1120, 23, 11, [])), (1120, (10, 1121, 0, 0, [])), (1121, (2, 1122, 1, 2, [])), (1122, (2, 1123, 1, 0, [])), (1123, (2, 1125, 0, 4, [])), (1125, (0, 1126, 1, 0, [])), (1126, (5, 1127, 0, 0, [])), (1127, (43, 1128, 0, 0, [])), (1128, (2, 1129, 1, 0, [])), (1129, (2, 1131, 0, 4, [])), (1131, (0, 1132, 2, 0, [])), (1132, (5, 1133, 0, 0, [])), (1133, (43, 1134, 0, 0, [])), (1134, (28, 1137, 213, 12, [])), (1137, (10, 1138, 0, 0, [])), (1138, (14, 1450, 0, 0, [])), (1141, (2, 1142, 1, 1, [])), (1142, (28, 1145, 15, 11, [])), (1145, (10, 1146, 0, 0, [])), (1146, (2, 1147, 1, 2, [])), (1147, (28, 1150, 172, 12, [])), (1150, (10, 1151, 0, 0, [])), (1151, (14, 1450, 0, 0, [])), (1154, (2, 1155, 1, 1, [])), (1155, (2, 1156, 1, 0, [])), (1156, (2, 1158, 0, 4, [])), (1158, (0, 1159, 1, 0, [])), (1159, (5, 1160, 0, 0, [])), (1160, (43, 1161, 0, 0, [])), (1161, (2, 1162, 1, 0, [])), (1162, (2, 1164, 0, 4, [])), (1164, (0, 1165, 2, 0, [])), (1165, (5, 1166, 0, 0, [])), (1166, (43, 1167, 0, 0, [])), (1167, (2, 1168, 1, 0, [])), (1168, (2, 1170, 0, 4, [])), (1170, (0, 1171, 3, 0, [])), (1171, (5, 1172, 0, 0, [])), (1172, (43, 1173, 0, 0, [])), (1173, (2, 1174, 1, 0, [])), (1174, (2, 1176, 0, 4, [])), (1176, (0, 1177, 4, 0, [])), (1177, (5, 1178, 0, 0, [])), (1178, (43, 1179, 0, 0, []))]
set_option maxRecDepth 100000 in
set_option maxHeartbeats 4000000 in
theorem xop_L1_5 : ∀ q ∈ xkp_L1_5, xok xmt xm_L1 q.1 q.2 := by
  refine xcns ?_ <| xcns ?_ <| xcns ?_ <| xcns ?_ <| xcns ?_ <| xcns ?_ <| xcns ?_ <| xcns ?_ <| xcns ?_ <| xcns ?_ <| xcns ?_ <| xcns ?_ <| xcns ?_ <| xcns ?_ <| xcns ?_ <| xcns ?_ <| xcns ?_ <| xcns ?_ <| xcns ?_ <| xcns ?_ <| xcns ?_ <| xcns ?_ <| xcns ?_ <| xcns ?_ <| xcns ?_ <| xcns ?_ <| xcns ?_ <| xcns ?_ <| xcns ?_ <| xcns ?_ <| xcns ?_ <| xcns ?_ <| xcns ?_ <| xcns ?_ <| xcns ?_ <| xcns ?_ <| xcns ?_ <| xcns ?_ <| xcns ?_ <| xcns ?_ <| xcns ?_ <| xcns ?_ <| xcns ?_ <| xcns ?_ <| xcns ?_ <| xcns ?_ <| xcns ?_ <| xcns ?_ <| xcns ?_ <| xcns ?_ <| xcns ?_ <| xcns ?_ <| xcns ?_ <| xcns ?_ <| xcns ?_ <| xcns ?_ <| xcns ?_ <| xcns ?_ <| xcns ?_ <| xcns ?_ <| xcns ?_ <| xcns ?_ <| xcns ?_ <| xcns ?_ <| xcns ?_ <| xcns ?_ <| xcns ?_ <| xcns ?_ <| xcns ?_ <| xcns ?_ <| xcns ?_ <| xcns ?_ <| xcns ?_ <| xcns ?_ <| xcns ?_ <| xcns ?_ <| xcns ?_ <| xcns ?_ <| xcns ?_ <| xcns ?_ <| xcns ?_ <| xcns ?_ <| xcns ?_ <| xcns ?_ <| xcns ?_ <| xcns ?_ <| xcns ?_ <| xcns ?_ <| xcns ?_ <| xcns ?_ <| xcns ?_ <| xcns ?_ <| xcns ?_ <| xcns ?_ <| xcns ?_ <| xcns ?_ <| xcns ?_ <| xcns ?_ <| xcns ?_ <| xcns ?_ <| xcns ?_ <| xcns ?_ <| xcns ?_ <| xcns ?_ <| xcns ?_ <| xcns ?_ <| xcns ?_ <| xcns ?_ <| xcns ?_ <| xcns ?_ <| xcns ?_ <| xcns ?_ <| xcns ?_ <| xcns ?_ <| xcns ?_ <| xcns ?_ <| xcns ?_ <| xcns ?_ <| xcns ?_ <| xcns ?_ <| xnl
  · exact (⟨by decide, xr_iload dL_law_1004⟩)
  · exact (xr_iconst dL_law_1006 (by decide +kernel))
  · exact (fun x y h => xr_iadd dL_law_1007 x y)
  · exact (xr_sld dL_law_1008)
  · exact (⟨rfl, _, rfl, ⟨113, dL_law_1009, xw_1362, xw_1360, xw_1361⟩, _, rfl, rfl⟩)
  · exact (fun v h => xr_pop dL_law_1012 v h)
  · exact (xr_goto dL_law_1013 (by decide))
  · exact (⟨by decide, xr_aloadn dL_law_1016 rfl⟩)
  · exact (⟨by decide, xr_aloadn dL_law_1017 rfl⟩)
  · exact (⟨by decide, xr_iload dL_law_1018⟩)
  · exact (xr_iconst dL_law_1020 (by decide +kernel))
  · exact (fun x y h => xr_iadd dL_law_1021 x y)
  · exact (xr_sld dL_law_1022)
  · exact (⟨rfl, _, rfl, ⟨114, dL_law_1023, xw_1365, xw_1363, xw_1364⟩, _, rfl, rfl⟩)
  · exact (fun v h => xr_pop dL_law_1026 v h)
  · exact (⟨by decide, xr_aloadn dL_law_1027 rfl⟩)
  · exact (⟨by decide, xr_aloadn dL_law_1028 rfl⟩)
  · exact (⟨by decide, xr_iload dL_law_1029⟩)
  · exact (xr_iconst dL_law_1031 (by decide +kernel))
  · exact (fun x y h => xr_iadd dL_law_1032 x y)
  · exact (xr_sld dL_law_1033)
  · exact (⟨rfl, _, rfl, ⟨117, dL_law_1034, xw_1368, xw_1366, xw_1367⟩, _, rfl, rfl⟩)
  · exact (fun v h => xr_pop dL_law_1037 v h)
  · exact (xr_goto dL_law_1038 (by decide))
  · exact (⟨by decide, xr_aloadn dL_law_1041 rfl⟩)
  · exact (⟨by decide, xr_aloadn dL_law_1042 rfl⟩)
  · exact (⟨by decide, xr_iload dL_law_1043⟩)
  · exact (xr_iconst dL_law_1045 (by decide +kernel))
  · exact (fun x y h => xr_iadd dL_law_1046 x y)
  · exact (xr_sld dL_law_1047)
  · exact (⟨rfl, _, rfl, ⟨118, dL_law_1048, xw_1371, xw_1369, xw_1370⟩, _, rfl, rfl⟩)
  · exact (fun v h => xr_pop dL_law_1051 v h)
  · exact (⟨by decide, xr_aloadn dL_law_1052 rfl⟩)
  · exact (⟨by decide, xr_aloadn dL_law_1053 rfl⟩)
  · exact (⟨by decide, xr_iload dL_law_1054⟩)
  · exact (xr_iconst dL_law_1056 (by decide +kernel))
  · exact (fun x y h => xr_iadd dL_law_1057 x y)
  · exact (xr_sld dL_law_1058)
  · exact (⟨rfl, _, rfl, ⟨121, dL_law_1059, xw_1374, xw_1372, xw_1373⟩, _, rfl, rfl⟩)
  · exact (fun v h => xr_pop dL_law_1062 v h)
  · exact (xr_goto dL_law_1063 (by decide))
  · exact (⟨by decide, xr_aloadn dL_law_1066 rfl⟩)
  · exact (⟨by decide, xr_aloadn dL_law_1067 rfl⟩)
  · exact (⟨by decide, xr_iload dL_law_1068⟩)
  · exact (xr_iconst dL_law_1070 (by decide +kernel))
  · exact (fun x y h => xr_iadd dL_law_1071 x y)
  · exact (xr_sld dL_law_1072)
  · exact (⟨rfl, _, rfl, ⟨122, dL_law_1073, xw_1377, xw_1375, xw_1376⟩, _, rfl, rfl⟩)
  · exact (fun v h => xr_pop dL_law_1076 v h)
  · exact (⟨by decide, xr_aloadn dL_law_1077 rfl⟩)
  · exact (⟨by decide, xr_aloadn dL_law_1078 rfl⟩)
  · exact (⟨by decide, xr_iload dL_law_1079⟩)
  · exact (xr_iconst dL_law_1081 (by decide +kernel))
  · exact (fun x y h => xr_iadd dL_law_1082 x y)
  · exact (xr_sld dL_law_1083)
  · exact (⟨rfl, _, rfl, ⟨126, dL_law_1084, xw_1380, xw_1378, xw_1379⟩, _, rfl, rfl⟩)
  · exact (fun v h => xr_pop dL_law_1087 v h)
  · exact (xr_goto dL_law_1088 (by decide))
  · exact (⟨by decide, xr_aloadn dL_law_1091 rfl⟩)
  · exact (⟨rfl, _, rfl, ⟨127, dL_law_1092, xw_1381, xw_189, xw_190⟩, _, rfl, rfl⟩)
  · exact (fun v h => xr_pop dL_law_1095 v h)
  · exact (⟨by decide, xr_aloadn dL_law_1096 rfl⟩)
  · exact (⟨rfl, _, rfl, ⟨130, dL_law_1097, xw_1382, xw_1073, xw_1074⟩, _, rfl, rfl⟩)
  · exact (fun v h => xr_pop dL_law_1100 v h)
  · exact (xr_goto dL_law_1101 (by decide))
  · exact (⟨by decide, xr_aloadn dL_law_1104 rfl⟩)
  · exact (⟨by decide, xr_aloadn dL_law_1105 rfl⟩)
  · exact (⟨by decide, xr_iload dL_law_1106⟩)
  · exact (xr_iconst dL_law_1108 (by decide +kernel))
  · exact (fun x y h => xr_iadd dL_law_1109 x y)
  · exact (xr_sld dL_law_1110)
  · exact (⟨by decide, xr_aloadn dL_law_1111 rfl⟩)
  · exact (⟨by decide, xr_iload dL_law_1112⟩)
  · exact (xr_iconst dL_law_1114 (by decide +kernel))
  · exact (fun x y h => xr_iadd dL_law_1115 x y)
  · exact (xr_sld dL_law_1116)
  · exact (⟨rfl, _, rfl, ⟨131, dL_law_1117, xw_1385, xw_1383, xw_1384⟩, _, rfl, rfl⟩)
  · exact (fun v h => xr_pop dL_law_1120 v h)
  · exact (⟨by decide, xr_aloadn dL_law_1121 rfl⟩)
  · exact (⟨by decide, xr_aloadn dL_law_1122 rfl⟩)
  · exact (⟨by decide, xr_iload dL_law_1123⟩)
  · exact (xr_iconst dL_law_1125 (by decide +kernel))
  · exact (fun x y h => xr_iadd dL_law_1126 x y)
  · exact (xr_sld dL_law_1127)
  · exact (⟨by decide, xr_aloadn dL_law_1128 rfl⟩)
  · exact (⟨by decide, xr_iload dL_law_1129⟩)
  · exact (xr_iconst dL_law_1131 (by decide +kernel))
  · exact (fun x y h => xr_iadd dL_law_1132 x y)
  · exact (xr_sld dL_law_1133)
  · exact (⟨rfl, _, rfl, ⟨134, dL_law_1134, xw_1388, xw_1386, xw_1387⟩, _, rfl, rfl⟩)
  · exact (fun v h => xr_pop dL_law_1137 v h)
  · exact (xr_goto dL_law_1138 (by decide))
  · exact (⟨by decide, xr_aloadn dL_law_1141 rfl⟩)
  · exact (⟨rfl, _, rfl, ⟨135, dL_law_1142, xw_1391, xw_1389, xw_1390⟩, _, rfl, rfl⟩)
  · exact (fun v h => xr_pop dL_law_1145 v h)
  · exact (⟨by decide, xr_aloadn dL_law_1146 rfl⟩)
  · exact (⟨rfl, _, rfl, ⟨138, dL_law_1147, xw_1394, xw_1392, xw_1393⟩, _, rfl, rfl⟩)
  · exact (fun v h => xr_pop dL_law_1150 v h)
  · exact (xr_goto dL_law_1151 (by decide))
  · exact (⟨by decide, xr_aloadn dL_law_1154 rfl⟩)
  · exact (⟨by decide, xr_aloadn dL_law_1155 rfl⟩)
  · exact (⟨by decide, xr_iload dL_law_1156⟩)
  · exact (xr_iconst dL_law_1158 (by decide +kernel))
  · exact (fun x y h => xr_iadd dL_law_1159 x y)
  · exact (xr_sld dL_law_1160)
  · exact (⟨by decide, xr_aloadn dL_law_1161 rfl⟩)
  · exact (⟨by decide, xr_iload dL_law_1162⟩)
  · exact (xr_iconst dL_law_1164 (by decide +kernel))
  · exact (fun x y h => xr_iadd dL_law_1165 x y)
  · exact (xr_sld dL_law_1166)
  · exact (⟨by decide, xr_aloadn dL_law_1167 rfl⟩)
  · exact (⟨by decide, xr_iload dL_law_1168⟩)
  · exact (xr_iconst dL_law_1170 (by decide +kernel))
  · exact (fun x y h => xr_iadd dL_law_1171 x y)
  · exact (xr_sld dL_law_1172)
  · exact (⟨by decide, xr_aloadn dL_law_1173 rfl⟩)
  · exact (⟨by decide, xr_iload dL_law_1174⟩)
  · exact (xr_iconst dL_law_1176 (by decide +kernel))
  · exact (fun x y h => xr_iadd dL_law_1177 x y)
  · exact (xr_sld dL_law_1178)
def xkp_L1_6 : List (Nat × xOp) := [(1179, (28, 1182, 28, 11, [])), (1182, (10, 1183, 0, 0, [])), (1183, (2, 1184, 1, 2, [])), (1184, (2, 1185, 1, 0, [])), (1185, (2, 1187, 0, 4, [])), (1187, (0, 1188, 1, 0, [])), (1188, (5, 1189, 0, 0, [])), (1189, (43, 1190, 0, 0, [])), (1190, (2, 1191, 1, 0, [])), (1191, (2, 1193, 0, 4, [])), (1193, (0, 1194, 2, 0, [])), (1194, (5, 1195, 0, 0, [])), (1195, (43, 1196, 0, 0, [])), (1196, (2, 1197, 1, 0, [])), (1197, (2, 1199, 0, 4, [])), (1199, (0, 1200, 3, 0, [])), (1200, (5, 1201, 0, 0, [])), (1201, (43, 1202, 0, 0, [])), (1202, (2, 1203, 1, 0, [])), (1203, (2, 1205, 0, 4, [])), (1205, (0, 1206, 4, 0, [])), (1206, (5, 1207, 0, 0, [])), (1207, (43, 1208, 0, 0, [])), (1208, (28, 1211, 224, 12, [])), (1211, (10, 1212, 0, 0, [])), (1212, (14, 1450, 0, 0, [])), (1215, (2, 1216, 1, 1, [])), (1216, (2, 1217, 1, 0, [])), (1217, (2, 1219, 0, 4, [])), (1219, (0, 1220, 1, 0, [])), (1220, (5, 1221, 0, 0, [])), (1221, (43, 1222, 0, 0, [])), (1222, (2, 1223, 1, 0, [])), (1223, (2, 1225, 0, 4, [])), (1225, (0, 1226, 2, 0, [])), (1226, (5, 1227, 0, 0, [])), (1227, (43, 1228, 0, 0, [])), (1228, (2, 1229, 1, 0, [])), (1229, (2, 1231, 0, 4, [])), (1231, (0, 1232, 3, 0, [])), (1232, (5, 1233, 0, 0, [])), (1233, (43, 1234, 0, 0, [])), (1234, (2, 1235, 1, 0, [])), (1235, (2, 1237, 0, 4, [])), (1237, (0, 1238, 4, 0, [])), (1238, (5, 1239, 0, 0, [])), (1239, (43, 1240, 0, 0, [])), (1240, (2, 1241, 1, 0, [])), (1241, (2, 1243, 0, 4, [])), (1243, (0, 1244, 5, 0, [])), (1244, (5, 1245, 0, 0, [])), (1245, (43, 1246, 0, 0, [])), (1246, (28, 1249, 12, 11, [])), (1249, (10, 1250, 0, 0, [])), (1250, (2, 1251, 1, 2, [])), (1251, (2, 1252, 1, 0, [])), (1252, (2, 1254, 0, 4, [])), (1254, (0, 1255, 1, 0, [])), (1255, (5, 1256, 0, 0, [])), (1256, (43, 1257, 0, 0, [])), (1257, (2, 1258, 1, 0, [])), (1258, (2, 1260, 0, 4, [])), (1260, (0, 1261, 2, 0, [])), (1261, (5, 1262, 0, 0, [])), (1262, (43, 1263, 0, 0, [])), (1263, (2, 1264, 1, 0, [])), (1264, (2, 1266, 0, 4, [])), (1266, (0, 1267, 3, 0, [])), (1267, (5, 1268, 0, 0, [])), (1268, (43, 1269, 0, 0, [])), (1269, (2, 1270, 1, 0, [])), (1270, (2, 1272, 0, 4, [])), (1272, (0, 1273, 4, 0, [])), (1273, (5, 1274, 0, 0, [])), (1274, (43, 1275, 0, 0, [])), (1275, (2, 1276, 1, 0, [])), (1276, (2, 1278, 0, 4, [])), (1278, (0, 1279, 5, 0, [])), (1279, (5, 1280, 0, 0, [])), (1280, (43, 1281, 0, 0, [])), (1281, (28, 1284, 164, 12, [])), (1284, (10, 1285, 0, 0, [])), (1285, (14, 1450, 0, 0, [])), (1288, (2, 1289, 1, 1, [])), (1289, (2, 1290, 1, 0, [])), (1290, (2, 1292, 0, 4, [])), (1292, (0, 1293, 1, 0, [])), (1293, (5, 1294, 0, 0, [])), (1294, (43, 1295, 0, 0, [])), (1295, (2, 1296, 1, 0, [])), (1296, (2, 1298, 0, 4, [])), (1298, (0, 1299, 2, 0, [])), (1299, (5, 1300, 0, 0, [])), (1300, (43, 1301, 0, 0, [])), (1301, (28, 1304, 29, 11, [])), (1304, (10, 1305, 0, 0, [])), (1305, (2, 1306, 1, 2, [])), (1306, (2, 1307, 1, 0, [])), (1307, (2, 1309, 0, 4, [])), (1309, (0, 1310, 1, 0, [])), (1310, (5, 1311, 0, 0, [])), (1311, (43, 1312, 0, 0, [])), (1312, (2, 1313, 1, 0, [])), (1313, (2, 1315, 0, 4, [])), (1315, (0, 1316, 2, 0, [])), (1316, (5, 1317, 0, 0, [])), (1317, (43, 1318, 0, 0, [])), (1318, (28, 1321, 226, 12, [])), (1321, (10, 1322, 0, 0, [])), (1322, (14, 1450, 0, 0, [])), (1325, (2, 1326, 1, 1, [])), (1326, (2, 1327, 1, 0, [])), (1327, (2, 1329, 0, 4, [])), (1329, (0, 1330, 1, 0, [])), (1330, (5, 1331, 0, 0, [])), (1331, (43, 1332, 0, 0, [])), (1332, (28, 1335, 24, 11, [])), (1335, (10, 1336, 0, 0, [])), (1336, (2, 1337, 1, 2, [])), (1337, (2, 1338, 1, 0, []))]
set_option maxRecDepth 100000 in
set_option maxHeartbeats 4000000 in
theorem xop_L1_6 : ∀ q ∈ xkp_L1_6, xok xmt xm_L1 q.1 q.2 := by
  refine xcns ?_ <| xcns ?_ <| xcns ?_ <| xcns ?_ <| xcns ?_ <| xcns ?_ <| xcns ?_ <| xcns ?_ <| xcns ?_ <| xcns ?_ <| xcns ?_ <| xcns ?_ <| xcns ?_ <| xcns ?_ <| xcns ?_ <| xcns ?_ <| xcns ?_ <| xcns ?_ <| xcns ?_ <| xcns ?_ <| xcns ?_ <| xcns ?_ <| xcns ?_ <| xcns ?_ <| xcns ?_ <| xcns ?_ <| xcns ?_ <| xcns ?_ <| xcns ?_ <| xcns ?_ <| xcns ?_ <| xcns ?_ <| xcns ?_ <| xcns ?_ <| xcns ?_ <| xcns ?_ <| xcns ?_ <| xcns ?_ <| xcns ?_ <| xcns ?_ <| xcns ?_ <| xcns ?_ <| xcns ?_ <| xcns ?_ <| xcns ?_ <| xcns ?_ <| xcns ?_ <| xcns ?_ <| xcns ?_ <| xcns ?_ <| xcns ?_ <| xcns ?_ <| xcns ?_ <| xcns ?_ <| xcns ?_ <| xcns ?_ <| xcns ?_ <| xcns ?_ <| xcns ?_ <| xcns ?_ <| xcns ?_ <| xcns ?_ <| xcns ?_ <| xcns ?_ <| xcns ?_ <| xcns ?_ <| xcns ?_ <| xcns ?_ <| xcns ?_ <| xcns ?_ <| xcns ?_ <| xcns ?_ <| xcns ?_ <| xcns ?_ <| xcns ?_ <| xcns ?_ <| xcns ?_ <| xcns ?_ <| xcns ?_ <| xcns ?_ <| xcns ?_ <| xcns ?_ <| xcns ?_ <| xcns ?_ <| xcns ?_ <| xcns ?_ <| xcns ?_ <| xcns ?_ <| xcns ?_ <| xcns ?_ <| xcns ?_ <| xcns ?_ <| xcns ?_ <| xcns ?_ <| xcns ?_ <| xcns ?_ <| xcns ?_ <| xcns ?_ <| xcns ?_ <| xcns ?_ <| xcns ?_ <| xcns ?_ <| xcns ?_ <| xcns ?_ <| xcns ?_ <| xcns ?_ <| xcns ?_ <| xcns ?_ <| xcns ?_ <| xcns ?_ <| xcns ?_ <| xcns ?_ <| xcns ?_ <| xcns ?_ <| xcns ?_ <| xcns ?_ <| xcns ?_ <| xcns ?_ <| xcns ?_ <| xcns ?_ <| xnl
  · exact (⟨rfl, _, rfl, ⟨139, dL_law_1179, xw_1397, xw_1395, xw_1396⟩, _, rfl, rfl⟩)
  · exact (fun v h => xr_pop dL_law_1182 v h)
  · exact (⟨by decide, xr_aloadn dL_law_1183 rfl⟩)
  · exact (⟨by decide, xr_aloadn dL_law_1184 rfl⟩)
  · exact (⟨by decide, xr_iload dL_law_1185⟩)
  · exact (xr_iconst dL_law_1187 (by decide +kernel))
  · exact (fun x y h => xr_iadd dL_law_1188 x y)
  · exact (xr_sld dL_law_1189)
  · exact (⟨by decide, xr_aloadn dL_law_1190 rfl⟩)
  · exact (⟨by decide, xr_iload dL_law_1191⟩)
  · exact (xr_iconst dL_law_1193 (by decide +kernel))
  · exact (fun x y h => xr_iadd dL_law_1194 x y)
  · exact (xr_sld dL_law_1195)
  · exact (⟨by decide, xr_aloadn dL_law_1196 rfl⟩)
  · exact (⟨by decide, xr_iload dL_law_1197⟩)
  · exact (xr_iconst dL_law_1199 (by decide +kernel))
  · exact (fun x y h => xr_iadd dL_law_1200 x y)
  · exact (xr_sld dL_law_1201)
  · exact (⟨by decide, xr_aloadn dL_law_1202 rfl⟩)
  · exact (⟨by decide, xr_iload dL_law_1203⟩)
  · exact (xr_iconst dL_law_1205 (by decide +kernel))
  · exact (fun x y h => xr_iadd dL_law_1206 x y)
  · exact (xr_sld dL_law_1207)
  · exact (⟨rfl, _, rfl, ⟨143, dL_law_1208, xw_1400, xw_1398, xw_1399⟩, _, rfl, rfl⟩)
  · exact (fun v h => xr_pop dL_law_1211 v h)
  · exact (xr_goto dL_law_1212 (by decide))
  · exact (⟨by decide, xr_aloadn dL_law_1215 rfl⟩)
  · exact (⟨by decide, xr_aloadn dL_law_1216 rfl⟩)
  · exact (⟨by decide, xr_iload dL_law_1217⟩)
  · exact (xr_iconst dL_law_1219 (by decide +kernel))
  · exact (fun x y h => xr_iadd dL_law_1220 x y)
  · exact (xr_sld dL_law_1221)
  · exact (⟨by decide, xr_aloadn dL_law_1222 rfl⟩)
  · exact (⟨by decide, xr_iload dL_law_1223⟩)
  · exact (xr_iconst dL_law_1225 (by decide +kernel))
  · exact (fun x y h => xr_iadd dL_law_1226 x y)
  · exact (xr_sld dL_law_1227)
  · exact (⟨by decide, xr_aloadn dL_law_1228 rfl⟩)
  · exact (⟨by decide, xr_iload dL_law_1229⟩)
  · exact (xr_iconst dL_law_1231 (by decide +kernel))
  · exact (fun x y h => xr_iadd dL_law_1232 x y)
  · exact (xr_sld dL_law_1233)
  · exact (⟨by decide, xr_aloadn dL_law_1234 rfl⟩)
  · exact (⟨by decide, xr_iload dL_law_1235⟩)
  · exact (xr_iconst dL_law_1237 (by decide +kernel))
  · exact (fun x y h => xr_iadd dL_law_1238 x y)
  · exact (xr_sld dL_law_1239)
  · exact (⟨by decide, xr_aloadn dL_law_1240 rfl⟩)
  · exact (⟨by decide, xr_iload dL_law_1241⟩)
  · exact (xr_iconst dL_law_1243 (by decide +kernel))
  · exact (fun x y h => xr_iadd dL_law_1244 x y)
  · exact (xr_sld dL_law_1245)
  · exact (⟨rfl, _, rfl, ⟨144, dL_law_1246, xw_1403, xw_1401, xw_1402⟩, _, rfl, rfl⟩)
  · exact (fun v h => xr_pop dL_law_1249 v h)
  · exact (⟨by decide, xr_aloadn dL_law_1250 rfl⟩)
  · exact (⟨by decide, xr_aloadn dL_law_1251 rfl⟩)
  · exact (⟨by decide, xr_iload dL_law_1252⟩)
  · exact (xr_iconst dL_law_1254 (by decide +kernel))
  · exact (fun x y h => xr_iadd dL_law_1255 x y)
  · exact (xr_sld dL_law_1256)
  · exact (⟨by decide, xr_aloadn dL_law_1257 rfl⟩)
  · exact (⟨by decide, xr_iload dL_law_1258⟩)
  · exact (xr_iconst dL_law_1260 (by decide +kernel))
  · exact (fun x y h => xr_iadd dL_law_1261 x y)
  · exact (xr_sld dL_law_1262)
  · exact (⟨by decide, xr_aloadn dL_law_1263 rfl⟩)
  · exact (⟨by decide, xr_iload dL_law_1264⟩)
  · exact (xr_iconst dL_law_1266 (by decide +kernel))
  · exact (fun x y h => xr_iadd dL_law_1267 x y)
  · exact (xr_sld dL_law_1268)
  · exact (⟨by decide, xr_aloadn dL_law_1269 rfl⟩)
  · exact (⟨by decide, xr_iload dL_law_1270⟩)
  · exact (xr_iconst dL_law_1272 (by decide +kernel))
  · exact (fun x y h => xr_iadd dL_law_1273 x y)
  · exact (xr_sld dL_law_1274)
  · exact (⟨by decide, xr_aloadn dL_law_1275 rfl⟩)
  · exact (⟨by decide, xr_iload dL_law_1276⟩)
  · exact (xr_iconst dL_law_1278 (by decide +kernel))
  · exact (fun x y h => xr_iadd dL_law_1279 x y)
  · exact (xr_sld dL_law_1280)
  · exact (⟨rfl, _, rfl, ⟨147, dL_law_1281, xw_1406, xw_1404, xw_1405⟩, _, rfl, rfl⟩)
  · exact (fun v h => xr_pop dL_law_1284 v h)
  · exact (xr_goto dL_law_1285 (by decide))
  · exact (⟨by decide, xr_aloadn dL_law_1288 rfl⟩)
  · exact (⟨by decide, xr_aloadn dL_law_1289 rfl⟩)
  · exact (⟨by decide, xr_iload dL_law_1290⟩)
  · exact (xr_iconst dL_law_1292 (by decide +kernel))
  · exact (fun x y h => xr_iadd dL_law_1293 x y)
  · exact (xr_sld dL_law_1294)
  · exact (⟨by decide, xr_aloadn dL_law_1295 rfl⟩)
  · exact (⟨by decide, xr_iload dL_law_1296⟩)
  · exact (xr_iconst dL_law_1298 (by decide +kernel))
  · exact (fun x y h => xr_iadd dL_law_1299 x y)
  · exact (xr_sld dL_law_1300)
  · exact (⟨rfl, _, rfl, ⟨148, dL_law_1301, xw_1409, xw_1407, xw_1408⟩, _, rfl, rfl⟩)
  · exact (fun v h => xr_pop dL_law_1304 v h)
  · exact (⟨by decide, xr_aloadn dL_law_1305 rfl⟩)
  · exact (⟨by decide, xr_aloadn dL_law_1306 rfl⟩)
  · exact (⟨by decide, xr_iload dL_law_1307⟩)
  · exact (xr_iconst dL_law_1309 (by decide +kernel))
  · exact (fun x y h => xr_iadd dL_law_1310 x y)
  · exact (xr_sld dL_law_1311)
  · exact (⟨by decide, xr_aloadn dL_law_1312 rfl⟩)
  · exact (⟨by decide, xr_iload dL_law_1313⟩)
  · exact (xr_iconst dL_law_1315 (by decide +kernel))
  · exact (fun x y h => xr_iadd dL_law_1316 x y)
  · exact (xr_sld dL_law_1317)
  · exact (⟨rfl, _, rfl, ⟨151, dL_law_1318, xw_1412, xw_1410, xw_1411⟩, _, rfl, rfl⟩)
  · exact (fun v h => xr_pop dL_law_1321 v h)
  · exact (xr_goto dL_law_1322 (by decide))
  · exact (⟨by decide, xr_aloadn dL_law_1325 rfl⟩)
  · exact (⟨by decide, xr_aloadn dL_law_1326 rfl⟩)
  · exact (⟨by decide, xr_iload dL_law_1327⟩)
  · exact (xr_iconst dL_law_1329 (by decide +kernel))
  · exact (fun x y h => xr_iadd dL_law_1330 x y)
  · exact (xr_sld dL_law_1331)
  · exact (⟨rfl, _, rfl, ⟨152, dL_law_1332, xw_1415, xw_1413, xw_1414⟩, _, rfl, rfl⟩)
  · exact (fun v h => xr_pop dL_law_1335 v h)
  · exact (⟨by decide, xr_aloadn dL_law_1336 rfl⟩)
  · exact (⟨by decide, xr_aloadn dL_law_1337 rfl⟩)
def xkp_L1_7 : List (Nat × xOp) := [(1338, (2, 1340, 0, 4, [])), (1340, (0, 1341, 1, 0, [])), (1341, (5, 1342, 0, 0, [])), (1342, (43, 1343, 0, 0, [])), (1343, (28, 1346, 215, 12, [])), (1346, (10, 1347, 0, 0, [])), (1347, (14, 1450, 0, 0, [])), (1350, (2, 1351, 1, 1, [])), (1351, (2, 1352, 1, 0, [])), (1352, (2, 1354, 0, 4, [])), (1354, (0, 1355, 1, 0, [])), (1355, (5, 1356, 0, 0, [])), (1356, (43, 1357, 0, 0, [])), (1357, (2, 1358, 1, 0, [])), (1358, (2, 1360, 0, 4, [])), (1360, (0, 1361, 2, 0, [])), (1361, (5, 1362, 0, 0, [])), (1362, (43, 1363, 0, 0, [])), (1363, (2, 1364, 1, 0, [])), (1364, (2, 1366, 0, 4, [])), (1366, (0, 1367, 3, 0, [])), (1367, (5, 1368, 0, 0, [])), (1368, (43, 1369, 0, 0, [])), (1369, (28, 1372, 45, 11, [])), (1372, (69, 1373, 0, 0, [])), (1373, (2, 1374, 1, 2, [])), (1374, (2, 1375, 1, 0, [])), (1375, (2, 1377, 0, 4, [])), (1377, (0, 1378, 1, 0, [])), (1378, (5, 1379, 0, 0, [])), (1379, (43, 1380, 0, 0, [])), (1380, (2, 1381, 1, 0, [])), (1381, (2, 1383, 0, 4, [])), (1383, (0, 1384, 2, 0, [])), (1384, (5, 1385, 0, 0, [])), (1385, (43, 1386, 0, 0, [])), (1386, (2, 1387, 1, 0, [])), (1387, (2, 1389, 0, 4, [])), (1389, (0, 1390, 3, 0, [])), (1390, (5, 1391, 0, 0, [])), (1391, (43, 1392, 0, 0, [])), (1392, (28, 1395, 250, 12, [])), (1395, (69, 1396, 0, 0, [])), (1396, (14, 1450, 0, 0, [])), (1399, (2, 1400, 1, 1, [])), (1400, (28, 1403, 18, 11, [])), (1403, (10, 1404, 0, 0, [])), (1404, (2, 1405, 1, 2, [])), (1405, (28, 1408, 199, 12, [])), (1408, (10, 1409, 0, 0, [])), (1409, (14, 1450, 0, 0, [])), (1412, (2, 1413, 1, 1, [])), (1413, (28, 1416, 1, 11, [])), (1416, (10, 1417, 0, 0, [])), (1417, (2, 1418, 1, 2, [])), (1418, (28, 1421, 144, 12, [])), (1421, (10, 1422, 0, 0, [])), (1422, (14, 1450, 0, 0, [])), (1425, (2, 1426, 1, 1, [])), (1426, (2, 1427, 1, 0, [])), (1427, (2, 1429, 0, 4, [])), (1429, (0, 1430, 1, 0, [])), (1430, (5, 1431, 0, 0, [])), (1431, (43, 1432, 0, 0, [])), (1432, (28, 1435, 7, 11, [])), (1435, (10, 1436, 0, 0, [])), (1436, (2, 1437, 1, 2, [])), (1437, (2, 1438, 1, 0, [])), (1438, (2, 1440, 0, 4, [])), (1440, (0, 1441, 1, 0, [])), (1441, (5, 1442, 0, 0, [])), (1442, (43, 1443, 0, 0, [])), (1443, (28, 1446, 157, 12, [])), (1446, (10, 1447, 0, 0, [])), (1447, (14, 1450, 0, 0, [])), (1450, (4, 1453, 4, 6, [])), (1453, (14, 23, 0, 0, [])), (1456, (0, 1457, 1, 0, [])), (1457, (30, 0, 0, 3, []))]
set_option maxRecDepth 100000 in
set_option maxHeartbeats 4000000 in
theorem xop_L1_7 : ∀ q ∈ xkp_L1_7, xok xmt xm_L1 q.1 q.2 := by
  refine xcns ?_ <| xcns ?_ <| xcns ?_ <| xcns ?_ <| xcns ?_ <| xcns ?_ <| xcns ?_ <| xcns ?_ <| xcns ?_ <| xcns ?_ <| xcns ?_ <| xcns ?_ <| xcns ?_ <| xcns ?_ <| xcns ?_ <| xcns ?_ <| xcns ?_ <| xcns ?_ <| xcns ?_ <| xcns ?_ <| xcns ?_ <| xcns ?_ <| xcns ?_ <| xcns ?_ <| xcns ?_ <| xcns ?_ <| xcns ?_ <| xcns ?_ <| xcns ?_ <| xcns ?_ <| xcns ?_ <| xcns ?_ <| xcns ?_ <| xcns ?_ <| xcns ?_ <| xcns ?_ <| xcns ?_ <| xcns ?_ <| xcns ?_ <| xcns ?_ <| xcns ?_ <| xcns ?_ <| xcns ?_ <| xcns ?_ <| xcns ?_ <| xcns ?_ <| xcns ?_ <| xcns ?_ <| xcns ?_ <| xcns ?_ <| xcns ?_ <| xcns ?_ <| xcns ?_ <| xcns ?_ <| xcns ?_ <| xcns ?_ <| xcns ?_ <| xcns ?_ <| xcns ?_ <| xcns ?_ <| xcns ?_ <| xcns ?_ <| xcns ?_ <| xcns ?_ <| xcns ?_ <| xcns ?_ <| xcns ?_ <| xcns ?_ <| xcns ?_ <| xcns ?_ <| xcns ?_ <| xcns ?_ <| xcns ?_ <| xcns ?_ <| xcns ?_ <| xcns ?_ <| xcns ?_ <| xcns ?_ <| xcns ?_ <| xnl
  · exact (⟨by decide, xr_iload dL_law_1338⟩)
  · exact (xr_iconst dL_law_1340 (by decide +kernel))
  · exact (fun x y h => xr_iadd dL_law_1341 x y)
  · exact (xr_sld dL_law_1342)
  · exact (⟨rfl, _, rfl, ⟨155, dL_law_1343, xw_1418, xw_1416, xw_1417⟩, _, rfl, rfl⟩)
  · exact (fun v h => xr_pop dL_law_1346 v h)
  · exact (xr_goto dL_law_1347 (by decide))
  · exact (⟨by decide, xr_aloadn dL_law_1350 rfl⟩)
  · exact (⟨by decide, xr_aloadn dL_law_1351 rfl⟩)
  · exact (⟨by decide, xr_iload dL_law_1352⟩)
  · exact (xr_iconst dL_law_1354 (by decide +kernel))
  · exact (fun x y h => xr_iadd dL_law_1355 x y)
  · exact (xr_sld dL_law_1356)
  · exact (⟨by decide, xr_aloadn dL_law_1357 rfl⟩)
  · exact (⟨by decide, xr_iload dL_law_1358⟩)
  · exact (xr_iconst dL_law_1360 (by decide +kernel))
  · exact (fun x y h => xr_iadd dL_law_1361 x y)
  · exact (xr_sld dL_law_1362)
  · exact (⟨by decide, xr_aloadn dL_law_1363 rfl⟩)
  · exact (⟨by decide, xr_iload dL_law_1364⟩)
  · exact (xr_iconst dL_law_1366 (by decide +kernel))
  · exact (fun x y h => xr_iadd dL_law_1367 x y)
  · exact (xr_sld dL_law_1368)
  · exact (⟨rfl, _, rfl, ⟨156, dL_law_1369, xw_1421, xw_1419, xw_1420⟩, _, rfl, rfl⟩)
  · exact (fun v h => xr_pop2 dL_law_1372 v h)
  · exact (⟨by decide, xr_aloadn dL_law_1373 rfl⟩)
  · exact (⟨by decide, xr_aloadn dL_law_1374 rfl⟩)
  · exact (⟨by decide, xr_iload dL_law_1375⟩)
  · exact (xr_iconst dL_law_1377 (by decide +kernel))
  · exact (fun x y h => xr_iadd dL_law_1378 x y)
  · exact (xr_sld dL_law_1379)
  · exact (⟨by decide, xr_aloadn dL_law_1380 rfl⟩)
  · exact (⟨by decide, xr_iload dL_law_1381⟩)
  · exact (xr_iconst dL_law_1383 (by decide +kernel))
  · exact (fun x y h => xr_iadd dL_law_1384 x y)
  · exact (xr_sld dL_law_1385)
  · exact (⟨by decide, xr_aloadn dL_law_1386 rfl⟩)
  · exact (⟨by decide, xr_iload dL_law_1387⟩)
  · exact (xr_iconst dL_law_1389 (by decide +kernel))
  · exact (fun x y h => xr_iadd dL_law_1390 x y)
  · exact (xr_sld dL_law_1391)
  · exact (⟨rfl, _, rfl, ⟨160, dL_law_1392, xw_1424, xw_1422, xw_1423⟩, _, rfl, rfl⟩)
  · exact (fun v h => xr_pop2 dL_law_1395 v h)
  · exact (xr_goto dL_law_1396 (by decide))
  · exact (⟨by decide, xr_aloadn dL_law_1399 rfl⟩)
  · exact (⟨rfl, _, rfl, ⟨161, dL_law_1400, xw_1427, xw_1425, xw_1426⟩, _, rfl, rfl⟩)
  · exact (fun v h => xr_pop dL_law_1403 v h)
  · exact (⟨by decide, xr_aloadn dL_law_1404 rfl⟩)
  · exact (⟨rfl, _, rfl, ⟨164, dL_law_1405, xw_1430, xw_1428, xw_1429⟩, _, rfl, rfl⟩)
  · exact (fun v h => xr_pop dL_law_1408 v h)
  · exact (xr_goto dL_law_1409 (by decide))
  · exact (⟨by decide, xr_aloadn dL_law_1412 rfl⟩)
  · exact (⟨rfl, _, rfl, ⟨165, dL_law_1413, xw_1433, xw_1431, xw_1432⟩, _, rfl, rfl⟩)
  · exact (fun v h => xr_pop dL_law_1416 v h)
  · exact (⟨by decide, xr_aloadn dL_law_1417 rfl⟩)
  · exact (⟨rfl, _, rfl, ⟨168, dL_law_1418, xw_1436, xw_1434, xw_1435⟩, _, rfl, rfl⟩)
  · exact (fun v h => xr_pop dL_law_1421 v h)
  · exact (xr_goto dL_law_1422 (by decide))
  · exact (⟨by decide, xr_aloadn dL_law_1425 rfl⟩)
  · exact (⟨by decide, xr_aloadn dL_law_1426 rfl⟩)
  · exact (⟨by decide, xr_iload dL_law_1427⟩)
  · exact (xr_iconst dL_law_1429 (by decide +kernel))
  · exact (fun x y h => xr_iadd dL_law_1430 x y)
  · exact (xr_sld dL_law_1431)
  · exact (⟨rfl, _, rfl, ⟨169, dL_law_1432, xw_1439, xw_1437, xw_1438⟩, _, rfl, rfl⟩)
  · exact (fun v h => xr_pop dL_law_1435 v h)
  · exact (⟨by decide, xr_aloadn dL_law_1436 rfl⟩)
  · exact (⟨by decide, xr_aloadn dL_law_1437 rfl⟩)
  · exact (⟨by decide, xr_iload dL_law_1438⟩)
  · exact (xr_iconst dL_law_1440 (by decide +kernel))
  · exact (fun x y h => xr_iadd dL_law_1441 x y)
  · exact (xr_sld dL_law_1442)
  · exact (⟨rfl, _, rfl, ⟨172, dL_law_1443, xw_1442, xw_1440, xw_1441⟩, _, rfl, rfl⟩)
  · exact (fun v h => xr_pop dL_law_1446 v h)
  · exact (xr_goto dL_law_1447 (by decide))
  · exact (xr_iinc dL_law_1450 (by decide +kernel))
  · exact (xr_goto dL_law_1453 (by decide))
  · exact (xr_iconst dL_law_1456 (by decide +kernel))
  · exact (⟨dL_law_1457, .boolean, rfl, rfl, Or.inr rfl⟩)
set_option maxRecDepth 1000000 in
theorem xoe_L1 : xk_L1 = xkp_L1_0 ++ (xkp_L1_1 ++ (xkp_L1_2 ++ (xkp_L1_3 ++ (xkp_L1_4 ++ (xkp_L1_5 ++ (xkp_L1_6 ++ (xkp_L1_7))))))) := rfl
theorem xo_L1 : ∀ q ∈ xk_L1, xok xmt xm_L1 q.1 q.2 := by
  rw [xoe_L1]
  exact List.forall_mem_append.mpr ⟨xop_L1_0, List.forall_mem_append.mpr ⟨xop_L1_1, List.forall_mem_append.mpr ⟨xop_L1_2, List.forall_mem_append.mpr ⟨xop_L1_3, List.forall_mem_append.mpr ⟨xop_L1_4, List.forall_mem_append.mpr ⟨xop_L1_5, List.forall_mem_append.mpr ⟨xop_L1_6, xop_L1_7⟩⟩⟩⟩⟩⟩⟩
end
section
set_option maxRecDepth 100000 in
theorem xmt_all : ∀ M ∈ xmt, xMok xmt M := xcns xmo_0 <| xcns xmo_1 <| xcns xmo_2 <| xcns xmo_3 <| xcns xmo_4 <| xcns xmo_5 <| xcns xmo_6 <| xcns xmo_7 <| xcns xmo_8 <| xcns xmo_9 <| xcns xmo_10 <| xcns xmo_11 <| xcns xmo_12 <| xcns xmo_13 <| xcns xmo_14 <| xcns xmo_15 <| xcns xmo_16 <| xcns xmo_17 <| xcns xmo_18 <| xcns xmo_19 <| xcns xmo_20 <| xcns xmo_21 <| xcns xmo_22 <| xcns xmo_23 <| xcns xmo_24 <| xcns xmo_25 <| xcns xmo_26 <| xcns xmo_27 <| xcns xmo_28 <| xcns xmo_29 <| xcns xmo_30 <| xcns xmo_31 <| xcns xmo_32 <| xcns xmo_33 <| xcns xmo_34 <| xcns xmo_35 <| xcns xmo_36 <| xcns xmo_37 <| xcns xmo_38 <| xcns xmo_39 <| xcns xmo_40 <| xcns xmo_41 <| xcns xmo_42 <| xcns xmo_43 <| xcns xmo_44 <| xcns xmo_45 <| xcns xmo_46 <| xcns xmo_47 <| xcns xmo_48 <| xcns xmo_49 <| xcns xmo_50 <| xcns xmo_51 <| xcns xmo_52 <| xcns xmo_53 <| xcns xmo_54 <| xcns xmo_55 <| xcns xmo_56 <| xcns xmo_57 <| xcns xmo_58 <| xcns xmo_59 <| xcns xmo_60 <| xcns xmo_61 <| xcns xmo_62 <| xcns xmo_63 <| xcns xmo_64 <| xcns xmo_65 <| xcns xmo_66 <| xcns xmo_67 <| xcns xmo_68 <| xcns xmo_69 <| xcns xmo_70 <| xcns xmo_71 <| xcns xmo_72 <| xcns xmo_73 <| xcns xmo_74 <| xcns xmo_75 <| xcns xmo_76 <| xcns xmo_77 <| xcns xmo_78 <| xcns xmo_79 <| xcns xmo_80 <| xcns xmo_81 <| xcns xmo_82 <| xcns xmo_83 <| xcns xmo_84 <| xcns xmo_85 <| xcns xmo_86 <| xcns xmo_87 <| xcns xmo_88 <| xcns xmo_89 <| xcns xmo_90 <| xcns xmo_91 <| xcns xmo_92 <| xcns xmo_93 <| xcns xmo_94 <| xcns xmo_95 <| xcns xmo_96 <| xcns xmo_97 <| xcns xmo_98 <| xcns xmo_99 <| xcns xmo_100 <| xcns xmo_101 <| xcns xmo_102 <| xcns xmo_103 <| xcns xmo_104 <| xcns xmo_105 <| xcns xmo_106 <| xcns xmo_107 <| xcns xmo_108 <| xcns xmo_109 <| xcns xmo_110 <| xcns xmo_111 <| xcns xmo_112 <| xcns xmo_113 <| xcns xmo_114 <| xcns xmo_115 <| xcns xmo_116 <| xcns xmo_117 <| xcns xmo_118 <| xcns xmo_119 <| xcns xmo_120 <| xcns xmo_121 <| xcns xmo_122 <| xcns xmo_123 <| xcns xmo_124 <| xcns xmo_125 <| xcns xmo_126 <| xcns xmo_127 <| xcns xmo_128 <| xcns xmo_129 <| xcns xmo_130 <| xcns xmo_131 <| xcns xmo_132 <| xcns xmo_133 <| xcns xmo_134 <| xcns xmo_135 <| xcns xmo_136 <| xcns xmo_137 <| xcns xmo_138 <| xcns xmo_139 <| xcns xmo_140 <| xcns xmo_141 <| xcns xmo_142 <| xcns xmo_143 <| xcns xmo_144 <| xcns xmo_145 <| xcns xmo_146 <| xcns xmo_147 <| xcns xmo_148 <| xcns xmo_149 <| xcns xmo_150 <| xcns xmo_151 <| xcns xmo_152 <| xcns xmo_153 <| xcns xmo_154 <| xcns xmo_155 <| xcns xmo_156 <| xcns xmo_157 <| xcns xmo_158 <| xcns xmo_159 <| xcns xmo_160 <| xcns xmo_161 <| xcns xmo_162 <| xcns xmo_163 <| xcns xmo_164 <| xcns xmo_165 <| xcns xmo_166 <| xcns xmo_167 <| xcns xmo_168 <| xcns xmo_169 <| xcns xmo_170 <| xcns xmo_171 <| xcns xmo_172 <| xcns xmo_173 <| xcns xmo_174 <| xcns xmo_175 <| xcns xmo_176 <| xcns xmo_177 <| xcns xmo_178 <| xcns xmo_179 <| xcns xmo_180 <| xcns xmo_181 <| xcns xmo_182 <| xcns xmo_183 <| xcns xmo_184 <| xcns xmo_185 <| xcns xmo_186 <| xcns xmo_187 <| xcns xmo_188 <| xcns xmo_189 <| xcns xmo_190 <| xcns xmo_191 <| xcns xmo_192 <| xcns xmo_193 <| xcns xmo_194 <| xcns xmo_195 <| xcns xmo_196 <| xcns xmo_197 <| xcns xmo_198 <| xcns xmo_199 <| xcns xmo_200 <| xcns xmo_201 <| xcns xmo_202 <| xcns xmo_203 <| xcns xmo_204 <| xcns xmo_205 <| xcns xmo_206 <| xcns xmo_207 <| xcns xmo_208 <| xcns xmo_209 <| xcns xmo_210 <| xcns xmo_211 <| xcns xmo_212 <| xcns xmo_213 <| xcns xmo_214 <| xcns xmo_215 <| xcns xmo_216 <| xcns xmo_217 <| xcns xmo_218 <| xcns xmo_219 <| xcns xmo_220 <| xcns xmo_221 <| xcns xmo_222 <| xcns xmo_223 <| xcns xmo_224 <| xcns xmo_225 <| xcns xmo_226 <| xcns xmo_227 <| xcns xmo_228 <| xcns xmo_229 <| xcns xmo_230 <| xcns xmo_231 <| xcns xmo_232 <| xcns xmo_233 <| xcns xmo_234 <| xcns xmo_235 <| xcns xmo_236 <| xcns xmo_237 <| xcns xmo_238 <| xcns xmo_239 <| xcns xmo_240 <| xcns xmo_241 <| xcns xmo_242 <| xcns xmo_243 <| xcns xmo_244 <| xcns xmo_245 <| xcns xmo_246 <| xcns xmo_247 <| xcns xmo_248 <| xcns xmo_249 <| xcns xmo_250 <| xcns xmo_251 <| xcns xmo_252 <| xcns xmo_253 <| xcns xmo_254 <| xcns xmo_255 <| xcns xmo_256 <| xcns xmo_257 <| xcns xmo_258 <| xcns xmo_259 <| xcns xmo_260 <| xcns xmo_261 <| xcns xmo_262 <| xcns xmo_263 <| xcns xmo_264 <| xcns xmo_265 <| xnl
theorem xmt_ok : ∀ (mi : Nat) (M : xM), xmt[mi]? = some M → xMok xmt M := fun _ M h => xmt_all M (List.mem_of_getElem? h)
end
section
def xK0 : xH := [.inr (11, [(1, 1), (1, 2), (1, 28), (1, 54), (1, 57), (1, 64), (1, 71), (1, 73), (1, 76), (1, 87), (1, 91), (0, 0), (0, 0), (0, 4294967295), (0, 0)]), .inl (1, List.replicate 800 (0, 0)), .inr (4, [(1, 3), (1, 5), (1, 7), (1, 9), (1, 11), (1, 12), (1, 13), (1, 14), (1, 15), (1, 16), (1, 17), (1, 18), (1, 19), (1, 20), (1, 21), (1, 22), (0, 0), (0, 0), (0, 0)]), .inr (6, [(1, 4), (0, 0)]), .inl (0, [(0, 0), (0, 0), (0, 0)]), .inr (6, [(1, 6), (0, 0)]), .inl (0, List.replicate 6 (0, 0)), .inr (6, [(1, 8), (0, 0)]), .inl (0, List.replicate 4 (0, 0)), .inr (6, [(1, 10), (0, 0)]), .inl (0, [(0, 0), (0, 0), (0, 0)]), .inl (0, [(0, 0), (0, 0), (0, 0)]), .inl (0, [(0, 0), (0, 0), (0, 0)]), .inl (0, List.replicate 6 (0, 0)), .inl (0, List.replicate 6 (0, 0)), .inl (0, List.replicate 6 (0, 0)), .inl (0, List.replicate 6 (0, 0)), .inl (0, List.replicate 6 (0, 0)), .inl (0, List.replicate 4 (0, 0)), .inl (0, List.replicate 12 (0, 0)), .inl (0, List.replicate 96 (0, 0)), .inl (0, [(0, 0), (0, 0), (0, 0)]), .inr (2, [(1, 23), (1, 24), (1, 25), (1, 26), (0, 0), (1, 27), (0, 0), (0, 0), (0, 0), (0, 1)]), .inl (0, List.replicate 64 (0, 0)), .inl (0, List.replicate 64 (0, 0)), .inl (0, List.replicate 5 (0, 0)), .inl (0, List.replicate 5 (0, 0)), .inl (0, List.replicate 72 (0, 0)), .inr (4, [(1, 29), (1, 31), (1, 33), (1, 35), (1, 37), (1, 38), (1, 39), (1, 40), (1, 41), (1, 42), (1, 43), (1, 44), (1, 45), (1, 46), (1, 47), (1, 48), (0, 0), (0, 0), (0, 0)]), .inr (6, [(1, 30), (0, 0)]), .inl (0, [(0, 0), (0, 0), (0, 0)]), .inr (6, [(1, 32), (0, 0)]), .inl (0, List.replicate 6 (0, 0)), .inr (6, [(1, 34), (0, 0)]), .inl (0, List.replicate 4 (0, 0)), .inr (6, [(1, 36), (0, 0)]), .inl (0, [(0, 0), (0, 0), (0, 0)]), .inl (0, [(0, 0), (0, 0), (0, 0)]), .inl (0, [(0, 0), (0, 0), (0, 0)]), .inl (0, List.replicate 6 (0, 0)), .inl (0, List.replicate 6 (0, 0)), .inl (0, List.replicate 6 (0, 0)), .inl (0, List.replicate 6 (0, 0)), .inl (0, List.replicate 6 (0, 0)), .inl (0, List.replicate 4 (0, 0)), .inl (0, List.replicate 12 (0, 0)), .inl (0, List.replicate 96 (0, 0)), .inl (0, [(0, 0), (0, 0), (0, 0)]), .inr (2, [(1, 49), (1, 50), (1, 51), (1, 52), (0, 0), (1, 53), (0, 0), (0, 0), (0, 0), (0, 1)]), .inl (0, List.replicate 64 (0, 0)), .inl (0, List.replicate 64 (0, 0)), .inl (0, List.replicate 5 (0, 0)), .inl (0, List.replicate 5 (0, 0)), .inl (0, List.replicate 72 (0, 0)), .inr (8, [(1, 55), (1, 28), (0, 0), (0, 0)]), .inr (9, [(1, 1), (1, 56), (0, 0), (0, 0), (0, 0), (0, 0), (0, 0), (0, 0), (0, 4294967295)]), .inl (0, [(0, 672863822), (0, 754224288), (0, 744049824), (0, 68523584), (0, 559500448), (0, 642945024), (0, 404455424), (0, 83656704), (0, 538687488), (0, 507661312), (0, 538529792), (0, 156401664), (0, 119573856), (0, 522190848), (0, 48365568), (0, 486146048), (0, 139546624), (0, 605688832), (0, 486151776), (0, 609866336), (0, 278110208), (0, 777169920), (0, 538530400)]), .inr (10, [(1, 58), (1, 59), (1, 60), (1, 61), (1, 62), (1, 63), (0, 0), (0, 0), (0, 0), (0, 0), (0, 0), (0, 4294967295), (0, 0)]), .inl (0, [(0, 0), (0, 0), (0, 0)]), .inl (0, List.replicate 6 (0, 0)), .inl (0, [(0, 0), (0, 0), (0, 0)]), .inl (0, List.replicate 12 (0, 4294967295)), .inl (0, List.replicate 12 (0, 0)), .inl (0, List.replicate 12 (0, 0)), .inr (10, [(1, 65), (1, 66), (1, 67), (1, 68), (1, 69), (1, 70), (0, 0), (0, 0), (0, 0), (0, 0), (0, 0), (0, 4294967295), (0, 0)]), .inl (0, [(0, 0), (0, 0), (0, 0)]), .inl (0, List.replicate 6 (0, 0)), .inl (0, [(0, 0), (0, 0), (0, 0)]), .inl (0, List.replicate 12 (0, 0)), .inl (0, List.replicate 12 (0, 0)), .inl (0, List.replicate 12 (0, 0)), .inr (3, [(1, 72), (0, 0)]), .inl (0, List.replicate 24 (0, 0)), .inr (5, [(1, 2), (1, 57), (1, 74), (1, 75), (0, 0), (0, 0)]), .inl (2, List.replicate 7 (4, 0)), .inl (2, List.replicate 64 (4, 0)), .inr (1, [(1, 2), (1, 57), (1, 73), (1, 77), (1, 78), (1, 79), (1, 80), (1, 86), (0, 0), (0, 0), (0, 0)]), .inl (0, List.replicate 72 (0, 0)), .inl (0, List.replicate 72 (0, 0)), .inl (0, List.replicate 25 (0, 0)), .inl (4, [(1, 81), (1, 82), (1, 83), (1, 84), (1, 85)]), .inl (0, List.replicate 97 (0, 0)), .inl (0, List.replicate 97 (0, 0)), .inl (0, List.replicate 97 (0, 0)), .inl (0, List.replicate 97 (0, 0)), .inl (0, List.replicate 97 (0, 0)), .inl (0, List.replicate 12 (0, 0)), .inr (7, [(1, 2), (1, 57), (1, 73), (1, 88), (1, 89), (1, 90)]), .inl (0, List.replicate 4 (0, 0)), .inl (0, List.replicate 4 (0, 0)), .inl (0, [(0, 0), (0, 0), (0, 0)]), .inr (0, [(1, 2), (1, 57), (1, 73), (1, 92), (1, 93), (1, 94), (0, 0), (0, 0), (0, 0), (0, 1000000)]), .inl (0, List.replicate 6 (0, 0)), .inl (0, List.replicate 4 (0, 0)), .inl (0, List.replicate 4 (0, 0)), .inr (12, [(0, 0), (1, 96), (0, 0), (1, 97), (1, 98), (1, 99), (1, 100), (1, 101), (1, 102), (1, 103), (1, 104), (1, 105), (1, 106), (1, 107), (1, 108), (1, 109), (1, 110), (1, 111), (1, 112), (1, 113), (1, 114), (1, 115), (1, 116), (1, 117), (0, 0), (0, 0), (0, 0), (0, 0), (0, 0), (0, 0), (0, 0), (0, 0), (0, 0), (0, 0), (0, 4294967295), (0, 0), (0, 0), (1, 118), (1, 119), (1, 120), (1, 121), (1, 122), (1, 123), (1, 124), (1, 125), (1, 126), (1, 127), (1, 128), (1, 129), (0, 0), (1, 130), (1, 131), (0, 0), (1, 132), (1, 133), (1, 134), (1, 135), (1, 136), (1, 137), (0, 0), (0, 0), (0, 0), (0, 4294967295), (1, 138), (1, 139), (1, 140), (1, 141), (1, 142), (0, 0)]), .inl (0, List.replicate 800 (0, 0)), .inl (0, List.replicate 14 (0, 0)), .inl (0, List.replicate 6 (0, 0)), .inl (0, List.replicate 6 (0, 0)), .inl (0, List.replicate 6 (0, 0)), .inl (0, List.replicate 12 (0, 0)), .inl (0, List.replicate 12 (0, 0)), .inl (0, List.replicate 12 (0, 0)), .inl (3, List.replicate 12 (0, 0)), .inl (0, List.replicate 12 (0, 4294967295)), .inl (0, List.replicate 12 (0, 0)), .inl (0, List.replicate 12 (0, 0)), .inl (0, List.replicate 8 (0, 0)), .inl (0, List.replicate 8 (0, 0)), .inl (0, List.replicate 24 (0, 0)), .inl (0, List.replicate 192 (0, 0)), .inl (0, List.replicate 6 (0, 0)), .inl (0, List.replicate 6 (0, 0)), .inl (0, List.replicate 10 (0, 0)), .inl (0, List.replicate 10 (0, 0)), .inl (0, List.replicate 128 (0, 0)), .inl (0, List.replicate 128 (0, 0)), .inl (0, [(0, 0), (0, 0)]), .inl (0, [(0, 0), (0, 0)]), .inl (0, [(0, 0), (0, 0)]), .inl (0, [(0, 0), (0, 0)]), .inl (0, [(0, 0), (0, 0)]), .inl (0, List.replicate 6 (0, 0)), .inl (0, List.replicate 6 (0, 0)), .inl (0, List.replicate 12 (0, 0)), .inl (0, [(0, 4294967295), (0, 4294967295), (0, 4294967295), (0, 4294967295), (0, 4294967295), (0, 4294967295), (0, 4294967295), (0, 4294967295), (0, 4294967295), (0, 4294967295), (0, 4294967295), (0, 4294967295), (0, 0), (0, 0), (0, 0), (0, 0), (0, 0), (0, 0), (0, 0), (0, 0), (0, 0), (0, 0), (0, 0), (0, 0)]), .inl (0, [(0, 0), (0, 0)]), .inl (0, List.replicate 24 (0, 0)), .inl (0, List.replicate 24 (0, 0)), .inl (2, List.replicate 7 (4, 0)), .inl (2, List.replicate 64 (4, 0)), .inl (0, List.replicate 5000 (0, 0)), .inl (0, List.replicate 5000 (0, 0)), .inl (0, List.replicate 72 (0, 0)), .inl (0, List.replicate 72 (0, 0)), .inl (0, [(0, 0), (0, 0), (0, 0)]), .inl (0, [(0, 0), (0, 0), (0, 0)]), .inl (0, List.replicate 24 (0, 0)), .inl (0, List.replicate 24 (0, 0)), .inl (3, List.replicate 24 (0, 0)), .inl (0, List.replicate 4 (0, 0)), .inl (0, List.replicate 4 (0, 0)), .inl (2, [(4, 0)])]
def xlv0 : xL := [(4, (0, 0)), (3, (1, 143)), (2, (1, 95)), (1, (1, 0)), (0, (5, 50))]
def xnil (r : Option (List xR)) : Bool := match r with
  | some [] => true
  | _ => false
def xstp0 : xRec := fun pc lv st K ce sl κ => if Nat.beq pc 23 && (decide (lv = xlv0) && (decide (st = []) && (decide (K = xK0) && (Nat.beq ce 144 && (Nat.beq sl 14558 && decide (κ = ([], []))))))) then some [] else none
end
section
abbrev yV : Type := Nat × Int
abbrev yMem : Type := Nat → Nat → Int
abbrev yS : Type := (Nat × Nat × List Nat) ⊕ (Nat × List yV)
abbrev yL : Type := List (Nat × yV)
/-- the shape of the two objects at the law's loop: an array (type, length, its references), an object (class, fields; numbers as 0) -/
def ysh : List yS := [.inr (11, [(1, 1), (1, 2), (1, 28), (1, 54), (1, 57), (1, 64), (1, 71), (1, 73), (1, 76), (1, 87), (1, 91), (0, 0), (0, 0), (0, 0), (0, 0)]), .inl (1, 800, []), .inr (4, [(1, 3), (1, 5), (1, 7), (1, 9), (1, 11), (1, 12), (1, 13), (1, 14), (1, 15), (1, 16), (1, 17), (1, 18), (1, 19), (1, 20), (1, 21), (1, 22), (0, 0), (0, 0), (0, 0)]), .inr (6, [(1, 4), (0, 0)]), .inl (0, 3, []), .inr (6, [(1, 6), (0, 0)]), .inl (0, 6, []), .inr (6, [(1, 8), (0, 0)]), .inl (0, 4, []), .inr (6, [(1, 10), (0, 0)]), .inl (0, 3, []), .inl (0, 3, []), .inl (0, 3, []), .inl (0, 6, []), .inl (0, 6, []), .inl (0, 6, []), .inl (0, 6, []), .inl (0, 6, []), .inl (0, 4, []), .inl (0, 12, []), .inl (0, 96, []), .inl (0, 3, []), .inr (2, [(1, 23), (1, 24), (1, 25), (1, 26), (0, 0), (1, 27), (0, 0), (0, 0), (0, 0), (0, 0)]), .inl (0, 64, []), .inl (0, 64, []), .inl (0, 5, []), .inl (0, 5, []), .inl (0, 72, []), .inr (4, [(1, 29), (1, 31), (1, 33), (1, 35), (1, 37), (1, 38), (1, 39), (1, 40), (1, 41), (1, 42), (1, 43), (1, 44), (1, 45), (1, 46), (1, 47), (1, 48), (0, 0), (0, 0), (0, 0)]), .inr (6, [(1, 30), (0, 0)]), .inl (0, 3, []), .inr (6, [(1, 32), (0, 0)]), .inl (0, 6, []), .inr (6, [(1, 34), (0, 0)]), .inl (0, 4, []), .inr (6, [(1, 36), (0, 0)]), .inl (0, 3, []), .inl (0, 3, []), .inl (0, 3, []), .inl (0, 6, []), .inl (0, 6, []), .inl (0, 6, []), .inl (0, 6, []), .inl (0, 6, []), .inl (0, 4, []), .inl (0, 12, []), .inl (0, 96, []), .inl (0, 3, []), .inr (2, [(1, 49), (1, 50), (1, 51), (1, 52), (0, 0), (1, 53), (0, 0), (0, 0), (0, 0), (0, 0)]), .inl (0, 64, []), .inl (0, 64, []), .inl (0, 5, []), .inl (0, 5, []), .inl (0, 72, []), .inr (8, [(1, 55), (1, 28), (0, 0), (0, 0)]), .inr (9, [(1, 1), (1, 56), (0, 0), (0, 0), (0, 0), (0, 0), (0, 0), (0, 0), (0, 0)]), .inl (0, 23, []), .inr (10, [(1, 58), (1, 59), (1, 60), (1, 61), (1, 62), (1, 63), (0, 0), (0, 0), (0, 0), (0, 0), (0, 0), (0, 0), (0, 0)]), .inl (0, 3, []), .inl (0, 6, []), .inl (0, 3, []), .inl (0, 12, []), .inl (0, 12, []), .inl (0, 12, []), .inr (10, [(1, 65), (1, 66), (1, 67), (1, 68), (1, 69), (1, 70), (0, 0), (0, 0), (0, 0), (0, 0), (0, 0), (0, 0), (0, 0)]), .inl (0, 3, []), .inl (0, 6, []), .inl (0, 3, []), .inl (0, 12, []), .inl (0, 12, []), .inl (0, 12, []), .inr (3, [(1, 72), (0, 0)]), .inl (0, 24, []), .inr (5, [(1, 2), (1, 57), (1, 74), (1, 75), (0, 0), (0, 0)]), .inl (2, 7, []), .inl (2, 64, []), .inr (1, [(1, 2), (1, 57), (1, 73), (1, 77), (1, 78), (1, 79), (1, 80), (1, 86), (0, 0), (0, 0), (0, 0)]), .inl (0, 72, []), .inl (0, 72, []), .inl (0, 25, []), .inl (4, 5, [81, 82, 83, 84, 85]), .inl (0, 97, []), .inl (0, 97, []), .inl (0, 97, []), .inl (0, 97, []), .inl (0, 97, []), .inl (0, 12, []), .inr (7, [(1, 2), (1, 57), (1, 73), (1, 88), (1, 89), (1, 90)]), .inl (0, 4, []), .inl (0, 4, []), .inl (0, 3, []), .inr (0, [(1, 2), (1, 57), (1, 73), (1, 92), (1, 93), (1, 94), (0, 0), (0, 0), (0, 0), (0, 0)]), .inl (0, 6, []), .inl (0, 4, []), .inl (0, 4, []), .inr (12, [(0, 0), (1, 96), (0, 0), (1, 97), (1, 98), (1, 99), (1, 100), (1, 101), (1, 102), (1, 103), (1, 104), (1, 105), (1, 106), (1, 107), (1, 108), (1, 109), (1, 110), (1, 111), (1, 112), (1, 113), (1, 114), (1, 115), (1, 116), (1, 117), (0, 0), (0, 0), (0, 0), (0, 0), (0, 0), (0, 0), (0, 0), (0, 0), (0, 0), (0, 0), (0, 0), (0, 0), (0, 0), (1, 118), (1, 119), (1, 120), (1, 121), (1, 122), (1, 123), (1, 124), (1, 125), (1, 126), (1, 127), (1, 128), (1, 129), (0, 0), (1, 130), (1, 131), (0, 0), (1, 132), (1, 133), (1, 134), (1, 135), (1, 136), (1, 137), (0, 0), (0, 0), (0, 0), (0, 0), (1, 138), (1, 139), (1, 140), (1, 141), (1, 142), (0, 0)]), .inl (0, 800, []), .inl (0, 14, []), .inl (0, 6, []), .inl (0, 6, []), .inl (0, 6, []), .inl (0, 12, []), .inl (0, 12, []), .inl (0, 12, []), .inl (3, 12, []), .inl (0, 12, []), .inl (0, 12, []), .inl (0, 12, []), .inl (0, 8, []), .inl (0, 8, []), .inl (0, 24, []), .inl (0, 192, []), .inl (0, 6, []), .inl (0, 6, []), .inl (0, 10, []), .inl (0, 10, []), .inl (0, 128, []), .inl (0, 128, []), .inl (0, 2, []), .inl (0, 2, []), .inl (0, 2, []), .inl (0, 2, []), .inl (0, 2, []), .inl (0, 6, []), .inl (0, 6, []), .inl (0, 12, []), .inl (0, 24, []), .inl (0, 2, []), .inl (0, 24, []), .inl (0, 24, []), .inl (2, 7, []), .inl (2, 64, []), .inl (0, 5000, []), .inl (0, 5000, []), .inl (0, 72, []), .inl (0, 72, []), .inl (0, 3, []), .inl (0, 3, []), .inl (0, 24, []), .inl (0, 24, []), .inl (3, 24, []), .inl (0, 4, []), .inl (0, 4, []), .inl (2, 1, [])]
end
section
set_option maxRecDepth 1000000 in
theorem xpro : xnil (xeT xmt [] true 6000 xm_L0 xstp0 50 0 [(0, (5, 50))] [] [] 0 0 ([], [])) = true := by decide +kernel
end
section
/-! THE LOGIC: a method's frame over a memory of integers, whose shape is the one of the two objects at the law's loop. A value (tag, number): (0, x) int, (1, i) the cell i, (2, _) null, (4, x) long, (5, k) a constant text, (6, k) its bytes, (7, _) a reference that is passed on alone. Numbers stand for their remainders by 2^32 (2^64). -/
abbrev yE : Type := Nat × (Nat → Nat) × (Nat → ClassId) × va_G × Launch × (State → Prop)
abbrev yb (E : yE) : Nat := E.1
abbrev ysa (E : yE) : Nat → Nat := E.2.1
abbrev yda (E : yE) : Nat → ClassId := E.2.2.1
abbrev yD (E : yE) : va_G := E.2.2.2.1
abbrev yl (E : yE) : Launch := E.2.2.2.2.1
abbrev yEX (E : yE) : State → Prop := E.2.2.2.2.2
def iI (x : Int) : Int32 := Int32.ofInt x
def lI (x : Int) : Int64 := Int64.ofInt x
def w32 (x : Int) : Int := (iI x).toInt
def w64 (x : Int) : Int := (lI x).toInt
theorem iI_w (x : Int) : iI (w32 x) = iI x := Int32.ofInt_toInt _
theorem lI_w (x : Int) : lI (w64 x) = lI x := Int64.ofInt_toInt _
theorem iI_t (x : Int32) : iI x.toInt = x := Int32.ofInt_toInt _
theorem lI_t (x : Int64) : lI x.toInt = x := Int64.ofInt_toInt _
theorem w32_of {x : Int} (h1 : -2147483648 ≤ x) (h2 : x < 2147483648) : w32 x = x := Int32.toInt_ofInt_of_le (by simpa using h1) (by simpa using h2)
theorem w64_of {x : Int} (h1 : -9223372036854775808 ≤ x) (h2 : x < 9223372036854775808) : w64 x = x := Int64.toInt_ofInt_of_le (by simpa using h1) (by simpa using h2)
theorem w32_lo (x : Int) : -2147483648 ≤ w32 x := by have := Int32.le_toInt (iI x); simpa [w32] using this
theorem w32_hi (x : Int) : w32 x < 2147483648 := by have := Int32.toInt_lt (iI x); simpa [w32] using this
theorem w64_lo (x : Int) : -9223372036854775808 ≤ w64 x := by have := Int64.le_toInt (lI x); simpa [w64] using this
theorem w64_hi (x : Int) : w64 x < 9223372036854775808 := by have := Int64.toInt_lt (lI x); simpa [w64] using this
theorem w32_w (x : Int) : w32 (w32 x) = w32 x := w32_of (w32_lo x) (w32_hi x)
theorem iI_inj {x y : Int} : iI x = iI y ↔ w32 x = w32 y := Int32.toInt_inj.symm
theorem lI_inj {x y : Int} : lI x = lI y ↔ w64 x = w64 y := Int64.toInt_inj.symm
theorem iI_n (n : Nat) : iI (n : Int) = nI n := Int32.ofInt_eq_ofNat
/-- a constant -/
def cI (a : Nat) : Int := if Nat.blt a 2147483648 then (a : Int) else (a : Int) - 4294967296
def cL (a : Nat) : Int := if Nat.blt a 9223372036854775808 then (a : Int) else (a : Int) - 18446744073709551616
theorem iI_c (a : Nat) : iI (cI a) = nI a := by
  unfold cI
  split
  · exact iI_n a
  · have : iI ((a : Int) - 4294967296) = iI (a : Int) - iI 4294967296 := Int32.ofInt_sub _ _
    rw [this, iI_n, show iI 4294967296 = 0 by decide]
    exact Int32.sub_zero _
theorem lI_c (a : Nat) : lI (cL a) = lN a := by
  unfold cL
  split
  · exact Int64.ofInt_eq_ofNat
  · have : lI ((a : Int) - 18446744073709551616) = lI (a : Int) - lI 18446744073709551616 := Int64.ofInt_sub _ _
    rw [this, show lI 18446744073709551616 = 0 by decide]
    rw [Int64.sub_zero]
    exact Int64.ofInt_eq_ofNat
def ydv (E : yE) (v : yV) : Value := match v with
  | (0, x) => .int (iI x)
  | (1, i) => .ref (yb E + i.toNat)
  | (2, _) => .null
  | (5, k) => .ref (ysa E k.toNat)
  | (6, k) => .ref (ysa E (k.toNat + 1000))
  | (7, _) => if ysa E 98 = 0 then .null else .ref (ysa E 99)
  | (_, x) => .long (lI x)
def yfv (v : yV) (x : Int) : yV := match v with
  | (0, _) => (0, x)
  | (4, _) => (4, x)
  | v => v
def yfs (E : yE) : Nat → List yV → (Nat → Int) → List Value
  | _, [], _ => []
  | j, v :: r, f => ydv E (yfv v (f j)) :: yfs E (j + 1) r f
theorem yfs_get {E : yE} {f : Nat → Int} : ∀ (fs : List yV) (o k : Nat), (yfs E o fs f)[k]? = fs[k]?.map (fun v => ydv E (yfv v (f (o + k))))
  | [], o, k => by simp [yfs]
  | v :: r, o, 0 => by simp [yfs]
  | v :: r, o, k + 1 => by
    simp only [yfs, List.getElem?_cons_succ]
    rw [yfs_get r (o + 1) k, show o + 1 + k = o + (k + 1) by omega]
theorem yfs_len {E : yE} {f : Nat → Int} : ∀ (fs : List yV) (o : Nat), (yfs E o fs f).length = fs.length
  | [], o => rfl
  | v :: r, o => by simp [yfs, yfs_len r (o + 1)]
theorem yfs_ext {E : yE} {f g : Nat → Int} : ∀ (fs : List yV) (o : Nat), (∀ j, o ≤ j → f j = g j) → yfs E o fs f = yfs E o fs g
  | [], o, h => rfl
  | v :: r, o, h => by
    simp only [yfs]
    rw [h o (Nat.le_refl _), yfs_ext r (o + 1) (fun j hj => h j (by omega))]
theorem yfs_set {E : yE} {f : Nat → Int} {x : Int} : ∀ (fs : List yV) (o k : Nat) (v : yV), fs[k]? = some v → (yfs E o fs f).set k (ydv E (yfv v x)) = yfs E o fs (fun j => if j = o + k then x else f j)
  | [], o, k, v, h => by simp at h
  | w :: r, o, 0, v, h => by
    simp only [List.getElem?_cons_zero, Option.some.injEq] at h
    subst h
    simp only [yfs, List.set_cons_zero, Nat.add_zero, if_true]
    congr 1
    exact yfs_ext r (o + 1) (fun j hj => by rw [if_neg (by omega)])
  | w :: r, o, k + 1, v, h => by
    simp only [List.getElem?_cons_succ] at h
    simp only [yfs, List.set_cons_succ]
    rw [yfs_set r (o + 1) k v h, if_neg (by omega)]
    congr 1
    exact yfs_ext r (o + 1) (fun j hj => by rw [show o + 1 + k = o + (k + 1) by omega])
def yce (E : yE) (S : yS) (f : Nat → Int) : va_E := match S with
  | .inl (2, n, _) => .inl (yda E 2, n, .inr (.inl (fun j => lI (f j))))
  | .inl (4, n, rs) => .inl (yda E 4, n, .inr (.inr (.inr (.inr (fun j => (rs[j]?).map (fun q => yb E + q))))))
  | .inl (k, n, _) => .inl (yda E k, n, .inl (fun j => iI (f j)))
  | .inr (ci, fs) => .inr (ci, yfs E 0 fs f)
def ycx (E : yE) (mem : yMem) : Nat → List yS → va_W
  | _, [] => []
  | i, S :: r => (yb E + i, yce E S (mem i)) :: ycx E mem (i + 1) r
theorem ycx_get {E : yE} {mem : yMem} : ∀ (L : List yS) (o i : Nat), (ycx E mem o L)[i]? = L[i]?.map (fun S => (yb E + (o + i), yce E S (mem (o + i))))
  | [], o, i => by simp [ycx]
  | S :: r, o, 0 => by simp [ycx]
  | S :: r, o, i + 1 => by
    simp only [ycx, List.getElem?_cons_succ]
    rw [ycx_get r (o + 1) i, show o + 1 + i = o + (i + 1) by omega]
theorem ycx_ext {E : yE} {mem mem' : yMem} : ∀ (L : List yS) (o : Nat), (∀ c, o ≤ c → mem c = mem' c) → ycx E mem o L = ycx E mem' o L
  | [], o, h => rfl
  | S :: r, o, h => by
    simp only [ycx]
    rw [h o (Nat.le_refl _), ycx_ext r (o + 1) (fun j hj => h j (by omega))]
theorem ycx_set {E : yE} {mem : yMem} {f : Nat → Int} : ∀ (L : List yS) (o i : Nat) (S : yS), L[i]? = some S → (ycx E mem o L).set i (yb E + (o + i), yce E S f) = ycx E (fun c => if c = o + i then f else mem c) o L
  | [], o, i, S, h => by simp at h
  | T :: r, o, 0, S, h => by
    simp only [List.getElem?_cons_zero, Option.some.injEq] at h
    subst h
    simp only [ycx, List.set_cons_zero, Nat.add_zero, if_true]
    congr 1
    exact ycx_ext r (o + 1) (fun c hc => by rw [if_neg (by omega)])
  | T :: r, o, i + 1, S, h => by
    simp only [List.getElem?_cons_succ] at h
    simp only [ycx, List.set_cons_succ]
    rw [show o + (i + 1) = o + 1 + i by omega, ycx_set r (o + 1) i S h, if_neg (by omega)]
abbrev yW (E : yE) (mem : yMem) : va_W := ycx E mem 0 ysh
def yset (mem : yMem) (i n : Nat) (x : Int) : yMem := fun c j => if c = i then (if j = n then x else mem c j) else mem c j
def ycpy (mem : yMem) (ss sp dd dp n : Nat) : yMem := fun c j => if c = dd then (if dp ≤ j ∧ j < dp + n then mem ss (sp + (j - dp)) else mem c j) else mem c j
theorem yset_eq (mem : yMem) (i n : Nat) (x : Int) : (fun c => if c = 0 + i then (fun j => if j = n then x else mem i j) else mem c) = yset mem i n x := by
  funext c j
  simp only [yset, Nat.zero_add]
  by_cases h : c = i
  · subst h; simp
  · simp [h]
theorem ycpy_eq (mem : yMem) (ss sp dd dp n : Nat) : (fun c => if c = 0 + dd then va_cpy (mem ss) (mem dd) sp dp n else mem c) = ycpy mem ss sp dd dp n := by
  funext c j
  simp only [ycpy, Nat.zero_add]
  by_cases h : c = dd
  · subst h; simp [va_cpy]
  · simp [h]
theorem yW_at {E : yE} {mem : yMem} {i : Nat} {S : yS} (h : ysh[i]? = some S) : (yW E mem)[i]? = some (yb E + i, yce E S (mem i)) := by
  rw [ycx_get, h, Nat.zero_add]
  rfl
theorem yW_put {E : yE} {mem : yMem} {i : Nat} {S : yS} {f : Nat → Int} (h : ysh[i]? = some S) : (yW E mem).set i (yb E + i, yce E S f) = yW E (fun c => if c = 0 + i then f else mem c) := by
  have := ycx_set (E := E) (mem := mem) (f := f) ysh 0 i S h
  rw [Nat.zero_add] at this ⊢
  exact this
theorem yW_D {E : yE} {mem : yMem} {A : Nat → Prop} (h : ∀ i, i < ysh.length → A (yb E + i)) : va_D A (yW E mem) := by
  refine ⟨fun i j p q hi hj hpq => ?_, fun k q hk => ?_⟩
  · rw [ycx_get] at hi hj
    cases h1 : ysh[i]? with
    | none => rw [h1] at hi; cases hi
    | some x =>
      cases h2 : ysh[j]? with
      | none => rw [h2] at hj; cases hj
      | some y =>
        rw [h1] at hi; rw [h2] at hj
        cases hi; cases hj
        dsimp only at hpq
        omega
  · rw [ycx_get] at hk
    cases h1 : ysh[k]? with
    | none => rw [h1] at hk; cases hk
    | some x =>
      rw [h1] at hk
      cases hk
      have := (List.getElem?_eq_some_iff.mp h1).1
      rw [show yb E + (0 + k) = yb E + k by omega]
      exact h k this
/-! locals -/
def ykdb (k : Nat) (v : yV) : Bool := match k with
  | 0 => Nat.beq v.1 0
  | 1 => Nat.beq v.1 1 || (Nat.beq v.1 2 || (Nat.beq v.1 5 || (Nat.beq v.1 6 || Nat.beq v.1 7)))
  | _ => Nat.beq v.1 4
def ycat (v : yV) : Nat := match v with
  | (0, _) => 1
  | (1, _) => 1
  | (2, _) => 1
  | (5, _) => 1
  | (6, _) => 1
  | (7, _) => 1
  | _ => 2
theorem ycat_ok {E : yE} (v : yV) : (ydv E v).category = ycat v := by
  match v with
  | (0, _) | (1, _) | (2, _) | (3, _) | (4, _) | (5, _) | (6, _) => rfl
  | (7, _) =>
    simp only [ydv, ycat]
    split <;> rfl
  | (n + 8, _) => rfl
theorem yk0 {v : yV} (h : ykdb 0 v = true) : v = (0, v.2) := by
  obtain ⟨t, x⟩ := v
  have : t = 0 := Nat.eq_of_beq_eq_true h
  subst this
  rfl
theorem yk1 {E : yE} {v : yV} (h : ykdb 1 v = true) : xkd 1 (ydv E v) := by
  match v, h with
  | (1, _), _ => exact Or.inr ⟨_, rfl⟩
  | (2, _), _ => exact Or.inl rfl
  | (5, _), _ => exact Or.inr ⟨_, rfl⟩
  | (6, _), _ => exact Or.inr ⟨_, rfl⟩
  | (7, _), _ =>
    simp only [ydv]
    split
    · exact Or.inl rfl
    · exact Or.inr ⟨_, rfl⟩
  | (0, _), h | (3, _), h | (4, _), h => cases h
  | (n + 8, _), h => cases h
theorem yk2 {v : yV} (h : ykdb 2 v = true) : v = (4, v.2) := by
  obtain ⟨t, x⟩ := v
  have : t = 4 := Nat.eq_of_beq_eq_true h
  subst this
  rfl
theorem ykk {E : yE} {k : Nat} (hk : k < 3) {v : yV} (h : ykdb k v = true) : xkd k (ydv E v) := by
  match k, hk, h with
  | 0, _, h => rw [yk0 h]; exact ⟨_, rfl⟩
  | 1, _, h => exact yk1 h
  | 2, _, h => rw [yk2 h]; exact ⟨_, rfl⟩
def ylk : yL → Nat → Option yV
  | [], _ => none
  | q :: r, i => if Nat.beq q.1 i then some q.2 else ylk r i
theorem ylk_mem : ∀ {l : yL} {i : Nat} {v : yV}, ylk l i = some v → (i, v) ∈ l
  | q :: r, i, o, h => by
    simp only [ylk] at h
    split at h
    · next he =>
      cases h
      rw [Nat.beq_eq] at he
      subst he
      exact List.mem_cons_self
    · exact List.mem_cons_of_mem _ (ylk_mem h)
def yflb (k i : Nat) (q : Nat × yV) : Bool := match k with
  | 2 => !(Nat.beq q.1 i) && (!(Nat.beq q.1 (i + 1)) && !(Nat.beq (q.1 + 1) i && Nat.beq (ycat q.2) 2))
  | _ => !(Nat.beq q.1 i) && !(Nat.beq (q.1 + 1) i && Nat.beq (ycat q.2) 2)
def ydL (E : yE) (lv : yL) : List (Nat × Value) := lv.map (fun q => (q.1, ydv E q.2))
theorem yflb_ok {E : yE} (k i : Nat) (lv : yL) : (ydL E lv).filter (xfl k i) = ydL E (lv.filter (yflb k i)) := by
  unfold ydL
  rw [List.filter_map]
  congr 1
  apply List.filter_congr
  intro q _
  show xfl k i (q.1, ydv E q.2) = yflb k i q
  match k with
  | 0 | 1 => simp only [xfl, yflb, xbeq, ycat_ok]
  | 2 => simp only [xfl, yflb, xbeq, ycat_ok]
  | n + 3 => simp only [xfl, yflb, xbeq, ycat_ok]
def ysum : List yV → Nat
  | [] => 0
  | v :: r => ycat v + ysum r
theorem ysum_ok {E : yE} : ∀ st : List yV, ((st.map (ydv E)).map fun v => v.category).sum = ysum st
  | [] => rfl
  | v :: r => by
    simp only [List.map_cons, List.sum_cons, ysum, ycat_ok]
    rw [ysum_ok r]
theorem ysum_app (a : List yV) : ∀ c : List yV, ysum (c ++ a) = ysum c + ysum a
  | [] => by simp [ysum]
  | v :: r => by simp [ysum, ysum_app a r, Nat.add_assoc]
theorem ysum_rev : ∀ a : List yV, ysum a.reverse = ysum a
  | [] => rfl
  | v :: r => by
    rw [List.reverse_cons, ysum_app, ysum_rev r]
    simp [ysum, Nat.add_comm]
def yargs : Nat → List yV → yL
  | _, [] => []
  | i, v :: r => (i, v) :: yargs (i + ycat v) r
theorem ycat12 (v : yV) (i : Nat) : (if ycat v = 2 then i + 2 else i + 1) = i + ycat v := by
  match v with
  | (0, _) | (1, _) | (2, _) | (3, _) | (4, _) | (5, _) | (6, _) | (7, _) => rfl
  | (n + 8, _) => rfl
theorem yargs_ok {E : yE} : ∀ (vs : List yV) (i : Nat), lv_args i (vs.map (ydv E)) = ydL E (yargs i vs)
  | [], _ => rfl
  | v :: r, i => by
    simp only [List.map_cons, lv_args, yargs, ydL]
    rw [ycat_ok]
    congr 1
    rw [ycat12]
    exact yargs_ok r (i + ycat v)
theorem ylen_ok {E : yE} : ∀ vs : List yV, (lg_sl (vs.map (ydv E))).length = ysum vs
  | [] => rfl
  | v :: r => by
    have ih := ylen_ok (E := E) r
    simp only [lg_sl, List.map_cons, List.flatMap_cons, List.length_append, ysum] at ih ⊢
    rw [ih, ycat_ok]
    match v with
    | (0, _) | (1, _) | (2, _) | (3, _) | (4, _) | (5, _) | (6, _) | (7, _) => rfl
    | (n + 8, _) => rfl
/-! the judgements -/
def yR (d : Nat) : Room := { frames := d, cells := 0, slots := 0, locals := 64 * d }
def yCtx (E : yE) (M : xM) (p : Program) (s : State) (m : MethodId) (args : Array Value) (meth : Method) (c : Code) (A : Nat → Prop) : Prop := xCtx (yb E) (yda E) (yD E) M p s m args meth c A (yEX E) ∧ ∀ i, i < ysh.length → A (yb E + i)
def yG (E : yE) (R : Room) (M : xM) (pc : Nat) (lv : yL) (st : List yV) (mem : yMem) (ce sl : Nat) (Post : Option yV → yMem → Prop) : Prop :=
  ∀ (p : Program) (e : Env) (s : State) (m : MethodId) (args : Array Value) (below : List Frame) (meth : Method) (c : Code) (A : Nat → Prop) (Qc : Array Value → State → Outcome → State → Prop), yCtx E M p s m args meth c A → (∀ (r : Option yV) (mem' : yMem) (t : State), Post r mem' → va_P (yD E) vwCl (yW E mem') t.heap → va_F A s t → Qc args s (.returned (r.map (ydv E))) t) →
    ∀ (H : Heap) (locs : List Loc) (ls : Array Slot), lv_has ls (xMl M) (ydL E lv) → va_P (yD E) vwCl (yW E mem) H → va_S A s.heap H locs → W p (yl E) e R s m args below meth c H locs ce sl (MQ below Qc args s R.cells R.slots A) (F0 m pc ls (st.map (ydv E)))
def yPp (E : yE) (mem : yMem) (sz : Nat) (U : State) : Prop := U.heap.size = sz ∧ va_P (yD E) vwCl (yW E mem) U.heap ∧ va_K (yD E) vwCl (xtys (yda E)) U ∧ yEX E U
def yQp (E : yE) (sz : Nat) (Post : Option yV → yMem → Prop) : State → Outcome → State → Prop := fun u o t =>
  ∃ (r : Option yV) (mem' : yMem), Post r mem' ∧ o = .returned (r.map (ydv E)) ∧ va_P (yD E) vwCl (yW E mem') t.heap ∧ va_F (xA (yb E) ysh.length sz) u t
def yCon (E : yE) (d : Nat) (M : xM) (avs : List yV) (mem : yMem) (Post : Option yV → yMem → Prop) : Prop :=
  ∀ sz : Nat, yb E + ysh.length ≤ sz → Met (yl E) (xMy M) (xWs M) (yR d) (va_Pc (avs.map (ydv E)) (yPp E mem sz)) (fun _ => yQp E sz Post) 0 0 (xA (yb E) ysh.length sz)
def yEok (E : yE) : Prop := (yl E).stackTraces = false ∧ xEok (yb E) (ysa E) (yEX E)
/-- a method's contract out of the walk of its body -/
theorem yCon_of {E : yE} {d : Nat} {M : xM} (hM : xMok xmt M) {avs : List yV} {mem : yMem} {Post : Option yV → yMem → Prop} (hs : ysum avs ≤ xMl M) (h : yG E (yR d) M 0 (yargs 0 avs) [] mem 0 0 Post) : yCon E d M avs mem Post := by
  intro sz hb
  refine Met.ofW (cc := xMc M) (maxL := xMl M) (ret := xMr M) hM.2.2.2.1 rfl ?_
  intro p e s m args below meth c s₁ B hml hv
  obtain ⟨rfl, hsz, hP, hK, hEX⟩ := hv
  subst hsz
  have hts := atoms_spec (ws := xWs M) B.pre
  have hown : s.vm.findClass (xMy M).cls = some m.cls := findClass_of_methodNamed B.named
  have hC : xCtx (yb E) (yda E) (yD E) M p s m (avs.map (ydv E)).toArray meth c (xA (yb E) ysh.length s.heap.size) (yEX E) :=
    ⟨⟨B.exec, B.bytes, by rw [hM.2.2.2.2.1]; exact hown, fun w hw => hts w (List.mem_cons_of_mem _ hw)⟩, hml, hK, fun q h => Or.inr h, fun q h => by
      rcases h with h | h
      · exact h.1
      · omega, B.returns, B.notSynchronized, (fun h => (name_of_methodNamed B.named B.method).1.trans h), hEX, by omega⟩
  have hl := lv_entry (avs.map (ydv E)) (n := xMl M) (by rw [ylen_ok]; exact hs)
  rw [yargs_ok] at hl
  rw [lg_entry_eq]
  exact h p e s m _ below meth c _ (fun _ => yQp E s.heap.size Post) ⟨hC, fun i hi => Or.inl ⟨by omega, by omega⟩⟩ (fun r mem' t h1 h2 h3 => ⟨r, mem', h1, rfl, h2, h3⟩) _ [] _ hl hP va_S.rf
end
section
/-! ONE INSTRUCTION of a frame: what must hold, and what goes on -/
def ybin (o : Nat) (x y : Int) : Int := match o with
  | 0 => x + y
  | 1 => x - y
  | 2 => x * y
  | o => (fbin o (iI x) (iI y)).toInt
theorem ybin_ok (o : Nat) (x y : Int) : iI (ybin o x y) = fbin o (iI x) (iI y) := by
  match o with
  | 0 => exact Int32.ofInt_add x y
  | 1 => exact Int32.ofInt_sub x y
  | 2 => exact Int32.ofInt_mul x y
  | n + 3 => exact iI_t _
def ylbin (o : Nat) (x y : Int) : Int := match o with
  | 0 => x + y
  | 1 => x - y
  | 2 => x * y
  | o => (gbin o (lI x) (lI y)).toInt
theorem ylbin_ok (o : Nat) (x y : Int) : lI (ylbin o x y) = gbin o (lI x) (lI y) := by
  match o with
  | 0 => exact Int64.ofInt_add x y
  | 1 => exact Int64.ofInt_sub x y
  | 2 => exact Int64.ofInt_mul x y
  | n + 3 => exact lI_t _
def ycmp (x y : Int) : Int := if w64 y < w64 x then 1 else if w64 x = w64 y then 0 else -1
theorem ycmp_ok (x y : Int) : iI (ycmp x y) = lg_cmp (lI x) (lI y) := by
  unfold ycmp lg_cmp
  have e1 : (lI x > lI y) ↔ w64 y < w64 x := Int64.lt_iff_toInt_lt
  have e2 : (lI x = lI y) ↔ w64 x = w64 y := lI_inj
  by_cases h1 : w64 y < w64 x
  · rw [if_pos h1, if_pos (e1.mpr h1)]; rfl
  · rw [if_neg h1, if_neg (fun z => h1 (e1.mp z))]
    by_cases h2 : w64 x = w64 y
    · rw [if_pos h2, if_pos (e2.mpr h2)]; rfl
    · rw [if_neg h2, if_neg (fun z => h2 (e2.mp z))]; rfl
/-- comparing: 0 =, 1 not =, 2 <, 3 >=, 4 >, 5 <= -/
def ycp (c : Nat) (x y : Int) : Prop := match c with
  | 0 => w32 x = w32 y
  | 1 => ¬ w32 x = w32 y
  | 2 => w32 x < w32 y
  | 3 => w32 y ≤ w32 x
  | 4 => w32 y < w32 x
  | _ => w32 x ≤ w32 y
theorem ycp_ok (c : Nat) (x y : Int) : xcp c (iI x) (iI y) ↔ ycp c x y := by
  match c with
  | 0 => exact iI_inj
  | 1 => exact not_congr iI_inj
  | 2 => exact Int32.lt_iff_toInt_lt
  | 3 => exact Int32.le_iff_toInt_le
  | 4 => exact Int32.lt_iff_toInt_lt
  | n + 5 => exact Int32.le_iff_toInt_le
def yput (st : List yV) (r : Option yV) : List yV := match r with
  | some v => v :: st
  | none => st
def ycall (E : yE) (d mi n0 : Nat) (st : List yV) (mem : yMem) (k : List yV → yMem → Prop) : Prop := match xmt[mi]? with
  | none => False
  | some M' => xMn M' + n0 ≤ st.length ∧ ysum (st.drop (xMn M' + n0)) ≤ 8 ∧ ysum (st.take (xMn M' + n0)) ≤ xMl M' ∧ xMl M' ≤ 45 ∧ yCon E d M' (st.take (xMn M' + n0)).reverse mem (fun r mem' => k (yput (st.drop (xMn M' + n0)) r) mem')
theorem w32_01 {x : Int} (h : w32 x = 0 ∨ w32 x = 1) : iI x = iI 0 ∨ iI x = iI 1 := by
  rcases h with h | h
  · exact Or.inl (iI_inj.mpr (by rw [h]; decide))
  · exact Or.inr (iI_inj.mpr (by rw [h]; decide))
/-- may a field of this type hold it -/
def yfit (t : Nat) (v w : yV) : Prop := match t with
  | 0 => v.1 = 0 ∧ w.1 = 0
  | 2 => v.1 = 4 ∧ w.1 = 4
  | 3 => v.1 = 0 ∧ (w32 v.2 = 0 ∨ w32 v.2 = 1) ∧ w.1 = 0
  | _ => False
def ynok (t : Nat) (x : Int) : Prop := match t with
  | 0 => True
  | 1 => -128 ≤ w32 x ∧ w32 x ≤ 127
  | 3 => w32 x = 0 ∨ w32 x = 1
  | _ => False
def ystep (E : yE) (R : Room) (d : Nat) (M : xM) (op : xOp) (lv : yL) (st : List yV) (mem : yMem) (Post : Option yV → yMem → Prop) (k : Nat → yL → List yV → yMem → Prop) : Prop := match op.1 with
  | 0 => k op.2.1 lv ((0, cI op.2.2.1) :: st) mem
  | 1 => k op.2.1 lv ((4, cL op.2.2.1) :: st) mem
  | 2 => ∃ v, ylk lv op.2.2.2.1 = some v ∧ ykdb op.2.2.1 v = true ∧ k op.2.1 lv (v :: st) mem
  | 3 => match st with
    | v :: st' => ykdb op.2.2.1 v = true ∧ op.2.2.2.1 + xwd op.2.2.1 < xMl M ∧ k op.2.1 ((op.2.2.2.1, v) :: lv.filter (yflb op.2.2.1 op.2.2.2.1)) st' mem
    | _ => False
  | 4 => ∃ x, ylk lv op.2.2.1 = some (0, x) ∧ op.2.2.1 < xMl M ∧ k op.2.1 ((op.2.2.1, (0, x + cI op.2.2.2.1)) :: lv.filter (yflb 0 op.2.2.1)) st mem
  | 5 => match st with
    | (0, y) :: (0, x) :: st' => ((op.2.2.1 = 9 ∨ op.2.2.1 = 10) → ¬ w32 y = 0) ∧ k op.2.1 lv ((0, ybin op.2.2.1 x y) :: st') mem
    | _ => False
  | 6 => match st with
    | (0, x) :: st' => k op.2.1 lv ((0, (iI x).toInt8.toInt32.toInt) :: st') mem
    | _ => False
  | 8 => match st with
    | (4, y) :: (4, x) :: st' => k op.2.1 lv ((0, ycmp x y) :: st') mem
    | _ => False
  | 9 => match st with
    | v :: st' => ycat v = 1 ∧ k op.2.1 lv (v :: v :: st') mem
    | _ => False
  | 10 => match st with
    | v :: st' => ycat v = 1 ∧ k op.2.1 lv st' mem
    | _ => False
  | 11 => match st with
    | v :: w :: st' => ycat v = 1 ∧ ycat w = 1 ∧ k op.2.1 lv (v :: w :: v :: w :: st') mem
    | _ => False
  | 12 => match st with
    | (0, x) :: st' => (ycp op.2.2.2.1 x 0 → k op.2.2.1 lv st' mem) ∧ (¬ ycp op.2.2.2.1 x 0 → k op.2.1 lv st' mem)
    | _ => False
  | 13 => match st with
    | (0, y) :: (0, x) :: st' => (ycp op.2.2.2.1 x y → k op.2.2.1 lv st' mem) ∧ (¬ ycp op.2.2.2.1 x y → k op.2.1 lv st' mem)
    | _ => False
  | 14 => k op.2.1 lv st mem
  | 15 => match st with
    | (0, x) :: st' => (∀ q ∈ op.2.2.2.2, w32 x = cI q.1 → k q.2 lv st' mem) ∧ ((∀ q ∈ op.2.2.2.2, ¬ w32 x = cI q.1) → k op.2.2.1 lv st' mem) ∧ (∀ q ∈ op.2.2.2.2, q.1 < 4294967296)
    | _ => False
  | 16 => match st with
    | (1, i) :: st' => ∃ fs v, ysh[i.toNat]? = some (.inr (op.2.2.1, fs)) ∧ fs[op.2.2.2.1]? = some v ∧ k op.2.1 lv (yfv v (mem i.toNat op.2.2.2.1) :: st') mem
    | _ => False
  | 17 => match st, op.2.2.2.2 with
    | v :: (1, i) :: st', [q] => ∃ fs w, ysh[i.toNat]? = some (.inr (op.2.2.1, fs)) ∧ fs[op.2.2.2.1]? = some w ∧ yfit q.1 v w ∧ k op.2.1 lv st' (yset mem i.toNat op.2.2.2.1 v.2)
    | _, _ => False
  | 18 => match st with
    | (1, i) :: st' => ∃ t n rs, ysh[i.toNat]? = some (.inl (t, n, rs)) ∧ t < 5 ∧ k op.2.1 lv ((0, (n : Int)) :: st') mem
    | (6, i) :: st' => i.toNat < 3 ∧ k op.2.1 lv ((0, ((xlen.getD i.toNat 0 : Nat) : Int)) :: st') mem
    | _ => False
  | 19 => match st with
    | (0, j) :: (1, i) :: st' => ∃ n rs, ysh[i.toNat]? = some (.inl (op.2.2.1, n, rs)) ∧ 0 ≤ w32 j ∧ w32 j < (n : Int) ∧ k op.2.1 lv ((0, mem i.toNat (w32 j).toNat) :: st') mem
    | _ => False
  | 20 => match st with
    | (0, j) :: (1, i) :: st' => ∃ n rs q, ysh[i.toNat]? = some (.inl (4, n, rs)) ∧ 0 ≤ w32 j ∧ w32 j < (n : Int) ∧ rs[(w32 j).toNat]? = some q ∧ k op.2.1 lv ((1, (q : Int)) :: st') mem
    | _ => False
  | 21 => match st with
    | (0, x) :: (0, j) :: (1, i) :: st' => ∃ n rs, ysh[i.toNat]? = some (.inl (op.2.2.1, n, rs)) ∧ 0 ≤ w32 j ∧ w32 j < (n : Int) ∧ ynok op.2.2.1 x ∧ k op.2.1 lv st' (yset mem i.toNat (w32 j).toNat x)
    | _ => False
  | 26 => match st with
    | (0, n) :: (0, dp) :: (1, dd) :: (0, sp) :: (1, ss) :: st' => ysum st' ≤ 8 ∧ ∃ n0 r0 n1 r1, ysh[ss.toNat]? = some (.inl (0, n0, r0)) ∧ ysh[dd.toNat]? = some (.inl (0, n1, r1)) ∧ 0 ≤ w32 n ∧ 0 ≤ w32 sp ∧ 0 ≤ w32 dp ∧ w32 sp + w32 n ≤ (n0 : Int) ∧ w32 dp + w32 n ≤ (n1 : Int) ∧ k op.2.1 lv st' (ycpy mem ss.toNat (w32 sp).toNat dd.toNat (w32 dp).toNat (w32 n).toNat)
    | _ => False
  | 27 => ycall E d op.2.2.1 0 st mem (fun st' mem' => k op.2.1 lv st' mem')
  | 47 => ycall E d op.2.2.1 0 st mem (fun st' mem' => k op.2.1 lv st' mem')
  | 28 => (match xmt[op.2.2.1]? with
    | some M' => match st.drop (xMn M') with
      | (1, i) :: _ => ∃ fs, ysh[i.toNat]? = some (.inr (op.2.2.2.1, fs))
      | _ => False
    | none => False) ∧ ycall E d op.2.2.1 1 st mem (fun st' mem' => k op.2.1 lv st' mem')
  | 30 => match st with
    | [(0, x)] => (op.2.2.2.1 = 0 ∨ (op.2.2.2.1 = 3 ∧ (w32 x = 0 ∨ w32 x = 1))) ∧ Post (some (0, x)) mem
    | _ => False
  | 31 => match st with
    | [(4, x)] => Post (some (4, x)) mem
    | _ => False
  | 32 => match st with
    | [] => Post none mem
    | _ => False
  | 33 => k op.2.1 lv ((5, (op.2.2.1 : Int)) :: st) mem
  | 34 => k op.2.1 lv ((0, 1) :: st) mem
  | 35 => match st with
    | (5, i) :: st' => i.toNat < 3 ∧ k op.2.1 lv ((if op.2.2.1 = 0 then (6, i) else (0, 0)) :: st') mem
    | _ => False
  | 37 => match st with
    | (0, j) :: (6, i) :: st' => i.toNat < 3 ∧ 0 ≤ w32 j ∧ w32 j < ((xlen.getD i.toNat 0 : Nat) : Int) ∧ k op.2.1 lv ((0, (((xbyt.getD i.toNat []).getD (w32 j).toNat 0 : Nat) : Int)) :: st') mem
    | _ => False
  | 38 => match st with
    | (0, x) :: st' => 0 ≤ x ∧ x < 65536 ∧ k op.2.1 lv ((0, x) :: st') mem
    | _ => False
  | 39 => (match xmt[op.2.2.1]? with
    | some M' => match st.drop (xMn M') with
      | (5, i) :: _ => i.toNat < 3
      | _ => False
    | none => False) ∧ ycall E d op.2.2.1 1 st mem (fun st' mem' => k op.2.1 lv st' mem')
  | 40 => match st with
    | [(0, x)] => 0 ≤ x ∧ x < (if op.2.2.2.1 = 5 then 65536 else 128) ∧ Post (some (0, x)) mem
    | _ => False
  | 41 => k op.2.1 lv ((7, 0) :: st) mem
  | 60 => match st with
    | (4, y) :: (4, x) :: st' => k op.2.1 lv ((4, ylbin op.2.2.1 x y) :: st') mem
    | _ => False
  | 61 => match st with
    | (4, y) :: (4, x) :: st' => ¬ w64 y = 0 ∧ k op.2.1 lv ((4, ylbin op.2.2.1 x y) :: st') mem
    | _ => False
  | 62 => match st with
    | (0, y) :: (4, x) :: st' => k op.2.1 lv ((4, (lI x <<< ((iI y).toInt64 &&& 63)).toInt) :: st') mem
    | _ => False
  | 63 => match st with
    | (0, y) :: (4, x) :: st' => k op.2.1 lv ((4, ((lI x).toUInt64 >>> ((iI y).toInt64.toUInt64 &&& Int64.toUInt64 63)).toInt64.toInt) :: st') mem
    | _ => False
  | 64 => match st with
    | (4, x) :: st' => k op.2.1 lv ((4, -x) :: st') mem
    | _ => False
  | 65 => match st with
    | (0, x) :: st' => k op.2.1 lv ((4, w32 x) :: st') mem
    | _ => False
  | 66 => match st with
    | (4, x) :: st' => k op.2.1 lv ((0, x) :: st') mem
    | _ => False
  | 67 => match st with
    | (0, j) :: (1, i) :: st' => ∃ n rs, ysh[i.toNat]? = some (.inl (2, n, rs)) ∧ 0 ≤ w32 j ∧ w32 j < (n : Int) ∧ k op.2.1 lv ((4, mem i.toNat (w32 j).toNat) :: st') mem
    | _ => False
  | 68 => match st with
    | (4, x) :: (0, j) :: (1, i) :: st' => ∃ n rs, ysh[i.toNat]? = some (.inl (2, n, rs)) ∧ 0 ≤ w32 j ∧ w32 j < (n : Int) ∧ k op.2.1 lv st' (yset mem i.toNat (w32 j).toNat x)
    | _ => False
  | 69 => match st with
    | v :: st' => ycat v = 2 ∧ k op.2.1 lv st' mem
    | _ => False
  | 70 => match st with
    | (0, y) :: (0, x) :: st' => ysum st' ≤ 8 ∧ k op.2.1 lv ((0, if op.2.2.1 = 0 then (if w32 y < w32 x then y else x) else (if w32 x < w32 y then y else x)) :: st') mem
    | _ => False
  | 71 => match st with
    | (4, y) :: (4, x) :: st' => ysum st' ≤ 8 ∧ k op.2.1 lv ((4, if op.2.2.1 = 0 then (if w64 y < w64 x then y else x) else (if w64 y < w64 x then x else y)) :: st') mem
    | _ => False
  | 72 => match st with
    | (4, x) :: st' => ysum st' ≤ 8 ∧ k op.2.1 lv ((4, if 0 < w64 x then x else -x) :: st') mem
    | _ => False
  | _ => False
end
section
section YS
variable {E : yE} {R : Room} {d : Nat} {M : xM} {pc nx : Nat} {lv : yL} {st : List yV} {mem : yMem} {ce sl : Nat} {Post : Option yV → yMem → Prop}
theorem y_T {st0 st1 : List yV} (hT : xT (xMc M) (xMo M) pc nx (st0.map (ydv E)) (st1.map (ydv E))) (h : yG E R M nx lv (st1 ++ st) mem ce sl Post) : yG E R M pc lv (st0 ++ st) mem ce sl Post := by
  intro p e s m args below meth c A Qc hC hQ H locs ls hl hP hS
  have := h p e s m args below meth c A Qc hC hQ H locs ls hl hP hS
  rw [List.map_append] at this ⊢
  exact hT p (yl E) e R s m args below meth c H locs ce sl _ ls _ hC.1.1 this
theorem y_load {k i : Nat} {v : yV} (hk3 : k < 3) (hT : xLd (xMc M) (xMo M) pc nx k i) (hv : ylk lv i = some v) (hk : ykdb k v = true) (h : yG E R M nx lv (v :: st) mem ce sl Post) : yG E R M pc lv st mem ce sl Post := by
  intro p e s m args below meth c A Qc hC hQ H locs ls hl hP hS
  have := h p e s m args below meth c A Qc hC hQ H locs ls hl hP hS
  rw [List.map_cons] at this
  exact hT p (yl E) e R s m args below meth c H locs ce sl _ ls _ hC.1.1 _ (ykk hk3 hk) (hl.2.2 _ (List.mem_map.mpr ⟨(i, v), ylk_mem hv, rfl⟩)) this
theorem y_store {k i : Nat} {v : yV} (hk3 : k < 3) (hT : xSt (xMc M) (xMo M) pc nx k i) (hk : ykdb k v = true) (hi : i + xwd k < xMl M) (h : yG E R M nx ((i, v) :: lv.filter (yflb k i)) st mem ce sl Post) : yG E R M pc lv (v :: st) mem ce sl Post := by
  intro p e s m args below meth c A Qc hC hQ H locs ls hl hP hS
  rw [List.map_cons]
  refine hT p (yl E) e R s m args below meth c H locs ce sl _ ls _ hC.1.1 _ _ _ (ykk hk3 hk) hl hi (fun ls' hl' => ?_)
  rw [yflb_ok] at hl'
  exact h p e s m args below meth c A Qc hC hQ H locs ls' hl' hP hS
theorem y_iinc {i n : Nat} {x : Int} (hT : xIn (xMc M) (xMo M) pc nx i n) (hv : ylk lv i = some (0, x)) (hi : i < xMl M) (h : yG E R M nx ((i, (0, x + cI n)) :: lv.filter (yflb 0 i)) st mem ce sl Post) : yG E R M pc lv st mem ce sl Post := by
  intro p e s m args below meth c A Qc hC hQ H locs ls hl hP hS
  have hm : (i, ydv E (0, x)) ∈ ydL E lv := List.mem_map.mpr ⟨(i, (0, x)), ylk_mem hv, rfl⟩
  obtain ⟨k, hk⟩ := List.getElem?_of_mem hm
  refine hT p (yl E) e R s m args below meth c H locs ce sl _ ls _ hC.1.1 _ k _ (iI x) hl hk hi (fun ls' hl' => ?_)
  have e1 : iI x + nI n = iI (x + cI n) := by rw [← iI_c]; exact (Int32.ofInt_add x (cI n)).symm
  rw [yflb_ok, e1] at hl'
  exact h p e s m args below meth c A Qc hC hQ H locs ls' hl' hP hS
theorem y_fork {k tgt : Nat} {x y : Int} (hT : xB (xMc M) (xMo M) pc nx tgt k) (h1 : ycp k x y → yG E R M tgt lv st mem ce sl Post) (h2 : ¬ ycp k x y → yG E R M nx lv st mem ce sl Post) : yG E R M pc lv ((0, y) :: (0, x) :: st) mem ce sl Post := by
  intro p e s m args below meth c A Qc hC hQ H locs ls hl hP hS
  rw [List.map_cons, List.map_cons]
  refine hT p (yl E) e R s m args below meth c H locs ce sl _ ls _ hC.1.1 (iI x) (iI y) (fun hc => ?_) (fun hc => ?_)
  · exact h1 ((ycp_ok k x y).mp hc) p e s m args below meth c A Qc hC hQ H locs ls hl hP hS
  · exact h2 (fun z => hc ((ycp_ok k x y).mpr z)) p e s m args below meth c A Qc hC hQ H locs ls hl hP hS
theorem y_fork0 {k tgt : Nat} {x : Int} (hT : xB0 (xMc M) (xMo M) pc nx tgt k) (h1 : ycp k x 0 → yG E R M tgt lv st mem ce sl Post) (h2 : ¬ ycp k x 0 → yG E R M nx lv st mem ce sl Post) : yG E R M pc lv ((0, x) :: st) mem ce sl Post := by
  intro p e s m args below meth c A Qc hC hQ H locs ls hl hP hS
  rw [List.map_cons]
  have e0 : nI 0 = iI 0 := by decide
  refine hT p (yl E) e R s m args below meth c H locs ce sl _ ls _ hC.1.1 (iI x) (fun hc => ?_) (fun hc => ?_)
  · rw [e0] at hc
    exact h1 ((ycp_ok k x 0).mp hc) p e s m args below meth c A Qc hC hQ H locs ls hl hP hS
  · rw [e0] at hc
    exact h2 (fun z => hc ((ycp_ok k x 0).mpr z)) p e s m args below meth c A Qc hC hQ H locs ls hl hP hS
theorem w32_c {a : Nat} (h : a < 4294967296) : w32 (cI a) = cI a := by
  apply w32_of
  · unfold cI
    split
    · omega
    · next h2 => rw [Nat.blt_eq] at h2; omega
  · unfold cI
    split
    · next h2 => rw [Nat.blt_eq] at h2; omega
    · omega
theorem y_sw {dflt : Nat} {cs : List (Nat × Nat)} {x : Int} (hT : xSw (xMc M) (xMo M) pc dflt cs) (h1 : ∀ q ∈ cs, w32 x = cI q.1 → yG E R M q.2 lv st mem ce sl Post) (h2 : (∀ q ∈ cs, ¬ w32 x = cI q.1) → yG E R M dflt lv st mem ce sl Post) (h3 : ∀ q ∈ cs, q.1 < 4294967296) : yG E R M pc lv ((0, x) :: st) mem ce sl Post := by
  intro p e s m args below meth c A Qc hC hQ H locs ls hl hP hS
  rw [List.map_cons]
  have key : ∀ q ∈ cs, (iI x = nI q.1 ↔ w32 x = cI q.1) := fun q hq => by
    rw [← iI_c, iI_inj, w32_c (h3 q hq)]
  refine hT p (yl E) e R s m args below meth c H locs ce sl _ ls _ hC.1.1 (iI x) ?_
  by_cases hx : ∃ q ∈ cs, w32 x = cI q.1
  · obtain ⟨q, hq, e1⟩ := hx
    exact Or.inl ⟨q, hq, (key q hq).mpr e1, h1 q hq e1 p e s m args below meth c A Qc hC hQ H locs ls hl hP hS⟩
  · have hn : ∀ q ∈ cs, ¬ w32 x = cI q.1 := fun q hq z => hx ⟨q, hq, z⟩
    exact Or.inr ⟨fun q hq z => hn q hq ((key q hq).mp z), h2 hn p e s m args below meth c A Qc hC hQ H locs ls hl hP hS⟩
theorem y_getf {ci k i : Nat} {fs : List yV} {v : yV} (hT : xGf (xMc M) (xMo M) pc nx ci k) (hK : ysh[i]? = some (.inr (ci, fs))) (hv : fs[k]? = some v) {z : Int} (hz : z.toNat = i) (h : yG E R M nx lv (yfv v (mem i k) :: st) mem ce sl Post) : yG E R M pc lv ((1, z) :: st) mem ce sl Post := by
  intro p e s m args below meth c A Qc hC hQ H locs ls hl hP hS
  have := h p e s m args below meth c A Qc hC hQ H locs ls hl hP hS
  rw [List.map_cons] at this ⊢
  subst hz
  exact hT p (yl E) e R s m args below meth c H locs ce sl _ ls _ hC.1.1 (yD E) (xtys (yda E)) _ z.toNat (yb E + z.toNat) (yfs E 0 fs (mem z.toNat)) _ hC.1.2.2.1 hP (yW_at hK) (by rw [yfs_get, hv, Nat.zero_add]; rfl) this
theorem y_world {f : Nat → Int} {i : Nat} {S : yS} (hK : ysh[i]? = some S) {x : va_E} (hx : x = yce E S f) : (yW E mem).set i (yb E + i, x) = yW E (fun c => if c = 0 + i then f else mem c) := by
  rw [hx]
  exact yW_put hK
theorem y_putf {ci k i : Nat} {fs : List yV} {v w : yV} {ty : FieldType} {fin : Bool} (hT : xPf (xMc M) (xMo M) pc nx ci k ty fin) (hf : fin = true → (xMy M).name = "<init>") (hft : yfit (xtc ty) v w) (hw : fs[k]? = some w) (hK : ysh[i]? = some (.inr (ci, fs))) {z : Int} (hz : z.toNat = i) (h : yG E R M nx lv st (yset mem i k v.2) ce sl Post) : yG E R M pc lv (v :: (1, z) :: st) mem ce sl Post := by
  intro p e s m args below meth c A Qc hC hQ H locs ls hl hP hS
  rw [List.map_cons, List.map_cons]
  subst hz
  have hk : k < (yfs E 0 fs (mem z.toNat)).length := by rw [yfs_len]; exact (List.getElem?_eq_some_iff.mp hw).1
  have f12 : narrow ty (ydv E v) = ydv E v ∧ fits ty (ydv E v) = true ∧ yfv w v.2 = v := by
    obtain ⟨v1, v2⟩ := v
    obtain ⟨w1, w2⟩ := w
    cases ty with
    | int =>
      obtain ⟨h1, h2⟩ := hft
      dsimp only at h1 h2
      subst h1
      subst h2
      exact ⟨rfl, rfl, rfl⟩
    | long =>
      obtain ⟨h1, h2⟩ := hft
      dsimp only at h1 h2
      subst h1
      subst h2
      exact ⟨rfl, rfl, rfl⟩
    | boolean =>
      obtain ⟨h1, h3, h2⟩ := hft
      dsimp only at h1 h2 h3
      subst h1
      subst h2
      show narrow .boolean (.int (iI v2)) = .int (iI v2) ∧ fits .boolean (.int (iI v2)) = true ∧ _
      rcases w32_01 h3 with e | e <;> rw [e]
      · exact ⟨by decide +kernel, by decide +kernel, rfl⟩
      · exact ⟨by decide +kernel, by decide +kernel, rfl⟩
    | _ => exact hft.elim
  refine hT p (yl E) e R s m args below meth c H locs ce sl _ ls _ hC.1.1 (yD E) (xtys (yda E)) _ z.toNat (yb E + z.toNat) A s.heap (yfs E 0 fs (mem z.toNat)) _ hC.1.2.2.1 hP (yW_D hC.2) hS (yW_at hK) (fun q => hC.1.2.2.2.2.2.2.2.1 (hf q)) f12.1 f12.2.1 hk (fun H1 locs1 hP1 _ hS1 z1 => ?_)
  have e1 : (Sum.inr (ci, (yfs E 0 fs (mem z.toNat)).set k (ydv E v)) : va_E) = yce E (.inr (ci, fs)) (fun j => if j = k then v.2 else mem z.toNat j) := by
    show Sum.inr (ci, _) = Sum.inr (ci, yfs E 0 fs _)
    have := yfs_set (E := E) (f := mem z.toNat) (x := v.2) fs 0 k w hw
    rw [f12.2.2, Nat.zero_add] at this
    rw [this]
  rw [y_world hK e1, yset_eq] at hP1
  exact h p e s m args below meth c A Qc hC hQ H1 locs1 ls hl hP1 hS1
theorem yce_arr {t n : Nat} {rs : List Nat} {f : Nat → Int} (ht : t = 0 ∨ t = 1 ∨ t = 3) : yce E (.inl (t, n, rs)) f = .inl (yda E t, n, .inl (fun j => iI (f j))) := by
  rcases ht with rfl | rfl | rfl <;> rfl
theorem yce_any {t n : Nat} {rs : List Nat} {f : Nat → Int} : ∃ z, yce E (.inl (t, n, rs)) f = .inl (yda E t, n, z) := by
  match t with
  | 0 | 1 | 2 | 3 | 4 => exact ⟨_, rfl⟩
  | n + 5 => exact ⟨_, rfl⟩
theorem y_alen {t i n : Nat} {rs : List Nat} (hT : xAl (xMc M) (xMo M) pc nx) (ht : t < 5) (hK : ysh[i]? = some (.inl (t, n, rs))) {z : Int} (hz : z.toNat = i) (h : yG E R M nx lv ((0, (n : Int)) :: st) mem ce sl Post) : yG E R M pc lv ((1, z) :: st) mem ce sl Post := by
  intro p e s m args below meth c A Qc hC hQ H locs ls hl hP hS
  have := h p e s m args below meth c A Qc hC hQ H locs ls hl hP hS
  rw [List.map_cons] at this ⊢
  subst hz
  obtain ⟨y, hy⟩ := yce_any (E := E) (t := t) (n := n) (rs := rs) (f := mem z.toNat)
  have hg := yW_at (E := E) (mem := mem) hK
  rw [hy] at hg
  have e1 : ydv E (0, (n : Int)) = .int (nI n) := by show Value.int (iI _) = _; rw [iI_n]
  rw [e1] at this
  exact hT p (yl E) e R s m args below meth c H locs ce sl _ ls _ hC.1.1 (yD E) (xtys (yda E)) _ z.toNat (yb E + z.toNat) t (yda E t) (n, y) (xty t) hC.1.2.2.1 hP hg (xtys_get ht) this
theorem y_in {j : Int} {n : Nat} (h1 : 0 ≤ w32 j) (h2 : w32 j < (n : Int)) : vp_in (iI j) n ∧ (iI j).toNatClampNeg = (w32 j).toNat := by
  refine ⟨?_, rfl⟩
  rintro (h | h)
  · have : (iI j).toInt < 0 := by simpa using Int32.lt_iff_toInt_lt.mp h
    have h3 : w32 j < 0 := this
    omega
  · have h3 : n ≤ (w32 j).toNat := h
    omega
theorem y_read {t i n : Nat} {rs : List Nat} {j z : Int} (ht : t = 0 ∨ t = 1 ∨ t = 3) (hT : xRd (xMc M) (xMo M) pc nx (xty t)) (hK : ysh[i]? = some (.inl (t, n, rs))) (hz : z.toNat = i) (h1 : 0 ≤ w32 j) (h2 : w32 j < (n : Int)) (h : yG E R M nx lv ((0, mem i (w32 j).toNat) :: st) mem ce sl Post) : yG E R M pc lv ((0, j) :: (1, z) :: st) mem ce sl Post := by
  intro p e s m args below meth c A Qc hC hQ H locs ls hl hP hS
  have := h p e s m args below meth c A Qc hC hQ H locs ls hl hP hS
  rw [List.map_cons] at this
  rw [List.map_cons, List.map_cons]
  subst hz
  have hg := yW_at (E := E) (mem := mem) hK
  rw [yce_arr ht] at hg
  obtain ⟨g1, g2⟩ := y_in h1 h2
  refine hT p (yl E) e R s m args below meth c H locs ce sl _ ls _ hC.1.1 (yD E) (xtys (yda E)) _ z.toNat (yb E + z.toNat) t (yda E t) n _ (iI j) hC.1.2.2.1 hP hg (xtys_get (by omega)) g1 ?_
  rw [g2]
  exact this
theorem y_readr {i n q : Nat} {rs : List Nat} {j z : Int} (hT : xRr (xMc M) (xMo M) pc nx) (hK : ysh[i]? = some (.inl (4, n, rs))) (hz : z.toNat = i) (h1 : 0 ≤ w32 j) (h2 : w32 j < (n : Int)) (hq : rs[(w32 j).toNat]? = some q) (h : yG E R M nx lv ((1, (q : Int)) :: st) mem ce sl Post) : yG E R M pc lv ((0, j) :: (1, z) :: st) mem ce sl Post := by
  intro p e s m args below meth c A Qc hC hQ H locs ls hl hP hS
  have := h p e s m args below meth c A Qc hC hQ H locs ls hl hP hS
  rw [List.map_cons] at this
  rw [List.map_cons, List.map_cons]
  subst hz
  have hg := yW_at (E := E) (mem := mem) hK
  obtain ⟨g1, g2⟩ := y_in h1 h2
  refine hT p (yl E) e R s m args below meth c H locs ce sl _ ls _ hC.1.1 (yD E) (xtys (yda E)) _ z.toNat (yb E + z.toNat) 4 (yda E 4) n (fun j => (rs[j]?).map (fun q => yb E + q)) (iI j) hC.1.2.2.1 hP hg (xtys_get (by omega)) g1 ?_
  rw [g2, hq]
  exact this
theorem y_write {t i n : Nat} {rs : List Nat} {j x z : Int} (ht : t = 0 ∨ t = 1 ∨ t = 3) (hT : xWr (xMc M) (xMo M) pc nx (xty t)) (hK : ysh[i]? = some (.inl (t, n, rs))) (hz : z.toNat = i) (h1 : 0 ≤ w32 j) (h2 : w32 j < (n : Int)) (hx : vp_nar (xty t) (iI x) = iI x) (h : yG E R M nx lv st (yset mem i (w32 j).toNat x) ce sl Post) : yG E R M pc lv ((0, x) :: (0, j) :: (1, z) :: st) mem ce sl Post := by
  intro p e s m args below meth c A Qc hC hQ H locs ls hl hP hS
  rw [List.map_cons, List.map_cons, List.map_cons]
  subst hz
  have hg := yW_at (E := E) (mem := mem) hK
  rw [yce_arr ht] at hg
  obtain ⟨g1, g2⟩ := y_in h1 h2
  refine hT p (yl E) e R s m args below meth c H locs ce sl _ ls _ hC.1.1 (yD E) (xtys (yda E)) _ z.toNat (yb E + z.toNat) A s.heap t (yda E t) n _ (iI j) (iI x) hC.1.2.2.1 hP (yW_D hC.2) hS hg (xtys_get (by omega)) g1 (fun H1 locs1 hP1 _ hS1 z1 => ?_)
  have e1 : (Sum.inl (yda E t, n, Sum.inl (upd (fun j => iI (mem z.toNat j)) (iI j).toNatClampNeg (vp_nar (xty t) (iI x)))) : va_E) = yce E (.inl (t, n, rs)) (fun k => if k = (w32 j).toNat then x else mem z.toNat k) := by
    rw [yce_arr ht, hx, g2]
    congr 4
    funext k
    simp only [upd]
    split <;> rfl
  rw [y_world hK e1, yset_eq] at hP1
  exact h p e s m args below meth c A Qc hC hQ H1 locs1 ls hl hP1 hS1
theorem y_readl {i n : Nat} {rs : List Nat} {j z : Int} (hT : xRl (xMc M) (xMo M) pc nx) (hK : ysh[i]? = some (.inl (2, n, rs))) (hz : z.toNat = i) (h1 : 0 ≤ w32 j) (h2 : w32 j < (n : Int)) (h : yG E R M nx lv ((4, mem i (w32 j).toNat) :: st) mem ce sl Post) : yG E R M pc lv ((0, j) :: (1, z) :: st) mem ce sl Post := by
  intro p e s m args below meth c A Qc hC hQ H locs ls hl hP hS
  have := h p e s m args below meth c A Qc hC hQ H locs ls hl hP hS
  rw [List.map_cons] at this
  rw [List.map_cons, List.map_cons]
  subst hz
  have hg := yW_at (E := E) (mem := mem) hK
  obtain ⟨g1, g2⟩ := y_in h1 h2
  refine hT p (yl E) e R s m args below meth c H locs ce sl _ ls _ hC.1.1 (yD E) (xtys (yda E)) _ z.toNat (yb E + z.toNat) 2 (yda E 2) n (fun j => lI (mem z.toNat j)) (iI j) hC.1.2.2.1 hP hg (xtys_get (by omega)) g1 ?_
  rw [g2]
  exact this
theorem y_writel {i n : Nat} {rs : List Nat} {j x z : Int} (hT : xWl (xMc M) (xMo M) pc nx) (hK : ysh[i]? = some (.inl (2, n, rs))) (hz : z.toNat = i) (h1 : 0 ≤ w32 j) (h2 : w32 j < (n : Int)) (h : yG E R M nx lv st (yset mem i (w32 j).toNat x) ce sl Post) : yG E R M pc lv ((4, x) :: (0, j) :: (1, z) :: st) mem ce sl Post := by
  intro p e s m args below meth c A Qc hC hQ H locs ls hl hP hS
  rw [List.map_cons, List.map_cons, List.map_cons]
  subst hz
  have hg := yW_at (E := E) (mem := mem) hK
  obtain ⟨g1, g2⟩ := y_in h1 h2
  refine hT p (yl E) e R s m args below meth c H locs ce sl _ ls _ hC.1.1 (yD E) (xtys (yda E)) _ z.toNat (yb E + z.toNat) A s.heap 2 (yda E 2) n (fun j => lI (mem z.toNat j)) (iI j) (lI x) hC.1.2.2.1 hP (yW_D hC.2) hS hg (xtys_get (by omega)) g1 (fun H1 locs1 hP1 _ hS1 => ?_)
  have e1 : (Sum.inl (yda E 2, n, Sum.inr (Sum.inl (vp_updL (fun j => lI (mem z.toNat j)) (iI j).toNatClampNeg (lI x)))) : va_E) = yce E (.inl (2, n, rs)) (fun k => if k = (w32 j).toNat then x else mem z.toNat k) := by
    rw [g2]
    show Sum.inl (yda E 2, n, _) = Sum.inl (yda E 2, n, _)
    congr 5
    funext k
    simp only [vp_updL]
    split <;> rfl
  rw [y_world hK e1, yset_eq] at hP1
  exact h p e s m args below meth c A Qc hC hQ H1 locs1 ls hl hP1 hS1
end YS
end
section
section YC
variable {E : yE} {R : Room} {d : Nat} {M : xM} {pc nx : Nat} {lv : yL} {st : List yV} {mem : yMem} {ce sl : Nat} {Post : Option yV → yMem → Prop}
theorem y_nok {t : Nat} {x : Int} (h : ynok t x) : (t = 0 ∨ t = 1 ∨ t = 3) ∧ vp_nar (xty t) (iI x) = iI x := by
  match t, h with
  | 0, h => exact ⟨Or.inl rfl, rfl⟩
  | 1, h =>
    refine ⟨Or.inr (Or.inl rfl), ?_⟩
    obtain ⟨h1, h2⟩ := h
    show vp_nar .byte (iI x) = iI x
    rw [vp_nar_byte]
    apply Int32.toInt_inj.mp
    rw [Int8.toInt_toInt32, Int32.toInt_toInt8]
    exact Int.bmod_eq_of_le (by simp; exact h1) (by simp; exact Int.lt_of_le_of_lt h2 (by decide))
  | 3, h =>
    refine ⟨Or.inr (Or.inr rfl), ?_⟩
    have e : iI x = iI 0 ∨ iI x = iI 1 := by
      rcases h with h | h
      · exact Or.inl (iI_inj.mpr (by rw [h]; decide))
      · exact Or.inr (iI_inj.mpr (by rw [h]; decide))
    show vp_nar .boolean (iI x) = iI x
    rcases e with e | e <;> rw [e] <;> decide +kernel
  | 2, h => exact h.elim
  | n + 4, h => exact h.elim
theorem y_copy {s0 d0 n0 n1 : Nat} {r0 r1 : List Nat} {sp dp n zs zd : Int} (hT : xCp (xMc M) (xMo M) pc nx) (hKs : ysh[s0]? = some (.inl (0, n0, r0))) (hKd : ysh[d0]? = some (.inl (0, n1, r1))) (hzs : zs.toNat = s0) (hzd : zd.toNat = d0) (g0 : 0 ≤ w32 n) (g1 : 0 ≤ w32 sp) (g2 : 0 ≤ w32 dp) (h1 : w32 sp + w32 n ≤ (n0 : Int)) (h2 : w32 dp + w32 n ≤ (n1 : Int)) (hf : 1 ≤ R.frames) (hlo : ysum st + (nativeFrameWords "java/lang/System" "arraycopy" 5 + 11) ≤ R.locals)
    (h : yG E R M nx lv st (ycpy mem s0 (w32 sp).toNat d0 (w32 dp).toNat (w32 n).toNat) ce sl Post) : yG E R M pc lv ((0, n) :: (0, dp) :: (1, zd) :: (0, sp) :: (1, zs) :: st) mem ce sl Post := by
  intro p e s m args below meth c A Qc hC hQ H locs ls hl hP hS
  simp only [List.map_cons]
  subst hzs
  subst hzd
  have hg0 := yW_at (E := E) (mem := mem) hKs
  have hg1 := yW_at (E := E) (mem := mem) hKd
  rw [yce_arr (Or.inl rfl)] at hg0 hg1
  have nn : ∀ z : Int, 0 ≤ w32 z → ¬ iI z < 0 := fun z hz q => by
    have h3 : (iI z).toInt < 0 := by simpa using Int32.lt_iff_toInt_lt.mp q
    have h4 : w32 z < 0 := h3
    omega
  have cl : ∀ z : Int, (iI z).toNatClampNeg = (w32 z).toNat := fun z => rfl
  refine hT p (yl E) e R s m args below meth c H locs ce sl _ ls _ hC.1.1 (yD E) (xtys (yda E)) _ A s.heap zs.toNat zd.toNat (yb E + zs.toNat) (yb E + zd.toNat) 0 (yda E 0) n0 n1 _ _ (iI sp) (iI dp) (iI n) (by rw [hC.1.2.1, hl.1]) hC.1.2.2.1 hP (yW_D hC.2) hS hg0 hg1 rfl (nn sp g1) (nn dp g2) (nn n g0) (by rw [cl, cl]; omega) (by rw [cl, cl]; omega) hf (by rw [ysum_ok]; exact hlo) (fun H1 locs1 hP1 hS1 z1 => ?_)
  rw [cl, cl, cl] at hP1
  have e1 : (Sum.inl (yda E 0, n1, Sum.inl (va_cpy (fun j => iI (mem zs.toNat j)) (fun j => iI (mem zd.toNat j)) (w32 sp).toNat (w32 dp).toNat (w32 n).toNat)) : va_E) = yce E (.inl (0, n1, r1)) (va_cpy (mem zs.toNat) (mem zd.toNat) (w32 sp).toNat (w32 dp).toNat (w32 n).toNat) := by
    rw [yce_arr (Or.inl rfl)]
    congr 4
    funext k
    simp only [va_cpy]
    split <;> rfl
  rw [y_world hKd e1, ycpy_eq] at hP1
  exact h p e s m args below meth c A Qc hC hQ H1 locs1 ls hl hP1 hS1
theorem y_iret {x : Int} {ty : FieldType} (hd : decode (xMc M) pc = .ok (.ireturn, 1)) (hr : xMr M = some ty) (hn : narrow ty (.int (iI x)) = .int (iI x)) (h1 : ce ≤ R.cells) (h2 : sl ≤ R.slots) (h : Post (some (0, x)) mem) : yG E R M pc lv [(0, x)] mem ce sl Post := by
  intro p e s m args below meth c A Qc hC hQ H locs ls hl hP hS
  refine W.widen (k := R.cells) (n := R.slots) h1 h2 ?_
  rw [show [((0, x) : yV)].map (ydv E) = [.int (iI x)] from rfl]
  refine W.zret hC.1.1.1 hC.1.1.2.1 (by rw [hC.1.2.2.2.2.2.1]; exact hr) hn (fun t ht _ => ?_) hS.2.2 hd hC.1.2.2.2.2.2.2.1
  exact hQ _ _ t h (by rw [ht]; exact hP) (hS.F ht)
theorem y_lret {x : Int} (hd : decode (xMc M) pc = .ok (.lreturn, 1)) (hr : xMr M = some .long) (h1 : ce ≤ R.cells) (h2 : sl ≤ R.slots) (h : Post (some (4, x)) mem) : yG E R M pc lv [(4, x)] mem ce sl Post := by
  intro p e s m args below meth c A Qc hC hQ H locs ls hl hP hS
  refine W.widen (k := R.cells) (n := R.slots) h1 h2 ?_
  rw [show [((4, x) : yV)].map (ydv E) = [.long (lI x)] from rfl]
  refine W.lret hC.1.1.1 hC.1.1.2.1 (by rw [hC.1.2.2.2.2.2.1]; exact hr) (fun t ht _ => ?_) hS.2.2 hd hC.1.2.2.2.2.2.2.1
  exact hQ _ _ t h (by rw [ht]; exact hP) (hS.F ht)
theorem y_vret (hd : decode (xMc M) pc = .ok (.return_, 1)) (hr : xMr M = none) (h1 : ce ≤ R.cells) (h2 : sl ≤ R.slots) (h : Post none mem) : yG E R M pc lv [] mem ce sl Post := by
  intro p e s m args below meth c A Qc hC hQ H locs ls hl hP hS
  refine W.widen (k := R.cells) (n := R.slots) h1 h2 ?_
  exact W.vret hC.1.1.1 hC.1.1.2.1 (by rw [hC.1.2.2.2.2.2.1]; exact hr) (fun t ht _ => hQ _ _ t h (by rw [ht]; exact hP) (hS.F ht)) hS.2.2 hd hC.1.2.2.2.2.2.2.1
/-- behind a call -/
theorem y_call {rest : List yV} {Pc : Option yV → yMem → Prop}
    (hrun : ∀ (p : Program) (e : Env) (s : State) (m : MethodId) (args : Array Value) (below : List Frame) (meth : Method) (c : Code) (A : Nat → Prop), yCtx E M p s m args meth c A → ∀ (H : Heap) (locs : List Loc) (ls : Array Slot), lv_has ls (xMl M) (ydL E lv) → va_P (yD E) vwCl (yW E mem) H → va_S A s.heap H locs → va_Run p (yl E) e R s m args below meth c H locs ce sl 0 0 (F0 m pc ls (st.map (ydv E))) (rest.map (ydv E)) (yQp E H.size Pc) (xA (yb E) ysh.length H.size))
    (hall : ∀ r mem', Pc r mem' → yG E R M (pc + 3) lv (yput rest r) mem' ce sl Post) : yG E R M pc lv st mem ce sl Post := by
  intro p e s m args below meth c A Qc hC hQ H locs ls hl hP hS
  intro T hT X
  obtain ⟨v, st₀, t, T', L, h0, X', hL, e1, e2, ⟨r, mem', k1, k2, k3, k6⟩, stp⟩ := hrun p e s m args below meth c A hC H locs ls hl hP hS T hT X
  have ev : v = r.map (ydv E) := by injection k2
  have hsub : ∀ q, xA (yb E) ysh.length H.size q → A q := by
    rintro q (⟨a1, a2⟩ | a1)
    · have := hC.2 (q - yb E) (by omega)
      rwa [show yb E + (q - yb E) = q by omega] at this
    · exact hC.1.2.2.2.1 q (Nat.le_trans hS.1 a1)
  obtain ⟨f1, f2⟩ := k6
  rw [h0] at f1 f2
  have hS2 : va_S A s.heap T'.heap (locs ++ L) := ⟨by rw [e1]; exact Nat.le_trans hS.1 f1, fun q q1 q2 => by
    rw [e1, f2 q (Nat.lt_of_lt_of_le q1 hS.1) (fun z => q2 (hsub q z))]
    exact hS.2.1 q q1 q2, fun q hq => by
    rcases List.mem_append.mp hq with h | h
    · exact hS.2.2 q h
    · exact hsub _ (hL q h)⟩
  have W2 := hall r mem' k1 p e s m args below meth c A Qc hC hQ T'.heap (locs ++ L) ls hl (by rw [e1]; exact k3) hS2
  obtain ⟨t2, a1, b1⟩ := W2 T' rfl X'
  refine ⟨t2, stp t2 ?_, b1⟩
  have es : v.toList ++ rest.map (ydv E) = (yput rest r).map (ydv E) := by
    rw [ev]
    cases r <;> rfl
  rw [es]
  exact a1
theorem yPp_blind {avs : List Value} {sz : Nat} (hE : yEok E) : FrameBlind (va_Pc avs (yPp E mem sz)) := by
  rintro a U g mk ⟨h1, h2, h3, h4, h6⟩
  exact ⟨h1, h2, h3, va_K.moved (u := U) (U := U.calling g mk a) (Vm.Alike.refl U.vm) h4, hE.2.1 U g mk a h6⟩
theorem yPp_at {p : Program} {s : State} {m : MethodId} {args : Array Value} {meth : Method} {c : Code} {A : Nat → Prop} (hC : yCtx E M p s m args meth c A) (hE : yEok E) {H : Heap} {locs : List Loc} (hP : va_P (yD E) vwCl (yW E mem) H) (hS : va_S A s.heap H locs) (U : State) (hU : U.heap = H) (hW : s.WarmedH U.vm) : yPp E mem H.size U := by
  refine ⟨by rw [hU], by rw [hU]; exact hP, va_K.moved hW.alike hC.1.2.2.1, hE.2.2.1 s U hC.1.2.2.2.2.2.2.2.2.1 hW (fun q hq => ?_)⟩
  rw [hU]
  have hb := hC.1.2.2.2.2.2.2.2.2.2
  exact hS.2.1 q (by omega) (fun z => by have := hC.1.2.2.2.2.1 q z; omega)
theorem yP_size {H : Heap} (hP : va_P (yD E) vwCl (yW E mem) H) : yb E + ysh.length ≤ H.size := by
  have h0 : ysh.length = ysh.length - 1 + 1 := by decide +kernel
  have h1 : ∃ S, ysh[ysh.length - 1]? = some S := ⟨ysh[ysh.length - 1]'(by omega), List.getElem?_eq_getElem _⟩
  obtain ⟨S, hS⟩ := h1
  have h2 := (hP _ _ (yW_at (E := E) (mem := mem) hS)).lt
  dsimp only at h2
  omega
theorem y_room {M' : xM} (hm : xMl M' ≤ 45) (hR : d + 1 ≤ R.frames ∧ 64 * d + 64 ≤ R.locals) : (yR d).frames + 1 ≤ R.frames ∧ 8 + (xMl M' + 11) + (yR d).locals ≤ R.locals := by
  simp only [yR]
  omega
theorem y_runS (hE : yEok E) {M' : xM} (hM' : xMok xmt M') (hc : xcS M pc M') (hm : xMl M' ≤ 45) (hR : d + 1 ≤ R.frames ∧ 64 * d + 64 ≤ R.locals) (hcs : ce ≤ R.cells ∧ sl ≤ R.slots) {avs rest : List yV} (hst : st = avs.reverse ++ rest) (hn : avs.length = xMn M') (hrest : ysum rest ≤ 8) {Pc : Option yV → yMem → Prop} (hMet : yCon E d M' avs mem Pc)
    (p : Program) (e : Env) (s : State) (m : MethodId) (args : Array Value) (below : List Frame) (meth : Method) (c : Code) (A : Nat → Prop) (hC : yCtx E M p s m args meth c A) (H : Heap) (locs : List Loc) (ls : Array Slot) (hl : lv_has ls (xMl M) (ydL E lv)) (hP : va_P (yD E) vwCl (yW E mem) H) (hS : va_S A s.heap H locs) : va_Run p (yl E) e R s m args below meth c H locs ce sl 0 0 (F0 m pc ls (st.map (ydv E))) (rest.map (ydv E)) (yQp E H.size Pc) (xA (yb E) ysh.length H.size) := by
  obtain ⟨ix, hd, w1, w2⟩ := hc
  have r1 := y_room hm hR
  have hts := hC.1.1.2.2.2
  exact va_runS (As := avs.map (ydv E)) (n := xMn M') (bytes := xMc M') (maxL := xMl M') (ret := xMr M') ⟨hC.1.1.1, hC.1.1.2.1, hC.1.2.1, hC.1.1.2.2.1, hts⟩ (hMet H.size (yP_size hP)) ⟨callB_of (xMn M') hts (xgt_in' (xWs_in hM')) rfl rfl rfl (hts _ hM'.2.1) (hts _ w1) hM'.2.2.1 r1, hts _ w2⟩ ⟨yPp_blind hE, fun U hU hW => ⟨rfl, yPp_at hC hE hP hS U hU hW⟩⟩ rfl (by rw [List.length_map]; exact hn) hl.1 (by rw [hst, List.map_append, List.map_reverse]) (lv_room (by rw [ysum_ok]; exact hrest)) hd ⟨by omega, by omega⟩
theorem y_runSN (hE : yEok E) {M' : xM} (hM' : xMok xmt M') (hc : xcSN M pc M') (hm : xMl M' ≤ 45) (hR : d + 1 ≤ R.frames ∧ 64 * d + 64 ≤ R.locals) (hcs : ce ≤ R.cells ∧ sl ≤ R.slots) {avs rest : List yV} (hst : st = avs.reverse ++ rest) (hn : avs.length = xMn M') (hrest : ysum rest ≤ 8) {Pc : Option yV → yMem → Prop} (hMet : yCon E d M' avs mem Pc)
    (p : Program) (e : Env) (s : State) (m : MethodId) (args : Array Value) (below : List Frame) (meth : Method) (c : Code) (A : Nat → Prop) (hC : yCtx E M p s m args meth c A) (H : Heap) (locs : List Loc) (ls : Array Slot) (hl : lv_has ls (xMl M) (ydL E lv)) (hP : va_P (yD E) vwCl (yW E mem) H) (hS : va_S A s.heap H locs) : va_Run p (yl E) e R s m args below meth c H locs ce sl 0 0 (F0 m pc ls (st.map (ydv E))) (rest.map (ydv E)) (yQp E H.size Pc) (xA (yb E) ysh.length H.size) := by
  obtain ⟨ix, hd, host, w1, w2⟩ := hc
  have r1 := y_room hm hR
  have hts := hC.1.1.2.2.2
  exact va_runSN (As := avs.map (ydv E)) (n := xMn M') (bytes := xMc M') (maxL := xMl M') (ret := xMr M') (host := host) ⟨hC.1.1.1, hC.1.1.2.1, hC.1.2.1, hC.1.1.2.2.1, hts⟩ (hMet H.size (yP_size hP)) ⟨va_cnB (xMn M') hts (xgt_in' (xWs_in hM')) rfl rfl rfl ((hE.2.2.2 s hC.1.2.2.2.2.2.2.2.2.1).1 _ w1) (hts _ hM'.2.1) hM'.2.2.1 r1, hts _ w2, trivial⟩ ⟨yPp_blind hE, fun U hU hW => ⟨rfl, yPp_at hC hE hP hS U hU hW⟩⟩ rfl (by rw [List.length_map]; exact hn) hl.1 (by rw [hst, List.map_append, List.map_reverse]) (lv_room (by rw [ysum_ok]; exact hrest)) hd ⟨by omega, by omega⟩
theorem y_runV (hE : yEok E) {M' : xM} (hM' : xMok xmt M') (hc : xcV M pc M') (hm : xMl M' ≤ 45) (hR : d + 1 ≤ R.frames ∧ 64 * d + 64 ≤ R.locals) (hcs : ce ≤ R.cells ∧ sl ≤ R.slots) {avs rest : List yV} {z : Int} {ci : Nat} {fs : List yV} {q : vw_C} (hKi : ysh[z.toNat]? = some (.inr (ci, fs))) (hq : vwCl[ci]? = some q) (hqn : q.1 = (xMy M').cls) (hst : st = avs.reverse ++ (1, z) :: rest) (hn : avs.length = xMn M') (hrest : ysum rest ≤ 8) {Pc : Option yV → yMem → Prop} (hMet : yCon E d M' ((1, z) :: avs) mem Pc)
    (p : Program) (e : Env) (s : State) (m : MethodId) (args : Array Value) (below : List Frame) (meth : Method) (c : Code) (A : Nat → Prop) (hC : yCtx E M p s m args meth c A) (H : Heap) (locs : List Loc) (ls : Array Slot) (hl : lv_has ls (xMl M) (ydL E lv)) (hP : va_P (yD E) vwCl (yW E mem) H) (hS : va_S A s.heap H locs) : va_Run p (yl E) e R s m args below meth c H locs ce sl 0 0 (F0 m pc ls (st.map (ydv E))) (rest.map (ydv E)) (yQp E H.size Pc) (xA (yb E) ysh.length H.size) := by
  obtain ⟨ix, hd, w1, w2, w3⟩ := hc
  have r1 := y_room hm hR
  have hts := hC.1.1.2.2.2
  have hrc := va_recv hC.1.2.2.1 hP hq (yW_at hKi)
  rw [hqn] at hrc
  exact va_runV (As := avs.map (ydv E)) (b := yb E + z.toNat) (C := (xMy M').cls) (n := xMn M') (bytes := xMc M') (maxL := xMl M') (ret := xMr M') ⟨hC.1.1.1, hC.1.1.2.1, hC.1.2.1, hC.1.1.2.2.1, hts⟩ (hMet H.size (yP_size hP)) ⟨callB_of (xMn M') hts (xgt_in' (xWs_in hM')) rfl rfl rfl (hts _ hM'.2.1) (hts _ w1) hM'.2.2.1 r1, hts _ w2, hts _ w3⟩ ⟨yPp_blind hE, hrc, fun U hU hW => ⟨rfl, yPp_at hC hE hP hS U hU hW⟩⟩ rfl (by rw [List.length_map]; exact hn) hl.1 (by rw [hst, List.map_append, List.map_reverse]; rfl) (lv_room (by rw [ysum_ok]; exact hrest)) hd ⟨by omega, by omega⟩
theorem y_runVs (hE : yEok E) {M' : xM} (hM' : xMok xmt M') (hc : xcV M pc M') (hm : xMl M' ≤ 45) (hR : d + 1 ≤ R.frames ∧ 64 * d + 64 ≤ R.locals) (hcs : ce ≤ R.cells ∧ sl ≤ R.slots) {avs rest : List yV} {z : Int} (hk : z.toNat < 3) (hcls : (xMy M').cls = "java/lang/String") (hst : st = avs.reverse ++ (5, z) :: rest) (hn : avs.length = xMn M') (hrest : ysum rest ≤ 8) {Pc : Option yV → yMem → Prop} (hMet : yCon E d M' ((5, z) :: avs) mem Pc)
    (p : Program) (e : Env) (s : State) (m : MethodId) (args : Array Value) (below : List Frame) (meth : Method) (c : Code) (A : Nat → Prop) (hC : yCtx E M p s m args meth c A) (H : Heap) (locs : List Loc) (ls : Array Slot) (hl : lv_has ls (xMl M) (ydL E lv)) (hP : va_P (yD E) vwCl (yW E mem) H) (hS : va_S A s.heap H locs) : va_Run p (yl E) e R s m args below meth c H locs ce sl 0 0 (F0 m pc ls (st.map (ydv E))) (rest.map (ydv E)) (yQp E H.size Pc) (xA (yb E) ysh.length H.size) := by
  obtain ⟨ix, hd, w1, w2, w3⟩ := hc
  have r1 := y_room hm hR
  have hts := hC.1.1.2.2.2
  have hrc : ∃ cellB : Cell, H[ysa E z.toNat]? = some cellB ∧ cellB.vm.isStatics = false ∧ s.vm.findClass (xMy M').cls = some cellB.cls := by
    obtain ⟨cell, g1, g2, g3, -⟩ := (((hE.2.2.2 s hC.1.2.2.2.2.2.2.2.2.1).2.2.1 z.toNat hk).1.narrow hC.1.2.2.2.2.1).kept hS.2.1
    exact ⟨cell, g1, g2, by rw [hcls]; exact g3⟩
  exact va_runV (As := avs.map (ydv E)) (b := ysa E z.toNat) (C := (xMy M').cls) (n := xMn M') (bytes := xMc M') (maxL := xMl M') (ret := xMr M') ⟨hC.1.1.1, hC.1.1.2.1, hC.1.2.1, hC.1.1.2.2.1, hts⟩ (hMet H.size (yP_size hP)) ⟨callB_of (xMn M') hts (xgt_in' (xWs_in hM')) rfl rfl rfl (hts _ hM'.2.1) (hts _ w1) hM'.2.2.1 r1, hts _ w2, hts _ w3⟩ ⟨yPp_blind hE, hrc, fun U hU hW => ⟨rfl, yPp_at hC hE hP hS U hU hW⟩⟩ rfl (by rw [List.length_map]; exact hn) hl.1 (by rw [hst, List.map_append, List.map_reverse]; rfl) (lv_room (by rw [ysum_ok]; exact hrest)) hd ⟨by omega, by omega⟩
theorem y_split {n : Nat} {v : yV} {r : List yV} (h : st.drop n = v :: r) (hl : n + 1 ≤ st.length) : st = ((st.take n).reverse).reverse ++ v :: r ∧ st.drop (n + 1) = r ∧ (st.take (n + 1)).reverse = v :: (st.take n).reverse ∧ ((st.take n).reverse).length = n := by
  refine ⟨?_, ?_, ?_, ?_⟩
  · rw [List.reverse_reverse, ← h, List.take_append_drop]
  · rw [← List.drop_drop, h]
    rfl
  · have e : st.take (n + 1) = st.take n ++ [v] := by
      rw [List.take_add, h]
      rfl
    rw [e, List.reverse_append]
    rfl
  · rw [List.length_reverse, List.length_take]
    omega
end YC
end
section
section YM
variable {E : yE} {R : Room} {d : Nat} {M : xM} {pc : Nat} {lv : yL} {st : List yV} {mem : yMem} {ce sl : Nat} {Post : Option yV → yMem → Prop}
theorem y_ld {v : yV} (hs : ∀ (p : Program) (e : Env) (s : State) (m : MethodId) (args : Array Value) (below : List Frame) (meth : Method) (c : Code) (A : Nat → Prop) (Q : State → Prop), yCtx E M p s m args meth c A → ∀ (H : Heap) (locs : List Loc) (ls : Array Slot), va_S A s.heap H locs → W p (yl E) e R s m args below meth c H locs ce sl Q (F0 m d ls ((v :: st).map (ydv E))) → W p (yl E) e R s m args below meth c H locs ce sl Q (F0 m pc ls (st.map (ydv E)))) (h : yG E R M d lv (v :: st) mem ce sl Post) : yG E R M pc lv st mem ce sl Post := by
  intro p e s m args below meth c A Qc hC hQ H locs ls hl hP hS
  exact hs p e s m args below meth c A _ hC H locs ls hS (h p e s m args below meth c A Qc hC hQ H locs ls hl hP hS)
theorem y_callS (hE : yEok E) (hR : d + 1 ≤ R.frames ∧ 64 * d + 64 ≤ R.locals) (hcs : ce ≤ R.cells ∧ sl ≤ R.slots) {mi : Nat} {M' : xM} (hmi : xmt[mi]? = some M') (hc : xcS M pc M' ∨ xcSN M pc M') (h : ycall E d mi 0 st mem (fun st' mem' => yG E R M (pc + 3) lv st' mem' ce sl Post)) : yG E R M pc lv st mem ce sl Post := by
  unfold ycall at h
  rw [hmi] at h
  obtain ⟨h1, h2, h3, h4, h5⟩ := h
  rw [Nat.add_zero] at h1 h2 h3 h5
  have hst : st = ((st.take (xMn M')).reverse).reverse ++ st.drop (xMn M') := by rw [List.reverse_reverse, List.take_append_drop]
  have hlen : ((st.take (xMn M')).reverse).length = xMn M' := by rw [List.length_reverse, List.length_take, Nat.min_eq_left h1]
  rcases hc with hc | hc
  · exact y_call (y_runS hE (xmt_ok mi M' hmi) hc h4 hR hcs hst hlen h2 h5) (fun r mem' z => z)
  · exact y_call (y_runSN hE (xmt_ok mi M' hmi) hc h4 hR hcs hst hlen h2 h5) (fun r mem' z => z)
theorem y_callV (hE : yEok E) (hR : d + 1 ≤ R.frames ∧ 64 * d + 64 ≤ R.locals) (hcs : ce ≤ R.cells ∧ sl ≤ R.slots) {mi ci : Nat} {z : Int} {M' : xM} {r fs : List yV} {q : vw_C} (hmi : xmt[mi]? = some M') (hc : xcV M pc M') (hKi : ysh[z.toNat]? = some (.inr (ci, fs))) (hq : vwCl[ci]? = some q) (hqn : q.1 = (xMy M').cls) (hd : st.drop (xMn M') = (1, z) :: r) (h : ycall E d mi 1 st mem (fun st' mem' => yG E R M (pc + 3) lv st' mem' ce sl Post)) : yG E R M pc lv st mem ce sl Post := by
  unfold ycall at h
  rw [hmi] at h
  obtain ⟨h1, h2, h3, h4, h5⟩ := h
  obtain ⟨s1, s2, s3, s4⟩ := y_split hd h1
  rw [s2] at h2 h5
  rw [s3] at h5
  exact y_call (y_runV hE (xmt_ok mi M' hmi) hc h4 hR hcs hKi hq hqn s1 s4 h2 h5) (fun r mem' z => z)
theorem y_callVs (hE : yEok E) (hR : d + 1 ≤ R.frames ∧ 64 * d + 64 ≤ R.locals) (hcs : ce ≤ R.cells ∧ sl ≤ R.slots) {mi : Nat} {z : Int} {M' : xM} {r : List yV} (hmi : xmt[mi]? = some M') (hc : xcV M pc M') (hk : z.toNat < 3) (hcls : (xMy M').cls = "java/lang/String") (hd : st.drop (xMn M') = (5, z) :: r) (h : ycall E d mi 1 st mem (fun st' mem' => yG E R M (pc + 3) lv st' mem' ce sl Post)) : yG E R M pc lv st mem ce sl Post := by
  unfold ycall at h
  rw [hmi] at h
  obtain ⟨h1, h2, h3, h4, h5⟩ := h
  obtain ⟨s1, s2, s3, s4⟩ := y_split hd h1
  rw [s2] at h2 h5
  rw [s3] at h5
  exact y_call (y_runVs hE (xmt_ok mi M' hmi) hc h4 hR hcs hk hcls s1 s4 h2 h5) (fun r mem' z => z)
theorem y_char {x : Int} (h1 : 0 ≤ x) (h2 : x < 65536) : ((iI x).toUInt32 % 65536).toInt32 = iI x := by
  have e : iI x = nI x.toNat := by rw [← iI_n]; congr 1; omega
  rw [e, pk_char, pk_tn (by omega), Nat.mod_eq_of_lt (by omega)]
theorem y_math {nx : Nat} {st0 st1 : List yV} (hR : d + 1 ≤ R.frames ∧ 64 * d + 64 ≤ R.locals) (hcs : ce ≤ R.cells ∧ sl ≤ R.slots) (hT : xMth (xMc M) (xMo M) pc nx (st0.map (ydv E)) (st1.map (ydv E))) (hs : ysum st ≤ 8) (h : yG E R M nx lv (st1 ++ st) mem ce sl Post) : yG E R M pc lv (st0 ++ st) mem ce sl Post := by
  intro p e s m args below meth c A Qc hC hQ H locs ls hl hP hS
  have := h p e s m args below meth c A Qc hC hQ H locs ls hl hP hS
  rw [List.map_append] at this ⊢
  exact hT p (yl E) e R s m args below meth c H locs ce sl _ ls _ hC.1.1 (by rw [hC.1.2.1, hl.1]) (by omega) (by rw [ysum_ok]; omega) hcs.1 hcs.2 this
theorem y_nfw : nativeFrameWords "java/lang/System" "arraycopy" 5 + 11 ≤ 56 := by decide +kernel
set_option maxHeartbeats 4000000 in
/-- ONE INSTRUCTION is sound -/
theorem yst (hE : yEok E) (hR : d + 1 ≤ R.frames ∧ 64 * d + 64 ≤ R.locals) (hcs : ce ≤ R.cells ∧ sl ≤ R.slots) {op : xOp} (hok : xok xmt M pc op) (h : ystep E R d M op lv st mem Post (fun pc' lv' st' mem' => yG E R M pc' lv' st' mem' ce sl Post)) : yG E R M pc lv st mem ce sl Post := by
  obtain ⟨tg, nx, a, b, cs⟩ := op
  match tg, hok, h with
  | 0, hok, h => exact y_T (st0 := []) (st1 := [(0, cI a)]) (by rw [show ([((0, cI a) : yV)].map (ydv E)) = [.int (iI (cI a))] from rfl, iI_c]; exact hok) h
  | 1, hok, h => exact y_T (st0 := []) (st1 := [(4, cL a)]) (by rw [show ([((4, cL a) : yV)].map (ydv E)) = [.long (lI (cL a))] from rfl, lI_c]; exact hok) h
  | 2, hok, h =>
    obtain ⟨v, h1, h2, h3⟩ := h
    exact y_load hok.1 hok.2 h1 h2 h3
  | 3, hok, h =>
    match st, h with
    | v :: st', h => exact y_store hok.1 hok.2 h.1 h.2.1 h.2.2
  | 4, hok, h =>
    obtain ⟨x, h1, h2, h3⟩ := h
    exact y_iinc hok h1 h2 h3
  | 5, hok, h =>
    match st, h with
    | (0, y) :: (0, x) :: st', h =>
      refine y_T (st0 := [(0, y), (0, x)]) (st1 := [(0, ybin a x y)]) ?_ h.2
      have := hok (iI x) (iI y) (fun q z => h.1 q (by have := congrArg Int32.toInt z; exact this))
      rw [← ybin_ok] at this
      exact this
  | 6, hok, h =>
    match st, h with
    | (0, x) :: st', h =>
      refine y_T (st0 := [(0, x)]) (st1 := [(0, (iI x).toInt8.toInt32.toInt)]) ?_ h
      have := hok (iI x)
      rw [← iI_t (iI x).toInt8.toInt32] at this
      exact this
  | 8, hok, h =>
    match st, h with
    | (4, y) :: (4, x) :: st', h =>
      refine y_T (st0 := [(4, y), (4, x)]) (st1 := [(0, ycmp x y)]) ?_ h
      have := hok (lI x) (lI y)
      rw [← ycmp_ok] at this
      exact this
  | 9, hok, h =>
    match st, h with
    | v :: st', h => exact y_T (st0 := [v]) (st1 := [v, v]) (hok _ (by rw [ycat_ok]; exact h.1)) h.2
  | 10, hok, h =>
    match st, h with
    | v :: st', h => exact y_T (st0 := [v]) (st1 := []) (hok _ (by rw [ycat_ok]; exact h.1)) h.2
  | 11, hok, h =>
    match st, h with
    | v :: w :: st', h => exact y_T (st0 := [v, w]) (st1 := [v, w, v, w]) (hok _ _ (by rw [ycat_ok]; exact h.1) (by rw [ycat_ok]; exact h.2.1)) h.2.2
  | 12, hok, h =>
    match st, h with
    | (0, x) :: st', h => exact y_fork0 hok h.1 h.2
  | 13, hok, h =>
    match st, h with
    | (0, y) :: (0, x) :: st', h => exact y_fork hok h.1 h.2
  | 14, hok, h => exact y_T (st0 := []) (st1 := []) hok h
  | 15, hok, h =>
    match st, h with
    | (0, x) :: st', h => exact y_sw hok h.1 h.2.1 h.2.2
  | 16, hok, h =>
    match st, h with
    | (1, i) :: st', h =>
      obtain ⟨fs, v, h1, h2, h3⟩ := h
      exact y_getf hok h1 h2 rfl h3
  | 17, hok, h =>
    obtain ⟨ty, fin, z, h1, h2, h3⟩ := hok
    dsimp only at h1
    subst h1
    match st, h with
    | v :: (1, i) :: st', h =>
      obtain ⟨fs, w, g1, g2, g3, g4⟩ := h
      exact y_putf h2 h3 g3 g2 g1 rfl g4
  | 18, hok, h =>
    match st, h with
    | (1, i) :: st', h =>
      obtain ⟨t, n, rs, h1, h2, h3⟩ := h
      exact y_alen hok.1 h2 h1 rfl h3
    | (6, i) :: st', h =>
      intro p e s m args below meth c A Qc hC hQ H locs ls hl hP hS
      have := h.2 p e s m args below meth c A Qc hC hQ H locs ls hl hP hS
      rw [List.map_cons] at this ⊢
      rw [show ydv E (0, ((xlen.getD i.toNat 0 : Nat) : Int)) = .int (nI (xlen.getD i.toNat 0)) by show Value.int (iI _) = _; rw [iI_n]] at this
      exact hok.2 p (yl E) e R s m args below meth c H locs ce sl _ ls _ hC.1.1 (yb E) (ysa E) A (hE.2.2.2 s hC.1.2.2.2.2.2.2.2.2.1) hS hC.1.2.2.2.2.1 i.toNat h.1 this
  | 19, hok, h =>
    match st, h with
    | (0, j) :: (1, i) :: st', h =>
      obtain ⟨n, rs, h1, h2, h3, h4⟩ := h
      exact y_read hok.1 hok.2 h1 rfl h2 h3 h4
  | 20, hok, h =>
    match st, h with
    | (0, j) :: (1, i) :: st', h =>
      obtain ⟨n, rs, q, h1, h2, h3, h4, h5⟩ := h
      exact y_readr hok h1 rfl h2 h3 h4 h5
  | 21, hok, h =>
    match st, h with
    | (0, x) :: (0, j) :: (1, i) :: st', h =>
      obtain ⟨n, rs, h1, h2, h3, h4, h5⟩ := h
      obtain ⟨g1, g2⟩ := y_nok h4
      exact y_write g1 hok h1 rfl h2 h3 g2 h5
  | 26, hok, h =>
    match st, h with
    | (0, n) :: (0, dp) :: (1, dd) :: (0, sp) :: (1, ss) :: st', h =>
      obtain ⟨h0, n0, r0, n1, r1, h1, h2, h3, h4, h5, h6, h7, h8⟩ := h
      have := y_nfw
      exact y_copy hok h1 h2 rfl rfl h3 h4 h5 h6 h7 (by omega) (by omega) h8
  | 27, hok, h =>
    obtain ⟨e1, M', hmi, hc⟩ := hok
    dsimp only at e1 hmi
    subst e1
    exact y_callS hE hR hcs hmi (Or.inl hc) h
  | 47, hok, h =>
    obtain ⟨e1, M', hmi, hc⟩ := hok
    dsimp only at e1 hmi
    subst e1
    exact y_callS hE hR hcs hmi (Or.inr hc) h
  | 28, hok, h =>
    obtain ⟨e1, M', hmi, hc, q, hq, hqn⟩ := hok
    dsimp only at e1 hmi hq
    subst e1
    obtain ⟨g1, g2⟩ := h
    dsimp only at g1 g2
    rw [hmi] at g1
    dsimp only at g1
    split at g1
    · next i r hd =>
      obtain ⟨fs, g3⟩ := g1
      exact y_callV hE hR hcs hmi hc g3 hq hqn hd g2
    · exact g1.elim
  | 30, hok, h =>
    match st, h with
    | [(0, x)], h =>
      obtain ⟨hd, ty, h1, h2, h3⟩ := hok
      dsimp only at h2
      refine y_iret hd h1 ?_ hcs.1 hcs.2 h.2
      rcases h3 with rfl | rfl
      · rfl
      · rcases h.1 with h4 | ⟨h4, h5⟩
        · dsimp only at h4
          rw [h4] at h2
          exact absurd h2 (by decide)
        · rcases w32_01 h5 with e | e <;> rw [e] <;> decide +kernel
  | 31, hok, h =>
    match st, h with
    | [(4, x)], h => exact y_lret hok.1 hok.2 hcs.1 hcs.2 h
  | 32, hok, h =>
    match st, h with
    | [], h => exact y_vret hok.1 hok.2 hcs.1 hcs.2 h
  | 33, hok, h => exact y_ld (d := nx) (v := (5, (a : Int))) (fun p e s m args below meth c A Q hC H locs ls hS k => hok p (yl E) e R s m args below meth c H locs ce sl Q ls _ hC.1.1 (yb E) (ysa E) (hE.2.2.2 s hC.1.2.2.2.2.2.2.2.2.1) k) h
  | 34, hok, h =>
    refine y_ld (d := nx) (v := (0, 1)) (fun p e s m args below meth c A Q hC H locs ls hS k => ?_) h
    rw [List.map_cons, show ydv E (0, 1) = .int (nI 1) from congrArg Value.int (by decide)] at k
    exact hok p (yl E) e R s m args below meth c H locs ce sl Q ls _ hC.1.1 (yb E) (ysa E) A (hE.2.2.2 s hC.1.2.2.2.2.2.2.2.2.1) hS hC.1.2.2.2.2.1 k
  | 35, hok, h =>
    match st, h with
    | (5, i) :: st', h =>
      intro p e s m args below meth c A Qc hC hQ H locs ls hl hP hS
      have := h.2 p e s m args below meth c A Qc hC hQ H locs ls hl hP hS
      rw [List.map_cons] at this ⊢
      refine hok p (yl E) e R s m args below meth c H locs ce sl _ ls _ hC.1.1 (yb E) (ysa E) A (hE.2.2.2 s hC.1.2.2.2.2.2.2.2.2.1) hS hC.1.2.2.2.2.1 i.toNat h.1 ?_
      dsimp only at this ⊢
      by_cases ha : a = 0
      · rw [if_pos ha] at this ⊢
        exact this
      · rw [if_neg ha] at this ⊢
        exact this
  | 37, hok, h =>
    match st, h with
    | (0, j) :: (6, i) :: st', h =>
      obtain ⟨h1, h2, h3, h4⟩ := h
      intro p e s m args below meth c A Qc hC hQ H locs ls hl hP hS
      have := h4 p e s m args below meth c A Qc hC hQ H locs ls hl hP hS
      rw [List.map_cons] at this
      rw [List.map_cons, List.map_cons]
      have e1 : ydv E (0, j) = .int (nI (w32 j).toNat) := by
        show Value.int (iI j) = _
        rw [← iI_n, Int.toNat_of_nonneg h2, iI_w]
      have e2 : ydv E (0, (((xbyt.getD i.toNat []).getD (w32 j).toNat 0 : Nat) : Int)) = .int (nI ((xbyt.getD i.toNat []).getD (w32 j).toNat 0)) := by show Value.int (iI _) = _; rw [iI_n]
      rw [e2] at this
      rw [e1]
      have := w32_hi j
      exact hok p (yl E) e R s m args below meth c H locs ce sl _ ls _ hC.1.1 (yb E) (ysa E) A (hE.2.2.2 s hC.1.2.2.2.2.2.2.2.2.1) hS hC.1.2.2.2.2.1 i.toNat (w32 j).toNat h1 (by omega) (by omega) ‹_›
  | 38, hok, h =>
    match st, h with
    | (0, x) :: st', h =>
      refine y_T (st0 := [(0, x)]) (st1 := [(0, x)]) ?_ h.2.2
      have := hok (iI x)
      rw [y_char h.1 h.2.1] at this
      exact this
  | 39, hok, h =>
    obtain ⟨e1, M', hmi, hc, hq⟩ := hok
    dsimp only at e1 hmi
    subst e1
    obtain ⟨g1, g2⟩ := h
    dsimp only at g1 g2
    rw [hmi] at g1
    dsimp only at g1
    split at g1
    · next i r hd => exact y_callVs hE hR hcs hmi hc g1 hq hd g2
    · exact g1.elim
  | 40, hok, h =>
    match st, h with
    | [(0, x)], h =>
      obtain ⟨hd, ty, h1, h2⟩ := hok
      obtain ⟨g1, g2, g3⟩ := h
      dsimp only at h2 g2
      have e : iI x = nI x.toNat := by rw [← iI_n]; congr 1; omega
      rcases h2 with ⟨e1, e2⟩ | ⟨e1, e2⟩
      · rw [if_pos e1] at g2
        exact y_iret hd h1 (by rw [e2, e]; exact (pk_charN (by omega)).1) hcs.1 hcs.2 g3
      · rw [if_neg (by omega)] at g2
        exact y_iret hd h1 (by rw [e2, e]; exact xnarB (by omega)) hcs.1 hcs.2 g3
  | 41, hok, h => exact y_ld (d := nx) (v := (7, 0)) (fun p e s m args below meth c A Q hC H locs ls hS k => hok p (yl E) e R s m args below meth c H locs ce sl Q ls _ hC.1.1 (yb E) (ysa E) A (hE.2.2.2 s hC.1.2.2.2.2.2.2.2.2.1) hS hC.1.2.2.2.2.1 k) h
  | 60, hok, h =>
    match st, h with
    | (4, y) :: (4, x) :: st', h =>
      refine y_T (st0 := [(4, y), (4, x)]) (st1 := [(4, ylbin a x y)]) ?_ h
      have := hok (lI x) (lI y)
      rw [← ylbin_ok] at this
      exact this
  | 61, hok, h =>
    match st, h with
    | (4, y) :: (4, x) :: st', h =>
      refine y_T (st0 := [(4, y), (4, x)]) (st1 := [(4, ylbin a x y)]) ?_ h.2
      have := hok (lI x) (lI y) (fun z => h.1 (by have := congrArg Int64.toInt z; exact this))
      rw [← ylbin_ok] at this
      exact this
  | 62, hok, h =>
    match st, h with
    | (0, y) :: (4, x) :: st', h =>
      refine y_T (st0 := [(0, y), (4, x)]) (st1 := [(4, (lI x <<< ((iI y).toInt64 &&& 63)).toInt)]) ?_ h
      have := hok (lI x) (iI y)
      rw [← lI_t (lI x <<< ((iI y).toInt64 &&& 63))] at this
      exact this
  | 63, hok, h =>
    match st, h with
    | (0, y) :: (4, x) :: st', h =>
      refine y_T (st0 := [(0, y), (4, x)]) (st1 := [(4, ((lI x).toUInt64 >>> ((iI y).toInt64.toUInt64 &&& Int64.toUInt64 63)).toInt64.toInt)]) ?_ h
      have := hok (lI x) (iI y)
      rw [← lI_t ((lI x).toUInt64 >>> ((iI y).toInt64.toUInt64 &&& Int64.toUInt64 63)).toInt64] at this
      exact this
  | 64, hok, h =>
    match st, h with
    | (4, x) :: st', h =>
      refine y_T (st0 := [(4, x)]) (st1 := [(4, -x)]) ?_ h
      have := hok (lI x)
      rw [show -lI x = lI (-x) from (Int64.ofInt_neg x).symm] at this
      exact this
  | 65, hok, h =>
    match st, h with
    | (0, x) :: st', h =>
      refine y_T (st0 := [(0, x)]) (st1 := [(4, w32 x)]) ?_ h
      have := hok (iI x)
      have e : (iI x).toInt64 = lI (w32 x) := by
        apply Int64.toInt_inj.mp
        rw [Int32.toInt_toInt64]
        have b1 := w32_lo x
        have b2 := w32_hi x
        exact (w64_of (x := w32 x) (by omega) (by omega)).symm
      rw [e] at this
      exact this
  | 66, hok, h =>
    match st, h with
    | (4, x) :: st', h =>
      refine y_T (st0 := [(4, x)]) (st1 := [(0, x)]) ?_ h
      have := hok (lI x)
      rw [show (lI x).toInt32 = iI x from Int64.toInt32_ofInt] at this
      exact this
  | 67, hok, h =>
    match st, h with
    | (0, j) :: (1, i) :: st', h =>
      obtain ⟨n, rs, h1, h2, h3, h4⟩ := h
      exact y_readl hok h1 rfl h2 h3 h4
  | 68, hok, h =>
    match st, h with
    | (4, x) :: (0, j) :: (1, i) :: st', h =>
      obtain ⟨n, rs, h1, h2, h3, h4⟩ := h
      exact y_writel hok h1 rfl h2 h3 h4
  | 69, hok, h =>
    match st, h with
    | v :: st', h => exact y_T (st0 := [v]) (st1 := []) (hok _ (by rw [ycat_ok]; exact h.1)) h.2
  | 70, hok, h =>
    match st, h with
    | (0, y) :: (0, x) :: st', h =>
      refine y_math (st0 := [(0, y), (0, x)]) (st1 := [(0, if a = 0 then (if w32 y < w32 x then y else x) else (if w32 x < w32 y then y else x))]) hR hcs ?_ h.1 h.2
      have := hok (iI x) (iI y)
      have e1 : (iI y < iI x) ↔ w32 y < w32 x := Int32.lt_iff_toInt_lt
      have e2 : (iI x < iI y) ↔ w32 x < w32 y := Int32.lt_iff_toInt_lt
      have e3 : (if a = 0 then (if iI y < iI x then iI y else iI x) else (if iI x < iI y then iI y else iI x)) = iI (if a = 0 then (if w32 y < w32 x then y else x) else (if w32 x < w32 y then y else x)) := by
        simp only [e1, e2]
        split <;> split <;> rfl
      dsimp only at this
      rw [e3] at this
      exact this
  | 71, hok, h =>
    match st, h with
    | (4, y) :: (4, x) :: st', h =>
      refine y_math (st0 := [(4, y), (4, x)]) (st1 := [(4, if a = 0 then (if w64 y < w64 x then y else x) else (if w64 y < w64 x then x else y))]) hR hcs ?_ h.1 h.2
      have := hok (lI x) (lI y)
      have e1 : (lI y < lI x) ↔ w64 y < w64 x := Int64.lt_iff_toInt_lt
      have e3 : (if a = 0 then (if lI y < lI x then lI y else lI x) else (if lI y < lI x then lI x else lI y)) = lI (if a = 0 then (if w64 y < w64 x then y else x) else (if w64 y < w64 x then x else y)) := by
        simp only [e1]
        split <;> split <;> rfl
      dsimp only at this
      rw [e3] at this
      exact this
  | 72, hok, h =>
    match st, h with
    | (4, x) :: st', h =>
      refine y_math (st0 := [(4, x)]) (st1 := [(4, if 0 < w64 x then x else -x)]) hR hcs ?_ h.1 h.2
      have := hok (lI x)
      have e1 : (0 < lI x) ↔ 0 < w64 x := by
        rw [Int64.lt_iff_toInt_lt]
        simp [w64]
      have e3 : (if 0 < lI x then lI x else -lI x) = lI (if 0 < w64 x then x else -x) := by
        simp only [e1]
        split
        · rfl
        · exact (Int64.ofInt_neg x).symm
      rw [e3] at this
      exact this
end YM
end
section
/-- what every slot of the memory holds: of each cell the interval of all its slots, and of its first ones -/
def ygam : List ((Int × Int) × List (Int × Int)) := [((-2147483648, 2147483647), [(-2147483648, 2147483647), (-2147483648, 2147483647), (-2147483648, 2147483647), (-2147483648, 2147483647), (-2147483648, 2147483647), (-2147483648, 2147483647), (-2147483648, 2147483647), (-2147483648, 2147483647), (-2147483648, 2147483647), (-2147483648, 2147483647), (-2147483648, 2147483647), (0, 800), (-2147483648, 2147483647), (-2147483648, 2147483647), (0, 1)]), ((-128, 127), []), ((-2147483648, 2147483647), []), ((-2147483648, 2147483647), [(-2147483648, 2147483647), (0, 3)]), ((-2147483648, 2147483647), []), ((-2147483648, 2147483647), [(-2147483648, 2147483647), (0, 6)]), ((-2147483648, 2147483647), []), ((-2147483648, 2147483647), [(-2147483648, 2147483647), (0, 4)]), ((-2147483648, 2147483647), []), ((-2147483648, 2147483647), [(-2147483648, 2147483647), (0, 3)]), ((-2147483648, 2147483647), []), ((-2147483648, 2147483647), []), ((-2147483648, 2147483647), []), ((-2147483648, 2147483647), []), ((-2147483648, 2147483647), []), ((-1, 2), []), ((-2147483648, 2147483647), []), ((-2147483648, 2147483647), []), ((0, 3), []), ((0, 8), []), ((-2147483648, 2147483647), []), ((-2147483648, 2147483647), []), ((-2147483648, 2147483647), [(-2147483648, 2147483647), (-2147483648, 2147483647), (-2147483648, 2147483647), (-2147483648, 2147483647), (0, 64), (-2147483648, 2147483647), (0, 72), (0, 8), (0, 64), (0, 1)]), ((-2147483648, 2147483647), []), ((-2147483648, 2147483647), []), ((0, 64), []), ((0, 64), []), ((-2147483648, 2147483647), []), ((-2147483648, 2147483647), []), ((-2147483648, 2147483647), [(-2147483648, 2147483647), (0, 3)]), ((-2147483648, 2147483647), []), ((-2147483648, 2147483647), [(-2147483648, 2147483647), (0, 6)]), ((-2147483648, 2147483647), []), ((-2147483648, 2147483647), [(-2147483648, 2147483647), (0, 4)]), ((-2147483648, 2147483647), []), ((-2147483648, 2147483647), [(-2147483648, 2147483647), (0, 3)]), ((-2147483648, 2147483647), []), ((-2147483648, 2147483647), []), ((-2147483648, 2147483647), []), ((-2147483648, 2147483647), []), ((-2147483648, 2147483647), []), ((-1, 2), []), ((-2147483648, 2147483647), []), ((-2147483648, 2147483647), []), ((0, 3), []), ((0, 8), []), ((-2147483648, 2147483647), []), ((-2147483648, 2147483647), []), ((-2147483648, 2147483647), [(-2147483648, 2147483647), (-2147483648, 2147483647), (-2147483648, 2147483647), (-2147483648, 2147483647), (0, 64), (-2147483648, 2147483647), (0, 72), (0, 8), (0, 64), (0, 1)]), ((-2147483648, 2147483647), []), ((-2147483648, 2147483647), []), ((0, 64), []), ((0, 64), []), ((-2147483648, 2147483647), []), ((-2147483648, 2147483647), [(-2147483648, 2147483647), (-2147483648, 2147483647), (0, 1), (0, 1)]), ((-2147483648, 2147483647), [(-2147483648, 2147483647), (-2147483648, 2147483647), (0, 800), (0, 801), (-2147483648, 2147483647), (-2147483648, 2147483647), (-2147483648, 2147483647), (-2147483648, 2147483647), (-2147483648, 2147483647)]), ((-2147483648, 2147483647), []), ((-2147483648, 2147483647), [(-2147483648, 2147483647), (-2147483648, 2147483647), (-2147483648, 2147483647), (-2147483648, 2147483647), (-2147483648, 2147483647), (-2147483648, 2147483647), (0, 12), (-2147483648, 2147483647), (-2147483648, 2147483647), (-2147483648, 2147483647), (-2147483648, 2147483647), (-1, 24), (-2147483648, 2147483647)]), ((-2147483648, 2147483647), []), ((-2147483648, 2147483647), []), ((-2147483648, 2147483647), []), ((-1, 5), []), ((0, 11), []), ((-2147483648, 2147483647), []), ((-2147483648, 2147483647), [(-2147483648, 2147483647), (-2147483648, 2147483647), (-2147483648, 2147483647), (-2147483648, 2147483647), (-2147483648, 2147483647), (-2147483648, 2147483647), (0, 12), (-2147483648, 2147483647), (-2147483648, 2147483647), (-2147483648, 2147483647), (-2147483648, 2147483647), (-1, 24), (-2147483648, 2147483647)]), ((-2147483648, 2147483647), []), ((-2147483648, 2147483647), []), ((-2147483648, 2147483647), []), ((-1, 5), []), ((0, 11), []), ((-2147483648, 2147483647), []), ((-2147483648, 2147483647), [(-2147483648, 2147483647), (0, 24)]), ((-2147483648, 2147483647), []), ((-2147483648, 2147483647), [(-2147483648, 2147483647), (-2147483648, 2147483647), (-2147483648, 2147483647), (-2147483648, 2147483647), (0, 64), (0, 1)]), ((-2147483648, 2147483647), []), ((-2147483648, 2147483647), []), ((-2147483648, 2147483647), [(-2147483648, 2147483647), (-2147483648, 2147483647), (-2147483648, 2147483647), (-2147483648, 2147483647), (-2147483648, 2147483647), (-2147483648, 2147483647), (-2147483648, 2147483647), (-2147483648, 2147483647), (0, 24), (-2147483648, 2147483647), (0, 1)]), ((0, 8), []), ((-2147483648, 2147483647), []), ((-2147483648, 2147483647), []), ((-2147483648, 2147483647), []), ((-2147483648, 2147483647), []), ((-2147483648, 2147483647), []), ((-2147483648, 2147483647), []), ((-2147483648, 2147483647), []), ((-2147483648, 2147483647), []), ((-2147483648, 2147483647), []), ((-2147483648, 2147483647), []), ((-1, 2), []), ((-2147483648, 2147483647), []), ((-2147483648, 2147483647), []), ((-2147483648, 2147483647), [(-2147483648, 2147483647), (-2147483648, 2147483647), (-2147483648, 2147483647), (-2147483648, 2147483647), (-2147483648, 2147483647), (-2147483648, 2147483647), (0, 4), (-2147483648, 2147483647), (-2147483648, 2147483647), (-2147483648, 2147483647)]), ((-2147483648, 2147483647), []), ((-2147483648, 2147483647), []), ((-2147483648, 2147483647), []), ((-2147483648, 2147483647), [(-2147483648, 2147483647), (-2147483648, 2147483647), (0, 800), (-2147483648, 2147483647), (-2147483648, 2147483647), (-2147483648, 2147483647), (-2147483648, 2147483647), (-2147483648, 2147483647), (-2147483648, 2147483647), (-2147483648, 2147483647), (-2147483648, 2147483647), (-2147483648, 2147483647), (-2147483648, 2147483647), (-2147483648, 2147483647), (-2147483648, 2147483647), (-2147483648, 2147483647), (-2147483648, 2147483647), (-2147483648, 2147483647), (-2147483648, 2147483647), (-2147483648, 2147483647), (-2147483648, 2147483647), (-2147483648, 2147483647), (-2147483648, 2147483647), (-2147483648, 2147483647), (-2147483648, 2147483647), (-2147483648, 2147483647), (0, 800), (0, 802), (0, 802), (-2147483648, 2147483647), (-2147483648, 2147483647), (-2147483648, 2147483647), (-2147483648, 2147483647), (-2147483648, 2147483647), (-2147483648, 2147483647), (0, 8), (0, 64), (-2147483648, 2147483647), (-2147483648, 2147483647), (-2147483648, 2147483647), (-2147483648, 2147483647), (-2147483648, 2147483647), (-2147483648, 2147483647), (-2147483648, 2147483647), (-2147483648, 2147483647), (-2147483648, 2147483647), (-2147483648, 2147483647), (-2147483648, 2147483647), (-2147483648, 2147483647), (0, 1), (-2147483648, 2147483647), (-2147483648, 2147483647), (0, 64), (-2147483648, 2147483647), (-2147483648, 2147483647), (-2147483648, 2147483647), (-2147483648, 2147483647), (-2147483648, 2147483647), (-2147483648, 2147483647), (-1, 2), (-2147483648, 2147483647), (0, 24), (-1, 24), (-2147483648, 2147483647), (-2147483648, 2147483647), (-2147483648, 2147483647), (-2147483648, 2147483647), (-2147483648, 2147483647), (-2147483648, 2147483647)]), ((0, 255), []), ((-2147483648, 2147483647), [(0, 3), (0, 6), (0, 4), (0, 3), (-2147483648, 2147483647), (-2147483648, 2147483647), (0, 64), (0, 3), (0, 6), (0, 4), (0, 3), (-2147483648, 2147483647), (-2147483648, 2147483647), (0, 64)]), ((-2147483648, 2147483647), []), ((-2147483648, 2147483647), []), ((-2147483648, 2147483647), []), ((-2147483648, 2147483647), []), ((-2147483648, 2147483647), []), ((-2147483648, 2147483647), []), ((0, 1), []), ((-1, 2), []), ((0, 99), []), ((-2147483648, 2147483647), []), ((-2147483648, 2147483647), []), ((0, 3), []), ((0, 8), []), ((-2147483648, 2147483647), []), ((-2147483648, 2147483647), []), ((-2147483648, 2147483647), []), ((0, 64), []), ((0, 64), []), ((-2147483648, 2147483647), []), ((-2147483648, 2147483647), []), ((-2147483648, 2147483647), []), ((-2147483648, 2147483647), []), ((-2147483648, 2147483647), []), ((-2147483648, 2147483647), []), ((-2147483648, 2147483647), []), ((-2147483648, 2147483647), []), ((-2147483648, 2147483647), []), ((-2147483648, 2147483647), []), ((-1, 5), []), ((0, 12), []), ((0, 11), []), ((-2147483648, 2147483647), []), ((-2147483648, 2147483647), []), ((-2147483648, 2147483647), []), ((-2147483648, 2147483647), []), ((-2147483648, 2147483647), []), ((0, 999), []), ((0, 8), []), ((0, 6), []), ((-2147483648, 2147483647), []), ((-2147483648, 2147483647), []), ((-1, 23), []), ((0, 1), []), ((0, 5), []), ((-2147483648, 2147483647), []), ((-2147483648, 2147483647), [])]
end
